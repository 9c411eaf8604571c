section
-- ===== PART A: goes FIRST, ahead of the names: the tables' words, and 'selects' of the private methods out of them =====
/-- a private method of a class that the tables say can be made, by its rows of tables_1 -/
def lw_okq (q : MethodName × Nat) : Prop := (q.1.cls ≠ "java/lang/invoke/MethodHandle" ∧ q.1.cls ≠ "java/lang/invoke/VarHandle") ∧ Cond.instantiable q.1.cls q.2 ∈ tables_1 ∧ Cond.privateMethod q.1 ∈ tables_1 ∧ Cond.instanceMethod q.1 ∈ tables_1
theorem lw_p0 : lw_okq (⟨"GlassTank$Sharer", "giveLeft", "(II[I)V"⟩, 2) := ⟨⟨by decide +kernel, by decide +kernel⟩, List.mem_of_getElem? (i := 25) (by decide +kernel), List.mem_of_getElem? (i := 406) (by decide +kernel), List.mem_of_getElem? (i := 407) (by decide +kernel)⟩
theorem lw_p1 : lw_okq (⟨"GlassTank$MixSearch", "costOfTrial", "()I"⟩, 5) := ⟨⟨by decide +kernel, by decide +kernel⟩, List.mem_of_getElem? (i := 120) (by decide +kernel), List.mem_of_getElem? (i := 483) (by decide +kernel), List.mem_of_getElem? (i := 484) (by decide +kernel)⟩
theorem lw_p2 : lw_okq (⟨"GlassTank$MixSearch", "keepTrial", "(I)V"⟩, 5) := ⟨⟨by decide +kernel, by decide +kernel⟩, List.mem_of_getElem? (i := 120) (by decide +kernel), List.mem_of_getElem? (i := 488) (by decide +kernel), List.mem_of_getElem? (i := 489) (by decide +kernel)⟩
theorem lw_p3 : lw_okq (⟨"GlassTank$MixSearch", "advance", "()Z"⟩, 5) := ⟨⟨by decide +kernel, by decide +kernel⟩, List.mem_of_getElem? (i := 120) (by decide +kernel), List.mem_of_getElem? (i := 492) (by decide +kernel), List.mem_of_getElem? (i := 493) (by decide +kernel)⟩
theorem lw_p4 : lw_okq (⟨"GlassTank", "canRun", "()Z"⟩, 11) := ⟨⟨by decide +kernel, by decide +kernel⟩, List.mem_of_getElem? (i := 17) (by decide +kernel), List.mem_of_getElem? (i := 504) (by decide +kernel), List.mem_of_getElem? (i := 505) (by decide +kernel)⟩
theorem lw_p5 : lw_okq (⟨"GlassTank", "passHour", "()V"⟩, 11) := ⟨⟨by decide +kernel, by decide +kernel⟩, List.mem_of_getElem? (i := 17) (by decide +kernel), List.mem_of_getElem? (i := 518) (by decide +kernel), List.mem_of_getElem? (i := 519) (by decide +kernel)⟩
theorem lw_p6 : lw_okq (⟨"GlassTank$Tank", "move", "(II)V"⟩, 8) := ⟨⟨by decide +kernel, by decide +kernel⟩, List.mem_of_getElem? (i := 144) (by decide +kernel), List.mem_of_getElem? (i := 533) (by decide +kernel), List.mem_of_getElem? (i := 534) (by decide +kernel)⟩
theorem lw_p7 : lw_okq (⟨"GlassTank$Forecast", "firstHourWithDose", "(III)I"⟩, 6) := ⟨⟨by decide +kernel, by decide +kernel⟩, List.mem_of_getElem? (i := 276) (by decide +kernel), List.mem_of_getElem? (i := 585) (by decide +kernel), List.mem_of_getElem? (i := 586) (by decide +kernel)⟩
theorem lw_p8 : lw_okq (⟨"GlassTank$Forecast", "passHour", "(LGlassTank$Charge;)V"⟩, 6) := ⟨⟨by decide +kernel, by decide +kernel⟩, List.mem_of_getElem? (i := 276) (by decide +kernel), List.mem_of_getElem? (i := 593) (by decide +kernel), List.mem_of_getElem? (i := 594) (by decide +kernel)⟩
theorem lw_p9 : lw_okq (⟨"GlassTank$Ring", "gather", "(I)I"⟩, 4) := ⟨⟨by decide +kernel, by decide +kernel⟩, List.mem_of_getElem? (i := 303) (by decide +kernel), List.mem_of_getElem? (i := 631) (by decide +kernel), List.mem_of_getElem? (i := 632) (by decide +kernel)⟩
theorem lw_p10 : lw_okq (⟨"GlassTank$Ring", "sumOfOrder", "(I)I"⟩, 4) := ⟨⟨by decide +kernel, by decide +kernel⟩, List.mem_of_getElem? (i := 303) (by decide +kernel), List.mem_of_getElem? (i := 635) (by decide +kernel), List.mem_of_getElem? (i := 636) (by decide +kernel)⟩
theorem lw_p11 : lw_okq (⟨"GlassTank$Ring", "keepOrder", "(I)V"⟩, 4) := ⟨⟨by decide +kernel, by decide +kernel⟩, List.mem_of_getElem? (i := 303) (by decide +kernel), List.mem_of_getElem? (i := 639) (by decide +kernel), List.mem_of_getElem? (i := 640) (by decide +kernel)⟩
theorem lw_p12 : lw_okq (⟨"GlassTank$Ring", "advance", "(I)Z"⟩, 4) := ⟨⟨by decide +kernel, by decide +kernel⟩, List.mem_of_getElem? (i := 303) (by decide +kernel), List.mem_of_getElem? (i := 644) (by decide +kernel), List.mem_of_getElem? (i := 645) (by decide +kernel)⟩
theorem lw_p13 : lw_okq (⟨"GlassTank$Ring", "swap", "(II)V"⟩, 4) := ⟨⟨by decide +kernel, by decide +kernel⟩, List.mem_of_getElem? (i := 303) (by decide +kernel), List.mem_of_getElem? (i := 648) (by decide +kernel), List.mem_of_getElem? (i := 649) (by decide +kernel)⟩
theorem lw_p14 : lw_okq (⟨"GlassTankModel", "isFeed", "(I)Z"⟩, 40) := ⟨⟨by decide +kernel, by decide +kernel⟩, List.mem_of_getElem? (i := 664) (by decide +kernel), List.mem_of_getElem? (i := 803) (by decide +kernel), List.mem_of_getElem? (i := 804) (by decide +kernel)⟩
theorem lw_p15 : lw_okq (⟨"GlassTankModel", "byThings", "(II[II)V"⟩, 40) := ⟨⟨by decide +kernel, by decide +kernel⟩, List.mem_of_getElem? (i := 664) (by decide +kernel), List.mem_of_getElem? (i := 817) (by decide +kernel), List.mem_of_getElem? (i := 818) (by decide +kernel)⟩
def lw_privs_1 : List (MethodName × Nat) := [(⟨"GlassTank$Sharer", "giveLeft", "(II[I)V"⟩, 2), (⟨"GlassTank$MixSearch", "costOfTrial", "()I"⟩, 5), (⟨"GlassTank$MixSearch", "keepTrial", "(I)V"⟩, 5), (⟨"GlassTank$MixSearch", "advance", "()Z"⟩, 5), (⟨"GlassTank", "canRun", "()Z"⟩, 11), (⟨"GlassTank", "passHour", "()V"⟩, 11), (⟨"GlassTank$Tank", "move", "(II)V"⟩, 8), (⟨"GlassTank$Forecast", "firstHourWithDose", "(III)I"⟩, 6), (⟨"GlassTank$Forecast", "passHour", "(LGlassTank$Charge;)V"⟩, 6), (⟨"GlassTank$Ring", "gather", "(I)I"⟩, 4), (⟨"GlassTank$Ring", "sumOfOrder", "(I)I"⟩, 4), (⟨"GlassTank$Ring", "keepOrder", "(I)V"⟩, 4), (⟨"GlassTank$Ring", "advance", "(I)Z"⟩, 4), (⟨"GlassTank$Ring", "swap", "(II)V"⟩, 4), (⟨"GlassTankModel", "isFeed", "(I)Z"⟩, 40), (⟨"GlassTankModel", "byThings", "(II[II)V"⟩, 40)]
theorem lw_r1 : ∀ q ∈ lw_privs_1, lw_okq q := List.forall_mem_cons.mpr ⟨lw_p0, List.forall_mem_cons.mpr ⟨lw_p1, List.forall_mem_cons.mpr ⟨lw_p2, List.forall_mem_cons.mpr ⟨lw_p3, List.forall_mem_cons.mpr ⟨lw_p4, List.forall_mem_cons.mpr ⟨lw_p5, List.forall_mem_cons.mpr ⟨lw_p6, List.forall_mem_cons.mpr ⟨lw_p7, List.forall_mem_cons.mpr ⟨lw_p8, List.forall_mem_cons.mpr ⟨lw_p9, List.forall_mem_cons.mpr ⟨lw_p10, List.forall_mem_cons.mpr ⟨lw_p11, List.forall_mem_cons.mpr ⟨lw_p12, List.forall_mem_cons.mpr ⟨lw_p13, List.forall_mem_cons.mpr ⟨lw_p14, List.forall_mem_cons.mpr ⟨lw_p15, fun _ h => absurd h List.not_mem_nil⟩⟩⟩⟩⟩⟩⟩⟩⟩⟩⟩⟩⟩⟩⟩⟩
theorem lw_p16 : lw_okq (⟨"GlassTankModel", "shareOut", "(II)V"⟩, 40) := ⟨⟨by decide +kernel, by decide +kernel⟩, List.mem_of_getElem? (i := 664) (by decide +kernel), List.mem_of_getElem? (i := 821) (by decide +kernel), List.mem_of_getElem? (i := 822) (by decide +kernel)⟩
theorem lw_p17 : lw_okq (⟨"GlassTankModel", "isColour", "(I)Z"⟩, 40) := ⟨⟨by decide +kernel, by decide +kernel⟩, List.mem_of_getElem? (i := 664) (by decide +kernel), List.mem_of_getElem? (i := 850) (by decide +kernel), List.mem_of_getElem? (i := 851) (by decide +kernel)⟩
theorem lw_p18 : lw_okq (⟨"GlassTankModel", "isSure", "(I[I)Z"⟩, 40) := ⟨⟨by decide +kernel, by decide +kernel⟩, List.mem_of_getElem? (i := 664) (by decide +kernel), List.mem_of_getElem? (i := 858) (by decide +kernel), List.mem_of_getElem? (i := 859) (by decide +kernel)⟩
theorem lw_p19 : lw_okq (⟨"GlassTankModel", "goesBy", "()Z"⟩, 40) := ⟨⟨by decide +kernel, by decide +kernel⟩, List.mem_of_getElem? (i := 664) (by decide +kernel), List.mem_of_getElem? (i := 874) (by decide +kernel), List.mem_of_getElem? (i := 875) (by decide +kernel)⟩
theorem lw_p20 : lw_okq (⟨"GlassTankModel", "comes", "(II)V"⟩, 40) := ⟨⟨by decide +kernel, by decide +kernel⟩, List.mem_of_getElem? (i := 664) (by decide +kernel), List.mem_of_getElem? (i := 878) (by decide +kernel), List.mem_of_getElem? (i := 879) (by decide +kernel)⟩
theorem lw_p21 : lw_okq (⟨"GlassTankModel", "goes", "([I)V"⟩, 40) := ⟨⟨by decide +kernel, by decide +kernel⟩, List.mem_of_getElem? (i := 664) (by decide +kernel), List.mem_of_getElem? (i := 883) (by decide +kernel), List.mem_of_getElem? (i := 884) (by decide +kernel)⟩
theorem lw_p22 : lw_okq (⟨"GlassTankModel", "nameOf", "()I"⟩, 40) := ⟨⟨by decide +kernel, by decide +kernel⟩, List.mem_of_getElem? (i := 664) (by decide +kernel), List.mem_of_getElem? (i := 887) (by decide +kernel), List.mem_of_getElem? (i := 888) (by decide +kernel)⟩
theorem lw_p23 : lw_okq (⟨"GlassTankModel", "isOf", "(I)Z"⟩, 40) := ⟨⟨by decide +kernel, by decide +kernel⟩, List.mem_of_getElem? (i := 664) (by decide +kernel), List.mem_of_getElem? (i := 891) (by decide +kernel), List.mem_of_getElem? (i := 892) (by decide +kernel)⟩
theorem lw_p24 : lw_okq (⟨"GlassTankModel", "glassOf", "(I)I"⟩, 40) := ⟨⟨by decide +kernel, by decide +kernel⟩, List.mem_of_getElem? (i := 664) (by decide +kernel), List.mem_of_getElem? (i := 895) (by decide +kernel), List.mem_of_getElem? (i := 896) (by decide +kernel)⟩
theorem lw_p25 : lw_okq (⟨"GlassTankModel", "isHour", "(I)Z"⟩, 40) := ⟨⟨by decide +kernel, by decide +kernel⟩, List.mem_of_getElem? (i := 664) (by decide +kernel), List.mem_of_getElem? (i := 903) (by decide +kernel), List.mem_of_getElem? (i := 904) (by decide +kernel)⟩
theorem lw_p26 : lw_okq (⟨"GlassTankModel", "first", "(IIII)I"⟩, 40) := ⟨⟨by decide +kernel, by decide +kernel⟩, List.mem_of_getElem? (i := 664) (by decide +kernel), List.mem_of_getElem? (i := 915) (by decide +kernel), List.mem_of_getElem? (i := 916) (by decide +kernel)⟩
theorem lw_p27 : lw_okq (⟨"GlassTankModel", "turns", "(I)Z"⟩, 40) := ⟨⟨by decide +kernel, by decide +kernel⟩, List.mem_of_getElem? (i := 664) (by decide +kernel), List.mem_of_getElem? (i := 935) (by decide +kernel), List.mem_of_getElem? (i := 936) (by decide +kernel)⟩
def lw_privs_2 : List (MethodName × Nat) := [(⟨"GlassTankModel", "shareOut", "(II)V"⟩, 40), (⟨"GlassTankModel", "isColour", "(I)Z"⟩, 40), (⟨"GlassTankModel", "isSure", "(I[I)Z"⟩, 40), (⟨"GlassTankModel", "goesBy", "()Z"⟩, 40), (⟨"GlassTankModel", "comes", "(II)V"⟩, 40), (⟨"GlassTankModel", "goes", "([I)V"⟩, 40), (⟨"GlassTankModel", "nameOf", "()I"⟩, 40), (⟨"GlassTankModel", "isOf", "(I)Z"⟩, 40), (⟨"GlassTankModel", "glassOf", "(I)I"⟩, 40), (⟨"GlassTankModel", "isHour", "(I)Z"⟩, 40), (⟨"GlassTankModel", "first", "(IIII)I"⟩, 40), (⟨"GlassTankModel", "turns", "(I)Z"⟩, 40)]
theorem lw_r2 : ∀ q ∈ lw_privs_2, lw_okq q := List.forall_mem_cons.mpr ⟨lw_p16, List.forall_mem_cons.mpr ⟨lw_p17, List.forall_mem_cons.mpr ⟨lw_p18, List.forall_mem_cons.mpr ⟨lw_p19, List.forall_mem_cons.mpr ⟨lw_p20, List.forall_mem_cons.mpr ⟨lw_p21, List.forall_mem_cons.mpr ⟨lw_p22, List.forall_mem_cons.mpr ⟨lw_p23, List.forall_mem_cons.mpr ⟨lw_p24, List.forall_mem_cons.mpr ⟨lw_p25, List.forall_mem_cons.mpr ⟨lw_p26, List.forall_mem_cons.mpr ⟨lw_p27, fun _ h => absurd h List.not_mem_nil⟩⟩⟩⟩⟩⟩⟩⟩⟩⟩⟩⟩
def lw_privs : List (MethodName × Nat) := lw_privs_1 ++ (lw_privs_2)
def lw_tbl : List Cond := k2_sels lw_privs ++ tables_1
theorem lw_privs_ok : ∀ q ∈ lw_privs, lw_okq q := by
  show ∀ q ∈ lw_privs_1 ++ (lw_privs_2), lw_okq q
  exact List.forall_mem_append.mpr ⟨lw_r1, lw_r2⟩

def RX0 : String := "GlassTank$Charge"
def TX0 : u_T := fun k => match k with
  | 0 => ("GlassTank$Charge", "feeds", "LGlassTank$Feeds;", true)
  | 1 => ("GlassTank$Charge", "mix", "LGlassTank$Mix;", true)
  | 2 => ("GlassTank$Charge", "sharer", "LGlassTank$Sharer;", true)
  | 3 => ("GlassTank$Charge", "weights", "[I", true)
  | 4 => ("GlassTank$Charge", "taken", "[I", true)
  | 5 => ("GlassTank$Charge", "lot", "[I", true)
  | _ => ("GlassTank$Charge", "size", "I", false)
def tyX0 : Nat → FieldType := fun k => match k with
  | 0 => .object "GlassTank$Feeds"
  | 1 => .object "GlassTank$Mix"
  | 2 => .object "GlassTank$Sharer"
  | 3 => .array .int
  | 4 => .array .int
  | 5 => .array .int
  | _ => .int
abbrev wsX00 : List Cond := u_ws RX0 TX0 7
theorem nmX0 : ∀ a, a < 7 → ∀ b, b < 7 → a ≠ b → (TX0 a).2.1 ≠ (TX0 b).2.1 := by decide +kernel
theorem tyX0_ok : ∀ k, k < 7 → parseFieldDescriptor (TX0 k).2.2.1 = some (tyX0 k) := by decide +kernel
abbrev cX0_init : ByteArray := prog_2_method_1_code
def yX0_init : MethodName := ⟨RX0, "<init>", "(LGlassTank$Feeds;LGlassTank$Mix;LGlassTank$Sharer;)V"⟩
abbrev cX0_measure : ByteArray := prog_2_method_2_code
def yX0_measure : MethodName := ⟨RX0, "measure", "(III)V"⟩
def RX1 : String := "GlassTank$Colours"
def TX1 : u_T := fun k => match k with
  | 0 => ("GlassTank$Colours", "count", "I", false)
  | 1 => ("GlassTank$Colours", "least", "[[I", true)
  | _ => ("GlassTank$Colours", "most", "[[I", true)
def tyX1 : Nat → FieldType := fun k => match k with
  | 0 => .int
  | 1 => .array (.array .int)
  | _ => .array (.array .int)
abbrev wsX10 : List Cond := u_ws RX1 TX1 3
theorem nmX1 : ∀ a, a < 3 → ∀ b, b < 3 → a ≠ b → (TX1 a).2.1 ≠ (TX1 b).2.1 := by decide +kernel
theorem tyX1_ok : ∀ k, k < 3 → parseFieldDescriptor (TX1 k).2.2.1 = some (tyX1 k) := by decide +kernel
abbrev cX1_init : ByteArray := prog_3_method_1_code
def yX1_init : MethodName := ⟨RX1, "<init>", "()V"⟩
abbrev cX1_has : ByteArray := prog_3_method_2_code
def yX1_has : MethodName := ⟨RX1, "has", "(I)Z"⟩
abbrev cX1_add : ByteArray := prog_3_method_3_code
def yX1_add : MethodName := ⟨RX1, "add", "()I"⟩
abbrev cX1_fits : ByteArray := prog_3_method_4_code
def yX1_fits : MethodName := ⟨RX1, "fits", "(ILGlassTank$Glass;)Z"⟩
abbrev cX1_nameOf : ByteArray := prog_3_method_5_code
def yX1_nameOf : MethodName := ⟨RX1, "nameOf", "(LGlassTank$Glass;)I"⟩
abbrev cX1_isSure : ByteArray := prog_3_method_6_code
def yX1_isSure : MethodName := ⟨RX1, "isSure", "(I[ILGlassTank$Feeds;)Z"⟩
def RX2 : String := "GlassTank$Feeds"
def TX2 : u_T := fun k => match k with
  | 0 => ("GlassTank$Feeds", "count", "I", false)
  | 1 => ("GlassTank$Feeds", "kinds", "[I", true)
  | 2 => ("GlassTank$Feeds", "makeUps", "[[I", true)
  | 3 => ("GlassTank$Feeds", "doubts", "[I", true)
  | 4 => ("GlassTank$Feeds", "prices", "[I", true)
  | _ => ("GlassTank$Feeds", "stocks", "[I", true)
def tyX2 : Nat → FieldType := fun k => match k with
  | 0 => .int
  | 1 => .array .int
  | 2 => .array (.array .int)
  | 3 => .array .int
  | 4 => .array .int
  | _ => .array .int
abbrev wsX20 : List Cond := u_ws RX2 TX2 6
theorem nmX2 : ∀ a, a < 6 → ∀ b, b < 6 → a ≠ b → (TX2 a).2.1 ≠ (TX2 b).2.1 := by decide +kernel
theorem tyX2_ok : ∀ k, k < 6 → parseFieldDescriptor (TX2 k).2.2.1 = some (tyX2 k) := by decide +kernel
abbrev cX2_init : ByteArray := prog_4_method_1_code
def yX2_init : MethodName := ⟨RX2, "<init>", "()V"⟩
abbrev cX2_has : ByteArray := prog_4_method_2_code
def yX2_has : MethodName := ⟨RX2, "has", "(I)Z"⟩
abbrev cX2_add : ByteArray := prog_4_method_3_code
def yX2_add : MethodName := ⟨RX2, "add", "(IIIIIII)I"⟩
abbrev cX2_haveAll : ByteArray := prog_4_method_4_code
def yX2_haveAll : MethodName := ⟨RX2, "haveAll", "([I)Z"⟩
abbrev cX2_takeAll : ByteArray := prog_4_method_5_code
def yX2_takeAll : MethodName := ⟨RX2, "takeAll", "([I)V"⟩
abbrev cX2_takeBack : ByteArray := prog_4_method_6_code
def yX2_takeBack : MethodName := ⟨RX2, "takeBack", "(I)V"⟩
def RX3 : String := "GlassTank$Forecast"
def TX3 : u_T := fun k => match k with
  | 0 => ("GlassTank$Forecast", "tank", "LGlassTank$Tank;", true)
  | 1 => ("GlassTank$Forecast", "colours", "LGlassTank$Colours;", true)
  | 2 => ("GlassTank$Forecast", "plain", "LGlassTank$Charge;", true)
  | 3 => ("GlassTank$Forecast", "dosed", "LGlassTank$Charge;", true)
  | 4 => ("GlassTank$Forecast", "trial", "LGlassTank$Tank;", true)
  | _ => ("GlassTank$Forecast", "glass", "LGlassTank$Glass;", true)
def tyX3 : Nat → FieldType := fun k => match k with
  | 0 => .object "GlassTank$Tank"
  | 1 => .object "GlassTank$Colours"
  | 2 => .object "GlassTank$Charge"
  | 3 => .object "GlassTank$Charge"
  | 4 => .object "GlassTank$Tank"
  | _ => .object "GlassTank$Glass"
abbrev wsX30 : List Cond := u_ws RX3 TX3 6
theorem nmX3 : ∀ a, a < 6 → ∀ b, b < 6 → a ≠ b → (TX3 a).2.1 ≠ (TX3 b).2.1 := by decide +kernel
theorem tyX3_ok : ∀ k, k < 6 → parseFieldDescriptor (TX3 k).2.2.1 = some (tyX3 k) := by decide +kernel
abbrev cX3_init : ByteArray := prog_5_method_1_code
def yX3_init : MethodName := ⟨RX3, "<init>", "(LGlassTank$Tank;LGlassTank$Colours;LGlassTank$Charge;LGlassTank$Charge;LGlassTank$Tank;)V"⟩
abbrev cX3_firstHour : ByteArray := prog_5_method_2_code
def yX3_firstHour : MethodName := ⟨RX3, "firstHour", "(I)I"⟩
abbrev cX3_hoursWithoutName : ByteArray := prog_5_method_3_code
def yX3_hoursWithoutName : MethodName := ⟨RX3, "hoursWithoutName", "()I"⟩
abbrev cX3_bestDose : ByteArray := prog_5_method_4_code
def yX3_bestDose : MethodName := ⟨RX3, "bestDose", "(II)I"⟩
abbrev cX3_firstHourWithDose : ByteArray := prog_5_method_5_code
def yX3_firstHourWithDose : MethodName := ⟨RX3, "firstHourWithDose", "(III)I"⟩
abbrev cX3_passHour : ByteArray := prog_5_method_6_code
def yX3_passHour : MethodName := ⟨RX3, "passHour", "(LGlassTank$Charge;)V"⟩
def RX4 : String := "GlassTank$Glass"
def TX4 : u_T := fun k => match k with
  | 0 => ("GlassTank$Glass", "things", "[I", true)
  | 1 => ("GlassTank$Glass", "leads", "[I", true)
  | _ => ("GlassTank$Glass", "grams", "I", false)
def tyX4 : Nat → FieldType := fun k => match k with
  | 0 => .array .int
  | 1 => .array .int
  | _ => .int
abbrev wsX40 : List Cond := u_ws RX4 TX4 3
theorem nmX4 : ∀ a, a < 3 → ∀ b, b < 3 → a ≠ b → (TX4 a).2.1 ≠ (TX4 b).2.1 := by decide +kernel
theorem tyX4_ok : ∀ k, k < 3 → parseFieldDescriptor (TX4 k).2.2.1 = some (tyX4 k) := by decide +kernel
abbrev cX4_init : ByteArray := prog_6_method_1_code
def yX4_init : MethodName := ⟨RX4, "<init>", "()V"⟩
abbrev cX4_read : ByteArray := prog_6_method_2_code
def yX4_read : MethodName := ⟨RX4, "read", "(LGlassTank$Tank;)V"⟩
def RX5 : String := "GlassTank$Log"
def TX5 : u_T := fun k => match k with
  | 0 => ("GlassTank$Log", "count", "I", false)
  | 1 => ("GlassTank$Log", "wasteGrams", "I", false)
  | 2 => ("GlassTank$Log", "putIn", "I", false)
  | 3 => ("GlassTank$Log", "things", "[I", true)
  | 4 => ("GlassTank$Log", "leads", "[I", true)
  | 5 => ("GlassTank$Log", "grams", "[I", true)
  | 6 => ("GlassTank$Log", "names", "[I", true)
  | _ => ("GlassTank$Log", "wasted", "[Z", true)
def tyX5 : Nat → FieldType := fun k => match k with
  | 0 => .int
  | 1 => .int
  | 2 => .int
  | 3 => .array .int
  | 4 => .array .int
  | 5 => .array .int
  | 6 => .array .int
  | _ => .array .boolean
abbrev wsX50 : List Cond := u_ws RX5 TX5 8
theorem nmX5 : ∀ a, a < 8 → ∀ b, b < 8 → a ≠ b → (TX5 a).2.1 ≠ (TX5 b).2.1 := by decide +kernel
theorem tyX5_ok : ∀ k, k < 8 → parseFieldDescriptor (TX5 k).2.2.1 = some (tyX5 k) := by decide +kernel
abbrev cX5_init : ByteArray := prog_7_method_1_code
def yX5_init : MethodName := ⟨RX5, "<init>", "()V"⟩
abbrev cX5_has : ByteArray := prog_7_method_2_code
def yX5_has : MethodName := ⟨RX5, "has", "(I)Z"⟩
abbrev cX5_clear : ByteArray := prog_7_method_3_code
def yX5_clear : MethodName := ⟨RX5, "clear", "()V"⟩
abbrev cX5_add : ByteArray := prog_7_method_4_code
def yX5_add : MethodName := ⟨RX5, "add", "(LGlassTank$Glass;IZ)V"⟩
def RX6 : String := "GlassTank$Mix"
def TX6 : u_T := fun k => match k with
  | 0 => ("GlassTank$Mix", "made", "Z", false)
  | 1 => ("GlassTank$Mix", "shares", "[I", true)
  | _ => ("GlassTank$Mix", "toCome", "[I", true)
def tyX6 : Nat → FieldType := fun k => match k with
  | 0 => .boolean
  | 1 => .array .int
  | _ => .array .int
abbrev wsX60 : List Cond := u_ws RX6 TX6 3
theorem nmX6 : ∀ a, a < 3 → ∀ b, b < 3 → a ≠ b → (TX6 a).2.1 ≠ (TX6 b).2.1 := by decide +kernel
theorem tyX6_ok : ∀ k, k < 3 → parseFieldDescriptor (TX6 k).2.2.1 = some (tyX6 k) := by decide +kernel
abbrev cX6_init : ByteArray := prog_8_method_1_code
def yX6_init : MethodName := ⟨RX6, "<init>", "()V"⟩
abbrev cX6_become : ByteArray := prog_8_method_2_code
def yX6_become : MethodName := ⟨RX6, "become", "([I)V"⟩
def RX7 : String := "GlassTank$MixSearch"
def TX7 : u_T := fun k => match k with
  | 0 => ("GlassTank$MixSearch", "feeds", "LGlassTank$Feeds;", true)
  | 1 => ("GlassTank$MixSearch", "colours", "LGlassTank$Colours;", true)
  | 2 => ("GlassTank$MixSearch", "trial", "[I", true)
  | 3 => ("GlassTank$MixSearch", "best", "[I", true)
  | _ => ("GlassTank$MixSearch", "bestCost", "I", false)
def tyX7 : Nat → FieldType := fun k => match k with
  | 0 => .object "GlassTank$Feeds"
  | 1 => .object "GlassTank$Colours"
  | 2 => .array .int
  | 3 => .array .int
  | _ => .int
abbrev wsX70 : List Cond := u_ws RX7 TX7 5
theorem nmX7 : ∀ a, a < 5 → ∀ b, b < 5 → a ≠ b → (TX7 a).2.1 ≠ (TX7 b).2.1 := by decide +kernel
theorem tyX7_ok : ∀ k, k < 5 → parseFieldDescriptor (TX7 k).2.2.1 = some (tyX7 k) := by decide +kernel
abbrev cX7_init : ByteArray := prog_9_method_1_code
def yX7_init : MethodName := ⟨RX7, "<init>", "(LGlassTank$Feeds;LGlassTank$Colours;)V"⟩
abbrev cX7_find : ByteArray := prog_9_method_2_code
def yX7_find : MethodName := ⟨RX7, "find", "(I)Z"⟩
abbrev cX7_costOfTrial : ByteArray := prog_9_method_3_code
def yX7_costOfTrial : MethodName := ⟨RX7, "costOfTrial", "()I"⟩
abbrev cX7_keepTrial : ByteArray := prog_9_method_4_code
def yX7_keepTrial : MethodName := ⟨RX7, "keepTrial", "(I)V"⟩
abbrev cX7_advance : ByteArray := prog_9_method_5_code
def yX7_advance : MethodName := ⟨RX7, "advance", "()Z"⟩
def RX8 : String := "GlassTank$Ring"
def TX8 : u_T := fun k => match k with
  | 0 => ("GlassTank$Ring", "changes", "[[I", true)
  | 1 => ("GlassTank$Ring", "latest", "[I", true)
  | 2 => ("GlassTank$Ring", "latestSize", "I", false)
  | _ => ("GlassTank$Ring", "order", "[I", true)
def tyX8 : Nat → FieldType := fun k => match k with
  | 0 => .array (.array .int)
  | 1 => .array .int
  | 2 => .int
  | _ => .array .int
abbrev wsX80 : List Cond := u_ws RX8 TX8 4
theorem nmX8 : ∀ a, a < 4 → ∀ b, b < 4 → a ≠ b → (TX8 a).2.1 ≠ (TX8 b).2.1 := by decide +kernel
theorem tyX8_ok : ∀ k, k < 4 → parseFieldDescriptor (TX8 k).2.2.1 = some (tyX8 k) := by decide +kernel
abbrev cX8_init : ByteArray := prog_10_method_1_code
def yX8_init : MethodName := ⟨RX8, "<init>", "()V"⟩
abbrev cX8_leastSum : ByteArray := prog_10_method_2_code
def yX8_leastSum : MethodName := ⟨RX8, "leastSum", "(I)I"⟩
abbrev cX8_gather : ByteArray := prog_10_method_3_code
def yX8_gather : MethodName := ⟨RX8, "gather", "(I)I"⟩
abbrev cX8_sumOfOrder : ByteArray := prog_10_method_4_code
def yX8_sumOfOrder : MethodName := ⟨RX8, "sumOfOrder", "(I)I"⟩
abbrev cX8_keepOrder : ByteArray := prog_10_method_5_code
def yX8_keepOrder : MethodName := ⟨RX8, "keepOrder", "(I)V"⟩
abbrev cX8_advance : ByteArray := prog_10_method_6_code
def yX8_advance : MethodName := ⟨RX8, "advance", "(I)Z"⟩
abbrev cX8_swap : ByteArray := prog_10_method_7_code
def yX8_swap : MethodName := ⟨RX8, "swap", "(II)V"⟩
def RX9 : String := "GlassTank$Sharer"
def TX9 : u_T := fun k => match k with
  | 0 => ("GlassTank$Sharer", "rests", "[J", true)
  | _ => ("GlassTank$Sharer", "places", "[I", true)
def tyX9 : Nat → FieldType := fun k => match k with
  | 0 => .array .long
  | _ => .array .int
abbrev wsX90 : List Cond := u_ws RX9 TX9 2
theorem nmX9 : ∀ a, a < 2 → ∀ b, b < 2 → a ≠ b → (TX9 a).2.1 ≠ (TX9 b).2.1 := by decide +kernel
theorem tyX9_ok : ∀ k, k < 2 → parseFieldDescriptor (TX9 k).2.2.1 = some (tyX9 k) := by decide +kernel
abbrev cX9_init : ByteArray := prog_11_method_1_code
def yX9_init : MethodName := ⟨RX9, "<init>", "()V"⟩
abbrev cX9_split : ByteArray := prog_11_method_2_code
def yX9_split : MethodName := ⟨RX9, "split", "(I[II[II)V"⟩
abbrev cX9_giveLeft : ByteArray := prog_11_method_3_code
def yX9_giveLeft : MethodName := ⟨RX9, "giveLeft", "(II[I)V"⟩
def RX10 : String := "GlassTank$Tank"
def TX10 : u_T := fun k => match k with
  | 0 => ("GlassTank$Tank", "sharer", "LGlassTank$Sharer;", true)
  | 1 => ("GlassTank$Tank", "cells", "[[I", true)
  | 2 => ("GlassTank$Tank", "flows", "[[I", true)
  | 3 => ("GlassTank$Tank", "made", "Z", false)
  | 4 => ("GlassTank$Tank", "cellCount", "I", false)
  | 5 => ("GlassTank$Tank", "weight", "I", false)
  | 6 => ("GlassTank$Tank", "pulled", "I", false)
  | _ => ("GlassTank$Tank", "isStill", "Z", false)
def tyX10 : Nat → FieldType := fun k => match k with
  | 0 => .object "GlassTank$Sharer"
  | 1 => .array (.array .int)
  | 2 => .array (.array .int)
  | 3 => .boolean
  | 4 => .int
  | 5 => .int
  | 6 => .int
  | _ => .boolean
abbrev wsX100 : List Cond := u_ws RX10 TX10 8
theorem nmX10 : ∀ a, a < 8 → ∀ b, b < 8 → a ≠ b → (TX10 a).2.1 ≠ (TX10 b).2.1 := by decide +kernel
theorem tyX10_ok : ∀ k, k < 8 → parseFieldDescriptor (TX10 k).2.2.1 = some (tyX10 k) := by decide +kernel
abbrev cX10_init : ByteArray := prog_12_method_1_code
def yX10_init : MethodName := ⟨RX10, "<init>", "(LGlassTank$Sharer;)V"⟩
abbrev cX10_fill : ByteArray := prog_12_method_2_code
def yX10_fill : MethodName := ⟨RX10, "fill", "(III[I)V"⟩
abbrev cX10_copy : ByteArray := prog_12_method_3_code
def yX10_copy : MethodName := ⟨RX10, "copy", "(LGlassTank$Tank;)V"⟩
abbrev cX10_pass : ByteArray := prog_12_method_4_code
def yX10_pass : MethodName := ⟨RX10, "pass", "(LGlassTank$Charge;)V"⟩
abbrev cX10_move : ByteArray := prog_12_method_5_code
def yX10_move : MethodName := ⟨RX10, "move", "(II)V"⟩
abbrev cX10_outOfLast : ByteArray := prog_12_method_6_code
def yX10_outOfLast : MethodName := ⟨RX10, "outOfLast", "()[I"⟩
abbrev cX10_gramsIn : ByteArray := prog_12_method_7_code
def yX10_gramsIn : MethodName := ⟨RX10, "gramsIn", "(III)I"⟩
abbrev cX10_allGrams : ByteArray := prog_12_method_8_code
def yX10_allGrams : MethodName := ⟨RX10, "allGrams", "()I"⟩
def RX11 : String := "GlassTank"
def TX11 : u_T := fun k => match k with
  | 0 => ("GlassTank", "feeds", "LGlassTank$Feeds;", true)
  | 1 => ("GlassTank", "mix", "LGlassTank$Mix;", true)
  | 2 => ("GlassTank", "mixSearch", "LGlassTank$MixSearch;", true)
  | 3 => ("GlassTank", "tank", "LGlassTank$Tank;", true)
  | 4 => ("GlassTank", "charge", "LGlassTank$Charge;", true)
  | 5 => ("GlassTank", "glass", "LGlassTank$Glass;", true)
  | 6 => ("GlassTank", "colours", "LGlassTank$Colours;", true)
  | 7 => ("GlassTank", "log", "LGlassTank$Log;", true)
  | 8 => ("GlassTank", "forecast", "LGlassTank$Forecast;", true)
  | 9 => ("GlassTank", "ring", "LGlassTank$Ring;", true)
  | _ => ("GlassTank", "wanted", "I", false)
def tyX11 : Nat → FieldType := fun k => match k with
  | 0 => .object "GlassTank$Feeds"
  | 1 => .object "GlassTank$Mix"
  | 2 => .object "GlassTank$MixSearch"
  | 3 => .object "GlassTank$Tank"
  | 4 => .object "GlassTank$Charge"
  | 5 => .object "GlassTank$Glass"
  | 6 => .object "GlassTank$Colours"
  | 7 => .object "GlassTank$Log"
  | 8 => .object "GlassTank$Forecast"
  | 9 => .object "GlassTank$Ring"
  | _ => .int
abbrev wsX110 : List Cond := u_ws RX11 TX11 11
theorem nmX11 : ∀ a, a < 11 → ∀ b, b < 11 → a ≠ b → (TX11 a).2.1 ≠ (TX11 b).2.1 := by decide +kernel
theorem tyX11_ok : ∀ k, k < 11 → parseFieldDescriptor (TX11 k).2.2.1 = some (tyX11 k) := by decide +kernel
abbrev cX11_init : ByteArray := prog_1_method_1_code
def yX11_init : MethodName := ⟨RX11, "<init>", "()V"⟩
abbrev cX11_feed : ByteArray := prog_1_method_2_code
def yX11_feed : MethodName := ⟨RX11, "feed", "(IIIIIII)I"⟩
abbrev cX11_stock : ByteArray := prog_1_method_3_code
def yX11_stock : MethodName := ⟨RX11, "stock", "(II)I"⟩
abbrev cX11_of : ByteArray := prog_1_method_4_code
def yX11_of : MethodName := ⟨RX11, "of", "(II)I"⟩
abbrev cX11_tank : ByteArray := prog_1_method_5_code
def yX11_tank : MethodName := ⟨RX11, "tank", "(IIII)I"⟩
abbrev cX11_pull : ByteArray := prog_1_method_6_code
def yX11_pull : MethodName := ⟨RX11, "pull", "(I)I"⟩
abbrev cX11_cell : ByteArray := prog_1_method_7_code
def yX11_cell : MethodName := ⟨RX11, "cell", "(III)I"⟩
abbrev cX11_share : ByteArray := prog_1_method_8_code
def yX11_share : MethodName := ⟨RX11, "share", "(II)I"⟩
abbrev cX11_mix : ByteArray := prog_1_method_9_code
def yX11_mix : MethodName := ⟨RX11, "mix", "()I"⟩
abbrev cX11_colour : ByteArray := prog_1_method_10_code
def yX11_colour : MethodName := ⟨RX11, "colour", "()I"⟩
abbrev cX11_span : ByteArray := prog_1_method_11_code
def yX11_span : MethodName := ⟨RX11, "span", "(IIII)I"⟩
abbrev cX11_sure : ByteArray := prog_1_method_12_code
def yX11_sure : MethodName := ⟨RX11, "sure", "(I)I"⟩
abbrev cX11_cheapest : ByteArray := prog_1_method_13_code
def yX11_cheapest : MethodName := ⟨RX11, "cheapest", "(I)I"⟩
abbrev cX11_want : ByteArray := prog_1_method_14_code
def yX11_want : MethodName := ⟨RX11, "want", "(I)I"⟩
abbrev cX11_hours : ByteArray := prog_1_method_15_code
def yX11_hours : MethodName := ⟨RX11, "hours", "(I)I"⟩
abbrev cX11_glass : ByteArray := prog_1_method_16_code
def yX11_glass : MethodName := ⟨RX11, "glass", "(II)I"⟩
abbrev cX11_lead : ByteArray := prog_1_method_17_code
def yX11_lead : MethodName := ⟨RX11, "lead", "(II)I"⟩
abbrev cX11_when : ByteArray := prog_1_method_18_code
def yX11_when : MethodName := ⟨RX11, "when", "(I)I"⟩
abbrev cX11_between : ByteArray := prog_1_method_19_code
def yX11_between : MethodName := ⟨RX11, "between", "()I"⟩
abbrev cX11_dose : ByteArray := prog_1_method_20_code
def yX11_dose : MethodName := ⟨RX11, "dose", "(II)I"⟩
abbrev cX11_change : ByteArray := prog_1_method_21_code
def yX11_change : MethodName := ⟨RX11, "change", "(III)I"⟩
abbrev cX11_ring : ByteArray := prog_1_method_22_code
def yX11_ring : MethodName := ⟨RX11, "ring", "(I)I"⟩
abbrev cX11_next : ByteArray := prog_1_method_23_code
def yX11_next : MethodName := ⟨RX11, "next", "(I)I"⟩
abbrev cX11_told : ByteArray := prog_1_method_24_code
def yX11_told : MethodName := ⟨RX11, "told", "(I)I"⟩
abbrev cX11_isWithin : ByteArray := prog_1_method_25_code
def yX11_isWithin : MethodName := ⟨RX11, "isWithin", "(III)Z"⟩
abbrev cX11_isThing : ByteArray := prog_1_method_26_code
def yX11_isThing : MethodName := ⟨RX11, "isThing", "(I)Z"⟩
abbrev cX11_isMakeUp : ByteArray := prog_1_method_27_code
def yX11_isMakeUp : MethodName := ⟨RX11, "isMakeUp", "(IIII)Z"⟩
abbrev cX11_mostDoubt : ByteArray := prog_1_method_28_code
def yX11_mostDoubt : MethodName := ⟨RX11, "mostDoubt", "(I)I"⟩
abbrev cX11_sumOf : ByteArray := prog_1_method_29_code
def yX11_sumOf : MethodName := ⟨RX11, "sumOf", "([I)I"⟩
abbrev cX11_canRun : ByteArray := prog_1_method_30_code
def yX11_canRun : MethodName := ⟨RX11, "canRun", "()Z"⟩
abbrev cX11_passHour : ByteArray := prog_1_method_31_code
def yX11_passHour : MethodName := ⟨RX11, "passHour", "()V"⟩
def RX12 : String := "GlassTankModel"
def TX12 : u_T := fun k => match k with
  | 0 => ("GlassTankModel", "feeds", "I", false)
  | 1 => ("GlassTankModel", "colours", "I", false)
  | 2 => ("GlassTankModel", "makeUp", "[I", true)
  | 3 => ("GlassTankModel", "kinds", "[I", true)
  | 4 => ("GlassTankModel", "doubts", "[I", true)
  | 5 => ("GlassTankModel", "prices", "[I", true)
  | 6 => ("GlassTankModel", "stocks", "[I", true)
  | 7 => ("GlassTankModel", "shares", "[I", true)
  | 8 => ("GlassTankModel", "mixed", "[I", true)
  | 9 => ("GlassTankModel", "hasMix", "Z", false)
  | 10 => ("GlassTankModel", "isMade", "Z", false)
  | 11 => ("GlassTankModel", "cells", "I", false)
  | 12 => ("GlassTankModel", "wide", "I", false)
  | 13 => ("GlassTankModel", "pull", "I", false)
  | 14 => ("GlassTankModel", "wanted", "I", false)
  | 15 => ("GlassTankModel", "lots", "[I", true)
  | 16 => ("GlassTankModel", "then", "[I", true)
  | 17 => ("GlassTankModel", "out", "[I", true)
  | 18 => ("GlassTankModel", "into", "[I", true)
  | 19 => ("GlassTankModel", "glass", "[I", true)
  | 20 => ("GlassTankModel", "leasts", "[I", true)
  | 21 => ("GlassTankModel", "mosts", "[I", true)
  | 22 => ("GlassTankModel", "changes", "[I", true)
  | 23 => ("GlassTankModel", "hours", "I", false)
  | 24 => ("GlassTankModel", "waste", "J", false)
  | 25 => ("GlassTankModel", "come", "J", false)
  | 26 => ("GlassTankModel", "hourThings", "[I", true)
  | 27 => ("GlassTankModel", "hourFeeds", "[I", true)
  | 28 => ("GlassTankModel", "hourName", "[I", true)
  | 29 => ("GlassTankModel", "hourWaste", "[I", true)
  | 30 => ("GlassTankModel", "hourGrams", "[I", true)
  | 31 => ("GlassTankModel", "weights", "[J", true)
  | 32 => ("GlassTankModel", "rests", "[J", true)
  | 33 => ("GlassTankModel", "got", "[I", true)
  | 34 => ("GlassTankModel", "trial", "[I", true)
  | 35 => ("GlassTankModel", "cheap", "[I", true)
  | 36 => ("GlassTankModel", "taken", "[I", true)
  | 37 => ("GlassTankModel", "order", "[I", true)
  | 38 => ("GlassTankModel", "ringOf", "[I", true)
  | _ => ("GlassTankModel", "ringMany", "I", false)
def tyX12 : Nat → FieldType := fun k => match k with
  | 0 => .int
  | 1 => .int
  | 2 => .array .int
  | 3 => .array .int
  | 4 => .array .int
  | 5 => .array .int
  | 6 => .array .int
  | 7 => .array .int
  | 8 => .array .int
  | 9 => .boolean
  | 10 => .boolean
  | 11 => .int
  | 12 => .int
  | 13 => .int
  | 14 => .int
  | 15 => .array .int
  | 16 => .array .int
  | 17 => .array .int
  | 18 => .array .int
  | 19 => .array .int
  | 20 => .array .int
  | 21 => .array .int
  | 22 => .array .int
  | 23 => .int
  | 24 => .long
  | 25 => .long
  | 26 => .array .int
  | 27 => .array .int
  | 28 => .array .int
  | 29 => .array .int
  | 30 => .array .int
  | 31 => .array .long
  | 32 => .array .long
  | 33 => .array .int
  | 34 => .array .int
  | 35 => .array .int
  | 36 => .array .int
  | 37 => .array .int
  | 38 => .array .int
  | _ => .int
abbrev wsX120 : List Cond := u_ws RX12 TX12 40
theorem nmX12 : ∀ a, a < 40 → ∀ b, b < 40 → a ≠ b → (TX12 a).2.1 ≠ (TX12 b).2.1 := by decide +kernel
theorem tyX12_ok : ∀ k, k < 40 → parseFieldDescriptor (TX12 k).2.2.1 = some (tyX12 k) := by decide +kernel
abbrev cX12_init : ByteArray := prog_14_method_1_code
def yX12_init : MethodName := ⟨RX12, "<init>", "()V"⟩
abbrev cX12_in : ByteArray := prog_14_method_3_code
def yX12_in : MethodName := ⟨RX12, "in", "(III)Z"⟩
abbrev cX12_isFeed : ByteArray := prog_14_method_4_code
def yX12_isFeed : MethodName := ⟨RX12, "isFeed", "(I)Z"⟩
abbrev cX12_isColour : ByteArray := prog_14_method_5_code
def yX12_isColour : MethodName := ⟨RX12, "isColour", "(I)Z"⟩
abbrev cX12_feed : ByteArray := prog_14_method_6_code
def yX12_feed : MethodName := ⟨RX12, "feed", "(IIIIIII)I"⟩
abbrev cX12_stock : ByteArray := prog_14_method_7_code
def yX12_stock : MethodName := ⟨RX12, "stock", "(II)I"⟩
abbrev cX12_of : ByteArray := prog_14_method_8_code
def yX12_of : MethodName := ⟨RX12, "of", "(II)I"⟩
abbrev cX12_shareOut : ByteArray := prog_14_method_9_code
def yX12_shareOut : MethodName := ⟨RX12, "shareOut", "(II)V"⟩
abbrev cX12_byThings : ByteArray := prog_14_method_10_code
def yX12_byThings : MethodName := ⟨RX12, "byThings", "(II[II)V"⟩
abbrev cX12_tank : ByteArray := prog_14_method_11_code
def yX12_tank : MethodName := ⟨RX12, "tank", "(IIII)I"⟩
abbrev cX12_pull : ByteArray := prog_14_method_12_code
def yX12_pull : MethodName := ⟨RX12, "pull", "(I)I"⟩
abbrev cX12_cell : ByteArray := prog_14_method_13_code
def yX12_cell : MethodName := ⟨RX12, "cell", "(III)I"⟩
abbrev cX12_share : ByteArray := prog_14_method_14_code
def yX12_share : MethodName := ⟨RX12, "share", "(II)I"⟩
abbrev cX12_mix : ByteArray := prog_14_method_15_code
def yX12_mix : MethodName := ⟨RX12, "mix", "()I"⟩
abbrev cX12_colour : ByteArray := prog_14_method_16_code
def yX12_colour : MethodName := ⟨RX12, "colour", "()I"⟩
abbrev cX12_span : ByteArray := prog_14_method_17_code
def yX12_span : MethodName := ⟨RX12, "span", "(IIII)I"⟩
abbrev cX12_isSure : ByteArray := prog_14_method_18_code
def yX12_isSure : MethodName := ⟨RX12, "isSure", "(I[I)Z"⟩
abbrev cX12_sure : ByteArray := prog_14_method_19_code
def yX12_sure : MethodName := ⟨RX12, "sure", "(I)I"⟩
abbrev cX12_cheapest : ByteArray := prog_14_method_20_code
def yX12_cheapest : MethodName := ⟨RX12, "cheapest", "(I)I"⟩
abbrev cX12_want : ByteArray := prog_14_method_21_code
def yX12_want : MethodName := ⟨RX12, "want", "(I)I"⟩
abbrev cX12_comes : ByteArray := prog_14_method_22_code
def yX12_comes : MethodName := ⟨RX12, "comes", "(II)V"⟩
abbrev cX12_goes : ByteArray := prog_14_method_23_code
def yX12_goes : MethodName := ⟨RX12, "goes", "([I)V"⟩
abbrev cX12_glassOf : ByteArray := prog_14_method_24_code
def yX12_glassOf : MethodName := ⟨RX12, "glassOf", "(I)I"⟩
abbrev cX12_isOf : ByteArray := prog_14_method_25_code
def yX12_isOf : MethodName := ⟨RX12, "isOf", "(I)Z"⟩
abbrev cX12_nameOf : ByteArray := prog_14_method_26_code
def yX12_nameOf : MethodName := ⟨RX12, "nameOf", "()I"⟩
abbrev cX12_goesBy : ByteArray := prog_14_method_27_code
def yX12_goesBy : MethodName := ⟨RX12, "goesBy", "()Z"⟩
abbrev cX12_hours : ByteArray := prog_14_method_28_code
def yX12_hours : MethodName := ⟨RX12, "hours", "(I)I"⟩
abbrev cX12_isHour : ByteArray := prog_14_method_29_code
def yX12_isHour : MethodName := ⟨RX12, "isHour", "(I)Z"⟩
abbrev cX12_glass : ByteArray := prog_14_method_30_code
def yX12_glass : MethodName := ⟨RX12, "glass", "(II)I"⟩
abbrev cX12_lead : ByteArray := prog_14_method_31_code
def yX12_lead : MethodName := ⟨RX12, "lead", "(II)I"⟩
abbrev cX12_first : ByteArray := prog_14_method_32_code
def yX12_first : MethodName := ⟨RX12, "first", "(IIII)I"⟩
abbrev cX12_when : ByteArray := prog_14_method_33_code
def yX12_when : MethodName := ⟨RX12, "when", "(I)I"⟩
abbrev cX12_between : ByteArray := prog_14_method_34_code
def yX12_between : MethodName := ⟨RX12, "between", "()I"⟩
abbrev cX12_dose : ByteArray := prog_14_method_35_code
def yX12_dose : MethodName := ⟨RX12, "dose", "(II)I"⟩
abbrev cX12_change : ByteArray := prog_14_method_36_code
def yX12_change : MethodName := ⟨RX12, "change", "(III)I"⟩
abbrev cX12_ring : ByteArray := prog_14_method_37_code
def yX12_ring : MethodName := ⟨RX12, "ring", "(I)I"⟩
abbrev cX12_turns : ByteArray := prog_14_method_38_code
def yX12_turns : MethodName := ⟨RX12, "turns", "(I)Z"⟩
abbrev cX12_next : ByteArray := prog_14_method_39_code
def yX12_next : MethodName := ⟨RX12, "next", "(I)I"⟩
abbrev cX12_told : ByteArray := prog_14_method_40_code
def yX12_told : MethodName := ⟨RX12, "told", "(I)I"⟩
def RJ9 : String := "java/lang/Math"
def TJ9 : u_T := fun k => match k with
  | _ => ("", "", "", false)
def tyJ9 : Nat → FieldType := fun k => match k with
  | _ => .int
abbrev wsJ90 : List Cond := u_ws RJ9 TJ9 0
theorem nmJ9 : ∀ a, a < 0 → ∀ b, b < 0 → a ≠ b → (TJ9 a).2.1 ≠ (TJ9 b).2.1 := by decide +kernel
theorem tyJ9_ok : ∀ k, k < 0 → parseFieldDescriptor (TJ9 k).2.2.1 = some (tyJ9 k) := by decide +kernel
abbrev cJ9_max_7cf53 : ByteArray := prog_15_method_65_code
def yJ9_max_7cf53 : MethodName := ⟨RJ9, "max", "(II)I"⟩
abbrev cJ9_min_7cf53 : ByteArray := prog_15_method_69_code
def yJ9_min_7cf53 : MethodName := ⟨RJ9, "min", "(II)I"⟩
def RJ10 : String := "java/lang/System"
def TJ10 : u_T := fun k => match k with
  | _ => ("", "", "", false)
def tyJ10 : Nat → FieldType := fun k => match k with
  | _ => .int
abbrev wsJ100 : List Cond := u_ws RJ10 TJ10 0
theorem nmJ10 : ∀ a, a < 0 → ∀ b, b < 0 → a ≠ b → (TJ10 a).2.1 ≠ (TJ10 b).2.1 := by decide +kernel
theorem tyJ10_ok : ∀ k, k < 0 → parseFieldDescriptor (TJ10 k).2.2.1 = some (tyJ10 k) := by decide +kernel
def RL : String := "GlassTankLaw"
abbrev cL_law : ByteArray := code
def yL_law : MethodName := ⟨RL, "law", "([I)Z"⟩
end
section
theorem dX0_init_0 : decode cX0_init 0 = .ok (.aload_n 0, 1) := by decide +kernel
theorem dX0_init_1 : decode cX0_init 1 = .ok (.invokespecial 3, 3) := by decide +kernel
theorem dX0_init_4 : decode cX0_init 4 = .ok (.aload_n 0, 1) := by decide +kernel
theorem dX0_init_5 : decode cX0_init 5 = .ok (.bipush 8, 2) := by decide +kernel
theorem dX0_init_7 : decode cX0_init 7 = .ok (.newarray .int, 2) := by decide +kernel
theorem dX0_init_9 : decode cX0_init 9 = .ok (.putfield 9, 3) := by decide +kernel
theorem dX0_init_12 : decode cX0_init 12 = .ok (.aload_n 0, 1) := by decide +kernel
theorem dX0_init_13 : decode cX0_init 13 = .ok (.bipush 8, 2) := by decide +kernel
theorem dX0_init_15 : decode cX0_init 15 = .ok (.newarray .int, 2) := by decide +kernel
theorem dX0_init_17 : decode cX0_init 17 = .ok (.putfield 15, 3) := by decide +kernel
theorem dX0_init_20 : decode cX0_init 20 = .ok (.aload_n 0, 1) := by decide +kernel
theorem dX0_init_21 : decode cX0_init 21 = .ok (.bipush 32, 2) := by decide +kernel
theorem dX0_init_23 : decode cX0_init 23 = .ok (.newarray .int, 2) := by decide +kernel
theorem dX0_init_25 : decode cX0_init 25 = .ok (.putfield 18, 3) := by decide +kernel
theorem dX0_init_28 : decode cX0_init 28 = .ok (.aload_n 0, 1) := by decide +kernel
theorem dX0_init_29 : decode cX0_init 29 = .ok (.aload_n 1, 1) := by decide +kernel
theorem dX0_init_30 : decode cX0_init 30 = .ok (.putfield 21, 3) := by decide +kernel
theorem dX0_init_33 : decode cX0_init 33 = .ok (.aload_n 0, 1) := by decide +kernel
theorem dX0_init_34 : decode cX0_init 34 = .ok (.aload_n 2, 1) := by decide +kernel
theorem dX0_init_35 : decode cX0_init 35 = .ok (.putfield 25, 3) := by decide +kernel
theorem dX0_init_38 : decode cX0_init 38 = .ok (.aload_n 0, 1) := by decide +kernel
theorem dX0_init_39 : decode cX0_init 39 = .ok (.aload_n 3, 1) := by decide +kernel
theorem dX0_init_40 : decode cX0_init 40 = .ok (.putfield 29, 3) := by decide +kernel
theorem dX0_init_43 : decode cX0_init 43 = .ok (.return_, 1) := by decide +kernel
theorem dX0_measure_0 : decode cX0_measure 0 = .ok (.iconst 0, 1) := by decide +kernel
theorem dX0_measure_1 : decode cX0_measure 1 = .ok (.istore 4, 2) := by decide +kernel
theorem dX0_measure_3 : decode cX0_measure 3 = .ok (.iload 4, 2) := by decide +kernel
theorem dX0_measure_5 : decode cX0_measure 5 = .ok (.bipush 8, 2) := by decide +kernel
theorem dX0_measure_7 : decode cX0_measure 7 = .ok (.if_icmp .ge 32, 3) := by decide +kernel
theorem dX0_measure_10 : decode cX0_measure 10 = .ok (.aload_n 0, 1) := by decide +kernel
theorem dX0_measure_11 : decode cX0_measure 11 = .ok (.getfield 9, 3) := by decide +kernel
theorem dX0_measure_14 : decode cX0_measure 14 = .ok (.iload 4, 2) := by decide +kernel
theorem dX0_measure_16 : decode cX0_measure 16 = .ok (.aload_n 0, 1) := by decide +kernel
theorem dX0_measure_17 : decode cX0_measure 17 = .ok (.getfield 25, 3) := by decide +kernel
theorem dX0_measure_20 : decode cX0_measure 20 = .ok (.getfield 33, 3) := by decide +kernel
theorem dX0_measure_23 : decode cX0_measure 23 = .ok (.iload 4, 2) := by decide +kernel
theorem dX0_measure_25 : decode cX0_measure 25 = .ok (.iaload, 1) := by decide +kernel
theorem dX0_measure_26 : decode cX0_measure 26 = .ok (.sipush 1000, 3) := by decide +kernel
theorem dX0_measure_29 : decode cX0_measure 29 = .ok (.iload_n 3, 1) := by decide +kernel
theorem dX0_measure_30 : decode cX0_measure 30 = .ok (.isub, 1) := by decide +kernel
theorem dX0_measure_31 : decode cX0_measure 31 = .ok (.imul, 1) := by decide +kernel
theorem dX0_measure_32 : decode cX0_measure 32 = .ok (.iastore, 1) := by decide +kernel
theorem dX0_measure_33 : decode cX0_measure 33 = .ok (.iinc 4 1, 3) := by decide +kernel
theorem dX0_measure_36 : decode cX0_measure 36 = .ok (.goto (-33), 3) := by decide +kernel
theorem dX0_measure_39 : decode cX0_measure 39 = .ok (.aload_n 0, 1) := by decide +kernel
theorem dX0_measure_40 : decode cX0_measure 40 = .ok (.getfield 21, 3) := by decide +kernel
theorem dX0_measure_43 : decode cX0_measure 43 = .ok (.iload_n 2, 1) := by decide +kernel
theorem dX0_measure_44 : decode cX0_measure 44 = .ok (.invokevirtual 38, 3) := by decide +kernel
theorem dX0_measure_47 : decode cX0_measure 47 = .ok (.ifCond .eq 17, 3) := by decide +kernel
theorem dX0_measure_50 : decode cX0_measure 50 = .ok (.aload_n 0, 1) := by decide +kernel
theorem dX0_measure_51 : decode cX0_measure 51 = .ok (.getfield 9, 3) := by decide +kernel
theorem dX0_measure_54 : decode cX0_measure 54 = .ok (.iload_n 2, 1) := by decide +kernel
theorem dX0_measure_55 : decode cX0_measure 55 = .ok (.dup2, 1) := by decide +kernel
theorem dX0_measure_56 : decode cX0_measure 56 = .ok (.iaload, 1) := by decide +kernel
theorem dX0_measure_57 : decode cX0_measure 57 = .ok (.iload_n 3, 1) := by decide +kernel
theorem dX0_measure_58 : decode cX0_measure 58 = .ok (.sipush 1000, 3) := by decide +kernel
theorem dX0_measure_61 : decode cX0_measure 61 = .ok (.imul, 1) := by decide +kernel
theorem dX0_measure_62 : decode cX0_measure 62 = .ok (.iadd, 1) := by decide +kernel
theorem dX0_measure_63 : decode cX0_measure 63 = .ok (.iastore, 1) := by decide +kernel
theorem dX0_measure_64 : decode cX0_measure 64 = .ok (.aload_n 0, 1) := by decide +kernel
theorem dX0_measure_65 : decode cX0_measure 65 = .ok (.getfield 29, 3) := by decide +kernel
theorem dX0_measure_68 : decode cX0_measure 68 = .ok (.iload_n 1, 1) := by decide +kernel
theorem dX0_measure_69 : decode cX0_measure 69 = .ok (.aload_n 0, 1) := by decide +kernel
theorem dX0_measure_70 : decode cX0_measure 70 = .ok (.getfield 9, 3) := by decide +kernel
theorem dX0_measure_73 : decode cX0_measure 73 = .ok (.bipush 8, 2) := by decide +kernel
theorem dX0_measure_75 : decode cX0_measure 75 = .ok (.aload_n 0, 1) := by decide +kernel
theorem dX0_measure_76 : decode cX0_measure 76 = .ok (.getfield 15, 3) := by decide +kernel
theorem dX0_measure_79 : decode cX0_measure 79 = .ok (.iconst 0, 1) := by decide +kernel
theorem dX0_measure_80 : decode cX0_measure 80 = .ok (.invokevirtual 44, 3) := by decide +kernel
theorem dX0_measure_83 : decode cX0_measure 83 = .ok (.iconst 0, 1) := by decide +kernel
theorem dX0_measure_84 : decode cX0_measure 84 = .ok (.istore 4, 2) := by decide +kernel
theorem dX0_measure_86 : decode cX0_measure 86 = .ok (.iload 4, 2) := by decide +kernel
theorem dX0_measure_88 : decode cX0_measure 88 = .ok (.aload_n 0, 1) := by decide +kernel
theorem dX0_measure_89 : decode cX0_measure 89 = .ok (.getfield 21, 3) := by decide +kernel
theorem dX0_measure_92 : decode cX0_measure 92 = .ok (.getfield 50, 3) := by decide +kernel
theorem dX0_measure_95 : decode cX0_measure 95 = .ok (.if_icmp .ge 42, 3) := by decide +kernel
theorem dX0_measure_98 : decode cX0_measure 98 = .ok (.aload_n 0, 1) := by decide +kernel
theorem dX0_measure_99 : decode cX0_measure 99 = .ok (.getfield 29, 3) := by decide +kernel
theorem dX0_measure_102 : decode cX0_measure 102 = .ok (.aload_n 0, 1) := by decide +kernel
theorem dX0_measure_103 : decode cX0_measure 103 = .ok (.getfield 15, 3) := by decide +kernel
theorem dX0_measure_106 : decode cX0_measure 106 = .ok (.iload 4, 2) := by decide +kernel
theorem dX0_measure_108 : decode cX0_measure 108 = .ok (.iaload, 1) := by decide +kernel
theorem dX0_measure_109 : decode cX0_measure 109 = .ok (.aload_n 0, 1) := by decide +kernel
theorem dX0_measure_110 : decode cX0_measure 110 = .ok (.getfield 21, 3) := by decide +kernel
theorem dX0_measure_113 : decode cX0_measure 113 = .ok (.getfield 54, 3) := by decide +kernel
theorem dX0_measure_116 : decode cX0_measure 116 = .ok (.iload 4, 2) := by decide +kernel
theorem dX0_measure_118 : decode cX0_measure 118 = .ok (.aaload, 1) := by decide +kernel
theorem dX0_measure_119 : decode cX0_measure 119 = .ok (.iconst 4, 1) := by decide +kernel
theorem dX0_measure_120 : decode cX0_measure 120 = .ok (.aload_n 0, 1) := by decide +kernel
theorem dX0_measure_121 : decode cX0_measure 121 = .ok (.getfield 18, 3) := by decide +kernel
theorem dX0_measure_124 : decode cX0_measure 124 = .ok (.iload 4, 2) := by decide +kernel
theorem dX0_measure_126 : decode cX0_measure 126 = .ok (.iconst 4, 1) := by decide +kernel
theorem dX0_measure_127 : decode cX0_measure 127 = .ok (.imul, 1) := by decide +kernel
theorem dX0_measure_128 : decode cX0_measure 128 = .ok (.invokevirtual 44, 3) := by decide +kernel
theorem dX0_measure_131 : decode cX0_measure 131 = .ok (.iinc 4 1, 3) := by decide +kernel
theorem dX0_measure_134 : decode cX0_measure 134 = .ok (.goto (-48), 3) := by decide +kernel
theorem dX0_measure_137 : decode cX0_measure 137 = .ok (.aload_n 0, 1) := by decide +kernel
theorem dX0_measure_138 : decode cX0_measure 138 = .ok (.aload_n 0, 1) := by decide +kernel
theorem dX0_measure_139 : decode cX0_measure 139 = .ok (.getfield 21, 3) := by decide +kernel
theorem dX0_measure_142 : decode cX0_measure 142 = .ok (.getfield 50, 3) := by decide +kernel
theorem dX0_measure_145 : decode cX0_measure 145 = .ok (.iconst 4, 1) := by decide +kernel
theorem dX0_measure_146 : decode cX0_measure 146 = .ok (.imul, 1) := by decide +kernel
theorem dX0_measure_147 : decode cX0_measure 147 = .ok (.putfield 58, 3) := by decide +kernel
theorem dX0_measure_150 : decode cX0_measure 150 = .ok (.return_, 1) := by decide +kernel
theorem dX1_init_0 : decode cX1_init 0 = .ok (.aload_n 0, 1) := by decide +kernel
theorem dX1_init_1 : decode cX1_init 1 = .ok (.invokespecial 3, 3) := by decide +kernel
theorem dX1_init_4 : decode cX1_init 4 = .ok (.aload_n 0, 1) := by decide +kernel
theorem dX1_init_5 : decode cX1_init 5 = .ok (.bipush 6, 2) := by decide +kernel
theorem dX1_init_7 : decode cX1_init 7 = .ok (.iconst 4, 1) := by decide +kernel
theorem dX1_init_8 : decode cX1_init 8 = .ok (.multianewarray 9 2, 4) := by decide +kernel
theorem dX1_init_12 : decode cX1_init 12 = .ok (.putfield 11, 3) := by decide +kernel
theorem dX1_init_15 : decode cX1_init 15 = .ok (.aload_n 0, 1) := by decide +kernel
theorem dX1_init_16 : decode cX1_init 16 = .ok (.bipush 6, 2) := by decide +kernel
theorem dX1_init_18 : decode cX1_init 18 = .ok (.iconst 4, 1) := by decide +kernel
theorem dX1_init_19 : decode cX1_init 19 = .ok (.multianewarray 9 2, 4) := by decide +kernel
theorem dX1_init_23 : decode cX1_init 23 = .ok (.putfield 16, 3) := by decide +kernel
theorem dX1_init_26 : decode cX1_init 26 = .ok (.return_, 1) := by decide +kernel
theorem dX1_has_0 : decode cX1_has 0 = .ok (.iload_n 1, 1) := by decide +kernel
theorem dX1_has_1 : decode cX1_has 1 = .ok (.ifCond .lt 15, 3) := by decide +kernel
theorem dX1_has_4 : decode cX1_has 4 = .ok (.iload_n 1, 1) := by decide +kernel
theorem dX1_has_5 : decode cX1_has 5 = .ok (.aload_n 0, 1) := by decide +kernel
theorem dX1_has_6 : decode cX1_has 6 = .ok (.getfield 19, 3) := by decide +kernel
theorem dX1_has_9 : decode cX1_has 9 = .ok (.if_icmp .ge 7, 3) := by decide +kernel
theorem dX1_has_12 : decode cX1_has 12 = .ok (.iconst 1, 1) := by decide +kernel
theorem dX1_has_13 : decode cX1_has 13 = .ok (.goto 4, 3) := by decide +kernel
theorem dX1_has_16 : decode cX1_has 16 = .ok (.iconst 0, 1) := by decide +kernel
theorem dX1_has_17 : decode cX1_has 17 = .ok (.ireturn, 1) := by decide +kernel
theorem dX1_add_0 : decode cX1_add 0 = .ok (.aload_n 0, 1) := by decide +kernel
theorem dX1_add_1 : decode cX1_add 1 = .ok (.getfield 19, 3) := by decide +kernel
theorem dX1_add_4 : decode cX1_add 4 = .ok (.bipush 6, 2) := by decide +kernel
theorem dX1_add_6 : decode cX1_add 6 = .ok (.if_icmp .lt 6, 3) := by decide +kernel
theorem dX1_add_9 : decode cX1_add 9 = .ok (.ldc 23, 2) := by decide +kernel
theorem dX1_add_11 : decode cX1_add 11 = .ok (.ireturn, 1) := by decide +kernel
theorem dX1_add_12 : decode cX1_add 12 = .ok (.iconst 0, 1) := by decide +kernel
theorem dX1_add_13 : decode cX1_add 13 = .ok (.istore_n 1, 1) := by decide +kernel
theorem dX1_add_14 : decode cX1_add 14 = .ok (.iload_n 1, 1) := by decide +kernel
theorem dX1_add_15 : decode cX1_add 15 = .ok (.iconst 4, 1) := by decide +kernel
theorem dX1_add_16 : decode cX1_add 16 = .ok (.if_icmp .ge 35, 3) := by decide +kernel
theorem dX1_add_19 : decode cX1_add 19 = .ok (.aload_n 0, 1) := by decide +kernel
theorem dX1_add_20 : decode cX1_add 20 = .ok (.getfield 11, 3) := by decide +kernel
theorem dX1_add_23 : decode cX1_add 23 = .ok (.aload_n 0, 1) := by decide +kernel
theorem dX1_add_24 : decode cX1_add 24 = .ok (.getfield 19, 3) := by decide +kernel
theorem dX1_add_27 : decode cX1_add 27 = .ok (.aaload, 1) := by decide +kernel
theorem dX1_add_28 : decode cX1_add 28 = .ok (.iload_n 1, 1) := by decide +kernel
theorem dX1_add_29 : decode cX1_add 29 = .ok (.iconst 0, 1) := by decide +kernel
theorem dX1_add_30 : decode cX1_add 30 = .ok (.iastore, 1) := by decide +kernel
theorem dX1_add_31 : decode cX1_add 31 = .ok (.aload_n 0, 1) := by decide +kernel
theorem dX1_add_32 : decode cX1_add 32 = .ok (.getfield 16, 3) := by decide +kernel
theorem dX1_add_35 : decode cX1_add 35 = .ok (.aload_n 0, 1) := by decide +kernel
theorem dX1_add_36 : decode cX1_add 36 = .ok (.getfield 19, 3) := by decide +kernel
theorem dX1_add_39 : decode cX1_add 39 = .ok (.aaload, 1) := by decide +kernel
theorem dX1_add_40 : decode cX1_add 40 = .ok (.iload_n 1, 1) := by decide +kernel
theorem dX1_add_41 : decode cX1_add 41 = .ok (.sipush 1000, 3) := by decide +kernel
theorem dX1_add_44 : decode cX1_add 44 = .ok (.iastore, 1) := by decide +kernel
theorem dX1_add_45 : decode cX1_add 45 = .ok (.iinc 1 1, 3) := by decide +kernel
theorem dX1_add_48 : decode cX1_add 48 = .ok (.goto (-34), 3) := by decide +kernel
theorem dX1_add_51 : decode cX1_add 51 = .ok (.aload_n 0, 1) := by decide +kernel
theorem dX1_add_52 : decode cX1_add 52 = .ok (.dup, 1) := by decide +kernel
theorem dX1_add_53 : decode cX1_add 53 = .ok (.getfield 19, 3) := by decide +kernel
theorem dX1_add_56 : decode cX1_add 56 = .ok (.iconst 1, 1) := by decide +kernel
theorem dX1_add_57 : decode cX1_add 57 = .ok (.iadd, 1) := by decide +kernel
theorem dX1_add_58 : decode cX1_add 58 = .ok (.putfield 19, 3) := by decide +kernel
theorem dX1_add_61 : decode cX1_add 61 = .ok (.aload_n 0, 1) := by decide +kernel
theorem dX1_add_62 : decode cX1_add 62 = .ok (.getfield 19, 3) := by decide +kernel
theorem dX1_add_65 : decode cX1_add 65 = .ok (.iconst 1, 1) := by decide +kernel
theorem dX1_add_66 : decode cX1_add 66 = .ok (.isub, 1) := by decide +kernel
theorem dX1_add_67 : decode cX1_add 67 = .ok (.ireturn, 1) := by decide +kernel
theorem dX1_fits_0 : decode cX1_fits 0 = .ok (.iconst 0, 1) := by decide +kernel
theorem dX1_fits_1 : decode cX1_fits 1 = .ok (.istore_n 3, 1) := by decide +kernel
theorem dX1_fits_2 : decode cX1_fits 2 = .ok (.iload_n 3, 1) := by decide +kernel
theorem dX1_fits_3 : decode cX1_fits 3 = .ok (.iconst 4, 1) := by decide +kernel
theorem dX1_fits_4 : decode cX1_fits 4 = .ok (.if_icmp .ge 59, 3) := by decide +kernel
theorem dX1_fits_7 : decode cX1_fits 7 = .ok (.sipush 1000, 3) := by decide +kernel
theorem dX1_fits_10 : decode cX1_fits 10 = .ok (.aload_n 2, 1) := by decide +kernel
theorem dX1_fits_11 : decode cX1_fits 11 = .ok (.getfield 24, 3) := by decide +kernel
theorem dX1_fits_14 : decode cX1_fits 14 = .ok (.iload_n 3, 1) := by decide +kernel
theorem dX1_fits_15 : decode cX1_fits 15 = .ok (.iaload, 1) := by decide +kernel
theorem dX1_fits_16 : decode cX1_fits 16 = .ok (.imul, 1) := by decide +kernel
theorem dX1_fits_17 : decode cX1_fits 17 = .ok (.istore 4, 2) := by decide +kernel
theorem dX1_fits_19 : decode cX1_fits 19 = .ok (.iload 4, 2) := by decide +kernel
theorem dX1_fits_21 : decode cX1_fits 21 = .ok (.aload_n 0, 1) := by decide +kernel
theorem dX1_fits_22 : decode cX1_fits 22 = .ok (.getfield 11, 3) := by decide +kernel
theorem dX1_fits_25 : decode cX1_fits 25 = .ok (.iload_n 1, 1) := by decide +kernel
theorem dX1_fits_26 : decode cX1_fits 26 = .ok (.aaload, 1) := by decide +kernel
theorem dX1_fits_27 : decode cX1_fits 27 = .ok (.iload_n 3, 1) := by decide +kernel
theorem dX1_fits_28 : decode cX1_fits 28 = .ok (.iaload, 1) := by decide +kernel
theorem dX1_fits_29 : decode cX1_fits 29 = .ok (.aload_n 2, 1) := by decide +kernel
theorem dX1_fits_30 : decode cX1_fits 30 = .ok (.getfield 30, 3) := by decide +kernel
theorem dX1_fits_33 : decode cX1_fits 33 = .ok (.imul, 1) := by decide +kernel
theorem dX1_fits_34 : decode cX1_fits 34 = .ok (.if_icmp .lt 21, 3) := by decide +kernel
theorem dX1_fits_37 : decode cX1_fits 37 = .ok (.iload 4, 2) := by decide +kernel
theorem dX1_fits_39 : decode cX1_fits 39 = .ok (.aload_n 0, 1) := by decide +kernel
theorem dX1_fits_40 : decode cX1_fits 40 = .ok (.getfield 16, 3) := by decide +kernel
theorem dX1_fits_43 : decode cX1_fits 43 = .ok (.iload_n 1, 1) := by decide +kernel
theorem dX1_fits_44 : decode cX1_fits 44 = .ok (.aaload, 1) := by decide +kernel
theorem dX1_fits_45 : decode cX1_fits 45 = .ok (.iload_n 3, 1) := by decide +kernel
theorem dX1_fits_46 : decode cX1_fits 46 = .ok (.iaload, 1) := by decide +kernel
theorem dX1_fits_47 : decode cX1_fits 47 = .ok (.aload_n 2, 1) := by decide +kernel
theorem dX1_fits_48 : decode cX1_fits 48 = .ok (.getfield 30, 3) := by decide +kernel
theorem dX1_fits_51 : decode cX1_fits 51 = .ok (.imul, 1) := by decide +kernel
theorem dX1_fits_52 : decode cX1_fits 52 = .ok (.if_icmp .le 5, 3) := by decide +kernel
theorem dX1_fits_55 : decode cX1_fits 55 = .ok (.iconst 0, 1) := by decide +kernel
theorem dX1_fits_56 : decode cX1_fits 56 = .ok (.ireturn, 1) := by decide +kernel
theorem dX1_fits_57 : decode cX1_fits 57 = .ok (.iinc 3 1, 3) := by decide +kernel
theorem dX1_fits_60 : decode cX1_fits 60 = .ok (.goto (-58), 3) := by decide +kernel
theorem dX1_fits_63 : decode cX1_fits 63 = .ok (.iconst 1, 1) := by decide +kernel
theorem dX1_fits_64 : decode cX1_fits 64 = .ok (.ireturn, 1) := by decide +kernel
theorem dX1_nameOf_0 : decode cX1_nameOf 0 = .ok (.iconst 0, 1) := by decide +kernel
theorem dX1_nameOf_1 : decode cX1_nameOf 1 = .ok (.istore_n 2, 1) := by decide +kernel
theorem dX1_nameOf_2 : decode cX1_nameOf 2 = .ok (.iload_n 2, 1) := by decide +kernel
theorem dX1_nameOf_3 : decode cX1_nameOf 3 = .ok (.aload_n 0, 1) := by decide +kernel
theorem dX1_nameOf_4 : decode cX1_nameOf 4 = .ok (.getfield 19, 3) := by decide +kernel
theorem dX1_nameOf_7 : decode cX1_nameOf 7 = .ok (.if_icmp .ge 20, 3) := by decide +kernel
theorem dX1_nameOf_10 : decode cX1_nameOf 10 = .ok (.aload_n 0, 1) := by decide +kernel
theorem dX1_nameOf_11 : decode cX1_nameOf 11 = .ok (.iload_n 2, 1) := by decide +kernel
theorem dX1_nameOf_12 : decode cX1_nameOf 12 = .ok (.aload_n 1, 1) := by decide +kernel
theorem dX1_nameOf_13 : decode cX1_nameOf 13 = .ok (.invokevirtual 33, 3) := by decide +kernel
theorem dX1_nameOf_16 : decode cX1_nameOf 16 = .ok (.ifCond .eq 5, 3) := by decide +kernel
theorem dX1_nameOf_19 : decode cX1_nameOf 19 = .ok (.iload_n 2, 1) := by decide +kernel
theorem dX1_nameOf_20 : decode cX1_nameOf 20 = .ok (.ireturn, 1) := by decide +kernel
theorem dX1_nameOf_21 : decode cX1_nameOf 21 = .ok (.iinc 2 1, 3) := by decide +kernel
theorem dX1_nameOf_24 : decode cX1_nameOf 24 = .ok (.goto (-22), 3) := by decide +kernel
theorem dX1_nameOf_27 : decode cX1_nameOf 27 = .ok (.iconst (-1), 1) := by decide +kernel
theorem dX1_nameOf_28 : decode cX1_nameOf 28 = .ok (.ireturn, 1) := by decide +kernel
theorem dX1_isSure_0 : decode cX1_isSure 0 = .ok (.iconst 0, 1) := by decide +kernel
theorem dX1_isSure_1 : decode cX1_isSure 1 = .ok (.istore 4, 2) := by decide +kernel
theorem dX1_isSure_3 : decode cX1_isSure 3 = .ok (.iload 4, 2) := by decide +kernel
theorem dX1_isSure_5 : decode cX1_isSure 5 = .ok (.iconst 4, 1) := by decide +kernel
theorem dX1_isSure_6 : decode cX1_isSure 6 = .ok (.if_icmp .ge 133, 3) := by decide +kernel
theorem dX1_isSure_9 : decode cX1_isSure 9 = .ok (.iconst 0, 1) := by decide +kernel
theorem dX1_isSure_10 : decode cX1_isSure 10 = .ok (.istore 5, 2) := by decide +kernel
theorem dX1_isSure_12 : decode cX1_isSure 12 = .ok (.iconst 0, 1) := by decide +kernel
theorem dX1_isSure_13 : decode cX1_isSure 13 = .ok (.istore 6, 2) := by decide +kernel
theorem dX1_isSure_15 : decode cX1_isSure 15 = .ok (.iconst 0, 1) := by decide +kernel
theorem dX1_isSure_16 : decode cX1_isSure 16 = .ok (.istore 7, 2) := by decide +kernel
theorem dX1_isSure_18 : decode cX1_isSure 18 = .ok (.iload 7, 2) := by decide +kernel
theorem dX1_isSure_20 : decode cX1_isSure 20 = .ok (.aload_n 3, 1) := by decide +kernel
theorem dX1_isSure_21 : decode cX1_isSure 21 = .ok (.getfield 37, 3) := by decide +kernel
theorem dX1_isSure_24 : decode cX1_isSure 24 = .ok (.if_icmp .ge 71, 3) := by decide +kernel
theorem dX1_isSure_27 : decode cX1_isSure 27 = .ok (.aload_n 3, 1) := by decide +kernel
theorem dX1_isSure_28 : decode cX1_isSure 28 = .ok (.getfield 40, 3) := by decide +kernel
theorem dX1_isSure_31 : decode cX1_isSure 31 = .ok (.iload 7, 2) := by decide +kernel
theorem dX1_isSure_33 : decode cX1_isSure 33 = .ok (.aaload, 1) := by decide +kernel
theorem dX1_isSure_34 : decode cX1_isSure 34 = .ok (.iload 4, 2) := by decide +kernel
theorem dX1_isSure_36 : decode cX1_isSure 36 = .ok (.iaload, 1) := by decide +kernel
theorem dX1_isSure_37 : decode cX1_isSure 37 = .ok (.istore 8, 2) := by decide +kernel
theorem dX1_isSure_39 : decode cX1_isSure 39 = .ok (.iload 5, 2) := by decide +kernel
theorem dX1_isSure_41 : decode cX1_isSure 41 = .ok (.aload_n 2, 1) := by decide +kernel
theorem dX1_isSure_42 : decode cX1_isSure 42 = .ok (.iload 7, 2) := by decide +kernel
theorem dX1_isSure_44 : decode cX1_isSure 44 = .ok (.iaload, 1) := by decide +kernel
theorem dX1_isSure_45 : decode cX1_isSure 45 = .ok (.iload 8, 2) := by decide +kernel
theorem dX1_isSure_47 : decode cX1_isSure 47 = .ok (.aload_n 3, 1) := by decide +kernel
theorem dX1_isSure_48 : decode cX1_isSure 48 = .ok (.getfield 43, 3) := by decide +kernel
theorem dX1_isSure_51 : decode cX1_isSure 51 = .ok (.iload 7, 2) := by decide +kernel
theorem dX1_isSure_53 : decode cX1_isSure 53 = .ok (.iaload, 1) := by decide +kernel
theorem dX1_isSure_54 : decode cX1_isSure 54 = .ok (.isub, 1) := by decide +kernel
theorem dX1_isSure_55 : decode cX1_isSure 55 = .ok (.iconst 0, 1) := by decide +kernel
theorem dX1_isSure_56 : decode cX1_isSure 56 = .ok (.invokestatic 46, 3) := by decide +kernel
theorem dX1_isSure_59 : decode cX1_isSure 59 = .ok (.imul, 1) := by decide +kernel
theorem dX1_isSure_60 : decode cX1_isSure 60 = .ok (.iadd, 1) := by decide +kernel
theorem dX1_isSure_61 : decode cX1_isSure 61 = .ok (.istore 5, 2) := by decide +kernel
theorem dX1_isSure_63 : decode cX1_isSure 63 = .ok (.iload 6, 2) := by decide +kernel
theorem dX1_isSure_65 : decode cX1_isSure 65 = .ok (.aload_n 2, 1) := by decide +kernel
theorem dX1_isSure_66 : decode cX1_isSure 66 = .ok (.iload 7, 2) := by decide +kernel
theorem dX1_isSure_68 : decode cX1_isSure 68 = .ok (.iaload, 1) := by decide +kernel
theorem dX1_isSure_69 : decode cX1_isSure 69 = .ok (.iload 8, 2) := by decide +kernel
theorem dX1_isSure_71 : decode cX1_isSure 71 = .ok (.aload_n 3, 1) := by decide +kernel
theorem dX1_isSure_72 : decode cX1_isSure 72 = .ok (.getfield 43, 3) := by decide +kernel
theorem dX1_isSure_75 : decode cX1_isSure 75 = .ok (.iload 7, 2) := by decide +kernel
theorem dX1_isSure_77 : decode cX1_isSure 77 = .ok (.iaload, 1) := by decide +kernel
theorem dX1_isSure_78 : decode cX1_isSure 78 = .ok (.iadd, 1) := by decide +kernel
theorem dX1_isSure_79 : decode cX1_isSure 79 = .ok (.sipush 1000, 3) := by decide +kernel
theorem dX1_isSure_82 : decode cX1_isSure 82 = .ok (.invokestatic 52, 3) := by decide +kernel
theorem dX1_isSure_85 : decode cX1_isSure 85 = .ok (.imul, 1) := by decide +kernel
theorem dX1_isSure_86 : decode cX1_isSure 86 = .ok (.iadd, 1) := by decide +kernel
theorem dX1_isSure_87 : decode cX1_isSure 87 = .ok (.istore 6, 2) := by decide +kernel
theorem dX1_isSure_89 : decode cX1_isSure 89 = .ok (.iinc 7 1, 3) := by decide +kernel
theorem dX1_isSure_92 : decode cX1_isSure 92 = .ok (.goto (-74), 3) := by decide +kernel
theorem dX1_isSure_95 : decode cX1_isSure 95 = .ok (.iload 5, 2) := by decide +kernel
theorem dX1_isSure_97 : decode cX1_isSure 97 = .ok (.aload_n 0, 1) := by decide +kernel
theorem dX1_isSure_98 : decode cX1_isSure 98 = .ok (.getfield 11, 3) := by decide +kernel
theorem dX1_isSure_101 : decode cX1_isSure 101 = .ok (.iload_n 1, 1) := by decide +kernel
theorem dX1_isSure_102 : decode cX1_isSure 102 = .ok (.aaload, 1) := by decide +kernel
theorem dX1_isSure_103 : decode cX1_isSure 103 = .ok (.iload 4, 2) := by decide +kernel
theorem dX1_isSure_105 : decode cX1_isSure 105 = .ok (.iaload, 1) := by decide +kernel
theorem dX1_isSure_106 : decode cX1_isSure 106 = .ok (.sipush 1000, 3) := by decide +kernel
theorem dX1_isSure_109 : decode cX1_isSure 109 = .ok (.imul, 1) := by decide +kernel
theorem dX1_isSure_110 : decode cX1_isSure 110 = .ok (.if_icmp .lt 21, 3) := by decide +kernel
theorem dX1_isSure_113 : decode cX1_isSure 113 = .ok (.iload 6, 2) := by decide +kernel
theorem dX1_isSure_115 : decode cX1_isSure 115 = .ok (.aload_n 0, 1) := by decide +kernel
theorem dX1_isSure_116 : decode cX1_isSure 116 = .ok (.getfield 16, 3) := by decide +kernel
theorem dX1_isSure_119 : decode cX1_isSure 119 = .ok (.iload_n 1, 1) := by decide +kernel
theorem dX1_isSure_120 : decode cX1_isSure 120 = .ok (.aaload, 1) := by decide +kernel
theorem dX1_isSure_121 : decode cX1_isSure 121 = .ok (.iload 4, 2) := by decide +kernel
theorem dX1_isSure_123 : decode cX1_isSure 123 = .ok (.iaload, 1) := by decide +kernel
theorem dX1_isSure_124 : decode cX1_isSure 124 = .ok (.sipush 1000, 3) := by decide +kernel
theorem dX1_isSure_127 : decode cX1_isSure 127 = .ok (.imul, 1) := by decide +kernel
theorem dX1_isSure_128 : decode cX1_isSure 128 = .ok (.if_icmp .le 5, 3) := by decide +kernel
theorem dX1_isSure_131 : decode cX1_isSure 131 = .ok (.iconst 0, 1) := by decide +kernel
theorem dX1_isSure_132 : decode cX1_isSure 132 = .ok (.ireturn, 1) := by decide +kernel
theorem dX1_isSure_133 : decode cX1_isSure 133 = .ok (.iinc 4 1, 3) := by decide +kernel
theorem dX1_isSure_136 : decode cX1_isSure 136 = .ok (.goto (-133), 3) := by decide +kernel
theorem dX1_isSure_139 : decode cX1_isSure 139 = .ok (.iconst 1, 1) := by decide +kernel
theorem dX1_isSure_140 : decode cX1_isSure 140 = .ok (.ireturn, 1) := by decide +kernel
theorem dX2_init_0 : decode cX2_init 0 = .ok (.aload_n 0, 1) := by decide +kernel
theorem dX2_init_1 : decode cX2_init 1 = .ok (.invokespecial 3, 3) := by decide +kernel
theorem dX2_init_4 : decode cX2_init 4 = .ok (.aload_n 0, 1) := by decide +kernel
theorem dX2_init_5 : decode cX2_init 5 = .ok (.bipush 8, 2) := by decide +kernel
theorem dX2_init_7 : decode cX2_init 7 = .ok (.newarray .int, 2) := by decide +kernel
theorem dX2_init_9 : decode cX2_init 9 = .ok (.putfield 9, 3) := by decide +kernel
theorem dX2_init_12 : decode cX2_init 12 = .ok (.aload_n 0, 1) := by decide +kernel
theorem dX2_init_13 : decode cX2_init 13 = .ok (.bipush 8, 2) := by decide +kernel
theorem dX2_init_15 : decode cX2_init 15 = .ok (.iconst 4, 1) := by decide +kernel
theorem dX2_init_16 : decode cX2_init 16 = .ok (.multianewarray 15 2, 4) := by decide +kernel
theorem dX2_init_20 : decode cX2_init 20 = .ok (.putfield 17, 3) := by decide +kernel
theorem dX2_init_23 : decode cX2_init 23 = .ok (.aload_n 0, 1) := by decide +kernel
theorem dX2_init_24 : decode cX2_init 24 = .ok (.bipush 8, 2) := by decide +kernel
theorem dX2_init_26 : decode cX2_init 26 = .ok (.newarray .int, 2) := by decide +kernel
theorem dX2_init_28 : decode cX2_init 28 = .ok (.putfield 20, 3) := by decide +kernel
theorem dX2_init_31 : decode cX2_init 31 = .ok (.aload_n 0, 1) := by decide +kernel
theorem dX2_init_32 : decode cX2_init 32 = .ok (.bipush 8, 2) := by decide +kernel
theorem dX2_init_34 : decode cX2_init 34 = .ok (.newarray .int, 2) := by decide +kernel
theorem dX2_init_36 : decode cX2_init 36 = .ok (.putfield 23, 3) := by decide +kernel
theorem dX2_init_39 : decode cX2_init 39 = .ok (.aload_n 0, 1) := by decide +kernel
theorem dX2_init_40 : decode cX2_init 40 = .ok (.bipush 8, 2) := by decide +kernel
theorem dX2_init_42 : decode cX2_init 42 = .ok (.newarray .int, 2) := by decide +kernel
theorem dX2_init_44 : decode cX2_init 44 = .ok (.putfield 26, 3) := by decide +kernel
theorem dX2_init_47 : decode cX2_init 47 = .ok (.return_, 1) := by decide +kernel
theorem dX2_has_0 : decode cX2_has 0 = .ok (.iload_n 1, 1) := by decide +kernel
theorem dX2_has_1 : decode cX2_has 1 = .ok (.ifCond .lt 15, 3) := by decide +kernel
theorem dX2_has_4 : decode cX2_has 4 = .ok (.iload_n 1, 1) := by decide +kernel
theorem dX2_has_5 : decode cX2_has 5 = .ok (.aload_n 0, 1) := by decide +kernel
theorem dX2_has_6 : decode cX2_has 6 = .ok (.getfield 29, 3) := by decide +kernel
theorem dX2_has_9 : decode cX2_has 9 = .ok (.if_icmp .ge 7, 3) := by decide +kernel
theorem dX2_has_12 : decode cX2_has 12 = .ok (.iconst 1, 1) := by decide +kernel
theorem dX2_has_13 : decode cX2_has 13 = .ok (.goto 4, 3) := by decide +kernel
theorem dX2_has_16 : decode cX2_has 16 = .ok (.iconst 0, 1) := by decide +kernel
theorem dX2_has_17 : decode cX2_has 17 = .ok (.ireturn, 1) := by decide +kernel
theorem dX2_add_0 : decode cX2_add 0 = .ok (.aload_n 0, 1) := by decide +kernel
theorem dX2_add_1 : decode cX2_add 1 = .ok (.getfield 29, 3) := by decide +kernel
theorem dX2_add_4 : decode cX2_add 4 = .ok (.bipush 8, 2) := by decide +kernel
theorem dX2_add_6 : decode cX2_add 6 = .ok (.if_icmp .lt 6, 3) := by decide +kernel
theorem dX2_add_9 : decode cX2_add 9 = .ok (.ldc 33, 2) := by decide +kernel
theorem dX2_add_11 : decode cX2_add 11 = .ok (.ireturn, 1) := by decide +kernel
theorem dX2_add_12 : decode cX2_add 12 = .ok (.aload_n 0, 1) := by decide +kernel
theorem dX2_add_13 : decode cX2_add 13 = .ok (.getfield 29, 3) := by decide +kernel
theorem dX2_add_16 : decode cX2_add 16 = .ok (.istore 8, 2) := by decide +kernel
theorem dX2_add_18 : decode cX2_add 18 = .ok (.aload_n 0, 1) := by decide +kernel
theorem dX2_add_19 : decode cX2_add 19 = .ok (.getfield 9, 3) := by decide +kernel
theorem dX2_add_22 : decode cX2_add 22 = .ok (.iload 8, 2) := by decide +kernel
theorem dX2_add_24 : decode cX2_add 24 = .ok (.iload_n 1, 1) := by decide +kernel
theorem dX2_add_25 : decode cX2_add 25 = .ok (.iastore, 1) := by decide +kernel
theorem dX2_add_26 : decode cX2_add 26 = .ok (.aload_n 0, 1) := by decide +kernel
theorem dX2_add_27 : decode cX2_add 27 = .ok (.getfield 17, 3) := by decide +kernel
theorem dX2_add_30 : decode cX2_add 30 = .ok (.iload 8, 2) := by decide +kernel
theorem dX2_add_32 : decode cX2_add 32 = .ok (.aaload, 1) := by decide +kernel
theorem dX2_add_33 : decode cX2_add 33 = .ok (.iconst 0, 1) := by decide +kernel
theorem dX2_add_34 : decode cX2_add 34 = .ok (.iload_n 2, 1) := by decide +kernel
theorem dX2_add_35 : decode cX2_add 35 = .ok (.iastore, 1) := by decide +kernel
theorem dX2_add_36 : decode cX2_add 36 = .ok (.aload_n 0, 1) := by decide +kernel
theorem dX2_add_37 : decode cX2_add 37 = .ok (.getfield 17, 3) := by decide +kernel
theorem dX2_add_40 : decode cX2_add 40 = .ok (.iload 8, 2) := by decide +kernel
theorem dX2_add_42 : decode cX2_add 42 = .ok (.aaload, 1) := by decide +kernel
theorem dX2_add_43 : decode cX2_add 43 = .ok (.iconst 1, 1) := by decide +kernel
theorem dX2_add_44 : decode cX2_add 44 = .ok (.iload_n 3, 1) := by decide +kernel
theorem dX2_add_45 : decode cX2_add 45 = .ok (.iastore, 1) := by decide +kernel
theorem dX2_add_46 : decode cX2_add 46 = .ok (.aload_n 0, 1) := by decide +kernel
theorem dX2_add_47 : decode cX2_add 47 = .ok (.getfield 17, 3) := by decide +kernel
theorem dX2_add_50 : decode cX2_add 50 = .ok (.iload 8, 2) := by decide +kernel
theorem dX2_add_52 : decode cX2_add 52 = .ok (.aaload, 1) := by decide +kernel
theorem dX2_add_53 : decode cX2_add 53 = .ok (.iconst 2, 1) := by decide +kernel
theorem dX2_add_54 : decode cX2_add 54 = .ok (.iload 4, 2) := by decide +kernel
theorem dX2_add_56 : decode cX2_add 56 = .ok (.iastore, 1) := by decide +kernel
theorem dX2_add_57 : decode cX2_add 57 = .ok (.aload_n 0, 1) := by decide +kernel
theorem dX2_add_58 : decode cX2_add 58 = .ok (.getfield 17, 3) := by decide +kernel
theorem dX2_add_61 : decode cX2_add 61 = .ok (.iload 8, 2) := by decide +kernel
theorem dX2_add_63 : decode cX2_add 63 = .ok (.aaload, 1) := by decide +kernel
theorem dX2_add_64 : decode cX2_add 64 = .ok (.iconst 3, 1) := by decide +kernel
theorem dX2_add_65 : decode cX2_add 65 = .ok (.iload 5, 2) := by decide +kernel
theorem dX2_add_67 : decode cX2_add 67 = .ok (.iastore, 1) := by decide +kernel
theorem dX2_add_68 : decode cX2_add 68 = .ok (.aload_n 0, 1) := by decide +kernel
theorem dX2_add_69 : decode cX2_add 69 = .ok (.getfield 20, 3) := by decide +kernel
theorem dX2_add_72 : decode cX2_add 72 = .ok (.iload 8, 2) := by decide +kernel
theorem dX2_add_74 : decode cX2_add 74 = .ok (.iload 6, 2) := by decide +kernel
theorem dX2_add_76 : decode cX2_add 76 = .ok (.iastore, 1) := by decide +kernel
theorem dX2_add_77 : decode cX2_add 77 = .ok (.aload_n 0, 1) := by decide +kernel
theorem dX2_add_78 : decode cX2_add 78 = .ok (.getfield 23, 3) := by decide +kernel
theorem dX2_add_81 : decode cX2_add 81 = .ok (.iload 8, 2) := by decide +kernel
theorem dX2_add_83 : decode cX2_add 83 = .ok (.iload 7, 2) := by decide +kernel
theorem dX2_add_85 : decode cX2_add 85 = .ok (.iastore, 1) := by decide +kernel
theorem dX2_add_86 : decode cX2_add 86 = .ok (.aload_n 0, 1) := by decide +kernel
theorem dX2_add_87 : decode cX2_add 87 = .ok (.dup, 1) := by decide +kernel
theorem dX2_add_88 : decode cX2_add 88 = .ok (.getfield 29, 3) := by decide +kernel
theorem dX2_add_91 : decode cX2_add 91 = .ok (.iconst 1, 1) := by decide +kernel
theorem dX2_add_92 : decode cX2_add 92 = .ok (.iadd, 1) := by decide +kernel
theorem dX2_add_93 : decode cX2_add 93 = .ok (.putfield 29, 3) := by decide +kernel
theorem dX2_add_96 : decode cX2_add 96 = .ok (.iload 8, 2) := by decide +kernel
theorem dX2_add_98 : decode cX2_add 98 = .ok (.ireturn, 1) := by decide +kernel
theorem dX2_haveAll_0 : decode cX2_haveAll 0 = .ok (.iconst 0, 1) := by decide +kernel
theorem dX2_haveAll_1 : decode cX2_haveAll 1 = .ok (.istore_n 2, 1) := by decide +kernel
theorem dX2_haveAll_2 : decode cX2_haveAll 2 = .ok (.iload_n 2, 1) := by decide +kernel
theorem dX2_haveAll_3 : decode cX2_haveAll 3 = .ok (.bipush 8, 2) := by decide +kernel
theorem dX2_haveAll_5 : decode cX2_haveAll 5 = .ok (.if_icmp .ge 23, 3) := by decide +kernel
theorem dX2_haveAll_8 : decode cX2_haveAll 8 = .ok (.aload_n 0, 1) := by decide +kernel
theorem dX2_haveAll_9 : decode cX2_haveAll 9 = .ok (.getfield 26, 3) := by decide +kernel
theorem dX2_haveAll_12 : decode cX2_haveAll 12 = .ok (.iload_n 2, 1) := by decide +kernel
theorem dX2_haveAll_13 : decode cX2_haveAll 13 = .ok (.iaload, 1) := by decide +kernel
theorem dX2_haveAll_14 : decode cX2_haveAll 14 = .ok (.aload_n 1, 1) := by decide +kernel
theorem dX2_haveAll_15 : decode cX2_haveAll 15 = .ok (.iload_n 2, 1) := by decide +kernel
theorem dX2_haveAll_16 : decode cX2_haveAll 16 = .ok (.iaload, 1) := by decide +kernel
theorem dX2_haveAll_17 : decode cX2_haveAll 17 = .ok (.if_icmp .ge 5, 3) := by decide +kernel
theorem dX2_haveAll_20 : decode cX2_haveAll 20 = .ok (.iconst 0, 1) := by decide +kernel
theorem dX2_haveAll_21 : decode cX2_haveAll 21 = .ok (.ireturn, 1) := by decide +kernel
theorem dX2_haveAll_22 : decode cX2_haveAll 22 = .ok (.iinc 2 1, 3) := by decide +kernel
theorem dX2_haveAll_25 : decode cX2_haveAll 25 = .ok (.goto (-23), 3) := by decide +kernel
theorem dX2_haveAll_28 : decode cX2_haveAll 28 = .ok (.iconst 1, 1) := by decide +kernel
theorem dX2_haveAll_29 : decode cX2_haveAll 29 = .ok (.ireturn, 1) := by decide +kernel
theorem dX2_takeAll_0 : decode cX2_takeAll 0 = .ok (.iconst 0, 1) := by decide +kernel
theorem dX2_takeAll_1 : decode cX2_takeAll 1 = .ok (.istore_n 2, 1) := by decide +kernel
theorem dX2_takeAll_2 : decode cX2_takeAll 2 = .ok (.iload_n 2, 1) := by decide +kernel
theorem dX2_takeAll_3 : decode cX2_takeAll 3 = .ok (.bipush 8, 2) := by decide +kernel
theorem dX2_takeAll_5 : decode cX2_takeAll 5 = .ok (.if_icmp .ge 21, 3) := by decide +kernel
theorem dX2_takeAll_8 : decode cX2_takeAll 8 = .ok (.aload_n 0, 1) := by decide +kernel
theorem dX2_takeAll_9 : decode cX2_takeAll 9 = .ok (.getfield 26, 3) := by decide +kernel
theorem dX2_takeAll_12 : decode cX2_takeAll 12 = .ok (.iload_n 2, 1) := by decide +kernel
theorem dX2_takeAll_13 : decode cX2_takeAll 13 = .ok (.dup2, 1) := by decide +kernel
theorem dX2_takeAll_14 : decode cX2_takeAll 14 = .ok (.iaload, 1) := by decide +kernel
theorem dX2_takeAll_15 : decode cX2_takeAll 15 = .ok (.aload_n 1, 1) := by decide +kernel
theorem dX2_takeAll_16 : decode cX2_takeAll 16 = .ok (.iload_n 2, 1) := by decide +kernel
theorem dX2_takeAll_17 : decode cX2_takeAll 17 = .ok (.iaload, 1) := by decide +kernel
theorem dX2_takeAll_18 : decode cX2_takeAll 18 = .ok (.isub, 1) := by decide +kernel
theorem dX2_takeAll_19 : decode cX2_takeAll 19 = .ok (.iastore, 1) := by decide +kernel
theorem dX2_takeAll_20 : decode cX2_takeAll 20 = .ok (.iinc 2 1, 3) := by decide +kernel
theorem dX2_takeAll_23 : decode cX2_takeAll 23 = .ok (.goto (-21), 3) := by decide +kernel
theorem dX2_takeAll_26 : decode cX2_takeAll 26 = .ok (.return_, 1) := by decide +kernel
theorem dX2_takeBack_0 : decode cX2_takeBack 0 = .ok (.iconst 0, 1) := by decide +kernel
theorem dX2_takeBack_1 : decode cX2_takeBack 1 = .ok (.istore_n 2, 1) := by decide +kernel
theorem dX2_takeBack_2 : decode cX2_takeBack 2 = .ok (.iload_n 2, 1) := by decide +kernel
theorem dX2_takeBack_3 : decode cX2_takeBack 3 = .ok (.aload_n 0, 1) := by decide +kernel
theorem dX2_takeBack_4 : decode cX2_takeBack 4 = .ok (.getfield 29, 3) := by decide +kernel
theorem dX2_takeBack_7 : decode cX2_takeBack 7 = .ok (.if_icmp .ge 39, 3) := by decide +kernel
theorem dX2_takeBack_10 : decode cX2_takeBack 10 = .ok (.aload_n 0, 1) := by decide +kernel
theorem dX2_takeBack_11 : decode cX2_takeBack 11 = .ok (.getfield 9, 3) := by decide +kernel
theorem dX2_takeBack_14 : decode cX2_takeBack 14 = .ok (.iload_n 2, 1) := by decide +kernel
theorem dX2_takeBack_15 : decode cX2_takeBack 15 = .ok (.iaload, 1) := by decide +kernel
theorem dX2_takeBack_16 : decode cX2_takeBack 16 = .ok (.iconst 3, 1) := by decide +kernel
theorem dX2_takeBack_17 : decode cX2_takeBack 17 = .ok (.if_icmp .ne 23, 3) := by decide +kernel
theorem dX2_takeBack_20 : decode cX2_takeBack 20 = .ok (.aload_n 0, 1) := by decide +kernel
theorem dX2_takeBack_21 : decode cX2_takeBack 21 = .ok (.getfield 26, 3) := by decide +kernel
theorem dX2_takeBack_24 : decode cX2_takeBack 24 = .ok (.iload_n 2, 1) := by decide +kernel
theorem dX2_takeBack_25 : decode cX2_takeBack 25 = .ok (.aload_n 0, 1) := by decide +kernel
theorem dX2_takeBack_26 : decode cX2_takeBack 26 = .ok (.getfield 26, 3) := by decide +kernel
theorem dX2_takeBack_29 : decode cX2_takeBack 29 = .ok (.iload_n 2, 1) := by decide +kernel
theorem dX2_takeBack_30 : decode cX2_takeBack 30 = .ok (.iaload, 1) := by decide +kernel
theorem dX2_takeBack_31 : decode cX2_takeBack 31 = .ok (.iload_n 1, 1) := by decide +kernel
theorem dX2_takeBack_32 : decode cX2_takeBack 32 = .ok (.iadd, 1) := by decide +kernel
theorem dX2_takeBack_33 : decode cX2_takeBack 33 = .ok (.ldc 34, 2) := by decide +kernel
theorem dX2_takeBack_35 : decode cX2_takeBack 35 = .ok (.invokestatic 35, 3) := by decide +kernel
theorem dX2_takeBack_38 : decode cX2_takeBack 38 = .ok (.iastore, 1) := by decide +kernel
theorem dX2_takeBack_39 : decode cX2_takeBack 39 = .ok (.return_, 1) := by decide +kernel
theorem dX2_takeBack_40 : decode cX2_takeBack 40 = .ok (.iinc 2 1, 3) := by decide +kernel
theorem dX2_takeBack_43 : decode cX2_takeBack 43 = .ok (.goto (-41), 3) := by decide +kernel
theorem dX2_takeBack_46 : decode cX2_takeBack 46 = .ok (.return_, 1) := by decide +kernel
theorem dX3_init_0 : decode cX3_init 0 = .ok (.aload_n 0, 1) := by decide +kernel
theorem dX3_init_1 : decode cX3_init 1 = .ok (.invokespecial 3, 3) := by decide +kernel
theorem dX3_init_4 : decode cX3_init 4 = .ok (.aload_n 0, 1) := by decide +kernel
theorem dX3_init_5 : decode cX3_init 5 = .ok (.new 9, 3) := by decide +kernel
theorem dX3_init_8 : decode cX3_init 8 = .ok (.dup, 1) := by decide +kernel
theorem dX3_init_9 : decode cX3_init 9 = .ok (.invokespecial 11, 3) := by decide +kernel
theorem dX3_init_12 : decode cX3_init 12 = .ok (.putfield 12, 3) := by decide +kernel
theorem dX3_init_15 : decode cX3_init 15 = .ok (.aload_n 0, 1) := by decide +kernel
theorem dX3_init_16 : decode cX3_init 16 = .ok (.aload_n 1, 1) := by decide +kernel
theorem dX3_init_17 : decode cX3_init 17 = .ok (.putfield 18, 3) := by decide +kernel
theorem dX3_init_20 : decode cX3_init 20 = .ok (.aload_n 0, 1) := by decide +kernel
theorem dX3_init_21 : decode cX3_init 21 = .ok (.aload_n 2, 1) := by decide +kernel
theorem dX3_init_22 : decode cX3_init 22 = .ok (.putfield 22, 3) := by decide +kernel
theorem dX3_init_25 : decode cX3_init 25 = .ok (.aload_n 0, 1) := by decide +kernel
theorem dX3_init_26 : decode cX3_init 26 = .ok (.aload_n 3, 1) := by decide +kernel
theorem dX3_init_27 : decode cX3_init 27 = .ok (.putfield 26, 3) := by decide +kernel
theorem dX3_init_30 : decode cX3_init 30 = .ok (.aload_n 0, 1) := by decide +kernel
theorem dX3_init_31 : decode cX3_init 31 = .ok (.aload 4, 2) := by decide +kernel
theorem dX3_init_33 : decode cX3_init 33 = .ok (.putfield 30, 3) := by decide +kernel
theorem dX3_init_36 : decode cX3_init 36 = .ok (.aload_n 0, 1) := by decide +kernel
theorem dX3_init_37 : decode cX3_init 37 = .ok (.aload 5, 2) := by decide +kernel
theorem dX3_init_39 : decode cX3_init 39 = .ok (.putfield 33, 3) := by decide +kernel
theorem dX3_init_42 : decode cX3_init 42 = .ok (.return_, 1) := by decide +kernel
theorem dX3_firstHour_0 : decode cX3_firstHour 0 = .ok (.aload_n 0, 1) := by decide +kernel
theorem dX3_firstHour_1 : decode cX3_firstHour 1 = .ok (.getfield 26, 3) := by decide +kernel
theorem dX3_firstHour_4 : decode cX3_firstHour 4 = .ok (.aload_n 0, 1) := by decide +kernel
theorem dX3_firstHour_5 : decode cX3_firstHour 5 = .ok (.getfield 18, 3) := by decide +kernel
theorem dX3_firstHour_8 : decode cX3_firstHour 8 = .ok (.getfield 36, 3) := by decide +kernel
theorem dX3_firstHour_11 : decode cX3_firstHour 11 = .ok (.iconst (-1), 1) := by decide +kernel
theorem dX3_firstHour_12 : decode cX3_firstHour 12 = .ok (.iconst 0, 1) := by decide +kernel
theorem dX3_firstHour_13 : decode cX3_firstHour 13 = .ok (.invokevirtual 42, 3) := by decide +kernel
theorem dX3_firstHour_16 : decode cX3_firstHour 16 = .ok (.aload_n 0, 1) := by decide +kernel
theorem dX3_firstHour_17 : decode cX3_firstHour 17 = .ok (.iload_n 1, 1) := by decide +kernel
theorem dX3_firstHour_18 : decode cX3_firstHour 18 = .ok (.iconst 0, 1) := by decide +kernel
theorem dX3_firstHour_19 : decode cX3_firstHour 19 = .ok (.bipush 100, 2) := by decide +kernel
theorem dX3_firstHour_21 : decode cX3_firstHour 21 = .ok (.invokevirtual 48, 3) := by decide +kernel
theorem dX3_firstHour_24 : decode cX3_firstHour 24 = .ok (.ireturn, 1) := by decide +kernel
theorem dX3_hoursWithoutName_0 : decode cX3_hoursWithoutName 0 = .ok (.aload_n 0, 1) := by decide +kernel
theorem dX3_hoursWithoutName_1 : decode cX3_hoursWithoutName 1 = .ok (.getfield 26, 3) := by decide +kernel
theorem dX3_hoursWithoutName_4 : decode cX3_hoursWithoutName 4 = .ok (.aload_n 0, 1) := by decide +kernel
theorem dX3_hoursWithoutName_5 : decode cX3_hoursWithoutName 5 = .ok (.getfield 18, 3) := by decide +kernel
theorem dX3_hoursWithoutName_8 : decode cX3_hoursWithoutName 8 = .ok (.getfield 36, 3) := by decide +kernel
theorem dX3_hoursWithoutName_11 : decode cX3_hoursWithoutName 11 = .ok (.iconst (-1), 1) := by decide +kernel
theorem dX3_hoursWithoutName_12 : decode cX3_hoursWithoutName 12 = .ok (.iconst 0, 1) := by decide +kernel
theorem dX3_hoursWithoutName_13 : decode cX3_hoursWithoutName 13 = .ok (.invokevirtual 42, 3) := by decide +kernel
theorem dX3_hoursWithoutName_16 : decode cX3_hoursWithoutName 16 = .ok (.aload_n 0, 1) := by decide +kernel
theorem dX3_hoursWithoutName_17 : decode cX3_hoursWithoutName 17 = .ok (.getfield 33, 3) := by decide +kernel
theorem dX3_hoursWithoutName_20 : decode cX3_hoursWithoutName 20 = .ok (.aload_n 0, 1) := by decide +kernel
theorem dX3_hoursWithoutName_21 : decode cX3_hoursWithoutName 21 = .ok (.getfield 18, 3) := by decide +kernel
theorem dX3_hoursWithoutName_24 : decode cX3_hoursWithoutName 24 = .ok (.invokevirtual 52, 3) := by decide +kernel
theorem dX3_hoursWithoutName_27 : decode cX3_hoursWithoutName 27 = .ok (.iconst 0, 1) := by decide +kernel
theorem dX3_hoursWithoutName_28 : decode cX3_hoursWithoutName 28 = .ok (.istore_n 1, 1) := by decide +kernel
theorem dX3_hoursWithoutName_29 : decode cX3_hoursWithoutName 29 = .ok (.iconst 1, 1) := by decide +kernel
theorem dX3_hoursWithoutName_30 : decode cX3_hoursWithoutName 30 = .ok (.istore_n 2, 1) := by decide +kernel
theorem dX3_hoursWithoutName_31 : decode cX3_hoursWithoutName 31 = .ok (.iload_n 2, 1) := by decide +kernel
theorem dX3_hoursWithoutName_32 : decode cX3_hoursWithoutName 32 = .ok (.bipush 100, 2) := by decide +kernel
theorem dX3_hoursWithoutName_34 : decode cX3_hoursWithoutName 34 = .ok (.if_icmp .gt 35, 3) := by decide +kernel
theorem dX3_hoursWithoutName_37 : decode cX3_hoursWithoutName 37 = .ok (.aload_n 0, 1) := by decide +kernel
theorem dX3_hoursWithoutName_38 : decode cX3_hoursWithoutName 38 = .ok (.aload_n 0, 1) := by decide +kernel
theorem dX3_hoursWithoutName_39 : decode cX3_hoursWithoutName 39 = .ok (.getfield 26, 3) := by decide +kernel
theorem dX3_hoursWithoutName_42 : decode cX3_hoursWithoutName 42 = .ok (.invokevirtual 56, 3) := by decide +kernel
theorem dX3_hoursWithoutName_45 : decode cX3_hoursWithoutName 45 = .ok (.aload_n 0, 1) := by decide +kernel
theorem dX3_hoursWithoutName_46 : decode cX3_hoursWithoutName 46 = .ok (.getfield 22, 3) := by decide +kernel
theorem dX3_hoursWithoutName_49 : decode cX3_hoursWithoutName 49 = .ok (.aload_n 0, 1) := by decide +kernel
theorem dX3_hoursWithoutName_50 : decode cX3_hoursWithoutName 50 = .ok (.getfield 12, 3) := by decide +kernel
theorem dX3_hoursWithoutName_53 : decode cX3_hoursWithoutName 53 = .ok (.invokevirtual 60, 3) := by decide +kernel
theorem dX3_hoursWithoutName_56 : decode cX3_hoursWithoutName 56 = .ok (.iconst (-1), 1) := by decide +kernel
theorem dX3_hoursWithoutName_57 : decode cX3_hoursWithoutName 57 = .ok (.if_icmp .ne 6, 3) := by decide +kernel
theorem dX3_hoursWithoutName_60 : decode cX3_hoursWithoutName 60 = .ok (.iinc 1 1, 3) := by decide +kernel
theorem dX3_hoursWithoutName_63 : decode cX3_hoursWithoutName 63 = .ok (.iinc 2 1, 3) := by decide +kernel
theorem dX3_hoursWithoutName_66 : decode cX3_hoursWithoutName 66 = .ok (.goto (-35), 3) := by decide +kernel
theorem dX3_hoursWithoutName_69 : decode cX3_hoursWithoutName 69 = .ok (.iload_n 1, 1) := by decide +kernel
theorem dX3_hoursWithoutName_70 : decode cX3_hoursWithoutName 70 = .ok (.ireturn, 1) := by decide +kernel
theorem dX3_bestDose_0 : decode cX3_bestDose 0 = .ok (.aload_n 0, 1) := by decide +kernel
theorem dX3_bestDose_1 : decode cX3_bestDose 1 = .ok (.iload_n 1, 1) := by decide +kernel
theorem dX3_bestDose_2 : decode cX3_bestDose 2 = .ok (.invokevirtual 66, 3) := by decide +kernel
theorem dX3_bestDose_5 : decode cX3_bestDose 5 = .ok (.istore_n 3, 1) := by decide +kernel
theorem dX3_bestDose_6 : decode cX3_bestDose 6 = .ok (.ldc 70, 2) := by decide +kernel
theorem dX3_bestDose_8 : decode cX3_bestDose 8 = .ok (.iload_n 3, 1) := by decide +kernel
theorem dX3_bestDose_9 : decode cX3_bestDose 9 = .ok (.imul, 1) := by decide +kernel
theorem dX3_bestDose_10 : decode cX3_bestDose 10 = .ok (.istore 4, 2) := by decide +kernel
theorem dX3_bestDose_12 : decode cX3_bestDose 12 = .ok (.bipush 100, 2) := by decide +kernel
theorem dX3_bestDose_14 : decode cX3_bestDose 14 = .ok (.istore 5, 2) := by decide +kernel
theorem dX3_bestDose_16 : decode cX3_bestDose 16 = .ok (.iload 5, 2) := by decide +kernel
theorem dX3_bestDose_18 : decode cX3_bestDose 18 = .ok (.sipush 500, 3) := by decide +kernel
theorem dX3_bestDose_21 : decode cX3_bestDose 21 = .ok (.if_icmp .gt 91, 3) := by decide +kernel
theorem dX3_bestDose_24 : decode cX3_bestDose 24 = .ok (.aload_n 0, 1) := by decide +kernel
theorem dX3_bestDose_25 : decode cX3_bestDose 25 = .ok (.getfield 30, 3) := by decide +kernel
theorem dX3_bestDose_28 : decode cX3_bestDose 28 = .ok (.aload_n 0, 1) := by decide +kernel
theorem dX3_bestDose_29 : decode cX3_bestDose 29 = .ok (.getfield 18, 3) := by decide +kernel
theorem dX3_bestDose_32 : decode cX3_bestDose 32 = .ok (.getfield 36, 3) := by decide +kernel
theorem dX3_bestDose_35 : decode cX3_bestDose 35 = .ok (.iload_n 2, 1) := by decide +kernel
theorem dX3_bestDose_36 : decode cX3_bestDose 36 = .ok (.iload 5, 2) := by decide +kernel
theorem dX3_bestDose_38 : decode cX3_bestDose 38 = .ok (.invokevirtual 42, 3) := by decide +kernel
theorem dX3_bestDose_41 : decode cX3_bestDose 41 = .ok (.iconst 1, 1) := by decide +kernel
theorem dX3_bestDose_42 : decode cX3_bestDose 42 = .ok (.istore 6, 2) := by decide +kernel
theorem dX3_bestDose_44 : decode cX3_bestDose 44 = .ok (.iload 6, 2) := by decide +kernel
theorem dX3_bestDose_46 : decode cX3_bestDose 46 = .ok (.bipush 10, 2) := by decide +kernel
theorem dX3_bestDose_48 : decode cX3_bestDose 48 = .ok (.if_icmp .gt 58, 3) := by decide +kernel
theorem dX3_bestDose_51 : decode cX3_bestDose 51 = .ok (.iload_n 3, 1) := by decide +kernel
theorem dX3_bestDose_52 : decode cX3_bestDose 52 = .ok (.ifCond .ne 8, 3) := by decide +kernel
theorem dX3_bestDose_55 : decode cX3_bestDose 55 = .ok (.bipush 100, 2) := by decide +kernel
theorem dX3_bestDose_57 : decode cX3_bestDose 57 = .ok (.goto 6, 3) := by decide +kernel
theorem dX3_bestDose_60 : decode cX3_bestDose 60 = .ok (.iload_n 3, 1) := by decide +kernel
theorem dX3_bestDose_61 : decode cX3_bestDose 61 = .ok (.iconst 1, 1) := by decide +kernel
theorem dX3_bestDose_62 : decode cX3_bestDose 62 = .ok (.isub, 1) := by decide +kernel
theorem dX3_bestDose_63 : decode cX3_bestDose 63 = .ok (.istore 7, 2) := by decide +kernel
theorem dX3_bestDose_65 : decode cX3_bestDose 65 = .ok (.aload_n 0, 1) := by decide +kernel
theorem dX3_bestDose_66 : decode cX3_bestDose 66 = .ok (.iload_n 1, 1) := by decide +kernel
theorem dX3_bestDose_67 : decode cX3_bestDose 67 = .ok (.iload 6, 2) := by decide +kernel
theorem dX3_bestDose_69 : decode cX3_bestDose 69 = .ok (.iload 7, 2) := by decide +kernel
theorem dX3_bestDose_71 : decode cX3_bestDose 71 = .ok (.invokevirtual 48, 3) := by decide +kernel
theorem dX3_bestDose_74 : decode cX3_bestDose 74 = .ok (.istore 8, 2) := by decide +kernel
theorem dX3_bestDose_76 : decode cX3_bestDose 76 = .ok (.iload 8, 2) := by decide +kernel
theorem dX3_bestDose_78 : decode cX3_bestDose 78 = .ok (.ifCond .eq 22, 3) := by decide +kernel
theorem dX3_bestDose_81 : decode cX3_bestDose 81 = .ok (.iload 8, 2) := by decide +kernel
theorem dX3_bestDose_83 : decode cX3_bestDose 83 = .ok (.istore_n 3, 1) := by decide +kernel
theorem dX3_bestDose_84 : decode cX3_bestDose 84 = .ok (.ldc 70, 2) := by decide +kernel
theorem dX3_bestDose_86 : decode cX3_bestDose 86 = .ok (.iload 8, 2) := by decide +kernel
theorem dX3_bestDose_88 : decode cX3_bestDose 88 = .ok (.imul, 1) := by decide +kernel
theorem dX3_bestDose_89 : decode cX3_bestDose 89 = .ok (.bipush 100, 2) := by decide +kernel
theorem dX3_bestDose_91 : decode cX3_bestDose 91 = .ok (.iload 5, 2) := by decide +kernel
theorem dX3_bestDose_93 : decode cX3_bestDose 93 = .ok (.imul, 1) := by decide +kernel
theorem dX3_bestDose_94 : decode cX3_bestDose 94 = .ok (.iadd, 1) := by decide +kernel
theorem dX3_bestDose_95 : decode cX3_bestDose 95 = .ok (.iload 6, 2) := by decide +kernel
theorem dX3_bestDose_97 : decode cX3_bestDose 97 = .ok (.iadd, 1) := by decide +kernel
theorem dX3_bestDose_98 : decode cX3_bestDose 98 = .ok (.istore 4, 2) := by decide +kernel
theorem dX3_bestDose_100 : decode cX3_bestDose 100 = .ok (.iinc 6 1, 3) := by decide +kernel
theorem dX3_bestDose_103 : decode cX3_bestDose 103 = .ok (.goto (-59), 3) := by decide +kernel
theorem dX3_bestDose_106 : decode cX3_bestDose 106 = .ok (.iinc 5 100, 3) := by decide +kernel
theorem dX3_bestDose_109 : decode cX3_bestDose 109 = .ok (.goto (-93), 3) := by decide +kernel
theorem dX3_bestDose_112 : decode cX3_bestDose 112 = .ok (.iload 4, 2) := by decide +kernel
theorem dX3_bestDose_114 : decode cX3_bestDose 114 = .ok (.ireturn, 1) := by decide +kernel
theorem dX3_firstHourWithDose_0 : decode cX3_firstHourWithDose 0 = .ok (.aload_n 0, 1) := by decide +kernel
theorem dX3_firstHourWithDose_1 : decode cX3_firstHourWithDose 1 = .ok (.getfield 33, 3) := by decide +kernel
theorem dX3_firstHourWithDose_4 : decode cX3_firstHourWithDose 4 = .ok (.aload_n 0, 1) := by decide +kernel
theorem dX3_firstHourWithDose_5 : decode cX3_firstHourWithDose 5 = .ok (.getfield 18, 3) := by decide +kernel
theorem dX3_firstHourWithDose_8 : decode cX3_firstHourWithDose 8 = .ok (.invokevirtual 52, 3) := by decide +kernel
theorem dX3_firstHourWithDose_11 : decode cX3_firstHourWithDose 11 = .ok (.iconst 1, 1) := by decide +kernel
theorem dX3_firstHourWithDose_12 : decode cX3_firstHourWithDose 12 = .ok (.istore 4, 2) := by decide +kernel
theorem dX3_firstHourWithDose_14 : decode cX3_firstHourWithDose 14 = .ok (.iload 4, 2) := by decide +kernel
theorem dX3_firstHourWithDose_16 : decode cX3_firstHourWithDose 16 = .ok (.iload_n 3, 1) := by decide +kernel
theorem dX3_firstHourWithDose_17 : decode cX3_firstHourWithDose 17 = .ok (.if_icmp .gt 66, 3) := by decide +kernel
theorem dX3_firstHourWithDose_20 : decode cX3_firstHourWithDose 20 = .ok (.aload_n 0, 1) := by decide +kernel
theorem dX3_firstHourWithDose_21 : decode cX3_firstHourWithDose 21 = .ok (.iload 4, 2) := by decide +kernel
theorem dX3_firstHourWithDose_23 : decode cX3_firstHourWithDose 23 = .ok (.iload_n 2, 1) := by decide +kernel
theorem dX3_firstHourWithDose_24 : decode cX3_firstHourWithDose 24 = .ok (.if_icmp .gt 10, 3) := by decide +kernel
theorem dX3_firstHourWithDose_27 : decode cX3_firstHourWithDose 27 = .ok (.aload_n 0, 1) := by decide +kernel
theorem dX3_firstHourWithDose_28 : decode cX3_firstHourWithDose 28 = .ok (.getfield 30, 3) := by decide +kernel
theorem dX3_firstHourWithDose_31 : decode cX3_firstHourWithDose 31 = .ok (.goto 7, 3) := by decide +kernel
theorem dX3_firstHourWithDose_34 : decode cX3_firstHourWithDose 34 = .ok (.aload_n 0, 1) := by decide +kernel
theorem dX3_firstHourWithDose_35 : decode cX3_firstHourWithDose 35 = .ok (.getfield 26, 3) := by decide +kernel
theorem dX3_firstHourWithDose_38 : decode cX3_firstHourWithDose 38 = .ok (.invokevirtual 56, 3) := by decide +kernel
theorem dX3_firstHourWithDose_41 : decode cX3_firstHourWithDose 41 = .ok (.aload_n 0, 1) := by decide +kernel
theorem dX3_firstHourWithDose_42 : decode cX3_firstHourWithDose 42 = .ok (.getfield 22, 3) := by decide +kernel
theorem dX3_firstHourWithDose_45 : decode cX3_firstHourWithDose 45 = .ok (.iload_n 1, 1) := by decide +kernel
theorem dX3_firstHourWithDose_46 : decode cX3_firstHourWithDose 46 = .ok (.aload_n 0, 1) := by decide +kernel
theorem dX3_firstHourWithDose_47 : decode cX3_firstHourWithDose 47 = .ok (.getfield 12, 3) := by decide +kernel
theorem dX3_firstHourWithDose_50 : decode cX3_firstHourWithDose 50 = .ok (.invokevirtual 71, 3) := by decide +kernel
theorem dX3_firstHourWithDose_53 : decode cX3_firstHourWithDose 53 = .ok (.ifCond .eq 6, 3) := by decide +kernel
theorem dX3_firstHourWithDose_56 : decode cX3_firstHourWithDose 56 = .ok (.iload 4, 2) := by decide +kernel
theorem dX3_firstHourWithDose_58 : decode cX3_firstHourWithDose 58 = .ok (.ireturn, 1) := by decide +kernel
theorem dX3_firstHourWithDose_59 : decode cX3_firstHourWithDose 59 = .ok (.aload_n 0, 1) := by decide +kernel
theorem dX3_firstHourWithDose_60 : decode cX3_firstHourWithDose 60 = .ok (.getfield 33, 3) := by decide +kernel
theorem dX3_firstHourWithDose_63 : decode cX3_firstHourWithDose 63 = .ok (.getfield 75, 3) := by decide +kernel
theorem dX3_firstHourWithDose_66 : decode cX3_firstHourWithDose 66 = .ok (.ifCond .eq 11, 3) := by decide +kernel
theorem dX3_firstHourWithDose_69 : decode cX3_firstHourWithDose 69 = .ok (.iload 4, 2) := by decide +kernel
theorem dX3_firstHourWithDose_71 : decode cX3_firstHourWithDose 71 = .ok (.iload_n 2, 1) := by decide +kernel
theorem dX3_firstHourWithDose_72 : decode cX3_firstHourWithDose 72 = .ok (.if_icmp .le 5, 3) := by decide +kernel
theorem dX3_firstHourWithDose_75 : decode cX3_firstHourWithDose 75 = .ok (.iconst 0, 1) := by decide +kernel
theorem dX3_firstHourWithDose_76 : decode cX3_firstHourWithDose 76 = .ok (.ireturn, 1) := by decide +kernel
theorem dX3_firstHourWithDose_77 : decode cX3_firstHourWithDose 77 = .ok (.iinc 4 1, 3) := by decide +kernel
theorem dX3_firstHourWithDose_80 : decode cX3_firstHourWithDose 80 = .ok (.goto (-66), 3) := by decide +kernel
theorem dX3_firstHourWithDose_83 : decode cX3_firstHourWithDose 83 = .ok (.iconst 0, 1) := by decide +kernel
theorem dX3_firstHourWithDose_84 : decode cX3_firstHourWithDose 84 = .ok (.ireturn, 1) := by decide +kernel
theorem dX3_passHour_0 : decode cX3_passHour 0 = .ok (.aload_n 0, 1) := by decide +kernel
theorem dX3_passHour_1 : decode cX3_passHour 1 = .ok (.getfield 33, 3) := by decide +kernel
theorem dX3_passHour_4 : decode cX3_passHour 4 = .ok (.aload_n 1, 1) := by decide +kernel
theorem dX3_passHour_5 : decode cX3_passHour 5 = .ok (.invokevirtual 79, 3) := by decide +kernel
theorem dX3_passHour_8 : decode cX3_passHour 8 = .ok (.aload_n 0, 1) := by decide +kernel
theorem dX3_passHour_9 : decode cX3_passHour 9 = .ok (.getfield 12, 3) := by decide +kernel
theorem dX3_passHour_12 : decode cX3_passHour 12 = .ok (.aload_n 0, 1) := by decide +kernel
theorem dX3_passHour_13 : decode cX3_passHour 13 = .ok (.getfield 33, 3) := by decide +kernel
theorem dX3_passHour_16 : decode cX3_passHour 16 = .ok (.invokevirtual 82, 3) := by decide +kernel
theorem dX3_passHour_19 : decode cX3_passHour 19 = .ok (.return_, 1) := by decide +kernel
theorem dX4_init_0 : decode cX4_init 0 = .ok (.aload_n 0, 1) := by decide +kernel
theorem dX4_init_1 : decode cX4_init 1 = .ok (.invokespecial 3, 3) := by decide +kernel
theorem dX4_init_4 : decode cX4_init 4 = .ok (.aload_n 0, 1) := by decide +kernel
theorem dX4_init_5 : decode cX4_init 5 = .ok (.iconst 4, 1) := by decide +kernel
theorem dX4_init_6 : decode cX4_init 6 = .ok (.newarray .int, 2) := by decide +kernel
theorem dX4_init_8 : decode cX4_init 8 = .ok (.putfield 9, 3) := by decide +kernel
theorem dX4_init_11 : decode cX4_init 11 = .ok (.aload_n 0, 1) := by decide +kernel
theorem dX4_init_12 : decode cX4_init 12 = .ok (.bipush 8, 2) := by decide +kernel
theorem dX4_init_14 : decode cX4_init 14 = .ok (.newarray .int, 2) := by decide +kernel
theorem dX4_init_16 : decode cX4_init 16 = .ok (.putfield 15, 3) := by decide +kernel
theorem dX4_init_19 : decode cX4_init 19 = .ok (.return_, 1) := by decide +kernel
theorem dX4_read_0 : decode cX4_read 0 = .ok (.aload_n 1, 1) := by decide +kernel
theorem dX4_read_1 : decode cX4_read 1 = .ok (.invokevirtual 18, 3) := by decide +kernel
theorem dX4_read_4 : decode cX4_read 4 = .ok (.astore_n 2, 1) := by decide +kernel
theorem dX4_read_5 : decode cX4_read 5 = .ok (.iconst 0, 1) := by decide +kernel
theorem dX4_read_6 : decode cX4_read 6 = .ok (.istore_n 3, 1) := by decide +kernel
theorem dX4_read_7 : decode cX4_read 7 = .ok (.iload_n 3, 1) := by decide +kernel
theorem dX4_read_8 : decode cX4_read 8 = .ok (.iconst 4, 1) := by decide +kernel
theorem dX4_read_9 : decode cX4_read 9 = .ok (.if_icmp .ge 16, 3) := by decide +kernel
theorem dX4_read_12 : decode cX4_read 12 = .ok (.aload_n 0, 1) := by decide +kernel
theorem dX4_read_13 : decode cX4_read 13 = .ok (.getfield 9, 3) := by decide +kernel
theorem dX4_read_16 : decode cX4_read 16 = .ok (.iload_n 3, 1) := by decide +kernel
theorem dX4_read_17 : decode cX4_read 17 = .ok (.iconst 0, 1) := by decide +kernel
theorem dX4_read_18 : decode cX4_read 18 = .ok (.iastore, 1) := by decide +kernel
theorem dX4_read_19 : decode cX4_read 19 = .ok (.iinc 3 1, 3) := by decide +kernel
theorem dX4_read_22 : decode cX4_read 22 = .ok (.goto (-15), 3) := by decide +kernel
theorem dX4_read_25 : decode cX4_read 25 = .ok (.iconst 0, 1) := by decide +kernel
theorem dX4_read_26 : decode cX4_read 26 = .ok (.istore_n 3, 1) := by decide +kernel
theorem dX4_read_27 : decode cX4_read 27 = .ok (.iload_n 3, 1) := by decide +kernel
theorem dX4_read_28 : decode cX4_read 28 = .ok (.bipush 8, 2) := by decide +kernel
theorem dX4_read_30 : decode cX4_read 30 = .ok (.if_icmp .ge 64, 3) := by decide +kernel
theorem dX4_read_33 : decode cX4_read 33 = .ok (.iconst 0, 1) := by decide +kernel
theorem dX4_read_34 : decode cX4_read 34 = .ok (.istore 4, 2) := by decide +kernel
theorem dX4_read_36 : decode cX4_read 36 = .ok (.iconst 0, 1) := by decide +kernel
theorem dX4_read_37 : decode cX4_read 37 = .ok (.istore 5, 2) := by decide +kernel
theorem dX4_read_39 : decode cX4_read 39 = .ok (.iload 5, 2) := by decide +kernel
theorem dX4_read_41 : decode cX4_read 41 = .ok (.iconst 4, 1) := by decide +kernel
theorem dX4_read_42 : decode cX4_read 42 = .ok (.if_icmp .ge 38, 3) := by decide +kernel
theorem dX4_read_45 : decode cX4_read 45 = .ok (.aload_n 2, 1) := by decide +kernel
theorem dX4_read_46 : decode cX4_read 46 = .ok (.iload_n 3, 1) := by decide +kernel
theorem dX4_read_47 : decode cX4_read 47 = .ok (.iconst 4, 1) := by decide +kernel
theorem dX4_read_48 : decode cX4_read 48 = .ok (.imul, 1) := by decide +kernel
theorem dX4_read_49 : decode cX4_read 49 = .ok (.iload 5, 2) := by decide +kernel
theorem dX4_read_51 : decode cX4_read 51 = .ok (.iadd, 1) := by decide +kernel
theorem dX4_read_52 : decode cX4_read 52 = .ok (.iaload, 1) := by decide +kernel
theorem dX4_read_53 : decode cX4_read 53 = .ok (.istore 6, 2) := by decide +kernel
theorem dX4_read_55 : decode cX4_read 55 = .ok (.aload_n 0, 1) := by decide +kernel
theorem dX4_read_56 : decode cX4_read 56 = .ok (.getfield 9, 3) := by decide +kernel
theorem dX4_read_59 : decode cX4_read 59 = .ok (.iload 5, 2) := by decide +kernel
theorem dX4_read_61 : decode cX4_read 61 = .ok (.dup2, 1) := by decide +kernel
theorem dX4_read_62 : decode cX4_read 62 = .ok (.iaload, 1) := by decide +kernel
theorem dX4_read_63 : decode cX4_read 63 = .ok (.iload 6, 2) := by decide +kernel
theorem dX4_read_65 : decode cX4_read 65 = .ok (.iadd, 1) := by decide +kernel
theorem dX4_read_66 : decode cX4_read 66 = .ok (.iastore, 1) := by decide +kernel
theorem dX4_read_67 : decode cX4_read 67 = .ok (.iload 4, 2) := by decide +kernel
theorem dX4_read_69 : decode cX4_read 69 = .ok (.iload 6, 2) := by decide +kernel
theorem dX4_read_71 : decode cX4_read 71 = .ok (.iadd, 1) := by decide +kernel
theorem dX4_read_72 : decode cX4_read 72 = .ok (.istore 4, 2) := by decide +kernel
theorem dX4_read_74 : decode cX4_read 74 = .ok (.iinc 5 1, 3) := by decide +kernel
theorem dX4_read_77 : decode cX4_read 77 = .ok (.goto (-38), 3) := by decide +kernel
theorem dX4_read_80 : decode cX4_read 80 = .ok (.aload_n 0, 1) := by decide +kernel
theorem dX4_read_81 : decode cX4_read 81 = .ok (.getfield 15, 3) := by decide +kernel
theorem dX4_read_84 : decode cX4_read 84 = .ok (.iload_n 3, 1) := by decide +kernel
theorem dX4_read_85 : decode cX4_read 85 = .ok (.iload 4, 2) := by decide +kernel
theorem dX4_read_87 : decode cX4_read 87 = .ok (.iastore, 1) := by decide +kernel
theorem dX4_read_88 : decode cX4_read 88 = .ok (.iinc 3 1, 3) := by decide +kernel
theorem dX4_read_91 : decode cX4_read 91 = .ok (.goto (-64), 3) := by decide +kernel
theorem dX4_read_94 : decode cX4_read 94 = .ok (.aload_n 0, 1) := by decide +kernel
theorem dX4_read_95 : decode cX4_read 95 = .ok (.aload_n 1, 1) := by decide +kernel
theorem dX4_read_96 : decode cX4_read 96 = .ok (.getfield 24, 3) := by decide +kernel
theorem dX4_read_99 : decode cX4_read 99 = .ok (.putfield 28, 3) := by decide +kernel
theorem dX4_read_102 : decode cX4_read 102 = .ok (.return_, 1) := by decide +kernel
theorem dX5_init_0 : decode cX5_init 0 = .ok (.aload_n 0, 1) := by decide +kernel
theorem dX5_init_1 : decode cX5_init 1 = .ok (.invokespecial 3, 3) := by decide +kernel
theorem dX5_init_4 : decode cX5_init 4 = .ok (.aload_n 0, 1) := by decide +kernel
theorem dX5_init_5 : decode cX5_init 5 = .ok (.sipush 1600, 3) := by decide +kernel
theorem dX5_init_8 : decode cX5_init 8 = .ok (.newarray .int, 2) := by decide +kernel
theorem dX5_init_10 : decode cX5_init 10 = .ok (.putfield 9, 3) := by decide +kernel
theorem dX5_init_13 : decode cX5_init 13 = .ok (.aload_n 0, 1) := by decide +kernel
theorem dX5_init_14 : decode cX5_init 14 = .ok (.sipush 3200, 3) := by decide +kernel
theorem dX5_init_17 : decode cX5_init 17 = .ok (.newarray .int, 2) := by decide +kernel
theorem dX5_init_19 : decode cX5_init 19 = .ok (.putfield 15, 3) := by decide +kernel
theorem dX5_init_22 : decode cX5_init 22 = .ok (.aload_n 0, 1) := by decide +kernel
theorem dX5_init_23 : decode cX5_init 23 = .ok (.sipush 400, 3) := by decide +kernel
theorem dX5_init_26 : decode cX5_init 26 = .ok (.newarray .int, 2) := by decide +kernel
theorem dX5_init_28 : decode cX5_init 28 = .ok (.putfield 18, 3) := by decide +kernel
theorem dX5_init_31 : decode cX5_init 31 = .ok (.aload_n 0, 1) := by decide +kernel
theorem dX5_init_32 : decode cX5_init 32 = .ok (.sipush 400, 3) := by decide +kernel
theorem dX5_init_35 : decode cX5_init 35 = .ok (.newarray .int, 2) := by decide +kernel
theorem dX5_init_37 : decode cX5_init 37 = .ok (.putfield 21, 3) := by decide +kernel
theorem dX5_init_40 : decode cX5_init 40 = .ok (.aload_n 0, 1) := by decide +kernel
theorem dX5_init_41 : decode cX5_init 41 = .ok (.sipush 400, 3) := by decide +kernel
theorem dX5_init_44 : decode cX5_init 44 = .ok (.newarray .boolean, 2) := by decide +kernel
theorem dX5_init_46 : decode cX5_init 46 = .ok (.putfield 24, 3) := by decide +kernel
theorem dX5_init_49 : decode cX5_init 49 = .ok (.return_, 1) := by decide +kernel
theorem dX5_has_0 : decode cX5_has 0 = .ok (.iload_n 1, 1) := by decide +kernel
theorem dX5_has_1 : decode cX5_has 1 = .ok (.ifCond .lt 15, 3) := by decide +kernel
theorem dX5_has_4 : decode cX5_has 4 = .ok (.iload_n 1, 1) := by decide +kernel
theorem dX5_has_5 : decode cX5_has 5 = .ok (.aload_n 0, 1) := by decide +kernel
theorem dX5_has_6 : decode cX5_has 6 = .ok (.getfield 28, 3) := by decide +kernel
theorem dX5_has_9 : decode cX5_has 9 = .ok (.if_icmp .ge 7, 3) := by decide +kernel
theorem dX5_has_12 : decode cX5_has 12 = .ok (.iconst 1, 1) := by decide +kernel
theorem dX5_has_13 : decode cX5_has 13 = .ok (.goto 4, 3) := by decide +kernel
theorem dX5_has_16 : decode cX5_has 16 = .ok (.iconst 0, 1) := by decide +kernel
theorem dX5_has_17 : decode cX5_has 17 = .ok (.ireturn, 1) := by decide +kernel
theorem dX5_clear_0 : decode cX5_clear 0 = .ok (.aload_n 0, 1) := by decide +kernel
theorem dX5_clear_1 : decode cX5_clear 1 = .ok (.iconst 0, 1) := by decide +kernel
theorem dX5_clear_2 : decode cX5_clear 2 = .ok (.putfield 28, 3) := by decide +kernel
theorem dX5_clear_5 : decode cX5_clear 5 = .ok (.aload_n 0, 1) := by decide +kernel
theorem dX5_clear_6 : decode cX5_clear 6 = .ok (.iconst 0, 1) := by decide +kernel
theorem dX5_clear_7 : decode cX5_clear 7 = .ok (.putfield 32, 3) := by decide +kernel
theorem dX5_clear_10 : decode cX5_clear 10 = .ok (.aload_n 0, 1) := by decide +kernel
theorem dX5_clear_11 : decode cX5_clear 11 = .ok (.iconst 0, 1) := by decide +kernel
theorem dX5_clear_12 : decode cX5_clear 12 = .ok (.putfield 35, 3) := by decide +kernel
theorem dX5_clear_15 : decode cX5_clear 15 = .ok (.return_, 1) := by decide +kernel
theorem dX5_add_0 : decode cX5_add 0 = .ok (.aload_n 0, 1) := by decide +kernel
theorem dX5_add_1 : decode cX5_add 1 = .ok (.getfield 28, 3) := by decide +kernel
theorem dX5_add_4 : decode cX5_add 4 = .ok (.sipush 400, 3) := by decide +kernel
theorem dX5_add_7 : decode cX5_add 7 = .ok (.if_icmp .lt 4, 3) := by decide +kernel
theorem dX5_add_10 : decode cX5_add 10 = .ok (.return_, 1) := by decide +kernel
theorem dX5_add_11 : decode cX5_add 11 = .ok (.aload_n 1, 1) := by decide +kernel
theorem dX5_add_12 : decode cX5_add 12 = .ok (.getfield 38, 3) := by decide +kernel
theorem dX5_add_15 : decode cX5_add 15 = .ok (.iconst 0, 1) := by decide +kernel
theorem dX5_add_16 : decode cX5_add 16 = .ok (.aload_n 0, 1) := by decide +kernel
theorem dX5_add_17 : decode cX5_add 17 = .ok (.getfield 9, 3) := by decide +kernel
theorem dX5_add_20 : decode cX5_add 20 = .ok (.aload_n 0, 1) := by decide +kernel
theorem dX5_add_21 : decode cX5_add 21 = .ok (.getfield 28, 3) := by decide +kernel
theorem dX5_add_24 : decode cX5_add 24 = .ok (.iconst 4, 1) := by decide +kernel
theorem dX5_add_25 : decode cX5_add 25 = .ok (.imul, 1) := by decide +kernel
theorem dX5_add_26 : decode cX5_add 26 = .ok (.iconst 4, 1) := by decide +kernel
theorem dX5_add_27 : decode cX5_add 27 = .ok (.invokestatic 41, 3) := by decide +kernel
theorem dX5_add_30 : decode cX5_add 30 = .ok (.aload_n 1, 1) := by decide +kernel
theorem dX5_add_31 : decode cX5_add 31 = .ok (.getfield 47, 3) := by decide +kernel
theorem dX5_add_34 : decode cX5_add 34 = .ok (.iconst 0, 1) := by decide +kernel
theorem dX5_add_35 : decode cX5_add 35 = .ok (.aload_n 0, 1) := by decide +kernel
theorem dX5_add_36 : decode cX5_add 36 = .ok (.getfield 15, 3) := by decide +kernel
theorem dX5_add_39 : decode cX5_add 39 = .ok (.aload_n 0, 1) := by decide +kernel
theorem dX5_add_40 : decode cX5_add 40 = .ok (.getfield 28, 3) := by decide +kernel
theorem dX5_add_43 : decode cX5_add 43 = .ok (.bipush 8, 2) := by decide +kernel
theorem dX5_add_45 : decode cX5_add 45 = .ok (.imul, 1) := by decide +kernel
theorem dX5_add_46 : decode cX5_add 46 = .ok (.bipush 8, 2) := by decide +kernel
theorem dX5_add_48 : decode cX5_add 48 = .ok (.invokestatic 41, 3) := by decide +kernel
theorem dX5_add_51 : decode cX5_add 51 = .ok (.aload_n 0, 1) := by decide +kernel
theorem dX5_add_52 : decode cX5_add 52 = .ok (.getfield 18, 3) := by decide +kernel
theorem dX5_add_55 : decode cX5_add 55 = .ok (.aload_n 0, 1) := by decide +kernel
theorem dX5_add_56 : decode cX5_add 56 = .ok (.getfield 28, 3) := by decide +kernel
theorem dX5_add_59 : decode cX5_add 59 = .ok (.aload_n 1, 1) := by decide +kernel
theorem dX5_add_60 : decode cX5_add 60 = .ok (.getfield 48, 3) := by decide +kernel
theorem dX5_add_63 : decode cX5_add 63 = .ok (.iastore, 1) := by decide +kernel
theorem dX5_add_64 : decode cX5_add 64 = .ok (.aload_n 0, 1) := by decide +kernel
theorem dX5_add_65 : decode cX5_add 65 = .ok (.getfield 21, 3) := by decide +kernel
theorem dX5_add_68 : decode cX5_add 68 = .ok (.aload_n 0, 1) := by decide +kernel
theorem dX5_add_69 : decode cX5_add 69 = .ok (.getfield 28, 3) := by decide +kernel
theorem dX5_add_72 : decode cX5_add 72 = .ok (.iload_n 2, 1) := by decide +kernel
theorem dX5_add_73 : decode cX5_add 73 = .ok (.iastore, 1) := by decide +kernel
theorem dX5_add_74 : decode cX5_add 74 = .ok (.aload_n 0, 1) := by decide +kernel
theorem dX5_add_75 : decode cX5_add 75 = .ok (.getfield 24, 3) := by decide +kernel
theorem dX5_add_78 : decode cX5_add 78 = .ok (.aload_n 0, 1) := by decide +kernel
theorem dX5_add_79 : decode cX5_add 79 = .ok (.getfield 28, 3) := by decide +kernel
theorem dX5_add_82 : decode cX5_add 82 = .ok (.iload_n 3, 1) := by decide +kernel
theorem dX5_add_83 : decode cX5_add 83 = .ok (.bastore, 1) := by decide +kernel
theorem dX5_add_84 : decode cX5_add 84 = .ok (.aload_n 0, 1) := by decide +kernel
theorem dX5_add_85 : decode cX5_add 85 = .ok (.dup, 1) := by decide +kernel
theorem dX5_add_86 : decode cX5_add 86 = .ok (.getfield 28, 3) := by decide +kernel
theorem dX5_add_89 : decode cX5_add 89 = .ok (.iconst 1, 1) := by decide +kernel
theorem dX5_add_90 : decode cX5_add 90 = .ok (.iadd, 1) := by decide +kernel
theorem dX5_add_91 : decode cX5_add 91 = .ok (.putfield 28, 3) := by decide +kernel
theorem dX5_add_94 : decode cX5_add 94 = .ok (.aload_n 0, 1) := by decide +kernel
theorem dX5_add_95 : decode cX5_add 95 = .ok (.dup, 1) := by decide +kernel
theorem dX5_add_96 : decode cX5_add 96 = .ok (.getfield 35, 3) := by decide +kernel
theorem dX5_add_99 : decode cX5_add 99 = .ok (.aload_n 1, 1) := by decide +kernel
theorem dX5_add_100 : decode cX5_add 100 = .ok (.getfield 48, 3) := by decide +kernel
theorem dX5_add_103 : decode cX5_add 103 = .ok (.iadd, 1) := by decide +kernel
theorem dX5_add_104 : decode cX5_add 104 = .ok (.putfield 35, 3) := by decide +kernel
theorem dX5_add_107 : decode cX5_add 107 = .ok (.iload_n 3, 1) := by decide +kernel
theorem dX5_add_108 : decode cX5_add 108 = .ok (.ifCond .eq 16, 3) := by decide +kernel
theorem dX5_add_111 : decode cX5_add 111 = .ok (.aload_n 0, 1) := by decide +kernel
theorem dX5_add_112 : decode cX5_add 112 = .ok (.dup, 1) := by decide +kernel
theorem dX5_add_113 : decode cX5_add 113 = .ok (.getfield 32, 3) := by decide +kernel
theorem dX5_add_116 : decode cX5_add 116 = .ok (.aload_n 1, 1) := by decide +kernel
theorem dX5_add_117 : decode cX5_add 117 = .ok (.getfield 48, 3) := by decide +kernel
theorem dX5_add_120 : decode cX5_add 120 = .ok (.iadd, 1) := by decide +kernel
theorem dX5_add_121 : decode cX5_add 121 = .ok (.putfield 32, 3) := by decide +kernel
theorem dX5_add_124 : decode cX5_add 124 = .ok (.return_, 1) := by decide +kernel
theorem dX6_init_0 : decode cX6_init 0 = .ok (.aload_n 0, 1) := by decide +kernel
theorem dX6_init_1 : decode cX6_init 1 = .ok (.invokespecial 3, 3) := by decide +kernel
theorem dX6_init_4 : decode cX6_init 4 = .ok (.aload_n 0, 1) := by decide +kernel
theorem dX6_init_5 : decode cX6_init 5 = .ok (.bipush 8, 2) := by decide +kernel
theorem dX6_init_7 : decode cX6_init 7 = .ok (.newarray .int, 2) := by decide +kernel
theorem dX6_init_9 : decode cX6_init 9 = .ok (.putfield 9, 3) := by decide +kernel
theorem dX6_init_12 : decode cX6_init 12 = .ok (.aload_n 0, 1) := by decide +kernel
theorem dX6_init_13 : decode cX6_init 13 = .ok (.bipush 8, 2) := by decide +kernel
theorem dX6_init_15 : decode cX6_init 15 = .ok (.newarray .int, 2) := by decide +kernel
theorem dX6_init_17 : decode cX6_init 17 = .ok (.putfield 15, 3) := by decide +kernel
theorem dX6_init_20 : decode cX6_init 20 = .ok (.return_, 1) := by decide +kernel
theorem dX6_become_0 : decode cX6_become 0 = .ok (.iconst 0, 1) := by decide +kernel
theorem dX6_become_1 : decode cX6_become 1 = .ok (.istore_n 2, 1) := by decide +kernel
theorem dX6_become_2 : decode cX6_become 2 = .ok (.iload_n 2, 1) := by decide +kernel
theorem dX6_become_3 : decode cX6_become 3 = .ok (.bipush 8, 2) := by decide +kernel
theorem dX6_become_5 : decode cX6_become 5 = .ok (.if_icmp .ge 27, 3) := by decide +kernel
theorem dX6_become_8 : decode cX6_become 8 = .ok (.aload_n 0, 1) := by decide +kernel
theorem dX6_become_9 : decode cX6_become 9 = .ok (.getfield 9, 3) := by decide +kernel
theorem dX6_become_12 : decode cX6_become 12 = .ok (.iload_n 2, 1) := by decide +kernel
theorem dX6_become_13 : decode cX6_become 13 = .ok (.aload_n 1, 1) := by decide +kernel
theorem dX6_become_14 : decode cX6_become 14 = .ok (.iload_n 2, 1) := by decide +kernel
theorem dX6_become_15 : decode cX6_become 15 = .ok (.iaload, 1) := by decide +kernel
theorem dX6_become_16 : decode cX6_become 16 = .ok (.iastore, 1) := by decide +kernel
theorem dX6_become_17 : decode cX6_become 17 = .ok (.aload_n 0, 1) := by decide +kernel
theorem dX6_become_18 : decode cX6_become 18 = .ok (.getfield 15, 3) := by decide +kernel
theorem dX6_become_21 : decode cX6_become 21 = .ok (.iload_n 2, 1) := by decide +kernel
theorem dX6_become_22 : decode cX6_become 22 = .ok (.aload_n 1, 1) := by decide +kernel
theorem dX6_become_23 : decode cX6_become 23 = .ok (.iload_n 2, 1) := by decide +kernel
theorem dX6_become_24 : decode cX6_become 24 = .ok (.iaload, 1) := by decide +kernel
theorem dX6_become_25 : decode cX6_become 25 = .ok (.iastore, 1) := by decide +kernel
theorem dX6_become_26 : decode cX6_become 26 = .ok (.iinc 2 1, 3) := by decide +kernel
theorem dX6_become_29 : decode cX6_become 29 = .ok (.goto (-27), 3) := by decide +kernel
theorem dX6_become_32 : decode cX6_become 32 = .ok (.aload_n 0, 1) := by decide +kernel
theorem dX6_become_33 : decode cX6_become 33 = .ok (.iconst 1, 1) := by decide +kernel
theorem dX6_become_34 : decode cX6_become 34 = .ok (.putfield 18, 3) := by decide +kernel
theorem dX6_become_37 : decode cX6_become 37 = .ok (.return_, 1) := by decide +kernel
theorem dX7_init_0 : decode cX7_init 0 = .ok (.aload_n 0, 1) := by decide +kernel
theorem dX7_init_1 : decode cX7_init 1 = .ok (.invokespecial 3, 3) := by decide +kernel
theorem dX7_init_4 : decode cX7_init 4 = .ok (.aload_n 0, 1) := by decide +kernel
theorem dX7_init_5 : decode cX7_init 5 = .ok (.bipush 8, 2) := by decide +kernel
theorem dX7_init_7 : decode cX7_init 7 = .ok (.newarray .int, 2) := by decide +kernel
theorem dX7_init_9 : decode cX7_init 9 = .ok (.putfield 9, 3) := by decide +kernel
theorem dX7_init_12 : decode cX7_init 12 = .ok (.aload_n 0, 1) := by decide +kernel
theorem dX7_init_13 : decode cX7_init 13 = .ok (.bipush 8, 2) := by decide +kernel
theorem dX7_init_15 : decode cX7_init 15 = .ok (.newarray .int, 2) := by decide +kernel
theorem dX7_init_17 : decode cX7_init 17 = .ok (.putfield 15, 3) := by decide +kernel
theorem dX7_init_20 : decode cX7_init 20 = .ok (.aload_n 0, 1) := by decide +kernel
theorem dX7_init_21 : decode cX7_init 21 = .ok (.aload_n 1, 1) := by decide +kernel
theorem dX7_init_22 : decode cX7_init 22 = .ok (.putfield 18, 3) := by decide +kernel
theorem dX7_init_25 : decode cX7_init 25 = .ok (.aload_n 0, 1) := by decide +kernel
theorem dX7_init_26 : decode cX7_init 26 = .ok (.aload_n 2, 1) := by decide +kernel
theorem dX7_init_27 : decode cX7_init 27 = .ok (.putfield 22, 3) := by decide +kernel
theorem dX7_init_30 : decode cX7_init 30 = .ok (.return_, 1) := by decide +kernel
theorem dX7_find_0 : decode cX7_find 0 = .ok (.aload_n 0, 1) := by decide +kernel
theorem dX7_find_1 : decode cX7_find 1 = .ok (.getfield 18, 3) := by decide +kernel
theorem dX7_find_4 : decode cX7_find 4 = .ok (.getfield 26, 3) := by decide +kernel
theorem dX7_find_7 : decode cX7_find 7 = .ok (.ifCond .ne 5, 3) := by decide +kernel
theorem dX7_find_10 : decode cX7_find 10 = .ok (.iconst 0, 1) := by decide +kernel
theorem dX7_find_11 : decode cX7_find 11 = .ok (.ireturn, 1) := by decide +kernel
theorem dX7_find_12 : decode cX7_find 12 = .ok (.iconst 0, 1) := by decide +kernel
theorem dX7_find_13 : decode cX7_find 13 = .ok (.istore_n 2, 1) := by decide +kernel
theorem dX7_find_14 : decode cX7_find 14 = .ok (.iload_n 2, 1) := by decide +kernel
theorem dX7_find_15 : decode cX7_find 15 = .ok (.bipush 8, 2) := by decide +kernel
theorem dX7_find_17 : decode cX7_find 17 = .ok (.if_icmp .ge 16, 3) := by decide +kernel
theorem dX7_find_20 : decode cX7_find 20 = .ok (.aload_n 0, 1) := by decide +kernel
theorem dX7_find_21 : decode cX7_find 21 = .ok (.getfield 9, 3) := by decide +kernel
theorem dX7_find_24 : decode cX7_find 24 = .ok (.iload_n 2, 1) := by decide +kernel
theorem dX7_find_25 : decode cX7_find 25 = .ok (.iconst 0, 1) := by decide +kernel
theorem dX7_find_26 : decode cX7_find 26 = .ok (.iastore, 1) := by decide +kernel
theorem dX7_find_27 : decode cX7_find 27 = .ok (.iinc 2 1, 3) := by decide +kernel
theorem dX7_find_30 : decode cX7_find 30 = .ok (.goto (-16), 3) := by decide +kernel
theorem dX7_find_33 : decode cX7_find 33 = .ok (.aload_n 0, 1) := by decide +kernel
theorem dX7_find_34 : decode cX7_find 34 = .ok (.getfield 9, 3) := by decide +kernel
theorem dX7_find_37 : decode cX7_find 37 = .ok (.iconst 0, 1) := by decide +kernel
theorem dX7_find_38 : decode cX7_find 38 = .ok (.sipush 1000, 3) := by decide +kernel
theorem dX7_find_41 : decode cX7_find 41 = .ok (.iastore, 1) := by decide +kernel
theorem dX7_find_42 : decode cX7_find 42 = .ok (.iconst 0, 1) := by decide +kernel
theorem dX7_find_43 : decode cX7_find 43 = .ok (.istore_n 2, 1) := by decide +kernel
theorem dX7_find_44 : decode cX7_find 44 = .ok (.iconst 1, 1) := by decide +kernel
theorem dX7_find_45 : decode cX7_find 45 = .ok (.istore_n 3, 1) := by decide +kernel
theorem dX7_find_46 : decode cX7_find 46 = .ok (.iconst 0, 1) := by decide +kernel
theorem dX7_find_47 : decode cX7_find 47 = .ok (.istore 4, 2) := by decide +kernel
theorem dX7_find_49 : decode cX7_find 49 = .ok (.iload 4, 2) := by decide +kernel
theorem dX7_find_51 : decode cX7_find 51 = .ok (.sipush 20000, 3) := by decide +kernel
theorem dX7_find_54 : decode cX7_find 54 = .ok (.if_icmp .ge 64, 3) := by decide +kernel
theorem dX7_find_57 : decode cX7_find 57 = .ok (.iload_n 3, 1) := by decide +kernel
theorem dX7_find_58 : decode cX7_find 58 = .ok (.ifCond .eq 60, 3) := by decide +kernel
theorem dX7_find_61 : decode cX7_find 61 = .ok (.aload_n 0, 1) := by decide +kernel
theorem dX7_find_62 : decode cX7_find 62 = .ok (.invokevirtual 32, 3) := by decide +kernel
theorem dX7_find_65 : decode cX7_find 65 = .ok (.istore 5, 2) := by decide +kernel
theorem dX7_find_67 : decode cX7_find 67 = .ok (.iload_n 2, 1) := by decide +kernel
theorem dX7_find_68 : decode cX7_find 68 = .ok (.ifCond .eq 12, 3) := by decide +kernel
theorem dX7_find_71 : decode cX7_find 71 = .ok (.iload 5, 2) := by decide +kernel
theorem dX7_find_73 : decode cX7_find 73 = .ok (.aload_n 0, 1) := by decide +kernel
theorem dX7_find_74 : decode cX7_find 74 = .ok (.getfield 36, 3) := by decide +kernel
theorem dX7_find_77 : decode cX7_find 77 = .ok (.if_icmp .ge 30, 3) := by decide +kernel
theorem dX7_find_80 : decode cX7_find 80 = .ok (.aload_n 0, 1) := by decide +kernel
theorem dX7_find_81 : decode cX7_find 81 = .ok (.getfield 22, 3) := by decide +kernel
theorem dX7_find_84 : decode cX7_find 84 = .ok (.iload_n 1, 1) := by decide +kernel
theorem dX7_find_85 : decode cX7_find 85 = .ok (.aload_n 0, 1) := by decide +kernel
theorem dX7_find_86 : decode cX7_find 86 = .ok (.getfield 9, 3) := by decide +kernel
theorem dX7_find_89 : decode cX7_find 89 = .ok (.aload_n 0, 1) := by decide +kernel
theorem dX7_find_90 : decode cX7_find 90 = .ok (.getfield 18, 3) := by decide +kernel
theorem dX7_find_93 : decode cX7_find 93 = .ok (.invokevirtual 39, 3) := by decide +kernel
theorem dX7_find_96 : decode cX7_find 96 = .ok (.ifCond .eq 11, 3) := by decide +kernel
theorem dX7_find_99 : decode cX7_find 99 = .ok (.iconst 1, 1) := by decide +kernel
theorem dX7_find_100 : decode cX7_find 100 = .ok (.istore_n 2, 1) := by decide +kernel
theorem dX7_find_101 : decode cX7_find 101 = .ok (.aload_n 0, 1) := by decide +kernel
theorem dX7_find_102 : decode cX7_find 102 = .ok (.iload 5, 2) := by decide +kernel
theorem dX7_find_104 : decode cX7_find 104 = .ok (.invokevirtual 45, 3) := by decide +kernel
theorem dX7_find_107 : decode cX7_find 107 = .ok (.aload_n 0, 1) := by decide +kernel
theorem dX7_find_108 : decode cX7_find 108 = .ok (.invokevirtual 49, 3) := by decide +kernel
theorem dX7_find_111 : decode cX7_find 111 = .ok (.istore_n 3, 1) := by decide +kernel
theorem dX7_find_112 : decode cX7_find 112 = .ok (.iinc 4 1, 3) := by decide +kernel
theorem dX7_find_115 : decode cX7_find 115 = .ok (.goto (-66), 3) := by decide +kernel
theorem dX7_find_118 : decode cX7_find 118 = .ok (.iload_n 2, 1) := by decide +kernel
theorem dX7_find_119 : decode cX7_find 119 = .ok (.ireturn, 1) := by decide +kernel
theorem dX7_costOfTrial_0 : decode cX7_costOfTrial 0 = .ok (.iconst 0, 1) := by decide +kernel
theorem dX7_costOfTrial_1 : decode cX7_costOfTrial 1 = .ok (.istore_n 1, 1) := by decide +kernel
theorem dX7_costOfTrial_2 : decode cX7_costOfTrial 2 = .ok (.iconst 0, 1) := by decide +kernel
theorem dX7_costOfTrial_3 : decode cX7_costOfTrial 3 = .ok (.istore_n 2, 1) := by decide +kernel
theorem dX7_costOfTrial_4 : decode cX7_costOfTrial 4 = .ok (.iload_n 2, 1) := by decide +kernel
theorem dX7_costOfTrial_5 : decode cX7_costOfTrial 5 = .ok (.aload_n 0, 1) := by decide +kernel
theorem dX7_costOfTrial_6 : decode cX7_costOfTrial 6 = .ok (.getfield 18, 3) := by decide +kernel
theorem dX7_costOfTrial_9 : decode cX7_costOfTrial 9 = .ok (.getfield 26, 3) := by decide +kernel
theorem dX7_costOfTrial_12 : decode cX7_costOfTrial 12 = .ok (.if_icmp .ge 28, 3) := by decide +kernel
theorem dX7_costOfTrial_15 : decode cX7_costOfTrial 15 = .ok (.iload_n 1, 1) := by decide +kernel
theorem dX7_costOfTrial_16 : decode cX7_costOfTrial 16 = .ok (.aload_n 0, 1) := by decide +kernel
theorem dX7_costOfTrial_17 : decode cX7_costOfTrial 17 = .ok (.getfield 9, 3) := by decide +kernel
theorem dX7_costOfTrial_20 : decode cX7_costOfTrial 20 = .ok (.iload_n 2, 1) := by decide +kernel
theorem dX7_costOfTrial_21 : decode cX7_costOfTrial 21 = .ok (.iaload, 1) := by decide +kernel
theorem dX7_costOfTrial_22 : decode cX7_costOfTrial 22 = .ok (.aload_n 0, 1) := by decide +kernel
theorem dX7_costOfTrial_23 : decode cX7_costOfTrial 23 = .ok (.getfield 18, 3) := by decide +kernel
theorem dX7_costOfTrial_26 : decode cX7_costOfTrial 26 = .ok (.getfield 53, 3) := by decide +kernel
theorem dX7_costOfTrial_29 : decode cX7_costOfTrial 29 = .ok (.iload_n 2, 1) := by decide +kernel
theorem dX7_costOfTrial_30 : decode cX7_costOfTrial 30 = .ok (.iaload, 1) := by decide +kernel
theorem dX7_costOfTrial_31 : decode cX7_costOfTrial 31 = .ok (.imul, 1) := by decide +kernel
theorem dX7_costOfTrial_32 : decode cX7_costOfTrial 32 = .ok (.iadd, 1) := by decide +kernel
theorem dX7_costOfTrial_33 : decode cX7_costOfTrial 33 = .ok (.istore_n 1, 1) := by decide +kernel
theorem dX7_costOfTrial_34 : decode cX7_costOfTrial 34 = .ok (.iinc 2 1, 3) := by decide +kernel
theorem dX7_costOfTrial_37 : decode cX7_costOfTrial 37 = .ok (.goto (-33), 3) := by decide +kernel
theorem dX7_costOfTrial_40 : decode cX7_costOfTrial 40 = .ok (.iload_n 1, 1) := by decide +kernel
theorem dX7_costOfTrial_41 : decode cX7_costOfTrial 41 = .ok (.ireturn, 1) := by decide +kernel
theorem dX7_keepTrial_0 : decode cX7_keepTrial 0 = .ok (.aload_n 0, 1) := by decide +kernel
theorem dX7_keepTrial_1 : decode cX7_keepTrial 1 = .ok (.iload_n 1, 1) := by decide +kernel
theorem dX7_keepTrial_2 : decode cX7_keepTrial 2 = .ok (.putfield 36, 3) := by decide +kernel
theorem dX7_keepTrial_5 : decode cX7_keepTrial 5 = .ok (.iconst 0, 1) := by decide +kernel
theorem dX7_keepTrial_6 : decode cX7_keepTrial 6 = .ok (.istore_n 2, 1) := by decide +kernel
theorem dX7_keepTrial_7 : decode cX7_keepTrial 7 = .ok (.iload_n 2, 1) := by decide +kernel
theorem dX7_keepTrial_8 : decode cX7_keepTrial 8 = .ok (.bipush 8, 2) := by decide +kernel
theorem dX7_keepTrial_10 : decode cX7_keepTrial 10 = .ok (.if_icmp .ge 21, 3) := by decide +kernel
theorem dX7_keepTrial_13 : decode cX7_keepTrial 13 = .ok (.aload_n 0, 1) := by decide +kernel
theorem dX7_keepTrial_14 : decode cX7_keepTrial 14 = .ok (.getfield 15, 3) := by decide +kernel
theorem dX7_keepTrial_17 : decode cX7_keepTrial 17 = .ok (.iload_n 2, 1) := by decide +kernel
theorem dX7_keepTrial_18 : decode cX7_keepTrial 18 = .ok (.aload_n 0, 1) := by decide +kernel
theorem dX7_keepTrial_19 : decode cX7_keepTrial 19 = .ok (.getfield 9, 3) := by decide +kernel
theorem dX7_keepTrial_22 : decode cX7_keepTrial 22 = .ok (.iload_n 2, 1) := by decide +kernel
theorem dX7_keepTrial_23 : decode cX7_keepTrial 23 = .ok (.iaload, 1) := by decide +kernel
theorem dX7_keepTrial_24 : decode cX7_keepTrial 24 = .ok (.iastore, 1) := by decide +kernel
theorem dX7_keepTrial_25 : decode cX7_keepTrial 25 = .ok (.iinc 2 1, 3) := by decide +kernel
theorem dX7_keepTrial_28 : decode cX7_keepTrial 28 = .ok (.goto (-21), 3) := by decide +kernel
theorem dX7_keepTrial_31 : decode cX7_keepTrial 31 = .ok (.return_, 1) := by decide +kernel
theorem dX7_advance_0 : decode cX7_advance 0 = .ok (.aload_n 0, 1) := by decide +kernel
theorem dX7_advance_1 : decode cX7_advance 1 = .ok (.getfield 18, 3) := by decide +kernel
theorem dX7_advance_4 : decode cX7_advance 4 = .ok (.getfield 26, 3) := by decide +kernel
theorem dX7_advance_7 : decode cX7_advance 7 = .ok (.iconst 1, 1) := by decide +kernel
theorem dX7_advance_8 : decode cX7_advance 8 = .ok (.isub, 1) := by decide +kernel
theorem dX7_advance_9 : decode cX7_advance 9 = .ok (.istore_n 1, 1) := by decide +kernel
theorem dX7_advance_10 : decode cX7_advance 10 = .ok (.iload_n 1, 1) := by decide +kernel
theorem dX7_advance_11 : decode cX7_advance 11 = .ok (.iconst 1, 1) := by decide +kernel
theorem dX7_advance_12 : decode cX7_advance 12 = .ok (.isub, 1) := by decide +kernel
theorem dX7_advance_13 : decode cX7_advance 13 = .ok (.istore_n 2, 1) := by decide +kernel
theorem dX7_advance_14 : decode cX7_advance 14 = .ok (.iload_n 2, 1) := by decide +kernel
theorem dX7_advance_15 : decode cX7_advance 15 = .ok (.ifCond .lt 18, 3) := by decide +kernel
theorem dX7_advance_18 : decode cX7_advance 18 = .ok (.aload_n 0, 1) := by decide +kernel
theorem dX7_advance_19 : decode cX7_advance 19 = .ok (.getfield 9, 3) := by decide +kernel
theorem dX7_advance_22 : decode cX7_advance 22 = .ok (.iload_n 2, 1) := by decide +kernel
theorem dX7_advance_23 : decode cX7_advance 23 = .ok (.iaload, 1) := by decide +kernel
theorem dX7_advance_24 : decode cX7_advance 24 = .ok (.ifCond .ne 9, 3) := by decide +kernel
theorem dX7_advance_27 : decode cX7_advance 27 = .ok (.iinc 2 (-1), 3) := by decide +kernel
theorem dX7_advance_30 : decode cX7_advance 30 = .ok (.goto (-16), 3) := by decide +kernel
theorem dX7_advance_33 : decode cX7_advance 33 = .ok (.iload_n 2, 1) := by decide +kernel
theorem dX7_advance_34 : decode cX7_advance 34 = .ok (.ifCond .ge 5, 3) := by decide +kernel
theorem dX7_advance_37 : decode cX7_advance 37 = .ok (.iconst 0, 1) := by decide +kernel
theorem dX7_advance_38 : decode cX7_advance 38 = .ok (.ireturn, 1) := by decide +kernel
theorem dX7_advance_39 : decode cX7_advance 39 = .ok (.aload_n 0, 1) := by decide +kernel
theorem dX7_advance_40 : decode cX7_advance 40 = .ok (.getfield 9, 3) := by decide +kernel
theorem dX7_advance_43 : decode cX7_advance 43 = .ok (.iload_n 1, 1) := by decide +kernel
theorem dX7_advance_44 : decode cX7_advance 44 = .ok (.iaload, 1) := by decide +kernel
theorem dX7_advance_45 : decode cX7_advance 45 = .ok (.istore_n 3, 1) := by decide +kernel
theorem dX7_advance_46 : decode cX7_advance 46 = .ok (.aload_n 0, 1) := by decide +kernel
theorem dX7_advance_47 : decode cX7_advance 47 = .ok (.getfield 9, 3) := by decide +kernel
theorem dX7_advance_50 : decode cX7_advance 50 = .ok (.iload_n 1, 1) := by decide +kernel
theorem dX7_advance_51 : decode cX7_advance 51 = .ok (.iconst 0, 1) := by decide +kernel
theorem dX7_advance_52 : decode cX7_advance 52 = .ok (.iastore, 1) := by decide +kernel
theorem dX7_advance_53 : decode cX7_advance 53 = .ok (.aload_n 0, 1) := by decide +kernel
theorem dX7_advance_54 : decode cX7_advance 54 = .ok (.getfield 9, 3) := by decide +kernel
theorem dX7_advance_57 : decode cX7_advance 57 = .ok (.iload_n 2, 1) := by decide +kernel
theorem dX7_advance_58 : decode cX7_advance 58 = .ok (.dup2, 1) := by decide +kernel
theorem dX7_advance_59 : decode cX7_advance 59 = .ok (.iaload, 1) := by decide +kernel
theorem dX7_advance_60 : decode cX7_advance 60 = .ok (.bipush 100, 2) := by decide +kernel
theorem dX7_advance_62 : decode cX7_advance 62 = .ok (.isub, 1) := by decide +kernel
theorem dX7_advance_63 : decode cX7_advance 63 = .ok (.iastore, 1) := by decide +kernel
theorem dX7_advance_64 : decode cX7_advance 64 = .ok (.aload_n 0, 1) := by decide +kernel
theorem dX7_advance_65 : decode cX7_advance 65 = .ok (.getfield 9, 3) := by decide +kernel
theorem dX7_advance_68 : decode cX7_advance 68 = .ok (.iload_n 2, 1) := by decide +kernel
theorem dX7_advance_69 : decode cX7_advance 69 = .ok (.iconst 1, 1) := by decide +kernel
theorem dX7_advance_70 : decode cX7_advance 70 = .ok (.iadd, 1) := by decide +kernel
theorem dX7_advance_71 : decode cX7_advance 71 = .ok (.iload_n 3, 1) := by decide +kernel
theorem dX7_advance_72 : decode cX7_advance 72 = .ok (.bipush 100, 2) := by decide +kernel
theorem dX7_advance_74 : decode cX7_advance 74 = .ok (.iadd, 1) := by decide +kernel
theorem dX7_advance_75 : decode cX7_advance 75 = .ok (.iastore, 1) := by decide +kernel
theorem dX7_advance_76 : decode cX7_advance 76 = .ok (.iconst 1, 1) := by decide +kernel
theorem dX7_advance_77 : decode cX7_advance 77 = .ok (.ireturn, 1) := by decide +kernel
theorem dX8_init_0 : decode cX8_init 0 = .ok (.aload_n 0, 1) := by decide +kernel
theorem dX8_init_1 : decode cX8_init 1 = .ok (.invokespecial 3, 3) := by decide +kernel
theorem dX8_init_4 : decode cX8_init 4 = .ok (.aload_n 0, 1) := by decide +kernel
theorem dX8_init_5 : decode cX8_init 5 = .ok (.bipush 6, 2) := by decide +kernel
theorem dX8_init_7 : decode cX8_init 7 = .ok (.bipush 6, 2) := by decide +kernel
theorem dX8_init_9 : decode cX8_init 9 = .ok (.multianewarray 9 2, 4) := by decide +kernel
theorem dX8_init_13 : decode cX8_init 13 = .ok (.putfield 11, 3) := by decide +kernel
theorem dX8_init_16 : decode cX8_init 16 = .ok (.aload_n 0, 1) := by decide +kernel
theorem dX8_init_17 : decode cX8_init 17 = .ok (.bipush 6, 2) := by decide +kernel
theorem dX8_init_19 : decode cX8_init 19 = .ok (.newarray .int, 2) := by decide +kernel
theorem dX8_init_21 : decode cX8_init 21 = .ok (.putfield 16, 3) := by decide +kernel
theorem dX8_init_24 : decode cX8_init 24 = .ok (.aload_n 0, 1) := by decide +kernel
theorem dX8_init_25 : decode cX8_init 25 = .ok (.bipush 6, 2) := by decide +kernel
theorem dX8_init_27 : decode cX8_init 27 = .ok (.newarray .int, 2) := by decide +kernel
theorem dX8_init_29 : decode cX8_init 29 = .ok (.putfield 20, 3) := by decide +kernel
theorem dX8_init_32 : decode cX8_init 32 = .ok (.return_, 1) := by decide +kernel
theorem dX8_leastSum_0 : decode cX8_leastSum 0 = .ok (.aload_n 0, 1) := by decide +kernel
theorem dX8_leastSum_1 : decode cX8_leastSum 1 = .ok (.iload_n 1, 1) := by decide +kernel
theorem dX8_leastSum_2 : decode cX8_leastSum 2 = .ok (.invokevirtual 23, 3) := by decide +kernel
theorem dX8_leastSum_5 : decode cX8_leastSum 5 = .ok (.istore_n 2, 1) := by decide +kernel
theorem dX8_leastSum_6 : decode cX8_leastSum 6 = .ok (.aload_n 0, 1) := by decide +kernel
theorem dX8_leastSum_7 : decode cX8_leastSum 7 = .ok (.iload_n 2, 1) := by decide +kernel
theorem dX8_leastSum_8 : decode cX8_leastSum 8 = .ok (.invokevirtual 27, 3) := by decide +kernel
theorem dX8_leastSum_11 : decode cX8_leastSum 11 = .ok (.istore_n 3, 1) := by decide +kernel
theorem dX8_leastSum_12 : decode cX8_leastSum 12 = .ok (.aload_n 0, 1) := by decide +kernel
theorem dX8_leastSum_13 : decode cX8_leastSum 13 = .ok (.iload_n 2, 1) := by decide +kernel
theorem dX8_leastSum_14 : decode cX8_leastSum 14 = .ok (.invokevirtual 30, 3) := by decide +kernel
theorem dX8_leastSum_17 : decode cX8_leastSum 17 = .ok (.aload_n 0, 1) := by decide +kernel
theorem dX8_leastSum_18 : decode cX8_leastSum 18 = .ok (.iload_n 2, 1) := by decide +kernel
theorem dX8_leastSum_19 : decode cX8_leastSum 19 = .ok (.invokevirtual 34, 3) := by decide +kernel
theorem dX8_leastSum_22 : decode cX8_leastSum 22 = .ok (.istore 4, 2) := by decide +kernel
theorem dX8_leastSum_24 : decode cX8_leastSum 24 = .ok (.iconst 0, 1) := by decide +kernel
theorem dX8_leastSum_25 : decode cX8_leastSum 25 = .ok (.istore 5, 2) := by decide +kernel
theorem dX8_leastSum_27 : decode cX8_leastSum 27 = .ok (.iload 5, 2) := by decide +kernel
theorem dX8_leastSum_29 : decode cX8_leastSum 29 = .ok (.sipush 200, 3) := by decide +kernel
theorem dX8_leastSum_32 : decode cX8_leastSum 32 = .ok (.if_icmp .ge 42, 3) := by decide +kernel
theorem dX8_leastSum_35 : decode cX8_leastSum 35 = .ok (.iload 4, 2) := by decide +kernel
theorem dX8_leastSum_37 : decode cX8_leastSum 37 = .ok (.ifCond .eq 37, 3) := by decide +kernel
theorem dX8_leastSum_40 : decode cX8_leastSum 40 = .ok (.aload_n 0, 1) := by decide +kernel
theorem dX8_leastSum_41 : decode cX8_leastSum 41 = .ok (.iload_n 2, 1) := by decide +kernel
theorem dX8_leastSum_42 : decode cX8_leastSum 42 = .ok (.invokevirtual 27, 3) := by decide +kernel
theorem dX8_leastSum_45 : decode cX8_leastSum 45 = .ok (.istore 6, 2) := by decide +kernel
theorem dX8_leastSum_47 : decode cX8_leastSum 47 = .ok (.iload 6, 2) := by decide +kernel
theorem dX8_leastSum_49 : decode cX8_leastSum 49 = .ok (.iload_n 3, 1) := by decide +kernel
theorem dX8_leastSum_50 : decode cX8_leastSum 50 = .ok (.if_icmp .ge 11, 3) := by decide +kernel
theorem dX8_leastSum_53 : decode cX8_leastSum 53 = .ok (.iload 6, 2) := by decide +kernel
theorem dX8_leastSum_55 : decode cX8_leastSum 55 = .ok (.istore_n 3, 1) := by decide +kernel
theorem dX8_leastSum_56 : decode cX8_leastSum 56 = .ok (.aload_n 0, 1) := by decide +kernel
theorem dX8_leastSum_57 : decode cX8_leastSum 57 = .ok (.iload_n 2, 1) := by decide +kernel
theorem dX8_leastSum_58 : decode cX8_leastSum 58 = .ok (.invokevirtual 30, 3) := by decide +kernel
theorem dX8_leastSum_61 : decode cX8_leastSum 61 = .ok (.aload_n 0, 1) := by decide +kernel
theorem dX8_leastSum_62 : decode cX8_leastSum 62 = .ok (.iload_n 2, 1) := by decide +kernel
theorem dX8_leastSum_63 : decode cX8_leastSum 63 = .ok (.invokevirtual 34, 3) := by decide +kernel
theorem dX8_leastSum_66 : decode cX8_leastSum 66 = .ok (.istore 4, 2) := by decide +kernel
theorem dX8_leastSum_68 : decode cX8_leastSum 68 = .ok (.iinc 5 1, 3) := by decide +kernel
theorem dX8_leastSum_71 : decode cX8_leastSum 71 = .ok (.goto (-44), 3) := by decide +kernel
theorem dX8_leastSum_74 : decode cX8_leastSum 74 = .ok (.iload_n 3, 1) := by decide +kernel
theorem dX8_leastSum_75 : decode cX8_leastSum 75 = .ok (.ireturn, 1) := by decide +kernel
theorem dX8_gather_0 : decode cX8_gather 0 = .ok (.iconst 0, 1) := by decide +kernel
theorem dX8_gather_1 : decode cX8_gather 1 = .ok (.istore_n 2, 1) := by decide +kernel
theorem dX8_gather_2 : decode cX8_gather 2 = .ok (.iconst 0, 1) := by decide +kernel
theorem dX8_gather_3 : decode cX8_gather 3 = .ok (.istore_n 3, 1) := by decide +kernel
theorem dX8_gather_4 : decode cX8_gather 4 = .ok (.iload_n 3, 1) := by decide +kernel
theorem dX8_gather_5 : decode cX8_gather 5 = .ok (.bipush 6, 2) := by decide +kernel
theorem dX8_gather_7 : decode cX8_gather 7 = .ok (.if_icmp .ge 28, 3) := by decide +kernel
theorem dX8_gather_10 : decode cX8_gather 10 = .ok (.iload_n 1, 1) := by decide +kernel
theorem dX8_gather_11 : decode cX8_gather 11 = .ok (.iload_n 3, 1) := by decide +kernel
theorem dX8_gather_12 : decode cX8_gather 12 = .ok (.ishr, 1) := by decide +kernel
theorem dX8_gather_13 : decode cX8_gather 13 = .ok (.iconst 1, 1) := by decide +kernel
theorem dX8_gather_14 : decode cX8_gather 14 = .ok (.iand, 1) := by decide +kernel
theorem dX8_gather_15 : decode cX8_gather 15 = .ok (.iconst 1, 1) := by decide +kernel
theorem dX8_gather_16 : decode cX8_gather 16 = .ok (.if_icmp .ne 13, 3) := by decide +kernel
theorem dX8_gather_19 : decode cX8_gather 19 = .ok (.aload_n 0, 1) := by decide +kernel
theorem dX8_gather_20 : decode cX8_gather 20 = .ok (.getfield 20, 3) := by decide +kernel
theorem dX8_gather_23 : decode cX8_gather 23 = .ok (.iload_n 2, 1) := by decide +kernel
theorem dX8_gather_24 : decode cX8_gather 24 = .ok (.iload_n 3, 1) := by decide +kernel
theorem dX8_gather_25 : decode cX8_gather 25 = .ok (.iastore, 1) := by decide +kernel
theorem dX8_gather_26 : decode cX8_gather 26 = .ok (.iinc 2 1, 3) := by decide +kernel
theorem dX8_gather_29 : decode cX8_gather 29 = .ok (.iinc 3 1, 3) := by decide +kernel
theorem dX8_gather_32 : decode cX8_gather 32 = .ok (.goto (-28), 3) := by decide +kernel
theorem dX8_gather_35 : decode cX8_gather 35 = .ok (.iload_n 2, 1) := by decide +kernel
theorem dX8_gather_36 : decode cX8_gather 36 = .ok (.ireturn, 1) := by decide +kernel
theorem dX8_sumOfOrder_0 : decode cX8_sumOfOrder 0 = .ok (.iconst 0, 1) := by decide +kernel
theorem dX8_sumOfOrder_1 : decode cX8_sumOfOrder 1 = .ok (.istore_n 2, 1) := by decide +kernel
theorem dX8_sumOfOrder_2 : decode cX8_sumOfOrder 2 = .ok (.iconst 0, 1) := by decide +kernel
theorem dX8_sumOfOrder_3 : decode cX8_sumOfOrder 3 = .ok (.istore_n 3, 1) := by decide +kernel
theorem dX8_sumOfOrder_4 : decode cX8_sumOfOrder 4 = .ok (.iload_n 3, 1) := by decide +kernel
theorem dX8_sumOfOrder_5 : decode cX8_sumOfOrder 5 = .ok (.iload_n 1, 1) := by decide +kernel
theorem dX8_sumOfOrder_6 : decode cX8_sumOfOrder 6 = .ok (.if_icmp .ge 52, 3) := by decide +kernel
theorem dX8_sumOfOrder_9 : decode cX8_sumOfOrder 9 = .ok (.iload_n 3, 1) := by decide +kernel
theorem dX8_sumOfOrder_10 : decode cX8_sumOfOrder 10 = .ok (.iconst 1, 1) := by decide +kernel
theorem dX8_sumOfOrder_11 : decode cX8_sumOfOrder 11 = .ok (.iadd, 1) := by decide +kernel
theorem dX8_sumOfOrder_12 : decode cX8_sumOfOrder 12 = .ok (.iload_n 1, 1) := by decide +kernel
theorem dX8_sumOfOrder_13 : decode cX8_sumOfOrder 13 = .ok (.if_icmp .ge 14, 3) := by decide +kernel
theorem dX8_sumOfOrder_16 : decode cX8_sumOfOrder 16 = .ok (.aload_n 0, 1) := by decide +kernel
theorem dX8_sumOfOrder_17 : decode cX8_sumOfOrder 17 = .ok (.getfield 20, 3) := by decide +kernel
theorem dX8_sumOfOrder_20 : decode cX8_sumOfOrder 20 = .ok (.iload_n 3, 1) := by decide +kernel
theorem dX8_sumOfOrder_21 : decode cX8_sumOfOrder 21 = .ok (.iconst 1, 1) := by decide +kernel
theorem dX8_sumOfOrder_22 : decode cX8_sumOfOrder 22 = .ok (.iadd, 1) := by decide +kernel
theorem dX8_sumOfOrder_23 : decode cX8_sumOfOrder 23 = .ok (.iaload, 1) := by decide +kernel
theorem dX8_sumOfOrder_24 : decode cX8_sumOfOrder 24 = .ok (.goto 9, 3) := by decide +kernel
theorem dX8_sumOfOrder_27 : decode cX8_sumOfOrder 27 = .ok (.aload_n 0, 1) := by decide +kernel
theorem dX8_sumOfOrder_28 : decode cX8_sumOfOrder 28 = .ok (.getfield 20, 3) := by decide +kernel
theorem dX8_sumOfOrder_31 : decode cX8_sumOfOrder 31 = .ok (.iconst 0, 1) := by decide +kernel
theorem dX8_sumOfOrder_32 : decode cX8_sumOfOrder 32 = .ok (.iaload, 1) := by decide +kernel
theorem dX8_sumOfOrder_33 : decode cX8_sumOfOrder 33 = .ok (.istore 4, 2) := by decide +kernel
theorem dX8_sumOfOrder_35 : decode cX8_sumOfOrder 35 = .ok (.iload_n 2, 1) := by decide +kernel
theorem dX8_sumOfOrder_36 : decode cX8_sumOfOrder 36 = .ok (.aload_n 0, 1) := by decide +kernel
theorem dX8_sumOfOrder_37 : decode cX8_sumOfOrder 37 = .ok (.getfield 11, 3) := by decide +kernel
theorem dX8_sumOfOrder_40 : decode cX8_sumOfOrder 40 = .ok (.aload_n 0, 1) := by decide +kernel
theorem dX8_sumOfOrder_41 : decode cX8_sumOfOrder 41 = .ok (.getfield 20, 3) := by decide +kernel
theorem dX8_sumOfOrder_44 : decode cX8_sumOfOrder 44 = .ok (.iload_n 3, 1) := by decide +kernel
theorem dX8_sumOfOrder_45 : decode cX8_sumOfOrder 45 = .ok (.iaload, 1) := by decide +kernel
theorem dX8_sumOfOrder_46 : decode cX8_sumOfOrder 46 = .ok (.aaload, 1) := by decide +kernel
theorem dX8_sumOfOrder_47 : decode cX8_sumOfOrder 47 = .ok (.iload 4, 2) := by decide +kernel
theorem dX8_sumOfOrder_49 : decode cX8_sumOfOrder 49 = .ok (.iaload, 1) := by decide +kernel
theorem dX8_sumOfOrder_50 : decode cX8_sumOfOrder 50 = .ok (.iadd, 1) := by decide +kernel
theorem dX8_sumOfOrder_51 : decode cX8_sumOfOrder 51 = .ok (.istore_n 2, 1) := by decide +kernel
theorem dX8_sumOfOrder_52 : decode cX8_sumOfOrder 52 = .ok (.iinc 3 1, 3) := by decide +kernel
theorem dX8_sumOfOrder_55 : decode cX8_sumOfOrder 55 = .ok (.goto (-51), 3) := by decide +kernel
theorem dX8_sumOfOrder_58 : decode cX8_sumOfOrder 58 = .ok (.iload_n 2, 1) := by decide +kernel
theorem dX8_sumOfOrder_59 : decode cX8_sumOfOrder 59 = .ok (.ireturn, 1) := by decide +kernel
theorem dX8_keepOrder_0 : decode cX8_keepOrder 0 = .ok (.aload_n 0, 1) := by decide +kernel
theorem dX8_keepOrder_1 : decode cX8_keepOrder 1 = .ok (.getfield 20, 3) := by decide +kernel
theorem dX8_keepOrder_4 : decode cX8_keepOrder 4 = .ok (.iconst 0, 1) := by decide +kernel
theorem dX8_keepOrder_5 : decode cX8_keepOrder 5 = .ok (.aload_n 0, 1) := by decide +kernel
theorem dX8_keepOrder_6 : decode cX8_keepOrder 6 = .ok (.getfield 16, 3) := by decide +kernel
theorem dX8_keepOrder_9 : decode cX8_keepOrder 9 = .ok (.iconst 0, 1) := by decide +kernel
theorem dX8_keepOrder_10 : decode cX8_keepOrder 10 = .ok (.iload_n 1, 1) := by decide +kernel
theorem dX8_keepOrder_11 : decode cX8_keepOrder 11 = .ok (.invokestatic 38, 3) := by decide +kernel
theorem dX8_keepOrder_14 : decode cX8_keepOrder 14 = .ok (.aload_n 0, 1) := by decide +kernel
theorem dX8_keepOrder_15 : decode cX8_keepOrder 15 = .ok (.iload_n 1, 1) := by decide +kernel
theorem dX8_keepOrder_16 : decode cX8_keepOrder 16 = .ok (.putfield 44, 3) := by decide +kernel
theorem dX8_keepOrder_19 : decode cX8_keepOrder 19 = .ok (.return_, 1) := by decide +kernel
theorem dX8_advance_0 : decode cX8_advance 0 = .ok (.iload_n 1, 1) := by decide +kernel
theorem dX8_advance_1 : decode cX8_advance 1 = .ok (.iconst 2, 1) := by decide +kernel
theorem dX8_advance_2 : decode cX8_advance 2 = .ok (.isub, 1) := by decide +kernel
theorem dX8_advance_3 : decode cX8_advance 3 = .ok (.istore_n 2, 1) := by decide +kernel
theorem dX8_advance_4 : decode cX8_advance 4 = .ok (.iload_n 2, 1) := by decide +kernel
theorem dX8_advance_5 : decode cX8_advance 5 = .ok (.iconst 1, 1) := by decide +kernel
theorem dX8_advance_6 : decode cX8_advance 6 = .ok (.if_icmp .lt 26, 3) := by decide +kernel
theorem dX8_advance_9 : decode cX8_advance 9 = .ok (.aload_n 0, 1) := by decide +kernel
theorem dX8_advance_10 : decode cX8_advance 10 = .ok (.getfield 20, 3) := by decide +kernel
theorem dX8_advance_13 : decode cX8_advance 13 = .ok (.iload_n 2, 1) := by decide +kernel
theorem dX8_advance_14 : decode cX8_advance 14 = .ok (.iaload, 1) := by decide +kernel
theorem dX8_advance_15 : decode cX8_advance 15 = .ok (.aload_n 0, 1) := by decide +kernel
theorem dX8_advance_16 : decode cX8_advance 16 = .ok (.getfield 20, 3) := by decide +kernel
theorem dX8_advance_19 : decode cX8_advance 19 = .ok (.iload_n 2, 1) := by decide +kernel
theorem dX8_advance_20 : decode cX8_advance 20 = .ok (.iconst 1, 1) := by decide +kernel
theorem dX8_advance_21 : decode cX8_advance 21 = .ok (.iadd, 1) := by decide +kernel
theorem dX8_advance_22 : decode cX8_advance 22 = .ok (.iaload, 1) := by decide +kernel
theorem dX8_advance_23 : decode cX8_advance 23 = .ok (.if_icmp .le 9, 3) := by decide +kernel
theorem dX8_advance_26 : decode cX8_advance 26 = .ok (.iinc 2 (-1), 3) := by decide +kernel
theorem dX8_advance_29 : decode cX8_advance 29 = .ok (.goto (-25), 3) := by decide +kernel
theorem dX8_advance_32 : decode cX8_advance 32 = .ok (.iload_n 2, 1) := by decide +kernel
theorem dX8_advance_33 : decode cX8_advance 33 = .ok (.iconst 1, 1) := by decide +kernel
theorem dX8_advance_34 : decode cX8_advance 34 = .ok (.if_icmp .ge 5, 3) := by decide +kernel
theorem dX8_advance_37 : decode cX8_advance 37 = .ok (.iconst 0, 1) := by decide +kernel
theorem dX8_advance_38 : decode cX8_advance 38 = .ok (.ireturn, 1) := by decide +kernel
theorem dX8_advance_39 : decode cX8_advance 39 = .ok (.iload_n 1, 1) := by decide +kernel
theorem dX8_advance_40 : decode cX8_advance 40 = .ok (.iconst 1, 1) := by decide +kernel
theorem dX8_advance_41 : decode cX8_advance 41 = .ok (.isub, 1) := by decide +kernel
theorem dX8_advance_42 : decode cX8_advance 42 = .ok (.istore_n 3, 1) := by decide +kernel
theorem dX8_advance_43 : decode cX8_advance 43 = .ok (.iload_n 3, 1) := by decide +kernel
theorem dX8_advance_44 : decode cX8_advance 44 = .ok (.iload_n 2, 1) := by decide +kernel
theorem dX8_advance_45 : decode cX8_advance 45 = .ok (.if_icmp .le 24, 3) := by decide +kernel
theorem dX8_advance_48 : decode cX8_advance 48 = .ok (.aload_n 0, 1) := by decide +kernel
theorem dX8_advance_49 : decode cX8_advance 49 = .ok (.getfield 20, 3) := by decide +kernel
theorem dX8_advance_52 : decode cX8_advance 52 = .ok (.iload_n 3, 1) := by decide +kernel
theorem dX8_advance_53 : decode cX8_advance 53 = .ok (.iaload, 1) := by decide +kernel
theorem dX8_advance_54 : decode cX8_advance 54 = .ok (.aload_n 0, 1) := by decide +kernel
theorem dX8_advance_55 : decode cX8_advance 55 = .ok (.getfield 20, 3) := by decide +kernel
theorem dX8_advance_58 : decode cX8_advance 58 = .ok (.iload_n 2, 1) := by decide +kernel
theorem dX8_advance_59 : decode cX8_advance 59 = .ok (.iaload, 1) := by decide +kernel
theorem dX8_advance_60 : decode cX8_advance 60 = .ok (.if_icmp .ge 9, 3) := by decide +kernel
theorem dX8_advance_63 : decode cX8_advance 63 = .ok (.iinc 3 (-1), 3) := by decide +kernel
theorem dX8_advance_66 : decode cX8_advance 66 = .ok (.goto (-23), 3) := by decide +kernel
theorem dX8_advance_69 : decode cX8_advance 69 = .ok (.aload_n 0, 1) := by decide +kernel
theorem dX8_advance_70 : decode cX8_advance 70 = .ok (.iload_n 2, 1) := by decide +kernel
theorem dX8_advance_71 : decode cX8_advance 71 = .ok (.iload_n 3, 1) := by decide +kernel
theorem dX8_advance_72 : decode cX8_advance 72 = .ok (.invokevirtual 48, 3) := by decide +kernel
theorem dX8_advance_75 : decode cX8_advance 75 = .ok (.iload_n 2, 1) := by decide +kernel
theorem dX8_advance_76 : decode cX8_advance 76 = .ok (.iconst 1, 1) := by decide +kernel
theorem dX8_advance_77 : decode cX8_advance 77 = .ok (.iadd, 1) := by decide +kernel
theorem dX8_advance_78 : decode cX8_advance 78 = .ok (.istore 4, 2) := by decide +kernel
theorem dX8_advance_80 : decode cX8_advance 80 = .ok (.iload_n 1, 1) := by decide +kernel
theorem dX8_advance_81 : decode cX8_advance 81 = .ok (.iconst 1, 1) := by decide +kernel
theorem dX8_advance_82 : decode cX8_advance 82 = .ok (.isub, 1) := by decide +kernel
theorem dX8_advance_83 : decode cX8_advance 83 = .ok (.istore 5, 2) := by decide +kernel
theorem dX8_advance_85 : decode cX8_advance 85 = .ok (.iload 4, 2) := by decide +kernel
theorem dX8_advance_87 : decode cX8_advance 87 = .ok (.iload 5, 2) := by decide +kernel
theorem dX8_advance_89 : decode cX8_advance 89 = .ok (.if_icmp .ge 20, 3) := by decide +kernel
theorem dX8_advance_92 : decode cX8_advance 92 = .ok (.aload_n 0, 1) := by decide +kernel
theorem dX8_advance_93 : decode cX8_advance 93 = .ok (.iload 4, 2) := by decide +kernel
theorem dX8_advance_95 : decode cX8_advance 95 = .ok (.iload 5, 2) := by decide +kernel
theorem dX8_advance_97 : decode cX8_advance 97 = .ok (.invokevirtual 48, 3) := by decide +kernel
theorem dX8_advance_100 : decode cX8_advance 100 = .ok (.iinc 4 1, 3) := by decide +kernel
theorem dX8_advance_103 : decode cX8_advance 103 = .ok (.iinc 5 (-1), 3) := by decide +kernel
theorem dX8_advance_106 : decode cX8_advance 106 = .ok (.goto (-21), 3) := by decide +kernel
theorem dX8_advance_109 : decode cX8_advance 109 = .ok (.iconst 1, 1) := by decide +kernel
theorem dX8_advance_110 : decode cX8_advance 110 = .ok (.ireturn, 1) := by decide +kernel
theorem dX8_swap_0 : decode cX8_swap 0 = .ok (.aload_n 0, 1) := by decide +kernel
theorem dX8_swap_1 : decode cX8_swap 1 = .ok (.getfield 20, 3) := by decide +kernel
theorem dX8_swap_4 : decode cX8_swap 4 = .ok (.iload_n 1, 1) := by decide +kernel
theorem dX8_swap_5 : decode cX8_swap 5 = .ok (.iaload, 1) := by decide +kernel
theorem dX8_swap_6 : decode cX8_swap 6 = .ok (.istore_n 3, 1) := by decide +kernel
theorem dX8_swap_7 : decode cX8_swap 7 = .ok (.aload_n 0, 1) := by decide +kernel
theorem dX8_swap_8 : decode cX8_swap 8 = .ok (.getfield 20, 3) := by decide +kernel
theorem dX8_swap_11 : decode cX8_swap 11 = .ok (.iload_n 1, 1) := by decide +kernel
theorem dX8_swap_12 : decode cX8_swap 12 = .ok (.aload_n 0, 1) := by decide +kernel
theorem dX8_swap_13 : decode cX8_swap 13 = .ok (.getfield 20, 3) := by decide +kernel
theorem dX8_swap_16 : decode cX8_swap 16 = .ok (.iload_n 2, 1) := by decide +kernel
theorem dX8_swap_17 : decode cX8_swap 17 = .ok (.iaload, 1) := by decide +kernel
theorem dX8_swap_18 : decode cX8_swap 18 = .ok (.iastore, 1) := by decide +kernel
theorem dX8_swap_19 : decode cX8_swap 19 = .ok (.aload_n 0, 1) := by decide +kernel
theorem dX8_swap_20 : decode cX8_swap 20 = .ok (.getfield 20, 3) := by decide +kernel
theorem dX8_swap_23 : decode cX8_swap 23 = .ok (.iload_n 2, 1) := by decide +kernel
theorem dX8_swap_24 : decode cX8_swap 24 = .ok (.iload_n 3, 1) := by decide +kernel
theorem dX8_swap_25 : decode cX8_swap 25 = .ok (.iastore, 1) := by decide +kernel
theorem dX8_swap_26 : decode cX8_swap 26 = .ok (.return_, 1) := by decide +kernel
theorem dX9_init_0 : decode cX9_init 0 = .ok (.aload_n 0, 1) := by decide +kernel
theorem dX9_init_1 : decode cX9_init 1 = .ok (.invokespecial 3, 3) := by decide +kernel
theorem dX9_init_4 : decode cX9_init 4 = .ok (.aload_n 0, 1) := by decide +kernel
theorem dX9_init_5 : decode cX9_init 5 = .ok (.bipush 32, 2) := by decide +kernel
theorem dX9_init_7 : decode cX9_init 7 = .ok (.newarray .long, 2) := by decide +kernel
theorem dX9_init_9 : decode cX9_init 9 = .ok (.putfield 9, 3) := by decide +kernel
theorem dX9_init_12 : decode cX9_init 12 = .ok (.aload_n 0, 1) := by decide +kernel
theorem dX9_init_13 : decode cX9_init 13 = .ok (.bipush 32, 2) := by decide +kernel
theorem dX9_init_15 : decode cX9_init 15 = .ok (.newarray .int, 2) := by decide +kernel
theorem dX9_init_17 : decode cX9_init 17 = .ok (.putfield 15, 3) := by decide +kernel
theorem dX9_init_20 : decode cX9_init 20 = .ok (.return_, 1) := by decide +kernel
theorem dX9_split_0 : decode cX9_split 0 = .ok (.iload_n 3, 1) := by decide +kernel
theorem dX9_split_1 : decode cX9_split 1 = .ok (.bipush 32, 2) := by decide +kernel
theorem dX9_split_3 : decode cX9_split 3 = .ok (.if_icmp .gt 24, 3) := by decide +kernel
theorem dX9_split_6 : decode cX9_split 6 = .ok (.iload_n 3, 1) := by decide +kernel
theorem dX9_split_7 : decode cX9_split 7 = .ok (.aload_n 2, 1) := by decide +kernel
theorem dX9_split_8 : decode cX9_split 8 = .ok (.arraylength, 1) := by decide +kernel
theorem dX9_split_9 : decode cX9_split 9 = .ok (.if_icmp .gt 18, 3) := by decide +kernel
theorem dX9_split_12 : decode cX9_split 12 = .ok (.iload 5, 2) := by decide +kernel
theorem dX9_split_14 : decode cX9_split 14 = .ok (.ifCond .lt 13, 3) := by decide +kernel
theorem dX9_split_17 : decode cX9_split 17 = .ok (.iload 5, 2) := by decide +kernel
theorem dX9_split_19 : decode cX9_split 19 = .ok (.aload 4, 2) := by decide +kernel
theorem dX9_split_21 : decode cX9_split 21 = .ok (.arraylength, 1) := by decide +kernel
theorem dX9_split_22 : decode cX9_split 22 = .ok (.iload_n 3, 1) := by decide +kernel
theorem dX9_split_23 : decode cX9_split 23 = .ok (.isub, 1) := by decide +kernel
theorem dX9_split_24 : decode cX9_split 24 = .ok (.if_icmp .le 4, 3) := by decide +kernel
theorem dX9_split_27 : decode cX9_split 27 = .ok (.return_, 1) := by decide +kernel
theorem dX9_split_28 : decode cX9_split 28 = .ok (.lconst 0, 1) := by decide +kernel
theorem dX9_split_29 : decode cX9_split 29 = .ok (.lstore 6, 2) := by decide +kernel
theorem dX9_split_31 : decode cX9_split 31 = .ok (.iconst 0, 1) := by decide +kernel
theorem dX9_split_32 : decode cX9_split 32 = .ok (.istore 8, 2) := by decide +kernel
theorem dX9_split_34 : decode cX9_split 34 = .ok (.iload 8, 2) := by decide +kernel
theorem dX9_split_36 : decode cX9_split 36 = .ok (.iload_n 3, 1) := by decide +kernel
theorem dX9_split_37 : decode cX9_split 37 = .ok (.if_icmp .ge 19, 3) := by decide +kernel
theorem dX9_split_40 : decode cX9_split 40 = .ok (.lload 6, 2) := by decide +kernel
theorem dX9_split_42 : decode cX9_split 42 = .ok (.aload_n 2, 1) := by decide +kernel
theorem dX9_split_43 : decode cX9_split 43 = .ok (.iload 8, 2) := by decide +kernel
theorem dX9_split_45 : decode cX9_split 45 = .ok (.iaload, 1) := by decide +kernel
theorem dX9_split_46 : decode cX9_split 46 = .ok (.i2l, 1) := by decide +kernel
theorem dX9_split_47 : decode cX9_split 47 = .ok (.ladd, 1) := by decide +kernel
theorem dX9_split_48 : decode cX9_split 48 = .ok (.lstore 6, 2) := by decide +kernel
theorem dX9_split_50 : decode cX9_split 50 = .ok (.iinc 8 1, 3) := by decide +kernel
theorem dX9_split_53 : decode cX9_split 53 = .ok (.goto (-19), 3) := by decide +kernel
theorem dX9_split_56 : decode cX9_split 56 = .ok (.lload 6, 2) := by decide +kernel
theorem dX9_split_58 : decode cX9_split 58 = .ok (.lconst 0, 1) := by decide +kernel
theorem dX9_split_59 : decode cX9_split 59 = .ok (.lcmp, 1) := by decide +kernel
theorem dX9_split_60 : decode cX9_split 60 = .ok (.ifCond .gt 4, 3) := by decide +kernel
theorem dX9_split_63 : decode cX9_split 63 = .ok (.return_, 1) := by decide +kernel
theorem dX9_split_64 : decode cX9_split 64 = .ok (.iload_n 1, 1) := by decide +kernel
theorem dX9_split_65 : decode cX9_split 65 = .ok (.istore 8, 2) := by decide +kernel
theorem dX9_split_67 : decode cX9_split 67 = .ok (.iconst 0, 1) := by decide +kernel
theorem dX9_split_68 : decode cX9_split 68 = .ok (.istore 9, 2) := by decide +kernel
theorem dX9_split_70 : decode cX9_split 70 = .ok (.iconst 0, 1) := by decide +kernel
theorem dX9_split_71 : decode cX9_split 71 = .ok (.istore 10, 2) := by decide +kernel
theorem dX9_split_73 : decode cX9_split 73 = .ok (.iload 10, 2) := by decide +kernel
theorem dX9_split_75 : decode cX9_split 75 = .ok (.iload_n 3, 1) := by decide +kernel
theorem dX9_split_76 : decode cX9_split 76 = .ok (.if_icmp .ge 96, 3) := by decide +kernel
theorem dX9_split_79 : decode cX9_split 79 = .ok (.iconst 0, 1) := by decide +kernel
theorem dX9_split_80 : decode cX9_split 80 = .ok (.istore 11, 2) := by decide +kernel
theorem dX9_split_82 : decode cX9_split 82 = .ok (.aload_n 2, 1) := by decide +kernel
theorem dX9_split_83 : decode cX9_split 83 = .ok (.iload 10, 2) := by decide +kernel
theorem dX9_split_85 : decode cX9_split 85 = .ok (.iaload, 1) := by decide +kernel
theorem dX9_split_86 : decode cX9_split 86 = .ok (.ifCond .eq 63, 3) := by decide +kernel
theorem dX9_split_89 : decode cX9_split 89 = .ok (.iload_n 1, 1) := by decide +kernel
theorem dX9_split_90 : decode cX9_split 90 = .ok (.i2l, 1) := by decide +kernel
theorem dX9_split_91 : decode cX9_split 91 = .ok (.aload_n 2, 1) := by decide +kernel
theorem dX9_split_92 : decode cX9_split 92 = .ok (.iload 10, 2) := by decide +kernel
theorem dX9_split_94 : decode cX9_split 94 = .ok (.iaload, 1) := by decide +kernel
theorem dX9_split_95 : decode cX9_split 95 = .ok (.i2l, 1) := by decide +kernel
theorem dX9_split_96 : decode cX9_split 96 = .ok (.lmul, 1) := by decide +kernel
theorem dX9_split_97 : decode cX9_split 97 = .ok (.lstore 12, 2) := by decide +kernel
theorem dX9_split_99 : decode cX9_split 99 = .ok (.lload 12, 2) := by decide +kernel
theorem dX9_split_101 : decode cX9_split 101 = .ok (.lload 6, 2) := by decide +kernel
theorem dX9_split_103 : decode cX9_split 103 = .ok (.ldiv, 1) := by decide +kernel
theorem dX9_split_104 : decode cX9_split 104 = .ok (.l2i, 1) := by decide +kernel
theorem dX9_split_105 : decode cX9_split 105 = .ok (.istore 11, 2) := by decide +kernel
theorem dX9_split_107 : decode cX9_split 107 = .ok (.lload 12, 2) := by decide +kernel
theorem dX9_split_109 : decode cX9_split 109 = .ok (.iload 11, 2) := by decide +kernel
theorem dX9_split_111 : decode cX9_split 111 = .ok (.i2l, 1) := by decide +kernel
theorem dX9_split_112 : decode cX9_split 112 = .ok (.lload 6, 2) := by decide +kernel
theorem dX9_split_114 : decode cX9_split 114 = .ok (.lmul, 1) := by decide +kernel
theorem dX9_split_115 : decode cX9_split 115 = .ok (.lsub, 1) := by decide +kernel
theorem dX9_split_116 : decode cX9_split 116 = .ok (.lstore 14, 2) := by decide +kernel
theorem dX9_split_118 : decode cX9_split 118 = .ok (.lload 14, 2) := by decide +kernel
theorem dX9_split_120 : decode cX9_split 120 = .ok (.lconst 0, 1) := by decide +kernel
theorem dX9_split_121 : decode cX9_split 121 = .ok (.lcmp, 1) := by decide +kernel
theorem dX9_split_122 : decode cX9_split 122 = .ok (.ifCond .le 27, 3) := by decide +kernel
theorem dX9_split_125 : decode cX9_split 125 = .ok (.aload_n 0, 1) := by decide +kernel
theorem dX9_split_126 : decode cX9_split 126 = .ok (.getfield 9, 3) := by decide +kernel
theorem dX9_split_129 : decode cX9_split 129 = .ok (.iload 9, 2) := by decide +kernel
theorem dX9_split_131 : decode cX9_split 131 = .ok (.lload 14, 2) := by decide +kernel
theorem dX9_split_133 : decode cX9_split 133 = .ok (.lastore, 1) := by decide +kernel
theorem dX9_split_134 : decode cX9_split 134 = .ok (.aload_n 0, 1) := by decide +kernel
theorem dX9_split_135 : decode cX9_split 135 = .ok (.getfield 15, 3) := by decide +kernel
theorem dX9_split_138 : decode cX9_split 138 = .ok (.iload 9, 2) := by decide +kernel
theorem dX9_split_140 : decode cX9_split 140 = .ok (.iload 5, 2) := by decide +kernel
theorem dX9_split_142 : decode cX9_split 142 = .ok (.iload 10, 2) := by decide +kernel
theorem dX9_split_144 : decode cX9_split 144 = .ok (.iadd, 1) := by decide +kernel
theorem dX9_split_145 : decode cX9_split 145 = .ok (.iastore, 1) := by decide +kernel
theorem dX9_split_146 : decode cX9_split 146 = .ok (.iinc 9 1, 3) := by decide +kernel
theorem dX9_split_149 : decode cX9_split 149 = .ok (.aload 4, 2) := by decide +kernel
theorem dX9_split_151 : decode cX9_split 151 = .ok (.iload 5, 2) := by decide +kernel
theorem dX9_split_153 : decode cX9_split 153 = .ok (.iload 10, 2) := by decide +kernel
theorem dX9_split_155 : decode cX9_split 155 = .ok (.iadd, 1) := by decide +kernel
theorem dX9_split_156 : decode cX9_split 156 = .ok (.iload 11, 2) := by decide +kernel
theorem dX9_split_158 : decode cX9_split 158 = .ok (.iastore, 1) := by decide +kernel
theorem dX9_split_159 : decode cX9_split 159 = .ok (.iload 8, 2) := by decide +kernel
theorem dX9_split_161 : decode cX9_split 161 = .ok (.iload 11, 2) := by decide +kernel
theorem dX9_split_163 : decode cX9_split 163 = .ok (.isub, 1) := by decide +kernel
theorem dX9_split_164 : decode cX9_split 164 = .ok (.istore 8, 2) := by decide +kernel
theorem dX9_split_166 : decode cX9_split 166 = .ok (.iinc 10 1, 3) := by decide +kernel
theorem dX9_split_169 : decode cX9_split 169 = .ok (.goto (-96), 3) := by decide +kernel
theorem dX9_split_172 : decode cX9_split 172 = .ok (.aload_n 0, 1) := by decide +kernel
theorem dX9_split_173 : decode cX9_split 173 = .ok (.iload 8, 2) := by decide +kernel
theorem dX9_split_175 : decode cX9_split 175 = .ok (.iload 9, 2) := by decide +kernel
theorem dX9_split_177 : decode cX9_split 177 = .ok (.aload 4, 2) := by decide +kernel
theorem dX9_split_179 : decode cX9_split 179 = .ok (.invokevirtual 19, 3) := by decide +kernel
theorem dX9_split_182 : decode cX9_split 182 = .ok (.return_, 1) := by decide +kernel
theorem dX9_giveLeft_0 : decode cX9_giveLeft 0 = .ok (.iconst 0, 1) := by decide +kernel
theorem dX9_giveLeft_1 : decode cX9_giveLeft 1 = .ok (.istore 4, 2) := by decide +kernel
theorem dX9_giveLeft_3 : decode cX9_giveLeft 3 = .ok (.iload 4, 2) := by decide +kernel
theorem dX9_giveLeft_5 : decode cX9_giveLeft 5 = .ok (.iload_n 1, 1) := by decide +kernel
theorem dX9_giveLeft_6 : decode cX9_giveLeft 6 = .ok (.if_icmp .ge 76, 3) := by decide +kernel
theorem dX9_giveLeft_9 : decode cX9_giveLeft 9 = .ok (.iload 4, 2) := by decide +kernel
theorem dX9_giveLeft_11 : decode cX9_giveLeft 11 = .ok (.iload_n 2, 1) := by decide +kernel
theorem dX9_giveLeft_12 : decode cX9_giveLeft 12 = .ok (.if_icmp .ge 70, 3) := by decide +kernel
theorem dX9_giveLeft_15 : decode cX9_giveLeft 15 = .ok (.iconst 0, 1) := by decide +kernel
theorem dX9_giveLeft_16 : decode cX9_giveLeft 16 = .ok (.istore 5, 2) := by decide +kernel
theorem dX9_giveLeft_18 : decode cX9_giveLeft 18 = .ok (.iconst 1, 1) := by decide +kernel
theorem dX9_giveLeft_19 : decode cX9_giveLeft 19 = .ok (.istore 6, 2) := by decide +kernel
theorem dX9_giveLeft_21 : decode cX9_giveLeft 21 = .ok (.iload 6, 2) := by decide +kernel
theorem dX9_giveLeft_23 : decode cX9_giveLeft 23 = .ok (.iload_n 2, 1) := by decide +kernel
theorem dX9_giveLeft_24 : decode cX9_giveLeft 24 = .ok (.if_icmp .ge 31, 3) := by decide +kernel
theorem dX9_giveLeft_27 : decode cX9_giveLeft 27 = .ok (.aload_n 0, 1) := by decide +kernel
theorem dX9_giveLeft_28 : decode cX9_giveLeft 28 = .ok (.getfield 9, 3) := by decide +kernel
theorem dX9_giveLeft_31 : decode cX9_giveLeft 31 = .ok (.iload 6, 2) := by decide +kernel
theorem dX9_giveLeft_33 : decode cX9_giveLeft 33 = .ok (.laload, 1) := by decide +kernel
theorem dX9_giveLeft_34 : decode cX9_giveLeft 34 = .ok (.aload_n 0, 1) := by decide +kernel
theorem dX9_giveLeft_35 : decode cX9_giveLeft 35 = .ok (.getfield 9, 3) := by decide +kernel
theorem dX9_giveLeft_38 : decode cX9_giveLeft 38 = .ok (.iload 5, 2) := by decide +kernel
theorem dX9_giveLeft_40 : decode cX9_giveLeft 40 = .ok (.laload, 1) := by decide +kernel
theorem dX9_giveLeft_41 : decode cX9_giveLeft 41 = .ok (.lcmp, 1) := by decide +kernel
theorem dX9_giveLeft_42 : decode cX9_giveLeft 42 = .ok (.ifCond .le 7, 3) := by decide +kernel
theorem dX9_giveLeft_45 : decode cX9_giveLeft 45 = .ok (.iload 6, 2) := by decide +kernel
theorem dX9_giveLeft_47 : decode cX9_giveLeft 47 = .ok (.istore 5, 2) := by decide +kernel
theorem dX9_giveLeft_49 : decode cX9_giveLeft 49 = .ok (.iinc 6 1, 3) := by decide +kernel
theorem dX9_giveLeft_52 : decode cX9_giveLeft 52 = .ok (.goto (-31), 3) := by decide +kernel
theorem dX9_giveLeft_55 : decode cX9_giveLeft 55 = .ok (.aload_n 3, 1) := by decide +kernel
theorem dX9_giveLeft_56 : decode cX9_giveLeft 56 = .ok (.aload_n 0, 1) := by decide +kernel
theorem dX9_giveLeft_57 : decode cX9_giveLeft 57 = .ok (.getfield 15, 3) := by decide +kernel
theorem dX9_giveLeft_60 : decode cX9_giveLeft 60 = .ok (.iload 5, 2) := by decide +kernel
theorem dX9_giveLeft_62 : decode cX9_giveLeft 62 = .ok (.iaload, 1) := by decide +kernel
theorem dX9_giveLeft_63 : decode cX9_giveLeft 63 = .ok (.dup2, 1) := by decide +kernel
theorem dX9_giveLeft_64 : decode cX9_giveLeft 64 = .ok (.iaload, 1) := by decide +kernel
theorem dX9_giveLeft_65 : decode cX9_giveLeft 65 = .ok (.iconst 1, 1) := by decide +kernel
theorem dX9_giveLeft_66 : decode cX9_giveLeft 66 = .ok (.iadd, 1) := by decide +kernel
theorem dX9_giveLeft_67 : decode cX9_giveLeft 67 = .ok (.iastore, 1) := by decide +kernel
theorem dX9_giveLeft_68 : decode cX9_giveLeft 68 = .ok (.aload_n 0, 1) := by decide +kernel
theorem dX9_giveLeft_69 : decode cX9_giveLeft 69 = .ok (.getfield 9, 3) := by decide +kernel
theorem dX9_giveLeft_72 : decode cX9_giveLeft 72 = .ok (.iload 5, 2) := by decide +kernel
theorem dX9_giveLeft_74 : decode cX9_giveLeft 74 = .ok (.lconst 0, 1) := by decide +kernel
theorem dX9_giveLeft_75 : decode cX9_giveLeft 75 = .ok (.lastore, 1) := by decide +kernel
theorem dX9_giveLeft_76 : decode cX9_giveLeft 76 = .ok (.iinc 4 1, 3) := by decide +kernel
theorem dX9_giveLeft_79 : decode cX9_giveLeft 79 = .ok (.goto (-76), 3) := by decide +kernel
theorem dX9_giveLeft_82 : decode cX9_giveLeft 82 = .ok (.return_, 1) := by decide +kernel
theorem dX10_init_0 : decode cX10_init 0 = .ok (.aload_n 0, 1) := by decide +kernel
theorem dX10_init_1 : decode cX10_init 1 = .ok (.invokespecial 3, 3) := by decide +kernel
theorem dX10_init_4 : decode cX10_init 4 = .ok (.aload_n 0, 1) := by decide +kernel
theorem dX10_init_5 : decode cX10_init 5 = .ok (.bipush 6, 2) := by decide +kernel
theorem dX10_init_7 : decode cX10_init 7 = .ok (.bipush 32, 2) := by decide +kernel
theorem dX10_init_9 : decode cX10_init 9 = .ok (.multianewarray 9 2, 4) := by decide +kernel
theorem dX10_init_13 : decode cX10_init 13 = .ok (.putfield 11, 3) := by decide +kernel
theorem dX10_init_16 : decode cX10_init 16 = .ok (.aload_n 0, 1) := by decide +kernel
theorem dX10_init_17 : decode cX10_init 17 = .ok (.bipush 7, 2) := by decide +kernel
theorem dX10_init_19 : decode cX10_init 19 = .ok (.bipush 32, 2) := by decide +kernel
theorem dX10_init_21 : decode cX10_init 21 = .ok (.multianewarray 9 2, 4) := by decide +kernel
theorem dX10_init_25 : decode cX10_init 25 = .ok (.putfield 16, 3) := by decide +kernel
theorem dX10_init_28 : decode cX10_init 28 = .ok (.aload_n 0, 1) := by decide +kernel
theorem dX10_init_29 : decode cX10_init 29 = .ok (.iconst 3, 1) := by decide +kernel
theorem dX10_init_30 : decode cX10_init 30 = .ok (.putfield 19, 3) := by decide +kernel
theorem dX10_init_33 : decode cX10_init 33 = .ok (.aload_n 0, 1) := by decide +kernel
theorem dX10_init_34 : decode cX10_init 34 = .ok (.sipush 1000, 3) := by decide +kernel
theorem dX10_init_37 : decode cX10_init 37 = .ok (.putfield 23, 3) := by decide +kernel
theorem dX10_init_40 : decode cX10_init 40 = .ok (.aload_n 0, 1) := by decide +kernel
theorem dX10_init_41 : decode cX10_init 41 = .ok (.bipush 100, 2) := by decide +kernel
theorem dX10_init_43 : decode cX10_init 43 = .ok (.putfield 26, 3) := by decide +kernel
theorem dX10_init_46 : decode cX10_init 46 = .ok (.aload_n 0, 1) := by decide +kernel
theorem dX10_init_47 : decode cX10_init 47 = .ok (.aload_n 1, 1) := by decide +kernel
theorem dX10_init_48 : decode cX10_init 48 = .ok (.putfield 29, 3) := by decide +kernel
theorem dX10_init_51 : decode cX10_init 51 = .ok (.return_, 1) := by decide +kernel
theorem dX10_fill_0 : decode cX10_fill 0 = .ok (.aload_n 0, 1) := by decide +kernel
theorem dX10_fill_1 : decode cX10_fill 1 = .ok (.iconst 1, 1) := by decide +kernel
theorem dX10_fill_2 : decode cX10_fill 2 = .ok (.putfield 33, 3) := by decide +kernel
theorem dX10_fill_5 : decode cX10_fill 5 = .ok (.aload_n 0, 1) := by decide +kernel
theorem dX10_fill_6 : decode cX10_fill 6 = .ok (.iload_n 1, 1) := by decide +kernel
theorem dX10_fill_7 : decode cX10_fill 7 = .ok (.putfield 19, 3) := by decide +kernel
theorem dX10_fill_10 : decode cX10_fill 10 = .ok (.aload_n 0, 1) := by decide +kernel
theorem dX10_fill_11 : decode cX10_fill 11 = .ok (.iload_n 2, 1) := by decide +kernel
theorem dX10_fill_12 : decode cX10_fill 12 = .ok (.putfield 23, 3) := by decide +kernel
theorem dX10_fill_15 : decode cX10_fill 15 = .ok (.iconst 0, 1) := by decide +kernel
theorem dX10_fill_16 : decode cX10_fill 16 = .ok (.istore 5, 2) := by decide +kernel
theorem dX10_fill_18 : decode cX10_fill 18 = .ok (.iload 5, 2) := by decide +kernel
theorem dX10_fill_20 : decode cX10_fill 20 = .ok (.iload_n 1, 1) := by decide +kernel
theorem dX10_fill_21 : decode cX10_fill 21 = .ok (.if_icmp .ge 57, 3) := by decide +kernel
theorem dX10_fill_24 : decode cX10_fill 24 = .ok (.iconst 0, 1) := by decide +kernel
theorem dX10_fill_25 : decode cX10_fill 25 = .ok (.istore 6, 2) := by decide +kernel
theorem dX10_fill_27 : decode cX10_fill 27 = .ok (.iload 6, 2) := by decide +kernel
theorem dX10_fill_29 : decode cX10_fill 29 = .ok (.bipush 32, 2) := by decide +kernel
theorem dX10_fill_31 : decode cX10_fill 31 = .ok (.if_icmp .ge 20, 3) := by decide +kernel
theorem dX10_fill_34 : decode cX10_fill 34 = .ok (.aload_n 0, 1) := by decide +kernel
theorem dX10_fill_35 : decode cX10_fill 35 = .ok (.getfield 11, 3) := by decide +kernel
theorem dX10_fill_38 : decode cX10_fill 38 = .ok (.iload 5, 2) := by decide +kernel
theorem dX10_fill_40 : decode cX10_fill 40 = .ok (.aaload, 1) := by decide +kernel
theorem dX10_fill_41 : decode cX10_fill 41 = .ok (.iload 6, 2) := by decide +kernel
theorem dX10_fill_43 : decode cX10_fill 43 = .ok (.iconst 0, 1) := by decide +kernel
theorem dX10_fill_44 : decode cX10_fill 44 = .ok (.iastore, 1) := by decide +kernel
theorem dX10_fill_45 : decode cX10_fill 45 = .ok (.iinc 6 1, 3) := by decide +kernel
theorem dX10_fill_48 : decode cX10_fill 48 = .ok (.goto (-21), 3) := by decide +kernel
theorem dX10_fill_51 : decode cX10_fill 51 = .ok (.aload_n 0, 1) := by decide +kernel
theorem dX10_fill_52 : decode cX10_fill 52 = .ok (.getfield 29, 3) := by decide +kernel
theorem dX10_fill_55 : decode cX10_fill 55 = .ok (.iload_n 2, 1) := by decide +kernel
theorem dX10_fill_56 : decode cX10_fill 56 = .ok (.aload 4, 2) := by decide +kernel
theorem dX10_fill_58 : decode cX10_fill 58 = .ok (.iconst 4, 1) := by decide +kernel
theorem dX10_fill_59 : decode cX10_fill 59 = .ok (.aload_n 0, 1) := by decide +kernel
theorem dX10_fill_60 : decode cX10_fill 60 = .ok (.getfield 11, 3) := by decide +kernel
theorem dX10_fill_63 : decode cX10_fill 63 = .ok (.iload 5, 2) := by decide +kernel
theorem dX10_fill_65 : decode cX10_fill 65 = .ok (.aaload, 1) := by decide +kernel
theorem dX10_fill_66 : decode cX10_fill 66 = .ok (.iload_n 3, 1) := by decide +kernel
theorem dX10_fill_67 : decode cX10_fill 67 = .ok (.iconst 4, 1) := by decide +kernel
theorem dX10_fill_68 : decode cX10_fill 68 = .ok (.imul, 1) := by decide +kernel
theorem dX10_fill_69 : decode cX10_fill 69 = .ok (.invokevirtual 37, 3) := by decide +kernel
theorem dX10_fill_72 : decode cX10_fill 72 = .ok (.iinc 5 1, 3) := by decide +kernel
theorem dX10_fill_75 : decode cX10_fill 75 = .ok (.goto (-57), 3) := by decide +kernel
theorem dX10_fill_78 : decode cX10_fill 78 = .ok (.return_, 1) := by decide +kernel
theorem dX10_copy_0 : decode cX10_copy 0 = .ok (.aload_n 0, 1) := by decide +kernel
theorem dX10_copy_1 : decode cX10_copy 1 = .ok (.aload_n 1, 1) := by decide +kernel
theorem dX10_copy_2 : decode cX10_copy 2 = .ok (.getfield 33, 3) := by decide +kernel
theorem dX10_copy_5 : decode cX10_copy 5 = .ok (.putfield 33, 3) := by decide +kernel
theorem dX10_copy_8 : decode cX10_copy 8 = .ok (.aload_n 0, 1) := by decide +kernel
theorem dX10_copy_9 : decode cX10_copy 9 = .ok (.aload_n 1, 1) := by decide +kernel
theorem dX10_copy_10 : decode cX10_copy 10 = .ok (.getfield 19, 3) := by decide +kernel
theorem dX10_copy_13 : decode cX10_copy 13 = .ok (.putfield 19, 3) := by decide +kernel
theorem dX10_copy_16 : decode cX10_copy 16 = .ok (.aload_n 0, 1) := by decide +kernel
theorem dX10_copy_17 : decode cX10_copy 17 = .ok (.aload_n 1, 1) := by decide +kernel
theorem dX10_copy_18 : decode cX10_copy 18 = .ok (.getfield 23, 3) := by decide +kernel
theorem dX10_copy_21 : decode cX10_copy 21 = .ok (.putfield 23, 3) := by decide +kernel
theorem dX10_copy_24 : decode cX10_copy 24 = .ok (.aload_n 0, 1) := by decide +kernel
theorem dX10_copy_25 : decode cX10_copy 25 = .ok (.aload_n 1, 1) := by decide +kernel
theorem dX10_copy_26 : decode cX10_copy 26 = .ok (.getfield 26, 3) := by decide +kernel
theorem dX10_copy_29 : decode cX10_copy 29 = .ok (.putfield 26, 3) := by decide +kernel
theorem dX10_copy_32 : decode cX10_copy 32 = .ok (.iconst 0, 1) := by decide +kernel
theorem dX10_copy_33 : decode cX10_copy 33 = .ok (.istore_n 2, 1) := by decide +kernel
theorem dX10_copy_34 : decode cX10_copy 34 = .ok (.iload_n 2, 1) := by decide +kernel
theorem dX10_copy_35 : decode cX10_copy 35 = .ok (.aload_n 0, 1) := by decide +kernel
theorem dX10_copy_36 : decode cX10_copy 36 = .ok (.getfield 19, 3) := by decide +kernel
theorem dX10_copy_39 : decode cX10_copy 39 = .ok (.if_icmp .ge 28, 3) := by decide +kernel
theorem dX10_copy_42 : decode cX10_copy 42 = .ok (.aload_n 1, 1) := by decide +kernel
theorem dX10_copy_43 : decode cX10_copy 43 = .ok (.getfield 11, 3) := by decide +kernel
theorem dX10_copy_46 : decode cX10_copy 46 = .ok (.iload_n 2, 1) := by decide +kernel
theorem dX10_copy_47 : decode cX10_copy 47 = .ok (.aaload, 1) := by decide +kernel
theorem dX10_copy_48 : decode cX10_copy 48 = .ok (.iconst 0, 1) := by decide +kernel
theorem dX10_copy_49 : decode cX10_copy 49 = .ok (.aload_n 0, 1) := by decide +kernel
theorem dX10_copy_50 : decode cX10_copy 50 = .ok (.getfield 11, 3) := by decide +kernel
theorem dX10_copy_53 : decode cX10_copy 53 = .ok (.iload_n 2, 1) := by decide +kernel
theorem dX10_copy_54 : decode cX10_copy 54 = .ok (.aaload, 1) := by decide +kernel
theorem dX10_copy_55 : decode cX10_copy 55 = .ok (.iconst 0, 1) := by decide +kernel
theorem dX10_copy_56 : decode cX10_copy 56 = .ok (.bipush 32, 2) := by decide +kernel
theorem dX10_copy_58 : decode cX10_copy 58 = .ok (.invokestatic 43, 3) := by decide +kernel
theorem dX10_copy_61 : decode cX10_copy 61 = .ok (.iinc 2 1, 3) := by decide +kernel
theorem dX10_copy_64 : decode cX10_copy 64 = .ok (.goto (-30), 3) := by decide +kernel
theorem dX10_copy_67 : decode cX10_copy 67 = .ok (.return_, 1) := by decide +kernel
theorem dX10_pass_0 : decode cX10_pass 0 = .ok (.aload_n 1, 1) := by decide +kernel
theorem dX10_pass_1 : decode cX10_pass 1 = .ok (.getfield 49, 3) := by decide +kernel
theorem dX10_pass_4 : decode cX10_pass 4 = .ok (.iconst 0, 1) := by decide +kernel
theorem dX10_pass_5 : decode cX10_pass 5 = .ok (.aload_n 0, 1) := by decide +kernel
theorem dX10_pass_6 : decode cX10_pass 6 = .ok (.getfield 16, 3) := by decide +kernel
theorem dX10_pass_9 : decode cX10_pass 9 = .ok (.iconst 0, 1) := by decide +kernel
theorem dX10_pass_10 : decode cX10_pass 10 = .ok (.aaload, 1) := by decide +kernel
theorem dX10_pass_11 : decode cX10_pass 11 = .ok (.iconst 0, 1) := by decide +kernel
theorem dX10_pass_12 : decode cX10_pass 12 = .ok (.bipush 32, 2) := by decide +kernel
theorem dX10_pass_14 : decode cX10_pass 14 = .ok (.invokestatic 43, 3) := by decide +kernel
theorem dX10_pass_17 : decode cX10_pass 17 = .ok (.iconst 0, 1) := by decide +kernel
theorem dX10_pass_18 : decode cX10_pass 18 = .ok (.istore_n 2, 1) := by decide +kernel
theorem dX10_pass_19 : decode cX10_pass 19 = .ok (.iload_n 2, 1) := by decide +kernel
theorem dX10_pass_20 : decode cX10_pass 20 = .ok (.aload_n 0, 1) := by decide +kernel
theorem dX10_pass_21 : decode cX10_pass 21 = .ok (.getfield 19, 3) := by decide +kernel
theorem dX10_pass_24 : decode cX10_pass 24 = .ok (.if_icmp .ge 39, 3) := by decide +kernel
theorem dX10_pass_27 : decode cX10_pass 27 = .ok (.aload_n 0, 1) := by decide +kernel
theorem dX10_pass_28 : decode cX10_pass 28 = .ok (.getfield 29, 3) := by decide +kernel
theorem dX10_pass_31 : decode cX10_pass 31 = .ok (.aload_n 0, 1) := by decide +kernel
theorem dX10_pass_32 : decode cX10_pass 32 = .ok (.getfield 26, 3) := by decide +kernel
theorem dX10_pass_35 : decode cX10_pass 35 = .ok (.aload_n 0, 1) := by decide +kernel
theorem dX10_pass_36 : decode cX10_pass 36 = .ok (.getfield 11, 3) := by decide +kernel
theorem dX10_pass_39 : decode cX10_pass 39 = .ok (.iload_n 2, 1) := by decide +kernel
theorem dX10_pass_40 : decode cX10_pass 40 = .ok (.aaload, 1) := by decide +kernel
theorem dX10_pass_41 : decode cX10_pass 41 = .ok (.aload_n 1, 1) := by decide +kernel
theorem dX10_pass_42 : decode cX10_pass 42 = .ok (.getfield 55, 3) := by decide +kernel
theorem dX10_pass_45 : decode cX10_pass 45 = .ok (.aload_n 0, 1) := by decide +kernel
theorem dX10_pass_46 : decode cX10_pass 46 = .ok (.getfield 16, 3) := by decide +kernel
theorem dX10_pass_49 : decode cX10_pass 49 = .ok (.iload_n 2, 1) := by decide +kernel
theorem dX10_pass_50 : decode cX10_pass 50 = .ok (.iconst 1, 1) := by decide +kernel
theorem dX10_pass_51 : decode cX10_pass 51 = .ok (.iadd, 1) := by decide +kernel
theorem dX10_pass_52 : decode cX10_pass 52 = .ok (.aaload, 1) := by decide +kernel
theorem dX10_pass_53 : decode cX10_pass 53 = .ok (.iconst 0, 1) := by decide +kernel
theorem dX10_pass_54 : decode cX10_pass 54 = .ok (.invokevirtual 37, 3) := by decide +kernel
theorem dX10_pass_57 : decode cX10_pass 57 = .ok (.iinc 2 1, 3) := by decide +kernel
theorem dX10_pass_60 : decode cX10_pass 60 = .ok (.goto (-41), 3) := by decide +kernel
theorem dX10_pass_63 : decode cX10_pass 63 = .ok (.aload_n 0, 1) := by decide +kernel
theorem dX10_pass_64 : decode cX10_pass 64 = .ok (.iconst 1, 1) := by decide +kernel
theorem dX10_pass_65 : decode cX10_pass 65 = .ok (.putfield 58, 3) := by decide +kernel
theorem dX10_pass_68 : decode cX10_pass 68 = .ok (.iconst 0, 1) := by decide +kernel
theorem dX10_pass_69 : decode cX10_pass 69 = .ok (.istore_n 2, 1) := by decide +kernel
theorem dX10_pass_70 : decode cX10_pass 70 = .ok (.iload_n 2, 1) := by decide +kernel
theorem dX10_pass_71 : decode cX10_pass 71 = .ok (.aload_n 0, 1) := by decide +kernel
theorem dX10_pass_72 : decode cX10_pass 72 = .ok (.getfield 19, 3) := by decide +kernel
theorem dX10_pass_75 : decode cX10_pass 75 = .ok (.if_icmp .ge 18, 3) := by decide +kernel
theorem dX10_pass_78 : decode cX10_pass 78 = .ok (.aload_n 0, 1) := by decide +kernel
theorem dX10_pass_79 : decode cX10_pass 79 = .ok (.iload_n 2, 1) := by decide +kernel
theorem dX10_pass_80 : decode cX10_pass 80 = .ok (.aload_n 1, 1) := by decide +kernel
theorem dX10_pass_81 : decode cX10_pass 81 = .ok (.getfield 55, 3) := by decide +kernel
theorem dX10_pass_84 : decode cX10_pass 84 = .ok (.invokevirtual 61, 3) := by decide +kernel
theorem dX10_pass_87 : decode cX10_pass 87 = .ok (.iinc 2 1, 3) := by decide +kernel
theorem dX10_pass_90 : decode cX10_pass 90 = .ok (.goto (-20), 3) := by decide +kernel
theorem dX10_pass_93 : decode cX10_pass 93 = .ok (.return_, 1) := by decide +kernel
theorem dX10_move_0 : decode cX10_move 0 = .ok (.iconst 0, 1) := by decide +kernel
theorem dX10_move_1 : decode cX10_move 1 = .ok (.istore_n 3, 1) := by decide +kernel
theorem dX10_move_2 : decode cX10_move 2 = .ok (.iload_n 3, 1) := by decide +kernel
theorem dX10_move_3 : decode cX10_move 3 = .ok (.iload_n 2, 1) := by decide +kernel
theorem dX10_move_4 : decode cX10_move 4 = .ok (.if_icmp .ge 53, 3) := by decide +kernel
theorem dX10_move_7 : decode cX10_move 7 = .ok (.aload_n 0, 1) := by decide +kernel
theorem dX10_move_8 : decode cX10_move 8 = .ok (.getfield 16, 3) := by decide +kernel
theorem dX10_move_11 : decode cX10_move 11 = .ok (.iload_n 1, 1) := by decide +kernel
theorem dX10_move_12 : decode cX10_move 12 = .ok (.aaload, 1) := by decide +kernel
theorem dX10_move_13 : decode cX10_move 13 = .ok (.iload_n 3, 1) := by decide +kernel
theorem dX10_move_14 : decode cX10_move 14 = .ok (.iaload, 1) := by decide +kernel
theorem dX10_move_15 : decode cX10_move 15 = .ok (.aload_n 0, 1) := by decide +kernel
theorem dX10_move_16 : decode cX10_move 16 = .ok (.getfield 16, 3) := by decide +kernel
theorem dX10_move_19 : decode cX10_move 19 = .ok (.iload_n 1, 1) := by decide +kernel
theorem dX10_move_20 : decode cX10_move 20 = .ok (.iconst 1, 1) := by decide +kernel
theorem dX10_move_21 : decode cX10_move 21 = .ok (.iadd, 1) := by decide +kernel
theorem dX10_move_22 : decode cX10_move 22 = .ok (.aaload, 1) := by decide +kernel
theorem dX10_move_23 : decode cX10_move 23 = .ok (.iload_n 3, 1) := by decide +kernel
theorem dX10_move_24 : decode cX10_move 24 = .ok (.iaload, 1) := by decide +kernel
theorem dX10_move_25 : decode cX10_move 25 = .ok (.isub, 1) := by decide +kernel
theorem dX10_move_26 : decode cX10_move 26 = .ok (.istore 4, 2) := by decide +kernel
theorem dX10_move_28 : decode cX10_move 28 = .ok (.iload 4, 2) := by decide +kernel
theorem dX10_move_30 : decode cX10_move 30 = .ok (.ifCond .eq 21, 3) := by decide +kernel
theorem dX10_move_33 : decode cX10_move 33 = .ok (.aload_n 0, 1) := by decide +kernel
theorem dX10_move_34 : decode cX10_move 34 = .ok (.getfield 11, 3) := by decide +kernel
theorem dX10_move_37 : decode cX10_move 37 = .ok (.iload_n 1, 1) := by decide +kernel
theorem dX10_move_38 : decode cX10_move 38 = .ok (.aaload, 1) := by decide +kernel
theorem dX10_move_39 : decode cX10_move 39 = .ok (.iload_n 3, 1) := by decide +kernel
theorem dX10_move_40 : decode cX10_move 40 = .ok (.dup2, 1) := by decide +kernel
theorem dX10_move_41 : decode cX10_move 41 = .ok (.iaload, 1) := by decide +kernel
theorem dX10_move_42 : decode cX10_move 42 = .ok (.iload 4, 2) := by decide +kernel
theorem dX10_move_44 : decode cX10_move 44 = .ok (.iadd, 1) := by decide +kernel
theorem dX10_move_45 : decode cX10_move 45 = .ok (.iastore, 1) := by decide +kernel
theorem dX10_move_46 : decode cX10_move 46 = .ok (.aload_n 0, 1) := by decide +kernel
theorem dX10_move_47 : decode cX10_move 47 = .ok (.iconst 0, 1) := by decide +kernel
theorem dX10_move_48 : decode cX10_move 48 = .ok (.putfield 58, 3) := by decide +kernel
theorem dX10_move_51 : decode cX10_move 51 = .ok (.iinc 3 1, 3) := by decide +kernel
theorem dX10_move_54 : decode cX10_move 54 = .ok (.goto (-52), 3) := by decide +kernel
theorem dX10_move_57 : decode cX10_move 57 = .ok (.return_, 1) := by decide +kernel
theorem dX10_outOfLast_0 : decode cX10_outOfLast 0 = .ok (.aload_n 0, 1) := by decide +kernel
theorem dX10_outOfLast_1 : decode cX10_outOfLast 1 = .ok (.getfield 16, 3) := by decide +kernel
theorem dX10_outOfLast_4 : decode cX10_outOfLast 4 = .ok (.aload_n 0, 1) := by decide +kernel
theorem dX10_outOfLast_5 : decode cX10_outOfLast 5 = .ok (.getfield 19, 3) := by decide +kernel
theorem dX10_outOfLast_8 : decode cX10_outOfLast 8 = .ok (.aaload, 1) := by decide +kernel
theorem dX10_outOfLast_9 : decode cX10_outOfLast 9 = .ok (.areturn, 1) := by decide +kernel
theorem dX10_gramsIn_0 : decode cX10_gramsIn 0 = .ok (.iconst 0, 1) := by decide +kernel
theorem dX10_gramsIn_1 : decode cX10_gramsIn 1 = .ok (.istore 4, 2) := by decide +kernel
theorem dX10_gramsIn_3 : decode cX10_gramsIn 3 = .ok (.iconst 0, 1) := by decide +kernel
theorem dX10_gramsIn_4 : decode cX10_gramsIn 4 = .ok (.istore 5, 2) := by decide +kernel
theorem dX10_gramsIn_6 : decode cX10_gramsIn 6 = .ok (.iload 5, 2) := by decide +kernel
theorem dX10_gramsIn_8 : decode cX10_gramsIn 8 = .ok (.bipush 32, 2) := by decide +kernel
theorem dX10_gramsIn_10 : decode cX10_gramsIn 10 = .ok (.if_icmp .ge 49, 3) := by decide +kernel
theorem dX10_gramsIn_13 : decode cX10_gramsIn 13 = .ok (.iload_n 2, 1) := by decide +kernel
theorem dX10_gramsIn_14 : decode cX10_gramsIn 14 = .ok (.iconst (-1), 1) := by decide +kernel
theorem dX10_gramsIn_15 : decode cX10_gramsIn 15 = .ok (.if_icmp .eq 11, 3) := by decide +kernel
theorem dX10_gramsIn_18 : decode cX10_gramsIn 18 = .ok (.iload_n 2, 1) := by decide +kernel
theorem dX10_gramsIn_19 : decode cX10_gramsIn 19 = .ok (.iload 5, 2) := by decide +kernel
theorem dX10_gramsIn_21 : decode cX10_gramsIn 21 = .ok (.iconst 4, 1) := by decide +kernel
theorem dX10_gramsIn_22 : decode cX10_gramsIn 22 = .ok (.idiv, 1) := by decide +kernel
theorem dX10_gramsIn_23 : decode cX10_gramsIn 23 = .ok (.if_icmp .ne 30, 3) := by decide +kernel
theorem dX10_gramsIn_26 : decode cX10_gramsIn 26 = .ok (.iload_n 3, 1) := by decide +kernel
theorem dX10_gramsIn_27 : decode cX10_gramsIn 27 = .ok (.iconst (-1), 1) := by decide +kernel
theorem dX10_gramsIn_28 : decode cX10_gramsIn 28 = .ok (.if_icmp .eq 11, 3) := by decide +kernel
theorem dX10_gramsIn_31 : decode cX10_gramsIn 31 = .ok (.iload_n 3, 1) := by decide +kernel
theorem dX10_gramsIn_32 : decode cX10_gramsIn 32 = .ok (.iload 5, 2) := by decide +kernel
theorem dX10_gramsIn_34 : decode cX10_gramsIn 34 = .ok (.iconst 4, 1) := by decide +kernel
theorem dX10_gramsIn_35 : decode cX10_gramsIn 35 = .ok (.irem, 1) := by decide +kernel
theorem dX10_gramsIn_36 : decode cX10_gramsIn 36 = .ok (.if_icmp .ne 17, 3) := by decide +kernel
theorem dX10_gramsIn_39 : decode cX10_gramsIn 39 = .ok (.iload 4, 2) := by decide +kernel
theorem dX10_gramsIn_41 : decode cX10_gramsIn 41 = .ok (.aload_n 0, 1) := by decide +kernel
theorem dX10_gramsIn_42 : decode cX10_gramsIn 42 = .ok (.getfield 11, 3) := by decide +kernel
theorem dX10_gramsIn_45 : decode cX10_gramsIn 45 = .ok (.iload_n 1, 1) := by decide +kernel
theorem dX10_gramsIn_46 : decode cX10_gramsIn 46 = .ok (.aaload, 1) := by decide +kernel
theorem dX10_gramsIn_47 : decode cX10_gramsIn 47 = .ok (.iload 5, 2) := by decide +kernel
theorem dX10_gramsIn_49 : decode cX10_gramsIn 49 = .ok (.iaload, 1) := by decide +kernel
theorem dX10_gramsIn_50 : decode cX10_gramsIn 50 = .ok (.iadd, 1) := by decide +kernel
theorem dX10_gramsIn_51 : decode cX10_gramsIn 51 = .ok (.istore 4, 2) := by decide +kernel
theorem dX10_gramsIn_53 : decode cX10_gramsIn 53 = .ok (.iinc 5 1, 3) := by decide +kernel
theorem dX10_gramsIn_56 : decode cX10_gramsIn 56 = .ok (.goto (-50), 3) := by decide +kernel
theorem dX10_gramsIn_59 : decode cX10_gramsIn 59 = .ok (.iload 4, 2) := by decide +kernel
theorem dX10_gramsIn_61 : decode cX10_gramsIn 61 = .ok (.ireturn, 1) := by decide +kernel
theorem dX10_allGrams_0 : decode cX10_allGrams 0 = .ok (.aload_n 0, 1) := by decide +kernel
theorem dX10_allGrams_1 : decode cX10_allGrams 1 = .ok (.getfield 33, 3) := by decide +kernel
theorem dX10_allGrams_4 : decode cX10_allGrams 4 = .ok (.ifCond .eq 15, 3) := by decide +kernel
theorem dX10_allGrams_7 : decode cX10_allGrams 7 = .ok (.aload_n 0, 1) := by decide +kernel
theorem dX10_allGrams_8 : decode cX10_allGrams 8 = .ok (.getfield 19, 3) := by decide +kernel
theorem dX10_allGrams_11 : decode cX10_allGrams 11 = .ok (.aload_n 0, 1) := by decide +kernel
theorem dX10_allGrams_12 : decode cX10_allGrams 12 = .ok (.getfield 23, 3) := by decide +kernel
theorem dX10_allGrams_15 : decode cX10_allGrams 15 = .ok (.imul, 1) := by decide +kernel
theorem dX10_allGrams_16 : decode cX10_allGrams 16 = .ok (.goto 4, 3) := by decide +kernel
theorem dX10_allGrams_19 : decode cX10_allGrams 19 = .ok (.iconst 0, 1) := by decide +kernel
theorem dX10_allGrams_20 : decode cX10_allGrams 20 = .ok (.ireturn, 1) := by decide +kernel
theorem dX11_init_0 : decode cX11_init 0 = .ok (.aload_n 0, 1) := by decide +kernel
theorem dX11_init_1 : decode cX11_init 1 = .ok (.invokespecial 3, 3) := by decide +kernel
theorem dX11_init_4 : decode cX11_init 4 = .ok (.new 9, 3) := by decide +kernel
theorem dX11_init_7 : decode cX11_init 7 = .ok (.dup, 1) := by decide +kernel
theorem dX11_init_8 : decode cX11_init 8 = .ok (.invokespecial 11, 3) := by decide +kernel
theorem dX11_init_11 : decode cX11_init 11 = .ok (.astore_n 1, 1) := by decide +kernel
theorem dX11_init_12 : decode cX11_init 12 = .ok (.aload_n 0, 1) := by decide +kernel
theorem dX11_init_13 : decode cX11_init 13 = .ok (.new 12, 3) := by decide +kernel
theorem dX11_init_16 : decode cX11_init 16 = .ok (.dup, 1) := by decide +kernel
theorem dX11_init_17 : decode cX11_init 17 = .ok (.invokespecial 14, 3) := by decide +kernel
theorem dX11_init_20 : decode cX11_init 20 = .ok (.putfield 15, 3) := by decide +kernel
theorem dX11_init_23 : decode cX11_init 23 = .ok (.aload_n 0, 1) := by decide +kernel
theorem dX11_init_24 : decode cX11_init 24 = .ok (.new 19, 3) := by decide +kernel
theorem dX11_init_27 : decode cX11_init 27 = .ok (.dup, 1) := by decide +kernel
theorem dX11_init_28 : decode cX11_init 28 = .ok (.invokespecial 21, 3) := by decide +kernel
theorem dX11_init_31 : decode cX11_init 31 = .ok (.putfield 22, 3) := by decide +kernel
theorem dX11_init_34 : decode cX11_init 34 = .ok (.aload_n 0, 1) := by decide +kernel
theorem dX11_init_35 : decode cX11_init 35 = .ok (.new 26, 3) := by decide +kernel
theorem dX11_init_38 : decode cX11_init 38 = .ok (.dup, 1) := by decide +kernel
theorem dX11_init_39 : decode cX11_init 39 = .ok (.invokespecial 28, 3) := by decide +kernel
theorem dX11_init_42 : decode cX11_init 42 = .ok (.putfield 29, 3) := by decide +kernel
theorem dX11_init_45 : decode cX11_init 45 = .ok (.aload_n 0, 1) := by decide +kernel
theorem dX11_init_46 : decode cX11_init 46 = .ok (.new 33, 3) := by decide +kernel
theorem dX11_init_49 : decode cX11_init 49 = .ok (.dup, 1) := by decide +kernel
theorem dX11_init_50 : decode cX11_init 50 = .ok (.aload_n 0, 1) := by decide +kernel
theorem dX11_init_51 : decode cX11_init 51 = .ok (.getfield 15, 3) := by decide +kernel
theorem dX11_init_54 : decode cX11_init 54 = .ok (.aload_n 0, 1) := by decide +kernel
theorem dX11_init_55 : decode cX11_init 55 = .ok (.getfield 29, 3) := by decide +kernel
theorem dX11_init_58 : decode cX11_init 58 = .ok (.invokespecial 35, 3) := by decide +kernel
theorem dX11_init_61 : decode cX11_init 61 = .ok (.putfield 38, 3) := by decide +kernel
theorem dX11_init_64 : decode cX11_init 64 = .ok (.aload_n 0, 1) := by decide +kernel
theorem dX11_init_65 : decode cX11_init 65 = .ok (.new 42, 3) := by decide +kernel
theorem dX11_init_68 : decode cX11_init 68 = .ok (.dup, 1) := by decide +kernel
theorem dX11_init_69 : decode cX11_init 69 = .ok (.aload_n 1, 1) := by decide +kernel
theorem dX11_init_70 : decode cX11_init 70 = .ok (.invokespecial 44, 3) := by decide +kernel
theorem dX11_init_73 : decode cX11_init 73 = .ok (.putfield 47, 3) := by decide +kernel
theorem dX11_init_76 : decode cX11_init 76 = .ok (.aload_n 0, 1) := by decide +kernel
theorem dX11_init_77 : decode cX11_init 77 = .ok (.new 51, 3) := by decide +kernel
theorem dX11_init_80 : decode cX11_init 80 = .ok (.dup, 1) := by decide +kernel
theorem dX11_init_81 : decode cX11_init 81 = .ok (.aload_n 0, 1) := by decide +kernel
theorem dX11_init_82 : decode cX11_init 82 = .ok (.getfield 15, 3) := by decide +kernel
theorem dX11_init_85 : decode cX11_init 85 = .ok (.aload_n 0, 1) := by decide +kernel
theorem dX11_init_86 : decode cX11_init 86 = .ok (.getfield 22, 3) := by decide +kernel
theorem dX11_init_89 : decode cX11_init 89 = .ok (.aload_n 1, 1) := by decide +kernel
theorem dX11_init_90 : decode cX11_init 90 = .ok (.invokespecial 53, 3) := by decide +kernel
theorem dX11_init_93 : decode cX11_init 93 = .ok (.putfield 56, 3) := by decide +kernel
theorem dX11_init_96 : decode cX11_init 96 = .ok (.aload_n 0, 1) := by decide +kernel
theorem dX11_init_97 : decode cX11_init 97 = .ok (.new 60, 3) := by decide +kernel
theorem dX11_init_100 : decode cX11_init 100 = .ok (.dup, 1) := by decide +kernel
theorem dX11_init_101 : decode cX11_init 101 = .ok (.invokespecial 62, 3) := by decide +kernel
theorem dX11_init_104 : decode cX11_init 104 = .ok (.putfield 63, 3) := by decide +kernel
theorem dX11_init_107 : decode cX11_init 107 = .ok (.aload_n 0, 1) := by decide +kernel
theorem dX11_init_108 : decode cX11_init 108 = .ok (.new 67, 3) := by decide +kernel
theorem dX11_init_111 : decode cX11_init 111 = .ok (.dup, 1) := by decide +kernel
theorem dX11_init_112 : decode cX11_init 112 = .ok (.invokespecial 69, 3) := by decide +kernel
theorem dX11_init_115 : decode cX11_init 115 = .ok (.putfield 70, 3) := by decide +kernel
theorem dX11_init_118 : decode cX11_init 118 = .ok (.aload_n 0, 1) := by decide +kernel
theorem dX11_init_119 : decode cX11_init 119 = .ok (.new 74, 3) := by decide +kernel
theorem dX11_init_122 : decode cX11_init 122 = .ok (.dup, 1) := by decide +kernel
theorem dX11_init_123 : decode cX11_init 123 = .ok (.aload_n 0, 1) := by decide +kernel
theorem dX11_init_124 : decode cX11_init 124 = .ok (.getfield 47, 3) := by decide +kernel
theorem dX11_init_127 : decode cX11_init 127 = .ok (.aload_n 0, 1) := by decide +kernel
theorem dX11_init_128 : decode cX11_init 128 = .ok (.getfield 29, 3) := by decide +kernel
theorem dX11_init_131 : decode cX11_init 131 = .ok (.new 51, 3) := by decide +kernel
theorem dX11_init_134 : decode cX11_init 134 = .ok (.dup, 1) := by decide +kernel
theorem dX11_init_135 : decode cX11_init 135 = .ok (.aload_n 0, 1) := by decide +kernel
theorem dX11_init_136 : decode cX11_init 136 = .ok (.getfield 15, 3) := by decide +kernel
theorem dX11_init_139 : decode cX11_init 139 = .ok (.aload_n 0, 1) := by decide +kernel
theorem dX11_init_140 : decode cX11_init 140 = .ok (.getfield 22, 3) := by decide +kernel
theorem dX11_init_143 : decode cX11_init 143 = .ok (.aload_n 1, 1) := by decide +kernel
theorem dX11_init_144 : decode cX11_init 144 = .ok (.invokespecial 53, 3) := by decide +kernel
theorem dX11_init_147 : decode cX11_init 147 = .ok (.new 51, 3) := by decide +kernel
theorem dX11_init_150 : decode cX11_init 150 = .ok (.dup, 1) := by decide +kernel
theorem dX11_init_151 : decode cX11_init 151 = .ok (.aload_n 0, 1) := by decide +kernel
theorem dX11_init_152 : decode cX11_init 152 = .ok (.getfield 15, 3) := by decide +kernel
theorem dX11_init_155 : decode cX11_init 155 = .ok (.aload_n 0, 1) := by decide +kernel
theorem dX11_init_156 : decode cX11_init 156 = .ok (.getfield 22, 3) := by decide +kernel
theorem dX11_init_159 : decode cX11_init 159 = .ok (.aload_n 1, 1) := by decide +kernel
theorem dX11_init_160 : decode cX11_init 160 = .ok (.invokespecial 53, 3) := by decide +kernel
theorem dX11_init_163 : decode cX11_init 163 = .ok (.new 42, 3) := by decide +kernel
theorem dX11_init_166 : decode cX11_init 166 = .ok (.dup, 1) := by decide +kernel
theorem dX11_init_167 : decode cX11_init 167 = .ok (.aload_n 1, 1) := by decide +kernel
theorem dX11_init_168 : decode cX11_init 168 = .ok (.invokespecial 44, 3) := by decide +kernel
theorem dX11_init_171 : decode cX11_init 171 = .ok (.invokespecial 76, 3) := by decide +kernel
theorem dX11_init_174 : decode cX11_init 174 = .ok (.putfield 79, 3) := by decide +kernel
theorem dX11_init_177 : decode cX11_init 177 = .ok (.aload_n 0, 1) := by decide +kernel
theorem dX11_init_178 : decode cX11_init 178 = .ok (.new 83, 3) := by decide +kernel
theorem dX11_init_181 : decode cX11_init 181 = .ok (.dup, 1) := by decide +kernel
theorem dX11_init_182 : decode cX11_init 182 = .ok (.invokespecial 85, 3) := by decide +kernel
theorem dX11_init_185 : decode cX11_init 185 = .ok (.putfield 86, 3) := by decide +kernel
theorem dX11_init_188 : decode cX11_init 188 = .ok (.aload_n 0, 1) := by decide +kernel
theorem dX11_init_189 : decode cX11_init 189 = .ok (.iconst (-1), 1) := by decide +kernel
theorem dX11_init_190 : decode cX11_init 190 = .ok (.putfield 90, 3) := by decide +kernel
theorem dX11_init_193 : decode cX11_init 193 = .ok (.return_, 1) := by decide +kernel
theorem dX11_feed_0 : decode cX11_feed 0 = .ok (.iload_n 1, 1) := by decide +kernel
theorem dX11_feed_1 : decode cX11_feed 1 = .ok (.iconst 0, 1) := by decide +kernel
theorem dX11_feed_2 : decode cX11_feed 2 = .ok (.iconst 3, 1) := by decide +kernel
theorem dX11_feed_3 : decode cX11_feed 3 = .ok (.invokestatic 94, 3) := by decide +kernel
theorem dX11_feed_6 : decode cX11_feed 6 = .ok (.ifCond .eq 15, 3) := by decide +kernel
theorem dX11_feed_9 : decode cX11_feed 9 = .ok (.iload_n 2, 1) := by decide +kernel
theorem dX11_feed_10 : decode cX11_feed 10 = .ok (.iload_n 3, 1) := by decide +kernel
theorem dX11_feed_11 : decode cX11_feed 11 = .ok (.iload 4, 2) := by decide +kernel
theorem dX11_feed_13 : decode cX11_feed 13 = .ok (.iload 5, 2) := by decide +kernel
theorem dX11_feed_15 : decode cX11_feed 15 = .ok (.invokestatic 98, 3) := by decide +kernel
theorem dX11_feed_18 : decode cX11_feed 18 = .ok (.ifCond .ne 6, 3) := by decide +kernel
theorem dX11_feed_21 : decode cX11_feed 21 = .ok (.ldc 102, 2) := by decide +kernel
theorem dX11_feed_23 : decode cX11_feed 23 = .ok (.ireturn, 1) := by decide +kernel
theorem dX11_feed_24 : decode cX11_feed 24 = .ok (.iload 6, 2) := by decide +kernel
theorem dX11_feed_26 : decode cX11_feed 26 = .ok (.iconst 0, 1) := by decide +kernel
theorem dX11_feed_27 : decode cX11_feed 27 = .ok (.iload_n 1, 1) := by decide +kernel
theorem dX11_feed_28 : decode cX11_feed 28 = .ok (.invokestatic 103, 3) := by decide +kernel
theorem dX11_feed_31 : decode cX11_feed 31 = .ok (.invokestatic 94, 3) := by decide +kernel
theorem dX11_feed_34 : decode cX11_feed 34 = .ok (.ifCond .eq 15, 3) := by decide +kernel
theorem dX11_feed_37 : decode cX11_feed 37 = .ok (.iload 7, 2) := by decide +kernel
theorem dX11_feed_39 : decode cX11_feed 39 = .ok (.iconst 0, 1) := by decide +kernel
theorem dX11_feed_40 : decode cX11_feed 40 = .ok (.sipush 10000, 3) := by decide +kernel
theorem dX11_feed_43 : decode cX11_feed 43 = .ok (.invokestatic 94, 3) := by decide +kernel
theorem dX11_feed_46 : decode cX11_feed 46 = .ok (.ifCond .ne 6, 3) := by decide +kernel
theorem dX11_feed_49 : decode cX11_feed 49 = .ok (.ldc 102, 2) := by decide +kernel
theorem dX11_feed_51 : decode cX11_feed 51 = .ok (.ireturn, 1) := by decide +kernel
theorem dX11_feed_52 : decode cX11_feed 52 = .ok (.aload_n 0, 1) := by decide +kernel
theorem dX11_feed_53 : decode cX11_feed 53 = .ok (.getfield 15, 3) := by decide +kernel
theorem dX11_feed_56 : decode cX11_feed 56 = .ok (.iload_n 1, 1) := by decide +kernel
theorem dX11_feed_57 : decode cX11_feed 57 = .ok (.iload_n 2, 1) := by decide +kernel
theorem dX11_feed_58 : decode cX11_feed 58 = .ok (.iload_n 3, 1) := by decide +kernel
theorem dX11_feed_59 : decode cX11_feed 59 = .ok (.iload 4, 2) := by decide +kernel
theorem dX11_feed_61 : decode cX11_feed 61 = .ok (.iload 5, 2) := by decide +kernel
theorem dX11_feed_63 : decode cX11_feed 63 = .ok (.iload 6, 2) := by decide +kernel
theorem dX11_feed_65 : decode cX11_feed 65 = .ok (.iload 7, 2) := by decide +kernel
theorem dX11_feed_67 : decode cX11_feed 67 = .ok (.invokevirtual 107, 3) := by decide +kernel
theorem dX11_feed_70 : decode cX11_feed 70 = .ok (.ireturn, 1) := by decide +kernel
theorem dX11_stock_0 : decode cX11_stock 0 = .ok (.aload_n 0, 1) := by decide +kernel
theorem dX11_stock_1 : decode cX11_stock 1 = .ok (.getfield 15, 3) := by decide +kernel
theorem dX11_stock_4 : decode cX11_stock 4 = .ok (.iload_n 1, 1) := by decide +kernel
theorem dX11_stock_5 : decode cX11_stock 5 = .ok (.invokevirtual 111, 3) := by decide +kernel
theorem dX11_stock_8 : decode cX11_stock 8 = .ok (.ifCond .eq 23, 3) := by decide +kernel
theorem dX11_stock_11 : decode cX11_stock 11 = .ok (.iload_n 2, 1) := by decide +kernel
theorem dX11_stock_12 : decode cX11_stock 12 = .ok (.ifCond .lt 19, 3) := by decide +kernel
theorem dX11_stock_15 : decode cX11_stock 15 = .ok (.iload_n 2, 1) := by decide +kernel
theorem dX11_stock_16 : decode cX11_stock 16 = .ok (.ldc 115, 2) := by decide +kernel
theorem dX11_stock_18 : decode cX11_stock 18 = .ok (.aload_n 0, 1) := by decide +kernel
theorem dX11_stock_19 : decode cX11_stock 19 = .ok (.getfield 15, 3) := by decide +kernel
theorem dX11_stock_22 : decode cX11_stock 22 = .ok (.getfield 116, 3) := by decide +kernel
theorem dX11_stock_25 : decode cX11_stock 25 = .ok (.iload_n 1, 1) := by decide +kernel
theorem dX11_stock_26 : decode cX11_stock 26 = .ok (.iaload, 1) := by decide +kernel
theorem dX11_stock_27 : decode cX11_stock 27 = .ok (.isub, 1) := by decide +kernel
theorem dX11_stock_28 : decode cX11_stock 28 = .ok (.if_icmp .le 6, 3) := by decide +kernel
theorem dX11_stock_31 : decode cX11_stock 31 = .ok (.ldc 102, 2) := by decide +kernel
theorem dX11_stock_33 : decode cX11_stock 33 = .ok (.ireturn, 1) := by decide +kernel
theorem dX11_stock_34 : decode cX11_stock 34 = .ok (.aload_n 0, 1) := by decide +kernel
theorem dX11_stock_35 : decode cX11_stock 35 = .ok (.getfield 15, 3) := by decide +kernel
theorem dX11_stock_38 : decode cX11_stock 38 = .ok (.getfield 116, 3) := by decide +kernel
theorem dX11_stock_41 : decode cX11_stock 41 = .ok (.iload_n 1, 1) := by decide +kernel
theorem dX11_stock_42 : decode cX11_stock 42 = .ok (.dup2, 1) := by decide +kernel
theorem dX11_stock_43 : decode cX11_stock 43 = .ok (.iaload, 1) := by decide +kernel
theorem dX11_stock_44 : decode cX11_stock 44 = .ok (.iload_n 2, 1) := by decide +kernel
theorem dX11_stock_45 : decode cX11_stock 45 = .ok (.iadd, 1) := by decide +kernel
theorem dX11_stock_46 : decode cX11_stock 46 = .ok (.iastore, 1) := by decide +kernel
theorem dX11_stock_47 : decode cX11_stock 47 = .ok (.aload_n 0, 1) := by decide +kernel
theorem dX11_stock_48 : decode cX11_stock 48 = .ok (.getfield 15, 3) := by decide +kernel
theorem dX11_stock_51 : decode cX11_stock 51 = .ok (.getfield 116, 3) := by decide +kernel
theorem dX11_stock_54 : decode cX11_stock 54 = .ok (.iload_n 1, 1) := by decide +kernel
theorem dX11_stock_55 : decode cX11_stock 55 = .ok (.iaload, 1) := by decide +kernel
theorem dX11_stock_56 : decode cX11_stock 56 = .ok (.ireturn, 1) := by decide +kernel
theorem dX11_of_0 : decode cX11_of 0 = .ok (.aload_n 0, 1) := by decide +kernel
theorem dX11_of_1 : decode cX11_of 1 = .ok (.getfield 15, 3) := by decide +kernel
theorem dX11_of_4 : decode cX11_of 4 = .ok (.iload_n 1, 1) := by decide +kernel
theorem dX11_of_5 : decode cX11_of 5 = .ok (.invokevirtual 111, 3) := by decide +kernel
theorem dX11_of_8 : decode cX11_of 8 = .ok (.ifCond .ne 6, 3) := by decide +kernel
theorem dX11_of_11 : decode cX11_of 11 = .ok (.ldc 102, 2) := by decide +kernel
theorem dX11_of_13 : decode cX11_of 13 = .ok (.ireturn, 1) := by decide +kernel
theorem dX11_of_14 : decode cX11_of 14 = .ok (.iload_n 2, 1) := by decide +kernel
theorem dX11_of_15 : decode cX11_of 15 = .ok (.tableswitch 111 0 8 #[49, 49, 49, 49, 61, 71, 81, 91, 101], 49) := by decide +kernel
theorem dX11_of_64 : decode cX11_of 64 = .ok (.aload_n 0, 1) := by decide +kernel
theorem dX11_of_65 : decode cX11_of 65 = .ok (.getfield 15, 3) := by decide +kernel
theorem dX11_of_68 : decode cX11_of 68 = .ok (.getfield 120, 3) := by decide +kernel
theorem dX11_of_71 : decode cX11_of 71 = .ok (.iload_n 1, 1) := by decide +kernel
theorem dX11_of_72 : decode cX11_of 72 = .ok (.aaload, 1) := by decide +kernel
theorem dX11_of_73 : decode cX11_of 73 = .ok (.iload_n 2, 1) := by decide +kernel
theorem dX11_of_74 : decode cX11_of 74 = .ok (.iaload, 1) := by decide +kernel
theorem dX11_of_75 : decode cX11_of 75 = .ok (.ireturn, 1) := by decide +kernel
theorem dX11_of_76 : decode cX11_of 76 = .ok (.aload_n 0, 1) := by decide +kernel
theorem dX11_of_77 : decode cX11_of 77 = .ok (.getfield 15, 3) := by decide +kernel
theorem dX11_of_80 : decode cX11_of 80 = .ok (.getfield 124, 3) := by decide +kernel
theorem dX11_of_83 : decode cX11_of 83 = .ok (.iload_n 1, 1) := by decide +kernel
theorem dX11_of_84 : decode cX11_of 84 = .ok (.iaload, 1) := by decide +kernel
theorem dX11_of_85 : decode cX11_of 85 = .ok (.ireturn, 1) := by decide +kernel
theorem dX11_of_86 : decode cX11_of 86 = .ok (.aload_n 0, 1) := by decide +kernel
theorem dX11_of_87 : decode cX11_of 87 = .ok (.getfield 15, 3) := by decide +kernel
theorem dX11_of_90 : decode cX11_of 90 = .ok (.getfield 127, 3) := by decide +kernel
theorem dX11_of_93 : decode cX11_of 93 = .ok (.iload_n 1, 1) := by decide +kernel
theorem dX11_of_94 : decode cX11_of 94 = .ok (.iaload, 1) := by decide +kernel
theorem dX11_of_95 : decode cX11_of 95 = .ok (.ireturn, 1) := by decide +kernel
theorem dX11_of_96 : decode cX11_of 96 = .ok (.aload_n 0, 1) := by decide +kernel
theorem dX11_of_97 : decode cX11_of 97 = .ok (.getfield 15, 3) := by decide +kernel
theorem dX11_of_100 : decode cX11_of 100 = .ok (.getfield 130, 3) := by decide +kernel
theorem dX11_of_103 : decode cX11_of 103 = .ok (.iload_n 1, 1) := by decide +kernel
theorem dX11_of_104 : decode cX11_of 104 = .ok (.iaload, 1) := by decide +kernel
theorem dX11_of_105 : decode cX11_of 105 = .ok (.ireturn, 1) := by decide +kernel
theorem dX11_of_106 : decode cX11_of 106 = .ok (.aload_n 0, 1) := by decide +kernel
theorem dX11_of_107 : decode cX11_of 107 = .ok (.getfield 15, 3) := by decide +kernel
theorem dX11_of_110 : decode cX11_of 110 = .ok (.getfield 116, 3) := by decide +kernel
theorem dX11_of_113 : decode cX11_of 113 = .ok (.iload_n 1, 1) := by decide +kernel
theorem dX11_of_114 : decode cX11_of 114 = .ok (.iaload, 1) := by decide +kernel
theorem dX11_of_115 : decode cX11_of 115 = .ok (.ireturn, 1) := by decide +kernel
theorem dX11_of_116 : decode cX11_of 116 = .ok (.aload_n 0, 1) := by decide +kernel
theorem dX11_of_117 : decode cX11_of 117 = .ok (.getfield 22, 3) := by decide +kernel
theorem dX11_of_120 : decode cX11_of 120 = .ok (.getfield 133, 3) := by decide +kernel
theorem dX11_of_123 : decode cX11_of 123 = .ok (.iload_n 1, 1) := by decide +kernel
theorem dX11_of_124 : decode cX11_of 124 = .ok (.iaload, 1) := by decide +kernel
theorem dX11_of_125 : decode cX11_of 125 = .ok (.ireturn, 1) := by decide +kernel
theorem dX11_of_126 : decode cX11_of 126 = .ok (.ldc 102, 2) := by decide +kernel
theorem dX11_of_128 : decode cX11_of 128 = .ok (.ireturn, 1) := by decide +kernel
theorem dX11_tank_0 : decode cX11_tank 0 = .ok (.iload_n 1, 1) := by decide +kernel
theorem dX11_tank_1 : decode cX11_tank 1 = .ok (.iconst 2, 1) := by decide +kernel
theorem dX11_tank_2 : decode cX11_tank 2 = .ok (.bipush 6, 2) := by decide +kernel
theorem dX11_tank_4 : decode cX11_tank 4 = .ok (.invokestatic 94, 3) := by decide +kernel
theorem dX11_tank_7 : decode cX11_tank 7 = .ok (.ifCond .eq 14, 3) := by decide +kernel
theorem dX11_tank_10 : decode cX11_tank 10 = .ok (.iload_n 2, 1) := by decide +kernel
theorem dX11_tank_11 : decode cX11_tank 11 = .ok (.bipush 100, 2) := by decide +kernel
theorem dX11_tank_13 : decode cX11_tank 13 = .ok (.ldc 136, 2) := by decide +kernel
theorem dX11_tank_15 : decode cX11_tank 15 = .ok (.invokestatic 94, 3) := by decide +kernel
theorem dX11_tank_18 : decode cX11_tank 18 = .ok (.ifCond .ne 6, 3) := by decide +kernel
theorem dX11_tank_21 : decode cX11_tank 21 = .ok (.ldc 102, 2) := by decide +kernel
theorem dX11_tank_23 : decode cX11_tank 23 = .ok (.ireturn, 1) := by decide +kernel
theorem dX11_tank_24 : decode cX11_tank 24 = .ok (.iload_n 3, 1) := by decide +kernel
theorem dX11_tank_25 : decode cX11_tank 25 = .ok (.iconst 1, 1) := by decide +kernel
theorem dX11_tank_26 : decode cX11_tank 26 = .ok (.iload_n 2, 1) := by decide +kernel
theorem dX11_tank_27 : decode cX11_tank 27 = .ok (.invokestatic 94, 3) := by decide +kernel
theorem dX11_tank_30 : decode cX11_tank 30 = .ok (.ifCond .eq 15, 3) := by decide +kernel
theorem dX11_tank_33 : decode cX11_tank 33 = .ok (.aload_n 0, 1) := by decide +kernel
theorem dX11_tank_34 : decode cX11_tank 34 = .ok (.getfield 15, 3) := by decide +kernel
theorem dX11_tank_37 : decode cX11_tank 37 = .ok (.iload 4, 2) := by decide +kernel
theorem dX11_tank_39 : decode cX11_tank 39 = .ok (.invokevirtual 111, 3) := by decide +kernel
theorem dX11_tank_42 : decode cX11_tank 42 = .ok (.ifCond .ne 6, 3) := by decide +kernel
theorem dX11_tank_45 : decode cX11_tank 45 = .ok (.ldc 102, 2) := by decide +kernel
theorem dX11_tank_47 : decode cX11_tank 47 = .ok (.ireturn, 1) := by decide +kernel
theorem dX11_tank_48 : decode cX11_tank 48 = .ok (.aload_n 0, 1) := by decide +kernel
theorem dX11_tank_49 : decode cX11_tank 49 = .ok (.getfield 47, 3) := by decide +kernel
theorem dX11_tank_52 : decode cX11_tank 52 = .ok (.iload_n 1, 1) := by decide +kernel
theorem dX11_tank_53 : decode cX11_tank 53 = .ok (.iload_n 2, 1) := by decide +kernel
theorem dX11_tank_54 : decode cX11_tank 54 = .ok (.iload 4, 2) := by decide +kernel
theorem dX11_tank_56 : decode cX11_tank 56 = .ok (.aload_n 0, 1) := by decide +kernel
theorem dX11_tank_57 : decode cX11_tank 57 = .ok (.getfield 15, 3) := by decide +kernel
theorem dX11_tank_60 : decode cX11_tank 60 = .ok (.getfield 120, 3) := by decide +kernel
theorem dX11_tank_63 : decode cX11_tank 63 = .ok (.iload 4, 2) := by decide +kernel
theorem dX11_tank_65 : decode cX11_tank 65 = .ok (.aaload, 1) := by decide +kernel
theorem dX11_tank_66 : decode cX11_tank 66 = .ok (.invokevirtual 137, 3) := by decide +kernel
theorem dX11_tank_69 : decode cX11_tank 69 = .ok (.aload_n 0, 1) := by decide +kernel
theorem dX11_tank_70 : decode cX11_tank 70 = .ok (.getfield 47, 3) := by decide +kernel
theorem dX11_tank_73 : decode cX11_tank 73 = .ok (.iload_n 3, 1) := by decide +kernel
theorem dX11_tank_74 : decode cX11_tank 74 = .ok (.putfield 141, 3) := by decide +kernel
theorem dX11_tank_77 : decode cX11_tank 77 = .ok (.aload_n 0, 1) := by decide +kernel
theorem dX11_tank_78 : decode cX11_tank 78 = .ok (.getfield 70, 3) := by decide +kernel
theorem dX11_tank_81 : decode cX11_tank 81 = .ok (.invokevirtual 144, 3) := by decide +kernel
theorem dX11_tank_84 : decode cX11_tank 84 = .ok (.iconst 1, 1) := by decide +kernel
theorem dX11_tank_85 : decode cX11_tank 85 = .ok (.ireturn, 1) := by decide +kernel
theorem dX11_pull_0 : decode cX11_pull 0 = .ok (.iload_n 1, 1) := by decide +kernel
theorem dX11_pull_1 : decode cX11_pull 1 = .ok (.iconst 1, 1) := by decide +kernel
theorem dX11_pull_2 : decode cX11_pull 2 = .ok (.aload_n 0, 1) := by decide +kernel
theorem dX11_pull_3 : decode cX11_pull 3 = .ok (.getfield 47, 3) := by decide +kernel
theorem dX11_pull_6 : decode cX11_pull 6 = .ok (.getfield 147, 3) := by decide +kernel
theorem dX11_pull_9 : decode cX11_pull 9 = .ok (.invokestatic 94, 3) := by decide +kernel
theorem dX11_pull_12 : decode cX11_pull 12 = .ok (.ifCond .ne 6, 3) := by decide +kernel
theorem dX11_pull_15 : decode cX11_pull 15 = .ok (.ldc 102, 2) := by decide +kernel
theorem dX11_pull_17 : decode cX11_pull 17 = .ok (.ireturn, 1) := by decide +kernel
theorem dX11_pull_18 : decode cX11_pull 18 = .ok (.aload_n 0, 1) := by decide +kernel
theorem dX11_pull_19 : decode cX11_pull 19 = .ok (.getfield 47, 3) := by decide +kernel
theorem dX11_pull_22 : decode cX11_pull 22 = .ok (.getfield 141, 3) := by decide +kernel
theorem dX11_pull_25 : decode cX11_pull 25 = .ok (.istore_n 2, 1) := by decide +kernel
theorem dX11_pull_26 : decode cX11_pull 26 = .ok (.aload_n 0, 1) := by decide +kernel
theorem dX11_pull_27 : decode cX11_pull 27 = .ok (.getfield 47, 3) := by decide +kernel
theorem dX11_pull_30 : decode cX11_pull 30 = .ok (.iload_n 1, 1) := by decide +kernel
theorem dX11_pull_31 : decode cX11_pull 31 = .ok (.putfield 141, 3) := by decide +kernel
theorem dX11_pull_34 : decode cX11_pull 34 = .ok (.iload_n 2, 1) := by decide +kernel
theorem dX11_pull_35 : decode cX11_pull 35 = .ok (.ireturn, 1) := by decide +kernel
theorem dX11_cell_0 : decode cX11_cell 0 = .ok (.iload_n 1, 1) := by decide +kernel
theorem dX11_cell_1 : decode cX11_cell 1 = .ok (.iconst 0, 1) := by decide +kernel
theorem dX11_cell_2 : decode cX11_cell 2 = .ok (.aload_n 0, 1) := by decide +kernel
theorem dX11_cell_3 : decode cX11_cell 3 = .ok (.getfield 47, 3) := by decide +kernel
theorem dX11_cell_6 : decode cX11_cell 6 = .ok (.getfield 150, 3) := by decide +kernel
theorem dX11_cell_9 : decode cX11_cell 9 = .ok (.iconst 1, 1) := by decide +kernel
theorem dX11_cell_10 : decode cX11_cell 10 = .ok (.isub, 1) := by decide +kernel
theorem dX11_cell_11 : decode cX11_cell 11 = .ok (.invokestatic 94, 3) := by decide +kernel
theorem dX11_cell_14 : decode cX11_cell 14 = .ok (.ifCond .eq 19, 3) := by decide +kernel
theorem dX11_cell_17 : decode cX11_cell 17 = .ok (.iload_n 2, 1) := by decide +kernel
theorem dX11_cell_18 : decode cX11_cell 18 = .ok (.iconst (-1), 1) := by decide +kernel
theorem dX11_cell_19 : decode cX11_cell 19 = .ok (.if_icmp .eq 17, 3) := by decide +kernel
theorem dX11_cell_22 : decode cX11_cell 22 = .ok (.aload_n 0, 1) := by decide +kernel
theorem dX11_cell_23 : decode cX11_cell 23 = .ok (.getfield 15, 3) := by decide +kernel
theorem dX11_cell_26 : decode cX11_cell 26 = .ok (.iload_n 2, 1) := by decide +kernel
theorem dX11_cell_27 : decode cX11_cell 27 = .ok (.invokevirtual 111, 3) := by decide +kernel
theorem dX11_cell_30 : decode cX11_cell 30 = .ok (.ifCond .ne 6, 3) := by decide +kernel
theorem dX11_cell_33 : decode cX11_cell 33 = .ok (.ldc 102, 2) := by decide +kernel
theorem dX11_cell_35 : decode cX11_cell 35 = .ok (.ireturn, 1) := by decide +kernel
theorem dX11_cell_36 : decode cX11_cell 36 = .ok (.iload_n 3, 1) := by decide +kernel
theorem dX11_cell_37 : decode cX11_cell 37 = .ok (.iconst (-1), 1) := by decide +kernel
theorem dX11_cell_38 : decode cX11_cell 38 = .ok (.if_icmp .eq 10, 3) := by decide +kernel
theorem dX11_cell_41 : decode cX11_cell 41 = .ok (.iload_n 3, 1) := by decide +kernel
theorem dX11_cell_42 : decode cX11_cell 42 = .ok (.invokestatic 153, 3) := by decide +kernel
theorem dX11_cell_45 : decode cX11_cell 45 = .ok (.ifCond .eq 13, 3) := by decide +kernel
theorem dX11_cell_48 : decode cX11_cell 48 = .ok (.aload_n 0, 1) := by decide +kernel
theorem dX11_cell_49 : decode cX11_cell 49 = .ok (.getfield 47, 3) := by decide +kernel
theorem dX11_cell_52 : decode cX11_cell 52 = .ok (.getfield 156, 3) := by decide +kernel
theorem dX11_cell_55 : decode cX11_cell 55 = .ok (.ifCond .ne 6, 3) := by decide +kernel
theorem dX11_cell_58 : decode cX11_cell 58 = .ok (.ldc 102, 2) := by decide +kernel
theorem dX11_cell_60 : decode cX11_cell 60 = .ok (.ireturn, 1) := by decide +kernel
theorem dX11_cell_61 : decode cX11_cell 61 = .ok (.aload_n 0, 1) := by decide +kernel
theorem dX11_cell_62 : decode cX11_cell 62 = .ok (.getfield 47, 3) := by decide +kernel
theorem dX11_cell_65 : decode cX11_cell 65 = .ok (.iload_n 1, 1) := by decide +kernel
theorem dX11_cell_66 : decode cX11_cell 66 = .ok (.iload_n 2, 1) := by decide +kernel
theorem dX11_cell_67 : decode cX11_cell 67 = .ok (.iload_n 3, 1) := by decide +kernel
theorem dX11_cell_68 : decode cX11_cell 68 = .ok (.invokevirtual 160, 3) := by decide +kernel
theorem dX11_cell_71 : decode cX11_cell 71 = .ok (.ireturn, 1) := by decide +kernel
theorem dX11_share_0 : decode cX11_share 0 = .ok (.aload_n 0, 1) := by decide +kernel
theorem dX11_share_1 : decode cX11_share 1 = .ok (.getfield 15, 3) := by decide +kernel
theorem dX11_share_4 : decode cX11_share 4 = .ok (.iload_n 1, 1) := by decide +kernel
theorem dX11_share_5 : decode cX11_share 5 = .ok (.invokevirtual 111, 3) := by decide +kernel
theorem dX11_share_8 : decode cX11_share 8 = .ok (.ifCond .eq 14, 3) := by decide +kernel
theorem dX11_share_11 : decode cX11_share 11 = .ok (.iload_n 2, 1) := by decide +kernel
theorem dX11_share_12 : decode cX11_share 12 = .ok (.iconst 0, 1) := by decide +kernel
theorem dX11_share_13 : decode cX11_share 13 = .ok (.sipush 1000, 3) := by decide +kernel
theorem dX11_share_16 : decode cX11_share 16 = .ok (.invokestatic 94, 3) := by decide +kernel
theorem dX11_share_19 : decode cX11_share 19 = .ok (.ifCond .ne 6, 3) := by decide +kernel
theorem dX11_share_22 : decode cX11_share 22 = .ok (.ldc 102, 2) := by decide +kernel
theorem dX11_share_24 : decode cX11_share 24 = .ok (.ireturn, 1) := by decide +kernel
theorem dX11_share_25 : decode cX11_share 25 = .ok (.aload_n 0, 1) := by decide +kernel
theorem dX11_share_26 : decode cX11_share 26 = .ok (.getfield 22, 3) := by decide +kernel
theorem dX11_share_29 : decode cX11_share 29 = .ok (.getfield 164, 3) := by decide +kernel
theorem dX11_share_32 : decode cX11_share 32 = .ok (.iload_n 1, 1) := by decide +kernel
theorem dX11_share_33 : decode cX11_share 33 = .ok (.iaload, 1) := by decide +kernel
theorem dX11_share_34 : decode cX11_share 34 = .ok (.istore_n 3, 1) := by decide +kernel
theorem dX11_share_35 : decode cX11_share 35 = .ok (.aload_n 0, 1) := by decide +kernel
theorem dX11_share_36 : decode cX11_share 36 = .ok (.getfield 22, 3) := by decide +kernel
theorem dX11_share_39 : decode cX11_share 39 = .ok (.getfield 164, 3) := by decide +kernel
theorem dX11_share_42 : decode cX11_share 42 = .ok (.iload_n 1, 1) := by decide +kernel
theorem dX11_share_43 : decode cX11_share 43 = .ok (.iload_n 2, 1) := by decide +kernel
theorem dX11_share_44 : decode cX11_share 44 = .ok (.iastore, 1) := by decide +kernel
theorem dX11_share_45 : decode cX11_share 45 = .ok (.iload_n 3, 1) := by decide +kernel
theorem dX11_share_46 : decode cX11_share 46 = .ok (.ireturn, 1) := by decide +kernel
theorem dX11_mix_0 : decode cX11_mix 0 = .ok (.aload_n 0, 1) := by decide +kernel
theorem dX11_mix_1 : decode cX11_mix 1 = .ok (.getfield 22, 3) := by decide +kernel
theorem dX11_mix_4 : decode cX11_mix 4 = .ok (.getfield 164, 3) := by decide +kernel
theorem dX11_mix_7 : decode cX11_mix 7 = .ok (.invokestatic 167, 3) := by decide +kernel
theorem dX11_mix_10 : decode cX11_mix 10 = .ok (.sipush 1000, 3) := by decide +kernel
theorem dX11_mix_13 : decode cX11_mix 13 = .ok (.if_icmp .eq 6, 3) := by decide +kernel
theorem dX11_mix_16 : decode cX11_mix 16 = .ok (.ldc 102, 2) := by decide +kernel
theorem dX11_mix_18 : decode cX11_mix 18 = .ok (.ireturn, 1) := by decide +kernel
theorem dX11_mix_19 : decode cX11_mix 19 = .ok (.aload_n 0, 1) := by decide +kernel
theorem dX11_mix_20 : decode cX11_mix 20 = .ok (.getfield 22, 3) := by decide +kernel
theorem dX11_mix_23 : decode cX11_mix 23 = .ok (.aload_n 0, 1) := by decide +kernel
theorem dX11_mix_24 : decode cX11_mix 24 = .ok (.getfield 22, 3) := by decide +kernel
theorem dX11_mix_27 : decode cX11_mix 27 = .ok (.getfield 164, 3) := by decide +kernel
theorem dX11_mix_30 : decode cX11_mix 30 = .ok (.invokevirtual 171, 3) := by decide +kernel
theorem dX11_mix_33 : decode cX11_mix 33 = .ok (.iconst 1, 1) := by decide +kernel
theorem dX11_mix_34 : decode cX11_mix 34 = .ok (.ireturn, 1) := by decide +kernel
theorem dX11_colour_0 : decode cX11_colour 0 = .ok (.aload_n 0, 1) := by decide +kernel
theorem dX11_colour_1 : decode cX11_colour 1 = .ok (.getfield 29, 3) := by decide +kernel
theorem dX11_colour_4 : decode cX11_colour 4 = .ok (.invokevirtual 175, 3) := by decide +kernel
theorem dX11_colour_7 : decode cX11_colour 7 = .ok (.ireturn, 1) := by decide +kernel
theorem dX11_span_0 : decode cX11_span 0 = .ok (.aload_n 0, 1) := by decide +kernel
theorem dX11_span_1 : decode cX11_span 1 = .ok (.getfield 29, 3) := by decide +kernel
theorem dX11_span_4 : decode cX11_span 4 = .ok (.iload_n 1, 1) := by decide +kernel
theorem dX11_span_5 : decode cX11_span 5 = .ok (.invokevirtual 178, 3) := by decide +kernel
theorem dX11_span_8 : decode cX11_span 8 = .ok (.ifCond .eq 10, 3) := by decide +kernel
theorem dX11_span_11 : decode cX11_span 11 = .ok (.iload_n 2, 1) := by decide +kernel
theorem dX11_span_12 : decode cX11_span 12 = .ok (.invokestatic 153, 3) := by decide +kernel
theorem dX11_span_15 : decode cX11_span 15 = .ok (.ifCond .ne 6, 3) := by decide +kernel
theorem dX11_span_18 : decode cX11_span 18 = .ok (.ldc 102, 2) := by decide +kernel
theorem dX11_span_20 : decode cX11_span 20 = .ok (.ireturn, 1) := by decide +kernel
theorem dX11_span_21 : decode cX11_span 21 = .ok (.iload_n 3, 1) := by decide +kernel
theorem dX11_span_22 : decode cX11_span 22 = .ok (.iconst 0, 1) := by decide +kernel
theorem dX11_span_23 : decode cX11_span 23 = .ok (.sipush 1000, 3) := by decide +kernel
theorem dX11_span_26 : decode cX11_span 26 = .ok (.invokestatic 94, 3) := by decide +kernel
theorem dX11_span_29 : decode cX11_span 29 = .ok (.ifCond .eq 21, 3) := by decide +kernel
theorem dX11_span_32 : decode cX11_span 32 = .ok (.iload 4, 2) := by decide +kernel
theorem dX11_span_34 : decode cX11_span 34 = .ok (.iconst 0, 1) := by decide +kernel
theorem dX11_span_35 : decode cX11_span 35 = .ok (.sipush 1000, 3) := by decide +kernel
theorem dX11_span_38 : decode cX11_span 38 = .ok (.invokestatic 94, 3) := by decide +kernel
theorem dX11_span_41 : decode cX11_span 41 = .ok (.ifCond .eq 9, 3) := by decide +kernel
theorem dX11_span_44 : decode cX11_span 44 = .ok (.iload_n 3, 1) := by decide +kernel
theorem dX11_span_45 : decode cX11_span 45 = .ok (.iload 4, 2) := by decide +kernel
theorem dX11_span_47 : decode cX11_span 47 = .ok (.if_icmp .le 6, 3) := by decide +kernel
theorem dX11_span_50 : decode cX11_span 50 = .ok (.ldc 102, 2) := by decide +kernel
theorem dX11_span_52 : decode cX11_span 52 = .ok (.ireturn, 1) := by decide +kernel
theorem dX11_span_53 : decode cX11_span 53 = .ok (.aload_n 0, 1) := by decide +kernel
theorem dX11_span_54 : decode cX11_span 54 = .ok (.getfield 29, 3) := by decide +kernel
theorem dX11_span_57 : decode cX11_span 57 = .ok (.getfield 179, 3) := by decide +kernel
theorem dX11_span_60 : decode cX11_span 60 = .ok (.iload_n 1, 1) := by decide +kernel
theorem dX11_span_61 : decode cX11_span 61 = .ok (.aaload, 1) := by decide +kernel
theorem dX11_span_62 : decode cX11_span 62 = .ok (.iload_n 2, 1) := by decide +kernel
theorem dX11_span_63 : decode cX11_span 63 = .ok (.iload_n 3, 1) := by decide +kernel
theorem dX11_span_64 : decode cX11_span 64 = .ok (.iastore, 1) := by decide +kernel
theorem dX11_span_65 : decode cX11_span 65 = .ok (.aload_n 0, 1) := by decide +kernel
theorem dX11_span_66 : decode cX11_span 66 = .ok (.getfield 29, 3) := by decide +kernel
theorem dX11_span_69 : decode cX11_span 69 = .ok (.getfield 182, 3) := by decide +kernel
theorem dX11_span_72 : decode cX11_span 72 = .ok (.iload_n 1, 1) := by decide +kernel
theorem dX11_span_73 : decode cX11_span 73 = .ok (.aaload, 1) := by decide +kernel
theorem dX11_span_74 : decode cX11_span 74 = .ok (.iload_n 2, 1) := by decide +kernel
theorem dX11_span_75 : decode cX11_span 75 = .ok (.iload 4, 2) := by decide +kernel
theorem dX11_span_77 : decode cX11_span 77 = .ok (.iastore, 1) := by decide +kernel
theorem dX11_span_78 : decode cX11_span 78 = .ok (.iconst 1, 1) := by decide +kernel
theorem dX11_span_79 : decode cX11_span 79 = .ok (.ireturn, 1) := by decide +kernel
theorem dX11_sure_0 : decode cX11_sure 0 = .ok (.aload_n 0, 1) := by decide +kernel
theorem dX11_sure_1 : decode cX11_sure 1 = .ok (.getfield 29, 3) := by decide +kernel
theorem dX11_sure_4 : decode cX11_sure 4 = .ok (.iload_n 1, 1) := by decide +kernel
theorem dX11_sure_5 : decode cX11_sure 5 = .ok (.invokevirtual 178, 3) := by decide +kernel
theorem dX11_sure_8 : decode cX11_sure 8 = .ok (.ifCond .eq 13, 3) := by decide +kernel
theorem dX11_sure_11 : decode cX11_sure 11 = .ok (.aload_n 0, 1) := by decide +kernel
theorem dX11_sure_12 : decode cX11_sure 12 = .ok (.getfield 22, 3) := by decide +kernel
theorem dX11_sure_15 : decode cX11_sure 15 = .ok (.getfield 185, 3) := by decide +kernel
theorem dX11_sure_18 : decode cX11_sure 18 = .ok (.ifCond .ne 6, 3) := by decide +kernel
theorem dX11_sure_21 : decode cX11_sure 21 = .ok (.ldc 102, 2) := by decide +kernel
theorem dX11_sure_23 : decode cX11_sure 23 = .ok (.ireturn, 1) := by decide +kernel
theorem dX11_sure_24 : decode cX11_sure 24 = .ok (.aload_n 0, 1) := by decide +kernel
theorem dX11_sure_25 : decode cX11_sure 25 = .ok (.getfield 29, 3) := by decide +kernel
theorem dX11_sure_28 : decode cX11_sure 28 = .ok (.iload_n 1, 1) := by decide +kernel
theorem dX11_sure_29 : decode cX11_sure 29 = .ok (.aload_n 0, 1) := by decide +kernel
theorem dX11_sure_30 : decode cX11_sure 30 = .ok (.getfield 22, 3) := by decide +kernel
theorem dX11_sure_33 : decode cX11_sure 33 = .ok (.getfield 133, 3) := by decide +kernel
theorem dX11_sure_36 : decode cX11_sure 36 = .ok (.aload_n 0, 1) := by decide +kernel
theorem dX11_sure_37 : decode cX11_sure 37 = .ok (.getfield 15, 3) := by decide +kernel
theorem dX11_sure_40 : decode cX11_sure 40 = .ok (.invokevirtual 186, 3) := by decide +kernel
theorem dX11_sure_43 : decode cX11_sure 43 = .ok (.ifCond .eq 7, 3) := by decide +kernel
theorem dX11_sure_46 : decode cX11_sure 46 = .ok (.iconst 1, 1) := by decide +kernel
theorem dX11_sure_47 : decode cX11_sure 47 = .ok (.goto 4, 3) := by decide +kernel
theorem dX11_sure_50 : decode cX11_sure 50 = .ok (.iconst 0, 1) := by decide +kernel
theorem dX11_sure_51 : decode cX11_sure 51 = .ok (.ireturn, 1) := by decide +kernel
theorem dX11_cheapest_0 : decode cX11_cheapest 0 = .ok (.aload_n 0, 1) := by decide +kernel
theorem dX11_cheapest_1 : decode cX11_cheapest 1 = .ok (.getfield 29, 3) := by decide +kernel
theorem dX11_cheapest_4 : decode cX11_cheapest 4 = .ok (.iload_n 1, 1) := by decide +kernel
theorem dX11_cheapest_5 : decode cX11_cheapest 5 = .ok (.invokevirtual 178, 3) := by decide +kernel
theorem dX11_cheapest_8 : decode cX11_cheapest 8 = .ok (.ifCond .eq 14, 3) := by decide +kernel
theorem dX11_cheapest_11 : decode cX11_cheapest 11 = .ok (.aload_n 0, 1) := by decide +kernel
theorem dX11_cheapest_12 : decode cX11_cheapest 12 = .ok (.getfield 38, 3) := by decide +kernel
theorem dX11_cheapest_15 : decode cX11_cheapest 15 = .ok (.iload_n 1, 1) := by decide +kernel
theorem dX11_cheapest_16 : decode cX11_cheapest 16 = .ok (.invokevirtual 190, 3) := by decide +kernel
theorem dX11_cheapest_19 : decode cX11_cheapest 19 = .ok (.ifCond .ne 6, 3) := by decide +kernel
theorem dX11_cheapest_22 : decode cX11_cheapest 22 = .ok (.ldc 102, 2) := by decide +kernel
theorem dX11_cheapest_24 : decode cX11_cheapest 24 = .ok (.ireturn, 1) := by decide +kernel
theorem dX11_cheapest_25 : decode cX11_cheapest 25 = .ok (.aload_n 0, 1) := by decide +kernel
theorem dX11_cheapest_26 : decode cX11_cheapest 26 = .ok (.getfield 22, 3) := by decide +kernel
theorem dX11_cheapest_29 : decode cX11_cheapest 29 = .ok (.aload_n 0, 1) := by decide +kernel
theorem dX11_cheapest_30 : decode cX11_cheapest 30 = .ok (.getfield 38, 3) := by decide +kernel
theorem dX11_cheapest_33 : decode cX11_cheapest 33 = .ok (.getfield 193, 3) := by decide +kernel
theorem dX11_cheapest_36 : decode cX11_cheapest 36 = .ok (.invokevirtual 171, 3) := by decide +kernel
theorem dX11_cheapest_39 : decode cX11_cheapest 39 = .ok (.aload_n 0, 1) := by decide +kernel
theorem dX11_cheapest_40 : decode cX11_cheapest 40 = .ok (.getfield 38, 3) := by decide +kernel
theorem dX11_cheapest_43 : decode cX11_cheapest 43 = .ok (.getfield 196, 3) := by decide +kernel
theorem dX11_cheapest_46 : decode cX11_cheapest 46 = .ok (.ireturn, 1) := by decide +kernel
theorem dX11_want_0 : decode cX11_want 0 = .ok (.iload_n 1, 1) := by decide +kernel
theorem dX11_want_1 : decode cX11_want 1 = .ok (.iconst (-1), 1) := by decide +kernel
theorem dX11_want_2 : decode cX11_want 2 = .ok (.if_icmp .eq 17, 3) := by decide +kernel
theorem dX11_want_5 : decode cX11_want 5 = .ok (.aload_n 0, 1) := by decide +kernel
theorem dX11_want_6 : decode cX11_want 6 = .ok (.getfield 29, 3) := by decide +kernel
theorem dX11_want_9 : decode cX11_want 9 = .ok (.iload_n 1, 1) := by decide +kernel
theorem dX11_want_10 : decode cX11_want 10 = .ok (.invokevirtual 178, 3) := by decide +kernel
theorem dX11_want_13 : decode cX11_want 13 = .ok (.ifCond .ne 6, 3) := by decide +kernel
theorem dX11_want_16 : decode cX11_want 16 = .ok (.ldc 102, 2) := by decide +kernel
theorem dX11_want_18 : decode cX11_want 18 = .ok (.ireturn, 1) := by decide +kernel
theorem dX11_want_19 : decode cX11_want 19 = .ok (.aload_n 0, 1) := by decide +kernel
theorem dX11_want_20 : decode cX11_want 20 = .ok (.getfield 90, 3) := by decide +kernel
theorem dX11_want_23 : decode cX11_want 23 = .ok (.istore_n 2, 1) := by decide +kernel
theorem dX11_want_24 : decode cX11_want 24 = .ok (.aload_n 0, 1) := by decide +kernel
theorem dX11_want_25 : decode cX11_want 25 = .ok (.iload_n 1, 1) := by decide +kernel
theorem dX11_want_26 : decode cX11_want 26 = .ok (.putfield 90, 3) := by decide +kernel
theorem dX11_want_29 : decode cX11_want 29 = .ok (.iload_n 2, 1) := by decide +kernel
theorem dX11_want_30 : decode cX11_want 30 = .ok (.ireturn, 1) := by decide +kernel
theorem dX11_hours_0 : decode cX11_hours 0 = .ok (.iload_n 1, 1) := by decide +kernel
theorem dX11_hours_1 : decode cX11_hours 1 = .ok (.iconst 1, 1) := by decide +kernel
theorem dX11_hours_2 : decode cX11_hours 2 = .ok (.bipush 50, 2) := by decide +kernel
theorem dX11_hours_4 : decode cX11_hours 4 = .ok (.invokestatic 94, 3) := by decide +kernel
theorem dX11_hours_7 : decode cX11_hours 7 = .ok (.ifCond .eq 25, 3) := by decide +kernel
theorem dX11_hours_10 : decode cX11_hours 10 = .ok (.aload_n 0, 1) := by decide +kernel
theorem dX11_hours_11 : decode cX11_hours 11 = .ok (.invokevirtual 199, 3) := by decide +kernel
theorem dX11_hours_14 : decode cX11_hours 14 = .ok (.ifCond .eq 18, 3) := by decide +kernel
theorem dX11_hours_17 : decode cX11_hours 17 = .ok (.aload_n 0, 1) := by decide +kernel
theorem dX11_hours_18 : decode cX11_hours 18 = .ok (.getfield 70, 3) := by decide +kernel
theorem dX11_hours_21 : decode cX11_hours 21 = .ok (.getfield 203, 3) := by decide +kernel
theorem dX11_hours_24 : decode cX11_hours 24 = .ok (.iload_n 1, 1) := by decide +kernel
theorem dX11_hours_25 : decode cX11_hours 25 = .ok (.iadd, 1) := by decide +kernel
theorem dX11_hours_26 : decode cX11_hours 26 = .ok (.sipush 400, 3) := by decide +kernel
theorem dX11_hours_29 : decode cX11_hours 29 = .ok (.if_icmp .le 6, 3) := by decide +kernel
theorem dX11_hours_32 : decode cX11_hours 32 = .ok (.ldc 102, 2) := by decide +kernel
theorem dX11_hours_34 : decode cX11_hours 34 = .ok (.ireturn, 1) := by decide +kernel
theorem dX11_hours_35 : decode cX11_hours 35 = .ok (.aload_n 0, 1) := by decide +kernel
theorem dX11_hours_36 : decode cX11_hours 36 = .ok (.getfield 56, 3) := by decide +kernel
theorem dX11_hours_39 : decode cX11_hours 39 = .ok (.aload_n 0, 1) := by decide +kernel
theorem dX11_hours_40 : decode cX11_hours 40 = .ok (.getfield 47, 3) := by decide +kernel
theorem dX11_hours_43 : decode cX11_hours 43 = .ok (.getfield 141, 3) := by decide +kernel
theorem dX11_hours_46 : decode cX11_hours 46 = .ok (.iconst (-1), 1) := by decide +kernel
theorem dX11_hours_47 : decode cX11_hours 47 = .ok (.iconst 0, 1) := by decide +kernel
theorem dX11_hours_48 : decode cX11_hours 48 = .ok (.invokevirtual 206, 3) := by decide +kernel
theorem dX11_hours_51 : decode cX11_hours 51 = .ok (.iconst 0, 1) := by decide +kernel
theorem dX11_hours_52 : decode cX11_hours 52 = .ok (.istore_n 2, 1) := by decide +kernel
theorem dX11_hours_53 : decode cX11_hours 53 = .ok (.iload_n 2, 1) := by decide +kernel
theorem dX11_hours_54 : decode cX11_hours 54 = .ok (.iload_n 1, 1) := by decide +kernel
theorem dX11_hours_55 : decode cX11_hours 55 = .ok (.if_icmp .ge 30, 3) := by decide +kernel
theorem dX11_hours_58 : decode cX11_hours 58 = .ok (.aload_n 0, 1) := by decide +kernel
theorem dX11_hours_59 : decode cX11_hours 59 = .ok (.getfield 15, 3) := by decide +kernel
theorem dX11_hours_62 : decode cX11_hours 62 = .ok (.aload_n 0, 1) := by decide +kernel
theorem dX11_hours_63 : decode cX11_hours 63 = .ok (.getfield 56, 3) := by decide +kernel
theorem dX11_hours_66 : decode cX11_hours 66 = .ok (.getfield 210, 3) := by decide +kernel
theorem dX11_hours_69 : decode cX11_hours 69 = .ok (.invokevirtual 213, 3) := by decide +kernel
theorem dX11_hours_72 : decode cX11_hours 72 = .ok (.ifCond .eq 13, 3) := by decide +kernel
theorem dX11_hours_75 : decode cX11_hours 75 = .ok (.aload_n 0, 1) := by decide +kernel
theorem dX11_hours_76 : decode cX11_hours 76 = .ok (.invokevirtual 217, 3) := by decide +kernel
theorem dX11_hours_79 : decode cX11_hours 79 = .ok (.iinc 2 1, 3) := by decide +kernel
theorem dX11_hours_82 : decode cX11_hours 82 = .ok (.goto (-29), 3) := by decide +kernel
theorem dX11_hours_85 : decode cX11_hours 85 = .ok (.iload_n 2, 1) := by decide +kernel
theorem dX11_hours_86 : decode cX11_hours 86 = .ok (.ireturn, 1) := by decide +kernel
theorem dX11_glass_0 : decode cX11_glass 0 = .ok (.aload_n 0, 1) := by decide +kernel
theorem dX11_glass_1 : decode cX11_glass 1 = .ok (.getfield 70, 3) := by decide +kernel
theorem dX11_glass_4 : decode cX11_glass 4 = .ok (.iload_n 1, 1) := by decide +kernel
theorem dX11_glass_5 : decode cX11_glass 5 = .ok (.invokevirtual 220, 3) := by decide +kernel
theorem dX11_glass_8 : decode cX11_glass 8 = .ok (.ifCond .ne 6, 3) := by decide +kernel
theorem dX11_glass_11 : decode cX11_glass 11 = .ok (.ldc 102, 2) := by decide +kernel
theorem dX11_glass_13 : decode cX11_glass 13 = .ok (.ireturn, 1) := by decide +kernel
theorem dX11_glass_14 : decode cX11_glass 14 = .ok (.iload_n 2, 1) := by decide +kernel
theorem dX11_glass_15 : decode cX11_glass 15 = .ok (.tableswitch 93 0 6 #[41, 41, 41, 41, 55, 65, 83], 41) := by decide +kernel
theorem dX11_glass_56 : decode cX11_glass 56 = .ok (.aload_n 0, 1) := by decide +kernel
theorem dX11_glass_57 : decode cX11_glass 57 = .ok (.getfield 70, 3) := by decide +kernel
theorem dX11_glass_60 : decode cX11_glass 60 = .ok (.getfield 221, 3) := by decide +kernel
theorem dX11_glass_63 : decode cX11_glass 63 = .ok (.iload_n 1, 1) := by decide +kernel
theorem dX11_glass_64 : decode cX11_glass 64 = .ok (.iconst 4, 1) := by decide +kernel
theorem dX11_glass_65 : decode cX11_glass 65 = .ok (.imul, 1) := by decide +kernel
theorem dX11_glass_66 : decode cX11_glass 66 = .ok (.iload_n 2, 1) := by decide +kernel
theorem dX11_glass_67 : decode cX11_glass 67 = .ok (.iadd, 1) := by decide +kernel
theorem dX11_glass_68 : decode cX11_glass 68 = .ok (.iaload, 1) := by decide +kernel
theorem dX11_glass_69 : decode cX11_glass 69 = .ok (.ireturn, 1) := by decide +kernel
theorem dX11_glass_70 : decode cX11_glass 70 = .ok (.aload_n 0, 1) := by decide +kernel
theorem dX11_glass_71 : decode cX11_glass 71 = .ok (.getfield 70, 3) := by decide +kernel
theorem dX11_glass_74 : decode cX11_glass 74 = .ok (.getfield 224, 3) := by decide +kernel
theorem dX11_glass_77 : decode cX11_glass 77 = .ok (.iload_n 1, 1) := by decide +kernel
theorem dX11_glass_78 : decode cX11_glass 78 = .ok (.iaload, 1) := by decide +kernel
theorem dX11_glass_79 : decode cX11_glass 79 = .ok (.ireturn, 1) := by decide +kernel
theorem dX11_glass_80 : decode cX11_glass 80 = .ok (.aload_n 0, 1) := by decide +kernel
theorem dX11_glass_81 : decode cX11_glass 81 = .ok (.getfield 70, 3) := by decide +kernel
theorem dX11_glass_84 : decode cX11_glass 84 = .ok (.getfield 227, 3) := by decide +kernel
theorem dX11_glass_87 : decode cX11_glass 87 = .ok (.iload_n 1, 1) := by decide +kernel
theorem dX11_glass_88 : decode cX11_glass 88 = .ok (.baload, 1) := by decide +kernel
theorem dX11_glass_89 : decode cX11_glass 89 = .ok (.ifCond .eq 7, 3) := by decide +kernel
theorem dX11_glass_92 : decode cX11_glass 92 = .ok (.iconst 1, 1) := by decide +kernel
theorem dX11_glass_93 : decode cX11_glass 93 = .ok (.goto 4, 3) := by decide +kernel
theorem dX11_glass_96 : decode cX11_glass 96 = .ok (.iconst 0, 1) := by decide +kernel
theorem dX11_glass_97 : decode cX11_glass 97 = .ok (.ireturn, 1) := by decide +kernel
theorem dX11_glass_98 : decode cX11_glass 98 = .ok (.aload_n 0, 1) := by decide +kernel
theorem dX11_glass_99 : decode cX11_glass 99 = .ok (.getfield 70, 3) := by decide +kernel
theorem dX11_glass_102 : decode cX11_glass 102 = .ok (.getfield 231, 3) := by decide +kernel
theorem dX11_glass_105 : decode cX11_glass 105 = .ok (.iload_n 1, 1) := by decide +kernel
theorem dX11_glass_106 : decode cX11_glass 106 = .ok (.iaload, 1) := by decide +kernel
theorem dX11_glass_107 : decode cX11_glass 107 = .ok (.ireturn, 1) := by decide +kernel
theorem dX11_glass_108 : decode cX11_glass 108 = .ok (.ldc 102, 2) := by decide +kernel
theorem dX11_glass_110 : decode cX11_glass 110 = .ok (.ireturn, 1) := by decide +kernel
theorem dX11_lead_0 : decode cX11_lead 0 = .ok (.aload_n 0, 1) := by decide +kernel
theorem dX11_lead_1 : decode cX11_lead 1 = .ok (.getfield 70, 3) := by decide +kernel
theorem dX11_lead_4 : decode cX11_lead 4 = .ok (.iload_n 1, 1) := by decide +kernel
theorem dX11_lead_5 : decode cX11_lead 5 = .ok (.invokevirtual 220, 3) := by decide +kernel
theorem dX11_lead_8 : decode cX11_lead 8 = .ok (.ifCond .eq 14, 3) := by decide +kernel
theorem dX11_lead_11 : decode cX11_lead 11 = .ok (.aload_n 0, 1) := by decide +kernel
theorem dX11_lead_12 : decode cX11_lead 12 = .ok (.getfield 15, 3) := by decide +kernel
theorem dX11_lead_15 : decode cX11_lead 15 = .ok (.iload_n 2, 1) := by decide +kernel
theorem dX11_lead_16 : decode cX11_lead 16 = .ok (.invokevirtual 111, 3) := by decide +kernel
theorem dX11_lead_19 : decode cX11_lead 19 = .ok (.ifCond .ne 6, 3) := by decide +kernel
theorem dX11_lead_22 : decode cX11_lead 22 = .ok (.ldc 102, 2) := by decide +kernel
theorem dX11_lead_24 : decode cX11_lead 24 = .ok (.ireturn, 1) := by decide +kernel
theorem dX11_lead_25 : decode cX11_lead 25 = .ok (.aload_n 0, 1) := by decide +kernel
theorem dX11_lead_26 : decode cX11_lead 26 = .ok (.getfield 70, 3) := by decide +kernel
theorem dX11_lead_29 : decode cX11_lead 29 = .ok (.getfield 234, 3) := by decide +kernel
theorem dX11_lead_32 : decode cX11_lead 32 = .ok (.iload_n 1, 1) := by decide +kernel
theorem dX11_lead_33 : decode cX11_lead 33 = .ok (.bipush 8, 2) := by decide +kernel
theorem dX11_lead_35 : decode cX11_lead 35 = .ok (.imul, 1) := by decide +kernel
theorem dX11_lead_36 : decode cX11_lead 36 = .ok (.iload_n 2, 1) := by decide +kernel
theorem dX11_lead_37 : decode cX11_lead 37 = .ok (.iadd, 1) := by decide +kernel
theorem dX11_lead_38 : decode cX11_lead 38 = .ok (.iaload, 1) := by decide +kernel
theorem dX11_lead_39 : decode cX11_lead 39 = .ok (.ireturn, 1) := by decide +kernel
theorem dX11_when_0 : decode cX11_when 0 = .ok (.aload_n 0, 1) := by decide +kernel
theorem dX11_when_1 : decode cX11_when 1 = .ok (.getfield 29, 3) := by decide +kernel
theorem dX11_when_4 : decode cX11_when 4 = .ok (.iload_n 1, 1) := by decide +kernel
theorem dX11_when_5 : decode cX11_when 5 = .ok (.invokevirtual 178, 3) := by decide +kernel
theorem dX11_when_8 : decode cX11_when 8 = .ok (.ifCond .eq 10, 3) := by decide +kernel
theorem dX11_when_11 : decode cX11_when 11 = .ok (.aload_n 0, 1) := by decide +kernel
theorem dX11_when_12 : decode cX11_when 12 = .ok (.invokevirtual 199, 3) := by decide +kernel
theorem dX11_when_15 : decode cX11_when 15 = .ok (.ifCond .ne 6, 3) := by decide +kernel
theorem dX11_when_18 : decode cX11_when 18 = .ok (.ldc 102, 2) := by decide +kernel
theorem dX11_when_20 : decode cX11_when 20 = .ok (.ireturn, 1) := by decide +kernel
theorem dX11_when_21 : decode cX11_when 21 = .ok (.aload_n 0, 1) := by decide +kernel
theorem dX11_when_22 : decode cX11_when 22 = .ok (.getfield 79, 3) := by decide +kernel
theorem dX11_when_25 : decode cX11_when 25 = .ok (.iload_n 1, 1) := by decide +kernel
theorem dX11_when_26 : decode cX11_when 26 = .ok (.invokevirtual 237, 3) := by decide +kernel
theorem dX11_when_29 : decode cX11_when 29 = .ok (.ireturn, 1) := by decide +kernel
theorem dX11_between_0 : decode cX11_between 0 = .ok (.aload_n 0, 1) := by decide +kernel
theorem dX11_between_1 : decode cX11_between 1 = .ok (.invokevirtual 199, 3) := by decide +kernel
theorem dX11_between_4 : decode cX11_between 4 = .ok (.ifCond .ne 6, 3) := by decide +kernel
theorem dX11_between_7 : decode cX11_between 7 = .ok (.ldc 102, 2) := by decide +kernel
theorem dX11_between_9 : decode cX11_between 9 = .ok (.ireturn, 1) := by decide +kernel
theorem dX11_between_10 : decode cX11_between 10 = .ok (.aload_n 0, 1) := by decide +kernel
theorem dX11_between_11 : decode cX11_between 11 = .ok (.getfield 79, 3) := by decide +kernel
theorem dX11_between_14 : decode cX11_between 14 = .ok (.invokevirtual 240, 3) := by decide +kernel
theorem dX11_between_17 : decode cX11_between 17 = .ok (.ireturn, 1) := by decide +kernel
theorem dX11_dose_0 : decode cX11_dose 0 = .ok (.aload_n 0, 1) := by decide +kernel
theorem dX11_dose_1 : decode cX11_dose 1 = .ok (.getfield 29, 3) := by decide +kernel
theorem dX11_dose_4 : decode cX11_dose 4 = .ok (.iload_n 1, 1) := by decide +kernel
theorem dX11_dose_5 : decode cX11_dose 5 = .ok (.invokevirtual 178, 3) := by decide +kernel
theorem dX11_dose_8 : decode cX11_dose 8 = .ok (.ifCond .eq 34, 3) := by decide +kernel
theorem dX11_dose_11 : decode cX11_dose 11 = .ok (.aload_n 0, 1) := by decide +kernel
theorem dX11_dose_12 : decode cX11_dose 12 = .ok (.getfield 15, 3) := by decide +kernel
theorem dX11_dose_15 : decode cX11_dose 15 = .ok (.iload_n 2, 1) := by decide +kernel
theorem dX11_dose_16 : decode cX11_dose 16 = .ok (.invokevirtual 111, 3) := by decide +kernel
theorem dX11_dose_19 : decode cX11_dose 19 = .ok (.ifCond .eq 23, 3) := by decide +kernel
theorem dX11_dose_22 : decode cX11_dose 22 = .ok (.aload_n 0, 1) := by decide +kernel
theorem dX11_dose_23 : decode cX11_dose 23 = .ok (.getfield 15, 3) := by decide +kernel
theorem dX11_dose_26 : decode cX11_dose 26 = .ok (.getfield 124, 3) := by decide +kernel
theorem dX11_dose_29 : decode cX11_dose 29 = .ok (.iload_n 2, 1) := by decide +kernel
theorem dX11_dose_30 : decode cX11_dose 30 = .ok (.iaload, 1) := by decide +kernel
theorem dX11_dose_31 : decode cX11_dose 31 = .ok (.iconst 2, 1) := by decide +kernel
theorem dX11_dose_32 : decode cX11_dose 32 = .ok (.if_icmp .ne 10, 3) := by decide +kernel
theorem dX11_dose_35 : decode cX11_dose 35 = .ok (.aload_n 0, 1) := by decide +kernel
theorem dX11_dose_36 : decode cX11_dose 36 = .ok (.invokevirtual 199, 3) := by decide +kernel
theorem dX11_dose_39 : decode cX11_dose 39 = .ok (.ifCond .ne 6, 3) := by decide +kernel
theorem dX11_dose_42 : decode cX11_dose 42 = .ok (.ldc 102, 2) := by decide +kernel
theorem dX11_dose_44 : decode cX11_dose 44 = .ok (.ireturn, 1) := by decide +kernel
theorem dX11_dose_45 : decode cX11_dose 45 = .ok (.aload_n 0, 1) := by decide +kernel
theorem dX11_dose_46 : decode cX11_dose 46 = .ok (.getfield 79, 3) := by decide +kernel
theorem dX11_dose_49 : decode cX11_dose 49 = .ok (.iload_n 1, 1) := by decide +kernel
theorem dX11_dose_50 : decode cX11_dose 50 = .ok (.iload_n 2, 1) := by decide +kernel
theorem dX11_dose_51 : decode cX11_dose 51 = .ok (.invokevirtual 243, 3) := by decide +kernel
theorem dX11_dose_54 : decode cX11_dose 54 = .ok (.ireturn, 1) := by decide +kernel
theorem dX11_change_0 : decode cX11_change 0 = .ok (.aload_n 0, 1) := by decide +kernel
theorem dX11_change_1 : decode cX11_change 1 = .ok (.getfield 29, 3) := by decide +kernel
theorem dX11_change_4 : decode cX11_change 4 = .ok (.iload_n 1, 1) := by decide +kernel
theorem dX11_change_5 : decode cX11_change 5 = .ok (.invokevirtual 178, 3) := by decide +kernel
theorem dX11_change_8 : decode cX11_change 8 = .ok (.ifCond .eq 19, 3) := by decide +kernel
theorem dX11_change_11 : decode cX11_change 11 = .ok (.aload_n 0, 1) := by decide +kernel
theorem dX11_change_12 : decode cX11_change 12 = .ok (.getfield 29, 3) := by decide +kernel
theorem dX11_change_15 : decode cX11_change 15 = .ok (.iload_n 2, 1) := by decide +kernel
theorem dX11_change_16 : decode cX11_change 16 = .ok (.invokevirtual 178, 3) := by decide +kernel
theorem dX11_change_19 : decode cX11_change 19 = .ok (.ifCond .eq 8, 3) := by decide +kernel
theorem dX11_change_22 : decode cX11_change 22 = .ok (.iload_n 1, 1) := by decide +kernel
theorem dX11_change_23 : decode cX11_change 23 = .ok (.iload_n 2, 1) := by decide +kernel
theorem dX11_change_24 : decode cX11_change 24 = .ok (.if_icmp .ne 6, 3) := by decide +kernel
theorem dX11_change_27 : decode cX11_change 27 = .ok (.ldc 102, 2) := by decide +kernel
theorem dX11_change_29 : decode cX11_change 29 = .ok (.ireturn, 1) := by decide +kernel
theorem dX11_change_30 : decode cX11_change 30 = .ok (.iload_n 3, 1) := by decide +kernel
theorem dX11_change_31 : decode cX11_change 31 = .ok (.iconst 0, 1) := by decide +kernel
theorem dX11_change_32 : decode cX11_change 32 = .ok (.sipush 1000, 3) := by decide +kernel
theorem dX11_change_35 : decode cX11_change 35 = .ok (.invokestatic 94, 3) := by decide +kernel
theorem dX11_change_38 : decode cX11_change 38 = .ok (.ifCond .ne 6, 3) := by decide +kernel
theorem dX11_change_41 : decode cX11_change 41 = .ok (.ldc 102, 2) := by decide +kernel
theorem dX11_change_43 : decode cX11_change 43 = .ok (.ireturn, 1) := by decide +kernel
theorem dX11_change_44 : decode cX11_change 44 = .ok (.aload_n 0, 1) := by decide +kernel
theorem dX11_change_45 : decode cX11_change 45 = .ok (.getfield 86, 3) := by decide +kernel
theorem dX11_change_48 : decode cX11_change 48 = .ok (.getfield 247, 3) := by decide +kernel
theorem dX11_change_51 : decode cX11_change 51 = .ok (.iload_n 1, 1) := by decide +kernel
theorem dX11_change_52 : decode cX11_change 52 = .ok (.aaload, 1) := by decide +kernel
theorem dX11_change_53 : decode cX11_change 53 = .ok (.iload_n 2, 1) := by decide +kernel
theorem dX11_change_54 : decode cX11_change 54 = .ok (.iaload, 1) := by decide +kernel
theorem dX11_change_55 : decode cX11_change 55 = .ok (.istore 4, 2) := by decide +kernel
theorem dX11_change_57 : decode cX11_change 57 = .ok (.aload_n 0, 1) := by decide +kernel
theorem dX11_change_58 : decode cX11_change 58 = .ok (.getfield 86, 3) := by decide +kernel
theorem dX11_change_61 : decode cX11_change 61 = .ok (.getfield 247, 3) := by decide +kernel
theorem dX11_change_64 : decode cX11_change 64 = .ok (.iload_n 1, 1) := by decide +kernel
theorem dX11_change_65 : decode cX11_change 65 = .ok (.aaload, 1) := by decide +kernel
theorem dX11_change_66 : decode cX11_change 66 = .ok (.iload_n 2, 1) := by decide +kernel
theorem dX11_change_67 : decode cX11_change 67 = .ok (.iload_n 3, 1) := by decide +kernel
theorem dX11_change_68 : decode cX11_change 68 = .ok (.iastore, 1) := by decide +kernel
theorem dX11_change_69 : decode cX11_change 69 = .ok (.iload 4, 2) := by decide +kernel
theorem dX11_change_71 : decode cX11_change 71 = .ok (.ireturn, 1) := by decide +kernel
theorem dX11_ring_0 : decode cX11_ring 0 = .ok (.iload_n 1, 1) := by decide +kernel
theorem dX11_ring_1 : decode cX11_ring 1 = .ok (.iconst 1, 1) := by decide +kernel
theorem dX11_ring_2 : decode cX11_ring 2 = .ok (.iconst 1, 1) := by decide +kernel
theorem dX11_ring_3 : decode cX11_ring 3 = .ok (.aload_n 0, 1) := by decide +kernel
theorem dX11_ring_4 : decode cX11_ring 4 = .ok (.getfield 29, 3) := by decide +kernel
theorem dX11_ring_7 : decode cX11_ring 7 = .ok (.getfield 250, 3) := by decide +kernel
theorem dX11_ring_10 : decode cX11_ring 10 = .ok (.ishl, 1) := by decide +kernel
theorem dX11_ring_11 : decode cX11_ring 11 = .ok (.iconst 1, 1) := by decide +kernel
theorem dX11_ring_12 : decode cX11_ring 12 = .ok (.isub, 1) := by decide +kernel
theorem dX11_ring_13 : decode cX11_ring 13 = .ok (.invokestatic 94, 3) := by decide +kernel
theorem dX11_ring_16 : decode cX11_ring 16 = .ok (.ifCond .ne 6, 3) := by decide +kernel
theorem dX11_ring_19 : decode cX11_ring 19 = .ok (.ldc 102, 2) := by decide +kernel
theorem dX11_ring_21 : decode cX11_ring 21 = .ok (.ireturn, 1) := by decide +kernel
theorem dX11_ring_22 : decode cX11_ring 22 = .ok (.aload_n 0, 1) := by decide +kernel
theorem dX11_ring_23 : decode cX11_ring 23 = .ok (.getfield 86, 3) := by decide +kernel
theorem dX11_ring_26 : decode cX11_ring 26 = .ok (.iload_n 1, 1) := by decide +kernel
theorem dX11_ring_27 : decode cX11_ring 27 = .ok (.invokevirtual 251, 3) := by decide +kernel
theorem dX11_ring_30 : decode cX11_ring 30 = .ok (.ireturn, 1) := by decide +kernel
theorem dX11_next_0 : decode cX11_next 0 = .ok (.iload_n 1, 1) := by decide +kernel
theorem dX11_next_1 : decode cX11_next 1 = .ok (.iconst 0, 1) := by decide +kernel
theorem dX11_next_2 : decode cX11_next 2 = .ok (.aload_n 0, 1) := by decide +kernel
theorem dX11_next_3 : decode cX11_next 3 = .ok (.getfield 86, 3) := by decide +kernel
theorem dX11_next_6 : decode cX11_next 6 = .ok (.getfield 254, 3) := by decide +kernel
theorem dX11_next_9 : decode cX11_next 9 = .ok (.iconst 1, 1) := by decide +kernel
theorem dX11_next_10 : decode cX11_next 10 = .ok (.isub, 1) := by decide +kernel
theorem dX11_next_11 : decode cX11_next 11 = .ok (.invokestatic 94, 3) := by decide +kernel
theorem dX11_next_14 : decode cX11_next 14 = .ok (.ifCond .ne 5, 3) := by decide +kernel
theorem dX11_next_17 : decode cX11_next 17 = .ok (.iconst (-1), 1) := by decide +kernel
theorem dX11_next_18 : decode cX11_next 18 = .ok (.ireturn, 1) := by decide +kernel
theorem dX11_next_19 : decode cX11_next 19 = .ok (.aload_n 0, 1) := by decide +kernel
theorem dX11_next_20 : decode cX11_next 20 = .ok (.getfield 86, 3) := by decide +kernel
theorem dX11_next_23 : decode cX11_next 23 = .ok (.getfield 257, 3) := by decide +kernel
theorem dX11_next_26 : decode cX11_next 26 = .ok (.iload_n 1, 1) := by decide +kernel
theorem dX11_next_27 : decode cX11_next 27 = .ok (.iaload, 1) := by decide +kernel
theorem dX11_next_28 : decode cX11_next 28 = .ok (.ireturn, 1) := by decide +kernel
theorem dX11_told_0 : decode cX11_told 0 = .ok (.iload_n 1, 1) := by decide +kernel
theorem dX11_told_1 : decode cX11_told 1 = .ok (.tableswitch 99 0 6 #[43, 51, 59, 67, 75, 83, 91], 43) := by decide +kernel
theorem dX11_told_44 : decode cX11_told 44 = .ok (.aload_n 0, 1) := by decide +kernel
theorem dX11_told_45 : decode cX11_told 45 = .ok (.getfield 15, 3) := by decide +kernel
theorem dX11_told_48 : decode cX11_told 48 = .ok (.getfield 260, 3) := by decide +kernel
theorem dX11_told_51 : decode cX11_told 51 = .ok (.ireturn, 1) := by decide +kernel
theorem dX11_told_52 : decode cX11_told 52 = .ok (.aload_n 0, 1) := by decide +kernel
theorem dX11_told_53 : decode cX11_told 53 = .ok (.getfield 47, 3) := by decide +kernel
theorem dX11_told_56 : decode cX11_told 56 = .ok (.getfield 150, 3) := by decide +kernel
theorem dX11_told_59 : decode cX11_told 59 = .ok (.ireturn, 1) := by decide +kernel
theorem dX11_told_60 : decode cX11_told 60 = .ok (.aload_n 0, 1) := by decide +kernel
theorem dX11_told_61 : decode cX11_told 61 = .ok (.getfield 29, 3) := by decide +kernel
theorem dX11_told_64 : decode cX11_told 64 = .ok (.getfield 250, 3) := by decide +kernel
theorem dX11_told_67 : decode cX11_told 67 = .ok (.ireturn, 1) := by decide +kernel
theorem dX11_told_68 : decode cX11_told 68 = .ok (.aload_n 0, 1) := by decide +kernel
theorem dX11_told_69 : decode cX11_told 69 = .ok (.getfield 70, 3) := by decide +kernel
theorem dX11_told_72 : decode cX11_told 72 = .ok (.getfield 203, 3) := by decide +kernel
theorem dX11_told_75 : decode cX11_told 75 = .ok (.ireturn, 1) := by decide +kernel
theorem dX11_told_76 : decode cX11_told 76 = .ok (.aload_n 0, 1) := by decide +kernel
theorem dX11_told_77 : decode cX11_told 77 = .ok (.getfield 70, 3) := by decide +kernel
theorem dX11_told_80 : decode cX11_told 80 = .ok (.getfield 261, 3) := by decide +kernel
theorem dX11_told_83 : decode cX11_told 83 = .ok (.ireturn, 1) := by decide +kernel
theorem dX11_told_84 : decode cX11_told 84 = .ok (.aload_n 0, 1) := by decide +kernel
theorem dX11_told_85 : decode cX11_told 85 = .ok (.getfield 70, 3) := by decide +kernel
theorem dX11_told_88 : decode cX11_told 88 = .ok (.getfield 264, 3) := by decide +kernel
theorem dX11_told_91 : decode cX11_told 91 = .ok (.ireturn, 1) := by decide +kernel
theorem dX11_told_92 : decode cX11_told 92 = .ok (.aload_n 0, 1) := by decide +kernel
theorem dX11_told_93 : decode cX11_told 93 = .ok (.getfield 47, 3) := by decide +kernel
theorem dX11_told_96 : decode cX11_told 96 = .ok (.invokevirtual 267, 3) := by decide +kernel
theorem dX11_told_99 : decode cX11_told 99 = .ok (.ireturn, 1) := by decide +kernel
theorem dX11_told_100 : decode cX11_told 100 = .ok (.ldc 102, 2) := by decide +kernel
theorem dX11_told_102 : decode cX11_told 102 = .ok (.ireturn, 1) := by decide +kernel
theorem dX11_isWithin_0 : decode cX11_isWithin 0 = .ok (.iload_n 0, 1) := by decide +kernel
theorem dX11_isWithin_1 : decode cX11_isWithin 1 = .ok (.iload_n 1, 1) := by decide +kernel
theorem dX11_isWithin_2 : decode cX11_isWithin 2 = .ok (.if_icmp .lt 12, 3) := by decide +kernel
theorem dX11_isWithin_5 : decode cX11_isWithin 5 = .ok (.iload_n 0, 1) := by decide +kernel
theorem dX11_isWithin_6 : decode cX11_isWithin 6 = .ok (.iload_n 2, 1) := by decide +kernel
theorem dX11_isWithin_7 : decode cX11_isWithin 7 = .ok (.if_icmp .gt 7, 3) := by decide +kernel
theorem dX11_isWithin_10 : decode cX11_isWithin 10 = .ok (.iconst 1, 1) := by decide +kernel
theorem dX11_isWithin_11 : decode cX11_isWithin 11 = .ok (.goto 4, 3) := by decide +kernel
theorem dX11_isWithin_14 : decode cX11_isWithin 14 = .ok (.iconst 0, 1) := by decide +kernel
theorem dX11_isWithin_15 : decode cX11_isWithin 15 = .ok (.ireturn, 1) := by decide +kernel
theorem dX11_isThing_0 : decode cX11_isThing 0 = .ok (.iload_n 0, 1) := by decide +kernel
theorem dX11_isThing_1 : decode cX11_isThing 1 = .ok (.iconst 0, 1) := by decide +kernel
theorem dX11_isThing_2 : decode cX11_isThing 2 = .ok (.iconst 3, 1) := by decide +kernel
theorem dX11_isThing_3 : decode cX11_isThing 3 = .ok (.invokestatic 94, 3) := by decide +kernel
theorem dX11_isThing_6 : decode cX11_isThing 6 = .ok (.ireturn, 1) := by decide +kernel
theorem dX11_isMakeUp_0 : decode cX11_isMakeUp 0 = .ok (.iload_n 0, 1) := by decide +kernel
theorem dX11_isMakeUp_1 : decode cX11_isMakeUp 1 = .ok (.ifCond .lt 37, 3) := by decide +kernel
theorem dX11_isMakeUp_4 : decode cX11_isMakeUp 4 = .ok (.iload_n 1, 1) := by decide +kernel
theorem dX11_isMakeUp_5 : decode cX11_isMakeUp 5 = .ok (.ifCond .lt 33, 3) := by decide +kernel
theorem dX11_isMakeUp_8 : decode cX11_isMakeUp 8 = .ok (.iload_n 2, 1) := by decide +kernel
theorem dX11_isMakeUp_9 : decode cX11_isMakeUp 9 = .ok (.ifCond .lt 29, 3) := by decide +kernel
theorem dX11_isMakeUp_12 : decode cX11_isMakeUp 12 = .ok (.iload_n 3, 1) := by decide +kernel
theorem dX11_isMakeUp_13 : decode cX11_isMakeUp 13 = .ok (.ifCond .lt 25, 3) := by decide +kernel
theorem dX11_isMakeUp_16 : decode cX11_isMakeUp 16 = .ok (.iload_n 0, 1) := by decide +kernel
theorem dX11_isMakeUp_17 : decode cX11_isMakeUp 17 = .ok (.i2l, 1) := by decide +kernel
theorem dX11_isMakeUp_18 : decode cX11_isMakeUp 18 = .ok (.iload_n 1, 1) := by decide +kernel
theorem dX11_isMakeUp_19 : decode cX11_isMakeUp 19 = .ok (.i2l, 1) := by decide +kernel
theorem dX11_isMakeUp_20 : decode cX11_isMakeUp 20 = .ok (.ladd, 1) := by decide +kernel
theorem dX11_isMakeUp_21 : decode cX11_isMakeUp 21 = .ok (.iload_n 2, 1) := by decide +kernel
theorem dX11_isMakeUp_22 : decode cX11_isMakeUp 22 = .ok (.i2l, 1) := by decide +kernel
theorem dX11_isMakeUp_23 : decode cX11_isMakeUp 23 = .ok (.ladd, 1) := by decide +kernel
theorem dX11_isMakeUp_24 : decode cX11_isMakeUp 24 = .ok (.iload_n 3, 1) := by decide +kernel
theorem dX11_isMakeUp_25 : decode cX11_isMakeUp 25 = .ok (.i2l, 1) := by decide +kernel
theorem dX11_isMakeUp_26 : decode cX11_isMakeUp 26 = .ok (.ladd, 1) := by decide +kernel
theorem dX11_isMakeUp_27 : decode cX11_isMakeUp 27 = .ok (.ldc2_w 270, 3) := by decide +kernel
theorem dX11_isMakeUp_30 : decode cX11_isMakeUp 30 = .ok (.lcmp, 1) := by decide +kernel
theorem dX11_isMakeUp_31 : decode cX11_isMakeUp 31 = .ok (.ifCond .ne 7, 3) := by decide +kernel
theorem dX11_isMakeUp_34 : decode cX11_isMakeUp 34 = .ok (.iconst 1, 1) := by decide +kernel
theorem dX11_isMakeUp_35 : decode cX11_isMakeUp 35 = .ok (.goto 4, 3) := by decide +kernel
theorem dX11_isMakeUp_38 : decode cX11_isMakeUp 38 = .ok (.iconst 0, 1) := by decide +kernel
theorem dX11_isMakeUp_39 : decode cX11_isMakeUp 39 = .ok (.ireturn, 1) := by decide +kernel
theorem dX11_mostDoubt_0 : decode cX11_mostDoubt 0 = .ok (.iload_n 0, 1) := by decide +kernel
theorem dX11_mostDoubt_1 : decode cX11_mostDoubt 1 = .ok (.ifCond .eq 8, 3) := by decide +kernel
theorem dX11_mostDoubt_4 : decode cX11_mostDoubt 4 = .ok (.iload_n 0, 1) := by decide +kernel
theorem dX11_mostDoubt_5 : decode cX11_mostDoubt 5 = .ok (.iconst 2, 1) := by decide +kernel
theorem dX11_mostDoubt_6 : decode cX11_mostDoubt 6 = .ok (.if_icmp .ne 7, 3) := by decide +kernel
theorem dX11_mostDoubt_9 : decode cX11_mostDoubt 9 = .ok (.iconst 0, 1) := by decide +kernel
theorem dX11_mostDoubt_10 : decode cX11_mostDoubt 10 = .ok (.goto 5, 3) := by decide +kernel
theorem dX11_mostDoubt_13 : decode cX11_mostDoubt 13 = .ok (.bipush 100, 2) := by decide +kernel
theorem dX11_mostDoubt_15 : decode cX11_mostDoubt 15 = .ok (.ireturn, 1) := by decide +kernel
theorem dX11_sumOf_0 : decode cX11_sumOf 0 = .ok (.iconst 0, 1) := by decide +kernel
theorem dX11_sumOf_1 : decode cX11_sumOf 1 = .ok (.istore_n 1, 1) := by decide +kernel
theorem dX11_sumOf_2 : decode cX11_sumOf 2 = .ok (.aload_n 0, 1) := by decide +kernel
theorem dX11_sumOf_3 : decode cX11_sumOf 3 = .ok (.astore_n 2, 1) := by decide +kernel
theorem dX11_sumOf_4 : decode cX11_sumOf 4 = .ok (.aload_n 2, 1) := by decide +kernel
theorem dX11_sumOf_5 : decode cX11_sumOf 5 = .ok (.arraylength, 1) := by decide +kernel
theorem dX11_sumOf_6 : decode cX11_sumOf 6 = .ok (.istore_n 3, 1) := by decide +kernel
theorem dX11_sumOf_7 : decode cX11_sumOf 7 = .ok (.iconst 0, 1) := by decide +kernel
theorem dX11_sumOf_8 : decode cX11_sumOf 8 = .ok (.istore 4, 2) := by decide +kernel
theorem dX11_sumOf_10 : decode cX11_sumOf 10 = .ok (.iload 4, 2) := by decide +kernel
theorem dX11_sumOf_12 : decode cX11_sumOf 12 = .ok (.iload_n 3, 1) := by decide +kernel
theorem dX11_sumOf_13 : decode cX11_sumOf 13 = .ok (.if_icmp .ge 20, 3) := by decide +kernel
theorem dX11_sumOf_16 : decode cX11_sumOf 16 = .ok (.aload_n 2, 1) := by decide +kernel
theorem dX11_sumOf_17 : decode cX11_sumOf 17 = .ok (.iload 4, 2) := by decide +kernel
theorem dX11_sumOf_19 : decode cX11_sumOf 19 = .ok (.iaload, 1) := by decide +kernel
theorem dX11_sumOf_20 : decode cX11_sumOf 20 = .ok (.istore 5, 2) := by decide +kernel
theorem dX11_sumOf_22 : decode cX11_sumOf 22 = .ok (.iload_n 1, 1) := by decide +kernel
theorem dX11_sumOf_23 : decode cX11_sumOf 23 = .ok (.iload 5, 2) := by decide +kernel
theorem dX11_sumOf_25 : decode cX11_sumOf 25 = .ok (.iadd, 1) := by decide +kernel
theorem dX11_sumOf_26 : decode cX11_sumOf 26 = .ok (.istore_n 1, 1) := by decide +kernel
theorem dX11_sumOf_27 : decode cX11_sumOf 27 = .ok (.iinc 4 1, 3) := by decide +kernel
theorem dX11_sumOf_30 : decode cX11_sumOf 30 = .ok (.goto (-20), 3) := by decide +kernel
theorem dX11_sumOf_33 : decode cX11_sumOf 33 = .ok (.iload_n 1, 1) := by decide +kernel
theorem dX11_sumOf_34 : decode cX11_sumOf 34 = .ok (.ireturn, 1) := by decide +kernel
theorem dX11_canRun_0 : decode cX11_canRun 0 = .ok (.aload_n 0, 1) := by decide +kernel
theorem dX11_canRun_1 : decode cX11_canRun 1 = .ok (.getfield 47, 3) := by decide +kernel
theorem dX11_canRun_4 : decode cX11_canRun 4 = .ok (.getfield 156, 3) := by decide +kernel
theorem dX11_canRun_7 : decode cX11_canRun 7 = .ok (.ifCond .eq 17, 3) := by decide +kernel
theorem dX11_canRun_10 : decode cX11_canRun 10 = .ok (.aload_n 0, 1) := by decide +kernel
theorem dX11_canRun_11 : decode cX11_canRun 11 = .ok (.getfield 22, 3) := by decide +kernel
theorem dX11_canRun_14 : decode cX11_canRun 14 = .ok (.getfield 185, 3) := by decide +kernel
theorem dX11_canRun_17 : decode cX11_canRun 17 = .ok (.ifCond .eq 7, 3) := by decide +kernel
theorem dX11_canRun_20 : decode cX11_canRun 20 = .ok (.iconst 1, 1) := by decide +kernel
theorem dX11_canRun_21 : decode cX11_canRun 21 = .ok (.goto 4, 3) := by decide +kernel
theorem dX11_canRun_24 : decode cX11_canRun 24 = .ok (.iconst 0, 1) := by decide +kernel
theorem dX11_canRun_25 : decode cX11_canRun 25 = .ok (.ireturn, 1) := by decide +kernel
theorem dX11_passHour_0 : decode cX11_passHour 0 = .ok (.aload_n 0, 1) := by decide +kernel
theorem dX11_passHour_1 : decode cX11_passHour 1 = .ok (.getfield 15, 3) := by decide +kernel
theorem dX11_passHour_4 : decode cX11_passHour 4 = .ok (.aload_n 0, 1) := by decide +kernel
theorem dX11_passHour_5 : decode cX11_passHour 5 = .ok (.getfield 56, 3) := by decide +kernel
theorem dX11_passHour_8 : decode cX11_passHour 8 = .ok (.getfield 210, 3) := by decide +kernel
theorem dX11_passHour_11 : decode cX11_passHour 11 = .ok (.invokevirtual 272, 3) := by decide +kernel
theorem dX11_passHour_14 : decode cX11_passHour 14 = .ok (.aload_n 0, 1) := by decide +kernel
theorem dX11_passHour_15 : decode cX11_passHour 15 = .ok (.getfield 47, 3) := by decide +kernel
theorem dX11_passHour_18 : decode cX11_passHour 18 = .ok (.aload_n 0, 1) := by decide +kernel
theorem dX11_passHour_19 : decode cX11_passHour 19 = .ok (.getfield 56, 3) := by decide +kernel
theorem dX11_passHour_22 : decode cX11_passHour 22 = .ok (.invokevirtual 275, 3) := by decide +kernel
theorem dX11_passHour_25 : decode cX11_passHour 25 = .ok (.aload_n 0, 1) := by decide +kernel
theorem dX11_passHour_26 : decode cX11_passHour 26 = .ok (.getfield 63, 3) := by decide +kernel
theorem dX11_passHour_29 : decode cX11_passHour 29 = .ok (.aload_n 0, 1) := by decide +kernel
theorem dX11_passHour_30 : decode cX11_passHour 30 = .ok (.getfield 47, 3) := by decide +kernel
theorem dX11_passHour_33 : decode cX11_passHour 33 = .ok (.invokevirtual 279, 3) := by decide +kernel
theorem dX11_passHour_36 : decode cX11_passHour 36 = .ok (.aload_n 0, 1) := by decide +kernel
theorem dX11_passHour_37 : decode cX11_passHour 37 = .ok (.getfield 29, 3) := by decide +kernel
theorem dX11_passHour_40 : decode cX11_passHour 40 = .ok (.aload_n 0, 1) := by decide +kernel
theorem dX11_passHour_41 : decode cX11_passHour 41 = .ok (.getfield 63, 3) := by decide +kernel
theorem dX11_passHour_44 : decode cX11_passHour 44 = .ok (.invokevirtual 283, 3) := by decide +kernel
theorem dX11_passHour_47 : decode cX11_passHour 47 = .ok (.istore_n 1, 1) := by decide +kernel
theorem dX11_passHour_48 : decode cX11_passHour 48 = .ok (.aload_n 0, 1) := by decide +kernel
theorem dX11_passHour_49 : decode cX11_passHour 49 = .ok (.getfield 90, 3) := by decide +kernel
theorem dX11_passHour_52 : decode cX11_passHour 52 = .ok (.iconst (-1), 1) := by decide +kernel
theorem dX11_passHour_53 : decode cX11_passHour 53 = .ok (.if_icmp .eq 11, 3) := by decide +kernel
theorem dX11_passHour_56 : decode cX11_passHour 56 = .ok (.iload_n 1, 1) := by decide +kernel
theorem dX11_passHour_57 : decode cX11_passHour 57 = .ok (.aload_n 0, 1) := by decide +kernel
theorem dX11_passHour_58 : decode cX11_passHour 58 = .ok (.getfield 90, 3) := by decide +kernel
theorem dX11_passHour_61 : decode cX11_passHour 61 = .ok (.if_icmp .eq 7, 3) := by decide +kernel
theorem dX11_passHour_64 : decode cX11_passHour 64 = .ok (.iconst 1, 1) := by decide +kernel
theorem dX11_passHour_65 : decode cX11_passHour 65 = .ok (.goto 4, 3) := by decide +kernel
theorem dX11_passHour_68 : decode cX11_passHour 68 = .ok (.iconst 0, 1) := by decide +kernel
theorem dX11_passHour_69 : decode cX11_passHour 69 = .ok (.istore_n 2, 1) := by decide +kernel
theorem dX11_passHour_70 : decode cX11_passHour 70 = .ok (.aload_n 0, 1) := by decide +kernel
theorem dX11_passHour_71 : decode cX11_passHour 71 = .ok (.getfield 70, 3) := by decide +kernel
theorem dX11_passHour_74 : decode cX11_passHour 74 = .ok (.aload_n 0, 1) := by decide +kernel
theorem dX11_passHour_75 : decode cX11_passHour 75 = .ok (.getfield 63, 3) := by decide +kernel
theorem dX11_passHour_78 : decode cX11_passHour 78 = .ok (.iload_n 1, 1) := by decide +kernel
theorem dX11_passHour_79 : decode cX11_passHour 79 = .ok (.iload_n 2, 1) := by decide +kernel
theorem dX11_passHour_80 : decode cX11_passHour 80 = .ok (.invokevirtual 287, 3) := by decide +kernel
theorem dX11_passHour_83 : decode cX11_passHour 83 = .ok (.iload_n 2, 1) := by decide +kernel
theorem dX11_passHour_84 : decode cX11_passHour 84 = .ok (.ifCond .eq 17, 3) := by decide +kernel
theorem dX11_passHour_87 : decode cX11_passHour 87 = .ok (.aload_n 0, 1) := by decide +kernel
theorem dX11_passHour_88 : decode cX11_passHour 88 = .ok (.getfield 15, 3) := by decide +kernel
theorem dX11_passHour_91 : decode cX11_passHour 91 = .ok (.aload_n 0, 1) := by decide +kernel
theorem dX11_passHour_92 : decode cX11_passHour 92 = .ok (.getfield 63, 3) := by decide +kernel
theorem dX11_passHour_95 : decode cX11_passHour 95 = .ok (.getfield 290, 3) := by decide +kernel
theorem dX11_passHour_98 : decode cX11_passHour 98 = .ok (.invokevirtual 292, 3) := by decide +kernel
theorem dX11_passHour_101 : decode cX11_passHour 101 = .ok (.return_, 1) := by decide +kernel
theorem dJ9_max_7cf53_0 : decode cJ9_max_7cf53 0 = .ok (.iload_n 0, 1) := by decide +kernel
theorem dJ9_max_7cf53_1 : decode cJ9_max_7cf53 1 = .ok (.iload_n 1, 1) := by decide +kernel
theorem dJ9_max_7cf53_2 : decode cJ9_max_7cf53 2 = .ok (.if_icmp .lt 7, 3) := by decide +kernel
theorem dJ9_max_7cf53_5 : decode cJ9_max_7cf53 5 = .ok (.iload_n 0, 1) := by decide +kernel
theorem dJ9_max_7cf53_6 : decode cJ9_max_7cf53 6 = .ok (.goto 4, 3) := by decide +kernel
theorem dJ9_max_7cf53_9 : decode cJ9_max_7cf53 9 = .ok (.iload_n 1, 1) := by decide +kernel
theorem dJ9_max_7cf53_10 : decode cJ9_max_7cf53 10 = .ok (.ireturn, 1) := by decide +kernel
theorem dJ9_min_7cf53_0 : decode cJ9_min_7cf53 0 = .ok (.iload_n 0, 1) := by decide +kernel
theorem dJ9_min_7cf53_1 : decode cJ9_min_7cf53 1 = .ok (.iload_n 1, 1) := by decide +kernel
theorem dJ9_min_7cf53_2 : decode cJ9_min_7cf53 2 = .ok (.if_icmp .gt 7, 3) := by decide +kernel
theorem dJ9_min_7cf53_5 : decode cJ9_min_7cf53 5 = .ok (.iload_n 0, 1) := by decide +kernel
theorem dJ9_min_7cf53_6 : decode cJ9_min_7cf53 6 = .ok (.goto 4, 3) := by decide +kernel
theorem dJ9_min_7cf53_9 : decode cJ9_min_7cf53 9 = .ok (.iload_n 1, 1) := by decide +kernel
theorem dJ9_min_7cf53_10 : decode cJ9_min_7cf53 10 = .ok (.ireturn, 1) := by decide +kernel
end
section
theorem dX12_init_0 : decode cX12_init 0 = .ok (.aload_n 0, 1) := by decide +kernel
theorem dX12_init_1 : decode cX12_init 1 = .ok (.invokespecial 1, 3) := by decide +kernel
theorem dX12_init_4 : decode cX12_init 4 = .ok (.aload_n 0, 1) := by decide +kernel
theorem dX12_init_5 : decode cX12_init 5 = .ok (.bipush 32, 2) := by decide +kernel
theorem dX12_init_7 : decode cX12_init 7 = .ok (.newarray .int, 2) := by decide +kernel
theorem dX12_init_9 : decode cX12_init 9 = .ok (.putfield 7, 3) := by decide +kernel
theorem dX12_init_12 : decode cX12_init 12 = .ok (.aload_n 0, 1) := by decide +kernel
theorem dX12_init_13 : decode cX12_init 13 = .ok (.bipush 8, 2) := by decide +kernel
theorem dX12_init_15 : decode cX12_init 15 = .ok (.newarray .int, 2) := by decide +kernel
theorem dX12_init_17 : decode cX12_init 17 = .ok (.putfield 13, 3) := by decide +kernel
theorem dX12_init_20 : decode cX12_init 20 = .ok (.aload_n 0, 1) := by decide +kernel
theorem dX12_init_21 : decode cX12_init 21 = .ok (.bipush 8, 2) := by decide +kernel
theorem dX12_init_23 : decode cX12_init 23 = .ok (.newarray .int, 2) := by decide +kernel
theorem dX12_init_25 : decode cX12_init 25 = .ok (.putfield 16, 3) := by decide +kernel
theorem dX12_init_28 : decode cX12_init 28 = .ok (.aload_n 0, 1) := by decide +kernel
theorem dX12_init_29 : decode cX12_init 29 = .ok (.bipush 8, 2) := by decide +kernel
theorem dX12_init_31 : decode cX12_init 31 = .ok (.newarray .int, 2) := by decide +kernel
theorem dX12_init_33 : decode cX12_init 33 = .ok (.putfield 19, 3) := by decide +kernel
theorem dX12_init_36 : decode cX12_init 36 = .ok (.aload_n 0, 1) := by decide +kernel
theorem dX12_init_37 : decode cX12_init 37 = .ok (.bipush 8, 2) := by decide +kernel
theorem dX12_init_39 : decode cX12_init 39 = .ok (.newarray .int, 2) := by decide +kernel
theorem dX12_init_41 : decode cX12_init 41 = .ok (.putfield 22, 3) := by decide +kernel
theorem dX12_init_44 : decode cX12_init 44 = .ok (.aload_n 0, 1) := by decide +kernel
theorem dX12_init_45 : decode cX12_init 45 = .ok (.bipush 8, 2) := by decide +kernel
theorem dX12_init_47 : decode cX12_init 47 = .ok (.newarray .int, 2) := by decide +kernel
theorem dX12_init_49 : decode cX12_init 49 = .ok (.putfield 25, 3) := by decide +kernel
theorem dX12_init_52 : decode cX12_init 52 = .ok (.aload_n 0, 1) := by decide +kernel
theorem dX12_init_53 : decode cX12_init 53 = .ok (.bipush 8, 2) := by decide +kernel
theorem dX12_init_55 : decode cX12_init 55 = .ok (.newarray .int, 2) := by decide +kernel
theorem dX12_init_57 : decode cX12_init 57 = .ok (.putfield 28, 3) := by decide +kernel
theorem dX12_init_60 : decode cX12_init 60 = .ok (.aload_n 0, 1) := by decide +kernel
theorem dX12_init_61 : decode cX12_init 61 = .ok (.iconst 3, 1) := by decide +kernel
theorem dX12_init_62 : decode cX12_init 62 = .ok (.putfield 31, 3) := by decide +kernel
theorem dX12_init_65 : decode cX12_init 65 = .ok (.aload_n 0, 1) := by decide +kernel
theorem dX12_init_66 : decode cX12_init 66 = .ok (.sipush 1000, 3) := by decide +kernel
theorem dX12_init_69 : decode cX12_init 69 = .ok (.putfield 35, 3) := by decide +kernel
theorem dX12_init_72 : decode cX12_init 72 = .ok (.aload_n 0, 1) := by decide +kernel
theorem dX12_init_73 : decode cX12_init 73 = .ok (.bipush 100, 2) := by decide +kernel
theorem dX12_init_75 : decode cX12_init 75 = .ok (.putfield 38, 3) := by decide +kernel
theorem dX12_init_78 : decode cX12_init 78 = .ok (.aload_n 0, 1) := by decide +kernel
theorem dX12_init_79 : decode cX12_init 79 = .ok (.iconst (-1), 1) := by decide +kernel
theorem dX12_init_80 : decode cX12_init 80 = .ok (.putfield 41, 3) := by decide +kernel
theorem dX12_init_83 : decode cX12_init 83 = .ok (.aload_n 0, 1) := by decide +kernel
theorem dX12_init_84 : decode cX12_init 84 = .ok (.sipush 192, 3) := by decide +kernel
theorem dX12_init_87 : decode cX12_init 87 = .ok (.newarray .int, 2) := by decide +kernel
theorem dX12_init_89 : decode cX12_init 89 = .ok (.putfield 44, 3) := by decide +kernel
theorem dX12_init_92 : decode cX12_init 92 = .ok (.aload_n 0, 1) := by decide +kernel
theorem dX12_init_93 : decode cX12_init 93 = .ok (.sipush 192, 3) := by decide +kernel
theorem dX12_init_96 : decode cX12_init 96 = .ok (.newarray .int, 2) := by decide +kernel
theorem dX12_init_98 : decode cX12_init 98 = .ok (.putfield 47, 3) := by decide +kernel
theorem dX12_init_101 : decode cX12_init 101 = .ok (.aload_n 0, 1) := by decide +kernel
theorem dX12_init_102 : decode cX12_init 102 = .ok (.sipush 192, 3) := by decide +kernel
theorem dX12_init_105 : decode cX12_init 105 = .ok (.newarray .int, 2) := by decide +kernel
theorem dX12_init_107 : decode cX12_init 107 = .ok (.putfield 50, 3) := by decide +kernel
theorem dX12_init_110 : decode cX12_init 110 = .ok (.aload_n 0, 1) := by decide +kernel
theorem dX12_init_111 : decode cX12_init 111 = .ok (.bipush 32, 2) := by decide +kernel
theorem dX12_init_113 : decode cX12_init 113 = .ok (.newarray .int, 2) := by decide +kernel
theorem dX12_init_115 : decode cX12_init 115 = .ok (.putfield 53, 3) := by decide +kernel
theorem dX12_init_118 : decode cX12_init 118 = .ok (.aload_n 0, 1) := by decide +kernel
theorem dX12_init_119 : decode cX12_init 119 = .ok (.bipush 32, 2) := by decide +kernel
theorem dX12_init_121 : decode cX12_init 121 = .ok (.newarray .int, 2) := by decide +kernel
theorem dX12_init_123 : decode cX12_init 123 = .ok (.putfield 56, 3) := by decide +kernel
theorem dX12_init_126 : decode cX12_init 126 = .ok (.aload_n 0, 1) := by decide +kernel
theorem dX12_init_127 : decode cX12_init 127 = .ok (.bipush 24, 2) := by decide +kernel
theorem dX12_init_129 : decode cX12_init 129 = .ok (.newarray .int, 2) := by decide +kernel
theorem dX12_init_131 : decode cX12_init 131 = .ok (.putfield 59, 3) := by decide +kernel
theorem dX12_init_134 : decode cX12_init 134 = .ok (.aload_n 0, 1) := by decide +kernel
theorem dX12_init_135 : decode cX12_init 135 = .ok (.bipush 24, 2) := by decide +kernel
theorem dX12_init_137 : decode cX12_init 137 = .ok (.newarray .int, 2) := by decide +kernel
theorem dX12_init_139 : decode cX12_init 139 = .ok (.putfield 62, 3) := by decide +kernel
theorem dX12_init_142 : decode cX12_init 142 = .ok (.aload_n 0, 1) := by decide +kernel
theorem dX12_init_143 : decode cX12_init 143 = .ok (.bipush 36, 2) := by decide +kernel
theorem dX12_init_145 : decode cX12_init 145 = .ok (.newarray .int, 2) := by decide +kernel
theorem dX12_init_147 : decode cX12_init 147 = .ok (.putfield 65, 3) := by decide +kernel
theorem dX12_init_150 : decode cX12_init 150 = .ok (.aload_n 0, 1) := by decide +kernel
theorem dX12_init_151 : decode cX12_init 151 = .ok (.sipush 1600, 3) := by decide +kernel
theorem dX12_init_154 : decode cX12_init 154 = .ok (.newarray .int, 2) := by decide +kernel
theorem dX12_init_156 : decode cX12_init 156 = .ok (.putfield 68, 3) := by decide +kernel
theorem dX12_init_159 : decode cX12_init 159 = .ok (.aload_n 0, 1) := by decide +kernel
theorem dX12_init_160 : decode cX12_init 160 = .ok (.sipush 3200, 3) := by decide +kernel
theorem dX12_init_163 : decode cX12_init 163 = .ok (.newarray .int, 2) := by decide +kernel
theorem dX12_init_165 : decode cX12_init 165 = .ok (.putfield 71, 3) := by decide +kernel
theorem dX12_init_168 : decode cX12_init 168 = .ok (.aload_n 0, 1) := by decide +kernel
theorem dX12_init_169 : decode cX12_init 169 = .ok (.sipush 400, 3) := by decide +kernel
theorem dX12_init_172 : decode cX12_init 172 = .ok (.newarray .int, 2) := by decide +kernel
theorem dX12_init_174 : decode cX12_init 174 = .ok (.putfield 74, 3) := by decide +kernel
theorem dX12_init_177 : decode cX12_init 177 = .ok (.aload_n 0, 1) := by decide +kernel
theorem dX12_init_178 : decode cX12_init 178 = .ok (.sipush 400, 3) := by decide +kernel
theorem dX12_init_181 : decode cX12_init 181 = .ok (.newarray .int, 2) := by decide +kernel
theorem dX12_init_183 : decode cX12_init 183 = .ok (.putfield 77, 3) := by decide +kernel
theorem dX12_init_186 : decode cX12_init 186 = .ok (.aload_n 0, 1) := by decide +kernel
theorem dX12_init_187 : decode cX12_init 187 = .ok (.sipush 400, 3) := by decide +kernel
theorem dX12_init_190 : decode cX12_init 190 = .ok (.newarray .int, 2) := by decide +kernel
theorem dX12_init_192 : decode cX12_init 192 = .ok (.putfield 80, 3) := by decide +kernel
theorem dX12_init_195 : decode cX12_init 195 = .ok (.aload_n 0, 1) := by decide +kernel
theorem dX12_init_196 : decode cX12_init 196 = .ok (.bipush 32, 2) := by decide +kernel
theorem dX12_init_198 : decode cX12_init 198 = .ok (.newarray .long, 2) := by decide +kernel
theorem dX12_init_200 : decode cX12_init 200 = .ok (.putfield 83, 3) := by decide +kernel
theorem dX12_init_203 : decode cX12_init 203 = .ok (.aload_n 0, 1) := by decide +kernel
theorem dX12_init_204 : decode cX12_init 204 = .ok (.bipush 32, 2) := by decide +kernel
theorem dX12_init_206 : decode cX12_init 206 = .ok (.newarray .long, 2) := by decide +kernel
theorem dX12_init_208 : decode cX12_init 208 = .ok (.putfield 87, 3) := by decide +kernel
theorem dX12_init_211 : decode cX12_init 211 = .ok (.aload_n 0, 1) := by decide +kernel
theorem dX12_init_212 : decode cX12_init 212 = .ok (.bipush 32, 2) := by decide +kernel
theorem dX12_init_214 : decode cX12_init 214 = .ok (.newarray .int, 2) := by decide +kernel
theorem dX12_init_216 : decode cX12_init 216 = .ok (.putfield 90, 3) := by decide +kernel
theorem dX12_init_219 : decode cX12_init 219 = .ok (.aload_n 0, 1) := by decide +kernel
theorem dX12_init_220 : decode cX12_init 220 = .ok (.bipush 8, 2) := by decide +kernel
theorem dX12_init_222 : decode cX12_init 222 = .ok (.newarray .int, 2) := by decide +kernel
theorem dX12_init_224 : decode cX12_init 224 = .ok (.putfield 93, 3) := by decide +kernel
theorem dX12_init_227 : decode cX12_init 227 = .ok (.aload_n 0, 1) := by decide +kernel
theorem dX12_init_228 : decode cX12_init 228 = .ok (.bipush 8, 2) := by decide +kernel
theorem dX12_init_230 : decode cX12_init 230 = .ok (.newarray .int, 2) := by decide +kernel
theorem dX12_init_232 : decode cX12_init 232 = .ok (.putfield 96, 3) := by decide +kernel
theorem dX12_init_235 : decode cX12_init 235 = .ok (.aload_n 0, 1) := by decide +kernel
theorem dX12_init_236 : decode cX12_init 236 = .ok (.bipush 8, 2) := by decide +kernel
theorem dX12_init_238 : decode cX12_init 238 = .ok (.newarray .int, 2) := by decide +kernel
theorem dX12_init_240 : decode cX12_init 240 = .ok (.putfield 99, 3) := by decide +kernel
theorem dX12_init_243 : decode cX12_init 243 = .ok (.aload_n 0, 1) := by decide +kernel
theorem dX12_init_244 : decode cX12_init 244 = .ok (.bipush 6, 2) := by decide +kernel
theorem dX12_init_246 : decode cX12_init 246 = .ok (.newarray .int, 2) := by decide +kernel
theorem dX12_init_248 : decode cX12_init 248 = .ok (.putfield 102, 3) := by decide +kernel
theorem dX12_init_251 : decode cX12_init 251 = .ok (.aload_n 0, 1) := by decide +kernel
theorem dX12_init_252 : decode cX12_init 252 = .ok (.bipush 6, 2) := by decide +kernel
theorem dX12_init_254 : decode cX12_init 254 = .ok (.newarray .int, 2) := by decide +kernel
theorem dX12_init_256 : decode cX12_init 256 = .ok (.putfield 105, 3) := by decide +kernel
theorem dX12_init_259 : decode cX12_init 259 = .ok (.return_, 1) := by decide +kernel
theorem dX12_in_0 : decode cX12_in 0 = .ok (.iload_n 0, 1) := by decide +kernel
theorem dX12_in_1 : decode cX12_in 1 = .ok (.iload_n 1, 1) := by decide +kernel
theorem dX12_in_2 : decode cX12_in 2 = .ok (.if_icmp .lt 12, 3) := by decide +kernel
theorem dX12_in_5 : decode cX12_in 5 = .ok (.iload_n 0, 1) := by decide +kernel
theorem dX12_in_6 : decode cX12_in 6 = .ok (.iload_n 2, 1) := by decide +kernel
theorem dX12_in_7 : decode cX12_in 7 = .ok (.if_icmp .gt 7, 3) := by decide +kernel
theorem dX12_in_10 : decode cX12_in 10 = .ok (.iconst 1, 1) := by decide +kernel
theorem dX12_in_11 : decode cX12_in 11 = .ok (.goto 4, 3) := by decide +kernel
theorem dX12_in_14 : decode cX12_in 14 = .ok (.iconst 0, 1) := by decide +kernel
theorem dX12_in_15 : decode cX12_in 15 = .ok (.ireturn, 1) := by decide +kernel
theorem dX12_isFeed_0 : decode cX12_isFeed 0 = .ok (.iload_n 1, 1) := by decide +kernel
theorem dX12_isFeed_1 : decode cX12_isFeed 1 = .ok (.iconst 0, 1) := by decide +kernel
theorem dX12_isFeed_2 : decode cX12_isFeed 2 = .ok (.aload_n 0, 1) := by decide +kernel
theorem dX12_isFeed_3 : decode cX12_isFeed 3 = .ok (.getfield 108, 3) := by decide +kernel
theorem dX12_isFeed_6 : decode cX12_isFeed 6 = .ok (.iconst 1, 1) := by decide +kernel
theorem dX12_isFeed_7 : decode cX12_isFeed 7 = .ok (.isub, 1) := by decide +kernel
theorem dX12_isFeed_8 : decode cX12_isFeed 8 = .ok (.invokestatic 111, 3) := by decide +kernel
theorem dX12_isFeed_11 : decode cX12_isFeed 11 = .ok (.ireturn, 1) := by decide +kernel
theorem dX12_isColour_0 : decode cX12_isColour 0 = .ok (.iload_n 1, 1) := by decide +kernel
theorem dX12_isColour_1 : decode cX12_isColour 1 = .ok (.iconst 0, 1) := by decide +kernel
theorem dX12_isColour_2 : decode cX12_isColour 2 = .ok (.aload_n 0, 1) := by decide +kernel
theorem dX12_isColour_3 : decode cX12_isColour 3 = .ok (.getfield 115, 3) := by decide +kernel
theorem dX12_isColour_6 : decode cX12_isColour 6 = .ok (.iconst 1, 1) := by decide +kernel
theorem dX12_isColour_7 : decode cX12_isColour 7 = .ok (.isub, 1) := by decide +kernel
theorem dX12_isColour_8 : decode cX12_isColour 8 = .ok (.invokestatic 111, 3) := by decide +kernel
theorem dX12_isColour_11 : decode cX12_isColour 11 = .ok (.ireturn, 1) := by decide +kernel
theorem dX12_feed_0 : decode cX12_feed 0 = .ok (.iload_n 1, 1) := by decide +kernel
theorem dX12_feed_1 : decode cX12_feed 1 = .ok (.iconst 1, 1) := by decide +kernel
theorem dX12_feed_2 : decode cX12_feed 2 = .ok (.if_icmp .eq 8, 3) := by decide +kernel
theorem dX12_feed_5 : decode cX12_feed 5 = .ok (.iload_n 1, 1) := by decide +kernel
theorem dX12_feed_6 : decode cX12_feed 6 = .ok (.iconst 3, 1) := by decide +kernel
theorem dX12_feed_7 : decode cX12_feed 7 = .ok (.if_icmp .ne 7, 3) := by decide +kernel
theorem dX12_feed_10 : decode cX12_feed 10 = .ok (.iconst 1, 1) := by decide +kernel
theorem dX12_feed_11 : decode cX12_feed 11 = .ok (.goto 4, 3) := by decide +kernel
theorem dX12_feed_14 : decode cX12_feed 14 = .ok (.iconst 0, 1) := by decide +kernel
theorem dX12_feed_15 : decode cX12_feed 15 = .ok (.istore 8, 2) := by decide +kernel
theorem dX12_feed_17 : decode cX12_feed 17 = .ok (.iload_n 1, 1) := by decide +kernel
theorem dX12_feed_18 : decode cX12_feed 18 = .ok (.iconst 0, 1) := by decide +kernel
theorem dX12_feed_19 : decode cX12_feed 19 = .ok (.iconst 3, 1) := by decide +kernel
theorem dX12_feed_20 : decode cX12_feed 20 = .ok (.invokestatic 111, 3) := by decide +kernel
theorem dX12_feed_23 : decode cX12_feed 23 = .ok (.ifCond .eq 64, 3) := by decide +kernel
theorem dX12_feed_26 : decode cX12_feed 26 = .ok (.iload_n 2, 1) := by decide +kernel
theorem dX12_feed_27 : decode cX12_feed 27 = .ok (.iconst 0, 1) := by decide +kernel
theorem dX12_feed_28 : decode cX12_feed 28 = .ok (.sipush 1000, 3) := by decide +kernel
theorem dX12_feed_31 : decode cX12_feed 31 = .ok (.invokestatic 111, 3) := by decide +kernel
theorem dX12_feed_34 : decode cX12_feed 34 = .ok (.ifCond .eq 53, 3) := by decide +kernel
theorem dX12_feed_37 : decode cX12_feed 37 = .ok (.iload_n 3, 1) := by decide +kernel
theorem dX12_feed_38 : decode cX12_feed 38 = .ok (.iconst 0, 1) := by decide +kernel
theorem dX12_feed_39 : decode cX12_feed 39 = .ok (.sipush 1000, 3) := by decide +kernel
theorem dX12_feed_42 : decode cX12_feed 42 = .ok (.invokestatic 111, 3) := by decide +kernel
theorem dX12_feed_45 : decode cX12_feed 45 = .ok (.ifCond .eq 42, 3) := by decide +kernel
theorem dX12_feed_48 : decode cX12_feed 48 = .ok (.iload 4, 2) := by decide +kernel
theorem dX12_feed_50 : decode cX12_feed 50 = .ok (.iconst 0, 1) := by decide +kernel
theorem dX12_feed_51 : decode cX12_feed 51 = .ok (.sipush 1000, 3) := by decide +kernel
theorem dX12_feed_54 : decode cX12_feed 54 = .ok (.invokestatic 111, 3) := by decide +kernel
theorem dX12_feed_57 : decode cX12_feed 57 = .ok (.ifCond .eq 30, 3) := by decide +kernel
theorem dX12_feed_60 : decode cX12_feed 60 = .ok (.iload 5, 2) := by decide +kernel
theorem dX12_feed_62 : decode cX12_feed 62 = .ok (.iconst 0, 1) := by decide +kernel
theorem dX12_feed_63 : decode cX12_feed 63 = .ok (.sipush 1000, 3) := by decide +kernel
theorem dX12_feed_66 : decode cX12_feed 66 = .ok (.invokestatic 111, 3) := by decide +kernel
theorem dX12_feed_69 : decode cX12_feed 69 = .ok (.ifCond .eq 18, 3) := by decide +kernel
theorem dX12_feed_72 : decode cX12_feed 72 = .ok (.iload_n 2, 1) := by decide +kernel
theorem dX12_feed_73 : decode cX12_feed 73 = .ok (.iload_n 3, 1) := by decide +kernel
theorem dX12_feed_74 : decode cX12_feed 74 = .ok (.iadd, 1) := by decide +kernel
theorem dX12_feed_75 : decode cX12_feed 75 = .ok (.iload 4, 2) := by decide +kernel
theorem dX12_feed_77 : decode cX12_feed 77 = .ok (.iadd, 1) := by decide +kernel
theorem dX12_feed_78 : decode cX12_feed 78 = .ok (.iload 5, 2) := by decide +kernel
theorem dX12_feed_80 : decode cX12_feed 80 = .ok (.iadd, 1) := by decide +kernel
theorem dX12_feed_81 : decode cX12_feed 81 = .ok (.sipush 1000, 3) := by decide +kernel
theorem dX12_feed_84 : decode cX12_feed 84 = .ok (.if_icmp .eq 6, 3) := by decide +kernel
theorem dX12_feed_87 : decode cX12_feed 87 = .ok (.ldc 118, 2) := by decide +kernel
theorem dX12_feed_89 : decode cX12_feed 89 = .ok (.ireturn, 1) := by decide +kernel
theorem dX12_feed_90 : decode cX12_feed 90 = .ok (.iload 6, 2) := by decide +kernel
theorem dX12_feed_92 : decode cX12_feed 92 = .ok (.iconst 0, 1) := by decide +kernel
theorem dX12_feed_93 : decode cX12_feed 93 = .ok (.iload 8, 2) := by decide +kernel
theorem dX12_feed_95 : decode cX12_feed 95 = .ok (.ifCond .eq 8, 3) := by decide +kernel
theorem dX12_feed_98 : decode cX12_feed 98 = .ok (.bipush 100, 2) := by decide +kernel
theorem dX12_feed_100 : decode cX12_feed 100 = .ok (.goto 4, 3) := by decide +kernel
theorem dX12_feed_103 : decode cX12_feed 103 = .ok (.iconst 0, 1) := by decide +kernel
theorem dX12_feed_104 : decode cX12_feed 104 = .ok (.invokestatic 111, 3) := by decide +kernel
theorem dX12_feed_107 : decode cX12_feed 107 = .ok (.ifCond .eq 24, 3) := by decide +kernel
theorem dX12_feed_110 : decode cX12_feed 110 = .ok (.iload 7, 2) := by decide +kernel
theorem dX12_feed_112 : decode cX12_feed 112 = .ok (.iconst 0, 1) := by decide +kernel
theorem dX12_feed_113 : decode cX12_feed 113 = .ok (.sipush 10000, 3) := by decide +kernel
theorem dX12_feed_116 : decode cX12_feed 116 = .ok (.invokestatic 111, 3) := by decide +kernel
theorem dX12_feed_119 : decode cX12_feed 119 = .ok (.ifCond .eq 12, 3) := by decide +kernel
theorem dX12_feed_122 : decode cX12_feed 122 = .ok (.aload_n 0, 1) := by decide +kernel
theorem dX12_feed_123 : decode cX12_feed 123 = .ok (.getfield 108, 3) := by decide +kernel
theorem dX12_feed_126 : decode cX12_feed 126 = .ok (.bipush 8, 2) := by decide +kernel
theorem dX12_feed_128 : decode cX12_feed 128 = .ok (.if_icmp .ne 6, 3) := by decide +kernel
theorem dX12_feed_131 : decode cX12_feed 131 = .ok (.ldc 118, 2) := by decide +kernel
theorem dX12_feed_133 : decode cX12_feed 133 = .ok (.ireturn, 1) := by decide +kernel
theorem dX12_feed_134 : decode cX12_feed 134 = .ok (.aload_n 0, 1) := by decide +kernel
theorem dX12_feed_135 : decode cX12_feed 135 = .ok (.getfield 108, 3) := by decide +kernel
theorem dX12_feed_138 : decode cX12_feed 138 = .ok (.istore 9, 2) := by decide +kernel
theorem dX12_feed_140 : decode cX12_feed 140 = .ok (.aload_n 0, 1) := by decide +kernel
theorem dX12_feed_141 : decode cX12_feed 141 = .ok (.getfield 7, 3) := by decide +kernel
theorem dX12_feed_144 : decode cX12_feed 144 = .ok (.iconst 4, 1) := by decide +kernel
theorem dX12_feed_145 : decode cX12_feed 145 = .ok (.iload 9, 2) := by decide +kernel
theorem dX12_feed_147 : decode cX12_feed 147 = .ok (.imul, 1) := by decide +kernel
theorem dX12_feed_148 : decode cX12_feed 148 = .ok (.iload_n 2, 1) := by decide +kernel
theorem dX12_feed_149 : decode cX12_feed 149 = .ok (.iastore, 1) := by decide +kernel
theorem dX12_feed_150 : decode cX12_feed 150 = .ok (.aload_n 0, 1) := by decide +kernel
theorem dX12_feed_151 : decode cX12_feed 151 = .ok (.getfield 7, 3) := by decide +kernel
theorem dX12_feed_154 : decode cX12_feed 154 = .ok (.iconst 4, 1) := by decide +kernel
theorem dX12_feed_155 : decode cX12_feed 155 = .ok (.iload 9, 2) := by decide +kernel
theorem dX12_feed_157 : decode cX12_feed 157 = .ok (.imul, 1) := by decide +kernel
theorem dX12_feed_158 : decode cX12_feed 158 = .ok (.iconst 1, 1) := by decide +kernel
theorem dX12_feed_159 : decode cX12_feed 159 = .ok (.iadd, 1) := by decide +kernel
theorem dX12_feed_160 : decode cX12_feed 160 = .ok (.iload_n 3, 1) := by decide +kernel
theorem dX12_feed_161 : decode cX12_feed 161 = .ok (.iastore, 1) := by decide +kernel
theorem dX12_feed_162 : decode cX12_feed 162 = .ok (.aload_n 0, 1) := by decide +kernel
theorem dX12_feed_163 : decode cX12_feed 163 = .ok (.getfield 7, 3) := by decide +kernel
theorem dX12_feed_166 : decode cX12_feed 166 = .ok (.iconst 4, 1) := by decide +kernel
theorem dX12_feed_167 : decode cX12_feed 167 = .ok (.iload 9, 2) := by decide +kernel
theorem dX12_feed_169 : decode cX12_feed 169 = .ok (.imul, 1) := by decide +kernel
theorem dX12_feed_170 : decode cX12_feed 170 = .ok (.iconst 2, 1) := by decide +kernel
theorem dX12_feed_171 : decode cX12_feed 171 = .ok (.iadd, 1) := by decide +kernel
theorem dX12_feed_172 : decode cX12_feed 172 = .ok (.iload 4, 2) := by decide +kernel
theorem dX12_feed_174 : decode cX12_feed 174 = .ok (.iastore, 1) := by decide +kernel
theorem dX12_feed_175 : decode cX12_feed 175 = .ok (.aload_n 0, 1) := by decide +kernel
theorem dX12_feed_176 : decode cX12_feed 176 = .ok (.getfield 7, 3) := by decide +kernel
theorem dX12_feed_179 : decode cX12_feed 179 = .ok (.iconst 4, 1) := by decide +kernel
theorem dX12_feed_180 : decode cX12_feed 180 = .ok (.iload 9, 2) := by decide +kernel
theorem dX12_feed_182 : decode cX12_feed 182 = .ok (.imul, 1) := by decide +kernel
theorem dX12_feed_183 : decode cX12_feed 183 = .ok (.iconst 3, 1) := by decide +kernel
theorem dX12_feed_184 : decode cX12_feed 184 = .ok (.iadd, 1) := by decide +kernel
theorem dX12_feed_185 : decode cX12_feed 185 = .ok (.iload 5, 2) := by decide +kernel
theorem dX12_feed_187 : decode cX12_feed 187 = .ok (.iastore, 1) := by decide +kernel
theorem dX12_feed_188 : decode cX12_feed 188 = .ok (.aload_n 0, 1) := by decide +kernel
theorem dX12_feed_189 : decode cX12_feed 189 = .ok (.getfield 13, 3) := by decide +kernel
theorem dX12_feed_192 : decode cX12_feed 192 = .ok (.iload 9, 2) := by decide +kernel
theorem dX12_feed_194 : decode cX12_feed 194 = .ok (.iload_n 1, 1) := by decide +kernel
theorem dX12_feed_195 : decode cX12_feed 195 = .ok (.iastore, 1) := by decide +kernel
theorem dX12_feed_196 : decode cX12_feed 196 = .ok (.aload_n 0, 1) := by decide +kernel
theorem dX12_feed_197 : decode cX12_feed 197 = .ok (.getfield 16, 3) := by decide +kernel
theorem dX12_feed_200 : decode cX12_feed 200 = .ok (.iload 9, 2) := by decide +kernel
theorem dX12_feed_202 : decode cX12_feed 202 = .ok (.iload 6, 2) := by decide +kernel
theorem dX12_feed_204 : decode cX12_feed 204 = .ok (.iastore, 1) := by decide +kernel
theorem dX12_feed_205 : decode cX12_feed 205 = .ok (.aload_n 0, 1) := by decide +kernel
theorem dX12_feed_206 : decode cX12_feed 206 = .ok (.getfield 19, 3) := by decide +kernel
theorem dX12_feed_209 : decode cX12_feed 209 = .ok (.iload 9, 2) := by decide +kernel
theorem dX12_feed_211 : decode cX12_feed 211 = .ok (.iload 7, 2) := by decide +kernel
theorem dX12_feed_213 : decode cX12_feed 213 = .ok (.iastore, 1) := by decide +kernel
theorem dX12_feed_214 : decode cX12_feed 214 = .ok (.aload_n 0, 1) := by decide +kernel
theorem dX12_feed_215 : decode cX12_feed 215 = .ok (.dup, 1) := by decide +kernel
theorem dX12_feed_216 : decode cX12_feed 216 = .ok (.getfield 108, 3) := by decide +kernel
theorem dX12_feed_219 : decode cX12_feed 219 = .ok (.iconst 1, 1) := by decide +kernel
theorem dX12_feed_220 : decode cX12_feed 220 = .ok (.iadd, 1) := by decide +kernel
theorem dX12_feed_221 : decode cX12_feed 221 = .ok (.putfield 108, 3) := by decide +kernel
theorem dX12_feed_224 : decode cX12_feed 224 = .ok (.iload 9, 2) := by decide +kernel
theorem dX12_feed_226 : decode cX12_feed 226 = .ok (.ireturn, 1) := by decide +kernel
theorem dX12_stock_0 : decode cX12_stock 0 = .ok (.aload_n 0, 1) := by decide +kernel
theorem dX12_stock_1 : decode cX12_stock 1 = .ok (.iload_n 1, 1) := by decide +kernel
theorem dX12_stock_2 : decode cX12_stock 2 = .ok (.invokevirtual 119, 3) := by decide +kernel
theorem dX12_stock_5 : decode cX12_stock 5 = .ok (.ifCond .eq 20, 3) := by decide +kernel
theorem dX12_stock_8 : decode cX12_stock 8 = .ok (.iload_n 2, 1) := by decide +kernel
theorem dX12_stock_9 : decode cX12_stock 9 = .ok (.ifCond .lt 16, 3) := by decide +kernel
theorem dX12_stock_12 : decode cX12_stock 12 = .ok (.iload_n 2, 1) := by decide +kernel
theorem dX12_stock_13 : decode cX12_stock 13 = .ok (.ldc 123, 2) := by decide +kernel
theorem dX12_stock_15 : decode cX12_stock 15 = .ok (.aload_n 0, 1) := by decide +kernel
theorem dX12_stock_16 : decode cX12_stock 16 = .ok (.getfield 22, 3) := by decide +kernel
theorem dX12_stock_19 : decode cX12_stock 19 = .ok (.iload_n 1, 1) := by decide +kernel
theorem dX12_stock_20 : decode cX12_stock 20 = .ok (.iaload, 1) := by decide +kernel
theorem dX12_stock_21 : decode cX12_stock 21 = .ok (.isub, 1) := by decide +kernel
theorem dX12_stock_22 : decode cX12_stock 22 = .ok (.if_icmp .le 6, 3) := by decide +kernel
theorem dX12_stock_25 : decode cX12_stock 25 = .ok (.ldc 118, 2) := by decide +kernel
theorem dX12_stock_27 : decode cX12_stock 27 = .ok (.ireturn, 1) := by decide +kernel
theorem dX12_stock_28 : decode cX12_stock 28 = .ok (.aload_n 0, 1) := by decide +kernel
theorem dX12_stock_29 : decode cX12_stock 29 = .ok (.getfield 22, 3) := by decide +kernel
theorem dX12_stock_32 : decode cX12_stock 32 = .ok (.iload_n 1, 1) := by decide +kernel
theorem dX12_stock_33 : decode cX12_stock 33 = .ok (.dup2, 1) := by decide +kernel
theorem dX12_stock_34 : decode cX12_stock 34 = .ok (.iaload, 1) := by decide +kernel
theorem dX12_stock_35 : decode cX12_stock 35 = .ok (.iload_n 2, 1) := by decide +kernel
theorem dX12_stock_36 : decode cX12_stock 36 = .ok (.iadd, 1) := by decide +kernel
theorem dX12_stock_37 : decode cX12_stock 37 = .ok (.iastore, 1) := by decide +kernel
theorem dX12_stock_38 : decode cX12_stock 38 = .ok (.aload_n 0, 1) := by decide +kernel
theorem dX12_stock_39 : decode cX12_stock 39 = .ok (.getfield 22, 3) := by decide +kernel
theorem dX12_stock_42 : decode cX12_stock 42 = .ok (.iload_n 1, 1) := by decide +kernel
theorem dX12_stock_43 : decode cX12_stock 43 = .ok (.iaload, 1) := by decide +kernel
theorem dX12_stock_44 : decode cX12_stock 44 = .ok (.ireturn, 1) := by decide +kernel
theorem dX12_of_0 : decode cX12_of 0 = .ok (.aload_n 0, 1) := by decide +kernel
theorem dX12_of_1 : decode cX12_of 1 = .ok (.iload_n 1, 1) := by decide +kernel
theorem dX12_of_2 : decode cX12_of 2 = .ok (.invokevirtual 119, 3) := by decide +kernel
theorem dX12_of_5 : decode cX12_of 5 = .ok (.ifCond .eq 13, 3) := by decide +kernel
theorem dX12_of_8 : decode cX12_of 8 = .ok (.iload_n 2, 1) := by decide +kernel
theorem dX12_of_9 : decode cX12_of 9 = .ok (.iconst 0, 1) := by decide +kernel
theorem dX12_of_10 : decode cX12_of 10 = .ok (.bipush 8, 2) := by decide +kernel
theorem dX12_of_12 : decode cX12_of 12 = .ok (.invokestatic 111, 3) := by decide +kernel
theorem dX12_of_15 : decode cX12_of 15 = .ok (.ifCond .ne 6, 3) := by decide +kernel
theorem dX12_of_18 : decode cX12_of 18 = .ok (.ldc 118, 2) := by decide +kernel
theorem dX12_of_20 : decode cX12_of 20 = .ok (.ireturn, 1) := by decide +kernel
theorem dX12_of_21 : decode cX12_of 21 = .ok (.iload_n 2, 1) := by decide +kernel
theorem dX12_of_22 : decode cX12_of 22 = .ok (.tableswitch 80 4 8 #[34, 41, 48, 55, 62], 34) := by decide +kernel
theorem dX12_of_56 : decode cX12_of 56 = .ok (.aload_n 0, 1) := by decide +kernel
theorem dX12_of_57 : decode cX12_of 57 = .ok (.getfield 13, 3) := by decide +kernel
theorem dX12_of_60 : decode cX12_of 60 = .ok (.iload_n 1, 1) := by decide +kernel
theorem dX12_of_61 : decode cX12_of 61 = .ok (.iaload, 1) := by decide +kernel
theorem dX12_of_62 : decode cX12_of 62 = .ok (.ireturn, 1) := by decide +kernel
theorem dX12_of_63 : decode cX12_of 63 = .ok (.aload_n 0, 1) := by decide +kernel
theorem dX12_of_64 : decode cX12_of 64 = .ok (.getfield 16, 3) := by decide +kernel
theorem dX12_of_67 : decode cX12_of 67 = .ok (.iload_n 1, 1) := by decide +kernel
theorem dX12_of_68 : decode cX12_of 68 = .ok (.iaload, 1) := by decide +kernel
theorem dX12_of_69 : decode cX12_of 69 = .ok (.ireturn, 1) := by decide +kernel
theorem dX12_of_70 : decode cX12_of 70 = .ok (.aload_n 0, 1) := by decide +kernel
theorem dX12_of_71 : decode cX12_of 71 = .ok (.getfield 19, 3) := by decide +kernel
theorem dX12_of_74 : decode cX12_of 74 = .ok (.iload_n 1, 1) := by decide +kernel
theorem dX12_of_75 : decode cX12_of 75 = .ok (.iaload, 1) := by decide +kernel
theorem dX12_of_76 : decode cX12_of 76 = .ok (.ireturn, 1) := by decide +kernel
theorem dX12_of_77 : decode cX12_of 77 = .ok (.aload_n 0, 1) := by decide +kernel
theorem dX12_of_78 : decode cX12_of 78 = .ok (.getfield 22, 3) := by decide +kernel
theorem dX12_of_81 : decode cX12_of 81 = .ok (.iload_n 1, 1) := by decide +kernel
theorem dX12_of_82 : decode cX12_of 82 = .ok (.iaload, 1) := by decide +kernel
theorem dX12_of_83 : decode cX12_of 83 = .ok (.ireturn, 1) := by decide +kernel
theorem dX12_of_84 : decode cX12_of 84 = .ok (.aload_n 0, 1) := by decide +kernel
theorem dX12_of_85 : decode cX12_of 85 = .ok (.getfield 124, 3) := by decide +kernel
theorem dX12_of_88 : decode cX12_of 88 = .ok (.ifCond .eq 12, 3) := by decide +kernel
theorem dX12_of_91 : decode cX12_of 91 = .ok (.aload_n 0, 1) := by decide +kernel
theorem dX12_of_92 : decode cX12_of 92 = .ok (.getfield 28, 3) := by decide +kernel
theorem dX12_of_95 : decode cX12_of 95 = .ok (.iload_n 1, 1) := by decide +kernel
theorem dX12_of_96 : decode cX12_of 96 = .ok (.iaload, 1) := by decide +kernel
theorem dX12_of_97 : decode cX12_of 97 = .ok (.goto 4, 3) := by decide +kernel
theorem dX12_of_100 : decode cX12_of 100 = .ok (.iconst 0, 1) := by decide +kernel
theorem dX12_of_101 : decode cX12_of 101 = .ok (.ireturn, 1) := by decide +kernel
theorem dX12_of_102 : decode cX12_of 102 = .ok (.aload_n 0, 1) := by decide +kernel
theorem dX12_of_103 : decode cX12_of 103 = .ok (.getfield 7, 3) := by decide +kernel
theorem dX12_of_106 : decode cX12_of 106 = .ok (.iconst 4, 1) := by decide +kernel
theorem dX12_of_107 : decode cX12_of 107 = .ok (.iload_n 1, 1) := by decide +kernel
theorem dX12_of_108 : decode cX12_of 108 = .ok (.imul, 1) := by decide +kernel
theorem dX12_of_109 : decode cX12_of 109 = .ok (.iload_n 2, 1) := by decide +kernel
theorem dX12_of_110 : decode cX12_of 110 = .ok (.iadd, 1) := by decide +kernel
theorem dX12_of_111 : decode cX12_of 111 = .ok (.iaload, 1) := by decide +kernel
theorem dX12_of_112 : decode cX12_of 112 = .ok (.ireturn, 1) := by decide +kernel
theorem dX12_shareOut_0 : decode cX12_shareOut 0 = .ok (.lconst 0, 1) := by decide +kernel
theorem dX12_shareOut_1 : decode cX12_shareOut 1 = .ok (.lstore_n 3, 1) := by decide +kernel
theorem dX12_shareOut_2 : decode cX12_shareOut 2 = .ok (.iconst 0, 1) := by decide +kernel
theorem dX12_shareOut_3 : decode cX12_shareOut 3 = .ok (.istore 5, 2) := by decide +kernel
theorem dX12_shareOut_5 : decode cX12_shareOut 5 = .ok (.iload 5, 2) := by decide +kernel
theorem dX12_shareOut_7 : decode cX12_shareOut 7 = .ok (.iload_n 2, 1) := by decide +kernel
theorem dX12_shareOut_8 : decode cX12_shareOut 8 = .ok (.if_icmp .ge 19, 3) := by decide +kernel
theorem dX12_shareOut_11 : decode cX12_shareOut 11 = .ok (.lload_n 3, 1) := by decide +kernel
theorem dX12_shareOut_12 : decode cX12_shareOut 12 = .ok (.aload_n 0, 1) := by decide +kernel
theorem dX12_shareOut_13 : decode cX12_shareOut 13 = .ok (.getfield 83, 3) := by decide +kernel
theorem dX12_shareOut_16 : decode cX12_shareOut 16 = .ok (.iload 5, 2) := by decide +kernel
theorem dX12_shareOut_18 : decode cX12_shareOut 18 = .ok (.laload, 1) := by decide +kernel
theorem dX12_shareOut_19 : decode cX12_shareOut 19 = .ok (.ladd, 1) := by decide +kernel
theorem dX12_shareOut_20 : decode cX12_shareOut 20 = .ok (.lstore_n 3, 1) := by decide +kernel
theorem dX12_shareOut_21 : decode cX12_shareOut 21 = .ok (.iinc 5 1, 3) := by decide +kernel
theorem dX12_shareOut_24 : decode cX12_shareOut 24 = .ok (.goto (-19), 3) := by decide +kernel
theorem dX12_shareOut_27 : decode cX12_shareOut 27 = .ok (.iload_n 1, 1) := by decide +kernel
theorem dX12_shareOut_28 : decode cX12_shareOut 28 = .ok (.istore 5, 2) := by decide +kernel
theorem dX12_shareOut_30 : decode cX12_shareOut 30 = .ok (.iconst 0, 1) := by decide +kernel
theorem dX12_shareOut_31 : decode cX12_shareOut 31 = .ok (.istore 6, 2) := by decide +kernel
theorem dX12_shareOut_33 : decode cX12_shareOut 33 = .ok (.iload 6, 2) := by decide +kernel
theorem dX12_shareOut_35 : decode cX12_shareOut 35 = .ok (.iload_n 2, 1) := by decide +kernel
theorem dX12_shareOut_36 : decode cX12_shareOut 36 = .ok (.if_icmp .ge 60, 3) := by decide +kernel
theorem dX12_shareOut_39 : decode cX12_shareOut 39 = .ok (.aload_n 0, 1) := by decide +kernel
theorem dX12_shareOut_40 : decode cX12_shareOut 40 = .ok (.getfield 90, 3) := by decide +kernel
theorem dX12_shareOut_43 : decode cX12_shareOut 43 = .ok (.iload 6, 2) := by decide +kernel
theorem dX12_shareOut_45 : decode cX12_shareOut 45 = .ok (.iload_n 1, 1) := by decide +kernel
theorem dX12_shareOut_46 : decode cX12_shareOut 46 = .ok (.i2l, 1) := by decide +kernel
theorem dX12_shareOut_47 : decode cX12_shareOut 47 = .ok (.aload_n 0, 1) := by decide +kernel
theorem dX12_shareOut_48 : decode cX12_shareOut 48 = .ok (.getfield 83, 3) := by decide +kernel
theorem dX12_shareOut_51 : decode cX12_shareOut 51 = .ok (.iload 6, 2) := by decide +kernel
theorem dX12_shareOut_53 : decode cX12_shareOut 53 = .ok (.laload, 1) := by decide +kernel
theorem dX12_shareOut_54 : decode cX12_shareOut 54 = .ok (.lmul, 1) := by decide +kernel
theorem dX12_shareOut_55 : decode cX12_shareOut 55 = .ok (.lload_n 3, 1) := by decide +kernel
theorem dX12_shareOut_56 : decode cX12_shareOut 56 = .ok (.ldiv, 1) := by decide +kernel
theorem dX12_shareOut_57 : decode cX12_shareOut 57 = .ok (.l2i, 1) := by decide +kernel
theorem dX12_shareOut_58 : decode cX12_shareOut 58 = .ok (.iastore, 1) := by decide +kernel
theorem dX12_shareOut_59 : decode cX12_shareOut 59 = .ok (.aload_n 0, 1) := by decide +kernel
theorem dX12_shareOut_60 : decode cX12_shareOut 60 = .ok (.getfield 87, 3) := by decide +kernel
theorem dX12_shareOut_63 : decode cX12_shareOut 63 = .ok (.iload 6, 2) := by decide +kernel
theorem dX12_shareOut_65 : decode cX12_shareOut 65 = .ok (.iload_n 1, 1) := by decide +kernel
theorem dX12_shareOut_66 : decode cX12_shareOut 66 = .ok (.i2l, 1) := by decide +kernel
theorem dX12_shareOut_67 : decode cX12_shareOut 67 = .ok (.aload_n 0, 1) := by decide +kernel
theorem dX12_shareOut_68 : decode cX12_shareOut 68 = .ok (.getfield 83, 3) := by decide +kernel
theorem dX12_shareOut_71 : decode cX12_shareOut 71 = .ok (.iload 6, 2) := by decide +kernel
theorem dX12_shareOut_73 : decode cX12_shareOut 73 = .ok (.laload, 1) := by decide +kernel
theorem dX12_shareOut_74 : decode cX12_shareOut 74 = .ok (.lmul, 1) := by decide +kernel
theorem dX12_shareOut_75 : decode cX12_shareOut 75 = .ok (.lload_n 3, 1) := by decide +kernel
theorem dX12_shareOut_76 : decode cX12_shareOut 76 = .ok (.lrem, 1) := by decide +kernel
theorem dX12_shareOut_77 : decode cX12_shareOut 77 = .ok (.lastore, 1) := by decide +kernel
theorem dX12_shareOut_78 : decode cX12_shareOut 78 = .ok (.iload 5, 2) := by decide +kernel
theorem dX12_shareOut_80 : decode cX12_shareOut 80 = .ok (.aload_n 0, 1) := by decide +kernel
theorem dX12_shareOut_81 : decode cX12_shareOut 81 = .ok (.getfield 90, 3) := by decide +kernel
theorem dX12_shareOut_84 : decode cX12_shareOut 84 = .ok (.iload 6, 2) := by decide +kernel
theorem dX12_shareOut_86 : decode cX12_shareOut 86 = .ok (.iaload, 1) := by decide +kernel
theorem dX12_shareOut_87 : decode cX12_shareOut 87 = .ok (.isub, 1) := by decide +kernel
theorem dX12_shareOut_88 : decode cX12_shareOut 88 = .ok (.istore 5, 2) := by decide +kernel
theorem dX12_shareOut_90 : decode cX12_shareOut 90 = .ok (.iinc 6 1, 3) := by decide +kernel
theorem dX12_shareOut_93 : decode cX12_shareOut 93 = .ok (.goto (-60), 3) := by decide +kernel
theorem dX12_shareOut_96 : decode cX12_shareOut 96 = .ok (.iload 5, 2) := by decide +kernel
theorem dX12_shareOut_98 : decode cX12_shareOut 98 = .ok (.ifCond .le 70, 3) := by decide +kernel
theorem dX12_shareOut_101 : decode cX12_shareOut 101 = .ok (.iconst 0, 1) := by decide +kernel
theorem dX12_shareOut_102 : decode cX12_shareOut 102 = .ok (.istore 6, 2) := by decide +kernel
theorem dX12_shareOut_104 : decode cX12_shareOut 104 = .ok (.iconst 0, 1) := by decide +kernel
theorem dX12_shareOut_105 : decode cX12_shareOut 105 = .ok (.istore 7, 2) := by decide +kernel
theorem dX12_shareOut_107 : decode cX12_shareOut 107 = .ok (.iload 7, 2) := by decide +kernel
theorem dX12_shareOut_109 : decode cX12_shareOut 109 = .ok (.iload_n 2, 1) := by decide +kernel
theorem dX12_shareOut_110 : decode cX12_shareOut 110 = .ok (.if_icmp .ge 31, 3) := by decide +kernel
theorem dX12_shareOut_113 : decode cX12_shareOut 113 = .ok (.aload_n 0, 1) := by decide +kernel
theorem dX12_shareOut_114 : decode cX12_shareOut 114 = .ok (.getfield 87, 3) := by decide +kernel
theorem dX12_shareOut_117 : decode cX12_shareOut 117 = .ok (.iload 7, 2) := by decide +kernel
theorem dX12_shareOut_119 : decode cX12_shareOut 119 = .ok (.laload, 1) := by decide +kernel
theorem dX12_shareOut_120 : decode cX12_shareOut 120 = .ok (.aload_n 0, 1) := by decide +kernel
theorem dX12_shareOut_121 : decode cX12_shareOut 121 = .ok (.getfield 87, 3) := by decide +kernel
theorem dX12_shareOut_124 : decode cX12_shareOut 124 = .ok (.iload 6, 2) := by decide +kernel
theorem dX12_shareOut_126 : decode cX12_shareOut 126 = .ok (.laload, 1) := by decide +kernel
theorem dX12_shareOut_127 : decode cX12_shareOut 127 = .ok (.lcmp, 1) := by decide +kernel
theorem dX12_shareOut_128 : decode cX12_shareOut 128 = .ok (.ifCond .le 7, 3) := by decide +kernel
theorem dX12_shareOut_131 : decode cX12_shareOut 131 = .ok (.iload 7, 2) := by decide +kernel
theorem dX12_shareOut_133 : decode cX12_shareOut 133 = .ok (.istore 6, 2) := by decide +kernel
theorem dX12_shareOut_135 : decode cX12_shareOut 135 = .ok (.iinc 7 1, 3) := by decide +kernel
theorem dX12_shareOut_138 : decode cX12_shareOut 138 = .ok (.goto (-31), 3) := by decide +kernel
theorem dX12_shareOut_141 : decode cX12_shareOut 141 = .ok (.aload_n 0, 1) := by decide +kernel
theorem dX12_shareOut_142 : decode cX12_shareOut 142 = .ok (.getfield 90, 3) := by decide +kernel
theorem dX12_shareOut_145 : decode cX12_shareOut 145 = .ok (.iload 6, 2) := by decide +kernel
theorem dX12_shareOut_147 : decode cX12_shareOut 147 = .ok (.dup2, 1) := by decide +kernel
theorem dX12_shareOut_148 : decode cX12_shareOut 148 = .ok (.iaload, 1) := by decide +kernel
theorem dX12_shareOut_149 : decode cX12_shareOut 149 = .ok (.iconst 1, 1) := by decide +kernel
theorem dX12_shareOut_150 : decode cX12_shareOut 150 = .ok (.iadd, 1) := by decide +kernel
theorem dX12_shareOut_151 : decode cX12_shareOut 151 = .ok (.iastore, 1) := by decide +kernel
theorem dX12_shareOut_152 : decode cX12_shareOut 152 = .ok (.aload_n 0, 1) := by decide +kernel
theorem dX12_shareOut_153 : decode cX12_shareOut 153 = .ok (.getfield 87, 3) := by decide +kernel
theorem dX12_shareOut_156 : decode cX12_shareOut 156 = .ok (.iload 6, 2) := by decide +kernel
theorem dX12_shareOut_158 : decode cX12_shareOut 158 = .ok (.ldc2_w 128, 3) := by decide +kernel
theorem dX12_shareOut_161 : decode cX12_shareOut 161 = .ok (.lastore, 1) := by decide +kernel
theorem dX12_shareOut_162 : decode cX12_shareOut 162 = .ok (.iinc 5 (-1), 3) := by decide +kernel
theorem dX12_shareOut_165 : decode cX12_shareOut 165 = .ok (.goto (-69), 3) := by decide +kernel
theorem dX12_shareOut_168 : decode cX12_shareOut 168 = .ok (.return_, 1) := by decide +kernel
theorem dX12_byThings_0 : decode cX12_byThings 0 = .ok (.iconst 0, 1) := by decide +kernel
theorem dX12_byThings_1 : decode cX12_byThings 1 = .ok (.istore 5, 2) := by decide +kernel
theorem dX12_byThings_3 : decode cX12_byThings 3 = .ok (.iload 5, 2) := by decide +kernel
theorem dX12_byThings_5 : decode cX12_byThings 5 = .ok (.iconst 4, 1) := by decide +kernel
theorem dX12_byThings_6 : decode cX12_byThings 6 = .ok (.if_icmp .ge 28, 3) := by decide +kernel
theorem dX12_byThings_9 : decode cX12_byThings 9 = .ok (.aload_n 0, 1) := by decide +kernel
theorem dX12_byThings_10 : decode cX12_byThings 10 = .ok (.getfield 83, 3) := by decide +kernel
theorem dX12_byThings_13 : decode cX12_byThings 13 = .ok (.iload 5, 2) := by decide +kernel
theorem dX12_byThings_15 : decode cX12_byThings 15 = .ok (.aload_n 0, 1) := by decide +kernel
theorem dX12_byThings_16 : decode cX12_byThings 16 = .ok (.getfield 7, 3) := by decide +kernel
theorem dX12_byThings_19 : decode cX12_byThings 19 = .ok (.iconst 4, 1) := by decide +kernel
theorem dX12_byThings_20 : decode cX12_byThings 20 = .ok (.iload_n 2, 1) := by decide +kernel
theorem dX12_byThings_21 : decode cX12_byThings 21 = .ok (.imul, 1) := by decide +kernel
theorem dX12_byThings_22 : decode cX12_byThings 22 = .ok (.iload 5, 2) := by decide +kernel
theorem dX12_byThings_24 : decode cX12_byThings 24 = .ok (.iadd, 1) := by decide +kernel
theorem dX12_byThings_25 : decode cX12_byThings 25 = .ok (.iaload, 1) := by decide +kernel
theorem dX12_byThings_26 : decode cX12_byThings 26 = .ok (.i2l, 1) := by decide +kernel
theorem dX12_byThings_27 : decode cX12_byThings 27 = .ok (.lastore, 1) := by decide +kernel
theorem dX12_byThings_28 : decode cX12_byThings 28 = .ok (.iinc 5 1, 3) := by decide +kernel
theorem dX12_byThings_31 : decode cX12_byThings 31 = .ok (.goto (-28), 3) := by decide +kernel
theorem dX12_byThings_34 : decode cX12_byThings 34 = .ok (.aload_n 0, 1) := by decide +kernel
theorem dX12_byThings_35 : decode cX12_byThings 35 = .ok (.iload_n 1, 1) := by decide +kernel
theorem dX12_byThings_36 : decode cX12_byThings 36 = .ok (.iconst 4, 1) := by decide +kernel
theorem dX12_byThings_37 : decode cX12_byThings 37 = .ok (.invokevirtual 130, 3) := by decide +kernel
theorem dX12_byThings_40 : decode cX12_byThings 40 = .ok (.iconst 0, 1) := by decide +kernel
theorem dX12_byThings_41 : decode cX12_byThings 41 = .ok (.istore 5, 2) := by decide +kernel
theorem dX12_byThings_43 : decode cX12_byThings 43 = .ok (.iload 5, 2) := by decide +kernel
theorem dX12_byThings_45 : decode cX12_byThings 45 = .ok (.iconst 4, 1) := by decide +kernel
theorem dX12_byThings_46 : decode cX12_byThings 46 = .ok (.if_icmp .ge 23, 3) := by decide +kernel
theorem dX12_byThings_49 : decode cX12_byThings 49 = .ok (.aload_n 3, 1) := by decide +kernel
theorem dX12_byThings_50 : decode cX12_byThings 50 = .ok (.iload 4, 2) := by decide +kernel
theorem dX12_byThings_52 : decode cX12_byThings 52 = .ok (.iload 5, 2) := by decide +kernel
theorem dX12_byThings_54 : decode cX12_byThings 54 = .ok (.iadd, 1) := by decide +kernel
theorem dX12_byThings_55 : decode cX12_byThings 55 = .ok (.aload_n 0, 1) := by decide +kernel
theorem dX12_byThings_56 : decode cX12_byThings 56 = .ok (.getfield 90, 3) := by decide +kernel
theorem dX12_byThings_59 : decode cX12_byThings 59 = .ok (.iload 5, 2) := by decide +kernel
theorem dX12_byThings_61 : decode cX12_byThings 61 = .ok (.iaload, 1) := by decide +kernel
theorem dX12_byThings_62 : decode cX12_byThings 62 = .ok (.iastore, 1) := by decide +kernel
theorem dX12_byThings_63 : decode cX12_byThings 63 = .ok (.iinc 5 1, 3) := by decide +kernel
theorem dX12_byThings_66 : decode cX12_byThings 66 = .ok (.goto (-23), 3) := by decide +kernel
theorem dX12_byThings_69 : decode cX12_byThings 69 = .ok (.return_, 1) := by decide +kernel
theorem dX12_tank_0 : decode cX12_tank 0 = .ok (.iload_n 1, 1) := by decide +kernel
theorem dX12_tank_1 : decode cX12_tank 1 = .ok (.iconst 2, 1) := by decide +kernel
theorem dX12_tank_2 : decode cX12_tank 2 = .ok (.bipush 6, 2) := by decide +kernel
theorem dX12_tank_4 : decode cX12_tank 4 = .ok (.invokestatic 111, 3) := by decide +kernel
theorem dX12_tank_7 : decode cX12_tank 7 = .ok (.ifCond .eq 32, 3) := by decide +kernel
theorem dX12_tank_10 : decode cX12_tank 10 = .ok (.iload_n 2, 1) := by decide +kernel
theorem dX12_tank_11 : decode cX12_tank 11 = .ok (.bipush 100, 2) := by decide +kernel
theorem dX12_tank_13 : decode cX12_tank 13 = .ok (.ldc 134, 2) := by decide +kernel
theorem dX12_tank_15 : decode cX12_tank 15 = .ok (.invokestatic 111, 3) := by decide +kernel
theorem dX12_tank_18 : decode cX12_tank 18 = .ok (.ifCond .eq 21, 3) := by decide +kernel
theorem dX12_tank_21 : decode cX12_tank 21 = .ok (.iload_n 3, 1) := by decide +kernel
theorem dX12_tank_22 : decode cX12_tank 22 = .ok (.iconst 1, 1) := by decide +kernel
theorem dX12_tank_23 : decode cX12_tank 23 = .ok (.iload_n 2, 1) := by decide +kernel
theorem dX12_tank_24 : decode cX12_tank 24 = .ok (.invokestatic 111, 3) := by decide +kernel
theorem dX12_tank_27 : decode cX12_tank 27 = .ok (.ifCond .eq 12, 3) := by decide +kernel
theorem dX12_tank_30 : decode cX12_tank 30 = .ok (.aload_n 0, 1) := by decide +kernel
theorem dX12_tank_31 : decode cX12_tank 31 = .ok (.iload 4, 2) := by decide +kernel
theorem dX12_tank_33 : decode cX12_tank 33 = .ok (.invokevirtual 119, 3) := by decide +kernel
theorem dX12_tank_36 : decode cX12_tank 36 = .ok (.ifCond .ne 6, 3) := by decide +kernel
theorem dX12_tank_39 : decode cX12_tank 39 = .ok (.ldc 118, 2) := by decide +kernel
theorem dX12_tank_41 : decode cX12_tank 41 = .ok (.ireturn, 1) := by decide +kernel
theorem dX12_tank_42 : decode cX12_tank 42 = .ok (.aload_n 0, 1) := by decide +kernel
theorem dX12_tank_43 : decode cX12_tank 43 = .ok (.iload_n 1, 1) := by decide +kernel
theorem dX12_tank_44 : decode cX12_tank 44 = .ok (.putfield 31, 3) := by decide +kernel
theorem dX12_tank_47 : decode cX12_tank 47 = .ok (.aload_n 0, 1) := by decide +kernel
theorem dX12_tank_48 : decode cX12_tank 48 = .ok (.iload_n 2, 1) := by decide +kernel
theorem dX12_tank_49 : decode cX12_tank 49 = .ok (.putfield 35, 3) := by decide +kernel
theorem dX12_tank_52 : decode cX12_tank 52 = .ok (.aload_n 0, 1) := by decide +kernel
theorem dX12_tank_53 : decode cX12_tank 53 = .ok (.iload_n 3, 1) := by decide +kernel
theorem dX12_tank_54 : decode cX12_tank 54 = .ok (.putfield 38, 3) := by decide +kernel
theorem dX12_tank_57 : decode cX12_tank 57 = .ok (.aload_n 0, 1) := by decide +kernel
theorem dX12_tank_58 : decode cX12_tank 58 = .ok (.iconst 1, 1) := by decide +kernel
theorem dX12_tank_59 : decode cX12_tank 59 = .ok (.putfield 135, 3) := by decide +kernel
theorem dX12_tank_62 : decode cX12_tank 62 = .ok (.aload_n 0, 1) := by decide +kernel
theorem dX12_tank_63 : decode cX12_tank 63 = .ok (.iconst 0, 1) := by decide +kernel
theorem dX12_tank_64 : decode cX12_tank 64 = .ok (.putfield 138, 3) := by decide +kernel
theorem dX12_tank_67 : decode cX12_tank 67 = .ok (.aload_n 0, 1) := by decide +kernel
theorem dX12_tank_68 : decode cX12_tank 68 = .ok (.lconst 0, 1) := by decide +kernel
theorem dX12_tank_69 : decode cX12_tank 69 = .ok (.putfield 141, 3) := by decide +kernel
theorem dX12_tank_72 : decode cX12_tank 72 = .ok (.aload_n 0, 1) := by decide +kernel
theorem dX12_tank_73 : decode cX12_tank 73 = .ok (.lconst 0, 1) := by decide +kernel
theorem dX12_tank_74 : decode cX12_tank 74 = .ok (.putfield 145, 3) := by decide +kernel
theorem dX12_tank_77 : decode cX12_tank 77 = .ok (.iconst 0, 1) := by decide +kernel
theorem dX12_tank_78 : decode cX12_tank 78 = .ok (.istore 5, 2) := by decide +kernel
theorem dX12_tank_80 : decode cX12_tank 80 = .ok (.iload 5, 2) := by decide +kernel
theorem dX12_tank_82 : decode cX12_tank 82 = .ok (.sipush 192, 3) := by decide +kernel
theorem dX12_tank_85 : decode cX12_tank 85 = .ok (.if_icmp .ge 17, 3) := by decide +kernel
theorem dX12_tank_88 : decode cX12_tank 88 = .ok (.aload_n 0, 1) := by decide +kernel
theorem dX12_tank_89 : decode cX12_tank 89 = .ok (.getfield 44, 3) := by decide +kernel
theorem dX12_tank_92 : decode cX12_tank 92 = .ok (.iload 5, 2) := by decide +kernel
theorem dX12_tank_94 : decode cX12_tank 94 = .ok (.iconst 0, 1) := by decide +kernel
theorem dX12_tank_95 : decode cX12_tank 95 = .ok (.iastore, 1) := by decide +kernel
theorem dX12_tank_96 : decode cX12_tank 96 = .ok (.iinc 5 1, 3) := by decide +kernel
theorem dX12_tank_99 : decode cX12_tank 99 = .ok (.goto (-19), 3) := by decide +kernel
theorem dX12_tank_102 : decode cX12_tank 102 = .ok (.iconst 0, 1) := by decide +kernel
theorem dX12_tank_103 : decode cX12_tank 103 = .ok (.istore 5, 2) := by decide +kernel
theorem dX12_tank_105 : decode cX12_tank 105 = .ok (.iload 5, 2) := by decide +kernel
theorem dX12_tank_107 : decode cX12_tank 107 = .ok (.iload_n 1, 1) := by decide +kernel
theorem dX12_tank_108 : decode cX12_tank 108 = .ok (.if_icmp .ge 30, 3) := by decide +kernel
theorem dX12_tank_111 : decode cX12_tank 111 = .ok (.aload_n 0, 1) := by decide +kernel
theorem dX12_tank_112 : decode cX12_tank 112 = .ok (.iload_n 2, 1) := by decide +kernel
theorem dX12_tank_113 : decode cX12_tank 113 = .ok (.iload 4, 2) := by decide +kernel
theorem dX12_tank_115 : decode cX12_tank 115 = .ok (.aload_n 0, 1) := by decide +kernel
theorem dX12_tank_116 : decode cX12_tank 116 = .ok (.getfield 44, 3) := by decide +kernel
theorem dX12_tank_119 : decode cX12_tank 119 = .ok (.bipush 32, 2) := by decide +kernel
theorem dX12_tank_121 : decode cX12_tank 121 = .ok (.iload 5, 2) := by decide +kernel
theorem dX12_tank_123 : decode cX12_tank 123 = .ok (.imul, 1) := by decide +kernel
theorem dX12_tank_124 : decode cX12_tank 124 = .ok (.iconst 4, 1) := by decide +kernel
theorem dX12_tank_125 : decode cX12_tank 125 = .ok (.iload 4, 2) := by decide +kernel
theorem dX12_tank_127 : decode cX12_tank 127 = .ok (.imul, 1) := by decide +kernel
theorem dX12_tank_128 : decode cX12_tank 128 = .ok (.iadd, 1) := by decide +kernel
theorem dX12_tank_129 : decode cX12_tank 129 = .ok (.invokevirtual 148, 3) := by decide +kernel
theorem dX12_tank_132 : decode cX12_tank 132 = .ok (.iinc 5 1, 3) := by decide +kernel
theorem dX12_tank_135 : decode cX12_tank 135 = .ok (.goto (-30), 3) := by decide +kernel
theorem dX12_tank_138 : decode cX12_tank 138 = .ok (.iconst 1, 1) := by decide +kernel
theorem dX12_tank_139 : decode cX12_tank 139 = .ok (.ireturn, 1) := by decide +kernel
theorem dX12_pull_0 : decode cX12_pull 0 = .ok (.iload_n 1, 1) := by decide +kernel
theorem dX12_pull_1 : decode cX12_pull 1 = .ok (.iconst 1, 1) := by decide +kernel
theorem dX12_pull_2 : decode cX12_pull 2 = .ok (.aload_n 0, 1) := by decide +kernel
theorem dX12_pull_3 : decode cX12_pull 3 = .ok (.getfield 35, 3) := by decide +kernel
theorem dX12_pull_6 : decode cX12_pull 6 = .ok (.invokestatic 111, 3) := by decide +kernel
theorem dX12_pull_9 : decode cX12_pull 9 = .ok (.ifCond .ne 6, 3) := by decide +kernel
theorem dX12_pull_12 : decode cX12_pull 12 = .ok (.ldc 118, 2) := by decide +kernel
theorem dX12_pull_14 : decode cX12_pull 14 = .ok (.ireturn, 1) := by decide +kernel
theorem dX12_pull_15 : decode cX12_pull 15 = .ok (.aload_n 0, 1) := by decide +kernel
theorem dX12_pull_16 : decode cX12_pull 16 = .ok (.getfield 38, 3) := by decide +kernel
theorem dX12_pull_19 : decode cX12_pull 19 = .ok (.istore_n 2, 1) := by decide +kernel
theorem dX12_pull_20 : decode cX12_pull 20 = .ok (.aload_n 0, 1) := by decide +kernel
theorem dX12_pull_21 : decode cX12_pull 21 = .ok (.iload_n 1, 1) := by decide +kernel
theorem dX12_pull_22 : decode cX12_pull 22 = .ok (.putfield 38, 3) := by decide +kernel
theorem dX12_pull_25 : decode cX12_pull 25 = .ok (.iload_n 2, 1) := by decide +kernel
theorem dX12_pull_26 : decode cX12_pull 26 = .ok (.ireturn, 1) := by decide +kernel
theorem dX12_cell_0 : decode cX12_cell 0 = .ok (.aload_n 0, 1) := by decide +kernel
theorem dX12_cell_1 : decode cX12_cell 1 = .ok (.getfield 135, 3) := by decide +kernel
theorem dX12_cell_4 : decode cX12_cell 4 = .ok (.ifCond .eq 39, 3) := by decide +kernel
theorem dX12_cell_7 : decode cX12_cell 7 = .ok (.iload_n 1, 1) := by decide +kernel
theorem dX12_cell_8 : decode cX12_cell 8 = .ok (.iconst 0, 1) := by decide +kernel
theorem dX12_cell_9 : decode cX12_cell 9 = .ok (.aload_n 0, 1) := by decide +kernel
theorem dX12_cell_10 : decode cX12_cell 10 = .ok (.getfield 31, 3) := by decide +kernel
theorem dX12_cell_13 : decode cX12_cell 13 = .ok (.iconst 1, 1) := by decide +kernel
theorem dX12_cell_14 : decode cX12_cell 14 = .ok (.isub, 1) := by decide +kernel
theorem dX12_cell_15 : decode cX12_cell 15 = .ok (.invokestatic 111, 3) := by decide +kernel
theorem dX12_cell_18 : decode cX12_cell 18 = .ok (.ifCond .eq 25, 3) := by decide +kernel
theorem dX12_cell_21 : decode cX12_cell 21 = .ok (.iload_n 2, 1) := by decide +kernel
theorem dX12_cell_22 : decode cX12_cell 22 = .ok (.iconst (-1), 1) := by decide +kernel
theorem dX12_cell_23 : decode cX12_cell 23 = .ok (.if_icmp .eq 11, 3) := by decide +kernel
theorem dX12_cell_26 : decode cX12_cell 26 = .ok (.aload_n 0, 1) := by decide +kernel
theorem dX12_cell_27 : decode cX12_cell 27 = .ok (.iload_n 2, 1) := by decide +kernel
theorem dX12_cell_28 : decode cX12_cell 28 = .ok (.invokevirtual 119, 3) := by decide +kernel
theorem dX12_cell_31 : decode cX12_cell 31 = .ok (.ifCond .eq 12, 3) := by decide +kernel
theorem dX12_cell_34 : decode cX12_cell 34 = .ok (.iload_n 3, 1) := by decide +kernel
theorem dX12_cell_35 : decode cX12_cell 35 = .ok (.iconst (-1), 1) := by decide +kernel
theorem dX12_cell_36 : decode cX12_cell 36 = .ok (.iconst 3, 1) := by decide +kernel
theorem dX12_cell_37 : decode cX12_cell 37 = .ok (.invokestatic 111, 3) := by decide +kernel
theorem dX12_cell_40 : decode cX12_cell 40 = .ok (.ifCond .ne 6, 3) := by decide +kernel
theorem dX12_cell_43 : decode cX12_cell 43 = .ok (.ldc 118, 2) := by decide +kernel
theorem dX12_cell_45 : decode cX12_cell 45 = .ok (.ireturn, 1) := by decide +kernel
theorem dX12_cell_46 : decode cX12_cell 46 = .ok (.iconst 0, 1) := by decide +kernel
theorem dX12_cell_47 : decode cX12_cell 47 = .ok (.istore 4, 2) := by decide +kernel
theorem dX12_cell_49 : decode cX12_cell 49 = .ok (.iconst 0, 1) := by decide +kernel
theorem dX12_cell_50 : decode cX12_cell 50 = .ok (.istore 5, 2) := by decide +kernel
theorem dX12_cell_52 : decode cX12_cell 52 = .ok (.iload 5, 2) := by decide +kernel
theorem dX12_cell_54 : decode cX12_cell 54 = .ok (.bipush 32, 2) := by decide +kernel
theorem dX12_cell_56 : decode cX12_cell 56 = .ok (.if_icmp .ge 56, 3) := by decide +kernel
theorem dX12_cell_59 : decode cX12_cell 59 = .ok (.iload 4, 2) := by decide +kernel
theorem dX12_cell_61 : decode cX12_cell 61 = .ok (.iload_n 2, 1) := by decide +kernel
theorem dX12_cell_62 : decode cX12_cell 62 = .ok (.iconst (-1), 1) := by decide +kernel
theorem dX12_cell_63 : decode cX12_cell 63 = .ok (.if_icmp .eq 11, 3) := by decide +kernel
theorem dX12_cell_66 : decode cX12_cell 66 = .ok (.iload 5, 2) := by decide +kernel
theorem dX12_cell_68 : decode cX12_cell 68 = .ok (.iconst 4, 1) := by decide +kernel
theorem dX12_cell_69 : decode cX12_cell 69 = .ok (.idiv, 1) := by decide +kernel
theorem dX12_cell_70 : decode cX12_cell 70 = .ok (.iload_n 2, 1) := by decide +kernel
theorem dX12_cell_71 : decode cX12_cell 71 = .ok (.if_icmp .ne 31, 3) := by decide +kernel
theorem dX12_cell_74 : decode cX12_cell 74 = .ok (.iload_n 3, 1) := by decide +kernel
theorem dX12_cell_75 : decode cX12_cell 75 = .ok (.iconst (-1), 1) := by decide +kernel
theorem dX12_cell_76 : decode cX12_cell 76 = .ok (.if_icmp .eq 11, 3) := by decide +kernel
theorem dX12_cell_79 : decode cX12_cell 79 = .ok (.iload 5, 2) := by decide +kernel
theorem dX12_cell_81 : decode cX12_cell 81 = .ok (.iconst 4, 1) := by decide +kernel
theorem dX12_cell_82 : decode cX12_cell 82 = .ok (.irem, 1) := by decide +kernel
theorem dX12_cell_83 : decode cX12_cell 83 = .ok (.iload_n 3, 1) := by decide +kernel
theorem dX12_cell_84 : decode cX12_cell 84 = .ok (.if_icmp .ne 18, 3) := by decide +kernel
theorem dX12_cell_87 : decode cX12_cell 87 = .ok (.aload_n 0, 1) := by decide +kernel
theorem dX12_cell_88 : decode cX12_cell 88 = .ok (.getfield 44, 3) := by decide +kernel
theorem dX12_cell_91 : decode cX12_cell 91 = .ok (.bipush 32, 2) := by decide +kernel
theorem dX12_cell_93 : decode cX12_cell 93 = .ok (.iload_n 1, 1) := by decide +kernel
theorem dX12_cell_94 : decode cX12_cell 94 = .ok (.imul, 1) := by decide +kernel
theorem dX12_cell_95 : decode cX12_cell 95 = .ok (.iload 5, 2) := by decide +kernel
theorem dX12_cell_97 : decode cX12_cell 97 = .ok (.iadd, 1) := by decide +kernel
theorem dX12_cell_98 : decode cX12_cell 98 = .ok (.iaload, 1) := by decide +kernel
theorem dX12_cell_99 : decode cX12_cell 99 = .ok (.goto 4, 3) := by decide +kernel
theorem dX12_cell_102 : decode cX12_cell 102 = .ok (.iconst 0, 1) := by decide +kernel
theorem dX12_cell_103 : decode cX12_cell 103 = .ok (.iadd, 1) := by decide +kernel
theorem dX12_cell_104 : decode cX12_cell 104 = .ok (.istore 4, 2) := by decide +kernel
theorem dX12_cell_106 : decode cX12_cell 106 = .ok (.iinc 5 1, 3) := by decide +kernel
theorem dX12_cell_109 : decode cX12_cell 109 = .ok (.goto (-57), 3) := by decide +kernel
theorem dX12_cell_112 : decode cX12_cell 112 = .ok (.iload 4, 2) := by decide +kernel
theorem dX12_cell_114 : decode cX12_cell 114 = .ok (.ireturn, 1) := by decide +kernel
theorem dX12_share_0 : decode cX12_share 0 = .ok (.aload_n 0, 1) := by decide +kernel
theorem dX12_share_1 : decode cX12_share 1 = .ok (.iload_n 1, 1) := by decide +kernel
theorem dX12_share_2 : decode cX12_share 2 = .ok (.invokevirtual 119, 3) := by decide +kernel
theorem dX12_share_5 : decode cX12_share 5 = .ok (.ifCond .eq 14, 3) := by decide +kernel
theorem dX12_share_8 : decode cX12_share 8 = .ok (.iload_n 2, 1) := by decide +kernel
theorem dX12_share_9 : decode cX12_share 9 = .ok (.iconst 0, 1) := by decide +kernel
theorem dX12_share_10 : decode cX12_share 10 = .ok (.sipush 1000, 3) := by decide +kernel
theorem dX12_share_13 : decode cX12_share 13 = .ok (.invokestatic 111, 3) := by decide +kernel
theorem dX12_share_16 : decode cX12_share 16 = .ok (.ifCond .ne 6, 3) := by decide +kernel
theorem dX12_share_19 : decode cX12_share 19 = .ok (.ldc 118, 2) := by decide +kernel
theorem dX12_share_21 : decode cX12_share 21 = .ok (.ireturn, 1) := by decide +kernel
theorem dX12_share_22 : decode cX12_share 22 = .ok (.aload_n 0, 1) := by decide +kernel
theorem dX12_share_23 : decode cX12_share 23 = .ok (.getfield 25, 3) := by decide +kernel
theorem dX12_share_26 : decode cX12_share 26 = .ok (.iload_n 1, 1) := by decide +kernel
theorem dX12_share_27 : decode cX12_share 27 = .ok (.iaload, 1) := by decide +kernel
theorem dX12_share_28 : decode cX12_share 28 = .ok (.istore_n 3, 1) := by decide +kernel
theorem dX12_share_29 : decode cX12_share 29 = .ok (.aload_n 0, 1) := by decide +kernel
theorem dX12_share_30 : decode cX12_share 30 = .ok (.getfield 25, 3) := by decide +kernel
theorem dX12_share_33 : decode cX12_share 33 = .ok (.iload_n 1, 1) := by decide +kernel
theorem dX12_share_34 : decode cX12_share 34 = .ok (.iload_n 2, 1) := by decide +kernel
theorem dX12_share_35 : decode cX12_share 35 = .ok (.iastore, 1) := by decide +kernel
theorem dX12_share_36 : decode cX12_share 36 = .ok (.iload_n 3, 1) := by decide +kernel
theorem dX12_share_37 : decode cX12_share 37 = .ok (.ireturn, 1) := by decide +kernel
theorem dX12_mix_0 : decode cX12_mix 0 = .ok (.iconst 0, 1) := by decide +kernel
theorem dX12_mix_1 : decode cX12_mix 1 = .ok (.istore_n 1, 1) := by decide +kernel
theorem dX12_mix_2 : decode cX12_mix 2 = .ok (.iconst 0, 1) := by decide +kernel
theorem dX12_mix_3 : decode cX12_mix 3 = .ok (.istore_n 2, 1) := by decide +kernel
theorem dX12_mix_4 : decode cX12_mix 4 = .ok (.iload_n 2, 1) := by decide +kernel
theorem dX12_mix_5 : decode cX12_mix 5 = .ok (.aload_n 0, 1) := by decide +kernel
theorem dX12_mix_6 : decode cX12_mix 6 = .ok (.getfield 108, 3) := by decide +kernel
theorem dX12_mix_9 : decode cX12_mix 9 = .ok (.if_icmp .ge 18, 3) := by decide +kernel
theorem dX12_mix_12 : decode cX12_mix 12 = .ok (.iload_n 1, 1) := by decide +kernel
theorem dX12_mix_13 : decode cX12_mix 13 = .ok (.aload_n 0, 1) := by decide +kernel
theorem dX12_mix_14 : decode cX12_mix 14 = .ok (.getfield 25, 3) := by decide +kernel
theorem dX12_mix_17 : decode cX12_mix 17 = .ok (.iload_n 2, 1) := by decide +kernel
theorem dX12_mix_18 : decode cX12_mix 18 = .ok (.iaload, 1) := by decide +kernel
theorem dX12_mix_19 : decode cX12_mix 19 = .ok (.iadd, 1) := by decide +kernel
theorem dX12_mix_20 : decode cX12_mix 20 = .ok (.istore_n 1, 1) := by decide +kernel
theorem dX12_mix_21 : decode cX12_mix 21 = .ok (.iinc 2 1, 3) := by decide +kernel
theorem dX12_mix_24 : decode cX12_mix 24 = .ok (.goto (-20), 3) := by decide +kernel
theorem dX12_mix_27 : decode cX12_mix 27 = .ok (.iload_n 1, 1) := by decide +kernel
theorem dX12_mix_28 : decode cX12_mix 28 = .ok (.sipush 1000, 3) := by decide +kernel
theorem dX12_mix_31 : decode cX12_mix 31 = .ok (.if_icmp .eq 6, 3) := by decide +kernel
theorem dX12_mix_34 : decode cX12_mix 34 = .ok (.ldc 118, 2) := by decide +kernel
theorem dX12_mix_36 : decode cX12_mix 36 = .ok (.ireturn, 1) := by decide +kernel
theorem dX12_mix_37 : decode cX12_mix 37 = .ok (.iconst 0, 1) := by decide +kernel
theorem dX12_mix_38 : decode cX12_mix 38 = .ok (.istore_n 2, 1) := by decide +kernel
theorem dX12_mix_39 : decode cX12_mix 39 = .ok (.iload_n 2, 1) := by decide +kernel
theorem dX12_mix_40 : decode cX12_mix 40 = .ok (.bipush 8, 2) := by decide +kernel
theorem dX12_mix_42 : decode cX12_mix 42 = .ok (.if_icmp .ge 33, 3) := by decide +kernel
theorem dX12_mix_45 : decode cX12_mix 45 = .ok (.aload_n 0, 1) := by decide +kernel
theorem dX12_mix_46 : decode cX12_mix 46 = .ok (.getfield 28, 3) := by decide +kernel
theorem dX12_mix_49 : decode cX12_mix 49 = .ok (.iload_n 2, 1) := by decide +kernel
theorem dX12_mix_50 : decode cX12_mix 50 = .ok (.iload_n 2, 1) := by decide +kernel
theorem dX12_mix_51 : decode cX12_mix 51 = .ok (.aload_n 0, 1) := by decide +kernel
theorem dX12_mix_52 : decode cX12_mix 52 = .ok (.getfield 108, 3) := by decide +kernel
theorem dX12_mix_55 : decode cX12_mix 55 = .ok (.if_icmp .ge 12, 3) := by decide +kernel
theorem dX12_mix_58 : decode cX12_mix 58 = .ok (.aload_n 0, 1) := by decide +kernel
theorem dX12_mix_59 : decode cX12_mix 59 = .ok (.getfield 25, 3) := by decide +kernel
theorem dX12_mix_62 : decode cX12_mix 62 = .ok (.iload_n 2, 1) := by decide +kernel
theorem dX12_mix_63 : decode cX12_mix 63 = .ok (.iaload, 1) := by decide +kernel
theorem dX12_mix_64 : decode cX12_mix 64 = .ok (.goto 4, 3) := by decide +kernel
theorem dX12_mix_67 : decode cX12_mix 67 = .ok (.iconst 0, 1) := by decide +kernel
theorem dX12_mix_68 : decode cX12_mix 68 = .ok (.iastore, 1) := by decide +kernel
theorem dX12_mix_69 : decode cX12_mix 69 = .ok (.iinc 2 1, 3) := by decide +kernel
theorem dX12_mix_72 : decode cX12_mix 72 = .ok (.goto (-33), 3) := by decide +kernel
theorem dX12_mix_75 : decode cX12_mix 75 = .ok (.aload_n 0, 1) := by decide +kernel
theorem dX12_mix_76 : decode cX12_mix 76 = .ok (.iconst 1, 1) := by decide +kernel
theorem dX12_mix_77 : decode cX12_mix 77 = .ok (.putfield 124, 3) := by decide +kernel
theorem dX12_mix_80 : decode cX12_mix 80 = .ok (.iconst 1, 1) := by decide +kernel
theorem dX12_mix_81 : decode cX12_mix 81 = .ok (.ireturn, 1) := by decide +kernel
theorem dX12_colour_0 : decode cX12_colour 0 = .ok (.aload_n 0, 1) := by decide +kernel
theorem dX12_colour_1 : decode cX12_colour 1 = .ok (.getfield 115, 3) := by decide +kernel
theorem dX12_colour_4 : decode cX12_colour 4 = .ok (.bipush 6, 2) := by decide +kernel
theorem dX12_colour_6 : decode cX12_colour 6 = .ok (.if_icmp .ne 6, 3) := by decide +kernel
theorem dX12_colour_9 : decode cX12_colour 9 = .ok (.ldc 118, 2) := by decide +kernel
theorem dX12_colour_11 : decode cX12_colour 11 = .ok (.ireturn, 1) := by decide +kernel
theorem dX12_colour_12 : decode cX12_colour 12 = .ok (.iconst 0, 1) := by decide +kernel
theorem dX12_colour_13 : decode cX12_colour 13 = .ok (.istore_n 1, 1) := by decide +kernel
theorem dX12_colour_14 : decode cX12_colour 14 = .ok (.iload_n 1, 1) := by decide +kernel
theorem dX12_colour_15 : decode cX12_colour 15 = .ok (.iconst 4, 1) := by decide +kernel
theorem dX12_colour_16 : decode cX12_colour 16 = .ok (.if_icmp .ge 39, 3) := by decide +kernel
theorem dX12_colour_19 : decode cX12_colour 19 = .ok (.aload_n 0, 1) := by decide +kernel
theorem dX12_colour_20 : decode cX12_colour 20 = .ok (.getfield 59, 3) := by decide +kernel
theorem dX12_colour_23 : decode cX12_colour 23 = .ok (.iconst 4, 1) := by decide +kernel
theorem dX12_colour_24 : decode cX12_colour 24 = .ok (.aload_n 0, 1) := by decide +kernel
theorem dX12_colour_25 : decode cX12_colour 25 = .ok (.getfield 115, 3) := by decide +kernel
theorem dX12_colour_28 : decode cX12_colour 28 = .ok (.imul, 1) := by decide +kernel
theorem dX12_colour_29 : decode cX12_colour 29 = .ok (.iload_n 1, 1) := by decide +kernel
theorem dX12_colour_30 : decode cX12_colour 30 = .ok (.iadd, 1) := by decide +kernel
theorem dX12_colour_31 : decode cX12_colour 31 = .ok (.iconst 0, 1) := by decide +kernel
theorem dX12_colour_32 : decode cX12_colour 32 = .ok (.iastore, 1) := by decide +kernel
theorem dX12_colour_33 : decode cX12_colour 33 = .ok (.aload_n 0, 1) := by decide +kernel
theorem dX12_colour_34 : decode cX12_colour 34 = .ok (.getfield 62, 3) := by decide +kernel
theorem dX12_colour_37 : decode cX12_colour 37 = .ok (.iconst 4, 1) := by decide +kernel
theorem dX12_colour_38 : decode cX12_colour 38 = .ok (.aload_n 0, 1) := by decide +kernel
theorem dX12_colour_39 : decode cX12_colour 39 = .ok (.getfield 115, 3) := by decide +kernel
theorem dX12_colour_42 : decode cX12_colour 42 = .ok (.imul, 1) := by decide +kernel
theorem dX12_colour_43 : decode cX12_colour 43 = .ok (.iload_n 1, 1) := by decide +kernel
theorem dX12_colour_44 : decode cX12_colour 44 = .ok (.iadd, 1) := by decide +kernel
theorem dX12_colour_45 : decode cX12_colour 45 = .ok (.sipush 1000, 3) := by decide +kernel
theorem dX12_colour_48 : decode cX12_colour 48 = .ok (.iastore, 1) := by decide +kernel
theorem dX12_colour_49 : decode cX12_colour 49 = .ok (.iinc 1 1, 3) := by decide +kernel
theorem dX12_colour_52 : decode cX12_colour 52 = .ok (.goto (-38), 3) := by decide +kernel
theorem dX12_colour_55 : decode cX12_colour 55 = .ok (.aload_n 0, 1) := by decide +kernel
theorem dX12_colour_56 : decode cX12_colour 56 = .ok (.dup, 1) := by decide +kernel
theorem dX12_colour_57 : decode cX12_colour 57 = .ok (.getfield 115, 3) := by decide +kernel
theorem dX12_colour_60 : decode cX12_colour 60 = .ok (.iconst 1, 1) := by decide +kernel
theorem dX12_colour_61 : decode cX12_colour 61 = .ok (.iadd, 1) := by decide +kernel
theorem dX12_colour_62 : decode cX12_colour 62 = .ok (.putfield 115, 3) := by decide +kernel
theorem dX12_colour_65 : decode cX12_colour 65 = .ok (.aload_n 0, 1) := by decide +kernel
theorem dX12_colour_66 : decode cX12_colour 66 = .ok (.getfield 115, 3) := by decide +kernel
theorem dX12_colour_69 : decode cX12_colour 69 = .ok (.iconst 1, 1) := by decide +kernel
theorem dX12_colour_70 : decode cX12_colour 70 = .ok (.isub, 1) := by decide +kernel
theorem dX12_colour_71 : decode cX12_colour 71 = .ok (.ireturn, 1) := by decide +kernel
theorem dX12_span_0 : decode cX12_span 0 = .ok (.aload_n 0, 1) := by decide +kernel
theorem dX12_span_1 : decode cX12_span 1 = .ok (.iload_n 1, 1) := by decide +kernel
theorem dX12_span_2 : decode cX12_span 2 = .ok (.invokevirtual 152, 3) := by decide +kernel
theorem dX12_span_5 : decode cX12_span 5 = .ok (.ifCond .eq 41, 3) := by decide +kernel
theorem dX12_span_8 : decode cX12_span 8 = .ok (.iload_n 2, 1) := by decide +kernel
theorem dX12_span_9 : decode cX12_span 9 = .ok (.iconst 0, 1) := by decide +kernel
theorem dX12_span_10 : decode cX12_span 10 = .ok (.iconst 3, 1) := by decide +kernel
theorem dX12_span_11 : decode cX12_span 11 = .ok (.invokestatic 111, 3) := by decide +kernel
theorem dX12_span_14 : decode cX12_span 14 = .ok (.ifCond .eq 32, 3) := by decide +kernel
theorem dX12_span_17 : decode cX12_span 17 = .ok (.iload_n 3, 1) := by decide +kernel
theorem dX12_span_18 : decode cX12_span 18 = .ok (.iconst 0, 1) := by decide +kernel
theorem dX12_span_19 : decode cX12_span 19 = .ok (.sipush 1000, 3) := by decide +kernel
theorem dX12_span_22 : decode cX12_span 22 = .ok (.invokestatic 111, 3) := by decide +kernel
theorem dX12_span_25 : decode cX12_span 25 = .ok (.ifCond .eq 21, 3) := by decide +kernel
theorem dX12_span_28 : decode cX12_span 28 = .ok (.iload 4, 2) := by decide +kernel
theorem dX12_span_30 : decode cX12_span 30 = .ok (.iconst 0, 1) := by decide +kernel
theorem dX12_span_31 : decode cX12_span 31 = .ok (.sipush 1000, 3) := by decide +kernel
theorem dX12_span_34 : decode cX12_span 34 = .ok (.invokestatic 111, 3) := by decide +kernel
theorem dX12_span_37 : decode cX12_span 37 = .ok (.ifCond .eq 9, 3) := by decide +kernel
theorem dX12_span_40 : decode cX12_span 40 = .ok (.iload_n 3, 1) := by decide +kernel
theorem dX12_span_41 : decode cX12_span 41 = .ok (.iload 4, 2) := by decide +kernel
theorem dX12_span_43 : decode cX12_span 43 = .ok (.if_icmp .le 6, 3) := by decide +kernel
theorem dX12_span_46 : decode cX12_span 46 = .ok (.ldc 118, 2) := by decide +kernel
theorem dX12_span_48 : decode cX12_span 48 = .ok (.ireturn, 1) := by decide +kernel
theorem dX12_span_49 : decode cX12_span 49 = .ok (.aload_n 0, 1) := by decide +kernel
theorem dX12_span_50 : decode cX12_span 50 = .ok (.getfield 59, 3) := by decide +kernel
theorem dX12_span_53 : decode cX12_span 53 = .ok (.iconst 4, 1) := by decide +kernel
theorem dX12_span_54 : decode cX12_span 54 = .ok (.iload_n 1, 1) := by decide +kernel
theorem dX12_span_55 : decode cX12_span 55 = .ok (.imul, 1) := by decide +kernel
theorem dX12_span_56 : decode cX12_span 56 = .ok (.iload_n 2, 1) := by decide +kernel
theorem dX12_span_57 : decode cX12_span 57 = .ok (.iadd, 1) := by decide +kernel
theorem dX12_span_58 : decode cX12_span 58 = .ok (.iload_n 3, 1) := by decide +kernel
theorem dX12_span_59 : decode cX12_span 59 = .ok (.iastore, 1) := by decide +kernel
theorem dX12_span_60 : decode cX12_span 60 = .ok (.aload_n 0, 1) := by decide +kernel
theorem dX12_span_61 : decode cX12_span 61 = .ok (.getfield 62, 3) := by decide +kernel
theorem dX12_span_64 : decode cX12_span 64 = .ok (.iconst 4, 1) := by decide +kernel
theorem dX12_span_65 : decode cX12_span 65 = .ok (.iload_n 1, 1) := by decide +kernel
theorem dX12_span_66 : decode cX12_span 66 = .ok (.imul, 1) := by decide +kernel
theorem dX12_span_67 : decode cX12_span 67 = .ok (.iload_n 2, 1) := by decide +kernel
theorem dX12_span_68 : decode cX12_span 68 = .ok (.iadd, 1) := by decide +kernel
theorem dX12_span_69 : decode cX12_span 69 = .ok (.iload 4, 2) := by decide +kernel
theorem dX12_span_71 : decode cX12_span 71 = .ok (.iastore, 1) := by decide +kernel
theorem dX12_span_72 : decode cX12_span 72 = .ok (.iconst 1, 1) := by decide +kernel
theorem dX12_span_73 : decode cX12_span 73 = .ok (.ireturn, 1) := by decide +kernel
theorem dX12_isSure_0 : decode cX12_isSure 0 = .ok (.iconst 0, 1) := by decide +kernel
theorem dX12_isSure_1 : decode cX12_isSure 1 = .ok (.istore_n 3, 1) := by decide +kernel
theorem dX12_isSure_2 : decode cX12_isSure 2 = .ok (.iload_n 3, 1) := by decide +kernel
theorem dX12_isSure_3 : decode cX12_isSure 3 = .ok (.iconst 4, 1) := by decide +kernel
theorem dX12_isSure_4 : decode cX12_isSure 4 = .ok (.if_icmp .ge 164, 3) := by decide +kernel
theorem dX12_isSure_7 : decode cX12_isSure 7 = .ok (.iconst 0, 1) := by decide +kernel
theorem dX12_isSure_8 : decode cX12_isSure 8 = .ok (.istore 4, 2) := by decide +kernel
theorem dX12_isSure_10 : decode cX12_isSure 10 = .ok (.iconst 0, 1) := by decide +kernel
theorem dX12_isSure_11 : decode cX12_isSure 11 = .ok (.istore 5, 2) := by decide +kernel
theorem dX12_isSure_13 : decode cX12_isSure 13 = .ok (.iconst 0, 1) := by decide +kernel
theorem dX12_isSure_14 : decode cX12_isSure 14 = .ok (.istore 6, 2) := by decide +kernel
theorem dX12_isSure_16 : decode cX12_isSure 16 = .ok (.iload 6, 2) := by decide +kernel
theorem dX12_isSure_18 : decode cX12_isSure 18 = .ok (.aload_n 0, 1) := by decide +kernel
theorem dX12_isSure_19 : decode cX12_isSure 19 = .ok (.getfield 108, 3) := by decide +kernel
theorem dX12_isSure_22 : decode cX12_isSure 22 = .ok (.if_icmp .ge 100, 3) := by decide +kernel
theorem dX12_isSure_25 : decode cX12_isSure 25 = .ok (.aload_n 0, 1) := by decide +kernel
theorem dX12_isSure_26 : decode cX12_isSure 26 = .ok (.getfield 7, 3) := by decide +kernel
theorem dX12_isSure_29 : decode cX12_isSure 29 = .ok (.iconst 4, 1) := by decide +kernel
theorem dX12_isSure_30 : decode cX12_isSure 30 = .ok (.iload 6, 2) := by decide +kernel
theorem dX12_isSure_32 : decode cX12_isSure 32 = .ok (.imul, 1) := by decide +kernel
theorem dX12_isSure_33 : decode cX12_isSure 33 = .ok (.iload_n 3, 1) := by decide +kernel
theorem dX12_isSure_34 : decode cX12_isSure 34 = .ok (.iadd, 1) := by decide +kernel
theorem dX12_isSure_35 : decode cX12_isSure 35 = .ok (.iaload, 1) := by decide +kernel
theorem dX12_isSure_36 : decode cX12_isSure 36 = .ok (.istore 7, 2) := by decide +kernel
theorem dX12_isSure_38 : decode cX12_isSure 38 = .ok (.iload 4, 2) := by decide +kernel
theorem dX12_isSure_40 : decode cX12_isSure 40 = .ok (.aload_n 2, 1) := by decide +kernel
theorem dX12_isSure_41 : decode cX12_isSure 41 = .ok (.iload 6, 2) := by decide +kernel
theorem dX12_isSure_43 : decode cX12_isSure 43 = .ok (.iaload, 1) := by decide +kernel
theorem dX12_isSure_44 : decode cX12_isSure 44 = .ok (.iload 7, 2) := by decide +kernel
theorem dX12_isSure_46 : decode cX12_isSure 46 = .ok (.aload_n 0, 1) := by decide +kernel
theorem dX12_isSure_47 : decode cX12_isSure 47 = .ok (.getfield 16, 3) := by decide +kernel
theorem dX12_isSure_50 : decode cX12_isSure 50 = .ok (.iload 6, 2) := by decide +kernel
theorem dX12_isSure_52 : decode cX12_isSure 52 = .ok (.iaload, 1) := by decide +kernel
theorem dX12_isSure_53 : decode cX12_isSure 53 = .ok (.if_icmp .ge 7, 3) := by decide +kernel
theorem dX12_isSure_56 : decode cX12_isSure 56 = .ok (.iconst 0, 1) := by decide +kernel
theorem dX12_isSure_57 : decode cX12_isSure 57 = .ok (.goto 13, 3) := by decide +kernel
theorem dX12_isSure_60 : decode cX12_isSure 60 = .ok (.iload 7, 2) := by decide +kernel
theorem dX12_isSure_62 : decode cX12_isSure 62 = .ok (.aload_n 0, 1) := by decide +kernel
theorem dX12_isSure_63 : decode cX12_isSure 63 = .ok (.getfield 16, 3) := by decide +kernel
theorem dX12_isSure_66 : decode cX12_isSure 66 = .ok (.iload 6, 2) := by decide +kernel
theorem dX12_isSure_68 : decode cX12_isSure 68 = .ok (.iaload, 1) := by decide +kernel
theorem dX12_isSure_69 : decode cX12_isSure 69 = .ok (.isub, 1) := by decide +kernel
theorem dX12_isSure_70 : decode cX12_isSure 70 = .ok (.imul, 1) := by decide +kernel
theorem dX12_isSure_71 : decode cX12_isSure 71 = .ok (.iadd, 1) := by decide +kernel
theorem dX12_isSure_72 : decode cX12_isSure 72 = .ok (.istore 4, 2) := by decide +kernel
theorem dX12_isSure_74 : decode cX12_isSure 74 = .ok (.iload 5, 2) := by decide +kernel
theorem dX12_isSure_76 : decode cX12_isSure 76 = .ok (.aload_n 2, 1) := by decide +kernel
theorem dX12_isSure_77 : decode cX12_isSure 77 = .ok (.iload 6, 2) := by decide +kernel
theorem dX12_isSure_79 : decode cX12_isSure 79 = .ok (.iaload, 1) := by decide +kernel
theorem dX12_isSure_80 : decode cX12_isSure 80 = .ok (.iload 7, 2) := by decide +kernel
theorem dX12_isSure_82 : decode cX12_isSure 82 = .ok (.aload_n 0, 1) := by decide +kernel
theorem dX12_isSure_83 : decode cX12_isSure 83 = .ok (.getfield 16, 3) := by decide +kernel
theorem dX12_isSure_86 : decode cX12_isSure 86 = .ok (.iload 6, 2) := by decide +kernel
theorem dX12_isSure_88 : decode cX12_isSure 88 = .ok (.iaload, 1) := by decide +kernel
theorem dX12_isSure_89 : decode cX12_isSure 89 = .ok (.iadd, 1) := by decide +kernel
theorem dX12_isSure_90 : decode cX12_isSure 90 = .ok (.sipush 1000, 3) := by decide +kernel
theorem dX12_isSure_93 : decode cX12_isSure 93 = .ok (.if_icmp .le 9, 3) := by decide +kernel
theorem dX12_isSure_96 : decode cX12_isSure 96 = .ok (.sipush 1000, 3) := by decide +kernel
theorem dX12_isSure_99 : decode cX12_isSure 99 = .ok (.goto 13, 3) := by decide +kernel
theorem dX12_isSure_102 : decode cX12_isSure 102 = .ok (.iload 7, 2) := by decide +kernel
theorem dX12_isSure_104 : decode cX12_isSure 104 = .ok (.aload_n 0, 1) := by decide +kernel
theorem dX12_isSure_105 : decode cX12_isSure 105 = .ok (.getfield 16, 3) := by decide +kernel
theorem dX12_isSure_108 : decode cX12_isSure 108 = .ok (.iload 6, 2) := by decide +kernel
theorem dX12_isSure_110 : decode cX12_isSure 110 = .ok (.iaload, 1) := by decide +kernel
theorem dX12_isSure_111 : decode cX12_isSure 111 = .ok (.iadd, 1) := by decide +kernel
theorem dX12_isSure_112 : decode cX12_isSure 112 = .ok (.imul, 1) := by decide +kernel
theorem dX12_isSure_113 : decode cX12_isSure 113 = .ok (.iadd, 1) := by decide +kernel
theorem dX12_isSure_114 : decode cX12_isSure 114 = .ok (.istore 5, 2) := by decide +kernel
theorem dX12_isSure_116 : decode cX12_isSure 116 = .ok (.iinc 6 1, 3) := by decide +kernel
theorem dX12_isSure_119 : decode cX12_isSure 119 = .ok (.goto (-103), 3) := by decide +kernel
theorem dX12_isSure_122 : decode cX12_isSure 122 = .ok (.iload 4, 2) := by decide +kernel
theorem dX12_isSure_124 : decode cX12_isSure 124 = .ok (.sipush 1000, 3) := by decide +kernel
theorem dX12_isSure_127 : decode cX12_isSure 127 = .ok (.aload_n 0, 1) := by decide +kernel
theorem dX12_isSure_128 : decode cX12_isSure 128 = .ok (.getfield 59, 3) := by decide +kernel
theorem dX12_isSure_131 : decode cX12_isSure 131 = .ok (.iconst 4, 1) := by decide +kernel
theorem dX12_isSure_132 : decode cX12_isSure 132 = .ok (.iload_n 1, 1) := by decide +kernel
theorem dX12_isSure_133 : decode cX12_isSure 133 = .ok (.imul, 1) := by decide +kernel
theorem dX12_isSure_134 : decode cX12_isSure 134 = .ok (.iload_n 3, 1) := by decide +kernel
theorem dX12_isSure_135 : decode cX12_isSure 135 = .ok (.iadd, 1) := by decide +kernel
theorem dX12_isSure_136 : decode cX12_isSure 136 = .ok (.iaload, 1) := by decide +kernel
theorem dX12_isSure_137 : decode cX12_isSure 137 = .ok (.imul, 1) := by decide +kernel
theorem dX12_isSure_138 : decode cX12_isSure 138 = .ok (.if_icmp .lt 22, 3) := by decide +kernel
theorem dX12_isSure_141 : decode cX12_isSure 141 = .ok (.iload 5, 2) := by decide +kernel
theorem dX12_isSure_143 : decode cX12_isSure 143 = .ok (.sipush 1000, 3) := by decide +kernel
theorem dX12_isSure_146 : decode cX12_isSure 146 = .ok (.aload_n 0, 1) := by decide +kernel
theorem dX12_isSure_147 : decode cX12_isSure 147 = .ok (.getfield 62, 3) := by decide +kernel
theorem dX12_isSure_150 : decode cX12_isSure 150 = .ok (.iconst 4, 1) := by decide +kernel
theorem dX12_isSure_151 : decode cX12_isSure 151 = .ok (.iload_n 1, 1) := by decide +kernel
theorem dX12_isSure_152 : decode cX12_isSure 152 = .ok (.imul, 1) := by decide +kernel
theorem dX12_isSure_153 : decode cX12_isSure 153 = .ok (.iload_n 3, 1) := by decide +kernel
theorem dX12_isSure_154 : decode cX12_isSure 154 = .ok (.iadd, 1) := by decide +kernel
theorem dX12_isSure_155 : decode cX12_isSure 155 = .ok (.iaload, 1) := by decide +kernel
theorem dX12_isSure_156 : decode cX12_isSure 156 = .ok (.imul, 1) := by decide +kernel
theorem dX12_isSure_157 : decode cX12_isSure 157 = .ok (.if_icmp .le 5, 3) := by decide +kernel
theorem dX12_isSure_160 : decode cX12_isSure 160 = .ok (.iconst 0, 1) := by decide +kernel
theorem dX12_isSure_161 : decode cX12_isSure 161 = .ok (.ireturn, 1) := by decide +kernel
theorem dX12_isSure_162 : decode cX12_isSure 162 = .ok (.iinc 3 1, 3) := by decide +kernel
theorem dX12_isSure_165 : decode cX12_isSure 165 = .ok (.goto (-163), 3) := by decide +kernel
theorem dX12_isSure_168 : decode cX12_isSure 168 = .ok (.iconst 1, 1) := by decide +kernel
theorem dX12_isSure_169 : decode cX12_isSure 169 = .ok (.ireturn, 1) := by decide +kernel
theorem dX12_sure_0 : decode cX12_sure 0 = .ok (.aload_n 0, 1) := by decide +kernel
theorem dX12_sure_1 : decode cX12_sure 1 = .ok (.iload_n 1, 1) := by decide +kernel
theorem dX12_sure_2 : decode cX12_sure 2 = .ok (.invokevirtual 152, 3) := by decide +kernel
theorem dX12_sure_5 : decode cX12_sure 5 = .ok (.ifCond .eq 30, 3) := by decide +kernel
theorem dX12_sure_8 : decode cX12_sure 8 = .ok (.aload_n 0, 1) := by decide +kernel
theorem dX12_sure_9 : decode cX12_sure 9 = .ok (.getfield 124, 3) := by decide +kernel
theorem dX12_sure_12 : decode cX12_sure 12 = .ok (.ifCond .eq 23, 3) := by decide +kernel
theorem dX12_sure_15 : decode cX12_sure 15 = .ok (.aload_n 0, 1) := by decide +kernel
theorem dX12_sure_16 : decode cX12_sure 16 = .ok (.iload_n 1, 1) := by decide +kernel
theorem dX12_sure_17 : decode cX12_sure 17 = .ok (.aload_n 0, 1) := by decide +kernel
theorem dX12_sure_18 : decode cX12_sure 18 = .ok (.getfield 28, 3) := by decide +kernel
theorem dX12_sure_21 : decode cX12_sure 21 = .ok (.invokevirtual 155, 3) := by decide +kernel
theorem dX12_sure_24 : decode cX12_sure 24 = .ok (.ifCond .eq 7, 3) := by decide +kernel
theorem dX12_sure_27 : decode cX12_sure 27 = .ok (.iconst 1, 1) := by decide +kernel
theorem dX12_sure_28 : decode cX12_sure 28 = .ok (.goto 9, 3) := by decide +kernel
theorem dX12_sure_31 : decode cX12_sure 31 = .ok (.iconst 0, 1) := by decide +kernel
theorem dX12_sure_32 : decode cX12_sure 32 = .ok (.goto 5, 3) := by decide +kernel
theorem dX12_sure_35 : decode cX12_sure 35 = .ok (.ldc 118, 2) := by decide +kernel
theorem dX12_sure_37 : decode cX12_sure 37 = .ok (.ireturn, 1) := by decide +kernel
theorem dX12_cheapest_0 : decode cX12_cheapest 0 = .ok (.aload_n 0, 1) := by decide +kernel
theorem dX12_cheapest_1 : decode cX12_cheapest 1 = .ok (.iload_n 1, 1) := by decide +kernel
theorem dX12_cheapest_2 : decode cX12_cheapest 2 = .ok (.invokevirtual 152, 3) := by decide +kernel
theorem dX12_cheapest_5 : decode cX12_cheapest 5 = .ok (.ifCond .eq 10, 3) := by decide +kernel
theorem dX12_cheapest_8 : decode cX12_cheapest 8 = .ok (.aload_n 0, 1) := by decide +kernel
theorem dX12_cheapest_9 : decode cX12_cheapest 9 = .ok (.getfield 108, 3) := by decide +kernel
theorem dX12_cheapest_12 : decode cX12_cheapest 12 = .ok (.ifCond .ne 6, 3) := by decide +kernel
theorem dX12_cheapest_15 : decode cX12_cheapest 15 = .ok (.ldc 118, 2) := by decide +kernel
theorem dX12_cheapest_17 : decode cX12_cheapest 17 = .ok (.ireturn, 1) := by decide +kernel
theorem dX12_cheapest_18 : decode cX12_cheapest 18 = .ok (.iconst (-1), 1) := by decide +kernel
theorem dX12_cheapest_19 : decode cX12_cheapest 19 = .ok (.istore_n 2, 1) := by decide +kernel
theorem dX12_cheapest_20 : decode cX12_cheapest 20 = .ok (.iconst 0, 1) := by decide +kernel
theorem dX12_cheapest_21 : decode cX12_cheapest 21 = .ok (.istore_n 3, 1) := by decide +kernel
theorem dX12_cheapest_22 : decode cX12_cheapest 22 = .ok (.iload_n 3, 1) := by decide +kernel
theorem dX12_cheapest_23 : decode cX12_cheapest 23 = .ok (.bipush 8, 2) := by decide +kernel
theorem dX12_cheapest_25 : decode cX12_cheapest 25 = .ok (.if_icmp .ge 26, 3) := by decide +kernel
theorem dX12_cheapest_28 : decode cX12_cheapest 28 = .ok (.aload_n 0, 1) := by decide +kernel
theorem dX12_cheapest_29 : decode cX12_cheapest 29 = .ok (.getfield 93, 3) := by decide +kernel
theorem dX12_cheapest_32 : decode cX12_cheapest 32 = .ok (.iload_n 3, 1) := by decide +kernel
theorem dX12_cheapest_33 : decode cX12_cheapest 33 = .ok (.iload_n 3, 1) := by decide +kernel
theorem dX12_cheapest_34 : decode cX12_cheapest 34 = .ok (.ifCond .ne 9, 3) := by decide +kernel
theorem dX12_cheapest_37 : decode cX12_cheapest 37 = .ok (.sipush 1000, 3) := by decide +kernel
theorem dX12_cheapest_40 : decode cX12_cheapest 40 = .ok (.goto 4, 3) := by decide +kernel
theorem dX12_cheapest_43 : decode cX12_cheapest 43 = .ok (.iconst 0, 1) := by decide +kernel
theorem dX12_cheapest_44 : decode cX12_cheapest 44 = .ok (.iastore, 1) := by decide +kernel
theorem dX12_cheapest_45 : decode cX12_cheapest 45 = .ok (.iinc 3 1, 3) := by decide +kernel
theorem dX12_cheapest_48 : decode cX12_cheapest 48 = .ok (.goto (-26), 3) := by decide +kernel
theorem dX12_cheapest_51 : decode cX12_cheapest 51 = .ok (.iconst 1, 1) := by decide +kernel
theorem dX12_cheapest_52 : decode cX12_cheapest 52 = .ok (.istore_n 3, 1) := by decide +kernel
theorem dX12_cheapest_53 : decode cX12_cheapest 53 = .ok (.iload_n 3, 1) := by decide +kernel
theorem dX12_cheapest_54 : decode cX12_cheapest 54 = .ok (.ifCond .eq 217, 3) := by decide +kernel
theorem dX12_cheapest_57 : decode cX12_cheapest 57 = .ok (.aload_n 0, 1) := by decide +kernel
theorem dX12_cheapest_58 : decode cX12_cheapest 58 = .ok (.iload_n 1, 1) := by decide +kernel
theorem dX12_cheapest_59 : decode cX12_cheapest 59 = .ok (.aload_n 0, 1) := by decide +kernel
theorem dX12_cheapest_60 : decode cX12_cheapest 60 = .ok (.getfield 93, 3) := by decide +kernel
theorem dX12_cheapest_63 : decode cX12_cheapest 63 = .ok (.invokevirtual 155, 3) := by decide +kernel
theorem dX12_cheapest_66 : decode cX12_cheapest 66 = .ok (.ifCond .eq 87, 3) := by decide +kernel
theorem dX12_cheapest_69 : decode cX12_cheapest 69 = .ok (.iconst 0, 1) := by decide +kernel
theorem dX12_cheapest_70 : decode cX12_cheapest 70 = .ok (.istore 4, 2) := by decide +kernel
theorem dX12_cheapest_72 : decode cX12_cheapest 72 = .ok (.iconst 0, 1) := by decide +kernel
theorem dX12_cheapest_73 : decode cX12_cheapest 73 = .ok (.istore 5, 2) := by decide +kernel
theorem dX12_cheapest_75 : decode cX12_cheapest 75 = .ok (.iload 5, 2) := by decide +kernel
theorem dX12_cheapest_77 : decode cX12_cheapest 77 = .ok (.aload_n 0, 1) := by decide +kernel
theorem dX12_cheapest_78 : decode cX12_cheapest 78 = .ok (.getfield 108, 3) := by decide +kernel
theorem dX12_cheapest_81 : decode cX12_cheapest 81 = .ok (.if_icmp .ge 29, 3) := by decide +kernel
theorem dX12_cheapest_84 : decode cX12_cheapest 84 = .ok (.iload 4, 2) := by decide +kernel
theorem dX12_cheapest_86 : decode cX12_cheapest 86 = .ok (.aload_n 0, 1) := by decide +kernel
theorem dX12_cheapest_87 : decode cX12_cheapest 87 = .ok (.getfield 93, 3) := by decide +kernel
theorem dX12_cheapest_90 : decode cX12_cheapest 90 = .ok (.iload 5, 2) := by decide +kernel
theorem dX12_cheapest_92 : decode cX12_cheapest 92 = .ok (.iaload, 1) := by decide +kernel
theorem dX12_cheapest_93 : decode cX12_cheapest 93 = .ok (.aload_n 0, 1) := by decide +kernel
theorem dX12_cheapest_94 : decode cX12_cheapest 94 = .ok (.getfield 19, 3) := by decide +kernel
theorem dX12_cheapest_97 : decode cX12_cheapest 97 = .ok (.iload 5, 2) := by decide +kernel
theorem dX12_cheapest_99 : decode cX12_cheapest 99 = .ok (.iaload, 1) := by decide +kernel
theorem dX12_cheapest_100 : decode cX12_cheapest 100 = .ok (.imul, 1) := by decide +kernel
theorem dX12_cheapest_101 : decode cX12_cheapest 101 = .ok (.iadd, 1) := by decide +kernel
theorem dX12_cheapest_102 : decode cX12_cheapest 102 = .ok (.istore 4, 2) := by decide +kernel
theorem dX12_cheapest_104 : decode cX12_cheapest 104 = .ok (.iinc 5 1, 3) := by decide +kernel
theorem dX12_cheapest_107 : decode cX12_cheapest 107 = .ok (.goto (-32), 3) := by decide +kernel
theorem dX12_cheapest_110 : decode cX12_cheapest 110 = .ok (.iload_n 2, 1) := by decide +kernel
theorem dX12_cheapest_111 : decode cX12_cheapest 111 = .ok (.ifCond .lt 9, 3) := by decide +kernel
theorem dX12_cheapest_114 : decode cX12_cheapest 114 = .ok (.iload 4, 2) := by decide +kernel
theorem dX12_cheapest_116 : decode cX12_cheapest 116 = .ok (.iload_n 2, 1) := by decide +kernel
theorem dX12_cheapest_117 : decode cX12_cheapest 117 = .ok (.if_icmp .ge 36, 3) := by decide +kernel
theorem dX12_cheapest_120 : decode cX12_cheapest 120 = .ok (.iload 4, 2) := by decide +kernel
theorem dX12_cheapest_122 : decode cX12_cheapest 122 = .ok (.istore_n 2, 1) := by decide +kernel
theorem dX12_cheapest_123 : decode cX12_cheapest 123 = .ok (.iconst 0, 1) := by decide +kernel
theorem dX12_cheapest_124 : decode cX12_cheapest 124 = .ok (.istore 5, 2) := by decide +kernel
theorem dX12_cheapest_126 : decode cX12_cheapest 126 = .ok (.iload 5, 2) := by decide +kernel
theorem dX12_cheapest_128 : decode cX12_cheapest 128 = .ok (.bipush 8, 2) := by decide +kernel
theorem dX12_cheapest_130 : decode cX12_cheapest 130 = .ok (.if_icmp .ge 23, 3) := by decide +kernel
theorem dX12_cheapest_133 : decode cX12_cheapest 133 = .ok (.aload_n 0, 1) := by decide +kernel
theorem dX12_cheapest_134 : decode cX12_cheapest 134 = .ok (.getfield 96, 3) := by decide +kernel
theorem dX12_cheapest_137 : decode cX12_cheapest 137 = .ok (.iload 5, 2) := by decide +kernel
theorem dX12_cheapest_139 : decode cX12_cheapest 139 = .ok (.aload_n 0, 1) := by decide +kernel
theorem dX12_cheapest_140 : decode cX12_cheapest 140 = .ok (.getfield 93, 3) := by decide +kernel
theorem dX12_cheapest_143 : decode cX12_cheapest 143 = .ok (.iload 5, 2) := by decide +kernel
theorem dX12_cheapest_145 : decode cX12_cheapest 145 = .ok (.iaload, 1) := by decide +kernel
theorem dX12_cheapest_146 : decode cX12_cheapest 146 = .ok (.iastore, 1) := by decide +kernel
theorem dX12_cheapest_147 : decode cX12_cheapest 147 = .ok (.iinc 5 1, 3) := by decide +kernel
theorem dX12_cheapest_150 : decode cX12_cheapest 150 = .ok (.goto (-24), 3) := by decide +kernel
theorem dX12_cheapest_153 : decode cX12_cheapest 153 = .ok (.aload_n 0, 1) := by decide +kernel
theorem dX12_cheapest_154 : decode cX12_cheapest 154 = .ok (.getfield 108, 3) := by decide +kernel
theorem dX12_cheapest_157 : decode cX12_cheapest 157 = .ok (.iconst 2, 1) := by decide +kernel
theorem dX12_cheapest_158 : decode cX12_cheapest 158 = .ok (.isub, 1) := by decide +kernel
theorem dX12_cheapest_159 : decode cX12_cheapest 159 = .ok (.istore 4, 2) := by decide +kernel
theorem dX12_cheapest_161 : decode cX12_cheapest 161 = .ok (.iload 4, 2) := by decide +kernel
theorem dX12_cheapest_163 : decode cX12_cheapest 163 = .ok (.ifCond .lt 19, 3) := by decide +kernel
theorem dX12_cheapest_166 : decode cX12_cheapest 166 = .ok (.aload_n 0, 1) := by decide +kernel
theorem dX12_cheapest_167 : decode cX12_cheapest 167 = .ok (.getfield 93, 3) := by decide +kernel
theorem dX12_cheapest_170 : decode cX12_cheapest 170 = .ok (.iload 4, 2) := by decide +kernel
theorem dX12_cheapest_172 : decode cX12_cheapest 172 = .ok (.iaload, 1) := by decide +kernel
theorem dX12_cheapest_173 : decode cX12_cheapest 173 = .ok (.ifCond .ne 9, 3) := by decide +kernel
theorem dX12_cheapest_176 : decode cX12_cheapest 176 = .ok (.iinc 4 (-1), 3) := by decide +kernel
theorem dX12_cheapest_179 : decode cX12_cheapest 179 = .ok (.goto (-18), 3) := by decide +kernel
theorem dX12_cheapest_182 : decode cX12_cheapest 182 = .ok (.iload 4, 2) := by decide +kernel
theorem dX12_cheapest_184 : decode cX12_cheapest 184 = .ok (.ifCond .lt 7, 3) := by decide +kernel
theorem dX12_cheapest_187 : decode cX12_cheapest 187 = .ok (.iconst 1, 1) := by decide +kernel
theorem dX12_cheapest_188 : decode cX12_cheapest 188 = .ok (.goto 4, 3) := by decide +kernel
theorem dX12_cheapest_191 : decode cX12_cheapest 191 = .ok (.iconst 0, 1) := by decide +kernel
theorem dX12_cheapest_192 : decode cX12_cheapest 192 = .ok (.istore_n 3, 1) := by decide +kernel
theorem dX12_cheapest_193 : decode cX12_cheapest 193 = .ok (.iload_n 3, 1) := by decide +kernel
theorem dX12_cheapest_194 : decode cX12_cheapest 194 = .ok (.ifCond .ne 6, 3) := by decide +kernel
theorem dX12_cheapest_197 : decode cX12_cheapest 197 = .ok (.goto (-144), 3) := by decide +kernel
theorem dX12_cheapest_200 : decode cX12_cheapest 200 = .ok (.bipush 100, 2) := by decide +kernel
theorem dX12_cheapest_202 : decode cX12_cheapest 202 = .ok (.istore 5, 2) := by decide +kernel
theorem dX12_cheapest_204 : decode cX12_cheapest 204 = .ok (.iload 4, 2) := by decide +kernel
theorem dX12_cheapest_206 : decode cX12_cheapest 206 = .ok (.iconst 1, 1) := by decide +kernel
theorem dX12_cheapest_207 : decode cX12_cheapest 207 = .ok (.iadd, 1) := by decide +kernel
theorem dX12_cheapest_208 : decode cX12_cheapest 208 = .ok (.istore 6, 2) := by decide +kernel
theorem dX12_cheapest_210 : decode cX12_cheapest 210 = .ok (.iload 6, 2) := by decide +kernel
theorem dX12_cheapest_212 : decode cX12_cheapest 212 = .ok (.aload_n 0, 1) := by decide +kernel
theorem dX12_cheapest_213 : decode cX12_cheapest 213 = .ok (.getfield 108, 3) := by decide +kernel
theorem dX12_cheapest_216 : decode cX12_cheapest 216 = .ok (.if_icmp .ge 29, 3) := by decide +kernel
theorem dX12_cheapest_219 : decode cX12_cheapest 219 = .ok (.iload 5, 2) := by decide +kernel
theorem dX12_cheapest_221 : decode cX12_cheapest 221 = .ok (.aload_n 0, 1) := by decide +kernel
theorem dX12_cheapest_222 : decode cX12_cheapest 222 = .ok (.getfield 93, 3) := by decide +kernel
theorem dX12_cheapest_225 : decode cX12_cheapest 225 = .ok (.iload 6, 2) := by decide +kernel
theorem dX12_cheapest_227 : decode cX12_cheapest 227 = .ok (.iaload, 1) := by decide +kernel
theorem dX12_cheapest_228 : decode cX12_cheapest 228 = .ok (.iadd, 1) := by decide +kernel
theorem dX12_cheapest_229 : decode cX12_cheapest 229 = .ok (.istore 5, 2) := by decide +kernel
theorem dX12_cheapest_231 : decode cX12_cheapest 231 = .ok (.aload_n 0, 1) := by decide +kernel
theorem dX12_cheapest_232 : decode cX12_cheapest 232 = .ok (.getfield 93, 3) := by decide +kernel
theorem dX12_cheapest_235 : decode cX12_cheapest 235 = .ok (.iload 6, 2) := by decide +kernel
theorem dX12_cheapest_237 : decode cX12_cheapest 237 = .ok (.iconst 0, 1) := by decide +kernel
theorem dX12_cheapest_238 : decode cX12_cheapest 238 = .ok (.iastore, 1) := by decide +kernel
theorem dX12_cheapest_239 : decode cX12_cheapest 239 = .ok (.iinc 6 1, 3) := by decide +kernel
theorem dX12_cheapest_242 : decode cX12_cheapest 242 = .ok (.goto (-32), 3) := by decide +kernel
theorem dX12_cheapest_245 : decode cX12_cheapest 245 = .ok (.aload_n 0, 1) := by decide +kernel
theorem dX12_cheapest_246 : decode cX12_cheapest 246 = .ok (.getfield 93, 3) := by decide +kernel
theorem dX12_cheapest_249 : decode cX12_cheapest 249 = .ok (.iload 4, 2) := by decide +kernel
theorem dX12_cheapest_251 : decode cX12_cheapest 251 = .ok (.dup2, 1) := by decide +kernel
theorem dX12_cheapest_252 : decode cX12_cheapest 252 = .ok (.iaload, 1) := by decide +kernel
theorem dX12_cheapest_253 : decode cX12_cheapest 253 = .ok (.bipush 100, 2) := by decide +kernel
theorem dX12_cheapest_255 : decode cX12_cheapest 255 = .ok (.isub, 1) := by decide +kernel
theorem dX12_cheapest_256 : decode cX12_cheapest 256 = .ok (.iastore, 1) := by decide +kernel
theorem dX12_cheapest_257 : decode cX12_cheapest 257 = .ok (.aload_n 0, 1) := by decide +kernel
theorem dX12_cheapest_258 : decode cX12_cheapest 258 = .ok (.getfield 93, 3) := by decide +kernel
theorem dX12_cheapest_261 : decode cX12_cheapest 261 = .ok (.iload 4, 2) := by decide +kernel
theorem dX12_cheapest_263 : decode cX12_cheapest 263 = .ok (.iconst 1, 1) := by decide +kernel
theorem dX12_cheapest_264 : decode cX12_cheapest 264 = .ok (.iadd, 1) := by decide +kernel
theorem dX12_cheapest_265 : decode cX12_cheapest 265 = .ok (.iload 5, 2) := by decide +kernel
theorem dX12_cheapest_267 : decode cX12_cheapest 267 = .ok (.iastore, 1) := by decide +kernel
theorem dX12_cheapest_268 : decode cX12_cheapest 268 = .ok (.goto (-215), 3) := by decide +kernel
theorem dX12_cheapest_271 : decode cX12_cheapest 271 = .ok (.iload_n 2, 1) := by decide +kernel
theorem dX12_cheapest_272 : decode cX12_cheapest 272 = .ok (.ifCond .ge 6, 3) := by decide +kernel
theorem dX12_cheapest_275 : decode cX12_cheapest 275 = .ok (.ldc 118, 2) := by decide +kernel
theorem dX12_cheapest_277 : decode cX12_cheapest 277 = .ok (.ireturn, 1) := by decide +kernel
theorem dX12_cheapest_278 : decode cX12_cheapest 278 = .ok (.iconst 0, 1) := by decide +kernel
theorem dX12_cheapest_279 : decode cX12_cheapest 279 = .ok (.istore 4, 2) := by decide +kernel
theorem dX12_cheapest_281 : decode cX12_cheapest 281 = .ok (.iload 4, 2) := by decide +kernel
theorem dX12_cheapest_283 : decode cX12_cheapest 283 = .ok (.bipush 8, 2) := by decide +kernel
theorem dX12_cheapest_285 : decode cX12_cheapest 285 = .ok (.if_icmp .ge 37, 3) := by decide +kernel
theorem dX12_cheapest_288 : decode cX12_cheapest 288 = .ok (.aload_n 0, 1) := by decide +kernel
theorem dX12_cheapest_289 : decode cX12_cheapest 289 = .ok (.getfield 28, 3) := by decide +kernel
theorem dX12_cheapest_292 : decode cX12_cheapest 292 = .ok (.iload 4, 2) := by decide +kernel
theorem dX12_cheapest_294 : decode cX12_cheapest 294 = .ok (.aload_n 0, 1) := by decide +kernel
theorem dX12_cheapest_295 : decode cX12_cheapest 295 = .ok (.getfield 96, 3) := by decide +kernel
theorem dX12_cheapest_298 : decode cX12_cheapest 298 = .ok (.iload 4, 2) := by decide +kernel
theorem dX12_cheapest_300 : decode cX12_cheapest 300 = .ok (.iaload, 1) := by decide +kernel
theorem dX12_cheapest_301 : decode cX12_cheapest 301 = .ok (.iastore, 1) := by decide +kernel
theorem dX12_cheapest_302 : decode cX12_cheapest 302 = .ok (.aload_n 0, 1) := by decide +kernel
theorem dX12_cheapest_303 : decode cX12_cheapest 303 = .ok (.getfield 25, 3) := by decide +kernel
theorem dX12_cheapest_306 : decode cX12_cheapest 306 = .ok (.iload 4, 2) := by decide +kernel
theorem dX12_cheapest_308 : decode cX12_cheapest 308 = .ok (.aload_n 0, 1) := by decide +kernel
theorem dX12_cheapest_309 : decode cX12_cheapest 309 = .ok (.getfield 96, 3) := by decide +kernel
theorem dX12_cheapest_312 : decode cX12_cheapest 312 = .ok (.iload 4, 2) := by decide +kernel
theorem dX12_cheapest_314 : decode cX12_cheapest 314 = .ok (.iaload, 1) := by decide +kernel
theorem dX12_cheapest_315 : decode cX12_cheapest 315 = .ok (.iastore, 1) := by decide +kernel
theorem dX12_cheapest_316 : decode cX12_cheapest 316 = .ok (.iinc 4 1, 3) := by decide +kernel
theorem dX12_cheapest_319 : decode cX12_cheapest 319 = .ok (.goto (-38), 3) := by decide +kernel
theorem dX12_cheapest_322 : decode cX12_cheapest 322 = .ok (.aload_n 0, 1) := by decide +kernel
theorem dX12_cheapest_323 : decode cX12_cheapest 323 = .ok (.iconst 1, 1) := by decide +kernel
theorem dX12_cheapest_324 : decode cX12_cheapest 324 = .ok (.putfield 124, 3) := by decide +kernel
theorem dX12_cheapest_327 : decode cX12_cheapest 327 = .ok (.iload_n 2, 1) := by decide +kernel
theorem dX12_cheapest_328 : decode cX12_cheapest 328 = .ok (.ireturn, 1) := by decide +kernel
theorem dX12_want_0 : decode cX12_want 0 = .ok (.iload_n 1, 1) := by decide +kernel
theorem dX12_want_1 : decode cX12_want 1 = .ok (.iconst (-1), 1) := by decide +kernel
theorem dX12_want_2 : decode cX12_want 2 = .ok (.if_icmp .eq 14, 3) := by decide +kernel
theorem dX12_want_5 : decode cX12_want 5 = .ok (.aload_n 0, 1) := by decide +kernel
theorem dX12_want_6 : decode cX12_want 6 = .ok (.iload_n 1, 1) := by decide +kernel
theorem dX12_want_7 : decode cX12_want 7 = .ok (.invokevirtual 152, 3) := by decide +kernel
theorem dX12_want_10 : decode cX12_want 10 = .ok (.ifCond .ne 6, 3) := by decide +kernel
theorem dX12_want_13 : decode cX12_want 13 = .ok (.ldc 118, 2) := by decide +kernel
theorem dX12_want_15 : decode cX12_want 15 = .ok (.ireturn, 1) := by decide +kernel
theorem dX12_want_16 : decode cX12_want 16 = .ok (.aload_n 0, 1) := by decide +kernel
theorem dX12_want_17 : decode cX12_want 17 = .ok (.getfield 41, 3) := by decide +kernel
theorem dX12_want_20 : decode cX12_want 20 = .ok (.istore_n 2, 1) := by decide +kernel
theorem dX12_want_21 : decode cX12_want 21 = .ok (.aload_n 0, 1) := by decide +kernel
theorem dX12_want_22 : decode cX12_want 22 = .ok (.iload_n 1, 1) := by decide +kernel
theorem dX12_want_23 : decode cX12_want 23 = .ok (.putfield 41, 3) := by decide +kernel
theorem dX12_want_26 : decode cX12_want 26 = .ok (.iload_n 2, 1) := by decide +kernel
theorem dX12_want_27 : decode cX12_want 27 = .ok (.ireturn, 1) := by decide +kernel
theorem dX12_comes_0 : decode cX12_comes 0 = .ok (.iconst 0, 1) := by decide +kernel
theorem dX12_comes_1 : decode cX12_comes 1 = .ok (.istore_n 3, 1) := by decide +kernel
theorem dX12_comes_2 : decode cX12_comes 2 = .ok (.iload_n 3, 1) := by decide +kernel
theorem dX12_comes_3 : decode cX12_comes 3 = .ok (.bipush 8, 2) := by decide +kernel
theorem dX12_comes_5 : decode cX12_comes 5 = .ok (.if_icmp .ge 59, 3) := by decide +kernel
theorem dX12_comes_8 : decode cX12_comes 8 = .ok (.aload_n 0, 1) := by decide +kernel
theorem dX12_comes_9 : decode cX12_comes 9 = .ok (.getfield 83, 3) := by decide +kernel
theorem dX12_comes_12 : decode cX12_comes 12 = .ok (.iload_n 3, 1) := by decide +kernel
theorem dX12_comes_13 : decode cX12_comes 13 = .ok (.iload_n 1, 1) := by decide +kernel
theorem dX12_comes_14 : decode cX12_comes 14 = .ok (.ifCond .ge 13, 3) := by decide +kernel
theorem dX12_comes_17 : decode cX12_comes 17 = .ok (.aload_n 0, 1) := by decide +kernel
theorem dX12_comes_18 : decode cX12_comes 18 = .ok (.getfield 28, 3) := by decide +kernel
theorem dX12_comes_21 : decode cX12_comes 21 = .ok (.iload_n 3, 1) := by decide +kernel
theorem dX12_comes_22 : decode cX12_comes 22 = .ok (.iaload, 1) := by decide +kernel
theorem dX12_comes_23 : decode cX12_comes 23 = .ok (.i2l, 1) := by decide +kernel
theorem dX12_comes_24 : decode cX12_comes 24 = .ok (.goto 33, 3) := by decide +kernel
theorem dX12_comes_27 : decode cX12_comes 27 = .ok (.aload_n 0, 1) := by decide +kernel
theorem dX12_comes_28 : decode cX12_comes 28 = .ok (.getfield 28, 3) := by decide +kernel
theorem dX12_comes_31 : decode cX12_comes 31 = .ok (.iload_n 3, 1) := by decide +kernel
theorem dX12_comes_32 : decode cX12_comes 32 = .ok (.iaload, 1) := by decide +kernel
theorem dX12_comes_33 : decode cX12_comes 33 = .ok (.i2l, 1) := by decide +kernel
theorem dX12_comes_34 : decode cX12_comes 34 = .ok (.sipush 1000, 3) := by decide +kernel
theorem dX12_comes_37 : decode cX12_comes 37 = .ok (.iload_n 2, 1) := by decide +kernel
theorem dX12_comes_38 : decode cX12_comes 38 = .ok (.isub, 1) := by decide +kernel
theorem dX12_comes_39 : decode cX12_comes 39 = .ok (.i2l, 1) := by decide +kernel
theorem dX12_comes_40 : decode cX12_comes 40 = .ok (.lmul, 1) := by decide +kernel
theorem dX12_comes_41 : decode cX12_comes 41 = .ok (.iload_n 3, 1) := by decide +kernel
theorem dX12_comes_42 : decode cX12_comes 42 = .ok (.iload_n 1, 1) := by decide +kernel
theorem dX12_comes_43 : decode cX12_comes 43 = .ok (.if_icmp .ne 12, 3) := by decide +kernel
theorem dX12_comes_46 : decode cX12_comes 46 = .ok (.ldc2_w 159, 3) := by decide +kernel
theorem dX12_comes_49 : decode cX12_comes 49 = .ok (.iload_n 2, 1) := by decide +kernel
theorem dX12_comes_50 : decode cX12_comes 50 = .ok (.i2l, 1) := by decide +kernel
theorem dX12_comes_51 : decode cX12_comes 51 = .ok (.lmul, 1) := by decide +kernel
theorem dX12_comes_52 : decode cX12_comes 52 = .ok (.goto 4, 3) := by decide +kernel
theorem dX12_comes_55 : decode cX12_comes 55 = .ok (.lconst 0, 1) := by decide +kernel
theorem dX12_comes_56 : decode cX12_comes 56 = .ok (.ladd, 1) := by decide +kernel
theorem dX12_comes_57 : decode cX12_comes 57 = .ok (.lastore, 1) := by decide +kernel
theorem dX12_comes_58 : decode cX12_comes 58 = .ok (.iinc 3 1, 3) := by decide +kernel
theorem dX12_comes_61 : decode cX12_comes 61 = .ok (.goto (-59), 3) := by decide +kernel
theorem dX12_comes_64 : decode cX12_comes 64 = .ok (.aload_n 0, 1) := by decide +kernel
theorem dX12_comes_65 : decode cX12_comes 65 = .ok (.aload_n 0, 1) := by decide +kernel
theorem dX12_comes_66 : decode cX12_comes 66 = .ok (.getfield 38, 3) := by decide +kernel
theorem dX12_comes_69 : decode cX12_comes 69 = .ok (.bipush 8, 2) := by decide +kernel
theorem dX12_comes_71 : decode cX12_comes 71 = .ok (.invokevirtual 130, 3) := by decide +kernel
theorem dX12_comes_74 : decode cX12_comes 74 = .ok (.iconst 0, 1) := by decide +kernel
theorem dX12_comes_75 : decode cX12_comes 75 = .ok (.istore_n 3, 1) := by decide +kernel
theorem dX12_comes_76 : decode cX12_comes 76 = .ok (.iload_n 3, 1) := by decide +kernel
theorem dX12_comes_77 : decode cX12_comes 77 = .ok (.bipush 8, 2) := by decide +kernel
theorem dX12_comes_79 : decode cX12_comes 79 = .ok (.if_icmp .ge 21, 3) := by decide +kernel
theorem dX12_comes_82 : decode cX12_comes 82 = .ok (.aload_n 0, 1) := by decide +kernel
theorem dX12_comes_83 : decode cX12_comes 83 = .ok (.getfield 99, 3) := by decide +kernel
theorem dX12_comes_86 : decode cX12_comes 86 = .ok (.iload_n 3, 1) := by decide +kernel
theorem dX12_comes_87 : decode cX12_comes 87 = .ok (.aload_n 0, 1) := by decide +kernel
theorem dX12_comes_88 : decode cX12_comes 88 = .ok (.getfield 90, 3) := by decide +kernel
theorem dX12_comes_91 : decode cX12_comes 91 = .ok (.iload_n 3, 1) := by decide +kernel
theorem dX12_comes_92 : decode cX12_comes 92 = .ok (.iaload, 1) := by decide +kernel
theorem dX12_comes_93 : decode cX12_comes 93 = .ok (.iastore, 1) := by decide +kernel
theorem dX12_comes_94 : decode cX12_comes 94 = .ok (.iinc 3 1, 3) := by decide +kernel
theorem dX12_comes_97 : decode cX12_comes 97 = .ok (.goto (-21), 3) := by decide +kernel
theorem dX12_comes_100 : decode cX12_comes 100 = .ok (.iconst 0, 1) := by decide +kernel
theorem dX12_comes_101 : decode cX12_comes 101 = .ok (.istore_n 3, 1) := by decide +kernel
theorem dX12_comes_102 : decode cX12_comes 102 = .ok (.iload_n 3, 1) := by decide +kernel
theorem dX12_comes_103 : decode cX12_comes 103 = .ok (.bipush 8, 2) := by decide +kernel
theorem dX12_comes_105 : decode cX12_comes 105 = .ok (.if_icmp .ge 36, 3) := by decide +kernel
theorem dX12_comes_108 : decode cX12_comes 108 = .ok (.iconst 0, 1) := by decide +kernel
theorem dX12_comes_109 : decode cX12_comes 109 = .ok (.istore 4, 2) := by decide +kernel
theorem dX12_comes_111 : decode cX12_comes 111 = .ok (.iload 4, 2) := by decide +kernel
theorem dX12_comes_113 : decode cX12_comes 113 = .ok (.iconst 4, 1) := by decide +kernel
theorem dX12_comes_114 : decode cX12_comes 114 = .ok (.if_icmp .ge 21, 3) := by decide +kernel
theorem dX12_comes_117 : decode cX12_comes 117 = .ok (.aload_n 0, 1) := by decide +kernel
theorem dX12_comes_118 : decode cX12_comes 118 = .ok (.getfield 53, 3) := by decide +kernel
theorem dX12_comes_121 : decode cX12_comes 121 = .ok (.iconst 4, 1) := by decide +kernel
theorem dX12_comes_122 : decode cX12_comes 122 = .ok (.iload_n 3, 1) := by decide +kernel
theorem dX12_comes_123 : decode cX12_comes 123 = .ok (.imul, 1) := by decide +kernel
theorem dX12_comes_124 : decode cX12_comes 124 = .ok (.iload 4, 2) := by decide +kernel
theorem dX12_comes_126 : decode cX12_comes 126 = .ok (.iadd, 1) := by decide +kernel
theorem dX12_comes_127 : decode cX12_comes 127 = .ok (.iconst 0, 1) := by decide +kernel
theorem dX12_comes_128 : decode cX12_comes 128 = .ok (.iastore, 1) := by decide +kernel
theorem dX12_comes_129 : decode cX12_comes 129 = .ok (.iinc 4 1, 3) := by decide +kernel
theorem dX12_comes_132 : decode cX12_comes 132 = .ok (.goto (-21), 3) := by decide +kernel
theorem dX12_comes_135 : decode cX12_comes 135 = .ok (.iinc 3 1, 3) := by decide +kernel
theorem dX12_comes_138 : decode cX12_comes 138 = .ok (.goto (-36), 3) := by decide +kernel
theorem dX12_comes_141 : decode cX12_comes 141 = .ok (.iconst 0, 1) := by decide +kernel
theorem dX12_comes_142 : decode cX12_comes 142 = .ok (.istore_n 3, 1) := by decide +kernel
theorem dX12_comes_143 : decode cX12_comes 143 = .ok (.iload_n 3, 1) := by decide +kernel
theorem dX12_comes_144 : decode cX12_comes 144 = .ok (.aload_n 0, 1) := by decide +kernel
theorem dX12_comes_145 : decode cX12_comes 145 = .ok (.getfield 108, 3) := by decide +kernel
theorem dX12_comes_148 : decode cX12_comes 148 = .ok (.if_icmp .ge 27, 3) := by decide +kernel
theorem dX12_comes_151 : decode cX12_comes 151 = .ok (.aload_n 0, 1) := by decide +kernel
theorem dX12_comes_152 : decode cX12_comes 152 = .ok (.aload_n 0, 1) := by decide +kernel
theorem dX12_comes_153 : decode cX12_comes 153 = .ok (.getfield 99, 3) := by decide +kernel
theorem dX12_comes_156 : decode cX12_comes 156 = .ok (.iload_n 3, 1) := by decide +kernel
theorem dX12_comes_157 : decode cX12_comes 157 = .ok (.iaload, 1) := by decide +kernel
theorem dX12_comes_158 : decode cX12_comes 158 = .ok (.iload_n 3, 1) := by decide +kernel
theorem dX12_comes_159 : decode cX12_comes 159 = .ok (.aload_n 0, 1) := by decide +kernel
theorem dX12_comes_160 : decode cX12_comes 160 = .ok (.getfield 53, 3) := by decide +kernel
theorem dX12_comes_163 : decode cX12_comes 163 = .ok (.iconst 4, 1) := by decide +kernel
theorem dX12_comes_164 : decode cX12_comes 164 = .ok (.iload_n 3, 1) := by decide +kernel
theorem dX12_comes_165 : decode cX12_comes 165 = .ok (.imul, 1) := by decide +kernel
theorem dX12_comes_166 : decode cX12_comes 166 = .ok (.invokevirtual 148, 3) := by decide +kernel
theorem dX12_comes_169 : decode cX12_comes 169 = .ok (.iinc 3 1, 3) := by decide +kernel
theorem dX12_comes_172 : decode cX12_comes 172 = .ok (.goto (-29), 3) := by decide +kernel
theorem dX12_comes_175 : decode cX12_comes 175 = .ok (.return_, 1) := by decide +kernel
theorem dX12_goes_0 : decode cX12_goes 0 = .ok (.iconst 0, 1) := by decide +kernel
theorem dX12_goes_1 : decode cX12_goes 1 = .ok (.istore_n 2, 1) := by decide +kernel
theorem dX12_goes_2 : decode cX12_goes 2 = .ok (.iload_n 2, 1) := by decide +kernel
theorem dX12_goes_3 : decode cX12_goes 3 = .ok (.aload_n 0, 1) := by decide +kernel
theorem dX12_goes_4 : decode cX12_goes 4 = .ok (.getfield 31, 3) := by decide +kernel
theorem dX12_goes_7 : decode cX12_goes 7 = .ok (.if_icmp .ge 79, 3) := by decide +kernel
theorem dX12_goes_10 : decode cX12_goes 10 = .ok (.iconst 0, 1) := by decide +kernel
theorem dX12_goes_11 : decode cX12_goes 11 = .ok (.istore_n 3, 1) := by decide +kernel
theorem dX12_goes_12 : decode cX12_goes 12 = .ok (.iload_n 3, 1) := by decide +kernel
theorem dX12_goes_13 : decode cX12_goes 13 = .ok (.bipush 32, 2) := by decide +kernel
theorem dX12_goes_15 : decode cX12_goes 15 = .ok (.if_icmp .ge 24, 3) := by decide +kernel
theorem dX12_goes_18 : decode cX12_goes 18 = .ok (.aload_n 0, 1) := by decide +kernel
theorem dX12_goes_19 : decode cX12_goes 19 = .ok (.getfield 83, 3) := by decide +kernel
theorem dX12_goes_22 : decode cX12_goes 22 = .ok (.iload_n 3, 1) := by decide +kernel
theorem dX12_goes_23 : decode cX12_goes 23 = .ok (.aload_n 1, 1) := by decide +kernel
theorem dX12_goes_24 : decode cX12_goes 24 = .ok (.bipush 32, 2) := by decide +kernel
theorem dX12_goes_26 : decode cX12_goes 26 = .ok (.iload_n 2, 1) := by decide +kernel
theorem dX12_goes_27 : decode cX12_goes 27 = .ok (.imul, 1) := by decide +kernel
theorem dX12_goes_28 : decode cX12_goes 28 = .ok (.iload_n 3, 1) := by decide +kernel
theorem dX12_goes_29 : decode cX12_goes 29 = .ok (.iadd, 1) := by decide +kernel
theorem dX12_goes_30 : decode cX12_goes 30 = .ok (.iaload, 1) := by decide +kernel
theorem dX12_goes_31 : decode cX12_goes 31 = .ok (.i2l, 1) := by decide +kernel
theorem dX12_goes_32 : decode cX12_goes 32 = .ok (.lastore, 1) := by decide +kernel
theorem dX12_goes_33 : decode cX12_goes 33 = .ok (.iinc 3 1, 3) := by decide +kernel
theorem dX12_goes_36 : decode cX12_goes 36 = .ok (.goto (-24), 3) := by decide +kernel
theorem dX12_goes_39 : decode cX12_goes 39 = .ok (.aload_n 0, 1) := by decide +kernel
theorem dX12_goes_40 : decode cX12_goes 40 = .ok (.aload_n 0, 1) := by decide +kernel
theorem dX12_goes_41 : decode cX12_goes 41 = .ok (.getfield 38, 3) := by decide +kernel
theorem dX12_goes_44 : decode cX12_goes 44 = .ok (.bipush 32, 2) := by decide +kernel
theorem dX12_goes_46 : decode cX12_goes 46 = .ok (.invokevirtual 130, 3) := by decide +kernel
theorem dX12_goes_49 : decode cX12_goes 49 = .ok (.iconst 0, 1) := by decide +kernel
theorem dX12_goes_50 : decode cX12_goes 50 = .ok (.istore_n 3, 1) := by decide +kernel
theorem dX12_goes_51 : decode cX12_goes 51 = .ok (.iload_n 3, 1) := by decide +kernel
theorem dX12_goes_52 : decode cX12_goes 52 = .ok (.bipush 32, 2) := by decide +kernel
theorem dX12_goes_54 : decode cX12_goes 54 = .ok (.if_icmp .ge 26, 3) := by decide +kernel
theorem dX12_goes_57 : decode cX12_goes 57 = .ok (.aload_n 0, 1) := by decide +kernel
theorem dX12_goes_58 : decode cX12_goes 58 = .ok (.getfield 50, 3) := by decide +kernel
theorem dX12_goes_61 : decode cX12_goes 61 = .ok (.bipush 32, 2) := by decide +kernel
theorem dX12_goes_63 : decode cX12_goes 63 = .ok (.iload_n 2, 1) := by decide +kernel
theorem dX12_goes_64 : decode cX12_goes 64 = .ok (.imul, 1) := by decide +kernel
theorem dX12_goes_65 : decode cX12_goes 65 = .ok (.iload_n 3, 1) := by decide +kernel
theorem dX12_goes_66 : decode cX12_goes 66 = .ok (.iadd, 1) := by decide +kernel
theorem dX12_goes_67 : decode cX12_goes 67 = .ok (.aload_n 0, 1) := by decide +kernel
theorem dX12_goes_68 : decode cX12_goes 68 = .ok (.getfield 90, 3) := by decide +kernel
theorem dX12_goes_71 : decode cX12_goes 71 = .ok (.iload_n 3, 1) := by decide +kernel
theorem dX12_goes_72 : decode cX12_goes 72 = .ok (.iaload, 1) := by decide +kernel
theorem dX12_goes_73 : decode cX12_goes 73 = .ok (.iastore, 1) := by decide +kernel
theorem dX12_goes_74 : decode cX12_goes 74 = .ok (.iinc 3 1, 3) := by decide +kernel
theorem dX12_goes_77 : decode cX12_goes 77 = .ok (.goto (-26), 3) := by decide +kernel
theorem dX12_goes_80 : decode cX12_goes 80 = .ok (.iinc 2 1, 3) := by decide +kernel
theorem dX12_goes_83 : decode cX12_goes 83 = .ok (.goto (-81), 3) := by decide +kernel
theorem dX12_goes_86 : decode cX12_goes 86 = .ok (.iconst 0, 1) := by decide +kernel
theorem dX12_goes_87 : decode cX12_goes 87 = .ok (.istore_n 2, 1) := by decide +kernel
theorem dX12_goes_88 : decode cX12_goes 88 = .ok (.iload_n 2, 1) := by decide +kernel
theorem dX12_goes_89 : decode cX12_goes 89 = .ok (.aload_n 0, 1) := by decide +kernel
theorem dX12_goes_90 : decode cX12_goes 90 = .ok (.getfield 31, 3) := by decide +kernel
theorem dX12_goes_93 : decode cX12_goes 93 = .ok (.if_icmp .ge 72, 3) := by decide +kernel
theorem dX12_goes_96 : decode cX12_goes 96 = .ok (.iconst 0, 1) := by decide +kernel
theorem dX12_goes_97 : decode cX12_goes 97 = .ok (.istore_n 3, 1) := by decide +kernel
theorem dX12_goes_98 : decode cX12_goes 98 = .ok (.iload_n 3, 1) := by decide +kernel
theorem dX12_goes_99 : decode cX12_goes 99 = .ok (.bipush 32, 2) := by decide +kernel
theorem dX12_goes_101 : decode cX12_goes 101 = .ok (.if_icmp .ge 58, 3) := by decide +kernel
theorem dX12_goes_104 : decode cX12_goes 104 = .ok (.aload_n 1, 1) := by decide +kernel
theorem dX12_goes_105 : decode cX12_goes 105 = .ok (.bipush 32, 2) := by decide +kernel
theorem dX12_goes_107 : decode cX12_goes 107 = .ok (.iload_n 2, 1) := by decide +kernel
theorem dX12_goes_108 : decode cX12_goes 108 = .ok (.imul, 1) := by decide +kernel
theorem dX12_goes_109 : decode cX12_goes 109 = .ok (.iload_n 3, 1) := by decide +kernel
theorem dX12_goes_110 : decode cX12_goes 110 = .ok (.iadd, 1) := by decide +kernel
theorem dX12_goes_111 : decode cX12_goes 111 = .ok (.dup2, 1) := by decide +kernel
theorem dX12_goes_112 : decode cX12_goes 112 = .ok (.iaload, 1) := by decide +kernel
theorem dX12_goes_113 : decode cX12_goes 113 = .ok (.iload_n 2, 1) := by decide +kernel
theorem dX12_goes_114 : decode cX12_goes 114 = .ok (.ifCond .ne 12, 3) := by decide +kernel
theorem dX12_goes_117 : decode cX12_goes 117 = .ok (.aload_n 0, 1) := by decide +kernel
theorem dX12_goes_118 : decode cX12_goes 118 = .ok (.getfield 53, 3) := by decide +kernel
theorem dX12_goes_121 : decode cX12_goes 121 = .ok (.iload_n 3, 1) := by decide +kernel
theorem dX12_goes_122 : decode cX12_goes 122 = .ok (.iaload, 1) := by decide +kernel
theorem dX12_goes_123 : decode cX12_goes 123 = .ok (.goto 16, 3) := by decide +kernel
theorem dX12_goes_126 : decode cX12_goes 126 = .ok (.aload_n 0, 1) := by decide +kernel
theorem dX12_goes_127 : decode cX12_goes 127 = .ok (.getfield 50, 3) := by decide +kernel
theorem dX12_goes_130 : decode cX12_goes 130 = .ok (.bipush 32, 2) := by decide +kernel
theorem dX12_goes_132 : decode cX12_goes 132 = .ok (.iload_n 2, 1) := by decide +kernel
theorem dX12_goes_133 : decode cX12_goes 133 = .ok (.iconst 1, 1) := by decide +kernel
theorem dX12_goes_134 : decode cX12_goes 134 = .ok (.isub, 1) := by decide +kernel
theorem dX12_goes_135 : decode cX12_goes 135 = .ok (.imul, 1) := by decide +kernel
theorem dX12_goes_136 : decode cX12_goes 136 = .ok (.iload_n 3, 1) := by decide +kernel
theorem dX12_goes_137 : decode cX12_goes 137 = .ok (.iadd, 1) := by decide +kernel
theorem dX12_goes_138 : decode cX12_goes 138 = .ok (.iaload, 1) := by decide +kernel
theorem dX12_goes_139 : decode cX12_goes 139 = .ok (.aload_n 0, 1) := by decide +kernel
theorem dX12_goes_140 : decode cX12_goes 140 = .ok (.getfield 50, 3) := by decide +kernel
theorem dX12_goes_143 : decode cX12_goes 143 = .ok (.bipush 32, 2) := by decide +kernel
theorem dX12_goes_145 : decode cX12_goes 145 = .ok (.iload_n 2, 1) := by decide +kernel
theorem dX12_goes_146 : decode cX12_goes 146 = .ok (.imul, 1) := by decide +kernel
theorem dX12_goes_147 : decode cX12_goes 147 = .ok (.iload_n 3, 1) := by decide +kernel
theorem dX12_goes_148 : decode cX12_goes 148 = .ok (.iadd, 1) := by decide +kernel
theorem dX12_goes_149 : decode cX12_goes 149 = .ok (.iaload, 1) := by decide +kernel
theorem dX12_goes_150 : decode cX12_goes 150 = .ok (.isub, 1) := by decide +kernel
theorem dX12_goes_151 : decode cX12_goes 151 = .ok (.iadd, 1) := by decide +kernel
theorem dX12_goes_152 : decode cX12_goes 152 = .ok (.iastore, 1) := by decide +kernel
theorem dX12_goes_153 : decode cX12_goes 153 = .ok (.iinc 3 1, 3) := by decide +kernel
theorem dX12_goes_156 : decode cX12_goes 156 = .ok (.goto (-58), 3) := by decide +kernel
theorem dX12_goes_159 : decode cX12_goes 159 = .ok (.iinc 2 1, 3) := by decide +kernel
theorem dX12_goes_162 : decode cX12_goes 162 = .ok (.goto (-74), 3) := by decide +kernel
theorem dX12_goes_165 : decode cX12_goes 165 = .ok (.iconst 0, 1) := by decide +kernel
theorem dX12_goes_166 : decode cX12_goes 166 = .ok (.istore_n 2, 1) := by decide +kernel
theorem dX12_goes_167 : decode cX12_goes 167 = .ok (.iload_n 2, 1) := by decide +kernel
theorem dX12_goes_168 : decode cX12_goes 168 = .ok (.bipush 32, 2) := by decide +kernel
theorem dX12_goes_170 : decode cX12_goes 170 = .ok (.if_icmp .ge 31, 3) := by decide +kernel
theorem dX12_goes_173 : decode cX12_goes 173 = .ok (.aload_n 0, 1) := by decide +kernel
theorem dX12_goes_174 : decode cX12_goes 174 = .ok (.getfield 56, 3) := by decide +kernel
theorem dX12_goes_177 : decode cX12_goes 177 = .ok (.iload_n 2, 1) := by decide +kernel
theorem dX12_goes_178 : decode cX12_goes 178 = .ok (.aload_n 0, 1) := by decide +kernel
theorem dX12_goes_179 : decode cX12_goes 179 = .ok (.getfield 50, 3) := by decide +kernel
theorem dX12_goes_182 : decode cX12_goes 182 = .ok (.bipush 32, 2) := by decide +kernel
theorem dX12_goes_184 : decode cX12_goes 184 = .ok (.aload_n 0, 1) := by decide +kernel
theorem dX12_goes_185 : decode cX12_goes 185 = .ok (.getfield 31, 3) := by decide +kernel
theorem dX12_goes_188 : decode cX12_goes 188 = .ok (.iconst 1, 1) := by decide +kernel
theorem dX12_goes_189 : decode cX12_goes 189 = .ok (.isub, 1) := by decide +kernel
theorem dX12_goes_190 : decode cX12_goes 190 = .ok (.imul, 1) := by decide +kernel
theorem dX12_goes_191 : decode cX12_goes 191 = .ok (.iload_n 2, 1) := by decide +kernel
theorem dX12_goes_192 : decode cX12_goes 192 = .ok (.iadd, 1) := by decide +kernel
theorem dX12_goes_193 : decode cX12_goes 193 = .ok (.iaload, 1) := by decide +kernel
theorem dX12_goes_194 : decode cX12_goes 194 = .ok (.iastore, 1) := by decide +kernel
theorem dX12_goes_195 : decode cX12_goes 195 = .ok (.iinc 2 1, 3) := by decide +kernel
theorem dX12_goes_198 : decode cX12_goes 198 = .ok (.goto (-31), 3) := by decide +kernel
theorem dX12_goes_201 : decode cX12_goes 201 = .ok (.return_, 1) := by decide +kernel
theorem dX12_glassOf_0 : decode cX12_glassOf 0 = .ok (.iconst 0, 1) := by decide +kernel
theorem dX12_glassOf_1 : decode cX12_glassOf 1 = .ok (.istore_n 2, 1) := by decide +kernel
theorem dX12_glassOf_2 : decode cX12_glassOf 2 = .ok (.iconst 0, 1) := by decide +kernel
theorem dX12_glassOf_3 : decode cX12_glassOf 3 = .ok (.istore_n 3, 1) := by decide +kernel
theorem dX12_glassOf_4 : decode cX12_glassOf 4 = .ok (.iload_n 3, 1) := by decide +kernel
theorem dX12_glassOf_5 : decode cX12_glassOf 5 = .ok (.bipush 8, 2) := by decide +kernel
theorem dX12_glassOf_7 : decode cX12_glassOf 7 = .ok (.if_icmp .ge 22, 3) := by decide +kernel
theorem dX12_glassOf_10 : decode cX12_glassOf 10 = .ok (.iload_n 2, 1) := by decide +kernel
theorem dX12_glassOf_11 : decode cX12_glassOf 11 = .ok (.aload_n 0, 1) := by decide +kernel
theorem dX12_glassOf_12 : decode cX12_glassOf 12 = .ok (.getfield 56, 3) := by decide +kernel
theorem dX12_glassOf_15 : decode cX12_glassOf 15 = .ok (.iconst 4, 1) := by decide +kernel
theorem dX12_glassOf_16 : decode cX12_glassOf 16 = .ok (.iload_n 3, 1) := by decide +kernel
theorem dX12_glassOf_17 : decode cX12_glassOf 17 = .ok (.imul, 1) := by decide +kernel
theorem dX12_glassOf_18 : decode cX12_glassOf 18 = .ok (.iload_n 1, 1) := by decide +kernel
theorem dX12_glassOf_19 : decode cX12_glassOf 19 = .ok (.iadd, 1) := by decide +kernel
theorem dX12_glassOf_20 : decode cX12_glassOf 20 = .ok (.iaload, 1) := by decide +kernel
theorem dX12_glassOf_21 : decode cX12_glassOf 21 = .ok (.iadd, 1) := by decide +kernel
theorem dX12_glassOf_22 : decode cX12_glassOf 22 = .ok (.istore_n 2, 1) := by decide +kernel
theorem dX12_glassOf_23 : decode cX12_glassOf 23 = .ok (.iinc 3 1, 3) := by decide +kernel
theorem dX12_glassOf_26 : decode cX12_glassOf 26 = .ok (.goto (-22), 3) := by decide +kernel
theorem dX12_glassOf_29 : decode cX12_glassOf 29 = .ok (.iload_n 2, 1) := by decide +kernel
theorem dX12_glassOf_30 : decode cX12_glassOf 30 = .ok (.ireturn, 1) := by decide +kernel
theorem dX12_isOf_0 : decode cX12_isOf 0 = .ok (.iconst 0, 1) := by decide +kernel
theorem dX12_isOf_1 : decode cX12_isOf 1 = .ok (.istore_n 2, 1) := by decide +kernel
theorem dX12_isOf_2 : decode cX12_isOf 2 = .ok (.iload_n 2, 1) := by decide +kernel
theorem dX12_isOf_3 : decode cX12_isOf 3 = .ok (.iconst 4, 1) := by decide +kernel
theorem dX12_isOf_4 : decode cX12_isOf 4 = .ok (.if_icmp .ge 66, 3) := by decide +kernel
theorem dX12_isOf_7 : decode cX12_isOf 7 = .ok (.ldc2_w 159, 3) := by decide +kernel
theorem dX12_isOf_10 : decode cX12_isOf 10 = .ok (.aload_n 0, 1) := by decide +kernel
theorem dX12_isOf_11 : decode cX12_isOf 11 = .ok (.iload_n 2, 1) := by decide +kernel
theorem dX12_isOf_12 : decode cX12_isOf 12 = .ok (.invokevirtual 161, 3) := by decide +kernel
theorem dX12_isOf_15 : decode cX12_isOf 15 = .ok (.i2l, 1) := by decide +kernel
theorem dX12_isOf_16 : decode cX12_isOf 16 = .ok (.lmul, 1) := by decide +kernel
theorem dX12_isOf_17 : decode cX12_isOf 17 = .ok (.lstore_n 3, 1) := by decide +kernel
theorem dX12_isOf_18 : decode cX12_isOf 18 = .ok (.lload_n 3, 1) := by decide +kernel
theorem dX12_isOf_19 : decode cX12_isOf 19 = .ok (.aload_n 0, 1) := by decide +kernel
theorem dX12_isOf_20 : decode cX12_isOf 20 = .ok (.getfield 59, 3) := by decide +kernel
theorem dX12_isOf_23 : decode cX12_isOf 23 = .ok (.iconst 4, 1) := by decide +kernel
theorem dX12_isOf_24 : decode cX12_isOf 24 = .ok (.iload_n 1, 1) := by decide +kernel
theorem dX12_isOf_25 : decode cX12_isOf 25 = .ok (.imul, 1) := by decide +kernel
theorem dX12_isOf_26 : decode cX12_isOf 26 = .ok (.iload_n 2, 1) := by decide +kernel
theorem dX12_isOf_27 : decode cX12_isOf 27 = .ok (.iadd, 1) := by decide +kernel
theorem dX12_isOf_28 : decode cX12_isOf 28 = .ok (.iaload, 1) := by decide +kernel
theorem dX12_isOf_29 : decode cX12_isOf 29 = .ok (.i2l, 1) := by decide +kernel
theorem dX12_isOf_30 : decode cX12_isOf 30 = .ok (.aload_n 0, 1) := by decide +kernel
theorem dX12_isOf_31 : decode cX12_isOf 31 = .ok (.getfield 38, 3) := by decide +kernel
theorem dX12_isOf_34 : decode cX12_isOf 34 = .ok (.i2l, 1) := by decide +kernel
theorem dX12_isOf_35 : decode cX12_isOf 35 = .ok (.lmul, 1) := by decide +kernel
theorem dX12_isOf_36 : decode cX12_isOf 36 = .ok (.lcmp, 1) := by decide +kernel
theorem dX12_isOf_37 : decode cX12_isOf 37 = .ok (.ifCond .lt 25, 3) := by decide +kernel
theorem dX12_isOf_40 : decode cX12_isOf 40 = .ok (.lload_n 3, 1) := by decide +kernel
theorem dX12_isOf_41 : decode cX12_isOf 41 = .ok (.aload_n 0, 1) := by decide +kernel
theorem dX12_isOf_42 : decode cX12_isOf 42 = .ok (.getfield 62, 3) := by decide +kernel
theorem dX12_isOf_45 : decode cX12_isOf 45 = .ok (.iconst 4, 1) := by decide +kernel
theorem dX12_isOf_46 : decode cX12_isOf 46 = .ok (.iload_n 1, 1) := by decide +kernel
theorem dX12_isOf_47 : decode cX12_isOf 47 = .ok (.imul, 1) := by decide +kernel
theorem dX12_isOf_48 : decode cX12_isOf 48 = .ok (.iload_n 2, 1) := by decide +kernel
theorem dX12_isOf_49 : decode cX12_isOf 49 = .ok (.iadd, 1) := by decide +kernel
theorem dX12_isOf_50 : decode cX12_isOf 50 = .ok (.iaload, 1) := by decide +kernel
theorem dX12_isOf_51 : decode cX12_isOf 51 = .ok (.i2l, 1) := by decide +kernel
theorem dX12_isOf_52 : decode cX12_isOf 52 = .ok (.aload_n 0, 1) := by decide +kernel
theorem dX12_isOf_53 : decode cX12_isOf 53 = .ok (.getfield 38, 3) := by decide +kernel
theorem dX12_isOf_56 : decode cX12_isOf 56 = .ok (.i2l, 1) := by decide +kernel
theorem dX12_isOf_57 : decode cX12_isOf 57 = .ok (.lmul, 1) := by decide +kernel
theorem dX12_isOf_58 : decode cX12_isOf 58 = .ok (.lcmp, 1) := by decide +kernel
theorem dX12_isOf_59 : decode cX12_isOf 59 = .ok (.ifCond .le 5, 3) := by decide +kernel
theorem dX12_isOf_62 : decode cX12_isOf 62 = .ok (.iconst 0, 1) := by decide +kernel
theorem dX12_isOf_63 : decode cX12_isOf 63 = .ok (.ireturn, 1) := by decide +kernel
theorem dX12_isOf_64 : decode cX12_isOf 64 = .ok (.iinc 2 1, 3) := by decide +kernel
theorem dX12_isOf_67 : decode cX12_isOf 67 = .ok (.goto (-65), 3) := by decide +kernel
theorem dX12_isOf_70 : decode cX12_isOf 70 = .ok (.iconst 1, 1) := by decide +kernel
theorem dX12_isOf_71 : decode cX12_isOf 71 = .ok (.ireturn, 1) := by decide +kernel
theorem dX12_nameOf_0 : decode cX12_nameOf 0 = .ok (.iconst 0, 1) := by decide +kernel
theorem dX12_nameOf_1 : decode cX12_nameOf 1 = .ok (.istore_n 1, 1) := by decide +kernel
theorem dX12_nameOf_2 : decode cX12_nameOf 2 = .ok (.iload_n 1, 1) := by decide +kernel
theorem dX12_nameOf_3 : decode cX12_nameOf 3 = .ok (.aload_n 0, 1) := by decide +kernel
theorem dX12_nameOf_4 : decode cX12_nameOf 4 = .ok (.getfield 115, 3) := by decide +kernel
theorem dX12_nameOf_7 : decode cX12_nameOf 7 = .ok (.if_icmp .ge 19, 3) := by decide +kernel
theorem dX12_nameOf_10 : decode cX12_nameOf 10 = .ok (.aload_n 0, 1) := by decide +kernel
theorem dX12_nameOf_11 : decode cX12_nameOf 11 = .ok (.iload_n 1, 1) := by decide +kernel
theorem dX12_nameOf_12 : decode cX12_nameOf 12 = .ok (.invokevirtual 165, 3) := by decide +kernel
theorem dX12_nameOf_15 : decode cX12_nameOf 15 = .ok (.ifCond .eq 5, 3) := by decide +kernel
theorem dX12_nameOf_18 : decode cX12_nameOf 18 = .ok (.iload_n 1, 1) := by decide +kernel
theorem dX12_nameOf_19 : decode cX12_nameOf 19 = .ok (.ireturn, 1) := by decide +kernel
theorem dX12_nameOf_20 : decode cX12_nameOf 20 = .ok (.iinc 1 1, 3) := by decide +kernel
theorem dX12_nameOf_23 : decode cX12_nameOf 23 = .ok (.goto (-21), 3) := by decide +kernel
theorem dX12_nameOf_26 : decode cX12_nameOf 26 = .ok (.iconst (-1), 1) := by decide +kernel
theorem dX12_nameOf_27 : decode cX12_nameOf 27 = .ok (.ireturn, 1) := by decide +kernel
theorem dX12_goesBy_0 : decode cX12_goesBy 0 = .ok (.aload_n 0, 1) := by decide +kernel
theorem dX12_goesBy_1 : decode cX12_goesBy 1 = .ok (.iconst (-1), 1) := by decide +kernel
theorem dX12_goesBy_2 : decode cX12_goesBy 2 = .ok (.iconst 0, 1) := by decide +kernel
theorem dX12_goesBy_3 : decode cX12_goesBy 3 = .ok (.invokevirtual 168, 3) := by decide +kernel
theorem dX12_goesBy_6 : decode cX12_goesBy 6 = .ok (.iconst 0, 1) := by decide +kernel
theorem dX12_goesBy_7 : decode cX12_goesBy 7 = .ok (.istore_n 1, 1) := by decide +kernel
theorem dX12_goesBy_8 : decode cX12_goesBy 8 = .ok (.iload_n 1, 1) := by decide +kernel
theorem dX12_goesBy_9 : decode cX12_goesBy 9 = .ok (.aload_n 0, 1) := by decide +kernel
theorem dX12_goesBy_10 : decode cX12_goesBy 10 = .ok (.getfield 108, 3) := by decide +kernel
theorem dX12_goesBy_13 : decode cX12_goesBy 13 = .ok (.if_icmp .ge 26, 3) := by decide +kernel
theorem dX12_goesBy_16 : decode cX12_goesBy 16 = .ok (.aload_n 0, 1) := by decide +kernel
theorem dX12_goesBy_17 : decode cX12_goesBy 17 = .ok (.getfield 99, 3) := by decide +kernel
theorem dX12_goesBy_20 : decode cX12_goesBy 20 = .ok (.iload_n 1, 1) := by decide +kernel
theorem dX12_goesBy_21 : decode cX12_goesBy 21 = .ok (.iaload, 1) := by decide +kernel
theorem dX12_goesBy_22 : decode cX12_goesBy 22 = .ok (.aload_n 0, 1) := by decide +kernel
theorem dX12_goesBy_23 : decode cX12_goesBy 23 = .ok (.getfield 22, 3) := by decide +kernel
theorem dX12_goesBy_26 : decode cX12_goesBy 26 = .ok (.iload_n 1, 1) := by decide +kernel
theorem dX12_goesBy_27 : decode cX12_goesBy 27 = .ok (.iaload, 1) := by decide +kernel
theorem dX12_goesBy_28 : decode cX12_goesBy 28 = .ok (.if_icmp .le 5, 3) := by decide +kernel
theorem dX12_goesBy_31 : decode cX12_goesBy 31 = .ok (.iconst 0, 1) := by decide +kernel
theorem dX12_goesBy_32 : decode cX12_goesBy 32 = .ok (.ireturn, 1) := by decide +kernel
theorem dX12_goesBy_33 : decode cX12_goesBy 33 = .ok (.iinc 1 1, 3) := by decide +kernel
theorem dX12_goesBy_36 : decode cX12_goesBy 36 = .ok (.goto (-28), 3) := by decide +kernel
theorem dX12_goesBy_39 : decode cX12_goesBy 39 = .ok (.aload_n 0, 1) := by decide +kernel
theorem dX12_goesBy_40 : decode cX12_goesBy 40 = .ok (.aload_n 0, 1) := by decide +kernel
theorem dX12_goesBy_41 : decode cX12_goesBy 41 = .ok (.getfield 44, 3) := by decide +kernel
theorem dX12_goesBy_44 : decode cX12_goesBy 44 = .ok (.invokevirtual 171, 3) := by decide +kernel
theorem dX12_goesBy_47 : decode cX12_goesBy 47 = .ok (.iconst 0, 1) := by decide +kernel
theorem dX12_goesBy_48 : decode cX12_goesBy 48 = .ok (.istore_n 1, 1) := by decide +kernel
theorem dX12_goesBy_49 : decode cX12_goesBy 49 = .ok (.iload_n 1, 1) := by decide +kernel
theorem dX12_goesBy_50 : decode cX12_goesBy 50 = .ok (.aload_n 0, 1) := by decide +kernel
theorem dX12_goesBy_51 : decode cX12_goesBy 51 = .ok (.getfield 108, 3) := by decide +kernel
theorem dX12_goesBy_54 : decode cX12_goesBy 54 = .ok (.if_icmp .ge 24, 3) := by decide +kernel
theorem dX12_goesBy_57 : decode cX12_goesBy 57 = .ok (.aload_n 0, 1) := by decide +kernel
theorem dX12_goesBy_58 : decode cX12_goesBy 58 = .ok (.getfield 22, 3) := by decide +kernel
theorem dX12_goesBy_61 : decode cX12_goesBy 61 = .ok (.iload_n 1, 1) := by decide +kernel
theorem dX12_goesBy_62 : decode cX12_goesBy 62 = .ok (.dup2, 1) := by decide +kernel
theorem dX12_goesBy_63 : decode cX12_goesBy 63 = .ok (.iaload, 1) := by decide +kernel
theorem dX12_goesBy_64 : decode cX12_goesBy 64 = .ok (.aload_n 0, 1) := by decide +kernel
theorem dX12_goesBy_65 : decode cX12_goesBy 65 = .ok (.getfield 99, 3) := by decide +kernel
theorem dX12_goesBy_68 : decode cX12_goesBy 68 = .ok (.iload_n 1, 1) := by decide +kernel
theorem dX12_goesBy_69 : decode cX12_goesBy 69 = .ok (.iaload, 1) := by decide +kernel
theorem dX12_goesBy_70 : decode cX12_goesBy 70 = .ok (.isub, 1) := by decide +kernel
theorem dX12_goesBy_71 : decode cX12_goesBy 71 = .ok (.iastore, 1) := by decide +kernel
theorem dX12_goesBy_72 : decode cX12_goesBy 72 = .ok (.iinc 1 1, 3) := by decide +kernel
theorem dX12_goesBy_75 : decode cX12_goesBy 75 = .ok (.goto (-26), 3) := by decide +kernel
theorem dX12_goesBy_78 : decode cX12_goesBy 78 = .ok (.aload_n 0, 1) := by decide +kernel
theorem dX12_goesBy_79 : decode cX12_goesBy 79 = .ok (.dup, 1) := by decide +kernel
theorem dX12_goesBy_80 : decode cX12_goesBy 80 = .ok (.getfield 145, 3) := by decide +kernel
theorem dX12_goesBy_83 : decode cX12_goesBy 83 = .ok (.aload_n 0, 1) := by decide +kernel
theorem dX12_goesBy_84 : decode cX12_goesBy 84 = .ok (.getfield 38, 3) := by decide +kernel
theorem dX12_goesBy_87 : decode cX12_goesBy 87 = .ok (.i2l, 1) := by decide +kernel
theorem dX12_goesBy_88 : decode cX12_goesBy 88 = .ok (.ladd, 1) := by decide +kernel
theorem dX12_goesBy_89 : decode cX12_goesBy 89 = .ok (.putfield 145, 3) := by decide +kernel
theorem dX12_goesBy_92 : decode cX12_goesBy 92 = .ok (.aload_n 0, 1) := by decide +kernel
theorem dX12_goesBy_93 : decode cX12_goesBy 93 = .ok (.invokevirtual 175, 3) := by decide +kernel
theorem dX12_goesBy_96 : decode cX12_goesBy 96 = .ok (.istore_n 1, 1) := by decide +kernel
theorem dX12_goesBy_97 : decode cX12_goesBy 97 = .ok (.iconst 0, 1) := by decide +kernel
theorem dX12_goesBy_98 : decode cX12_goesBy 98 = .ok (.istore_n 2, 1) := by decide +kernel
theorem dX12_goesBy_99 : decode cX12_goesBy 99 = .ok (.iload_n 2, 1) := by decide +kernel
theorem dX12_goesBy_100 : decode cX12_goesBy 100 = .ok (.iconst 4, 1) := by decide +kernel
theorem dX12_goesBy_101 : decode cX12_goesBy 101 = .ok (.if_icmp .ge 27, 3) := by decide +kernel
theorem dX12_goesBy_104 : decode cX12_goesBy 104 = .ok (.aload_n 0, 1) := by decide +kernel
theorem dX12_goesBy_105 : decode cX12_goesBy 105 = .ok (.getfield 68, 3) := by decide +kernel
theorem dX12_goesBy_108 : decode cX12_goesBy 108 = .ok (.iconst 4, 1) := by decide +kernel
theorem dX12_goesBy_109 : decode cX12_goesBy 109 = .ok (.aload_n 0, 1) := by decide +kernel
theorem dX12_goesBy_110 : decode cX12_goesBy 110 = .ok (.getfield 138, 3) := by decide +kernel
theorem dX12_goesBy_113 : decode cX12_goesBy 113 = .ok (.imul, 1) := by decide +kernel
theorem dX12_goesBy_114 : decode cX12_goesBy 114 = .ok (.iload_n 2, 1) := by decide +kernel
theorem dX12_goesBy_115 : decode cX12_goesBy 115 = .ok (.iadd, 1) := by decide +kernel
theorem dX12_goesBy_116 : decode cX12_goesBy 116 = .ok (.aload_n 0, 1) := by decide +kernel
theorem dX12_goesBy_117 : decode cX12_goesBy 117 = .ok (.iload_n 2, 1) := by decide +kernel
theorem dX12_goesBy_118 : decode cX12_goesBy 118 = .ok (.invokevirtual 161, 3) := by decide +kernel
theorem dX12_goesBy_121 : decode cX12_goesBy 121 = .ok (.iastore, 1) := by decide +kernel
theorem dX12_goesBy_122 : decode cX12_goesBy 122 = .ok (.iinc 2 1, 3) := by decide +kernel
theorem dX12_goesBy_125 : decode cX12_goesBy 125 = .ok (.goto (-26), 3) := by decide +kernel
theorem dX12_goesBy_128 : decode cX12_goesBy 128 = .ok (.iconst 0, 1) := by decide +kernel
theorem dX12_goesBy_129 : decode cX12_goesBy 129 = .ok (.istore_n 2, 1) := by decide +kernel
theorem dX12_goesBy_130 : decode cX12_goesBy 130 = .ok (.iload_n 2, 1) := by decide +kernel
theorem dX12_goesBy_131 : decode cX12_goesBy 131 = .ok (.bipush 8, 2) := by decide +kernel
theorem dX12_goesBy_133 : decode cX12_goesBy 133 = .ok (.if_icmp .ge 64, 3) := by decide +kernel
theorem dX12_goesBy_136 : decode cX12_goesBy 136 = .ok (.aload_n 0, 1) := by decide +kernel
theorem dX12_goesBy_137 : decode cX12_goesBy 137 = .ok (.getfield 71, 3) := by decide +kernel
theorem dX12_goesBy_140 : decode cX12_goesBy 140 = .ok (.bipush 8, 2) := by decide +kernel
theorem dX12_goesBy_142 : decode cX12_goesBy 142 = .ok (.aload_n 0, 1) := by decide +kernel
theorem dX12_goesBy_143 : decode cX12_goesBy 143 = .ok (.getfield 138, 3) := by decide +kernel
theorem dX12_goesBy_146 : decode cX12_goesBy 146 = .ok (.imul, 1) := by decide +kernel
theorem dX12_goesBy_147 : decode cX12_goesBy 147 = .ok (.iload_n 2, 1) := by decide +kernel
theorem dX12_goesBy_148 : decode cX12_goesBy 148 = .ok (.iadd, 1) := by decide +kernel
theorem dX12_goesBy_149 : decode cX12_goesBy 149 = .ok (.aload_n 0, 1) := by decide +kernel
theorem dX12_goesBy_150 : decode cX12_goesBy 150 = .ok (.getfield 56, 3) := by decide +kernel
theorem dX12_goesBy_153 : decode cX12_goesBy 153 = .ok (.iconst 4, 1) := by decide +kernel
theorem dX12_goesBy_154 : decode cX12_goesBy 154 = .ok (.iload_n 2, 1) := by decide +kernel
theorem dX12_goesBy_155 : decode cX12_goesBy 155 = .ok (.imul, 1) := by decide +kernel
theorem dX12_goesBy_156 : decode cX12_goesBy 156 = .ok (.iaload, 1) := by decide +kernel
theorem dX12_goesBy_157 : decode cX12_goesBy 157 = .ok (.aload_n 0, 1) := by decide +kernel
theorem dX12_goesBy_158 : decode cX12_goesBy 158 = .ok (.getfield 56, 3) := by decide +kernel
theorem dX12_goesBy_161 : decode cX12_goesBy 161 = .ok (.iconst 4, 1) := by decide +kernel
theorem dX12_goesBy_162 : decode cX12_goesBy 162 = .ok (.iload_n 2, 1) := by decide +kernel
theorem dX12_goesBy_163 : decode cX12_goesBy 163 = .ok (.imul, 1) := by decide +kernel
theorem dX12_goesBy_164 : decode cX12_goesBy 164 = .ok (.iconst 1, 1) := by decide +kernel
theorem dX12_goesBy_165 : decode cX12_goesBy 165 = .ok (.iadd, 1) := by decide +kernel
theorem dX12_goesBy_166 : decode cX12_goesBy 166 = .ok (.iaload, 1) := by decide +kernel
theorem dX12_goesBy_167 : decode cX12_goesBy 167 = .ok (.iadd, 1) := by decide +kernel
theorem dX12_goesBy_168 : decode cX12_goesBy 168 = .ok (.aload_n 0, 1) := by decide +kernel
theorem dX12_goesBy_169 : decode cX12_goesBy 169 = .ok (.getfield 56, 3) := by decide +kernel
theorem dX12_goesBy_172 : decode cX12_goesBy 172 = .ok (.iconst 4, 1) := by decide +kernel
theorem dX12_goesBy_173 : decode cX12_goesBy 173 = .ok (.iload_n 2, 1) := by decide +kernel
theorem dX12_goesBy_174 : decode cX12_goesBy 174 = .ok (.imul, 1) := by decide +kernel
theorem dX12_goesBy_175 : decode cX12_goesBy 175 = .ok (.iconst 2, 1) := by decide +kernel
theorem dX12_goesBy_176 : decode cX12_goesBy 176 = .ok (.iadd, 1) := by decide +kernel
theorem dX12_goesBy_177 : decode cX12_goesBy 177 = .ok (.iaload, 1) := by decide +kernel
theorem dX12_goesBy_178 : decode cX12_goesBy 178 = .ok (.iadd, 1) := by decide +kernel
theorem dX12_goesBy_179 : decode cX12_goesBy 179 = .ok (.aload_n 0, 1) := by decide +kernel
theorem dX12_goesBy_180 : decode cX12_goesBy 180 = .ok (.getfield 56, 3) := by decide +kernel
theorem dX12_goesBy_183 : decode cX12_goesBy 183 = .ok (.iconst 4, 1) := by decide +kernel
theorem dX12_goesBy_184 : decode cX12_goesBy 184 = .ok (.iload_n 2, 1) := by decide +kernel
theorem dX12_goesBy_185 : decode cX12_goesBy 185 = .ok (.imul, 1) := by decide +kernel
theorem dX12_goesBy_186 : decode cX12_goesBy 186 = .ok (.iconst 3, 1) := by decide +kernel
theorem dX12_goesBy_187 : decode cX12_goesBy 187 = .ok (.iadd, 1) := by decide +kernel
theorem dX12_goesBy_188 : decode cX12_goesBy 188 = .ok (.iaload, 1) := by decide +kernel
theorem dX12_goesBy_189 : decode cX12_goesBy 189 = .ok (.iadd, 1) := by decide +kernel
theorem dX12_goesBy_190 : decode cX12_goesBy 190 = .ok (.iastore, 1) := by decide +kernel
theorem dX12_goesBy_191 : decode cX12_goesBy 191 = .ok (.iinc 2 1, 3) := by decide +kernel
theorem dX12_goesBy_194 : decode cX12_goesBy 194 = .ok (.goto (-64), 3) := by decide +kernel
theorem dX12_goesBy_197 : decode cX12_goesBy 197 = .ok (.aload_n 0, 1) := by decide +kernel
theorem dX12_goesBy_198 : decode cX12_goesBy 198 = .ok (.getfield 74, 3) := by decide +kernel
theorem dX12_goesBy_201 : decode cX12_goesBy 201 = .ok (.aload_n 0, 1) := by decide +kernel
theorem dX12_goesBy_202 : decode cX12_goesBy 202 = .ok (.getfield 138, 3) := by decide +kernel
theorem dX12_goesBy_205 : decode cX12_goesBy 205 = .ok (.iload_n 1, 1) := by decide +kernel
theorem dX12_goesBy_206 : decode cX12_goesBy 206 = .ok (.iastore, 1) := by decide +kernel
theorem dX12_goesBy_207 : decode cX12_goesBy 207 = .ok (.aload_n 0, 1) := by decide +kernel
theorem dX12_goesBy_208 : decode cX12_goesBy 208 = .ok (.getfield 80, 3) := by decide +kernel
theorem dX12_goesBy_211 : decode cX12_goesBy 211 = .ok (.aload_n 0, 1) := by decide +kernel
theorem dX12_goesBy_212 : decode cX12_goesBy 212 = .ok (.getfield 138, 3) := by decide +kernel
theorem dX12_goesBy_215 : decode cX12_goesBy 215 = .ok (.aload_n 0, 1) := by decide +kernel
theorem dX12_goesBy_216 : decode cX12_goesBy 216 = .ok (.getfield 38, 3) := by decide +kernel
theorem dX12_goesBy_219 : decode cX12_goesBy 219 = .ok (.iastore, 1) := by decide +kernel
theorem dX12_goesBy_220 : decode cX12_goesBy 220 = .ok (.aload_n 0, 1) := by decide +kernel
theorem dX12_goesBy_221 : decode cX12_goesBy 221 = .ok (.getfield 41, 3) := by decide +kernel
theorem dX12_goesBy_224 : decode cX12_goesBy 224 = .ok (.ifCond .lt 11, 3) := by decide +kernel
theorem dX12_goesBy_227 : decode cX12_goesBy 227 = .ok (.iload_n 1, 1) := by decide +kernel
theorem dX12_goesBy_228 : decode cX12_goesBy 228 = .ok (.aload_n 0, 1) := by decide +kernel
theorem dX12_goesBy_229 : decode cX12_goesBy 229 = .ok (.getfield 41, 3) := by decide +kernel
theorem dX12_goesBy_232 : decode cX12_goesBy 232 = .ok (.if_icmp .eq 7, 3) := by decide +kernel
theorem dX12_goesBy_235 : decode cX12_goesBy 235 = .ok (.iconst 1, 1) := by decide +kernel
theorem dX12_goesBy_236 : decode cX12_goesBy 236 = .ok (.goto 4, 3) := by decide +kernel
theorem dX12_goesBy_239 : decode cX12_goesBy 239 = .ok (.iconst 0, 1) := by decide +kernel
theorem dX12_goesBy_240 : decode cX12_goesBy 240 = .ok (.istore_n 2, 1) := by decide +kernel
theorem dX12_goesBy_241 : decode cX12_goesBy 241 = .ok (.aload_n 0, 1) := by decide +kernel
theorem dX12_goesBy_242 : decode cX12_goesBy 242 = .ok (.getfield 77, 3) := by decide +kernel
theorem dX12_goesBy_245 : decode cX12_goesBy 245 = .ok (.aload_n 0, 1) := by decide +kernel
theorem dX12_goesBy_246 : decode cX12_goesBy 246 = .ok (.getfield 138, 3) := by decide +kernel
theorem dX12_goesBy_249 : decode cX12_goesBy 249 = .ok (.iload_n 2, 1) := by decide +kernel
theorem dX12_goesBy_250 : decode cX12_goesBy 250 = .ok (.ifCond .eq 7, 3) := by decide +kernel
theorem dX12_goesBy_253 : decode cX12_goesBy 253 = .ok (.iconst 1, 1) := by decide +kernel
theorem dX12_goesBy_254 : decode cX12_goesBy 254 = .ok (.goto 4, 3) := by decide +kernel
theorem dX12_goesBy_257 : decode cX12_goesBy 257 = .ok (.iconst 0, 1) := by decide +kernel
theorem dX12_goesBy_258 : decode cX12_goesBy 258 = .ok (.iastore, 1) := by decide +kernel
theorem dX12_goesBy_259 : decode cX12_goesBy 259 = .ok (.aload_n 0, 1) := by decide +kernel
theorem dX12_goesBy_260 : decode cX12_goesBy 260 = .ok (.dup, 1) := by decide +kernel
theorem dX12_goesBy_261 : decode cX12_goesBy 261 = .ok (.getfield 138, 3) := by decide +kernel
theorem dX12_goesBy_264 : decode cX12_goesBy 264 = .ok (.iconst 1, 1) := by decide +kernel
theorem dX12_goesBy_265 : decode cX12_goesBy 265 = .ok (.iadd, 1) := by decide +kernel
theorem dX12_goesBy_266 : decode cX12_goesBy 266 = .ok (.putfield 138, 3) := by decide +kernel
theorem dX12_goesBy_269 : decode cX12_goesBy 269 = .ok (.iload_n 2, 1) := by decide +kernel
theorem dX12_goesBy_270 : decode cX12_goesBy 270 = .ok (.ifCond .ne 5, 3) := by decide +kernel
theorem dX12_goesBy_273 : decode cX12_goesBy 273 = .ok (.iconst 1, 1) := by decide +kernel
theorem dX12_goesBy_274 : decode cX12_goesBy 274 = .ok (.ireturn, 1) := by decide +kernel
theorem dX12_goesBy_275 : decode cX12_goesBy 275 = .ok (.aload_n 0, 1) := by decide +kernel
theorem dX12_goesBy_276 : decode cX12_goesBy 276 = .ok (.dup, 1) := by decide +kernel
theorem dX12_goesBy_277 : decode cX12_goesBy 277 = .ok (.getfield 141, 3) := by decide +kernel
theorem dX12_goesBy_280 : decode cX12_goesBy 280 = .ok (.aload_n 0, 1) := by decide +kernel
theorem dX12_goesBy_281 : decode cX12_goesBy 281 = .ok (.getfield 38, 3) := by decide +kernel
theorem dX12_goesBy_284 : decode cX12_goesBy 284 = .ok (.i2l, 1) := by decide +kernel
theorem dX12_goesBy_285 : decode cX12_goesBy 285 = .ok (.ladd, 1) := by decide +kernel
theorem dX12_goesBy_286 : decode cX12_goesBy 286 = .ok (.putfield 141, 3) := by decide +kernel
theorem dX12_goesBy_289 : decode cX12_goesBy 289 = .ok (.iconst 0, 1) := by decide +kernel
theorem dX12_goesBy_290 : decode cX12_goesBy 290 = .ok (.istore_n 3, 1) := by decide +kernel
theorem dX12_goesBy_291 : decode cX12_goesBy 291 = .ok (.iload_n 3, 1) := by decide +kernel
theorem dX12_goesBy_292 : decode cX12_goesBy 292 = .ok (.aload_n 0, 1) := by decide +kernel
theorem dX12_goesBy_293 : decode cX12_goesBy 293 = .ok (.getfield 108, 3) := by decide +kernel
theorem dX12_goesBy_296 : decode cX12_goesBy 296 = .ok (.if_icmp .ge 62, 3) := by decide +kernel
theorem dX12_goesBy_299 : decode cX12_goesBy 299 = .ok (.aload_n 0, 1) := by decide +kernel
theorem dX12_goesBy_300 : decode cX12_goesBy 300 = .ok (.getfield 13, 3) := by decide +kernel
theorem dX12_goesBy_303 : decode cX12_goesBy 303 = .ok (.iload_n 3, 1) := by decide +kernel
theorem dX12_goesBy_304 : decode cX12_goesBy 304 = .ok (.iaload, 1) := by decide +kernel
theorem dX12_goesBy_305 : decode cX12_goesBy 305 = .ok (.iconst 3, 1) := by decide +kernel
theorem dX12_goesBy_306 : decode cX12_goesBy 306 = .ok (.if_icmp .eq 6, 3) := by decide +kernel
theorem dX12_goesBy_309 : decode cX12_goesBy 309 = .ok (.goto 43, 3) := by decide +kernel
theorem dX12_goesBy_312 : decode cX12_goesBy 312 = .ok (.aload_n 0, 1) := by decide +kernel
theorem dX12_goesBy_313 : decode cX12_goesBy 313 = .ok (.getfield 22, 3) := by decide +kernel
theorem dX12_goesBy_316 : decode cX12_goesBy 316 = .ok (.iload_n 3, 1) := by decide +kernel
theorem dX12_goesBy_317 : decode cX12_goesBy 317 = .ok (.aload_n 0, 1) := by decide +kernel
theorem dX12_goesBy_318 : decode cX12_goesBy 318 = .ok (.getfield 22, 3) := by decide +kernel
theorem dX12_goesBy_321 : decode cX12_goesBy 321 = .ok (.iload_n 3, 1) := by decide +kernel
theorem dX12_goesBy_322 : decode cX12_goesBy 322 = .ok (.iaload, 1) := by decide +kernel
theorem dX12_goesBy_323 : decode cX12_goesBy 323 = .ok (.aload_n 0, 1) := by decide +kernel
theorem dX12_goesBy_324 : decode cX12_goesBy 324 = .ok (.getfield 38, 3) := by decide +kernel
theorem dX12_goesBy_327 : decode cX12_goesBy 327 = .ok (.iadd, 1) := by decide +kernel
theorem dX12_goesBy_328 : decode cX12_goesBy 328 = .ok (.ldc 123, 2) := by decide +kernel
theorem dX12_goesBy_330 : decode cX12_goesBy 330 = .ok (.if_icmp .le 8, 3) := by decide +kernel
theorem dX12_goesBy_333 : decode cX12_goesBy 333 = .ok (.ldc 123, 2) := by decide +kernel
theorem dX12_goesBy_335 : decode cX12_goesBy 335 = .ok (.goto 14, 3) := by decide +kernel
theorem dX12_goesBy_338 : decode cX12_goesBy 338 = .ok (.aload_n 0, 1) := by decide +kernel
theorem dX12_goesBy_339 : decode cX12_goesBy 339 = .ok (.getfield 22, 3) := by decide +kernel
theorem dX12_goesBy_342 : decode cX12_goesBy 342 = .ok (.iload_n 3, 1) := by decide +kernel
theorem dX12_goesBy_343 : decode cX12_goesBy 343 = .ok (.iaload, 1) := by decide +kernel
theorem dX12_goesBy_344 : decode cX12_goesBy 344 = .ok (.aload_n 0, 1) := by decide +kernel
theorem dX12_goesBy_345 : decode cX12_goesBy 345 = .ok (.getfield 38, 3) := by decide +kernel
theorem dX12_goesBy_348 : decode cX12_goesBy 348 = .ok (.iadd, 1) := by decide +kernel
theorem dX12_goesBy_349 : decode cX12_goesBy 349 = .ok (.iastore, 1) := by decide +kernel
theorem dX12_goesBy_350 : decode cX12_goesBy 350 = .ok (.iconst 1, 1) := by decide +kernel
theorem dX12_goesBy_351 : decode cX12_goesBy 351 = .ok (.ireturn, 1) := by decide +kernel
theorem dX12_goesBy_352 : decode cX12_goesBy 352 = .ok (.iinc 3 1, 3) := by decide +kernel
theorem dX12_goesBy_355 : decode cX12_goesBy 355 = .ok (.goto (-64), 3) := by decide +kernel
theorem dX12_goesBy_358 : decode cX12_goesBy 358 = .ok (.iconst 1, 1) := by decide +kernel
theorem dX12_goesBy_359 : decode cX12_goesBy 359 = .ok (.ireturn, 1) := by decide +kernel
theorem dX12_hours_0 : decode cX12_hours 0 = .ok (.iload_n 1, 1) := by decide +kernel
theorem dX12_hours_1 : decode cX12_hours 1 = .ok (.iconst 1, 1) := by decide +kernel
theorem dX12_hours_2 : decode cX12_hours 2 = .ok (.bipush 50, 2) := by decide +kernel
theorem dX12_hours_4 : decode cX12_hours 4 = .ok (.invokestatic 111, 3) := by decide +kernel
theorem dX12_hours_7 : decode cX12_hours 7 = .ok (.ifCond .eq 29, 3) := by decide +kernel
theorem dX12_hours_10 : decode cX12_hours 10 = .ok (.aload_n 0, 1) := by decide +kernel
theorem dX12_hours_11 : decode cX12_hours 11 = .ok (.getfield 135, 3) := by decide +kernel
theorem dX12_hours_14 : decode cX12_hours 14 = .ok (.ifCond .eq 22, 3) := by decide +kernel
theorem dX12_hours_17 : decode cX12_hours 17 = .ok (.aload_n 0, 1) := by decide +kernel
theorem dX12_hours_18 : decode cX12_hours 18 = .ok (.getfield 124, 3) := by decide +kernel
theorem dX12_hours_21 : decode cX12_hours 21 = .ok (.ifCond .eq 15, 3) := by decide +kernel
theorem dX12_hours_24 : decode cX12_hours 24 = .ok (.aload_n 0, 1) := by decide +kernel
theorem dX12_hours_25 : decode cX12_hours 25 = .ok (.getfield 138, 3) := by decide +kernel
theorem dX12_hours_28 : decode cX12_hours 28 = .ok (.iload_n 1, 1) := by decide +kernel
theorem dX12_hours_29 : decode cX12_hours 29 = .ok (.iadd, 1) := by decide +kernel
theorem dX12_hours_30 : decode cX12_hours 30 = .ok (.sipush 400, 3) := by decide +kernel
theorem dX12_hours_33 : decode cX12_hours 33 = .ok (.if_icmp .le 6, 3) := by decide +kernel
theorem dX12_hours_36 : decode cX12_hours 36 = .ok (.ldc 118, 2) := by decide +kernel
theorem dX12_hours_38 : decode cX12_hours 38 = .ok (.ireturn, 1) := by decide +kernel
theorem dX12_hours_39 : decode cX12_hours 39 = .ok (.iconst 0, 1) := by decide +kernel
theorem dX12_hours_40 : decode cX12_hours 40 = .ok (.istore_n 2, 1) := by decide +kernel
theorem dX12_hours_41 : decode cX12_hours 41 = .ok (.iload_n 2, 1) := by decide +kernel
theorem dX12_hours_42 : decode cX12_hours 42 = .ok (.iload_n 1, 1) := by decide +kernel
theorem dX12_hours_43 : decode cX12_hours 43 = .ok (.if_icmp .ge 16, 3) := by decide +kernel
theorem dX12_hours_46 : decode cX12_hours 46 = .ok (.aload_n 0, 1) := by decide +kernel
theorem dX12_hours_47 : decode cX12_hours 47 = .ok (.invokevirtual 179, 3) := by decide +kernel
theorem dX12_hours_50 : decode cX12_hours 50 = .ok (.ifCond .eq 9, 3) := by decide +kernel
theorem dX12_hours_53 : decode cX12_hours 53 = .ok (.iinc 2 1, 3) := by decide +kernel
theorem dX12_hours_56 : decode cX12_hours 56 = .ok (.goto (-15), 3) := by decide +kernel
theorem dX12_hours_59 : decode cX12_hours 59 = .ok (.iload_n 2, 1) := by decide +kernel
theorem dX12_hours_60 : decode cX12_hours 60 = .ok (.ireturn, 1) := by decide +kernel
theorem dX12_isHour_0 : decode cX12_isHour 0 = .ok (.iload_n 1, 1) := by decide +kernel
theorem dX12_isHour_1 : decode cX12_isHour 1 = .ok (.iconst 0, 1) := by decide +kernel
theorem dX12_isHour_2 : decode cX12_isHour 2 = .ok (.aload_n 0, 1) := by decide +kernel
theorem dX12_isHour_3 : decode cX12_isHour 3 = .ok (.getfield 138, 3) := by decide +kernel
theorem dX12_isHour_6 : decode cX12_isHour 6 = .ok (.iconst 1, 1) := by decide +kernel
theorem dX12_isHour_7 : decode cX12_isHour 7 = .ok (.isub, 1) := by decide +kernel
theorem dX12_isHour_8 : decode cX12_isHour 8 = .ok (.invokestatic 111, 3) := by decide +kernel
theorem dX12_isHour_11 : decode cX12_isHour 11 = .ok (.ireturn, 1) := by decide +kernel
theorem dX12_glass_0 : decode cX12_glass 0 = .ok (.aload_n 0, 1) := by decide +kernel
theorem dX12_glass_1 : decode cX12_glass 1 = .ok (.iload_n 1, 1) := by decide +kernel
theorem dX12_glass_2 : decode cX12_glass 2 = .ok (.invokevirtual 183, 3) := by decide +kernel
theorem dX12_glass_5 : decode cX12_glass 5 = .ok (.ifCond .eq 13, 3) := by decide +kernel
theorem dX12_glass_8 : decode cX12_glass 8 = .ok (.iload_n 2, 1) := by decide +kernel
theorem dX12_glass_9 : decode cX12_glass 9 = .ok (.iconst 0, 1) := by decide +kernel
theorem dX12_glass_10 : decode cX12_glass 10 = .ok (.bipush 6, 2) := by decide +kernel
theorem dX12_glass_12 : decode cX12_glass 12 = .ok (.invokestatic 111, 3) := by decide +kernel
theorem dX12_glass_15 : decode cX12_glass 15 = .ok (.ifCond .ne 6, 3) := by decide +kernel
theorem dX12_glass_18 : decode cX12_glass 18 = .ok (.ldc 118, 2) := by decide +kernel
theorem dX12_glass_20 : decode cX12_glass 20 = .ok (.ireturn, 1) := by decide +kernel
theorem dX12_glass_21 : decode cX12_glass 21 = .ok (.iload_n 2, 1) := by decide +kernel
theorem dX12_glass_22 : decode cX12_glass 22 = .ok (.iconst 4, 1) := by decide +kernel
theorem dX12_glass_23 : decode cX12_glass 23 = .ok (.if_icmp .ge 16, 3) := by decide +kernel
theorem dX12_glass_26 : decode cX12_glass 26 = .ok (.aload_n 0, 1) := by decide +kernel
theorem dX12_glass_27 : decode cX12_glass 27 = .ok (.getfield 68, 3) := by decide +kernel
theorem dX12_glass_30 : decode cX12_glass 30 = .ok (.iconst 4, 1) := by decide +kernel
theorem dX12_glass_31 : decode cX12_glass 31 = .ok (.iload_n 1, 1) := by decide +kernel
theorem dX12_glass_32 : decode cX12_glass 32 = .ok (.imul, 1) := by decide +kernel
theorem dX12_glass_33 : decode cX12_glass 33 = .ok (.iload_n 2, 1) := by decide +kernel
theorem dX12_glass_34 : decode cX12_glass 34 = .ok (.iadd, 1) := by decide +kernel
theorem dX12_glass_35 : decode cX12_glass 35 = .ok (.iaload, 1) := by decide +kernel
theorem dX12_glass_36 : decode cX12_glass 36 = .ok (.goto 37, 3) := by decide +kernel
theorem dX12_glass_39 : decode cX12_glass 39 = .ok (.iload_n 2, 1) := by decide +kernel
theorem dX12_glass_40 : decode cX12_glass 40 = .ok (.iconst 4, 1) := by decide +kernel
theorem dX12_glass_41 : decode cX12_glass 41 = .ok (.if_icmp .ne 12, 3) := by decide +kernel
theorem dX12_glass_44 : decode cX12_glass 44 = .ok (.aload_n 0, 1) := by decide +kernel
theorem dX12_glass_45 : decode cX12_glass 45 = .ok (.getfield 74, 3) := by decide +kernel
theorem dX12_glass_48 : decode cX12_glass 48 = .ok (.iload_n 1, 1) := by decide +kernel
theorem dX12_glass_49 : decode cX12_glass 49 = .ok (.iaload, 1) := by decide +kernel
theorem dX12_glass_50 : decode cX12_glass 50 = .ok (.goto 23, 3) := by decide +kernel
theorem dX12_glass_53 : decode cX12_glass 53 = .ok (.iload_n 2, 1) := by decide +kernel
theorem dX12_glass_54 : decode cX12_glass 54 = .ok (.iconst 5, 1) := by decide +kernel
theorem dX12_glass_55 : decode cX12_glass 55 = .ok (.if_icmp .ne 12, 3) := by decide +kernel
theorem dX12_glass_58 : decode cX12_glass 58 = .ok (.aload_n 0, 1) := by decide +kernel
theorem dX12_glass_59 : decode cX12_glass 59 = .ok (.getfield 77, 3) := by decide +kernel
theorem dX12_glass_62 : decode cX12_glass 62 = .ok (.iload_n 1, 1) := by decide +kernel
theorem dX12_glass_63 : decode cX12_glass 63 = .ok (.iaload, 1) := by decide +kernel
theorem dX12_glass_64 : decode cX12_glass 64 = .ok (.goto 9, 3) := by decide +kernel
theorem dX12_glass_67 : decode cX12_glass 67 = .ok (.aload_n 0, 1) := by decide +kernel
theorem dX12_glass_68 : decode cX12_glass 68 = .ok (.getfield 80, 3) := by decide +kernel
theorem dX12_glass_71 : decode cX12_glass 71 = .ok (.iload_n 1, 1) := by decide +kernel
theorem dX12_glass_72 : decode cX12_glass 72 = .ok (.iaload, 1) := by decide +kernel
theorem dX12_glass_73 : decode cX12_glass 73 = .ok (.ireturn, 1) := by decide +kernel
theorem dX12_lead_0 : decode cX12_lead 0 = .ok (.aload_n 0, 1) := by decide +kernel
theorem dX12_lead_1 : decode cX12_lead 1 = .ok (.iload_n 1, 1) := by decide +kernel
theorem dX12_lead_2 : decode cX12_lead 2 = .ok (.invokevirtual 183, 3) := by decide +kernel
theorem dX12_lead_5 : decode cX12_lead 5 = .ok (.ifCond .eq 25, 3) := by decide +kernel
theorem dX12_lead_8 : decode cX12_lead 8 = .ok (.aload_n 0, 1) := by decide +kernel
theorem dX12_lead_9 : decode cX12_lead 9 = .ok (.iload_n 2, 1) := by decide +kernel
theorem dX12_lead_10 : decode cX12_lead 10 = .ok (.invokevirtual 119, 3) := by decide +kernel
theorem dX12_lead_13 : decode cX12_lead 13 = .ok (.ifCond .eq 17, 3) := by decide +kernel
theorem dX12_lead_16 : decode cX12_lead 16 = .ok (.aload_n 0, 1) := by decide +kernel
theorem dX12_lead_17 : decode cX12_lead 17 = .ok (.getfield 71, 3) := by decide +kernel
theorem dX12_lead_20 : decode cX12_lead 20 = .ok (.bipush 8, 2) := by decide +kernel
theorem dX12_lead_22 : decode cX12_lead 22 = .ok (.iload_n 1, 1) := by decide +kernel
theorem dX12_lead_23 : decode cX12_lead 23 = .ok (.imul, 1) := by decide +kernel
theorem dX12_lead_24 : decode cX12_lead 24 = .ok (.iload_n 2, 1) := by decide +kernel
theorem dX12_lead_25 : decode cX12_lead 25 = .ok (.iadd, 1) := by decide +kernel
theorem dX12_lead_26 : decode cX12_lead 26 = .ok (.iaload, 1) := by decide +kernel
theorem dX12_lead_27 : decode cX12_lead 27 = .ok (.goto 5, 3) := by decide +kernel
theorem dX12_lead_30 : decode cX12_lead 30 = .ok (.ldc 118, 2) := by decide +kernel
theorem dX12_lead_32 : decode cX12_lead 32 = .ok (.ireturn, 1) := by decide +kernel
theorem dX12_first_0 : decode cX12_first 0 = .ok (.iconst 0, 1) := by decide +kernel
theorem dX12_first_1 : decode cX12_first 1 = .ok (.istore 5, 2) := by decide +kernel
theorem dX12_first_3 : decode cX12_first 3 = .ok (.iload 5, 2) := by decide +kernel
theorem dX12_first_5 : decode cX12_first 5 = .ok (.sipush 192, 3) := by decide +kernel
theorem dX12_first_8 : decode cX12_first 8 = .ok (.if_icmp .ge 23, 3) := by decide +kernel
theorem dX12_first_11 : decode cX12_first 11 = .ok (.aload_n 0, 1) := by decide +kernel
theorem dX12_first_12 : decode cX12_first 12 = .ok (.getfield 47, 3) := by decide +kernel
theorem dX12_first_15 : decode cX12_first 15 = .ok (.iload 5, 2) := by decide +kernel
theorem dX12_first_17 : decode cX12_first 17 = .ok (.aload_n 0, 1) := by decide +kernel
theorem dX12_first_18 : decode cX12_first 18 = .ok (.getfield 44, 3) := by decide +kernel
theorem dX12_first_21 : decode cX12_first 21 = .ok (.iload 5, 2) := by decide +kernel
theorem dX12_first_23 : decode cX12_first 23 = .ok (.iaload, 1) := by decide +kernel
theorem dX12_first_24 : decode cX12_first 24 = .ok (.iastore, 1) := by decide +kernel
theorem dX12_first_25 : decode cX12_first 25 = .ok (.iinc 5 1, 3) := by decide +kernel
theorem dX12_first_28 : decode cX12_first 28 = .ok (.goto (-25), 3) := by decide +kernel
theorem dX12_first_31 : decode cX12_first 31 = .ok (.iconst 1, 1) := by decide +kernel
theorem dX12_first_32 : decode cX12_first 32 = .ok (.istore 5, 2) := by decide +kernel
theorem dX12_first_34 : decode cX12_first 34 = .ok (.iload 5, 2) := by decide +kernel
theorem dX12_first_36 : decode cX12_first 36 = .ok (.bipush 100, 2) := by decide +kernel
theorem dX12_first_38 : decode cX12_first 38 = .ok (.if_icmp .gt 45, 3) := by decide +kernel
theorem dX12_first_41 : decode cX12_first 41 = .ok (.aload_n 0, 1) := by decide +kernel
theorem dX12_first_42 : decode cX12_first 42 = .ok (.iload 5, 2) := by decide +kernel
theorem dX12_first_44 : decode cX12_first 44 = .ok (.iload 4, 2) := by decide +kernel
theorem dX12_first_46 : decode cX12_first 46 = .ok (.if_icmp .gt 7, 3) := by decide +kernel
theorem dX12_first_49 : decode cX12_first 49 = .ok (.iload_n 2, 1) := by decide +kernel
theorem dX12_first_50 : decode cX12_first 50 = .ok (.goto 4, 3) := by decide +kernel
theorem dX12_first_53 : decode cX12_first 53 = .ok (.iconst (-1), 1) := by decide +kernel
theorem dX12_first_54 : decode cX12_first 54 = .ok (.iload_n 3, 1) := by decide +kernel
theorem dX12_first_55 : decode cX12_first 55 = .ok (.invokevirtual 168, 3) := by decide +kernel
theorem dX12_first_58 : decode cX12_first 58 = .ok (.aload_n 0, 1) := by decide +kernel
theorem dX12_first_59 : decode cX12_first 59 = .ok (.aload_n 0, 1) := by decide +kernel
theorem dX12_first_60 : decode cX12_first 60 = .ok (.getfield 47, 3) := by decide +kernel
theorem dX12_first_63 : decode cX12_first 63 = .ok (.invokevirtual 171, 3) := by decide +kernel
theorem dX12_first_66 : decode cX12_first 66 = .ok (.aload_n 0, 1) := by decide +kernel
theorem dX12_first_67 : decode cX12_first 67 = .ok (.iload_n 1, 1) := by decide +kernel
theorem dX12_first_68 : decode cX12_first 68 = .ok (.invokevirtual 165, 3) := by decide +kernel
theorem dX12_first_71 : decode cX12_first 71 = .ok (.ifCond .eq 6, 3) := by decide +kernel
theorem dX12_first_74 : decode cX12_first 74 = .ok (.iload 5, 2) := by decide +kernel
theorem dX12_first_76 : decode cX12_first 76 = .ok (.ireturn, 1) := by decide +kernel
theorem dX12_first_77 : decode cX12_first 77 = .ok (.iinc 5 1, 3) := by decide +kernel
theorem dX12_first_80 : decode cX12_first 80 = .ok (.goto (-46), 3) := by decide +kernel
theorem dX12_first_83 : decode cX12_first 83 = .ok (.iconst 0, 1) := by decide +kernel
theorem dX12_first_84 : decode cX12_first 84 = .ok (.ireturn, 1) := by decide +kernel
theorem dX12_when_0 : decode cX12_when 0 = .ok (.aload_n 0, 1) := by decide +kernel
theorem dX12_when_1 : decode cX12_when 1 = .ok (.iload_n 1, 1) := by decide +kernel
theorem dX12_when_2 : decode cX12_when 2 = .ok (.invokevirtual 152, 3) := by decide +kernel
theorem dX12_when_5 : decode cX12_when 5 = .ok (.ifCond .eq 28, 3) := by decide +kernel
theorem dX12_when_8 : decode cX12_when 8 = .ok (.aload_n 0, 1) := by decide +kernel
theorem dX12_when_9 : decode cX12_when 9 = .ok (.getfield 135, 3) := by decide +kernel
theorem dX12_when_12 : decode cX12_when 12 = .ok (.ifCond .eq 21, 3) := by decide +kernel
theorem dX12_when_15 : decode cX12_when 15 = .ok (.aload_n 0, 1) := by decide +kernel
theorem dX12_when_16 : decode cX12_when 16 = .ok (.getfield 124, 3) := by decide +kernel
theorem dX12_when_19 : decode cX12_when 19 = .ok (.ifCond .eq 14, 3) := by decide +kernel
theorem dX12_when_22 : decode cX12_when 22 = .ok (.aload_n 0, 1) := by decide +kernel
theorem dX12_when_23 : decode cX12_when 23 = .ok (.iload_n 1, 1) := by decide +kernel
theorem dX12_when_24 : decode cX12_when 24 = .ok (.iconst (-1), 1) := by decide +kernel
theorem dX12_when_25 : decode cX12_when 25 = .ok (.iconst 0, 1) := by decide +kernel
theorem dX12_when_26 : decode cX12_when 26 = .ok (.iconst 0, 1) := by decide +kernel
theorem dX12_when_27 : decode cX12_when 27 = .ok (.invokevirtual 186, 3) := by decide +kernel
theorem dX12_when_30 : decode cX12_when 30 = .ok (.goto 5, 3) := by decide +kernel
theorem dX12_when_33 : decode cX12_when 33 = .ok (.ldc 118, 2) := by decide +kernel
theorem dX12_when_35 : decode cX12_when 35 = .ok (.ireturn, 1) := by decide +kernel
theorem dX12_between_0 : decode cX12_between 0 = .ok (.aload_n 0, 1) := by decide +kernel
theorem dX12_between_1 : decode cX12_between 1 = .ok (.getfield 135, 3) := by decide +kernel
theorem dX12_between_4 : decode cX12_between 4 = .ok (.ifCond .eq 10, 3) := by decide +kernel
theorem dX12_between_7 : decode cX12_between 7 = .ok (.aload_n 0, 1) := by decide +kernel
theorem dX12_between_8 : decode cX12_between 8 = .ok (.getfield 124, 3) := by decide +kernel
theorem dX12_between_11 : decode cX12_between 11 = .ok (.ifCond .ne 6, 3) := by decide +kernel
theorem dX12_between_14 : decode cX12_between 14 = .ok (.ldc 118, 2) := by decide +kernel
theorem dX12_between_16 : decode cX12_between 16 = .ok (.ireturn, 1) := by decide +kernel
theorem dX12_between_17 : decode cX12_between 17 = .ok (.iconst 0, 1) := by decide +kernel
theorem dX12_between_18 : decode cX12_between 18 = .ok (.istore_n 1, 1) := by decide +kernel
theorem dX12_between_19 : decode cX12_between 19 = .ok (.iconst 0, 1) := by decide +kernel
theorem dX12_between_20 : decode cX12_between 20 = .ok (.istore_n 2, 1) := by decide +kernel
theorem dX12_between_21 : decode cX12_between 21 = .ok (.iload_n 2, 1) := by decide +kernel
theorem dX12_between_22 : decode cX12_between 22 = .ok (.sipush 192, 3) := by decide +kernel
theorem dX12_between_25 : decode cX12_between 25 = .ok (.if_icmp .ge 21, 3) := by decide +kernel
theorem dX12_between_28 : decode cX12_between 28 = .ok (.aload_n 0, 1) := by decide +kernel
theorem dX12_between_29 : decode cX12_between 29 = .ok (.getfield 47, 3) := by decide +kernel
theorem dX12_between_32 : decode cX12_between 32 = .ok (.iload_n 2, 1) := by decide +kernel
theorem dX12_between_33 : decode cX12_between 33 = .ok (.aload_n 0, 1) := by decide +kernel
theorem dX12_between_34 : decode cX12_between 34 = .ok (.getfield 44, 3) := by decide +kernel
theorem dX12_between_37 : decode cX12_between 37 = .ok (.iload_n 2, 1) := by decide +kernel
theorem dX12_between_38 : decode cX12_between 38 = .ok (.iaload, 1) := by decide +kernel
theorem dX12_between_39 : decode cX12_between 39 = .ok (.iastore, 1) := by decide +kernel
theorem dX12_between_40 : decode cX12_between 40 = .ok (.iinc 2 1, 3) := by decide +kernel
theorem dX12_between_43 : decode cX12_between 43 = .ok (.goto (-22), 3) := by decide +kernel
theorem dX12_between_46 : decode cX12_between 46 = .ok (.iconst 1, 1) := by decide +kernel
theorem dX12_between_47 : decode cX12_between 47 = .ok (.istore_n 2, 1) := by decide +kernel
theorem dX12_between_48 : decode cX12_between 48 = .ok (.iload_n 2, 1) := by decide +kernel
theorem dX12_between_49 : decode cX12_between 49 = .ok (.bipush 100, 2) := by decide +kernel
theorem dX12_between_51 : decode cX12_between 51 = .ok (.if_icmp .gt 38, 3) := by decide +kernel
theorem dX12_between_54 : decode cX12_between 54 = .ok (.aload_n 0, 1) := by decide +kernel
theorem dX12_between_55 : decode cX12_between 55 = .ok (.iconst (-1), 1) := by decide +kernel
theorem dX12_between_56 : decode cX12_between 56 = .ok (.iconst 0, 1) := by decide +kernel
theorem dX12_between_57 : decode cX12_between 57 = .ok (.invokevirtual 168, 3) := by decide +kernel
theorem dX12_between_60 : decode cX12_between 60 = .ok (.aload_n 0, 1) := by decide +kernel
theorem dX12_between_61 : decode cX12_between 61 = .ok (.aload_n 0, 1) := by decide +kernel
theorem dX12_between_62 : decode cX12_between 62 = .ok (.getfield 47, 3) := by decide +kernel
theorem dX12_between_65 : decode cX12_between 65 = .ok (.invokevirtual 171, 3) := by decide +kernel
theorem dX12_between_68 : decode cX12_between 68 = .ok (.iload_n 1, 1) := by decide +kernel
theorem dX12_between_69 : decode cX12_between 69 = .ok (.aload_n 0, 1) := by decide +kernel
theorem dX12_between_70 : decode cX12_between 70 = .ok (.invokevirtual 175, 3) := by decide +kernel
theorem dX12_between_73 : decode cX12_between 73 = .ok (.ifCond .ge 7, 3) := by decide +kernel
theorem dX12_between_76 : decode cX12_between 76 = .ok (.iconst 1, 1) := by decide +kernel
theorem dX12_between_77 : decode cX12_between 77 = .ok (.goto 4, 3) := by decide +kernel
theorem dX12_between_80 : decode cX12_between 80 = .ok (.iconst 0, 1) := by decide +kernel
theorem dX12_between_81 : decode cX12_between 81 = .ok (.iadd, 1) := by decide +kernel
theorem dX12_between_82 : decode cX12_between 82 = .ok (.istore_n 1, 1) := by decide +kernel
theorem dX12_between_83 : decode cX12_between 83 = .ok (.iinc 2 1, 3) := by decide +kernel
theorem dX12_between_86 : decode cX12_between 86 = .ok (.goto (-38), 3) := by decide +kernel
theorem dX12_between_89 : decode cX12_between 89 = .ok (.iload_n 1, 1) := by decide +kernel
theorem dX12_between_90 : decode cX12_between 90 = .ok (.ireturn, 1) := by decide +kernel
theorem dX12_dose_0 : decode cX12_dose 0 = .ok (.aload_n 0, 1) := by decide +kernel
theorem dX12_dose_1 : decode cX12_dose 1 = .ok (.iload_n 1, 1) := by decide +kernel
theorem dX12_dose_2 : decode cX12_dose 2 = .ok (.invokevirtual 152, 3) := by decide +kernel
theorem dX12_dose_5 : decode cX12_dose 5 = .ok (.ifCond .eq 35, 3) := by decide +kernel
theorem dX12_dose_8 : decode cX12_dose 8 = .ok (.aload_n 0, 1) := by decide +kernel
theorem dX12_dose_9 : decode cX12_dose 9 = .ok (.iload_n 2, 1) := by decide +kernel
theorem dX12_dose_10 : decode cX12_dose 10 = .ok (.invokevirtual 119, 3) := by decide +kernel
theorem dX12_dose_13 : decode cX12_dose 13 = .ok (.ifCond .eq 27, 3) := by decide +kernel
theorem dX12_dose_16 : decode cX12_dose 16 = .ok (.aload_n 0, 1) := by decide +kernel
theorem dX12_dose_17 : decode cX12_dose 17 = .ok (.getfield 13, 3) := by decide +kernel
theorem dX12_dose_20 : decode cX12_dose 20 = .ok (.iload_n 2, 1) := by decide +kernel
theorem dX12_dose_21 : decode cX12_dose 21 = .ok (.iaload, 1) := by decide +kernel
theorem dX12_dose_22 : decode cX12_dose 22 = .ok (.iconst 2, 1) := by decide +kernel
theorem dX12_dose_23 : decode cX12_dose 23 = .ok (.if_icmp .ne 17, 3) := by decide +kernel
theorem dX12_dose_26 : decode cX12_dose 26 = .ok (.aload_n 0, 1) := by decide +kernel
theorem dX12_dose_27 : decode cX12_dose 27 = .ok (.getfield 135, 3) := by decide +kernel
theorem dX12_dose_30 : decode cX12_dose 30 = .ok (.ifCond .eq 10, 3) := by decide +kernel
theorem dX12_dose_33 : decode cX12_dose 33 = .ok (.aload_n 0, 1) := by decide +kernel
theorem dX12_dose_34 : decode cX12_dose 34 = .ok (.getfield 124, 3) := by decide +kernel
theorem dX12_dose_37 : decode cX12_dose 37 = .ok (.ifCond .ne 6, 3) := by decide +kernel
theorem dX12_dose_40 : decode cX12_dose 40 = .ok (.ldc 118, 2) := by decide +kernel
theorem dX12_dose_42 : decode cX12_dose 42 = .ok (.ireturn, 1) := by decide +kernel
theorem dX12_dose_43 : decode cX12_dose 43 = .ok (.aload_n 0, 1) := by decide +kernel
theorem dX12_dose_44 : decode cX12_dose 44 = .ok (.iload_n 1, 1) := by decide +kernel
theorem dX12_dose_45 : decode cX12_dose 45 = .ok (.iconst (-1), 1) := by decide +kernel
theorem dX12_dose_46 : decode cX12_dose 46 = .ok (.iconst 0, 1) := by decide +kernel
theorem dX12_dose_47 : decode cX12_dose 47 = .ok (.iconst 0, 1) := by decide +kernel
theorem dX12_dose_48 : decode cX12_dose 48 = .ok (.invokevirtual 186, 3) := by decide +kernel
theorem dX12_dose_51 : decode cX12_dose 51 = .ok (.istore_n 3, 1) := by decide +kernel
theorem dX12_dose_52 : decode cX12_dose 52 = .ok (.ldc 134, 2) := by decide +kernel
theorem dX12_dose_54 : decode cX12_dose 54 = .ok (.iload_n 3, 1) := by decide +kernel
theorem dX12_dose_55 : decode cX12_dose 55 = .ok (.imul, 1) := by decide +kernel
theorem dX12_dose_56 : decode cX12_dose 56 = .ok (.istore 4, 2) := by decide +kernel
theorem dX12_dose_58 : decode cX12_dose 58 = .ok (.bipush 100, 2) := by decide +kernel
theorem dX12_dose_60 : decode cX12_dose 60 = .ok (.istore 5, 2) := by decide +kernel
theorem dX12_dose_62 : decode cX12_dose 62 = .ok (.iload 5, 2) := by decide +kernel
theorem dX12_dose_64 : decode cX12_dose 64 = .ok (.sipush 500, 3) := by decide +kernel
theorem dX12_dose_67 : decode cX12_dose 67 = .ok (.if_icmp .gt 74, 3) := by decide +kernel
theorem dX12_dose_70 : decode cX12_dose 70 = .ok (.iconst 1, 1) := by decide +kernel
theorem dX12_dose_71 : decode cX12_dose 71 = .ok (.istore 6, 2) := by decide +kernel
theorem dX12_dose_73 : decode cX12_dose 73 = .ok (.iload 6, 2) := by decide +kernel
theorem dX12_dose_75 : decode cX12_dose 75 = .ok (.bipush 10, 2) := by decide +kernel
theorem dX12_dose_77 : decode cX12_dose 77 = .ok (.if_icmp .gt 58, 3) := by decide +kernel
theorem dX12_dose_80 : decode cX12_dose 80 = .ok (.aload_n 0, 1) := by decide +kernel
theorem dX12_dose_81 : decode cX12_dose 81 = .ok (.iload_n 1, 1) := by decide +kernel
theorem dX12_dose_82 : decode cX12_dose 82 = .ok (.iload_n 2, 1) := by decide +kernel
theorem dX12_dose_83 : decode cX12_dose 83 = .ok (.iload 5, 2) := by decide +kernel
theorem dX12_dose_85 : decode cX12_dose 85 = .ok (.iload 6, 2) := by decide +kernel
theorem dX12_dose_87 : decode cX12_dose 87 = .ok (.invokevirtual 186, 3) := by decide +kernel
theorem dX12_dose_90 : decode cX12_dose 90 = .ok (.istore 7, 2) := by decide +kernel
theorem dX12_dose_92 : decode cX12_dose 92 = .ok (.iload 7, 2) := by decide +kernel
theorem dX12_dose_94 : decode cX12_dose 94 = .ok (.ifCond .eq 35, 3) := by decide +kernel
theorem dX12_dose_97 : decode cX12_dose 97 = .ok (.iload_n 3, 1) := by decide +kernel
theorem dX12_dose_98 : decode cX12_dose 98 = .ok (.ifCond .eq 12, 3) := by decide +kernel
theorem dX12_dose_101 : decode cX12_dose 101 = .ok (.iload 7, 2) := by decide +kernel
theorem dX12_dose_103 : decode cX12_dose 103 = .ok (.iload_n 3, 1) := by decide +kernel
theorem dX12_dose_104 : decode cX12_dose 104 = .ok (.if_icmp .lt 6, 3) := by decide +kernel
theorem dX12_dose_107 : decode cX12_dose 107 = .ok (.goto 22, 3) := by decide +kernel
theorem dX12_dose_110 : decode cX12_dose 110 = .ok (.iload 7, 2) := by decide +kernel
theorem dX12_dose_112 : decode cX12_dose 112 = .ok (.istore_n 3, 1) := by decide +kernel
theorem dX12_dose_113 : decode cX12_dose 113 = .ok (.ldc 134, 2) := by decide +kernel
theorem dX12_dose_115 : decode cX12_dose 115 = .ok (.iload 7, 2) := by decide +kernel
theorem dX12_dose_117 : decode cX12_dose 117 = .ok (.imul, 1) := by decide +kernel
theorem dX12_dose_118 : decode cX12_dose 118 = .ok (.bipush 100, 2) := by decide +kernel
theorem dX12_dose_120 : decode cX12_dose 120 = .ok (.iload 5, 2) := by decide +kernel
theorem dX12_dose_122 : decode cX12_dose 122 = .ok (.imul, 1) := by decide +kernel
theorem dX12_dose_123 : decode cX12_dose 123 = .ok (.iadd, 1) := by decide +kernel
theorem dX12_dose_124 : decode cX12_dose 124 = .ok (.iload 6, 2) := by decide +kernel
theorem dX12_dose_126 : decode cX12_dose 126 = .ok (.iadd, 1) := by decide +kernel
theorem dX12_dose_127 : decode cX12_dose 127 = .ok (.istore 4, 2) := by decide +kernel
theorem dX12_dose_129 : decode cX12_dose 129 = .ok (.iinc 6 1, 3) := by decide +kernel
theorem dX12_dose_132 : decode cX12_dose 132 = .ok (.goto (-59), 3) := by decide +kernel
theorem dX12_dose_135 : decode cX12_dose 135 = .ok (.iinc 5 100, 3) := by decide +kernel
theorem dX12_dose_138 : decode cX12_dose 138 = .ok (.goto (-76), 3) := by decide +kernel
theorem dX12_dose_141 : decode cX12_dose 141 = .ok (.iload_n 3, 1) := by decide +kernel
theorem dX12_dose_142 : decode cX12_dose 142 = .ok (.ifCond .ne 7, 3) := by decide +kernel
theorem dX12_dose_145 : decode cX12_dose 145 = .ok (.iconst 0, 1) := by decide +kernel
theorem dX12_dose_146 : decode cX12_dose 146 = .ok (.goto 5, 3) := by decide +kernel
theorem dX12_dose_149 : decode cX12_dose 149 = .ok (.iload 4, 2) := by decide +kernel
theorem dX12_dose_151 : decode cX12_dose 151 = .ok (.ireturn, 1) := by decide +kernel
theorem dX12_change_0 : decode cX12_change 0 = .ok (.aload_n 0, 1) := by decide +kernel
theorem dX12_change_1 : decode cX12_change 1 = .ok (.iload_n 1, 1) := by decide +kernel
theorem dX12_change_2 : decode cX12_change 2 = .ok (.invokevirtual 152, 3) := by decide +kernel
theorem dX12_change_5 : decode cX12_change 5 = .ok (.ifCond .eq 27, 3) := by decide +kernel
theorem dX12_change_8 : decode cX12_change 8 = .ok (.aload_n 0, 1) := by decide +kernel
theorem dX12_change_9 : decode cX12_change 9 = .ok (.iload_n 2, 1) := by decide +kernel
theorem dX12_change_10 : decode cX12_change 10 = .ok (.invokevirtual 152, 3) := by decide +kernel
theorem dX12_change_13 : decode cX12_change 13 = .ok (.ifCond .eq 19, 3) := by decide +kernel
theorem dX12_change_16 : decode cX12_change 16 = .ok (.iload_n 1, 1) := by decide +kernel
theorem dX12_change_17 : decode cX12_change 17 = .ok (.iload_n 2, 1) := by decide +kernel
theorem dX12_change_18 : decode cX12_change 18 = .ok (.if_icmp .eq 14, 3) := by decide +kernel
theorem dX12_change_21 : decode cX12_change 21 = .ok (.iload_n 3, 1) := by decide +kernel
theorem dX12_change_22 : decode cX12_change 22 = .ok (.iconst 0, 1) := by decide +kernel
theorem dX12_change_23 : decode cX12_change 23 = .ok (.sipush 1000, 3) := by decide +kernel
theorem dX12_change_26 : decode cX12_change 26 = .ok (.invokestatic 111, 3) := by decide +kernel
theorem dX12_change_29 : decode cX12_change 29 = .ok (.ifCond .ne 6, 3) := by decide +kernel
theorem dX12_change_32 : decode cX12_change 32 = .ok (.ldc 118, 2) := by decide +kernel
theorem dX12_change_34 : decode cX12_change 34 = .ok (.ireturn, 1) := by decide +kernel
theorem dX12_change_35 : decode cX12_change 35 = .ok (.aload_n 0, 1) := by decide +kernel
theorem dX12_change_36 : decode cX12_change 36 = .ok (.getfield 65, 3) := by decide +kernel
theorem dX12_change_39 : decode cX12_change 39 = .ok (.bipush 6, 2) := by decide +kernel
theorem dX12_change_41 : decode cX12_change 41 = .ok (.iload_n 1, 1) := by decide +kernel
theorem dX12_change_42 : decode cX12_change 42 = .ok (.imul, 1) := by decide +kernel
theorem dX12_change_43 : decode cX12_change 43 = .ok (.iload_n 2, 1) := by decide +kernel
theorem dX12_change_44 : decode cX12_change 44 = .ok (.iadd, 1) := by decide +kernel
theorem dX12_change_45 : decode cX12_change 45 = .ok (.iaload, 1) := by decide +kernel
theorem dX12_change_46 : decode cX12_change 46 = .ok (.istore 4, 2) := by decide +kernel
theorem dX12_change_48 : decode cX12_change 48 = .ok (.aload_n 0, 1) := by decide +kernel
theorem dX12_change_49 : decode cX12_change 49 = .ok (.getfield 65, 3) := by decide +kernel
theorem dX12_change_52 : decode cX12_change 52 = .ok (.bipush 6, 2) := by decide +kernel
theorem dX12_change_54 : decode cX12_change 54 = .ok (.iload_n 1, 1) := by decide +kernel
theorem dX12_change_55 : decode cX12_change 55 = .ok (.imul, 1) := by decide +kernel
theorem dX12_change_56 : decode cX12_change 56 = .ok (.iload_n 2, 1) := by decide +kernel
theorem dX12_change_57 : decode cX12_change 57 = .ok (.iadd, 1) := by decide +kernel
theorem dX12_change_58 : decode cX12_change 58 = .ok (.iload_n 3, 1) := by decide +kernel
theorem dX12_change_59 : decode cX12_change 59 = .ok (.iastore, 1) := by decide +kernel
theorem dX12_change_60 : decode cX12_change 60 = .ok (.iload 4, 2) := by decide +kernel
theorem dX12_change_62 : decode cX12_change 62 = .ok (.ireturn, 1) := by decide +kernel
theorem dX12_ring_0 : decode cX12_ring 0 = .ok (.iload_n 1, 1) := by decide +kernel
theorem dX12_ring_1 : decode cX12_ring 1 = .ok (.ifCond .le 13, 3) := by decide +kernel
theorem dX12_ring_4 : decode cX12_ring 4 = .ok (.iload_n 1, 1) := by decide +kernel
theorem dX12_ring_5 : decode cX12_ring 5 = .ok (.iconst 1, 1) := by decide +kernel
theorem dX12_ring_6 : decode cX12_ring 6 = .ok (.aload_n 0, 1) := by decide +kernel
theorem dX12_ring_7 : decode cX12_ring 7 = .ok (.getfield 115, 3) := by decide +kernel
theorem dX12_ring_10 : decode cX12_ring 10 = .ok (.ishl, 1) := by decide +kernel
theorem dX12_ring_11 : decode cX12_ring 11 = .ok (.if_icmp .lt 6, 3) := by decide +kernel
theorem dX12_ring_14 : decode cX12_ring 14 = .ok (.ldc 118, 2) := by decide +kernel
theorem dX12_ring_16 : decode cX12_ring 16 = .ok (.ireturn, 1) := by decide +kernel
theorem dX12_ring_17 : decode cX12_ring 17 = .ok (.iconst 0, 1) := by decide +kernel
theorem dX12_ring_18 : decode cX12_ring 18 = .ok (.istore_n 2, 1) := by decide +kernel
theorem dX12_ring_19 : decode cX12_ring 19 = .ok (.iconst 0, 1) := by decide +kernel
theorem dX12_ring_20 : decode cX12_ring 20 = .ok (.istore_n 3, 1) := by decide +kernel
theorem dX12_ring_21 : decode cX12_ring 21 = .ok (.iload_n 3, 1) := by decide +kernel
theorem dX12_ring_22 : decode cX12_ring 22 = .ok (.aload_n 0, 1) := by decide +kernel
theorem dX12_ring_23 : decode cX12_ring 23 = .ok (.getfield 115, 3) := by decide +kernel
theorem dX12_ring_26 : decode cX12_ring 26 = .ok (.if_icmp .ge 30, 3) := by decide +kernel
theorem dX12_ring_29 : decode cX12_ring 29 = .ok (.iload_n 1, 1) := by decide +kernel
theorem dX12_ring_30 : decode cX12_ring 30 = .ok (.iload_n 3, 1) := by decide +kernel
theorem dX12_ring_31 : decode cX12_ring 31 = .ok (.ishr, 1) := by decide +kernel
theorem dX12_ring_32 : decode cX12_ring 32 = .ok (.iconst 1, 1) := by decide +kernel
theorem dX12_ring_33 : decode cX12_ring 33 = .ok (.iand, 1) := by decide +kernel
theorem dX12_ring_34 : decode cX12_ring 34 = .ok (.ifCond .ne 6, 3) := by decide +kernel
theorem dX12_ring_37 : decode cX12_ring 37 = .ok (.goto 13, 3) := by decide +kernel
theorem dX12_ring_40 : decode cX12_ring 40 = .ok (.aload_n 0, 1) := by decide +kernel
theorem dX12_ring_41 : decode cX12_ring 41 = .ok (.getfield 102, 3) := by decide +kernel
theorem dX12_ring_44 : decode cX12_ring 44 = .ok (.iload_n 2, 1) := by decide +kernel
theorem dX12_ring_45 : decode cX12_ring 45 = .ok (.iload_n 3, 1) := by decide +kernel
theorem dX12_ring_46 : decode cX12_ring 46 = .ok (.iastore, 1) := by decide +kernel
theorem dX12_ring_47 : decode cX12_ring 47 = .ok (.iinc 2 1, 3) := by decide +kernel
theorem dX12_ring_50 : decode cX12_ring 50 = .ok (.iinc 3 1, 3) := by decide +kernel
theorem dX12_ring_53 : decode cX12_ring 53 = .ok (.goto (-32), 3) := by decide +kernel
theorem dX12_ring_56 : decode cX12_ring 56 = .ok (.iconst (-1), 1) := by decide +kernel
theorem dX12_ring_57 : decode cX12_ring 57 = .ok (.istore_n 3, 1) := by decide +kernel
theorem dX12_ring_58 : decode cX12_ring 58 = .ok (.iconst 1, 1) := by decide +kernel
theorem dX12_ring_59 : decode cX12_ring 59 = .ok (.istore 4, 2) := by decide +kernel
theorem dX12_ring_61 : decode cX12_ring 61 = .ok (.iload 4, 2) := by decide +kernel
theorem dX12_ring_63 : decode cX12_ring 63 = .ok (.ifCond .eq 134, 3) := by decide +kernel
theorem dX12_ring_66 : decode cX12_ring 66 = .ok (.iload_n 2, 1) := by decide +kernel
theorem dX12_ring_67 : decode cX12_ring 67 = .ok (.iconst 1, 1) := by decide +kernel
theorem dX12_ring_68 : decode cX12_ring 68 = .ok (.if_icmp .ne 7, 3) := by decide +kernel
theorem dX12_ring_71 : decode cX12_ring 71 = .ok (.iconst 0, 1) := by decide +kernel
theorem dX12_ring_72 : decode cX12_ring 72 = .ok (.goto 26, 3) := by decide +kernel
theorem dX12_ring_75 : decode cX12_ring 75 = .ok (.aload_n 0, 1) := by decide +kernel
theorem dX12_ring_76 : decode cX12_ring 76 = .ok (.getfield 65, 3) := by decide +kernel
theorem dX12_ring_79 : decode cX12_ring 79 = .ok (.bipush 6, 2) := by decide +kernel
theorem dX12_ring_81 : decode cX12_ring 81 = .ok (.aload_n 0, 1) := by decide +kernel
theorem dX12_ring_82 : decode cX12_ring 82 = .ok (.getfield 102, 3) := by decide +kernel
theorem dX12_ring_85 : decode cX12_ring 85 = .ok (.iload_n 2, 1) := by decide +kernel
theorem dX12_ring_86 : decode cX12_ring 86 = .ok (.iconst 1, 1) := by decide +kernel
theorem dX12_ring_87 : decode cX12_ring 87 = .ok (.isub, 1) := by decide +kernel
theorem dX12_ring_88 : decode cX12_ring 88 = .ok (.iaload, 1) := by decide +kernel
theorem dX12_ring_89 : decode cX12_ring 89 = .ok (.imul, 1) := by decide +kernel
theorem dX12_ring_90 : decode cX12_ring 90 = .ok (.aload_n 0, 1) := by decide +kernel
theorem dX12_ring_91 : decode cX12_ring 91 = .ok (.getfield 102, 3) := by decide +kernel
theorem dX12_ring_94 : decode cX12_ring 94 = .ok (.iconst 0, 1) := by decide +kernel
theorem dX12_ring_95 : decode cX12_ring 95 = .ok (.iaload, 1) := by decide +kernel
theorem dX12_ring_96 : decode cX12_ring 96 = .ok (.iadd, 1) := by decide +kernel
theorem dX12_ring_97 : decode cX12_ring 97 = .ok (.iaload, 1) := by decide +kernel
theorem dX12_ring_98 : decode cX12_ring 98 = .ok (.istore 5, 2) := by decide +kernel
theorem dX12_ring_100 : decode cX12_ring 100 = .ok (.iconst 1, 1) := by decide +kernel
theorem dX12_ring_101 : decode cX12_ring 101 = .ok (.istore 6, 2) := by decide +kernel
theorem dX12_ring_103 : decode cX12_ring 103 = .ok (.iload 6, 2) := by decide +kernel
theorem dX12_ring_105 : decode cX12_ring 105 = .ok (.iload_n 2, 1) := by decide +kernel
theorem dX12_ring_106 : decode cX12_ring 106 = .ok (.if_icmp .ge 39, 3) := by decide +kernel
theorem dX12_ring_109 : decode cX12_ring 109 = .ok (.iload 5, 2) := by decide +kernel
theorem dX12_ring_111 : decode cX12_ring 111 = .ok (.aload_n 0, 1) := by decide +kernel
theorem dX12_ring_112 : decode cX12_ring 112 = .ok (.getfield 65, 3) := by decide +kernel
theorem dX12_ring_115 : decode cX12_ring 115 = .ok (.bipush 6, 2) := by decide +kernel
theorem dX12_ring_117 : decode cX12_ring 117 = .ok (.aload_n 0, 1) := by decide +kernel
theorem dX12_ring_118 : decode cX12_ring 118 = .ok (.getfield 102, 3) := by decide +kernel
theorem dX12_ring_121 : decode cX12_ring 121 = .ok (.iload 6, 2) := by decide +kernel
theorem dX12_ring_123 : decode cX12_ring 123 = .ok (.iconst 1, 1) := by decide +kernel
theorem dX12_ring_124 : decode cX12_ring 124 = .ok (.isub, 1) := by decide +kernel
theorem dX12_ring_125 : decode cX12_ring 125 = .ok (.iaload, 1) := by decide +kernel
theorem dX12_ring_126 : decode cX12_ring 126 = .ok (.imul, 1) := by decide +kernel
theorem dX12_ring_127 : decode cX12_ring 127 = .ok (.aload_n 0, 1) := by decide +kernel
theorem dX12_ring_128 : decode cX12_ring 128 = .ok (.getfield 102, 3) := by decide +kernel
theorem dX12_ring_131 : decode cX12_ring 131 = .ok (.iload 6, 2) := by decide +kernel
theorem dX12_ring_133 : decode cX12_ring 133 = .ok (.iaload, 1) := by decide +kernel
theorem dX12_ring_134 : decode cX12_ring 134 = .ok (.iadd, 1) := by decide +kernel
theorem dX12_ring_135 : decode cX12_ring 135 = .ok (.iaload, 1) := by decide +kernel
theorem dX12_ring_136 : decode cX12_ring 136 = .ok (.iadd, 1) := by decide +kernel
theorem dX12_ring_137 : decode cX12_ring 137 = .ok (.istore 5, 2) := by decide +kernel
theorem dX12_ring_139 : decode cX12_ring 139 = .ok (.iinc 6 1, 3) := by decide +kernel
theorem dX12_ring_142 : decode cX12_ring 142 = .ok (.goto (-39), 3) := by decide +kernel
theorem dX12_ring_145 : decode cX12_ring 145 = .ok (.iload_n 3, 1) := by decide +kernel
theorem dX12_ring_146 : decode cX12_ring 146 = .ok (.ifCond .lt 9, 3) := by decide +kernel
theorem dX12_ring_149 : decode cX12_ring 149 = .ok (.iload 5, 2) := by decide +kernel
theorem dX12_ring_151 : decode cX12_ring 151 = .ok (.iload_n 3, 1) := by decide +kernel
theorem dX12_ring_152 : decode cX12_ring 152 = .ok (.if_icmp .ge 35, 3) := by decide +kernel
theorem dX12_ring_155 : decode cX12_ring 155 = .ok (.iload 5, 2) := by decide +kernel
theorem dX12_ring_157 : decode cX12_ring 157 = .ok (.istore_n 3, 1) := by decide +kernel
theorem dX12_ring_158 : decode cX12_ring 158 = .ok (.iconst 0, 1) := by decide +kernel
theorem dX12_ring_159 : decode cX12_ring 159 = .ok (.istore 6, 2) := by decide +kernel
theorem dX12_ring_161 : decode cX12_ring 161 = .ok (.iload 6, 2) := by decide +kernel
theorem dX12_ring_163 : decode cX12_ring 163 = .ok (.iload_n 2, 1) := by decide +kernel
theorem dX12_ring_164 : decode cX12_ring 164 = .ok (.if_icmp .ge 23, 3) := by decide +kernel
theorem dX12_ring_167 : decode cX12_ring 167 = .ok (.aload_n 0, 1) := by decide +kernel
theorem dX12_ring_168 : decode cX12_ring 168 = .ok (.getfield 105, 3) := by decide +kernel
theorem dX12_ring_171 : decode cX12_ring 171 = .ok (.iload 6, 2) := by decide +kernel
theorem dX12_ring_173 : decode cX12_ring 173 = .ok (.aload_n 0, 1) := by decide +kernel
theorem dX12_ring_174 : decode cX12_ring 174 = .ok (.getfield 102, 3) := by decide +kernel
theorem dX12_ring_177 : decode cX12_ring 177 = .ok (.iload 6, 2) := by decide +kernel
theorem dX12_ring_179 : decode cX12_ring 179 = .ok (.iaload, 1) := by decide +kernel
theorem dX12_ring_180 : decode cX12_ring 180 = .ok (.iastore, 1) := by decide +kernel
theorem dX12_ring_181 : decode cX12_ring 181 = .ok (.iinc 6 1, 3) := by decide +kernel
theorem dX12_ring_184 : decode cX12_ring 184 = .ok (.goto (-23), 3) := by decide +kernel
theorem dX12_ring_187 : decode cX12_ring 187 = .ok (.aload_n 0, 1) := by decide +kernel
theorem dX12_ring_188 : decode cX12_ring 188 = .ok (.iload_n 2, 1) := by decide +kernel
theorem dX12_ring_189 : decode cX12_ring 189 = .ok (.invokevirtual 190, 3) := by decide +kernel
theorem dX12_ring_192 : decode cX12_ring 192 = .ok (.istore 4, 2) := by decide +kernel
theorem dX12_ring_194 : decode cX12_ring 194 = .ok (.goto (-133), 3) := by decide +kernel
theorem dX12_ring_197 : decode cX12_ring 197 = .ok (.aload_n 0, 1) := by decide +kernel
theorem dX12_ring_198 : decode cX12_ring 198 = .ok (.iload_n 2, 1) := by decide +kernel
theorem dX12_ring_199 : decode cX12_ring 199 = .ok (.putfield 193, 3) := by decide +kernel
theorem dX12_ring_202 : decode cX12_ring 202 = .ok (.iload_n 3, 1) := by decide +kernel
theorem dX12_ring_203 : decode cX12_ring 203 = .ok (.ireturn, 1) := by decide +kernel
theorem dX12_turns_0 : decode cX12_turns 0 = .ok (.iload_n 1, 1) := by decide +kernel
theorem dX12_turns_1 : decode cX12_turns 1 = .ok (.iconst 2, 1) := by decide +kernel
theorem dX12_turns_2 : decode cX12_turns 2 = .ok (.isub, 1) := by decide +kernel
theorem dX12_turns_3 : decode cX12_turns 3 = .ok (.istore_n 2, 1) := by decide +kernel
theorem dX12_turns_4 : decode cX12_turns 4 = .ok (.iload_n 2, 1) := by decide +kernel
theorem dX12_turns_5 : decode cX12_turns 5 = .ok (.ifCond .le 26, 3) := by decide +kernel
theorem dX12_turns_8 : decode cX12_turns 8 = .ok (.aload_n 0, 1) := by decide +kernel
theorem dX12_turns_9 : decode cX12_turns 9 = .ok (.getfield 102, 3) := by decide +kernel
theorem dX12_turns_12 : decode cX12_turns 12 = .ok (.iload_n 2, 1) := by decide +kernel
theorem dX12_turns_13 : decode cX12_turns 13 = .ok (.iaload, 1) := by decide +kernel
theorem dX12_turns_14 : decode cX12_turns 14 = .ok (.aload_n 0, 1) := by decide +kernel
theorem dX12_turns_15 : decode cX12_turns 15 = .ok (.getfield 102, 3) := by decide +kernel
theorem dX12_turns_18 : decode cX12_turns 18 = .ok (.iload_n 2, 1) := by decide +kernel
theorem dX12_turns_19 : decode cX12_turns 19 = .ok (.iconst 1, 1) := by decide +kernel
theorem dX12_turns_20 : decode cX12_turns 20 = .ok (.iadd, 1) := by decide +kernel
theorem dX12_turns_21 : decode cX12_turns 21 = .ok (.iaload, 1) := by decide +kernel
theorem dX12_turns_22 : decode cX12_turns 22 = .ok (.if_icmp .le 9, 3) := by decide +kernel
theorem dX12_turns_25 : decode cX12_turns 25 = .ok (.iinc 2 (-1), 3) := by decide +kernel
theorem dX12_turns_28 : decode cX12_turns 28 = .ok (.goto (-24), 3) := by decide +kernel
theorem dX12_turns_31 : decode cX12_turns 31 = .ok (.iload_n 2, 1) := by decide +kernel
theorem dX12_turns_32 : decode cX12_turns 32 = .ok (.ifCond .gt 5, 3) := by decide +kernel
theorem dX12_turns_35 : decode cX12_turns 35 = .ok (.iconst 0, 1) := by decide +kernel
theorem dX12_turns_36 : decode cX12_turns 36 = .ok (.ireturn, 1) := by decide +kernel
theorem dX12_turns_37 : decode cX12_turns 37 = .ok (.iload_n 1, 1) := by decide +kernel
theorem dX12_turns_38 : decode cX12_turns 38 = .ok (.iconst 1, 1) := by decide +kernel
theorem dX12_turns_39 : decode cX12_turns 39 = .ok (.isub, 1) := by decide +kernel
theorem dX12_turns_40 : decode cX12_turns 40 = .ok (.istore_n 3, 1) := by decide +kernel
theorem dX12_turns_41 : decode cX12_turns 41 = .ok (.aload_n 0, 1) := by decide +kernel
theorem dX12_turns_42 : decode cX12_turns 42 = .ok (.getfield 102, 3) := by decide +kernel
theorem dX12_turns_45 : decode cX12_turns 45 = .ok (.iload_n 3, 1) := by decide +kernel
theorem dX12_turns_46 : decode cX12_turns 46 = .ok (.iaload, 1) := by decide +kernel
theorem dX12_turns_47 : decode cX12_turns 47 = .ok (.aload_n 0, 1) := by decide +kernel
theorem dX12_turns_48 : decode cX12_turns 48 = .ok (.getfield 102, 3) := by decide +kernel
theorem dX12_turns_51 : decode cX12_turns 51 = .ok (.iload_n 2, 1) := by decide +kernel
theorem dX12_turns_52 : decode cX12_turns 52 = .ok (.iaload, 1) := by decide +kernel
theorem dX12_turns_53 : decode cX12_turns 53 = .ok (.if_icmp .ge 9, 3) := by decide +kernel
theorem dX12_turns_56 : decode cX12_turns 56 = .ok (.iinc 3 (-1), 3) := by decide +kernel
theorem dX12_turns_59 : decode cX12_turns 59 = .ok (.goto (-18), 3) := by decide +kernel
theorem dX12_turns_62 : decode cX12_turns 62 = .ok (.aload_n 0, 1) := by decide +kernel
theorem dX12_turns_63 : decode cX12_turns 63 = .ok (.getfield 102, 3) := by decide +kernel
theorem dX12_turns_66 : decode cX12_turns 66 = .ok (.iload_n 2, 1) := by decide +kernel
theorem dX12_turns_67 : decode cX12_turns 67 = .ok (.iaload, 1) := by decide +kernel
theorem dX12_turns_68 : decode cX12_turns 68 = .ok (.istore 4, 2) := by decide +kernel
theorem dX12_turns_70 : decode cX12_turns 70 = .ok (.aload_n 0, 1) := by decide +kernel
theorem dX12_turns_71 : decode cX12_turns 71 = .ok (.getfield 102, 3) := by decide +kernel
theorem dX12_turns_74 : decode cX12_turns 74 = .ok (.iload_n 2, 1) := by decide +kernel
theorem dX12_turns_75 : decode cX12_turns 75 = .ok (.aload_n 0, 1) := by decide +kernel
theorem dX12_turns_76 : decode cX12_turns 76 = .ok (.getfield 102, 3) := by decide +kernel
theorem dX12_turns_79 : decode cX12_turns 79 = .ok (.iload_n 3, 1) := by decide +kernel
theorem dX12_turns_80 : decode cX12_turns 80 = .ok (.iaload, 1) := by decide +kernel
theorem dX12_turns_81 : decode cX12_turns 81 = .ok (.iastore, 1) := by decide +kernel
theorem dX12_turns_82 : decode cX12_turns 82 = .ok (.aload_n 0, 1) := by decide +kernel
theorem dX12_turns_83 : decode cX12_turns 83 = .ok (.getfield 102, 3) := by decide +kernel
theorem dX12_turns_86 : decode cX12_turns 86 = .ok (.iload_n 3, 1) := by decide +kernel
theorem dX12_turns_87 : decode cX12_turns 87 = .ok (.iload 4, 2) := by decide +kernel
theorem dX12_turns_89 : decode cX12_turns 89 = .ok (.iastore, 1) := by decide +kernel
theorem dX12_turns_90 : decode cX12_turns 90 = .ok (.iload_n 1, 1) := by decide +kernel
theorem dX12_turns_91 : decode cX12_turns 91 = .ok (.iconst 1, 1) := by decide +kernel
theorem dX12_turns_92 : decode cX12_turns 92 = .ok (.isub, 1) := by decide +kernel
theorem dX12_turns_93 : decode cX12_turns 93 = .ok (.istore 5, 2) := by decide +kernel
theorem dX12_turns_95 : decode cX12_turns 95 = .ok (.iload_n 2, 1) := by decide +kernel
theorem dX12_turns_96 : decode cX12_turns 96 = .ok (.iconst 1, 1) := by decide +kernel
theorem dX12_turns_97 : decode cX12_turns 97 = .ok (.iadd, 1) := by decide +kernel
theorem dX12_turns_98 : decode cX12_turns 98 = .ok (.istore 6, 2) := by decide +kernel
theorem dX12_turns_100 : decode cX12_turns 100 = .ok (.iload 6, 2) := by decide +kernel
theorem dX12_turns_102 : decode cX12_turns 102 = .ok (.iload 5, 2) := by decide +kernel
theorem dX12_turns_104 : decode cX12_turns 104 = .ok (.if_icmp .ge 44, 3) := by decide +kernel
theorem dX12_turns_107 : decode cX12_turns 107 = .ok (.aload_n 0, 1) := by decide +kernel
theorem dX12_turns_108 : decode cX12_turns 108 = .ok (.getfield 102, 3) := by decide +kernel
theorem dX12_turns_111 : decode cX12_turns 111 = .ok (.iload 6, 2) := by decide +kernel
theorem dX12_turns_113 : decode cX12_turns 113 = .ok (.iaload, 1) := by decide +kernel
theorem dX12_turns_114 : decode cX12_turns 114 = .ok (.istore 4, 2) := by decide +kernel
theorem dX12_turns_116 : decode cX12_turns 116 = .ok (.aload_n 0, 1) := by decide +kernel
theorem dX12_turns_117 : decode cX12_turns 117 = .ok (.getfield 102, 3) := by decide +kernel
theorem dX12_turns_120 : decode cX12_turns 120 = .ok (.iload 6, 2) := by decide +kernel
theorem dX12_turns_122 : decode cX12_turns 122 = .ok (.aload_n 0, 1) := by decide +kernel
theorem dX12_turns_123 : decode cX12_turns 123 = .ok (.getfield 102, 3) := by decide +kernel
theorem dX12_turns_126 : decode cX12_turns 126 = .ok (.iload 5, 2) := by decide +kernel
theorem dX12_turns_128 : decode cX12_turns 128 = .ok (.iaload, 1) := by decide +kernel
theorem dX12_turns_129 : decode cX12_turns 129 = .ok (.iastore, 1) := by decide +kernel
theorem dX12_turns_130 : decode cX12_turns 130 = .ok (.aload_n 0, 1) := by decide +kernel
theorem dX12_turns_131 : decode cX12_turns 131 = .ok (.getfield 102, 3) := by decide +kernel
theorem dX12_turns_134 : decode cX12_turns 134 = .ok (.iload 5, 2) := by decide +kernel
theorem dX12_turns_136 : decode cX12_turns 136 = .ok (.iload 4, 2) := by decide +kernel
theorem dX12_turns_138 : decode cX12_turns 138 = .ok (.iastore, 1) := by decide +kernel
theorem dX12_turns_139 : decode cX12_turns 139 = .ok (.iinc 5 (-1), 3) := by decide +kernel
theorem dX12_turns_142 : decode cX12_turns 142 = .ok (.iinc 6 1, 3) := by decide +kernel
theorem dX12_turns_145 : decode cX12_turns 145 = .ok (.goto (-45), 3) := by decide +kernel
theorem dX12_turns_148 : decode cX12_turns 148 = .ok (.iconst 1, 1) := by decide +kernel
theorem dX12_turns_149 : decode cX12_turns 149 = .ok (.ireturn, 1) := by decide +kernel
theorem dX12_next_0 : decode cX12_next 0 = .ok (.iload_n 1, 1) := by decide +kernel
theorem dX12_next_1 : decode cX12_next 1 = .ok (.iconst 0, 1) := by decide +kernel
theorem dX12_next_2 : decode cX12_next 2 = .ok (.aload_n 0, 1) := by decide +kernel
theorem dX12_next_3 : decode cX12_next 3 = .ok (.getfield 193, 3) := by decide +kernel
theorem dX12_next_6 : decode cX12_next 6 = .ok (.iconst 1, 1) := by decide +kernel
theorem dX12_next_7 : decode cX12_next 7 = .ok (.isub, 1) := by decide +kernel
theorem dX12_next_8 : decode cX12_next 8 = .ok (.invokestatic 111, 3) := by decide +kernel
theorem dX12_next_11 : decode cX12_next 11 = .ok (.ifCond .eq 12, 3) := by decide +kernel
theorem dX12_next_14 : decode cX12_next 14 = .ok (.aload_n 0, 1) := by decide +kernel
theorem dX12_next_15 : decode cX12_next 15 = .ok (.getfield 105, 3) := by decide +kernel
theorem dX12_next_18 : decode cX12_next 18 = .ok (.iload_n 1, 1) := by decide +kernel
theorem dX12_next_19 : decode cX12_next 19 = .ok (.iaload, 1) := by decide +kernel
theorem dX12_next_20 : decode cX12_next 20 = .ok (.goto 4, 3) := by decide +kernel
theorem dX12_next_23 : decode cX12_next 23 = .ok (.iconst (-1), 1) := by decide +kernel
theorem dX12_next_24 : decode cX12_next 24 = .ok (.ireturn, 1) := by decide +kernel
theorem dX12_told_0 : decode cX12_told 0 = .ok (.iload_n 1, 1) := by decide +kernel
theorem dX12_told_1 : decode cX12_told 1 = .ok (.tableswitch 96 0 6 #[43, 48, 53, 58, 63, 69, 75], 43) := by decide +kernel
theorem dX12_told_44 : decode cX12_told 44 = .ok (.aload_n 0, 1) := by decide +kernel
theorem dX12_told_45 : decode cX12_told 45 = .ok (.getfield 108, 3) := by decide +kernel
theorem dX12_told_48 : decode cX12_told 48 = .ok (.ireturn, 1) := by decide +kernel
theorem dX12_told_49 : decode cX12_told 49 = .ok (.aload_n 0, 1) := by decide +kernel
theorem dX12_told_50 : decode cX12_told 50 = .ok (.getfield 31, 3) := by decide +kernel
theorem dX12_told_53 : decode cX12_told 53 = .ok (.ireturn, 1) := by decide +kernel
theorem dX12_told_54 : decode cX12_told 54 = .ok (.aload_n 0, 1) := by decide +kernel
theorem dX12_told_55 : decode cX12_told 55 = .ok (.getfield 115, 3) := by decide +kernel
theorem dX12_told_58 : decode cX12_told 58 = .ok (.ireturn, 1) := by decide +kernel
theorem dX12_told_59 : decode cX12_told 59 = .ok (.aload_n 0, 1) := by decide +kernel
theorem dX12_told_60 : decode cX12_told 60 = .ok (.getfield 138, 3) := by decide +kernel
theorem dX12_told_63 : decode cX12_told 63 = .ok (.ireturn, 1) := by decide +kernel
theorem dX12_told_64 : decode cX12_told 64 = .ok (.aload_n 0, 1) := by decide +kernel
theorem dX12_told_65 : decode cX12_told 65 = .ok (.getfield 141, 3) := by decide +kernel
theorem dX12_told_68 : decode cX12_told 68 = .ok (.l2i, 1) := by decide +kernel
theorem dX12_told_69 : decode cX12_told 69 = .ok (.ireturn, 1) := by decide +kernel
theorem dX12_told_70 : decode cX12_told 70 = .ok (.aload_n 0, 1) := by decide +kernel
theorem dX12_told_71 : decode cX12_told 71 = .ok (.getfield 145, 3) := by decide +kernel
theorem dX12_told_74 : decode cX12_told 74 = .ok (.l2i, 1) := by decide +kernel
theorem dX12_told_75 : decode cX12_told 75 = .ok (.ireturn, 1) := by decide +kernel
theorem dX12_told_76 : decode cX12_told 76 = .ok (.aload_n 0, 1) := by decide +kernel
theorem dX12_told_77 : decode cX12_told 77 = .ok (.getfield 135, 3) := by decide +kernel
theorem dX12_told_80 : decode cX12_told 80 = .ok (.ifCond .eq 15, 3) := by decide +kernel
theorem dX12_told_83 : decode cX12_told 83 = .ok (.aload_n 0, 1) := by decide +kernel
theorem dX12_told_84 : decode cX12_told 84 = .ok (.getfield 31, 3) := by decide +kernel
theorem dX12_told_87 : decode cX12_told 87 = .ok (.aload_n 0, 1) := by decide +kernel
theorem dX12_told_88 : decode cX12_told 88 = .ok (.getfield 35, 3) := by decide +kernel
theorem dX12_told_91 : decode cX12_told 91 = .ok (.imul, 1) := by decide +kernel
theorem dX12_told_92 : decode cX12_told 92 = .ok (.goto 4, 3) := by decide +kernel
theorem dX12_told_95 : decode cX12_told 95 = .ok (.iconst 0, 1) := by decide +kernel
theorem dX12_told_96 : decode cX12_told 96 = .ok (.ireturn, 1) := by decide +kernel
theorem dX12_told_97 : decode cX12_told 97 = .ok (.ldc 118, 2) := by decide +kernel
theorem dX12_told_99 : decode cX12_told 99 = .ok (.ireturn, 1) := by decide +kernel
end
section
theorem dL_law_0 : decode cL_law 0 = .ok (.new 7, 3) := by decide +kernel
theorem dL_law_3 : decode cL_law 3 = .ok (.dup, 1) := by decide +kernel
theorem dL_law_4 : decode cL_law 4 = .ok (.invokespecial 9, 3) := by decide +kernel
theorem dL_law_7 : decode cL_law 7 = .ok (.astore_n 1, 1) := by decide +kernel
theorem dL_law_8 : decode cL_law 8 = .ok (.new 10, 3) := by decide +kernel
theorem dL_law_11 : decode cL_law 11 = .ok (.dup, 1) := by decide +kernel
theorem dL_law_12 : decode cL_law 12 = .ok (.invokespecial 12, 3) := by decide +kernel
theorem dL_law_15 : decode cL_law 15 = .ok (.astore_n 2, 1) := by decide +kernel
theorem dL_law_16 : decode cL_law 16 = .ok (.iconst 0, 1) := by decide +kernel
theorem dL_law_17 : decode cL_law 17 = .ok (.istore_n 3, 1) := by decide +kernel
theorem dL_law_18 : decode cL_law 18 = .ok (.iload_n 3, 1) := by decide +kernel
theorem dL_law_19 : decode cL_law 19 = .ok (.aload_n 0, 1) := by decide +kernel
theorem dL_law_20 : decode cL_law 20 = .ok (.arraylength, 1) := by decide +kernel
theorem dL_law_21 : decode cL_law 21 = .ok (.bipush 8, 2) := by decide +kernel
theorem dL_law_23 : decode cL_law 23 = .ok (.isub, 1) := by decide +kernel
theorem dL_law_24 : decode cL_law 24 = .ok (.if_icmp .gt 845, 3) := by decide +kernel
theorem dL_law_27 : decode cL_law 27 = .ok (.aload_n 0, 1) := by decide +kernel
theorem dL_law_28 : decode cL_law 28 = .ok (.iload_n 3, 1) := by decide +kernel
theorem dL_law_29 : decode cL_law 29 = .ok (.iaload, 1) := by decide +kernel
theorem dL_law_30 : decode cL_law 30 = .ok (.bipush 31, 2) := by decide +kernel
theorem dL_law_32 : decode cL_law 32 = .ok (.iand, 1) := by decide +kernel
theorem dL_law_33 : decode cL_law 33 = .ok (.tableswitch 830 0 22 #[107, 194, 227, 260, 313, 336, 379, 412, 425, 438, 491, 514, 537, 560, 583, 616, 649, 672, 685, 718, 761, 784, 807], 107) := by decide +kernel
theorem dL_law_140 : decode cL_law 140 = .ok (.aload_n 1, 1) := by decide +kernel
theorem dL_law_141 : decode cL_law 141 = .ok (.aload_n 0, 1) := by decide +kernel
theorem dL_law_142 : decode cL_law 142 = .ok (.iload_n 3, 1) := by decide +kernel
theorem dL_law_143 : decode cL_law 143 = .ok (.iconst 1, 1) := by decide +kernel
theorem dL_law_144 : decode cL_law 144 = .ok (.iadd, 1) := by decide +kernel
theorem dL_law_145 : decode cL_law 145 = .ok (.iaload, 1) := by decide +kernel
theorem dL_law_146 : decode cL_law 146 = .ok (.aload_n 0, 1) := by decide +kernel
theorem dL_law_147 : decode cL_law 147 = .ok (.iload_n 3, 1) := by decide +kernel
theorem dL_law_148 : decode cL_law 148 = .ok (.iconst 2, 1) := by decide +kernel
theorem dL_law_149 : decode cL_law 149 = .ok (.iadd, 1) := by decide +kernel
theorem dL_law_150 : decode cL_law 150 = .ok (.iaload, 1) := by decide +kernel
theorem dL_law_151 : decode cL_law 151 = .ok (.aload_n 0, 1) := by decide +kernel
theorem dL_law_152 : decode cL_law 152 = .ok (.iload_n 3, 1) := by decide +kernel
theorem dL_law_153 : decode cL_law 153 = .ok (.iconst 3, 1) := by decide +kernel
theorem dL_law_154 : decode cL_law 154 = .ok (.iadd, 1) := by decide +kernel
theorem dL_law_155 : decode cL_law 155 = .ok (.iaload, 1) := by decide +kernel
theorem dL_law_156 : decode cL_law 156 = .ok (.aload_n 0, 1) := by decide +kernel
theorem dL_law_157 : decode cL_law 157 = .ok (.iload_n 3, 1) := by decide +kernel
theorem dL_law_158 : decode cL_law 158 = .ok (.iconst 4, 1) := by decide +kernel
theorem dL_law_159 : decode cL_law 159 = .ok (.iadd, 1) := by decide +kernel
theorem dL_law_160 : decode cL_law 160 = .ok (.iaload, 1) := by decide +kernel
theorem dL_law_161 : decode cL_law 161 = .ok (.aload_n 0, 1) := by decide +kernel
theorem dL_law_162 : decode cL_law 162 = .ok (.iload_n 3, 1) := by decide +kernel
theorem dL_law_163 : decode cL_law 163 = .ok (.iconst 5, 1) := by decide +kernel
theorem dL_law_164 : decode cL_law 164 = .ok (.iadd, 1) := by decide +kernel
theorem dL_law_165 : decode cL_law 165 = .ok (.iaload, 1) := by decide +kernel
theorem dL_law_166 : decode cL_law 166 = .ok (.aload_n 0, 1) := by decide +kernel
theorem dL_law_167 : decode cL_law 167 = .ok (.iload_n 3, 1) := by decide +kernel
theorem dL_law_168 : decode cL_law 168 = .ok (.bipush 6, 2) := by decide +kernel
theorem dL_law_170 : decode cL_law 170 = .ok (.iadd, 1) := by decide +kernel
theorem dL_law_171 : decode cL_law 171 = .ok (.iaload, 1) := by decide +kernel
theorem dL_law_172 : decode cL_law 172 = .ok (.aload_n 0, 1) := by decide +kernel
theorem dL_law_173 : decode cL_law 173 = .ok (.iload_n 3, 1) := by decide +kernel
theorem dL_law_174 : decode cL_law 174 = .ok (.bipush 7, 2) := by decide +kernel
theorem dL_law_176 : decode cL_law 176 = .ok (.iadd, 1) := by decide +kernel
theorem dL_law_177 : decode cL_law 177 = .ok (.iaload, 1) := by decide +kernel
theorem dL_law_178 : decode cL_law 178 = .ok (.invokevirtual 13, 3) := by decide +kernel
theorem dL_law_181 : decode cL_law 181 = .ok (.aload_n 2, 1) := by decide +kernel
theorem dL_law_182 : decode cL_law 182 = .ok (.aload_n 0, 1) := by decide +kernel
theorem dL_law_183 : decode cL_law 183 = .ok (.iload_n 3, 1) := by decide +kernel
theorem dL_law_184 : decode cL_law 184 = .ok (.iconst 1, 1) := by decide +kernel
theorem dL_law_185 : decode cL_law 185 = .ok (.iadd, 1) := by decide +kernel
theorem dL_law_186 : decode cL_law 186 = .ok (.iaload, 1) := by decide +kernel
theorem dL_law_187 : decode cL_law 187 = .ok (.aload_n 0, 1) := by decide +kernel
theorem dL_law_188 : decode cL_law 188 = .ok (.iload_n 3, 1) := by decide +kernel
theorem dL_law_189 : decode cL_law 189 = .ok (.iconst 2, 1) := by decide +kernel
theorem dL_law_190 : decode cL_law 190 = .ok (.iadd, 1) := by decide +kernel
theorem dL_law_191 : decode cL_law 191 = .ok (.iaload, 1) := by decide +kernel
theorem dL_law_192 : decode cL_law 192 = .ok (.aload_n 0, 1) := by decide +kernel
theorem dL_law_193 : decode cL_law 193 = .ok (.iload_n 3, 1) := by decide +kernel
theorem dL_law_194 : decode cL_law 194 = .ok (.iconst 3, 1) := by decide +kernel
theorem dL_law_195 : decode cL_law 195 = .ok (.iadd, 1) := by decide +kernel
theorem dL_law_196 : decode cL_law 196 = .ok (.iaload, 1) := by decide +kernel
theorem dL_law_197 : decode cL_law 197 = .ok (.aload_n 0, 1) := by decide +kernel
theorem dL_law_198 : decode cL_law 198 = .ok (.iload_n 3, 1) := by decide +kernel
theorem dL_law_199 : decode cL_law 199 = .ok (.iconst 4, 1) := by decide +kernel
theorem dL_law_200 : decode cL_law 200 = .ok (.iadd, 1) := by decide +kernel
theorem dL_law_201 : decode cL_law 201 = .ok (.iaload, 1) := by decide +kernel
theorem dL_law_202 : decode cL_law 202 = .ok (.aload_n 0, 1) := by decide +kernel
theorem dL_law_203 : decode cL_law 203 = .ok (.iload_n 3, 1) := by decide +kernel
theorem dL_law_204 : decode cL_law 204 = .ok (.iconst 5, 1) := by decide +kernel
theorem dL_law_205 : decode cL_law 205 = .ok (.iadd, 1) := by decide +kernel
theorem dL_law_206 : decode cL_law 206 = .ok (.iaload, 1) := by decide +kernel
theorem dL_law_207 : decode cL_law 207 = .ok (.aload_n 0, 1) := by decide +kernel
theorem dL_law_208 : decode cL_law 208 = .ok (.iload_n 3, 1) := by decide +kernel
theorem dL_law_209 : decode cL_law 209 = .ok (.bipush 6, 2) := by decide +kernel
theorem dL_law_211 : decode cL_law 211 = .ok (.iadd, 1) := by decide +kernel
theorem dL_law_212 : decode cL_law 212 = .ok (.iaload, 1) := by decide +kernel
theorem dL_law_213 : decode cL_law 213 = .ok (.aload_n 0, 1) := by decide +kernel
theorem dL_law_214 : decode cL_law 214 = .ok (.iload_n 3, 1) := by decide +kernel
theorem dL_law_215 : decode cL_law 215 = .ok (.bipush 7, 2) := by decide +kernel
theorem dL_law_217 : decode cL_law 217 = .ok (.iadd, 1) := by decide +kernel
theorem dL_law_218 : decode cL_law 218 = .ok (.iaload, 1) := by decide +kernel
theorem dL_law_219 : decode cL_law 219 = .ok (.invokevirtual 17, 3) := by decide +kernel
theorem dL_law_222 : decode cL_law 222 = .ok (.if_icmp .eq 641, 3) := by decide +kernel
theorem dL_law_225 : decode cL_law 225 = .ok (.iconst 0, 1) := by decide +kernel
theorem dL_law_226 : decode cL_law 226 = .ok (.ireturn, 1) := by decide +kernel
theorem dL_law_227 : decode cL_law 227 = .ok (.aload_n 1, 1) := by decide +kernel
theorem dL_law_228 : decode cL_law 228 = .ok (.aload_n 0, 1) := by decide +kernel
theorem dL_law_229 : decode cL_law 229 = .ok (.iload_n 3, 1) := by decide +kernel
theorem dL_law_230 : decode cL_law 230 = .ok (.iconst 1, 1) := by decide +kernel
theorem dL_law_231 : decode cL_law 231 = .ok (.iadd, 1) := by decide +kernel
theorem dL_law_232 : decode cL_law 232 = .ok (.iaload, 1) := by decide +kernel
theorem dL_law_233 : decode cL_law 233 = .ok (.aload_n 0, 1) := by decide +kernel
theorem dL_law_234 : decode cL_law 234 = .ok (.iload_n 3, 1) := by decide +kernel
theorem dL_law_235 : decode cL_law 235 = .ok (.iconst 2, 1) := by decide +kernel
theorem dL_law_236 : decode cL_law 236 = .ok (.iadd, 1) := by decide +kernel
theorem dL_law_237 : decode cL_law 237 = .ok (.iaload, 1) := by decide +kernel
theorem dL_law_238 : decode cL_law 238 = .ok (.invokevirtual 18, 3) := by decide +kernel
theorem dL_law_241 : decode cL_law 241 = .ok (.aload_n 2, 1) := by decide +kernel
theorem dL_law_242 : decode cL_law 242 = .ok (.aload_n 0, 1) := by decide +kernel
theorem dL_law_243 : decode cL_law 243 = .ok (.iload_n 3, 1) := by decide +kernel
theorem dL_law_244 : decode cL_law 244 = .ok (.iconst 1, 1) := by decide +kernel
theorem dL_law_245 : decode cL_law 245 = .ok (.iadd, 1) := by decide +kernel
theorem dL_law_246 : decode cL_law 246 = .ok (.iaload, 1) := by decide +kernel
theorem dL_law_247 : decode cL_law 247 = .ok (.aload_n 0, 1) := by decide +kernel
theorem dL_law_248 : decode cL_law 248 = .ok (.iload_n 3, 1) := by decide +kernel
theorem dL_law_249 : decode cL_law 249 = .ok (.iconst 2, 1) := by decide +kernel
theorem dL_law_250 : decode cL_law 250 = .ok (.iadd, 1) := by decide +kernel
theorem dL_law_251 : decode cL_law 251 = .ok (.iaload, 1) := by decide +kernel
theorem dL_law_252 : decode cL_law 252 = .ok (.invokevirtual 22, 3) := by decide +kernel
theorem dL_law_255 : decode cL_law 255 = .ok (.if_icmp .eq 608, 3) := by decide +kernel
theorem dL_law_258 : decode cL_law 258 = .ok (.iconst 0, 1) := by decide +kernel
theorem dL_law_259 : decode cL_law 259 = .ok (.ireturn, 1) := by decide +kernel
theorem dL_law_260 : decode cL_law 260 = .ok (.aload_n 1, 1) := by decide +kernel
theorem dL_law_261 : decode cL_law 261 = .ok (.aload_n 0, 1) := by decide +kernel
theorem dL_law_262 : decode cL_law 262 = .ok (.iload_n 3, 1) := by decide +kernel
theorem dL_law_263 : decode cL_law 263 = .ok (.iconst 1, 1) := by decide +kernel
theorem dL_law_264 : decode cL_law 264 = .ok (.iadd, 1) := by decide +kernel
theorem dL_law_265 : decode cL_law 265 = .ok (.iaload, 1) := by decide +kernel
theorem dL_law_266 : decode cL_law 266 = .ok (.aload_n 0, 1) := by decide +kernel
theorem dL_law_267 : decode cL_law 267 = .ok (.iload_n 3, 1) := by decide +kernel
theorem dL_law_268 : decode cL_law 268 = .ok (.iconst 2, 1) := by decide +kernel
theorem dL_law_269 : decode cL_law 269 = .ok (.iadd, 1) := by decide +kernel
theorem dL_law_270 : decode cL_law 270 = .ok (.iaload, 1) := by decide +kernel
theorem dL_law_271 : decode cL_law 271 = .ok (.invokevirtual 23, 3) := by decide +kernel
theorem dL_law_274 : decode cL_law 274 = .ok (.aload_n 2, 1) := by decide +kernel
theorem dL_law_275 : decode cL_law 275 = .ok (.aload_n 0, 1) := by decide +kernel
theorem dL_law_276 : decode cL_law 276 = .ok (.iload_n 3, 1) := by decide +kernel
theorem dL_law_277 : decode cL_law 277 = .ok (.iconst 1, 1) := by decide +kernel
theorem dL_law_278 : decode cL_law 278 = .ok (.iadd, 1) := by decide +kernel
theorem dL_law_279 : decode cL_law 279 = .ok (.iaload, 1) := by decide +kernel
theorem dL_law_280 : decode cL_law 280 = .ok (.aload_n 0, 1) := by decide +kernel
theorem dL_law_281 : decode cL_law 281 = .ok (.iload_n 3, 1) := by decide +kernel
theorem dL_law_282 : decode cL_law 282 = .ok (.iconst 2, 1) := by decide +kernel
theorem dL_law_283 : decode cL_law 283 = .ok (.iadd, 1) := by decide +kernel
theorem dL_law_284 : decode cL_law 284 = .ok (.iaload, 1) := by decide +kernel
theorem dL_law_285 : decode cL_law 285 = .ok (.invokevirtual 26, 3) := by decide +kernel
theorem dL_law_288 : decode cL_law 288 = .ok (.if_icmp .eq 575, 3) := by decide +kernel
theorem dL_law_291 : decode cL_law 291 = .ok (.iconst 0, 1) := by decide +kernel
theorem dL_law_292 : decode cL_law 292 = .ok (.ireturn, 1) := by decide +kernel
theorem dL_law_293 : decode cL_law 293 = .ok (.aload_n 1, 1) := by decide +kernel
theorem dL_law_294 : decode cL_law 294 = .ok (.aload_n 0, 1) := by decide +kernel
theorem dL_law_295 : decode cL_law 295 = .ok (.iload_n 3, 1) := by decide +kernel
theorem dL_law_296 : decode cL_law 296 = .ok (.iconst 1, 1) := by decide +kernel
theorem dL_law_297 : decode cL_law 297 = .ok (.iadd, 1) := by decide +kernel
theorem dL_law_298 : decode cL_law 298 = .ok (.iaload, 1) := by decide +kernel
theorem dL_law_299 : decode cL_law 299 = .ok (.aload_n 0, 1) := by decide +kernel
theorem dL_law_300 : decode cL_law 300 = .ok (.iload_n 3, 1) := by decide +kernel
theorem dL_law_301 : decode cL_law 301 = .ok (.iconst 2, 1) := by decide +kernel
theorem dL_law_302 : decode cL_law 302 = .ok (.iadd, 1) := by decide +kernel
theorem dL_law_303 : decode cL_law 303 = .ok (.iaload, 1) := by decide +kernel
theorem dL_law_304 : decode cL_law 304 = .ok (.aload_n 0, 1) := by decide +kernel
theorem dL_law_305 : decode cL_law 305 = .ok (.iload_n 3, 1) := by decide +kernel
theorem dL_law_306 : decode cL_law 306 = .ok (.iconst 3, 1) := by decide +kernel
theorem dL_law_307 : decode cL_law 307 = .ok (.iadd, 1) := by decide +kernel
theorem dL_law_308 : decode cL_law 308 = .ok (.iaload, 1) := by decide +kernel
theorem dL_law_309 : decode cL_law 309 = .ok (.aload_n 0, 1) := by decide +kernel
theorem dL_law_310 : decode cL_law 310 = .ok (.iload_n 3, 1) := by decide +kernel
theorem dL_law_311 : decode cL_law 311 = .ok (.iconst 4, 1) := by decide +kernel
theorem dL_law_312 : decode cL_law 312 = .ok (.iadd, 1) := by decide +kernel
theorem dL_law_313 : decode cL_law 313 = .ok (.iaload, 1) := by decide +kernel
theorem dL_law_314 : decode cL_law 314 = .ok (.invokevirtual 27, 3) := by decide +kernel
theorem dL_law_317 : decode cL_law 317 = .ok (.aload_n 2, 1) := by decide +kernel
theorem dL_law_318 : decode cL_law 318 = .ok (.aload_n 0, 1) := by decide +kernel
theorem dL_law_319 : decode cL_law 319 = .ok (.iload_n 3, 1) := by decide +kernel
theorem dL_law_320 : decode cL_law 320 = .ok (.iconst 1, 1) := by decide +kernel
theorem dL_law_321 : decode cL_law 321 = .ok (.iadd, 1) := by decide +kernel
theorem dL_law_322 : decode cL_law 322 = .ok (.iaload, 1) := by decide +kernel
theorem dL_law_323 : decode cL_law 323 = .ok (.aload_n 0, 1) := by decide +kernel
theorem dL_law_324 : decode cL_law 324 = .ok (.iload_n 3, 1) := by decide +kernel
theorem dL_law_325 : decode cL_law 325 = .ok (.iconst 2, 1) := by decide +kernel
theorem dL_law_326 : decode cL_law 326 = .ok (.iadd, 1) := by decide +kernel
theorem dL_law_327 : decode cL_law 327 = .ok (.iaload, 1) := by decide +kernel
theorem dL_law_328 : decode cL_law 328 = .ok (.aload_n 0, 1) := by decide +kernel
theorem dL_law_329 : decode cL_law 329 = .ok (.iload_n 3, 1) := by decide +kernel
theorem dL_law_330 : decode cL_law 330 = .ok (.iconst 3, 1) := by decide +kernel
theorem dL_law_331 : decode cL_law 331 = .ok (.iadd, 1) := by decide +kernel
theorem dL_law_332 : decode cL_law 332 = .ok (.iaload, 1) := by decide +kernel
theorem dL_law_333 : decode cL_law 333 = .ok (.aload_n 0, 1) := by decide +kernel
theorem dL_law_334 : decode cL_law 334 = .ok (.iload_n 3, 1) := by decide +kernel
theorem dL_law_335 : decode cL_law 335 = .ok (.iconst 4, 1) := by decide +kernel
theorem dL_law_336 : decode cL_law 336 = .ok (.iadd, 1) := by decide +kernel
theorem dL_law_337 : decode cL_law 337 = .ok (.iaload, 1) := by decide +kernel
theorem dL_law_338 : decode cL_law 338 = .ok (.invokevirtual 31, 3) := by decide +kernel
theorem dL_law_341 : decode cL_law 341 = .ok (.if_icmp .eq 522, 3) := by decide +kernel
theorem dL_law_344 : decode cL_law 344 = .ok (.iconst 0, 1) := by decide +kernel
theorem dL_law_345 : decode cL_law 345 = .ok (.ireturn, 1) := by decide +kernel
theorem dL_law_346 : decode cL_law 346 = .ok (.aload_n 1, 1) := by decide +kernel
theorem dL_law_347 : decode cL_law 347 = .ok (.aload_n 0, 1) := by decide +kernel
theorem dL_law_348 : decode cL_law 348 = .ok (.iload_n 3, 1) := by decide +kernel
theorem dL_law_349 : decode cL_law 349 = .ok (.iconst 1, 1) := by decide +kernel
theorem dL_law_350 : decode cL_law 350 = .ok (.iadd, 1) := by decide +kernel
theorem dL_law_351 : decode cL_law 351 = .ok (.iaload, 1) := by decide +kernel
theorem dL_law_352 : decode cL_law 352 = .ok (.invokevirtual 32, 3) := by decide +kernel
theorem dL_law_355 : decode cL_law 355 = .ok (.aload_n 2, 1) := by decide +kernel
theorem dL_law_356 : decode cL_law 356 = .ok (.aload_n 0, 1) := by decide +kernel
theorem dL_law_357 : decode cL_law 357 = .ok (.iload_n 3, 1) := by decide +kernel
theorem dL_law_358 : decode cL_law 358 = .ok (.iconst 1, 1) := by decide +kernel
theorem dL_law_359 : decode cL_law 359 = .ok (.iadd, 1) := by decide +kernel
theorem dL_law_360 : decode cL_law 360 = .ok (.iaload, 1) := by decide +kernel
theorem dL_law_361 : decode cL_law 361 = .ok (.invokevirtual 36, 3) := by decide +kernel
theorem dL_law_364 : decode cL_law 364 = .ok (.if_icmp .eq 499, 3) := by decide +kernel
theorem dL_law_367 : decode cL_law 367 = .ok (.iconst 0, 1) := by decide +kernel
theorem dL_law_368 : decode cL_law 368 = .ok (.ireturn, 1) := by decide +kernel
theorem dL_law_369 : decode cL_law 369 = .ok (.aload_n 1, 1) := by decide +kernel
theorem dL_law_370 : decode cL_law 370 = .ok (.aload_n 0, 1) := by decide +kernel
theorem dL_law_371 : decode cL_law 371 = .ok (.iload_n 3, 1) := by decide +kernel
theorem dL_law_372 : decode cL_law 372 = .ok (.iconst 1, 1) := by decide +kernel
theorem dL_law_373 : decode cL_law 373 = .ok (.iadd, 1) := by decide +kernel
theorem dL_law_374 : decode cL_law 374 = .ok (.iaload, 1) := by decide +kernel
theorem dL_law_375 : decode cL_law 375 = .ok (.aload_n 0, 1) := by decide +kernel
theorem dL_law_376 : decode cL_law 376 = .ok (.iload_n 3, 1) := by decide +kernel
theorem dL_law_377 : decode cL_law 377 = .ok (.iconst 2, 1) := by decide +kernel
theorem dL_law_378 : decode cL_law 378 = .ok (.iadd, 1) := by decide +kernel
theorem dL_law_379 : decode cL_law 379 = .ok (.iaload, 1) := by decide +kernel
theorem dL_law_380 : decode cL_law 380 = .ok (.aload_n 0, 1) := by decide +kernel
theorem dL_law_381 : decode cL_law 381 = .ok (.iload_n 3, 1) := by decide +kernel
theorem dL_law_382 : decode cL_law 382 = .ok (.iconst 3, 1) := by decide +kernel
theorem dL_law_383 : decode cL_law 383 = .ok (.iadd, 1) := by decide +kernel
theorem dL_law_384 : decode cL_law 384 = .ok (.iaload, 1) := by decide +kernel
theorem dL_law_385 : decode cL_law 385 = .ok (.invokevirtual 37, 3) := by decide +kernel
theorem dL_law_388 : decode cL_law 388 = .ok (.aload_n 2, 1) := by decide +kernel
theorem dL_law_389 : decode cL_law 389 = .ok (.aload_n 0, 1) := by decide +kernel
theorem dL_law_390 : decode cL_law 390 = .ok (.iload_n 3, 1) := by decide +kernel
theorem dL_law_391 : decode cL_law 391 = .ok (.iconst 1, 1) := by decide +kernel
theorem dL_law_392 : decode cL_law 392 = .ok (.iadd, 1) := by decide +kernel
theorem dL_law_393 : decode cL_law 393 = .ok (.iaload, 1) := by decide +kernel
theorem dL_law_394 : decode cL_law 394 = .ok (.aload_n 0, 1) := by decide +kernel
theorem dL_law_395 : decode cL_law 395 = .ok (.iload_n 3, 1) := by decide +kernel
theorem dL_law_396 : decode cL_law 396 = .ok (.iconst 2, 1) := by decide +kernel
theorem dL_law_397 : decode cL_law 397 = .ok (.iadd, 1) := by decide +kernel
theorem dL_law_398 : decode cL_law 398 = .ok (.iaload, 1) := by decide +kernel
theorem dL_law_399 : decode cL_law 399 = .ok (.aload_n 0, 1) := by decide +kernel
theorem dL_law_400 : decode cL_law 400 = .ok (.iload_n 3, 1) := by decide +kernel
theorem dL_law_401 : decode cL_law 401 = .ok (.iconst 3, 1) := by decide +kernel
theorem dL_law_402 : decode cL_law 402 = .ok (.iadd, 1) := by decide +kernel
theorem dL_law_403 : decode cL_law 403 = .ok (.iaload, 1) := by decide +kernel
theorem dL_law_404 : decode cL_law 404 = .ok (.invokevirtual 41, 3) := by decide +kernel
theorem dL_law_407 : decode cL_law 407 = .ok (.if_icmp .eq 456, 3) := by decide +kernel
theorem dL_law_410 : decode cL_law 410 = .ok (.iconst 0, 1) := by decide +kernel
theorem dL_law_411 : decode cL_law 411 = .ok (.ireturn, 1) := by decide +kernel
theorem dL_law_412 : decode cL_law 412 = .ok (.aload_n 1, 1) := by decide +kernel
theorem dL_law_413 : decode cL_law 413 = .ok (.aload_n 0, 1) := by decide +kernel
theorem dL_law_414 : decode cL_law 414 = .ok (.iload_n 3, 1) := by decide +kernel
theorem dL_law_415 : decode cL_law 415 = .ok (.iconst 1, 1) := by decide +kernel
theorem dL_law_416 : decode cL_law 416 = .ok (.iadd, 1) := by decide +kernel
theorem dL_law_417 : decode cL_law 417 = .ok (.iaload, 1) := by decide +kernel
theorem dL_law_418 : decode cL_law 418 = .ok (.aload_n 0, 1) := by decide +kernel
theorem dL_law_419 : decode cL_law 419 = .ok (.iload_n 3, 1) := by decide +kernel
theorem dL_law_420 : decode cL_law 420 = .ok (.iconst 2, 1) := by decide +kernel
theorem dL_law_421 : decode cL_law 421 = .ok (.iadd, 1) := by decide +kernel
theorem dL_law_422 : decode cL_law 422 = .ok (.iaload, 1) := by decide +kernel
theorem dL_law_423 : decode cL_law 423 = .ok (.invokevirtual 42, 3) := by decide +kernel
theorem dL_law_426 : decode cL_law 426 = .ok (.aload_n 2, 1) := by decide +kernel
theorem dL_law_427 : decode cL_law 427 = .ok (.aload_n 0, 1) := by decide +kernel
theorem dL_law_428 : decode cL_law 428 = .ok (.iload_n 3, 1) := by decide +kernel
theorem dL_law_429 : decode cL_law 429 = .ok (.iconst 1, 1) := by decide +kernel
theorem dL_law_430 : decode cL_law 430 = .ok (.iadd, 1) := by decide +kernel
theorem dL_law_431 : decode cL_law 431 = .ok (.iaload, 1) := by decide +kernel
theorem dL_law_432 : decode cL_law 432 = .ok (.aload_n 0, 1) := by decide +kernel
theorem dL_law_433 : decode cL_law 433 = .ok (.iload_n 3, 1) := by decide +kernel
theorem dL_law_434 : decode cL_law 434 = .ok (.iconst 2, 1) := by decide +kernel
theorem dL_law_435 : decode cL_law 435 = .ok (.iadd, 1) := by decide +kernel
theorem dL_law_436 : decode cL_law 436 = .ok (.iaload, 1) := by decide +kernel
theorem dL_law_437 : decode cL_law 437 = .ok (.invokevirtual 45, 3) := by decide +kernel
theorem dL_law_440 : decode cL_law 440 = .ok (.if_icmp .eq 423, 3) := by decide +kernel
theorem dL_law_443 : decode cL_law 443 = .ok (.iconst 0, 1) := by decide +kernel
theorem dL_law_444 : decode cL_law 444 = .ok (.ireturn, 1) := by decide +kernel
theorem dL_law_445 : decode cL_law 445 = .ok (.aload_n 1, 1) := by decide +kernel
theorem dL_law_446 : decode cL_law 446 = .ok (.invokevirtual 46, 3) := by decide +kernel
theorem dL_law_449 : decode cL_law 449 = .ok (.aload_n 2, 1) := by decide +kernel
theorem dL_law_450 : decode cL_law 450 = .ok (.invokevirtual 50, 3) := by decide +kernel
theorem dL_law_453 : decode cL_law 453 = .ok (.if_icmp .eq 410, 3) := by decide +kernel
theorem dL_law_456 : decode cL_law 456 = .ok (.iconst 0, 1) := by decide +kernel
theorem dL_law_457 : decode cL_law 457 = .ok (.ireturn, 1) := by decide +kernel
theorem dL_law_458 : decode cL_law 458 = .ok (.aload_n 1, 1) := by decide +kernel
theorem dL_law_459 : decode cL_law 459 = .ok (.invokevirtual 51, 3) := by decide +kernel
theorem dL_law_462 : decode cL_law 462 = .ok (.aload_n 2, 1) := by decide +kernel
theorem dL_law_463 : decode cL_law 463 = .ok (.invokevirtual 54, 3) := by decide +kernel
theorem dL_law_466 : decode cL_law 466 = .ok (.if_icmp .eq 397, 3) := by decide +kernel
theorem dL_law_469 : decode cL_law 469 = .ok (.iconst 0, 1) := by decide +kernel
theorem dL_law_470 : decode cL_law 470 = .ok (.ireturn, 1) := by decide +kernel
theorem dL_law_471 : decode cL_law 471 = .ok (.aload_n 1, 1) := by decide +kernel
theorem dL_law_472 : decode cL_law 472 = .ok (.aload_n 0, 1) := by decide +kernel
theorem dL_law_473 : decode cL_law 473 = .ok (.iload_n 3, 1) := by decide +kernel
theorem dL_law_474 : decode cL_law 474 = .ok (.iconst 1, 1) := by decide +kernel
theorem dL_law_475 : decode cL_law 475 = .ok (.iadd, 1) := by decide +kernel
theorem dL_law_476 : decode cL_law 476 = .ok (.iaload, 1) := by decide +kernel
theorem dL_law_477 : decode cL_law 477 = .ok (.aload_n 0, 1) := by decide +kernel
theorem dL_law_478 : decode cL_law 478 = .ok (.iload_n 3, 1) := by decide +kernel
theorem dL_law_479 : decode cL_law 479 = .ok (.iconst 2, 1) := by decide +kernel
theorem dL_law_480 : decode cL_law 480 = .ok (.iadd, 1) := by decide +kernel
theorem dL_law_481 : decode cL_law 481 = .ok (.iaload, 1) := by decide +kernel
theorem dL_law_482 : decode cL_law 482 = .ok (.aload_n 0, 1) := by decide +kernel
theorem dL_law_483 : decode cL_law 483 = .ok (.iload_n 3, 1) := by decide +kernel
theorem dL_law_484 : decode cL_law 484 = .ok (.iconst 3, 1) := by decide +kernel
theorem dL_law_485 : decode cL_law 485 = .ok (.iadd, 1) := by decide +kernel
theorem dL_law_486 : decode cL_law 486 = .ok (.iaload, 1) := by decide +kernel
theorem dL_law_487 : decode cL_law 487 = .ok (.aload_n 0, 1) := by decide +kernel
theorem dL_law_488 : decode cL_law 488 = .ok (.iload_n 3, 1) := by decide +kernel
theorem dL_law_489 : decode cL_law 489 = .ok (.iconst 4, 1) := by decide +kernel
theorem dL_law_490 : decode cL_law 490 = .ok (.iadd, 1) := by decide +kernel
theorem dL_law_491 : decode cL_law 491 = .ok (.iaload, 1) := by decide +kernel
theorem dL_law_492 : decode cL_law 492 = .ok (.invokevirtual 55, 3) := by decide +kernel
theorem dL_law_495 : decode cL_law 495 = .ok (.aload_n 2, 1) := by decide +kernel
theorem dL_law_496 : decode cL_law 496 = .ok (.aload_n 0, 1) := by decide +kernel
theorem dL_law_497 : decode cL_law 497 = .ok (.iload_n 3, 1) := by decide +kernel
theorem dL_law_498 : decode cL_law 498 = .ok (.iconst 1, 1) := by decide +kernel
theorem dL_law_499 : decode cL_law 499 = .ok (.iadd, 1) := by decide +kernel
theorem dL_law_500 : decode cL_law 500 = .ok (.iaload, 1) := by decide +kernel
theorem dL_law_501 : decode cL_law 501 = .ok (.aload_n 0, 1) := by decide +kernel
theorem dL_law_502 : decode cL_law 502 = .ok (.iload_n 3, 1) := by decide +kernel
theorem dL_law_503 : decode cL_law 503 = .ok (.iconst 2, 1) := by decide +kernel
theorem dL_law_504 : decode cL_law 504 = .ok (.iadd, 1) := by decide +kernel
theorem dL_law_505 : decode cL_law 505 = .ok (.iaload, 1) := by decide +kernel
theorem dL_law_506 : decode cL_law 506 = .ok (.aload_n 0, 1) := by decide +kernel
theorem dL_law_507 : decode cL_law 507 = .ok (.iload_n 3, 1) := by decide +kernel
theorem dL_law_508 : decode cL_law 508 = .ok (.iconst 3, 1) := by decide +kernel
theorem dL_law_509 : decode cL_law 509 = .ok (.iadd, 1) := by decide +kernel
theorem dL_law_510 : decode cL_law 510 = .ok (.iaload, 1) := by decide +kernel
theorem dL_law_511 : decode cL_law 511 = .ok (.aload_n 0, 1) := by decide +kernel
theorem dL_law_512 : decode cL_law 512 = .ok (.iload_n 3, 1) := by decide +kernel
theorem dL_law_513 : decode cL_law 513 = .ok (.iconst 4, 1) := by decide +kernel
theorem dL_law_514 : decode cL_law 514 = .ok (.iadd, 1) := by decide +kernel
theorem dL_law_515 : decode cL_law 515 = .ok (.iaload, 1) := by decide +kernel
theorem dL_law_516 : decode cL_law 516 = .ok (.invokevirtual 58, 3) := by decide +kernel
theorem dL_law_519 : decode cL_law 519 = .ok (.if_icmp .eq 344, 3) := by decide +kernel
theorem dL_law_522 : decode cL_law 522 = .ok (.iconst 0, 1) := by decide +kernel
theorem dL_law_523 : decode cL_law 523 = .ok (.ireturn, 1) := by decide +kernel
theorem dL_law_524 : decode cL_law 524 = .ok (.aload_n 1, 1) := by decide +kernel
theorem dL_law_525 : decode cL_law 525 = .ok (.aload_n 0, 1) := by decide +kernel
theorem dL_law_526 : decode cL_law 526 = .ok (.iload_n 3, 1) := by decide +kernel
theorem dL_law_527 : decode cL_law 527 = .ok (.iconst 1, 1) := by decide +kernel
theorem dL_law_528 : decode cL_law 528 = .ok (.iadd, 1) := by decide +kernel
theorem dL_law_529 : decode cL_law 529 = .ok (.iaload, 1) := by decide +kernel
theorem dL_law_530 : decode cL_law 530 = .ok (.invokevirtual 59, 3) := by decide +kernel
theorem dL_law_533 : decode cL_law 533 = .ok (.aload_n 2, 1) := by decide +kernel
theorem dL_law_534 : decode cL_law 534 = .ok (.aload_n 0, 1) := by decide +kernel
theorem dL_law_535 : decode cL_law 535 = .ok (.iload_n 3, 1) := by decide +kernel
theorem dL_law_536 : decode cL_law 536 = .ok (.iconst 1, 1) := by decide +kernel
theorem dL_law_537 : decode cL_law 537 = .ok (.iadd, 1) := by decide +kernel
theorem dL_law_538 : decode cL_law 538 = .ok (.iaload, 1) := by decide +kernel
theorem dL_law_539 : decode cL_law 539 = .ok (.invokevirtual 62, 3) := by decide +kernel
theorem dL_law_542 : decode cL_law 542 = .ok (.if_icmp .eq 321, 3) := by decide +kernel
theorem dL_law_545 : decode cL_law 545 = .ok (.iconst 0, 1) := by decide +kernel
theorem dL_law_546 : decode cL_law 546 = .ok (.ireturn, 1) := by decide +kernel
theorem dL_law_547 : decode cL_law 547 = .ok (.aload_n 1, 1) := by decide +kernel
theorem dL_law_548 : decode cL_law 548 = .ok (.aload_n 0, 1) := by decide +kernel
theorem dL_law_549 : decode cL_law 549 = .ok (.iload_n 3, 1) := by decide +kernel
theorem dL_law_550 : decode cL_law 550 = .ok (.iconst 1, 1) := by decide +kernel
theorem dL_law_551 : decode cL_law 551 = .ok (.iadd, 1) := by decide +kernel
theorem dL_law_552 : decode cL_law 552 = .ok (.iaload, 1) := by decide +kernel
theorem dL_law_553 : decode cL_law 553 = .ok (.invokevirtual 63, 3) := by decide +kernel
theorem dL_law_556 : decode cL_law 556 = .ok (.aload_n 2, 1) := by decide +kernel
theorem dL_law_557 : decode cL_law 557 = .ok (.aload_n 0, 1) := by decide +kernel
theorem dL_law_558 : decode cL_law 558 = .ok (.iload_n 3, 1) := by decide +kernel
theorem dL_law_559 : decode cL_law 559 = .ok (.iconst 1, 1) := by decide +kernel
theorem dL_law_560 : decode cL_law 560 = .ok (.iadd, 1) := by decide +kernel
theorem dL_law_561 : decode cL_law 561 = .ok (.iaload, 1) := by decide +kernel
theorem dL_law_562 : decode cL_law 562 = .ok (.invokevirtual 66, 3) := by decide +kernel
theorem dL_law_565 : decode cL_law 565 = .ok (.if_icmp .eq 298, 3) := by decide +kernel
theorem dL_law_568 : decode cL_law 568 = .ok (.iconst 0, 1) := by decide +kernel
theorem dL_law_569 : decode cL_law 569 = .ok (.ireturn, 1) := by decide +kernel
theorem dL_law_570 : decode cL_law 570 = .ok (.aload_n 1, 1) := by decide +kernel
theorem dL_law_571 : decode cL_law 571 = .ok (.aload_n 0, 1) := by decide +kernel
theorem dL_law_572 : decode cL_law 572 = .ok (.iload_n 3, 1) := by decide +kernel
theorem dL_law_573 : decode cL_law 573 = .ok (.iconst 1, 1) := by decide +kernel
theorem dL_law_574 : decode cL_law 574 = .ok (.iadd, 1) := by decide +kernel
theorem dL_law_575 : decode cL_law 575 = .ok (.iaload, 1) := by decide +kernel
theorem dL_law_576 : decode cL_law 576 = .ok (.invokevirtual 67, 3) := by decide +kernel
theorem dL_law_579 : decode cL_law 579 = .ok (.aload_n 2, 1) := by decide +kernel
theorem dL_law_580 : decode cL_law 580 = .ok (.aload_n 0, 1) := by decide +kernel
theorem dL_law_581 : decode cL_law 581 = .ok (.iload_n 3, 1) := by decide +kernel
theorem dL_law_582 : decode cL_law 582 = .ok (.iconst 1, 1) := by decide +kernel
theorem dL_law_583 : decode cL_law 583 = .ok (.iadd, 1) := by decide +kernel
theorem dL_law_584 : decode cL_law 584 = .ok (.iaload, 1) := by decide +kernel
theorem dL_law_585 : decode cL_law 585 = .ok (.invokevirtual 70, 3) := by decide +kernel
theorem dL_law_588 : decode cL_law 588 = .ok (.if_icmp .eq 275, 3) := by decide +kernel
theorem dL_law_591 : decode cL_law 591 = .ok (.iconst 0, 1) := by decide +kernel
theorem dL_law_592 : decode cL_law 592 = .ok (.ireturn, 1) := by decide +kernel
theorem dL_law_593 : decode cL_law 593 = .ok (.aload_n 1, 1) := by decide +kernel
theorem dL_law_594 : decode cL_law 594 = .ok (.aload_n 0, 1) := by decide +kernel
theorem dL_law_595 : decode cL_law 595 = .ok (.iload_n 3, 1) := by decide +kernel
theorem dL_law_596 : decode cL_law 596 = .ok (.iconst 1, 1) := by decide +kernel
theorem dL_law_597 : decode cL_law 597 = .ok (.iadd, 1) := by decide +kernel
theorem dL_law_598 : decode cL_law 598 = .ok (.iaload, 1) := by decide +kernel
theorem dL_law_599 : decode cL_law 599 = .ok (.invokevirtual 71, 3) := by decide +kernel
theorem dL_law_602 : decode cL_law 602 = .ok (.aload_n 2, 1) := by decide +kernel
theorem dL_law_603 : decode cL_law 603 = .ok (.aload_n 0, 1) := by decide +kernel
theorem dL_law_604 : decode cL_law 604 = .ok (.iload_n 3, 1) := by decide +kernel
theorem dL_law_605 : decode cL_law 605 = .ok (.iconst 1, 1) := by decide +kernel
theorem dL_law_606 : decode cL_law 606 = .ok (.iadd, 1) := by decide +kernel
theorem dL_law_607 : decode cL_law 607 = .ok (.iaload, 1) := by decide +kernel
theorem dL_law_608 : decode cL_law 608 = .ok (.invokevirtual 74, 3) := by decide +kernel
theorem dL_law_611 : decode cL_law 611 = .ok (.if_icmp .eq 252, 3) := by decide +kernel
theorem dL_law_614 : decode cL_law 614 = .ok (.iconst 0, 1) := by decide +kernel
theorem dL_law_615 : decode cL_law 615 = .ok (.ireturn, 1) := by decide +kernel
theorem dL_law_616 : decode cL_law 616 = .ok (.aload_n 1, 1) := by decide +kernel
theorem dL_law_617 : decode cL_law 617 = .ok (.aload_n 0, 1) := by decide +kernel
theorem dL_law_618 : decode cL_law 618 = .ok (.iload_n 3, 1) := by decide +kernel
theorem dL_law_619 : decode cL_law 619 = .ok (.iconst 1, 1) := by decide +kernel
theorem dL_law_620 : decode cL_law 620 = .ok (.iadd, 1) := by decide +kernel
theorem dL_law_621 : decode cL_law 621 = .ok (.iaload, 1) := by decide +kernel
theorem dL_law_622 : decode cL_law 622 = .ok (.aload_n 0, 1) := by decide +kernel
theorem dL_law_623 : decode cL_law 623 = .ok (.iload_n 3, 1) := by decide +kernel
theorem dL_law_624 : decode cL_law 624 = .ok (.iconst 2, 1) := by decide +kernel
theorem dL_law_625 : decode cL_law 625 = .ok (.iadd, 1) := by decide +kernel
theorem dL_law_626 : decode cL_law 626 = .ok (.iaload, 1) := by decide +kernel
theorem dL_law_627 : decode cL_law 627 = .ok (.invokevirtual 75, 3) := by decide +kernel
theorem dL_law_630 : decode cL_law 630 = .ok (.aload_n 2, 1) := by decide +kernel
theorem dL_law_631 : decode cL_law 631 = .ok (.aload_n 0, 1) := by decide +kernel
theorem dL_law_632 : decode cL_law 632 = .ok (.iload_n 3, 1) := by decide +kernel
theorem dL_law_633 : decode cL_law 633 = .ok (.iconst 1, 1) := by decide +kernel
theorem dL_law_634 : decode cL_law 634 = .ok (.iadd, 1) := by decide +kernel
theorem dL_law_635 : decode cL_law 635 = .ok (.iaload, 1) := by decide +kernel
theorem dL_law_636 : decode cL_law 636 = .ok (.aload_n 0, 1) := by decide +kernel
theorem dL_law_637 : decode cL_law 637 = .ok (.iload_n 3, 1) := by decide +kernel
theorem dL_law_638 : decode cL_law 638 = .ok (.iconst 2, 1) := by decide +kernel
theorem dL_law_639 : decode cL_law 639 = .ok (.iadd, 1) := by decide +kernel
theorem dL_law_640 : decode cL_law 640 = .ok (.iaload, 1) := by decide +kernel
theorem dL_law_641 : decode cL_law 641 = .ok (.invokevirtual 78, 3) := by decide +kernel
theorem dL_law_644 : decode cL_law 644 = .ok (.if_icmp .eq 219, 3) := by decide +kernel
theorem dL_law_647 : decode cL_law 647 = .ok (.iconst 0, 1) := by decide +kernel
theorem dL_law_648 : decode cL_law 648 = .ok (.ireturn, 1) := by decide +kernel
theorem dL_law_649 : decode cL_law 649 = .ok (.aload_n 1, 1) := by decide +kernel
theorem dL_law_650 : decode cL_law 650 = .ok (.aload_n 0, 1) := by decide +kernel
theorem dL_law_651 : decode cL_law 651 = .ok (.iload_n 3, 1) := by decide +kernel
theorem dL_law_652 : decode cL_law 652 = .ok (.iconst 1, 1) := by decide +kernel
theorem dL_law_653 : decode cL_law 653 = .ok (.iadd, 1) := by decide +kernel
theorem dL_law_654 : decode cL_law 654 = .ok (.iaload, 1) := by decide +kernel
theorem dL_law_655 : decode cL_law 655 = .ok (.aload_n 0, 1) := by decide +kernel
theorem dL_law_656 : decode cL_law 656 = .ok (.iload_n 3, 1) := by decide +kernel
theorem dL_law_657 : decode cL_law 657 = .ok (.iconst 2, 1) := by decide +kernel
theorem dL_law_658 : decode cL_law 658 = .ok (.iadd, 1) := by decide +kernel
theorem dL_law_659 : decode cL_law 659 = .ok (.iaload, 1) := by decide +kernel
theorem dL_law_660 : decode cL_law 660 = .ok (.invokevirtual 79, 3) := by decide +kernel
theorem dL_law_663 : decode cL_law 663 = .ok (.aload_n 2, 1) := by decide +kernel
theorem dL_law_664 : decode cL_law 664 = .ok (.aload_n 0, 1) := by decide +kernel
theorem dL_law_665 : decode cL_law 665 = .ok (.iload_n 3, 1) := by decide +kernel
theorem dL_law_666 : decode cL_law 666 = .ok (.iconst 1, 1) := by decide +kernel
theorem dL_law_667 : decode cL_law 667 = .ok (.iadd, 1) := by decide +kernel
theorem dL_law_668 : decode cL_law 668 = .ok (.iaload, 1) := by decide +kernel
theorem dL_law_669 : decode cL_law 669 = .ok (.aload_n 0, 1) := by decide +kernel
theorem dL_law_670 : decode cL_law 670 = .ok (.iload_n 3, 1) := by decide +kernel
theorem dL_law_671 : decode cL_law 671 = .ok (.iconst 2, 1) := by decide +kernel
theorem dL_law_672 : decode cL_law 672 = .ok (.iadd, 1) := by decide +kernel
theorem dL_law_673 : decode cL_law 673 = .ok (.iaload, 1) := by decide +kernel
theorem dL_law_674 : decode cL_law 674 = .ok (.invokevirtual 82, 3) := by decide +kernel
theorem dL_law_677 : decode cL_law 677 = .ok (.if_icmp .eq 186, 3) := by decide +kernel
theorem dL_law_680 : decode cL_law 680 = .ok (.iconst 0, 1) := by decide +kernel
theorem dL_law_681 : decode cL_law 681 = .ok (.ireturn, 1) := by decide +kernel
theorem dL_law_682 : decode cL_law 682 = .ok (.aload_n 1, 1) := by decide +kernel
theorem dL_law_683 : decode cL_law 683 = .ok (.aload_n 0, 1) := by decide +kernel
theorem dL_law_684 : decode cL_law 684 = .ok (.iload_n 3, 1) := by decide +kernel
theorem dL_law_685 : decode cL_law 685 = .ok (.iconst 1, 1) := by decide +kernel
theorem dL_law_686 : decode cL_law 686 = .ok (.iadd, 1) := by decide +kernel
theorem dL_law_687 : decode cL_law 687 = .ok (.iaload, 1) := by decide +kernel
theorem dL_law_688 : decode cL_law 688 = .ok (.invokevirtual 83, 3) := by decide +kernel
theorem dL_law_691 : decode cL_law 691 = .ok (.aload_n 2, 1) := by decide +kernel
theorem dL_law_692 : decode cL_law 692 = .ok (.aload_n 0, 1) := by decide +kernel
theorem dL_law_693 : decode cL_law 693 = .ok (.iload_n 3, 1) := by decide +kernel
theorem dL_law_694 : decode cL_law 694 = .ok (.iconst 1, 1) := by decide +kernel
theorem dL_law_695 : decode cL_law 695 = .ok (.iadd, 1) := by decide +kernel
theorem dL_law_696 : decode cL_law 696 = .ok (.iaload, 1) := by decide +kernel
theorem dL_law_697 : decode cL_law 697 = .ok (.invokevirtual 86, 3) := by decide +kernel
theorem dL_law_700 : decode cL_law 700 = .ok (.if_icmp .eq 163, 3) := by decide +kernel
theorem dL_law_703 : decode cL_law 703 = .ok (.iconst 0, 1) := by decide +kernel
theorem dL_law_704 : decode cL_law 704 = .ok (.ireturn, 1) := by decide +kernel
theorem dL_law_705 : decode cL_law 705 = .ok (.aload_n 1, 1) := by decide +kernel
theorem dL_law_706 : decode cL_law 706 = .ok (.invokevirtual 87, 3) := by decide +kernel
theorem dL_law_709 : decode cL_law 709 = .ok (.aload_n 2, 1) := by decide +kernel
theorem dL_law_710 : decode cL_law 710 = .ok (.invokevirtual 90, 3) := by decide +kernel
theorem dL_law_713 : decode cL_law 713 = .ok (.if_icmp .eq 150, 3) := by decide +kernel
theorem dL_law_716 : decode cL_law 716 = .ok (.iconst 0, 1) := by decide +kernel
theorem dL_law_717 : decode cL_law 717 = .ok (.ireturn, 1) := by decide +kernel
theorem dL_law_718 : decode cL_law 718 = .ok (.aload_n 1, 1) := by decide +kernel
theorem dL_law_719 : decode cL_law 719 = .ok (.aload_n 0, 1) := by decide +kernel
theorem dL_law_720 : decode cL_law 720 = .ok (.iload_n 3, 1) := by decide +kernel
theorem dL_law_721 : decode cL_law 721 = .ok (.iconst 1, 1) := by decide +kernel
theorem dL_law_722 : decode cL_law 722 = .ok (.iadd, 1) := by decide +kernel
theorem dL_law_723 : decode cL_law 723 = .ok (.iaload, 1) := by decide +kernel
theorem dL_law_724 : decode cL_law 724 = .ok (.aload_n 0, 1) := by decide +kernel
theorem dL_law_725 : decode cL_law 725 = .ok (.iload_n 3, 1) := by decide +kernel
theorem dL_law_726 : decode cL_law 726 = .ok (.iconst 2, 1) := by decide +kernel
theorem dL_law_727 : decode cL_law 727 = .ok (.iadd, 1) := by decide +kernel
theorem dL_law_728 : decode cL_law 728 = .ok (.iaload, 1) := by decide +kernel
theorem dL_law_729 : decode cL_law 729 = .ok (.invokevirtual 91, 3) := by decide +kernel
theorem dL_law_732 : decode cL_law 732 = .ok (.aload_n 2, 1) := by decide +kernel
theorem dL_law_733 : decode cL_law 733 = .ok (.aload_n 0, 1) := by decide +kernel
theorem dL_law_734 : decode cL_law 734 = .ok (.iload_n 3, 1) := by decide +kernel
theorem dL_law_735 : decode cL_law 735 = .ok (.iconst 1, 1) := by decide +kernel
theorem dL_law_736 : decode cL_law 736 = .ok (.iadd, 1) := by decide +kernel
theorem dL_law_737 : decode cL_law 737 = .ok (.iaload, 1) := by decide +kernel
theorem dL_law_738 : decode cL_law 738 = .ok (.aload_n 0, 1) := by decide +kernel
theorem dL_law_739 : decode cL_law 739 = .ok (.iload_n 3, 1) := by decide +kernel
theorem dL_law_740 : decode cL_law 740 = .ok (.iconst 2, 1) := by decide +kernel
theorem dL_law_741 : decode cL_law 741 = .ok (.iadd, 1) := by decide +kernel
theorem dL_law_742 : decode cL_law 742 = .ok (.iaload, 1) := by decide +kernel
theorem dL_law_743 : decode cL_law 743 = .ok (.invokevirtual 94, 3) := by decide +kernel
theorem dL_law_746 : decode cL_law 746 = .ok (.if_icmp .eq 117, 3) := by decide +kernel
theorem dL_law_749 : decode cL_law 749 = .ok (.iconst 0, 1) := by decide +kernel
theorem dL_law_750 : decode cL_law 750 = .ok (.ireturn, 1) := by decide +kernel
theorem dL_law_751 : decode cL_law 751 = .ok (.aload_n 1, 1) := by decide +kernel
theorem dL_law_752 : decode cL_law 752 = .ok (.aload_n 0, 1) := by decide +kernel
theorem dL_law_753 : decode cL_law 753 = .ok (.iload_n 3, 1) := by decide +kernel
theorem dL_law_754 : decode cL_law 754 = .ok (.iconst 1, 1) := by decide +kernel
theorem dL_law_755 : decode cL_law 755 = .ok (.iadd, 1) := by decide +kernel
theorem dL_law_756 : decode cL_law 756 = .ok (.iaload, 1) := by decide +kernel
theorem dL_law_757 : decode cL_law 757 = .ok (.aload_n 0, 1) := by decide +kernel
theorem dL_law_758 : decode cL_law 758 = .ok (.iload_n 3, 1) := by decide +kernel
theorem dL_law_759 : decode cL_law 759 = .ok (.iconst 2, 1) := by decide +kernel
theorem dL_law_760 : decode cL_law 760 = .ok (.iadd, 1) := by decide +kernel
theorem dL_law_761 : decode cL_law 761 = .ok (.iaload, 1) := by decide +kernel
theorem dL_law_762 : decode cL_law 762 = .ok (.aload_n 0, 1) := by decide +kernel
theorem dL_law_763 : decode cL_law 763 = .ok (.iload_n 3, 1) := by decide +kernel
theorem dL_law_764 : decode cL_law 764 = .ok (.iconst 3, 1) := by decide +kernel
theorem dL_law_765 : decode cL_law 765 = .ok (.iadd, 1) := by decide +kernel
theorem dL_law_766 : decode cL_law 766 = .ok (.iaload, 1) := by decide +kernel
theorem dL_law_767 : decode cL_law 767 = .ok (.invokevirtual 95, 3) := by decide +kernel
theorem dL_law_770 : decode cL_law 770 = .ok (.aload_n 2, 1) := by decide +kernel
theorem dL_law_771 : decode cL_law 771 = .ok (.aload_n 0, 1) := by decide +kernel
theorem dL_law_772 : decode cL_law 772 = .ok (.iload_n 3, 1) := by decide +kernel
theorem dL_law_773 : decode cL_law 773 = .ok (.iconst 1, 1) := by decide +kernel
theorem dL_law_774 : decode cL_law 774 = .ok (.iadd, 1) := by decide +kernel
theorem dL_law_775 : decode cL_law 775 = .ok (.iaload, 1) := by decide +kernel
theorem dL_law_776 : decode cL_law 776 = .ok (.aload_n 0, 1) := by decide +kernel
theorem dL_law_777 : decode cL_law 777 = .ok (.iload_n 3, 1) := by decide +kernel
theorem dL_law_778 : decode cL_law 778 = .ok (.iconst 2, 1) := by decide +kernel
theorem dL_law_779 : decode cL_law 779 = .ok (.iadd, 1) := by decide +kernel
theorem dL_law_780 : decode cL_law 780 = .ok (.iaload, 1) := by decide +kernel
theorem dL_law_781 : decode cL_law 781 = .ok (.aload_n 0, 1) := by decide +kernel
theorem dL_law_782 : decode cL_law 782 = .ok (.iload_n 3, 1) := by decide +kernel
theorem dL_law_783 : decode cL_law 783 = .ok (.iconst 3, 1) := by decide +kernel
theorem dL_law_784 : decode cL_law 784 = .ok (.iadd, 1) := by decide +kernel
theorem dL_law_785 : decode cL_law 785 = .ok (.iaload, 1) := by decide +kernel
theorem dL_law_786 : decode cL_law 786 = .ok (.invokevirtual 98, 3) := by decide +kernel
theorem dL_law_789 : decode cL_law 789 = .ok (.if_icmp .eq 74, 3) := by decide +kernel
theorem dL_law_792 : decode cL_law 792 = .ok (.iconst 0, 1) := by decide +kernel
theorem dL_law_793 : decode cL_law 793 = .ok (.ireturn, 1) := by decide +kernel
theorem dL_law_794 : decode cL_law 794 = .ok (.aload_n 1, 1) := by decide +kernel
theorem dL_law_795 : decode cL_law 795 = .ok (.aload_n 0, 1) := by decide +kernel
theorem dL_law_796 : decode cL_law 796 = .ok (.iload_n 3, 1) := by decide +kernel
theorem dL_law_797 : decode cL_law 797 = .ok (.iconst 1, 1) := by decide +kernel
theorem dL_law_798 : decode cL_law 798 = .ok (.iadd, 1) := by decide +kernel
theorem dL_law_799 : decode cL_law 799 = .ok (.iaload, 1) := by decide +kernel
theorem dL_law_800 : decode cL_law 800 = .ok (.invokevirtual 99, 3) := by decide +kernel
theorem dL_law_803 : decode cL_law 803 = .ok (.aload_n 2, 1) := by decide +kernel
theorem dL_law_804 : decode cL_law 804 = .ok (.aload_n 0, 1) := by decide +kernel
theorem dL_law_805 : decode cL_law 805 = .ok (.iload_n 3, 1) := by decide +kernel
theorem dL_law_806 : decode cL_law 806 = .ok (.iconst 1, 1) := by decide +kernel
theorem dL_law_807 : decode cL_law 807 = .ok (.iadd, 1) := by decide +kernel
theorem dL_law_808 : decode cL_law 808 = .ok (.iaload, 1) := by decide +kernel
theorem dL_law_809 : decode cL_law 809 = .ok (.invokevirtual 102, 3) := by decide +kernel
theorem dL_law_812 : decode cL_law 812 = .ok (.if_icmp .eq 51, 3) := by decide +kernel
theorem dL_law_815 : decode cL_law 815 = .ok (.iconst 0, 1) := by decide +kernel
theorem dL_law_816 : decode cL_law 816 = .ok (.ireturn, 1) := by decide +kernel
theorem dL_law_817 : decode cL_law 817 = .ok (.aload_n 1, 1) := by decide +kernel
theorem dL_law_818 : decode cL_law 818 = .ok (.aload_n 0, 1) := by decide +kernel
theorem dL_law_819 : decode cL_law 819 = .ok (.iload_n 3, 1) := by decide +kernel
theorem dL_law_820 : decode cL_law 820 = .ok (.iconst 1, 1) := by decide +kernel
theorem dL_law_821 : decode cL_law 821 = .ok (.iadd, 1) := by decide +kernel
theorem dL_law_822 : decode cL_law 822 = .ok (.iaload, 1) := by decide +kernel
theorem dL_law_823 : decode cL_law 823 = .ok (.invokevirtual 103, 3) := by decide +kernel
theorem dL_law_826 : decode cL_law 826 = .ok (.aload_n 2, 1) := by decide +kernel
theorem dL_law_827 : decode cL_law 827 = .ok (.aload_n 0, 1) := by decide +kernel
theorem dL_law_828 : decode cL_law 828 = .ok (.iload_n 3, 1) := by decide +kernel
theorem dL_law_829 : decode cL_law 829 = .ok (.iconst 1, 1) := by decide +kernel
theorem dL_law_830 : decode cL_law 830 = .ok (.iadd, 1) := by decide +kernel
theorem dL_law_831 : decode cL_law 831 = .ok (.iaload, 1) := by decide +kernel
theorem dL_law_832 : decode cL_law 832 = .ok (.invokevirtual 106, 3) := by decide +kernel
theorem dL_law_835 : decode cL_law 835 = .ok (.if_icmp .eq 28, 3) := by decide +kernel
theorem dL_law_838 : decode cL_law 838 = .ok (.iconst 0, 1) := by decide +kernel
theorem dL_law_839 : decode cL_law 839 = .ok (.ireturn, 1) := by decide +kernel
theorem dL_law_840 : decode cL_law 840 = .ok (.aload_n 1, 1) := by decide +kernel
theorem dL_law_841 : decode cL_law 841 = .ok (.aload_n 0, 1) := by decide +kernel
theorem dL_law_842 : decode cL_law 842 = .ok (.iload_n 3, 1) := by decide +kernel
theorem dL_law_843 : decode cL_law 843 = .ok (.iconst 1, 1) := by decide +kernel
theorem dL_law_844 : decode cL_law 844 = .ok (.iadd, 1) := by decide +kernel
theorem dL_law_845 : decode cL_law 845 = .ok (.iaload, 1) := by decide +kernel
theorem dL_law_846 : decode cL_law 846 = .ok (.invokevirtual 107, 3) := by decide +kernel
theorem dL_law_849 : decode cL_law 849 = .ok (.aload_n 2, 1) := by decide +kernel
theorem dL_law_850 : decode cL_law 850 = .ok (.aload_n 0, 1) := by decide +kernel
theorem dL_law_851 : decode cL_law 851 = .ok (.iload_n 3, 1) := by decide +kernel
theorem dL_law_852 : decode cL_law 852 = .ok (.iconst 1, 1) := by decide +kernel
theorem dL_law_853 : decode cL_law 853 = .ok (.iadd, 1) := by decide +kernel
theorem dL_law_854 : decode cL_law 854 = .ok (.iaload, 1) := by decide +kernel
theorem dL_law_855 : decode cL_law 855 = .ok (.invokevirtual 110, 3) := by decide +kernel
theorem dL_law_858 : decode cL_law 858 = .ok (.if_icmp .eq 5, 3) := by decide +kernel
theorem dL_law_861 : decode cL_law 861 = .ok (.iconst 0, 1) := by decide +kernel
theorem dL_law_862 : decode cL_law 862 = .ok (.ireturn, 1) := by decide +kernel
theorem dL_law_863 : decode cL_law 863 = .ok (.iinc 3 8, 3) := by decide +kernel
theorem dL_law_866 : decode cL_law 866 = .ok (.goto (-848), 3) := by decide +kernel
theorem dL_law_869 : decode cL_law 869 = .ok (.iconst 1, 1) := by decide +kernel
theorem dL_law_870 : decode cL_law 870 = .ok (.ireturn, 1) := by decide +kernel
end
section
/-! ===== the plain world: cells by their numbers from a base on; the judgement At ===== -/
abbrev PC : Type := (Nat × vp_A) ⊕ (Nat × List Value)
def tv (B : Nat × Nat) (v : Value) : Value := match v with
  | .ref k => .ref (B.1 + k)
  | .retAddr _ => .ref B.2
  | w => w
def tA (b : Nat) (a : vp_A) : vp_A := (a.1, match a.2 with
  | .inr (.inr (.inr (.inr g))) => .inr (.inr (.inr (.inr (fun i => (g i).map (fun k => b + k)))))
  | x => x)
def tE (cy : Nat → ClassId) (B : Nat × Nat) (c : PC) : va_E := match c with
  | .inl a => .inl (cy a.1, tA B.1 a.2)
  | .inr o => .inr (o.1, o.2.map (tv B))
def wo (cy : Nat → ClassId) (B : Nat × Nat) (h : List PC) : va_W := h.mapIdx (fun k c => (B.1 + k, tE cy B c))
abbrev clz : List vw_C := [(RX0, TX0, 7), (RX1, TX1, 3), (RX2, TX2, 6), (RX3, TX3, 6), (RX4, TX4, 3), (RX5, TX5, 8), (RX6, TX6, 3), (RX7, TX7, 5), (RX8, TX8, 4), (RX9, TX9, 2), (RX10, TX10, 8), (RX11, TX11, 11), (RX12, TX12, 40)]
abbrev tyl (cy : Nat → ClassId) : List (ClassId × FieldType) := [(cy 0, .int), (cy 1, .long), (cy 2, .boolean), (cy 3, .array .int)]
theorem wo_get {cy : Nat → ClassId} {B : Nat × Nat} {h : List PC} {k : Nat} {c : PC} (e : h[k]? = some c) : (wo cy B h)[k]? = some (B.1 + k, tE cy B c) := by
  unfold wo; rw [List.getElem?_mapIdx, e]; rfl
theorem wo_get' {cy : Nat → ClassId} {B : Nat × Nat} {h : List PC} {k : Nat} {q : Nat × va_E} (e : (wo cy B h)[k]? = some q) : q.1 = B.1 + k ∧ k < h.length := by
  unfold wo at e
  rw [List.getElem?_mapIdx] at e
  cases hk : h[k]? with
  | none => rw [hk] at e; cases e
  | some c =>
    rw [hk] at e; cases e
    exact ⟨rfl, (List.getElem?_eq_some_iff.mp hk).1⟩
theorem wo_set (cy : Nat → ClassId) (B : Nat × Nat) (h : List PC) (k : Nat) (c : PC) : (wo cy B h).set k (B.1 + k, tE cy B c) = wo cy B (h.set k c) := by
  apply List.ext_getElem?
  intro j
  unfold wo
  rw [List.getElem?_mapIdx, List.getElem?_set, List.getElem?_set, List.getElem?_mapIdx, List.length_mapIdx]
  by_cases hj : k = j
  · subst hj
    by_cases hl : k < h.length <;> simp [hl]
  · simp [hj]
theorem wo_push (cy : Nat → ClassId) (B : Nat × Nat) (h : List PC) (c : PC) : wo cy B (h ++ [c]) = wo cy B h ++ [(B.1 + h.length, tE cy B c)] := by
  unfold wo
  rw [List.mapIdx_append]
  simp
theorem wo_D {cy : Nat → ClassId} {B : Nat × Nat} {h : List PC} : va_D (fun q => B.1 ≤ q) (wo cy B h) := by
  refine ⟨fun i j p q hi hj e => ?_, fun k q hk => ?_⟩
  · have h1 := (wo_get' hi).1
    have h2 := (wo_get' hj).1
    omega
  · have h1 := (wo_get' hk).1
    show B.1 ≤ q.1
    omega
/-- the good words -/
def gw : List Cond := lw_tbl.filter goodWord
theorem gw_in {w : Cond} (i : Nat) (h : lw_tbl[i]? = some w) (g : goodWord w = true) : w ∈ gw := List.mem_filter.mpr ⟨List.mem_of_getElem? h, g⟩
theorem gw_good {big : List Cond} (h : ∀ w ∈ gw, w ∈ big) : GoodIn big gw := fun w hw => ⟨h w hw, good_of_word (List.mem_filter.mp hw).2⟩
/-- a method: its name, bytes, locals, answer, room -/
abbrev MI : Type := MethodName × ByteArray × Nat × Option FieldType × Room
abbrev rmOf (M : MI) : Room := M.2.2.2.2
def mw (M : MI) : List Cond := Cond.code M.1 M.2.1 M.2.2.1 M.2.2.2.1 :: gw
def CX (M : MI) (p : Program) (s : State) (m : MethodId) (args : Array Value) (meth : Method) (c : Code) : Prop :=
  p.tables.exec = Jvm.exec ∧ c.code = M.2.1 ∧ c.maxLocals = M.2.2.1 ∧ meth.sig.returnType = M.2.2.2.1 ∧ s.vm.findClass M.1.cls = some m.cls ∧ (∀ w ∈ gw, w.before args s = true) ∧ meth.locks = false ∧ meth.name = M.1.name
def nst (w : Cond) : Bool := match w with
  | .methodLinkNest _ _ _ _ => true
  | _ => false
def KK (D : va_G) (cy : Nat → ClassId) (s : State) : Prop := va_K D clz (tyl cy) s ∧ (∀ w ∈ lw_tbl, nst w = true → va_Nw w s) ∧ (Cond.arrayOver (.array .int)).before #[] s = true
def WO (D : va_G) (cy : Nat → ClassId) (B : Nat × Nat) (h : List PC) (H : Heap) : Prop := va_P D clz (wo cy B h) H ∧ H.size = B.1 + h.length
def LO (B : Nat × Nat) (nL : Nat) (L : List Value) (ls : Array Slot) : Prop := ls.size = nL ∧ L.length = nL ∧ lv_wf ls ∧ ∀ (i : Nat) (v : Value), L[i]? = some v → v ≠ .null → ls[i]? = some (.val (tv B v))
abbrev ZT : Type := List Frame → Array Value → State → va_G → (Nat → ClassId) → Nat × Nat → State → Prop
abbrev GT : Type := State → Nat × Nat → Prop
def T0 : GT := fun _ _ => True
def At (M : MI) (G : GT) (pc : Nat) (L st : List Value) (h : List PC) (cs sl : Nat) (Z : ZT) : Prop :=
  ∀ (l : Launch) (p : Program) (e : Env) (s : State) (m : MethodId) (args : Array Value) (below : List Frame) (meth : Method) (c : Code) (D : va_G) (cy : Nat → ClassId) (B : Nat × Nat) (H : Heap) (locs : List Loc) (ls : Array Slot),
    CX M p s m args meth c → KK D cy s → G s B → B.1 ≤ s.heap.size → WO D cy B h H → va_S (fun q => B.1 ≤ q) s.heap H locs → LO B M.2.2.1 L ls →
    W p l e (rmOf M) s m args below meth c H locs cs sl (Z below args s D cy B) (F0 m pc ls (st.map (tv B)))
def QQ (D : va_G) (cy : Nat → ClassId) (B : Nat × Nat) (Q : Option Value → List PC → Prop) : Array Value → State → Outcome → State → Prop := fun _ st oc t =>
  (∃ (r : Option Value) (h : List PC), oc = .returned (r.map (tv B)) ∧ Q r h ∧ WO D cy B h t.heap) ∧ va_F (fun q => B.1 ≤ q) st t
def ZM (M : MI) (Q : Option Value → List PC → Prop) : ZT := fun below args s D cy B => MQ below (QQ D cy B Q) args s (rmOf M).cells (rmOf M).slots (fun q => B.1 ≤ q)
def PP (D : va_G) (cy : Nat → ClassId) (B : Nat × Nat) (av : List Value) (h : List PC) : Array Value → State → Prop := fun v U => v = (av.map (tv B)).toArray ∧ KK D cy U ∧ WO D cy B h U.heap
/-- the contract of a method: from these arguments and this heap it returns, with Q -/
def Ct (M : MI) (av : List Value) (h : List PC) (Q : Option Value → List PC → Prop) : Prop :=
  ∀ (l : Launch) (D : va_G) (cy : Nat → ClassId) (B : Nat × Nat), Met l M.1 (mw M) (rmOf M) (PP D cy B av h) (QQ D cy B Q) (rmOf M).cells (rmOf M).slots (fun q => B.1 ≤ q)
theorem aoa_moved {t : FieldType} {u U : State} {a a' : Array Value} (hvm : u.vm.Alike U.vm) (h : (Cond.arrayOver (.array t)).before a u = true) : (Cond.arrayOver (.array t)).before a' U = true := by
  obtain ⟨comp, c, k, h1, h2, h3, h4, h5⟩ := arrayOverA_spec h
  obtain ⟨k', hk', he⟩ := hvm.2.2 _ _ h3
  have hi : (U.vm.classes.findIdx? fun (x : Class) => match x.kind with | .array component _ => component == comp | _ => false) = some c := by
    refine (va_idx_bare U.vm comp).symm.trans ?_
    refine Eq.trans ?_ ((va_idx_bare u.vm comp).trans h2)
    first | rw [hvm.bare_eq] | rw [← hvm.bare_eq]
  have hkind : k'.kind = .array comp (.array t) := by rw [he]; exact h4
  have f1 : U.vm.findClass (FieldType.array t).toString = some comp := by rw [hvm.findClass]; exact h1
  have f2 : U.vm.findClass ("[" ++ (FieldType.array t).toString) = some c := by rw [hvm.findClass]; exact h5
  unfold Cond.before Cond.holds
  simp only [Cond.value]
  rw [f1, Option.bind_some]
  refine (congrArg (fun o : Option Nat => (o.bind (fun c => (U.vm.classes[c]?).map fun (k : Class) => match k.kind with | .array _ ty => decide (ty = FieldType.array t) && decide (U.vm.findClass ("[" ++ (FieldType.array t).toString) = some c) | _ => false) == some true)) hi).trans ?_
  simp [hk', hkind, f2]
theorem PP_blind {D : va_G} {cy : Nat → ClassId} {B : Nat × Nat} {av : List Value} {h : List PC} : FrameBlind (PP D cy B av h) := by
  intro a U g mk hq
  obtain ⟨h1, ⟨k1, k2, k3⟩, h2⟩ := hq
  exact ⟨h1, ⟨va_K.moved (u := U) (U := U.calling g mk a) (Vm.Alike.refl U.vm) k1, fun w hw hn => va_Nw.same (u := U) (U := U.calling g mk a) (by cases w <;> first | rfl | cases hn) rfl (k2 w hw hn), aoa_moved (u := U) (U := U.calling g mk a) (Vm.Alike.refl U.vm) k3⟩, h2⟩
theorem KK_warm {D : va_G} {cy : Nat → ClassId} {s U : State} (hW : s.WarmedH U.vm) (h : KK D cy s) : KK D cy U := by
  obtain ⟨k1, k2, k3⟩ := h
  refine ⟨va_K.moved hW.alike k1, fun w hw hn => ?_, ?_⟩
  · have h1 := k2 w hw hn
    cases w <;> first | exact va_Nw.warmM hW h1 | cases hn
  · exact aoa_moved hW.alike k3
/-! locals -/
theorem lv_args_cat1 : ∀ (vs : List Value) (k : Nat), (∀ v ∈ vs, v.category = 1) → ∀ (i : Nat) (v : Value), vs[i]? = some v → (k + i, v) ∈ lv_args k vs
  | [], _, _, i, v, h => by simp at h
  | a :: vs, k, hc, i, v, h => by
    have ha : a.category = 1 := hc a List.mem_cons_self
    unfold lv_args
    cases i with
    | zero => rw [List.getElem?_cons_zero] at h; cases h; exact List.mem_cons_self
    | succ i =>
      rw [List.getElem?_cons_succ] at h
      have hn : ¬ a.category = 2 := by omega
      rw [if_neg hn]
      have := lv_args_cat1 vs (k + 1) (fun v hv => hc v (List.mem_cons_of_mem _ hv)) i v h
      rw [show k + 1 + i = k + (i + 1) by omega] at this
      exact List.mem_cons_of_mem _ this
theorem lg_sl_cat1 : ∀ (vs : List Value), (∀ v ∈ vs, v.category = 1) → (lg_sl vs).length = vs.length
  | [], _ => rfl
  | a :: vs, hc => by
    have ha : a.category = 1 := hc a List.mem_cons_self
    have hn : ¬ a.category = 2 := by omega
    have ih := lg_sl_cat1 vs (fun v hv => hc v (List.mem_cons_of_mem _ hv))
    unfold lg_sl at ih ⊢
    rw [List.flatMap_cons, if_neg hn]
    simp only [List.length_append, List.length_cons, List.length_nil, ih]
    omega
theorem tv_cat (B : Nat × Nat) (v : Value) : (tv B v).category = v.category := by cases v <;> rfl
/-- a method's contract out of a walk of its body -/
theorem ct_of_at {M : MI} {av L : List Value} {h : List PC} {Q : Option Value → List PC → Prop} (hy : plainName M.1.cls = true) (hc : ∀ v ∈ av, v.category = 1) (hL : av ++ List.replicate (M.2.2.1 - av.length) .null = L) (hn : av.length ≤ M.2.2.1)
    (k : At M T0 0 L [] h 0 0 (ZM M Q)) : Ct M av h Q := by
  intro l D cy B
  refine Met.ofW (cc := M.2.1) (maxL := M.2.2.1) (ret := M.2.2.2.1) hy rfl ?_
  intro p e s m args below meth c s₁ BB hml hv
  obtain ⟨rfl, hK, hP⟩ := hv
  have hts := atoms_spec (ws := mw M) BB.pre
  have hown : s.vm.findClass M.1.cls = some m.cls := findClass_of_methodNamed BB.named
  have hnm := (name_of_methodNamed BB.named BB.method).1
  have hcat : ∀ v ∈ av.map (tv B), v.category = 1 := fun v hv => by
    obtain ⟨w, hw, rfl⟩ := List.mem_map.mp hv
    rw [tv_cat]; exact hc w hw
  have hlen : (lg_sl (av.map (tv B))).length ≤ M.2.2.1 := by rw [lg_sl_cat1 _ hcat, List.length_map]; exact hn
  have hl := lv_entry (av.map (tv B)) (n := M.2.2.1) hlen
  rw [lg_entry_eq]
  generalize (lg_sl (av.map (tv B)) ++ List.replicate (M.2.2.1 - (lg_sl (av.map (tv B))).length) Slot.unset).toArray = ls at hl ⊢
  have hLO : LO B M.2.2.1 L ls := by
    refine ⟨hl.1, by rw [← hL]; simp; omega, hl.2.1, fun i v hi hv => ?_⟩
    rw [← hL] at hi
    by_cases hlt : i < av.length
    · rw [List.getElem?_append_left hlt] at hi
      have h1 : (av.map (tv B))[i]? = some (tv B v) := by rw [List.getElem?_map, hi]; rfl
      have h2 := lv_args_cat1 _ 0 hcat i _ h1
      rw [Nat.zero_add] at h2
      exact hl.2.2 _ h2
    · rw [List.getElem?_append_right (by omega)] at hi
      have := List.eq_of_mem_replicate (List.mem_of_getElem? hi)
      exact absurd this hv
  exact k l p e s m _ below meth c D cy B s.heap [] ls ⟨BB.exec, BB.bytes, hml, BB.returns, hown, fun w hw => hts w (List.mem_cons_of_mem _ hw), BB.notSynchronized, hnm⟩ hK trivial (by have := hP.2; omega) hP va_S.rf hLO
end
section
/-! ===== a row an instruction, over At ===== -/
section ATR
variable {M : MI} {G : GT} {pc : Nat} {L rest : List Value} {h : List PC} {cs sl : Nat} {Z : ZT}
theorem at_iconst (pc' : Nat) {n : Int} (v : Int32) (hd : decode M.2.1 pc = .ok (.iconst n, 1)) (hp : pc + 1 = pc') (hv : Int32.ofInt n = v) (kk : At M G pc' L (.int v :: rest) h cs sl Z) : At M G pc L (rest) h cs sl Z := by
  intro l p e s m args below meth c D cy B H locs ls hC hK hG hb hW hS hL
  subst hp
  exact lv_iconst hC.1 hC.2.1 hd hv (kk l p e s m args below meth c D cy B H locs ls hC hK hG hb hW hS hL)
theorem at_bipush (pc' : Nat) {n : Int} (v : Int32) (hd : decode M.2.1 pc = .ok (.bipush n, 2)) (hp : pc + 2 = pc') (hv : (Int8.ofInt n).toInt32 = v) (kk : At M G pc' L (.int v :: rest) h cs sl Z) : At M G pc L (rest) h cs sl Z := by
  intro l p e s m args below meth c D cy B H locs ls hC hK hG hb hW hS hL
  subst hp
  exact lv_bipush hC.1 hC.2.1 hd hv (kk l p e s m args below meth c D cy B H locs ls hC hK hG hb hW hS hL)
theorem at_sipush (pc' : Nat) {n : Int} (v : Int32) (hd : decode M.2.1 pc = .ok (.sipush n, 3)) (hp : pc + 3 = pc') (hv : (Int16.ofInt n).toInt32 = v) (kk : At M G pc' L (.int v :: rest) h cs sl Z) : At M G pc L (rest) h cs sl Z := by
  intro l p e s m args below meth c D cy B H locs ls hC hK hG hb hW hS hL
  subst hp
  exact lv_sipush hC.1 hC.2.1 hd hv (kk l p e s m args below meth c D cy B H locs ls hC hK hG hb hW hS hL)
theorem at_lconst (pc' : Nat) {n : Fin 2} (v : Int64) (hd : decode M.2.1 pc = .ok (.lconst n, 1)) (hp : pc + 1 = pc') (hv : Int64.ofNat (n : Nat) = v) (kk : At M G pc' L (.long v :: rest) h cs sl Z) : At M G pc L (rest) h cs sl Z := by
  intro l p e s m args below meth c D cy B H locs ls hC hK hG hb hW hS hL
  subst hp
  exact lv_lconst hC.1 hC.2.1 hd hv (kk l p e s m args below meth c D cy B H locs ls hC hK hG hb hW hS hL)
theorem at_ldc (pc' : Nat) {i : Nat} (v : Int32) (hd : decode M.2.1 pc = .ok (.ldc i, 2)) (hp : pc + 2 = pc') (hw : Cond.constant M.1.cls i v ∈ gw) (kk : At M G pc' L (.int v :: rest) h cs sl Z) : At M G pc L (rest) h cs sl Z := by
  intro l p e s m args below meth c D cy B H locs ls hC hK hG hb hW hS hL
  subst hp
  exact lv_ldc hC.1 hC.2.1 hC.2.2.2.2.1 (hC.2.2.2.2.2.1 _ hw) hd (kk l p e s m args below meth c D cy B H locs ls hC hK hG hb hW hS hL)
theorem at_ldc2 (pc' : Nat) {i : Nat} (v : Int64) (hd : decode M.2.1 pc = .ok (.ldc2_w i, 3)) (hp : pc + 3 = pc') (hw : Cond.constantLong M.1.cls i v ∈ gw) (kk : At M G pc' L (.long v :: rest) h cs sl Z) : At M G pc L (rest) h cs sl Z := by
  intro l p e s m args below meth c D cy B H locs ls hC hK hG hb hW hS hL
  subst hp
  exact lv_ldc2 hC.1 hC.2.1 hC.2.2.2.2.1 (hC.2.2.2.2.2.1 _ hw) hd (kk l p e s m args below meth c D cy B H locs ls hC hK hG hb hW hS hL)
theorem at_iload_n (pc' : Nat) {j : Fin 4} {i : Nat} {x : Int32} (hd : decode M.2.1 pc = .ok (.iload_n j, 1)) (hp : pc + 1 = pc') (hi : (j : Nat) = i) (hl : L[i]? = some (.int x)) (kk : At M G pc' L (.int x :: rest) h cs sl Z) : At M G pc L (rest) h cs sl Z := by
  intro l p e s m args below meth c D cy B H locs ls hC hK hG hb hW hS hL
  subst hp
  exact lv_iload_n hC.1 hC.2.1 hd hi (hL.2.2.2 i _ hl (fun q => by cases q)) (kk l p e s m args below meth c D cy B H locs ls hC hK hG hb hW hS hL)
theorem at_iload (pc' : Nat) {i : Nat} {x : Int32} (hd : decode M.2.1 pc = .ok (.iload i, 2)) (hp : pc + 2 = pc') (hl : L[i]? = some (.int x)) (kk : At M G pc' L (.int x :: rest) h cs sl Z) : At M G pc L (rest) h cs sl Z := by
  intro l p e s m args below meth c D cy B H locs ls hC hK hG hb hW hS hL
  subst hp
  exact lv_iload hC.1 hC.2.1 hd (hL.2.2.2 i _ hl (fun q => by cases q)) (kk l p e s m args below meth c D cy B H locs ls hC hK hG hb hW hS hL)
theorem at_lload_n (pc' : Nat) {j : Fin 4} {i : Nat} {x : Int64} (hd : decode M.2.1 pc = .ok (.lload_n j, 1)) (hp : pc + 1 = pc') (hi : (j : Nat) = i) (hl : L[i]? = some (.long x)) (kk : At M G pc' L (.long x :: rest) h cs sl Z) : At M G pc L (rest) h cs sl Z := by
  intro l p e s m args below meth c D cy B H locs ls hC hK hG hb hW hS hL
  subst hp
  exact lv_lload_n hC.1 hC.2.1 hd hi (hL.2.2.2 i _ hl (fun q => by cases q)) (kk l p e s m args below meth c D cy B H locs ls hC hK hG hb hW hS hL)
theorem at_lload (pc' : Nat) {i : Nat} {x : Int64} (hd : decode M.2.1 pc = .ok (.lload i, 2)) (hp : pc + 2 = pc') (hl : L[i]? = some (.long x)) (kk : At M G pc' L (.long x :: rest) h cs sl Z) : At M G pc L (rest) h cs sl Z := by
  intro l p e s m args below meth c D cy B H locs ls hC hK hG hb hW hS hL
  subst hp
  exact lv_lload hC.1 hC.2.1 hd (hL.2.2.2 i _ hl (fun q => by cases q)) (kk l p e s m args below meth c D cy B H locs ls hC hK hG hb hW hS hL)
theorem at_aload_n (pc' : Nat) {j : Fin 4} {i : Nat} {x : Nat} (hd : decode M.2.1 pc = .ok (.aload_n j, 1)) (hp : pc + 1 = pc') (hi : (j : Nat) = i) (hl : L[i]? = some (.ref x)) (kk : At M G pc' L (.ref x :: rest) h cs sl Z) : At M G pc L (rest) h cs sl Z := by
  intro l p e s m args below meth c D cy B H locs ls hC hK hG hb hW hS hL
  subst hp
  exact lv_aload_n hC.1 hC.2.1 hd hi (hL.2.2.2 i _ hl (fun q => by cases q)) (kk l p e s m args below meth c D cy B H locs ls hC hK hG hb hW hS hL)
theorem at_aload (pc' : Nat) {i : Nat} {x : Nat} (hd : decode M.2.1 pc = .ok (.aload i, 2)) (hp : pc + 2 = pc') (hl : L[i]? = some (.ref x)) (kk : At M G pc' L (.ref x :: rest) h cs sl Z) : At M G pc L (rest) h cs sl Z := by
  intro l p e s m args below meth c D cy B H locs ls hC hK hG hb hW hS hL
  subst hp
  exact lv_aload hC.1 hC.2.1 hd (hL.2.2.2 i _ hl (fun q => by cases q)) (kk l p e s m args below meth c D cy B H locs ls hC hK hG hb hW hS hL)
theorem at_aloadS (pc' : Nat) {x : Nat} {j : Fin 4} {i : Nat} (hd : decode M.2.1 pc = .ok (.aload_n j, 1)) (hp : pc + 1 = pc') (hi : (j : Nat) = i) (hl : L[i]? = some (.retAddr x)) (kk : At M G pc' L (.retAddr x :: rest) h cs sl Z) : At M G pc L (rest) h cs sl Z := by
  intro l p e s m args below meth c D cy B H locs ls hC hK hG hb hW hS hL
  subst hp
  exact lv_aload_n hC.1 hC.2.1 hd hi (hL.2.2.2 i _ hl (fun q => by cases q)) (kk l p e s m args below meth c D cy B H locs ls hC hK hG hb hW hS hL)

def nlb (L : List Value) (i : Nat) : Bool := match i with
  | 0 => true
  | k + 1 => match L[k]? with
    | some (.long _) => false
    | some (.double _) => false
    | _ => true
def lvl (B : Nat × Nat) (L : List Value) : List (Nat × Value) := (List.range L.length).filterMap (fun (i : Nat) => match (L[i]? : Option Value) with
  | some Value.null => none
  | some v => some (i, tv B v)
  | none => none)
theorem lvl_mem {B : Nat × Nat} {L : List Value} {i : Nat} {v : Value} (h : L[i]? = some v) (hv : v ≠ .null) : (i, tv B v) ∈ lvl B L := by
  refine List.mem_filterMap.mpr ⟨i, List.mem_range.mpr (List.getElem?_eq_some_iff.mp h).1, ?_⟩
  rw [h]
  cases v <;> first | rfl | exact absurd rfl hv
theorem lvl_of {B : Nat × Nat} {L : List Value} {q : Nat × Value} (h : q ∈ lvl B L) : ∃ v, L[q.1]? = some v ∧ v ≠ .null ∧ q.2 = tv B v := by
  obtain ⟨i, -, h2⟩ := List.mem_filterMap.mp h
  cases hv : L[i]? with
  | none => rw [hv] at h2; cases h2
  | some v =>
    rw [hv] at h2
    cases v <;> first | (cases h2; exact ⟨_, hv, (fun q => by cases q), rfl⟩) | cases h2
theorem LO.lv {B : Nat × Nat} {nL : Nat} {L : List Value} {ls : Array Slot} (h : LO B nL L ls) : lv_has ls nL (lvl B L) := ⟨h.1, h.2.2.1, fun q hq => by
  obtain ⟨v, h1, h2, h3⟩ := lvl_of hq
  rw [h3]; exact h.2.2.2 _ _ h1 h2⟩
theorem LO.st1 {B : Nat × Nat} {nL : Nat} {L : List Value} {ls ls' : Array Slot} {i : Nat} {v : Value} (hL : LO B nL L ls) (hn : nlb L i = true) (h : lv_has ls' nL ((i, tv B v) :: (lvl B L).filter (fun q => !(q.1 == i) && !(q.1 + 1 == i && q.2.category == 2)))) : LO B nL (L.set i v) ls' := by
  refine ⟨h.1, by rw [List.length_set]; exact hL.2.1, h.2.1, fun j w hj hw => ?_⟩
  rw [List.getElem?_set] at hj
  by_cases e : i = j
  · subst e
    rw [if_pos rfl] at hj
    by_cases hl : i < L.length
    · rw [if_pos hl] at hj
      cases hj
      exact h.2.2 _ List.mem_cons_self
    · rw [if_neg hl] at hj; cases hj
  · rw [if_neg e] at hj
    refine h.2.2 (j, tv B w) (List.mem_cons_of_mem _ (List.mem_filter.mpr ⟨lvl_mem hj hw, ?_⟩))
    have e1 : (j == i) = false := by simp; exact fun q => e q.symm
    have e2 : (j + 1 == i && (tv B w).category == 2) = false := by
      by_cases e3 : j + 1 = i
      · subst e3
        simp only [nlb, hj] at hn
        cases w <;> first | (simp [tv, Value.category]; done) | cases hn
      · simp [e3]
    simp only [e1, e2, Bool.not_false, Bool.and_self]
theorem LO.st2 {B : Nat × Nat} {nL : Nat} {L : List Value} {ls ls' : Array Slot} {i : Nat} {v : Value} (hL : LO B nL L ls) (hn : nlb L i = true) (h : lv_has ls' nL ((i, tv B v) :: (lvl B L).filter (fun q => !(q.1 == i) && (!(q.1 == i + 1) && !(q.1 + 1 == i && q.2.category == 2))))) : LO B nL ((L.set i v).set (i + 1) .null) ls' := by
  refine ⟨h.1, by rw [List.length_set, List.length_set]; exact hL.2.1, h.2.1, fun j w hj hw => ?_⟩
  rw [List.getElem?_set] at hj
  by_cases e0 : i + 1 = j
  · rw [if_pos e0] at hj
    split at hj
    · cases hj; exact absurd rfl hw
    · cases hj
  rw [if_neg e0, List.getElem?_set] at hj
  by_cases e : i = j
  · subst e
    rw [if_pos rfl] at hj
    by_cases hl : i < L.length
    · rw [if_pos hl] at hj
      cases hj
      exact h.2.2 _ List.mem_cons_self
    · rw [if_neg hl] at hj; cases hj
  · rw [if_neg e] at hj
    refine h.2.2 (j, tv B w) (List.mem_cons_of_mem _ (List.mem_filter.mpr ⟨lvl_mem hj hw, ?_⟩))
    have e1 : (j == i) = false := by simp; exact fun q => e q.symm
    have e4 : (j == i + 1) = false := by simp; exact fun q => e0 q.symm
    have e2 : (j + 1 == i && (tv B w).category == 2) = false := by
      by_cases e3 : j + 1 = i
      · subst e3
        simp only [nlb, hj] at hn
        cases w <;> first | (simp [tv, Value.category]; done) | cases hn
      · simp [e3]
    simp only [e1, e2, e4, Bool.not_false, Bool.and_self]
/-- a dead local is given up -/
theorem at_drop (i : Nat) {L' : List Value} (hl : L.set i .null = L') (kk : At M G pc L' rest h cs sl Z) : At M G pc L rest h cs sl Z := by
  subst hl
  intro l p e s m args below meth c D cy B H locs ls hC hK hG hb hW hS hL
  refine kk l p e s m args below meth c D cy B H locs ls hC hK hG hb hW hS ⟨hL.1, by rw [List.length_set]; exact hL.2.1, hL.2.2.1, fun j w hj hw => ?_⟩
  rw [List.getElem?_set] at hj
  by_cases e : i = j
  · rw [if_pos e] at hj
    split at hj
    · cases hj; exact absurd rfl hw
    · cases hj
  · rw [if_neg e] at hj
    exact hL.2.2.2 _ _ hj hw
theorem at_istore_n (pc' : Nat) {j : Fin 4} {i : Nat} {x : Int32} {L' : List Value} (hd : decode M.2.1 pc = .ok (.istore_n j, 1)) (hp : pc + 1 = pc') (hi : (j : Nat) = i) (hn : i < M.2.2.1) (hc : nlb L i = true) (hl : L.set i (.int x) = L') (kk : At M G pc' L' (rest) h cs sl Z) : At M G pc L (.int x :: rest) h cs sl Z := by
  intro l p e s m args below meth c D cy B H locs ls hC hK hG hb hW hS hL
  subst hp
  subst hl
  exact lv_istore_n hC.1 hC.2.1 hd hi hL.lv hn rfl (fun ls' h' => kk l p e s m args below meth c D cy B H locs ls' hC hK hG hb hW hS (hL.st1 hc h'))
theorem at_istore (pc' : Nat) {i : Nat} {x : Int32} {L' : List Value} (hd : decode M.2.1 pc = .ok (.istore i, 2)) (hp : pc + 2 = pc') (hn : i < M.2.2.1) (hc : nlb L i = true) (hl : L.set i (.int x) = L') (kk : At M G pc' L' (rest) h cs sl Z) : At M G pc L (.int x :: rest) h cs sl Z := by
  intro l p e s m args below meth c D cy B H locs ls hC hK hG hb hW hS hL
  subst hp
  subst hl
  exact lv_istore hC.1 hC.2.1 hd hL.lv hn rfl (fun ls' h' => kk l p e s m args below meth c D cy B H locs ls' hC hK hG hb hW hS (hL.st1 hc h'))
theorem at_astore_n (pc' : Nat) {j : Fin 4} {i : Nat} {x : Nat} {L' : List Value} (hd : decode M.2.1 pc = .ok (.astore_n j, 1)) (hp : pc + 1 = pc') (hi : (j : Nat) = i) (hn : i < M.2.2.1) (hc : nlb L i = true) (hl : L.set i (.ref x) = L') (kk : At M G pc' L' (rest) h cs sl Z) : At M G pc L (.ref x :: rest) h cs sl Z := by
  intro l p e s m args below meth c D cy B H locs ls hC hK hG hb hW hS hL
  subst hp
  subst hl
  exact lv_astore_n hC.1 hC.2.1 hd hi hL.lv hn rfl (fun ls' h' => kk l p e s m args below meth c D cy B H locs ls' hC hK hG hb hW hS (hL.st1 hc h'))
theorem at_astore (pc' : Nat) {i : Nat} {x : Nat} {L' : List Value} (hd : decode M.2.1 pc = .ok (.astore i, 2)) (hp : pc + 2 = pc') (hn : i < M.2.2.1) (hc : nlb L i = true) (hl : L.set i (.ref x) = L') (kk : At M G pc' L' (rest) h cs sl Z) : At M G pc L (.ref x :: rest) h cs sl Z := by
  intro l p e s m args below meth c D cy B H locs ls hC hK hG hb hW hS hL
  subst hp
  subst hl
  exact lv_astore hC.1 hC.2.1 hd hL.lv hn rfl (fun ls' h' => kk l p e s m args below meth c D cy B H locs ls' hC hK hG hb hW hS (hL.st1 hc h'))
theorem at_lstore_n (pc' : Nat) {j : Fin 4} {i : Nat} {x : Int64} {L' : List Value} (hd : decode M.2.1 pc = .ok (.lstore_n j, 1)) (hp : pc + 1 = pc') (hi : (j : Nat) = i) (hn : i + 1 < M.2.2.1) (hc : nlb L i = true) (hl : (L.set i (.long x)).set (i + 1) .null = L') (kk : At M G pc' L' (rest) h cs sl Z) : At M G pc L (.long x :: rest) h cs sl Z := by
  intro l p e s m args below meth c D cy B H locs ls hC hK hG hb hW hS hL
  subst hp
  subst hl
  exact lv_lstore_n hC.1 hC.2.1 hd hi hL.lv hn rfl (fun ls' h' => kk l p e s m args below meth c D cy B H locs ls' hC hK hG hb hW hS (hL.st2 hc h'))
theorem at_lstore (pc' : Nat) {i : Nat} {x : Int64} {L' : List Value} (hd : decode M.2.1 pc = .ok (.lstore i, 2)) (hp : pc + 2 = pc') (hn : i + 1 < M.2.2.1) (hc : nlb L i = true) (hl : (L.set i (.long x)).set (i + 1) .null = L') (kk : At M G pc' L' (rest) h cs sl Z) : At M G pc L (.long x :: rest) h cs sl Z := by
  intro l p e s m args below meth c D cy B H locs ls hC hK hG hb hW hS hL
  subst hp
  subst hl
  exact lv_lstore hC.1 hC.2.1 hd hL.lv hn rfl (fun ls' h' => kk l p e s m args below meth c D cy B H locs ls' hC hK hG hb hW hS (hL.st2 hc h'))
theorem at_iinc (pc' : Nat) {i : Nat} {n : Int} {x v : Int32} {L' : List Value} (hd : decode M.2.1 pc = .ok (.iinc i n, 3)) (hp : pc + 3 = pc') (hv : x + Int32.ofInt n = v) (hi : L[i]? = some (.int x)) (hn : i < M.2.2.1) (hc : nlb L i = true) (hl : L.set i (.int v) = L') (kk : At M G pc' L' (rest) h cs sl Z) : At M G pc L (rest) h cs sl Z := by
  intro l p e s m args below meth c D cy B H locs ls hC hK hG hb hW hS hL
  subst hp
  subst hl
  obtain ⟨k, hk⟩ := List.getElem?_of_mem (lvl_mem (B := B) hi (fun q => by cases q))
  exact lv_iinc hC.1 hC.2.1 hd hL.lv hk hv hn rfl (fun ls' h' => kk l p e s m args below meth c D cy B H locs ls' hC hK hG hb hW hS (hL.st1 (v := .int v) hc h'))
theorem at_iadd (pc' : Nat) {x y : Int32} (hd : decode M.2.1 pc = .ok (.iadd, 1)) (hp : pc + 1 = pc') (kk : At M G pc' L (.int (x + y) :: rest) h cs sl Z) : At M G pc L (.int y :: .int x :: rest) h cs sl Z := by
  intro l p e s m args below meth c D cy B H locs ls hC hK hG hb hW hS hL
  subst hp
  exact lv_iadd hC.1 hC.2.1 hd (kk l p e s m args below meth c D cy B H locs ls hC hK hG hb hW hS hL)
theorem at_isub (pc' : Nat) {x y : Int32} (hd : decode M.2.1 pc = .ok (.isub, 1)) (hp : pc + 1 = pc') (kk : At M G pc' L (.int (x - y) :: rest) h cs sl Z) : At M G pc L (.int y :: .int x :: rest) h cs sl Z := by
  intro l p e s m args below meth c D cy B H locs ls hC hK hG hb hW hS hL
  subst hp
  exact lv_isub hC.1 hC.2.1 hd (kk l p e s m args below meth c D cy B H locs ls hC hK hG hb hW hS hL)
theorem at_imul (pc' : Nat) {x y : Int32} (hd : decode M.2.1 pc = .ok (.imul, 1)) (hp : pc + 1 = pc') (kk : At M G pc' L (.int (x * y) :: rest) h cs sl Z) : At M G pc L (.int y :: .int x :: rest) h cs sl Z := by
  intro l p e s m args below meth c D cy B H locs ls hC hK hG hb hW hS hL
  subst hp
  exact lv_imul hC.1 hC.2.1 hd (kk l p e s m args below meth c D cy B H locs ls hC hK hG hb hW hS hL)
theorem at_iand (pc' : Nat) {x y : Int32} (hd : decode M.2.1 pc = .ok (.iand, 1)) (hp : pc + 1 = pc') (kk : At M G pc' L (.int (x &&& y) :: rest) h cs sl Z) : At M G pc L (.int y :: .int x :: rest) h cs sl Z := by
  intro l p e s m args below meth c D cy B H locs ls hC hK hG hb hW hS hL
  subst hp
  exact lv_iand hC.1 hC.2.1 hd (kk l p e s m args below meth c D cy B H locs ls hC hK hG hb hW hS hL)
theorem at_ishl (pc' : Nat) {x y : Int32} (hd : decode M.2.1 pc = .ok (.ishl, 1)) (hp : pc + 1 = pc') (kk : At M G pc' L (.int (x <<< (y &&& 31)) :: rest) h cs sl Z) : At M G pc L (.int y :: .int x :: rest) h cs sl Z := by
  intro l p e s m args below meth c D cy B H locs ls hC hK hG hb hW hS hL
  subst hp
  exact lv_ishl hC.1 hC.2.1 hd (kk l p e s m args below meth c D cy B H locs ls hC hK hG hb hW hS hL)
theorem at_ishr (pc' : Nat) {x y : Int32} (hd : decode M.2.1 pc = .ok (.ishr, 1)) (hp : pc + 1 = pc') (kk : At M G pc' L (.int (x >>> (y &&& 31)) :: rest) h cs sl Z) : At M G pc L (.int y :: .int x :: rest) h cs sl Z := by
  intro l p e s m args below meth c D cy B H locs ls hC hK hG hb hW hS hL
  subst hp
  exact lv_ishr hC.1 hC.2.1 hd (kk l p e s m args below meth c D cy B H locs ls hC hK hG hb hW hS hL)
theorem at_idiv (pc' : Nat) {x y : Int32} (hd : decode M.2.1 pc = .ok (.idiv, 1)) (hp : pc + 1 = pc') (hne : ¬ y = 0) (kk : At M G pc' L (.int (x / y) :: rest) h cs sl Z) : At M G pc L (.int y :: .int x :: rest) h cs sl Z := by
  intro l p e s m args below meth c D cy B H locs ls hC hK hG hb hW hS hL
  subst hp
  exact lv_idiv hC.1 hC.2.1 hd hne (kk l p e s m args below meth c D cy B H locs ls hC hK hG hb hW hS hL)
theorem at_irem (pc' : Nat) {x y : Int32} (hd : decode M.2.1 pc = .ok (.irem, 1)) (hp : pc + 1 = pc') (hne : ¬ y = 0) (kk : At M G pc' L (.int (x - x / y * y) :: rest) h cs sl Z) : At M G pc L (.int y :: .int x :: rest) h cs sl Z := by
  intro l p e s m args below meth c D cy B H locs ls hC hK hG hb hW hS hL
  subst hp
  exact lv_irem hC.1 hC.2.1 hd hne (kk l p e s m args below meth c D cy B H locs ls hC hK hG hb hW hS hL)
theorem at_ladd (pc' : Nat) {x y : Int64} (hd : decode M.2.1 pc = .ok (.ladd, 1)) (hp : pc + 1 = pc') (kk : At M G pc' L (.long (x + y) :: rest) h cs sl Z) : At M G pc L (.long y :: .long x :: rest) h cs sl Z := by
  intro l p e s m args below meth c D cy B H locs ls hC hK hG hb hW hS hL
  subst hp
  exact lv_ladd hC.1 hC.2.1 hd (kk l p e s m args below meth c D cy B H locs ls hC hK hG hb hW hS hL)
theorem at_lsub (pc' : Nat) {x y : Int64} (hd : decode M.2.1 pc = .ok (.lsub, 1)) (hp : pc + 1 = pc') (kk : At M G pc' L (.long (x - y) :: rest) h cs sl Z) : At M G pc L (.long y :: .long x :: rest) h cs sl Z := by
  intro l p e s m args below meth c D cy B H locs ls hC hK hG hb hW hS hL
  subst hp
  exact lv_lsub hC.1 hC.2.1 hd (kk l p e s m args below meth c D cy B H locs ls hC hK hG hb hW hS hL)
theorem at_lmul (pc' : Nat) {x y : Int64} (hd : decode M.2.1 pc = .ok (.lmul, 1)) (hp : pc + 1 = pc') (kk : At M G pc' L (.long (x * y) :: rest) h cs sl Z) : At M G pc L (.long y :: .long x :: rest) h cs sl Z := by
  intro l p e s m args below meth c D cy B H locs ls hC hK hG hb hW hS hL
  subst hp
  exact lv_lmul hC.1 hC.2.1 hd (kk l p e s m args below meth c D cy B H locs ls hC hK hG hb hW hS hL)
theorem at_ldiv (pc' : Nat) {x y : Int64} (hd : decode M.2.1 pc = .ok (.ldiv, 1)) (hp : pc + 1 = pc') (hne : ¬ y = 0) (kk : At M G pc' L (.long (x / y) :: rest) h cs sl Z) : At M G pc L (.long y :: .long x :: rest) h cs sl Z := by
  intro l p e s m args below meth c D cy B H locs ls hC hK hG hb hW hS hL
  subst hp
  exact lv_ldiv hC.1 hC.2.1 hd hne (kk l p e s m args below meth c D cy B H locs ls hC hK hG hb hW hS hL)
theorem at_lrem (pc' : Nat) {x y : Int64} (hd : decode M.2.1 pc = .ok (.lrem, 1)) (hp : pc + 1 = pc') (hne : ¬ y = 0) (kk : At M G pc' L (.long (x - x / y * y) :: rest) h cs sl Z) : At M G pc L (.long y :: .long x :: rest) h cs sl Z := by
  intro l p e s m args below meth c D cy B H locs ls hC hK hG hb hW hS hL
  subst hp
  exact lv_lrem hC.1 hC.2.1 hd hne (kk l p e s m args below meth c D cy B H locs ls hC hK hG hb hW hS hL)
theorem at_i2l (pc' : Nat) {x : Int32} {v : Int64} (hd : decode M.2.1 pc = .ok (.i2l, 1)) (hp : pc + 1 = pc') (hv : x.toInt64 = v) (kk : At M G pc' L (.long v :: rest) h cs sl Z) : At M G pc L (.int x :: rest) h cs sl Z := by
  intro l p e s m args below meth c D cy B H locs ls hC hK hG hb hW hS hL
  subst hp
  exact lv_i2l hC.1 hC.2.1 hd hv (kk l p e s m args below meth c D cy B H locs ls hC hK hG hb hW hS hL)
theorem at_l2i (pc' : Nat) {x : Int64} {v : Int32} (hd : decode M.2.1 pc = .ok (.l2i, 1)) (hp : pc + 1 = pc') (hv : x.toInt32 = v) (kk : At M G pc' L (.int v :: rest) h cs sl Z) : At M G pc L (.long x :: rest) h cs sl Z := by
  intro l p e s m args below meth c D cy B H locs ls hC hK hG hb hW hS hL
  subst hp
  exact lv_l2i hC.1 hC.2.1 hd hv (kk l p e s m args below meth c D cy B H locs ls hC hK hG hb hW hS hL)
theorem at_lcmp (pc' : Nat) {x y : Int64} (hd : decode M.2.1 pc = .ok (.lcmp, 1)) (hp : pc + 1 = pc') (kk : At M G pc' L (.int (lg_cmp x y) :: rest) h cs sl Z) : At M G pc L (.long y :: .long x :: rest) h cs sl Z := by
  intro l p e s m args below meth c D cy B H locs ls hC hK hG hb hW hS hL
  subst hp
  exact W.lcmp hC.1 hC.2.1 hd (kk l p e s m args below meth c D cy B H locs ls hC hK hG hb hW hS hL)
theorem at_dup (pc' : Nat) {va : Value} (hd : decode M.2.1 pc = .ok (.dup, 1)) (hp : pc + 1 = pc') (hc : va.category = 1) (kk : At M G pc' L (va :: va :: rest) h cs sl Z) : At M G pc L (va :: rest) h cs sl Z := by
  intro l p e s m args below meth c D cy B H locs ls hC hK hG hb hW hS hL
  subst hp
  exact lv_dup hC.1 hC.2.1 hd (by rw [tv_cat]; exact hc) (kk l p e s m args below meth c D cy B H locs ls hC hK hG hb hW hS hL)
theorem at_dup2 (pc' : Nat) {va vb : Value} (hd : decode M.2.1 pc = .ok (.dup2, 1)) (hp : pc + 1 = pc') (hc : va.category = 1) (hc2 : vb.category = 1) (kk : At M G pc' L (va :: vb :: va :: vb :: rest) h cs sl Z) : At M G pc L (va :: vb :: rest) h cs sl Z := by
  intro l p e s m args below meth c D cy B H locs ls hC hK hG hb hW hS hL
  subst hp
  exact lv_dup2_11 hC.1 hC.2.1 hd (by rw [tv_cat]; exact hc) (by rw [tv_cat]; exact hc2) (kk l p e s m args below meth c D cy B H locs ls hC hK hG hb hW hS hL)
theorem at_if_eq (pt pf : Nat) {x : Int32} {off : Int} (hd : decode M.2.1 pc = .ok (.ifCond .eq off, 3)) (ht : (pc : Int) + off = (pt : Int)) (hp : pc + 3 = pf) (kt : x = 0 → At M G pt L rest h cs sl Z) (kf : ¬ x = 0 → At M G pf L rest h cs sl Z) : At M G pc L (.int x :: rest) h cs sl Z := by
  intro l p e s m args below meth c D cy B H locs ls hC hK hG hb hW hS hL
  subst hp
  exact lv_if_eq hC.1 hC.2.1 hd ht (fun q => kt q l p e s m args below meth c D cy B H locs ls hC hK hG hb hW hS hL) (fun q => kf q l p e s m args below meth c D cy B H locs ls hC hK hG hb hW hS hL)
theorem at_if_ne (pt pf : Nat) {x : Int32} {off : Int} (hd : decode M.2.1 pc = .ok (.ifCond .ne off, 3)) (ht : (pc : Int) + off = (pt : Int)) (hp : pc + 3 = pf) (kt : ¬ x = 0 → At M G pt L rest h cs sl Z) (kf : x = 0 → At M G pf L rest h cs sl Z) : At M G pc L (.int x :: rest) h cs sl Z := by
  intro l p e s m args below meth c D cy B H locs ls hC hK hG hb hW hS hL
  subst hp
  exact lv_if_ne hC.1 hC.2.1 hd ht (fun q => kt q l p e s m args below meth c D cy B H locs ls hC hK hG hb hW hS hL) (fun q => kf q l p e s m args below meth c D cy B H locs ls hC hK hG hb hW hS hL)
theorem at_if_lt (pt pf : Nat) {x : Int32} {off : Int} (hd : decode M.2.1 pc = .ok (.ifCond .lt off, 3)) (ht : (pc : Int) + off = (pt : Int)) (hp : pc + 3 = pf) (kt : x < 0 → At M G pt L rest h cs sl Z) (kf : ¬ x < 0 → At M G pf L rest h cs sl Z) : At M G pc L (.int x :: rest) h cs sl Z := by
  intro l p e s m args below meth c D cy B H locs ls hC hK hG hb hW hS hL
  subst hp
  exact lv_if_lt hC.1 hC.2.1 hd ht (fun q => kt q l p e s m args below meth c D cy B H locs ls hC hK hG hb hW hS hL) (fun q => kf q l p e s m args below meth c D cy B H locs ls hC hK hG hb hW hS hL)
theorem at_if_ge (pt pf : Nat) {x : Int32} {off : Int} (hd : decode M.2.1 pc = .ok (.ifCond .ge off, 3)) (ht : (pc : Int) + off = (pt : Int)) (hp : pc + 3 = pf) (kt : 0 ≤ x → At M G pt L rest h cs sl Z) (kf : ¬ 0 ≤ x → At M G pf L rest h cs sl Z) : At M G pc L (.int x :: rest) h cs sl Z := by
  intro l p e s m args below meth c D cy B H locs ls hC hK hG hb hW hS hL
  subst hp
  exact lv_if_ge hC.1 hC.2.1 hd ht (fun q => kt q l p e s m args below meth c D cy B H locs ls hC hK hG hb hW hS hL) (fun q => kf q l p e s m args below meth c D cy B H locs ls hC hK hG hb hW hS hL)
theorem at_if_gt (pt pf : Nat) {x : Int32} {off : Int} (hd : decode M.2.1 pc = .ok (.ifCond .gt off, 3)) (ht : (pc : Int) + off = (pt : Int)) (hp : pc + 3 = pf) (kt : 0 < x → At M G pt L rest h cs sl Z) (kf : ¬ 0 < x → At M G pf L rest h cs sl Z) : At M G pc L (.int x :: rest) h cs sl Z := by
  intro l p e s m args below meth c D cy B H locs ls hC hK hG hb hW hS hL
  subst hp
  exact lv_if_gt hC.1 hC.2.1 hd ht (fun q => kt q l p e s m args below meth c D cy B H locs ls hC hK hG hb hW hS hL) (fun q => kf q l p e s m args below meth c D cy B H locs ls hC hK hG hb hW hS hL)
theorem at_if_le (pt pf : Nat) {x : Int32} {off : Int} (hd : decode M.2.1 pc = .ok (.ifCond .le off, 3)) (ht : (pc : Int) + off = (pt : Int)) (hp : pc + 3 = pf) (kt : x ≤ 0 → At M G pt L rest h cs sl Z) (kf : ¬ x ≤ 0 → At M G pf L rest h cs sl Z) : At M G pc L (.int x :: rest) h cs sl Z := by
  intro l p e s m args below meth c D cy B H locs ls hC hK hG hb hW hS hL
  subst hp
  exact lv_if_le hC.1 hC.2.1 hd ht (fun q => kt q l p e s m args below meth c D cy B H locs ls hC hK hG hb hW hS hL) (fun q => kf q l p e s m args below meth c D cy B H locs ls hC hK hG hb hW hS hL)
theorem at_icmp_eq (pt pf : Nat) {x y : Int32} {off : Int} (hd : decode M.2.1 pc = .ok (.if_icmp .eq off, 3)) (ht : (pc : Int) + off = (pt : Int)) (hp : pc + 3 = pf) (kt : x = y → At M G pt L rest h cs sl Z) (kf : ¬ x = y → At M G pf L rest h cs sl Z) : At M G pc L (.int y :: .int x :: rest) h cs sl Z := by
  intro l p e s m args below meth c D cy B H locs ls hC hK hG hb hW hS hL
  subst hp
  exact lv_icmp_eq hC.1 hC.2.1 hd ht (fun q => kt q l p e s m args below meth c D cy B H locs ls hC hK hG hb hW hS hL) (fun q => kf q l p e s m args below meth c D cy B H locs ls hC hK hG hb hW hS hL)
theorem at_icmp_ne (pt pf : Nat) {x y : Int32} {off : Int} (hd : decode M.2.1 pc = .ok (.if_icmp .ne off, 3)) (ht : (pc : Int) + off = (pt : Int)) (hp : pc + 3 = pf) (kt : ¬ x = y → At M G pt L rest h cs sl Z) (kf : x = y → At M G pf L rest h cs sl Z) : At M G pc L (.int y :: .int x :: rest) h cs sl Z := by
  intro l p e s m args below meth c D cy B H locs ls hC hK hG hb hW hS hL
  subst hp
  exact lv_icmp_ne hC.1 hC.2.1 hd ht (fun q => kt q l p e s m args below meth c D cy B H locs ls hC hK hG hb hW hS hL) (fun q => kf q l p e s m args below meth c D cy B H locs ls hC hK hG hb hW hS hL)
theorem at_icmp_lt (pt pf : Nat) {x y : Int32} {off : Int} (hd : decode M.2.1 pc = .ok (.if_icmp .lt off, 3)) (ht : (pc : Int) + off = (pt : Int)) (hp : pc + 3 = pf) (kt : x < y → At M G pt L rest h cs sl Z) (kf : ¬ x < y → At M G pf L rest h cs sl Z) : At M G pc L (.int y :: .int x :: rest) h cs sl Z := by
  intro l p e s m args below meth c D cy B H locs ls hC hK hG hb hW hS hL
  subst hp
  exact lv_icmp_lt hC.1 hC.2.1 hd ht (fun q => kt q l p e s m args below meth c D cy B H locs ls hC hK hG hb hW hS hL) (fun q => kf q l p e s m args below meth c D cy B H locs ls hC hK hG hb hW hS hL)
theorem at_icmp_ge (pt pf : Nat) {x y : Int32} {off : Int} (hd : decode M.2.1 pc = .ok (.if_icmp .ge off, 3)) (ht : (pc : Int) + off = (pt : Int)) (hp : pc + 3 = pf) (kt : y ≤ x → At M G pt L rest h cs sl Z) (kf : ¬ y ≤ x → At M G pf L rest h cs sl Z) : At M G pc L (.int y :: .int x :: rest) h cs sl Z := by
  intro l p e s m args below meth c D cy B H locs ls hC hK hG hb hW hS hL
  subst hp
  exact lv_icmp_ge hC.1 hC.2.1 hd ht (fun q => kt q l p e s m args below meth c D cy B H locs ls hC hK hG hb hW hS hL) (fun q => kf q l p e s m args below meth c D cy B H locs ls hC hK hG hb hW hS hL)
theorem at_icmp_gt (pt pf : Nat) {x y : Int32} {off : Int} (hd : decode M.2.1 pc = .ok (.if_icmp .gt off, 3)) (ht : (pc : Int) + off = (pt : Int)) (hp : pc + 3 = pf) (kt : y < x → At M G pt L rest h cs sl Z) (kf : ¬ y < x → At M G pf L rest h cs sl Z) : At M G pc L (.int y :: .int x :: rest) h cs sl Z := by
  intro l p e s m args below meth c D cy B H locs ls hC hK hG hb hW hS hL
  subst hp
  exact lv_icmp_gt hC.1 hC.2.1 hd ht (fun q => kt q l p e s m args below meth c D cy B H locs ls hC hK hG hb hW hS hL) (fun q => kf q l p e s m args below meth c D cy B H locs ls hC hK hG hb hW hS hL)
theorem at_icmp_le (pt pf : Nat) {x y : Int32} {off : Int} (hd : decode M.2.1 pc = .ok (.if_icmp .le off, 3)) (ht : (pc : Int) + off = (pt : Int)) (hp : pc + 3 = pf) (kt : x ≤ y → At M G pt L rest h cs sl Z) (kf : ¬ x ≤ y → At M G pf L rest h cs sl Z) : At M G pc L (.int y :: .int x :: rest) h cs sl Z := by
  intro l p e s m args below meth c D cy B H locs ls hC hK hG hb hW hS hL
  subst hp
  exact lv_icmp_le hC.1 hC.2.1 hd ht (fun q => kt q l p e s m args below meth c D cy B H locs ls hC hK hG hb hW hS hL) (fun q => kf q l p e s m args below meth c D cy B H locs ls hC hK hG hb hW hS hL)
theorem at_goto (pt : Nat) {off : Int} (hd : decode M.2.1 pc = .ok (.goto off, 3)) (ht : (pc : Int) + off = (pt : Int)) (kk : At M G pt L rest h cs sl Z) : At M G pc L rest h cs sl Z := by
  intro l p e s m args below meth c D cy B H locs ls hC hK hG hb hW hS hL
  exact lv_goto hC.1 hC.2.1 hd ht (kk l p e s m args below meth c D cy B H locs ls hC hK hG hb hW hS hL)
theorem at_tabIn (pt : Nat) {dflt lo hi : Int} {offs : Array Int} {len : Nat} {x : Int32} {off : Int} (hd : decode M.2.1 pc = .ok (.tableswitch dflt lo hi offs, len)) (h1 : ¬ x.toInt < lo) (h2 : ¬ hi < x.toInt) (ho : offs[(x.toInt - lo).toNat]? = some off) (ht : (pc : Int) + off = (pt : Int)) (kk : At M G pt L rest h cs sl Z) : At M G pc L (.int x :: rest) h cs sl Z := by
  intro l p e s m args below meth c D cy B H locs ls hC hK hG hb hW hS hL
  exact lv_tableIn hC.1 hC.2.1 hd h1 h2 ho ht (kk l p e s m args below meth c D cy B H locs ls hC hK hG hb hW hS hL)
theorem at_tabOut (pt : Nat) {dflt lo hi : Int} {offs : Array Int} {len : Nat} {x : Int32} (hd : decode M.2.1 pc = .ok (.tableswitch dflt lo hi offs, len)) (h1 : x.toInt < lo ∨ hi < x.toInt) (ht : (pc : Int) + dflt = (pt : Int)) (kk : At M G pt L rest h cs sl Z) : At M G pc L (.int x :: rest) h cs sl Z := by
  intro l p e s m args below meth c D cy B H locs ls hC hK hG hb hW hS hL
  exact lv_tableOut hC.1 hC.2.1 hd h1 ht (kk l p e s m args below meth c D cy B H locs ls hC hK hG hb hW hS hL)

def FL (own : String) (idx ci k : Nat) : Prop := ∃ (C : String) (T : u_T) (N : Nat), clz[ci]? = some (C, T, N) ∧ k < N ∧ Cond.fieldLink own idx (T k).1 (T k).2.1 (T k).2.2.1 ∈ gw ∧ ∀ w ∈ u_ws C T N, w ∈ gw
def PL (fin : Bool) (own : String) (idx ci k : Nat) (ty : FieldType) : Prop := ∃ (C : String) (T : u_T) (N : Nat) (ty0 : Nat → FieldType), clz[ci]? = some (C, T, N) ∧ k < N ∧ Cond.fieldLink own idx (T k).1 (T k).2.1 (T k).2.2.1 ∈ gw ∧ (∀ w ∈ u_ws C T N, w ∈ gw) ∧
  (∀ k, k < N → parseFieldDescriptor (T k).2.2.1 = some (ty0 k)) ∧ (∀ a, a < N → ∀ b, b < N → a ≠ b → (T a).2.1 ≠ (T b).2.1) ∧ (T k).2.2.2 = fin ∧ (T k).1 = C ∧ parseFieldDescriptor (T k).2.2.1 = some ty
theorem at_get (pc' : Nat) {idx k ci j : Nat} {fs : List Value} {v : Value} (hd : decode M.2.1 pc = .ok (.getfield idx, 3)) (hp : pc + 3 = pc') (hf : FL M.1.cls idx ci j) (hh : h[k]? = some (.inr (ci, fs))) (hv : fs[j]? = some v) (kk : At M G pc' L (v :: rest) h cs sl Z) : At M G pc L (.ref k :: rest) h cs sl Z := by
  intro l p e s m args below meth c D cy B H locs ls hC hK hG hb hW hS hL
  subst hp
  obtain ⟨C, T, N, f1, f2, f3, f4⟩ := hf
  exact va_get hC.1 hC.2.1 hC.2.2.2.2.2.1 f4 hC.2.2.2.2.1 hK.1 hW.1 k (wo_get hh) f1 j f2 (hC.2.2.2.2.2.1 _ f3) (fun _ q => q) (v := tv B v) (by rw [List.getElem?_map, hv]; rfl) hd (kk l p e s m args below meth c D cy B H locs ls hC hK hG hb hW hS hL)
theorem map_set {α β : Type} (f : α → β) (l : List α) (k : Nat) (v : α) : (l.map f).set k (f v) = (l.set k v).map f := by
  apply List.ext_getElem?
  intro j
  simp only [List.getElem?_map, List.getElem?_set, List.length_map]
  by_cases e : k = j
  · subst e
    by_cases hl : k < l.length <;> simp [hl]
  · simp [e]
theorem WO.upd {D : va_G} {cy : Nat → ClassId} {B : Nat × Nat} {H H1 : Heap} {k : Nat} {c0 c : PC} (hW : WO D cy B h H) (hh : h[k]? = some c0) (he : va_at D clz (B.1 + k, tE cy B c) H1) (oq : ∀ q : Nat, q ≠ B.1 + k → H1[q]? = H[q]?) (hz : H1.size = H.size) : WO D cy B (h.set k c) H1 := by
  refine ⟨?_, by rw [hz, List.length_set]; exact hW.2⟩
  rw [← wo_set]
  exact hW.1.set (A := fun q => B.1 ≤ q) wo_D (wo_get hh) he oq
/-- what a store does to the plain heap -/
def Nw (h : List PC) (k : Nat) (c : PC) (h' : List PC) : Prop := h'[k]? = some c ∧ (∀ i, i ≠ k → h'[i]? = h[i]?) ∧ h'.length = h.length
theorem Nw.of {k : Nat} {c0 : PC} (hh : h[k]? = some c0) (c : PC) : Nw h k c (h.set k c) :=
  ⟨by rw [List.getElem?_set_self (List.getElem?_eq_some_iff.mp hh).1], fun i hi => by rw [List.getElem?_set_ne (fun q => hi q.symm)], by rw [List.length_set]⟩
theorem at_puti (pc' : Nat) {idx k ci j : Nat} {fs fs' : List Value} {x : Int32} {ty : FieldType} (hd : decode M.2.1 pc = .ok (.putfield idx, 3)) (hp : pc + 3 = pc') (hf : PL false M.1.cls idx ci j ty) (hh : h[k]? = some (.inr (ci, fs))) (hj : j < fs.length) (hn : narrow ty (.int x) = .int x) (hfit : fits ty (.int x) = true) (hfs : fs.set j (.int x) = fs') (kk : ∀ h' : List PC, Nw h k (.inr (ci, fs')) h' → At M G pc' L rest h' cs sl Z) : At M G pc L (.int x :: .ref k :: rest) h cs sl Z := by
  intro l p e s m args below meth c D cy B H locs ls hC hK hG hb hW hS hL
  subst hp; subst hfs
  obtain ⟨C, T, N, ty0, f1, f2, f3, f4, f5, f6, f7, f8, f9⟩ := hf
  have hap := va_apart (D := D) (own := M.1.cls) hC.2.2.2.2.2.1 f4 ty0 f5 f6 hK.1 f1
  obtain ⟨r, h1, cell, q1, q2, q3, q4⟩ := hW.1 k _ (wo_get hh)
  have hr : r = (C, T, N) := Option.some.inj (h1.symm.trans f1)
  subst hr
  obtain ⟨hSl, hfc, kC, hkC, hkind⟩ := hK.1.1 ci _ f1
  obtain ⟨cf, kf, fi, f, hi, hsl⟩ := hSl j f2
  have hlay := hC.2.2.2.2.2.1 _ (f4 _ (u_in_lay f2))
  unfold u_lay at hlay
  rw [if_neg (by rw [f7]; decide)] at hlay
  have hst := (u_facts hfc hkC (u_lays hC.2.2.2.2.2.1 f4 f2) hi).1
  have h6 := u_store hfc hkC hkind hlay hi f9 hn hfit
  refine W.putK hC.1 hC.2.1 (f := f) ⟨hC.2.2.2.2.1, hC.2.2.2.2.2.1 _ f3, ⟨_, _, _, hi⟩, hst⟩ (by rw [q2]; exact h6) q1 q3 (by rw [hsl]; exact k2_hasslot (q4 j f2)) rfl rfl hd fun H' e1 e2 e3 => ?_
  rw [hsl] at e1 ⊢
  have hl : j < (fs.map (tv B)).length := by rw [List.length_map]; exact hj
  have ha : va_at D clz (B.1 + k, tE cy B (.inr (ci, fs.set j (.int x)))) H' := by
    show va_at D clz (B.1 + k, .inr (ci, (fs.set j (.int x)).map (tv B))) H'
    rw [← map_set]
    exact ⟨_, f1, t_OB.to (V := updV (vp_V (fs.map (tv B))) j (tv B (.int x))) ⟨_, e1, q2, q3, t_set q4 hap f2 (tv B (.int x))⟩ (fun i _ => vp_updV_set hl (tv B (.int x)) i)⟩
  exact kk _ (Nw.of hh _) l p e s m args below meth c D cy B H' _ ls hC hK hG hb (hW.upd hh ha e3 e2) (hS.put e2 e3 (Nat.le_add_right _ _)) hL
theorem at_putl (pc' : Nat) {idx k ci j : Nat} {fs fs' : List Value} {x : Int64} {ty : FieldType} (hd : decode M.2.1 pc = .ok (.putfield idx, 3)) (hp : pc + 3 = pc') (hf : PL false M.1.cls idx ci j ty) (hh : h[k]? = some (.inr (ci, fs))) (hj : j < fs.length) (hn : narrow ty (.long x) = .long x) (hfit : fits ty (.long x) = true) (hfs : fs.set j (.long x) = fs') (kk : ∀ h' : List PC, Nw h k (.inr (ci, fs')) h' → At M G pc' L rest h' cs sl Z) : At M G pc L (.long x :: .ref k :: rest) h cs sl Z := by
  intro l p e s m args below meth c D cy B H locs ls hC hK hG hb hW hS hL
  subst hp; subst hfs
  obtain ⟨C, T, N, ty0, f1, f2, f3, f4, f5, f6, f7, f8, f9⟩ := hf
  have hap := va_apart (D := D) (own := M.1.cls) hC.2.2.2.2.2.1 f4 ty0 f5 f6 hK.1 f1
  obtain ⟨r, h1, cell, q1, q2, q3, q4⟩ := hW.1 k _ (wo_get hh)
  have hr : r = (C, T, N) := Option.some.inj (h1.symm.trans f1)
  subst hr
  obtain ⟨hSl, hfc, kC, hkC, hkind⟩ := hK.1.1 ci _ f1
  obtain ⟨cf, kf, fi, f, hi, hsl⟩ := hSl j f2
  have hlay := hC.2.2.2.2.2.1 _ (f4 _ (u_in_lay f2))
  unfold u_lay at hlay
  rw [if_neg (by rw [f7]; decide)] at hlay
  have hst := (u_facts hfc hkC (u_lays hC.2.2.2.2.2.1 f4 f2) hi).1
  have h6 := u_store hfc hkC hkind hlay hi f9 hn hfit
  refine W.putK hC.1 hC.2.1 (f := f) ⟨hC.2.2.2.2.1, hC.2.2.2.2.2.1 _ f3, ⟨_, _, _, hi⟩, hst⟩ (by rw [q2]; exact h6) q1 q3 (by rw [hsl]; exact k2_hasslot (q4 j f2)) rfl rfl hd fun H' e1 e2 e3 => ?_
  rw [hsl] at e1 ⊢
  have hl : j < (fs.map (tv B)).length := by rw [List.length_map]; exact hj
  have ha : va_at D clz (B.1 + k, tE cy B (.inr (ci, fs.set j (.long x)))) H' := by
    show va_at D clz (B.1 + k, .inr (ci, (fs.set j (.long x)).map (tv B))) H'
    rw [← map_set]
    exact ⟨_, f1, t_OB.to (V := updV (vp_V (fs.map (tv B))) j (tv B (.long x))) ⟨_, e1, q2, q3, t_set q4 hap f2 (tv B (.long x))⟩ (fun i _ => vp_updV_set hl (tv B (.long x)) i)⟩
  exact kk _ (Nw.of hh _) l p e s m args below meth c D cy B H' _ ls hC hK hG hb (hW.upd hh ha e3 e2) (hS.put e2 e3 (Nat.le_add_right _ _)) hL
theorem at_putr (pc' : Nat) {idx k ci j : Nat} {fs fs' : List Value} {x : Nat} {ty : FieldType} (hd : decode M.2.1 pc = .ok (.putfield idx, 3)) (hp : pc + 3 = pc') (hf : PL false M.1.cls idx ci j ty) (hh : h[k]? = some (.inr (ci, fs))) (hj : j < fs.length) (hn : ∀ a : Nat, narrow ty (.ref a) = .ref a) (hfit : ∀ a : Nat, fits ty (.ref a) = true) (hfs : fs.set j (.ref x) = fs') (kk : ∀ h' : List PC, Nw h k (.inr (ci, fs')) h' → At M G pc' L rest h' cs sl Z) : At M G pc L (.ref x :: .ref k :: rest) h cs sl Z := by
  intro l p e s m args below meth c D cy B H locs ls hC hK hG hb hW hS hL
  subst hp; subst hfs
  obtain ⟨C, T, N, ty0, f1, f2, f3, f4, f5, f6, f7, f8, f9⟩ := hf
  have hap := va_apart (D := D) (own := M.1.cls) hC.2.2.2.2.2.1 f4 ty0 f5 f6 hK.1 f1
  obtain ⟨r, h1, cell, q1, q2, q3, q4⟩ := hW.1 k _ (wo_get hh)
  have hr : r = (C, T, N) := Option.some.inj (h1.symm.trans f1)
  subst hr
  obtain ⟨hSl, hfc, kC, hkC, hkind⟩ := hK.1.1 ci _ f1
  obtain ⟨cf, kf, fi, f, hi, hsl⟩ := hSl j f2
  have hlay := hC.2.2.2.2.2.1 _ (f4 _ (u_in_lay f2))
  unfold u_lay at hlay
  rw [if_neg (by rw [f7]; decide)] at hlay
  have hst := (u_facts hfc hkC (u_lays hC.2.2.2.2.2.1 f4 f2) hi).1
  have h6 := u_store hfc hkC hkind hlay hi f9 (hn (B.1 + x)) (hfit (B.1 + x))
  refine W.putK hC.1 hC.2.1 (f := f) ⟨hC.2.2.2.2.1, hC.2.2.2.2.2.1 _ f3, ⟨_, _, _, hi⟩, hst⟩ (by rw [q2]; exact h6) q1 q3 (by rw [hsl]; exact k2_hasslot (q4 j f2)) rfl rfl hd fun H' e1 e2 e3 => ?_
  rw [hsl] at e1 ⊢
  have hl : j < (fs.map (tv B)).length := by rw [List.length_map]; exact hj
  have ha : va_at D clz (B.1 + k, tE cy B (.inr (ci, fs.set j (.ref x)))) H' := by
    show va_at D clz (B.1 + k, .inr (ci, (fs.set j (.ref x)).map (tv B))) H'
    rw [← map_set]
    exact ⟨_, f1, t_OB.to (V := updV (vp_V (fs.map (tv B))) j (tv B (.ref x))) ⟨_, e1, q2, q3, t_set q4 hap f2 (tv B (.ref x))⟩ (fun i _ => vp_updV_set hl (tv B (.ref x)) i)⟩
  exact kk _ (Nw.of hh _) l p e s m args below meth c D cy B H' _ ls hC hK hG hb (hW.upd hh ha e3 e2) (hS.put e2 e3 (Nat.le_add_right _ _)) hL
theorem at_putrF (pc' : Nat) {idx k ci j : Nat} {fs fs' : List Value} {x : Nat} {ty : FieldType} (hd : decode M.2.1 pc = .ok (.putfield idx, 3)) (hp : pc + 3 = pc') (hf : PL true M.1.cls idx ci j ty) (hh : h[k]? = some (.inr (ci, fs))) (hj : j < fs.length) (hn : ∀ a : Nat, narrow ty (.ref a) = .ref a) (hfit : ∀ a : Nat, fits ty (.ref a) = true) (hin : M.1.name = "<init>") (ho : ∀ C T N, clz[ci]? = some (C, T, N) → C = M.1.cls) (hfs : fs.set j (.ref x) = fs') (kk : ∀ h' : List PC, Nw h k (.inr (ci, fs')) h' → At M G pc' L rest h' cs sl Z) : At M G pc L (.ref x :: .ref k :: rest) h cs sl Z := by
  intro l p e s m args below meth c D cy B H locs ls hC hK hG hb hW hS hL
  subst hp; subst hfs
  obtain ⟨C, T, N, ty0, f1, f2, f3, f4, f5, f6, f7, f8, f9⟩ := hf
  have hap := va_apart (D := D) (own := M.1.cls) hC.2.2.2.2.2.1 f4 ty0 f5 f6 hK.1 f1
  obtain ⟨r, h1, cell, q1, q2, q3, q4⟩ := hW.1 k _ (wo_get hh)
  have hr : r = (C, T, N) := Option.some.inj (h1.symm.trans f1)
  subst hr
  obtain ⟨hSl, hfc, kC, hkC, hkind⟩ := hK.1.1 ci _ f1
  obtain ⟨cf, kf, fi, f, hi, hsl⟩ := hSl j f2
  have hlay := hC.2.2.2.2.2.1 _ (f4 _ (u_in_lay f2))
  unfold u_lay at hlay
  rw [if_pos f7] at hlay
  have hst := (u_facts hfc hkC (u_lays hC.2.2.2.2.2.1 f4 f2) hi).1
  have hcf : m.cls = cf := by
    obtain ⟨_, _, c', _, _, _, -, -, hf', -, -, -, hown2, -⟩ := Cond.laysFinal_spec hlay
    have e1 : c' = cf := by have := hi.symm.trans hf'; simp at this; exact this.1.symm
    rw [f8, ho C T N f1] at hown2
    rw [← e1]; exact Option.some.inj (hC.2.2.2.2.1.symm.trans hown2)
  have h6 := u_fits hfc hkC hkind (Or.inr hlay) hi f9 (hn (B.1 + x)) (hfit (B.1 + x))
  refine W.putFinK hC.1 hC.2.1 hC.2.2.2.2.1 (hC.2.2.2.2.2.1 _ f3) hi hst hcf (hC.2.2.2.2.2.2.2.trans hin) (by rw [q2]; exact h6) q1 q3 (by rw [hsl]; exact k2_hasslot (q4 j f2)) rfl rfl hd fun H' e1 e2 e3 => ?_
  rw [hsl] at e1 ⊢
  have hl : j < (fs.map (tv B)).length := by rw [List.length_map]; exact hj
  have ha : va_at D clz (B.1 + k, tE cy B (.inr (ci, fs.set j (.ref x)))) H' := by
    show va_at D clz (B.1 + k, .inr (ci, (fs.set j (.ref x)).map (tv B))) H'
    rw [← map_set]
    exact ⟨_, f1, t_OB.to (V := updV (vp_V (fs.map (tv B))) j (tv B (.ref x))) ⟨_, e1, q2, q3, t_set q4 hap f2 (tv B (.ref x))⟩ (fun i _ => vp_updV_set hl (tv B (.ref x)) i)⟩
  exact kk _ (Nw.of hh _) l p e s m args below meth c D cy B H' _ ls hC hK hG hb (hW.upd hh ha e3 e2) (hS.put e2 e3 (Nat.le_add_right _ _)) hL
def aG (n : Nat) (f : Nat → Int32) : PC := .inl (0, n, .inl f)
def aJ (n : Nat) (f : Nat → Int64) : PC := .inl (1, n, .inr (.inl f))
def aZ (n : Nat) (f : Nat → Int32) : PC := .inl (2, n, .inl f)
def aR (n : Nat) (f : Nat → Option Nat) : PC := .inl (3, n, .inr (.inr (.inr (.inr f))))
theorem at_ialdG (pc' : Nat) {k n : Nat} {f : Nat → Int32} {i : Int32} (hd : decode M.2.1 pc = .ok (.iaload, 1)) (hp : pc + 1 = pc') (hh : h[k]? = some (aG n f)) (hi : vp_in i n) (kk : At M G pc' L (.int (f i.toNatClampNeg) :: rest) h cs sl Z) : At M G pc L (.int i :: .ref k :: rest) h cs sl Z := by
  intro l p e s m args below meth c D cy B H locs ls hC hK hG hb hW hS hL
  subst hp
  exact va_iald hC.1 hC.2.1 hK.1 hW.1 k 0 (wo_get hh) rfl hi hd (kk l p e s m args below meth c D cy B H locs ls hC hK hG hb hW hS hL)
theorem at_laldG (pc' : Nat) {k n : Nat} {f : Nat → Int64} {i : Int32} (hd : decode M.2.1 pc = .ok (.laload, 1)) (hp : pc + 1 = pc') (hh : h[k]? = some (aJ n f)) (hi : vp_in i n) (kk : At M G pc' L (.long (f i.toNatClampNeg) :: rest) h cs sl Z) : At M G pc L (.int i :: .ref k :: rest) h cs sl Z := by
  intro l p e s m args below meth c D cy B H locs ls hC hK hG hb hW hS hL
  subst hp
  exact va_lald hC.1 hC.2.1 hK.1 hW.1 k 1 (wo_get hh) rfl hi hd (kk l p e s m args below meth c D cy B H locs ls hC hK hG hb hW hS hL)
theorem at_zaldG (pc' : Nat) {k n : Nat} {f : Nat → Int32} {i : Int32} (hd : decode M.2.1 pc = .ok (.baload, 1)) (hp : pc + 1 = pc') (hh : h[k]? = some (aZ n f)) (hi : vp_in i n) (kk : At M G pc' L (.int (f i.toNatClampNeg) :: rest) h cs sl Z) : At M G pc L (.int i :: .ref k :: rest) h cs sl Z := by
  intro l p e s m args below meth c D cy B H locs ls hC hK hG hb hW hS hL
  subst hp
  exact va_zald hC.1 hC.2.1 hK.1 hW.1 k 2 (wo_get hh) rfl hi hd (kk l p e s m args below meth c D cy B H locs ls hC hK hG hb hW hS hL)
theorem at_aald (pc' : Nat) {k n a : Nat} {f : Nat → Option Nat} {i : Int32} (hd : decode M.2.1 pc = .ok (.aaload, 1)) (hp : pc + 1 = pc') (hh : h[k]? = some (aR n f)) (hi : vp_in i n) (hv : f i.toNatClampNeg = some a) (kk : At M G pc' L (.ref a :: rest) h cs sl Z) : At M G pc L (.int i :: .ref k :: rest) h cs sl Z := by
  intro l p e s m args below meth c D cy B H locs ls hC hK hG hb hW hS hL
  subst hp
  have hlt : i.toNatClampNeg < n := Nat.not_le.mp fun q => hi (Or.inr q)
  exact W.aald (v := .ref (B.1 + a)) (ty := .array .int) hC.1 hC.2.1 (hW.1 k _ (wo_get hh)) ((hK.1.2 3 (cy 3, .array .int) rfl).1 n (fun j => va_rf ((f j).map (fun k => B.1 + k)))) rfl (fun q => by cases q) (by show ¬ (i < 0 ∨ (arrV _ _ _).slots.size ≤ _); rw [arrV_size]; exact hi) (by show (arrV (cy 3) n (fun j => va_rf ((f j).map (fun k => B.1 + k)))).slots[i.toNatClampNeg]? = _; rw [arrV_read _ _ hlt, hv]; rfl) rfl rfl hd (kk l p e s m args below meth c D cy B H locs ls hC hK hG hb hW hS hL)
theorem at_alen (pc' : Nat) {k t n : Nat} {v : Int32} {x : (Nat → Int32) ⊕ (Nat → Int64) ⊕ (Nat → UInt32) ⊕ (Nat → UInt64) ⊕ (Nat → Option Nat)} (ty : FieldType) (hd : decode M.2.1 pc = .ok (.arraylength, 1)) (hp : pc + 1 = pc') (hh : h[k]? = some (.inl (t, n, x))) (ht : ∀ cy : Nat → ClassId, (tyl cy)[t]? = some (cy t, ty)) (hv : Int32.ofNat n = v) (kk : At M G pc' L (.int v :: rest) h cs sl Z) : At M G pc L (.ref k :: rest) h cs sl Z := by
  intro l p e s m args below meth c D cy B H locs ls hC hK hG hb hW hS hL
  subst hp
  exact va_alen hC.1 hC.2.1 hK.1 hW.1 k t (wo_get hh) (ht cy) hv hd (kk l p e s m args below meth c D cy B H locs ls hC hK hG hb hW hS hL)
theorem at_iastG (pc' : Nat) {k n : Nat} {f : Nat → Int32} {i : Int32} {x : Int32} (hd : decode M.2.1 pc = .ok (.iastore, 1)) (hp : pc + 1 = pc') (hh : h[k]? = some (aG n f)) (hi : vp_in i n) (kk : ∀ h' : List PC, Nw h k (aG n (upd f i.toNatClampNeg x)) h' → At M G pc' L rest h' cs sl Z) : At M G pc L (.int x :: .int i :: .ref k :: rest) h cs sl Z := by
  intro l p e s m args below meth c D cy B H locs ls hC hK hG hb hW hS hL
  subst hp
  refine W.iast hC.1 hC.2.1 (hW.1 k _ (wo_get hh)) ((hK.1.2 0 _ rfl).1 n (fun j => .int (f j))) (fun q => by cases q) (by show ¬ (i < 0 ∨ (arrV _ _ _).slots.size ≤ _); rw [arrV_size]; exact hi) rfl rfl hd fun H1 e0 z oq => ?_
  have ha : va_at D clz (B.1 + k, tE cy B (aG n (upd f i.toNatClampNeg x))) H1 := by
    show H1[B.1 + k]? = some (vp_cell (cy 0) (n, .inl (upd f i.toNatClampNeg x)))
    rw [e0]
    show some ((vp_cell (cy 0) (n, .inl f)).setSlot _ _) = _
    first | rw [vp_cell_i, vp_cell_i, arrV_store] | rw [vp_cell_l, vp_cell_l, arrV_store]
    congr 2
    funext q
    by_cases hq : q = i.toNatClampNeg
    · subst hq
      simp [updV, upd, vp_updL, vp_nar, narrow]
    · simp [updV, upd, vp_updL, hq]
  exact kk _ (Nw.of hh _) l p e s m args below meth c D cy B H1 _ ls hC hK hG hb (hW.upd hh ha oq z) (hS.put z oq (Nat.le_add_right _ _)) hL
theorem at_lastG (pc' : Nat) {k n : Nat} {f : Nat → Int64} {i : Int32} {x : Int64} (hd : decode M.2.1 pc = .ok (.lastore, 1)) (hp : pc + 1 = pc') (hh : h[k]? = some (aJ n f)) (hi : vp_in i n) (kk : ∀ h' : List PC, Nw h k (aJ n (vp_updL f i.toNatClampNeg x)) h' → At M G pc' L rest h' cs sl Z) : At M G pc L (.long x :: .int i :: .ref k :: rest) h cs sl Z := by
  intro l p e s m args below meth c D cy B H locs ls hC hK hG hb hW hS hL
  subst hp
  refine W.last hC.1 hC.2.1 (hW.1 k _ (wo_get hh)) ((hK.1.2 1 _ rfl).1 n (fun j => .long (f j))) (fun q => by cases q) (by show ¬ (i < 0 ∨ (arrV _ _ _).slots.size ≤ _); rw [arrV_size]; exact hi) rfl rfl hd fun H1 e0 z oq => ?_
  have ha : va_at D clz (B.1 + k, tE cy B (aJ n (vp_updL f i.toNatClampNeg x))) H1 := by
    show H1[B.1 + k]? = some (vp_cell (cy 1) (n, .inr (.inl (vp_updL f i.toNatClampNeg x))))
    rw [e0]
    show some ((vp_cell (cy 1) (n, .inr (.inl f))).setSlot _ _) = _
    first | rw [vp_cell_i, vp_cell_i, arrV_store] | rw [vp_cell_l, vp_cell_l, arrV_store]
    congr 2
    funext q
    by_cases hq : q = i.toNatClampNeg
    · subst hq
      simp [updV, upd, vp_updL, vp_nar, narrow]
    · simp [updV, upd, vp_updL, hq]
  exact kk _ (Nw.of hh _) l p e s m args below meth c D cy B H1 _ ls hC hK hG hb (hW.upd hh ha oq z) (hS.put z oq (Nat.le_add_right _ _)) hL
theorem at_zastG (pc' : Nat) {k n : Nat} {f : Nat → Int32} {i : Int32} {x : Int32} (hd : decode M.2.1 pc = .ok (.bastore, 1)) (hp : pc + 1 = pc') (hh : h[k]? = some (aZ n f)) (hi : vp_in i n) (kk : ∀ h' : List PC, Nw h k (aZ n (upd f i.toNatClampNeg (vp_nar .boolean x))) h' → At M G pc' L rest h' cs sl Z) : At M G pc L (.int x :: .int i :: .ref k :: rest) h cs sl Z := by
  intro l p e s m args below meth c D cy B H locs ls hC hK hG hb hW hS hL
  subst hp
  refine W.zast hC.1 hC.2.1 (hW.1 k _ (wo_get hh)) ((hK.1.2 2 _ rfl).1 n (fun j => .int (f j))) (fun q => by cases q) (by show ¬ (i < 0 ∨ (arrV _ _ _).slots.size ≤ _); rw [arrV_size]; exact hi) rfl rfl hd fun H1 e0 z oq => ?_
  have ha : va_at D clz (B.1 + k, tE cy B (aZ n (upd f i.toNatClampNeg (vp_nar .boolean x)))) H1 := by
    show H1[B.1 + k]? = some (vp_cell (cy 2) (n, .inl (upd f i.toNatClampNeg (vp_nar .boolean x))))
    rw [e0]
    show some ((vp_cell (cy 2) (n, .inl f)).setSlot _ _) = _
    first | rw [vp_cell_i, vp_cell_i, arrV_store] | rw [vp_cell_l, vp_cell_l, arrV_store]
    congr 2
    funext q
    by_cases hq : q = i.toNatClampNeg
    · subst hq
      simp [updV, upd, vp_updL, vp_nar, narrow]
    · simp [updV, upd, vp_updL, hq]
  exact kk _ (Nw.of hh _) l p e s m args below meth c D cy B H1 _ ls hC hK hG hb (hW.upd hh ha oq z) (hS.put z oq (Nat.le_add_right _ _)) hL
end ATR
end
section
/-! ===== answers, calls ===== -/
section ATC
variable {M : MI} {G : GT} {pc : Nat} {L rest : List Value} {h : List PC} {cs sl : Nat} {Z : ZT} {Q : Option Value → List PC → Prop}
theorem at_iret {v : Int32} (hd : decode M.2.1 pc = .ok (.ireturn, 1)) (hr : M.2.2.2.1 = some .int) (hc : cs ≤ (rmOf M).cells) (hs : sl ≤ (rmOf M).slots) (hq : Q (some (.int v)) h) : At M G pc L [.int v] h cs sl (ZM M Q) := by
  intro l p e s m args below meth c D cy B H locs ls hC hK hG hb hW hS hL
  refine W.widen hc hs ?_
  exact W.iret (v := v) hC.1 hC.2.1 (hC.2.2.2.1.trans hr) (fun t ht _ => ⟨⟨some (.int v), h, rfl, hq, by rw [ht]; exact hW⟩, hS.F ht⟩) hS.2.2 hd hC.2.2.2.2.2.2.1
theorem at_zret {v : Int32} (hd : decode M.2.1 pc = .ok (.ireturn, 1)) (hr : M.2.2.2.1 = some .boolean) (hn : narrow .boolean (.int v) = .int v) (hc : cs ≤ (rmOf M).cells) (hs : sl ≤ (rmOf M).slots) (hq : Q (some (.int v)) h) : At M G pc L [.int v] h cs sl (ZM M Q) := by
  intro l p e s m args below meth c D cy B H locs ls hC hK hG hb hW hS hL
  refine W.widen hc hs ?_
  exact W.zret (v := v) hC.1 hC.2.1 (hC.2.2.2.1.trans hr) hn (fun t ht _ => ⟨⟨some (.int v), h, rfl, hq, by rw [ht]; exact hW⟩, hS.F ht⟩) hS.2.2 hd hC.2.2.2.2.2.2.1
theorem at_vret (hd : decode M.2.1 pc = .ok (.return_, 1)) (hr : M.2.2.2.1 = none) (hc : cs ≤ (rmOf M).cells) (hs : sl ≤ (rmOf M).slots) (hq : Q none h) : At M G pc L [] h cs sl (ZM M Q) := by
  intro l p e s m args below meth c D cy B H locs ls hC hK hG hb hW hS hL
  refine W.widen hc hs ?_
  exact W.vret hC.1 hC.2.1 (hC.2.2.2.1.trans hr) (fun t ht _ => ⟨⟨none, h, rfl, hq, by rw [ht]; exact hW⟩, hS.F ht⟩) hS.2.2 hd hC.2.2.2.2.2.2.1
theorem at_aret {a : Nat} (hd : decode M.2.1 pc = .ok (.areturn, 1)) (hr : M.2.2.2.1 = some (.array .int)) (hc : cs ≤ (rmOf M).cells) (hs : sl ≤ (rmOf M).slots) (hq : Q (some (.ref a)) h) : At M G pc L [.ref a] h cs sl (ZM M Q) := by
  intro l p e s m args below meth c D cy B H locs ls hC hK hG hb hW hS hL
  refine W.widen hc hs ?_
  exact W.aret (v := .ref (B.1 + a)) hC.1 hC.2.1 (hC.2.2.2.1.trans hr) (Or.inr ⟨_, rfl⟩) (Or.inr ⟨_, rfl⟩) (fun t ht _ => ⟨⟨some (.ref a), h, rfl, hq, by rw [ht]; exact hW⟩, hS.F ht⟩) hS.2.2 hd hC.2.2.2.2.2.2.1
theorem w_run {p : Program} {l : Launch} {e : Env} {R : Room} {s : State} {m : MethodId} {args : Array Value} {below : List Frame} {meth : Method} {c : Code} {H H0 : Heap} {locs : List Loc} {cells slots mc ms : Nat} {QQm : State → Prop} {ls : Array Slot} {st0 rest : List Value} {D : va_G} {cy : Nat → ClassId} {B : Nat × Nat} {a : Array Value} {Q : Option Value → List PC → Prop}
    (hr : va_Run p l e R s m args below meth c H locs cells slots mc ms (F0 m pc ls st0) rest (QQ D cy B Q a) (fun q => B.1 ≤ q)) (hS : va_S (fun q => B.1 ≤ q) H0 H locs)
    (kk : ∀ (r : Option Value) (h' : List PC) (H1 : Heap) (locs1 : List Loc), Q r h' → WO D cy B h' H1 → va_S (fun q => B.1 ≤ q) H0 H1 locs1 → W p l e R s m args below meth c H1 locs1 (cells + mc) (slots + ms) QQm (F0 m (pc + 3) ls ((r.map (tv B)).toList ++ rest))) : W p l e R s m args below meth c H locs cells slots QQm (F0 m pc ls st0) := by
  intro T hT X
  obtain ⟨v, st₀, t, T', Ls, h0, X', hLs, e1, e2, ⟨⟨r, h', hv, hp, hb⟩, hz, hk⟩, st⟩ := hr T hT X
  cases hv
  rw [h0] at hz hk
  obtain ⟨t2, a1, b1⟩ := kk r h' T'.heap (locs ++ Ls) hp (by rw [e1]; exact hb)
    ⟨Nat.le_trans hS.1 (by rw [e1]; exact hz), fun q h1 h2 => by rw [e1, hk q (Nat.lt_of_lt_of_le h1 hS.1) h2]; exact hS.2.1 q h1 h2, fun q hq => by
      rcases List.mem_append.mp hq with h | h
      · exact hS.2.2 q h
      · exact hLs q h⟩ T' rfl X'
  exact ⟨t2, st t2 a1, b1⟩
/-- what a callee is, by the words -/
def CL (M : MI) (n : Nat) : Prop := Cond.initialized M.1.cls ∈ gw ∧ Cond.code M.1 M.2.1 M.2.2.1 M.2.2.2.1 ∈ gw ∧ (M.1.cls ≠ "java/lang/invoke/MethodHandle" ∧ M.1.cls ≠ "java/lang/invoke/VarHandle" ∧ (parseMethodDescriptor M.1.desc).map (fun d => d.parameters.length) = some n)
def VLk (M : MI) : Prop := Cond.instanceMethod M.1 ∈ gw ∧ Cond.selects M.1.cls M.1 M.1 ∈ gw
def RMf (M M' : MI) : Prop := (rmOf M').frames + 1 ≤ (rmOf M).frames ∧ 8 + (M'.2.2.1 + 11) + (rmOf M').locals ≤ (rmOf M).locals
theorem mw_good {M : MI} (h : Cond.code M.1 M.2.1 M.2.2.1 M.2.2.2.1 ∈ gw) : GoodIn gw (mw M) := fun w hw => by
  rcases List.mem_cons.mp hw with e | e
  · subst e; exact ⟨h, good_of_word (List.mem_filter.mp h).2⟩
  · exact ⟨e, good_of_word (List.mem_filter.mp e).2⟩
theorem sum_cat (B : Nat × Nat) (l : List Value) : ((l.map (tv B)).map fun v => v.category).sum = (l.map fun v => v.category).sum := by
  rw [List.map_map]; congr 1; exact List.map_congr_left (fun v _ => tv_cat B v)
theorem at_invV (pc' : Nat) (As rest : List Value) {st : List Value} {M' : MI} {idx k n ci : Nat} {fs : List Value} {Q' : Option Value → List PC → Prop} (hct : Ct M' (.ref k :: As) h Q') (hd : decode M.2.1 pc = .ok (.invokevirtual idx, 3)) (hp : pc + 3 = pc') (hst : st = As.reverse ++ .ref k :: rest) (hh : h[k]? = some (.inr (ci, fs))) (hci : (clz[ci]?).map (fun q => q.1) = some M'.1.cls)
    (hl : Cond.methodLink M.1.cls idx M'.1 ∈ gw) (hcl : CL M' n) (hv : VLk M') (hn : As.length = n) (hcat : (rest.map fun v => v.category).sum ≤ 8) (hrm : RMf M M') (hcs : cs + (rmOf M').cells ≤ (rmOf M).cells ∧ sl + (rmOf M').slots ≤ (rmOf M).slots)
    (kk : ∀ (r : Option Value) (h' : List PC), Q' r h' → At M G pc' L (r.toList ++ rest) h' (cs + (rmOf M').cells) (sl + (rmOf M').slots) Z) : At M G pc L st h cs sl Z := by
  intro l p e s m args below meth c D cy B H locs ls hC hK hG hb hW hS hL
  subst hp; subst hst
  have hT := hC.2.2.2.2.2.1
  obtain ⟨q, hq1, hq2⟩ : ∃ q, clz[ci]? = some q ∧ q.1 = M'.1.cls := by
    cases hq : clz[ci]? with
    | none => rw [hq] at hci; cases hci
    | some q => rw [hq] at hci; exact ⟨q, rfl, Option.some.inj hci⟩
  have hrec := va_recv hK.1 hW.1 hq1 (wo_get hh)
  rw [hq2] at hrec
  have cw : CallW (rmOf M) s args M.1.cls M'.1.cls idx M'.1 M'.2.1 M'.2.2.1 M'.2.2.2.1 (mw M') (rmOf M') (rmOf M').cells (rmOf M').slots n :=
    ⟨callB_of n hT (mw_good hcl.2.1) rfl rfl rfl (hT _ hcl.1) (hT _ hl) hcl.2.2 hrm, hT _ hv.1, hT _ hv.2⟩
  refine w_run (va_runV (As := As.map (tv B)) (rest := rest.map (tv B)) (b := B.1 + k) ⟨hC.1, hC.2.1, hC.2.2.1, hC.2.2.2.2.1, hT⟩ (hct l D cy B) cw ⟨PP_blind, hrec, fun U hU hWm => ⟨rfl, KK_warm hWm hK, by rw [hU]; exact hW⟩⟩ rfl (by rw [List.length_map]; exact hn) hL.1 (by show List.map (tv B) _ = _; rw [List.map_append, List.map_reverse]; rfl) (lv_room (by rw [sum_cat]; exact hcat)) hd hcs) hS (fun r h' H1 locs1 hq hW1 hS1 => ?_)
  have := kk r h' hq l p e s m args below meth c D cy B H1 locs1 ls hC hK hG hb hW1 hS1 hL
  rw [List.map_append] at this
  rw [show (r.map (tv B)).toList = r.toList.map (tv B) by cases r <;> rfl]
  exact this
theorem at_invS (pc' : Nat) (As rest : List Value) {st : List Value} {M' : MI} {idx n : Nat} {Q' : Option Value → List PC → Prop} (hct : Ct M' As h Q') (hd : decode M.2.1 pc = .ok (.invokestatic idx, 3)) (hp : pc + 3 = pc') (hst : st = As.reverse ++ rest)
    (hl : Cond.methodLink M.1.cls idx M'.1 ∈ gw) (hcl : CL M' n) (hv : Cond.static M'.1 ∈ gw) (hn : As.length = n) (hcat : (rest.map fun v => v.category).sum ≤ 8) (hrm : RMf M M') (hcs : cs + (rmOf M').cells ≤ (rmOf M).cells ∧ sl + (rmOf M').slots ≤ (rmOf M).slots)
    (kk : ∀ (r : Option Value) (h' : List PC), Q' r h' → At M G pc' L (r.toList ++ rest) h' (cs + (rmOf M').cells) (sl + (rmOf M').slots) Z) : At M G pc L st h cs sl Z := by
  intro l p e s m args below meth c D cy B H locs ls hC hK hG hb hW hS hL
  subst hp; subst hst
  have hT := hC.2.2.2.2.2.1
  have cw : CallB (rmOf M) s args M.1.cls idx M'.1 M'.2.1 M'.2.2.1 M'.2.2.2.1 (mw M') (rmOf M') (rmOf M').cells (rmOf M').slots n :=
    callB_of n hT (mw_good hcl.2.1) rfl rfl rfl (hT _ hcl.1) (hT _ hl) hcl.2.2 hrm
  refine w_run (va_runS (As := As.map (tv B)) (rest := rest.map (tv B)) ⟨hC.1, hC.2.1, hC.2.2.1, hC.2.2.2.2.1, hT⟩ (hct l D cy B) ⟨cw, hT _ hv⟩ ⟨PP_blind, fun U hU hWm => ⟨rfl, KK_warm hWm hK, by rw [hU]; exact hW⟩⟩ rfl (by rw [List.length_map]; exact hn) hL.1 (by show List.map (tv B) _ = _; rw [List.map_append, List.map_reverse]) (lv_room (by rw [sum_cat]; exact hcat)) hd hcs) hS (fun r h' H1 locs1 hq hW1 hS1 => ?_)
  have := kk r h' hq l p e s m args below meth c D cy B H1 locs1 ls hC hK hG hb hW1 hS1 hL
  rw [List.map_append] at this
  rw [show (r.map (tv B)).toList = r.toList.map (tv B) by cases r <;> rfl]
  exact this
/-- a constructor, of this class or of another -/
theorem at_invI (pc' : Nat) (As rest : List Value) {st : List Value} {M' : MI} {idx k n : Nat} {Q' : Option Value → List PC → Prop} (hct : Ct M' (.ref k :: As) h Q') (hd : decode M.2.1 pc = .ok (.invokespecial idx, 3)) (hp : pc + 3 = pc') (hst : st = As.reverse ++ .ref k :: rest) (hnm : M'.1.name = "<init>") (hret : M'.2.2.2.1 = none)
    (hl : Cond.methodLink M.1.cls idx M'.1 ∈ gw ∨ ∃ host, Cond.methodLinkNest M.1.cls idx M'.1 host ∈ lw_tbl) (hcl : CL M' n) (hv : Cond.instanceMethod M'.1 ∈ gw) (hn : As.length = n) (hcat : (rest.map fun v => v.category).sum ≤ 8) (hrm : RMf M M') (hcs : cs + (rmOf M').cells ≤ (rmOf M).cells ∧ sl + (rmOf M').slots ≤ (rmOf M).slots)
    (kk : ∀ (r : Option Value) (h' : List PC), Q' r h' → At M G pc' L (r.toList ++ rest) h' (cs + (rmOf M').cells) (sl + (rmOf M').slots) Z) : At M G pc L st h cs sl Z := by
  intro l p e s m args below meth c D cy B H locs ls hC hK hG hb hW hS hL
  subst hp; subst hst
  have hT := hC.2.2.2.2.2.1
  have hrun : va_Run p l e (rmOf M) s m args below meth c H locs cs sl (rmOf M').cells (rmOf M').slots (F0 m pc ls ((As.reverse ++ .ref k :: rest).map (tv B))) (rest.map (tv B)) (QQ D cy B Q' (Value.ref (B.1 + k) :: As.map (tv B)).toArray) (fun q => B.1 ≤ q) := by
    rcases hl with hl | ⟨host, hl⟩
    · have cw : CallB (rmOf M) s args M.1.cls idx M'.1 M'.2.1 M'.2.2.1 none (mw M') (rmOf M') (rmOf M').cells (rmOf M').slots n := by
        have := callB_of (R := rmOf M) (rm := rmOf M') (mc := (rmOf M').cells) (ms := (rmOf M').slots) n hT (mw_good hcl.2.1) rfl rfl rfl (hT _ hcl.1) (hT _ hl) hcl.2.2 hrm
        rw [hret] at this; exact this
      exact va_runI (As := As.map (tv B)) (rest := rest.map (tv B)) (b := B.1 + k) ⟨hC.1, hC.2.1, hC.2.2.1, hC.2.2.2.2.1, hT⟩ (hct l D cy B) ⟨cw, hnm, hT _ hv⟩ ⟨PP_blind, fun U hU hWm => ⟨rfl, KK_warm hWm hK, by rw [hU]; exact hW⟩⟩ rfl (by rw [List.length_map]; exact hn) hL.1 (by show List.map (tv B) _ = _; rw [List.map_append, List.map_reverse]; rfl) (lv_room (by rw [sum_cat]; exact hcat)) hd hcs
    · have cw : va_CN (rmOf M) s args M.1.cls idx M'.1 host M'.2.1 M'.2.2.1 none (mw M') (rmOf M') (rmOf M').cells (rmOf M').slots n := by
        have := va_cnB (R := rmOf M) (rm := rmOf M') (mc := (rmOf M').cells) (ms := (rmOf M').slots) (host := host) n hT (mw_good hcl.2.1) rfl rfl rfl (hK.2.1 _ hl rfl) (hT _ hcl.1) hcl.2.2 hrm
        rw [hret] at this; exact this
      exact va_runIN (As := As.map (tv B)) (rest := rest.map (tv B)) (b := B.1 + k) ⟨hC.1, hC.2.1, hC.2.2.1, hC.2.2.2.2.1, hT⟩ (hct l D cy B) ⟨cw, hnm, hT _ hv⟩ ⟨PP_blind, fun U hU hWm => ⟨rfl, KK_warm hWm hK, by rw [hU]; exact hW⟩⟩ rfl (by rw [List.length_map]; exact hn) hL.1 (by show List.map (tv B) _ = _; rw [List.map_append, List.map_reverse]; rfl) (lv_room (by rw [sum_cat]; exact hcat)) hd hcs
  refine w_run hrun hS (fun r h' H1 locs1 hq hW1 hS1 => ?_)
  have := kk r h' hq l p e s m args below meth c D cy B H1 locs1 ls hC hK hG hb hW1 hS1 hL
  rw [List.map_append] at this
  rw [show (r.map (tv B)).toList = r.toList.map (tv B) by cases r <;> rfl]
  exact this
theorem at_objInit (pc' : Nat) {idx k : Nat} (hd : decode M.2.1 pc = .ok (.invokespecial idx, 3)) (hp : pc + 3 = pc') (hl : Cond.methodLink M.1.cls idx Lib.objectInit ∈ gw) (hw : Cond.instanceMethod Lib.objectInit ∈ gw ∧ Cond.code Lib.objectInit ⟨#[0xb1]⟩ 1 none ∈ gw) (hcat : (rest.map fun v => v.category).sum ≤ 8) (hr : 1 ≤ (rmOf M).frames ∧ 20 ≤ (rmOf M).locals) (kk : At M G pc' L rest h cs sl Z) : At M G pc L (.ref k :: rest) h cs sl Z := by
  intro l p e s m args below meth c D cy B H locs ls hC hK hG hb hW hS hL
  subst hp
  have hT := hC.2.2.2.2.2.1
  refine W.objInit hC.1 hC.2.1 hC.2.2.2.2.1 (hT _ hl) (hT _ hw.1) (hT _ hw.2) rfl (hL.1.trans hC.2.2.1.symm) rfl hd hr.1 ?_ (kk l p e s m args below meth c D cy B H locs ls hC hK hG hb hW hS hL)
  have := hr.2
  have h2 := sum_cat B rest
  show 2 * 0 + ((rest.map (tv B)).map fun v => v.category).sum + 12 ≤ _
  omega
theorem at_max (pc' : Nat) {idx : Nat} {x y : Int32} (hd : decode M.2.1 pc = .ok (.invokestatic idx, 3)) (hp : pc + 3 = pc') (hl : Cond.methodLink M.1.cls idx Lib.Math.max.name ∈ gw) (hw : Cond.static Lib.Math.max.name ∈ gw ∧ Cond.initialized "java/lang/Math" ∈ gw ∧ Cond.code Lib.Math.max.name Lib.Math.max.code 2 (some .int) ∈ gw) (hcat : (rest.map fun v => v.category).sum ≤ 8) (hr : 1 ≤ (rmOf M).frames ∧ 21 ≤ (rmOf M).locals) (hcs : cs ≤ (rmOf M).cells ∧ sl ≤ (rmOf M).slots) (kk : At M G pc' L (.int (if x < y then y else x) :: rest) h cs sl Z) : At M G pc L (.int y :: .int x :: rest) h cs sl Z := by
  intro l p e s m args below meth c D cy B H locs ls hC hK hG hb hW hS hL
  subst hp
  have hT := hC.2.2.2.2.2.1
  refine va_mmax hC.1 hC.2.1 (hC.2.2.1.trans hL.1.symm) hC.2.2.2.2.1 (hT _ hl) (hT _ hw.1) (hT _ hw.2.1) (hT _ hw.2.2) hr.1 ?_ hcs.1 hcs.2 hd (kk l p e s m args below meth c D cy B H locs ls hC hK hG hb hW hS hL)
  have := hr.2
  have h2 := sum_cat B rest
  omega
theorem at_min (pc' : Nat) {idx : Nat} {x y : Int32} (hd : decode M.2.1 pc = .ok (.invokestatic idx, 3)) (hp : pc + 3 = pc') (hl : Cond.methodLink M.1.cls idx Lib.Math.min.name ∈ gw) (hw : Cond.static Lib.Math.min.name ∈ gw ∧ Cond.initialized "java/lang/Math" ∈ gw ∧ Cond.code Lib.Math.min.name Lib.Math.min.code 2 (some .int) ∈ gw) (hcat : (rest.map fun v => v.category).sum ≤ 8) (hr : 1 ≤ (rmOf M).frames ∧ 21 ≤ (rmOf M).locals) (hcs : cs ≤ (rmOf M).cells ∧ sl ≤ (rmOf M).slots) (kk : At M G pc' L (.int (if y < x then y else x) :: rest) h cs sl Z) : At M G pc L (.int y :: .int x :: rest) h cs sl Z := by
  intro l p e s m args below meth c D cy B H locs ls hC hK hG hb hW hS hL
  subst hp
  have hT := hC.2.2.2.2.2.1
  refine va_mmin hC.1 hC.2.1 (hC.2.2.1.trans hL.1.symm) hC.2.2.2.2.1 (hT _ hl) (hT _ hw.1) (hT _ hw.2.1) (hT _ hw.2.2) hr.1 ?_ hcs.1 hcs.2 hd (kk l p e s m args below meth c D cy B H locs ls hC hK hG hb hW hS hL)
  have := hr.2
  have h2 := sum_cat B rest
  omega
theorem at_copy (pc' : Nat) {idx k0 k1 n0 n1 : Nat} {f g : Nat → Int32} {sp dp n : Nat} (hd : decode M.2.1 pc = .ok (.invokestatic idx, 3)) (hp : pc + 3 = pc') (hl : Cond.methodLink M.1.cls idx arraycopyName ∈ gw) (hw : Cond.native arraycopyName ∈ gw ∧ Cond.static arraycopyName ∈ gw ∧ Cond.initialized "java/lang/System" ∈ gw) (hh0 : h[k0]? = some (aG n0 f)) (hh1 : h[k1]? = some (aG n1 g)) (hz : n0 < 2 ^ 31 ∧ n1 < 2 ^ 31) (h4 : sp + n ≤ n0) (h5 : dp + n ≤ n1) (hcat : (rest.map fun v => v.category).sum ≤ 8) (hr : 1 ≤ (rmOf M).frames ∧ 8 + (nativeFrameWords "java/lang/System" "arraycopy" 5 + 11) ≤ (rmOf M).locals)
    (kk : ∀ h' : List PC, Nw h k1 (aG n1 (va_cpy f g sp dp n)) h' → At M G pc' L rest h' cs sl Z) : At M G pc L (.int (nI n) :: .int (nI dp) :: .ref k1 :: .int (nI sp) :: .ref k0 :: rest) h cs sl Z := by
  intro l p e s m args below meth c D cy B H locs ls hC hK hG hb hW hS hL
  subst hp
  have hTs := hC.2.2.2.2.2.1
  intro T hT X
  have hc0 : H[B.1 + k0]? = some (vp_cell (cy 0) (n0, .inl f)) := hW.1 k0 _ (wo_get hh0)
  have hc1 : H[B.1 + k1]? = some (vp_cell (cy 0) (n1, .inl g)) := hW.1 k1 _ (wo_get hh1)
  obtain ⟨-, q0, hk0, cm0, hkk0⟩ := (hK.1.2 0 _ rfl).1 n0 (fun j => .int (f j))
  obtain ⟨-, q1, hk1, cm1, hkk1⟩ := (hK.1.2 0 _ rfl).1 n1 (fun j => .int (g j))
  have i1 : (nI sp).toInt = (sp : Int) := nI_toInt (by omega)
  have i2 : (nI dp).toInt = (dp : Int) := nI_toInt (by omega)
  have i3 : (nI n).toInt = (n : Int) := nI_toInt (by omega)
  have c1 : (nI sp).toNatClampNeg = sp := nI_clamp (by omega)
  have c2 : (nI dp).toNatClampNeg = dp := nI_clamp (by omega)
  have c3 : (nI n).toNatClampNeg = n := nI_clamp (by omega)
  have hsum := sum_cat B rest
  obtain ⟨vm', X', step⟩ := X.arraycopy hC.1 hC.2.2.2.2.1 (hTs _ hl) (hTs _ hw.1) (hTs _ hw.2.1) (hTs _ hw.2.2) (src := B.1 + k0) (dst := B.1 + k1) (cs := vp_cell (cy 0) (n0, .inl f)) (cd := vp_cell (cy 0) (n1, .inl g)) (srcPos := nI sp) (destPos := nI dp) (n := nI n) (by rw [hT]; exact hc0) (by rw [hT]; exact hc1)
    (fun _ h => by cases h) (fun _ h => by cases h) (fun h => by cases h) (fun h => by cases h) hk0 hk1 hkk0 hkk1 (by simp) (nI_pos (by omega)) (nI_pos (by omega)) (nI_pos (by omega))
    (by rw [i1, i3]; show ¬ _ > ((arrV (cy 0) n0 (fun j => .int (f j))).slots.size : Int); rw [arrV_size]; omega)
    (by rw [i2, i3]; show ¬ _ > ((arrV (cy 0) n1 (fun j => .int (g j))).slots.size : Int); rw [arrV_size]; omega)
    (fun vm₁ _ i hi => by
      rw [c3] at hi
      rw [c1]
      have e : (vp_cell (cy 0) (n0, .inl f)).slots.getD (sp + i) .null = .int (f (sp + i)) := by
        show (arrV (cy 0) n0 (fun j => .int (f j))).slots.getD _ _ = _
        rw [Array.getD_eq_getD_getElem?, arrV_read _ _ (by omega)]
        rfl
      refine ⟨?_, ?_⟩
      · rw [e]; rfl
      · rw [e]; exact trivial)
    (g := F0 m pc ls ((.int (nI n) :: .int (nI dp) :: .ref k1 :: .int (nI sp) :: .ref k0 :: rest).map (tv B))) rfl (hL.1.trans hC.2.2.1.symm) (rest := rest.map (tv B)) rfl (by rw [hC.2.1]; exact hd) hr.1 (by show 2 * 0 + _ + _ ≤ _; have := hr.2; omega)
  have e1 : copied (vp_cell (cy 0) (n0, .inl f)) (vp_cell (cy 0) (n1, .inl g)) (nI sp) (nI dp) (nI n) = vp_cell (cy 0) (n1, .inl (va_cpy f g sp dp n)) := by
    have := va_copied (fun z => Value.int z) (cy 0) (cy 0) (n1 := n1) (dp := dp) f g h4
    show (vp_cell (cy 0) (n1, .inl g)).storeRun (nI dp).toNatClampNeg ((vp_cell (cy 0) (n0, .inl f)).stretch (nI sp).toNatClampNeg (nI n).toNatClampNeg) = _
    rw [c1, c2, c3]
    exact this
  rw [e1] at X' step
  have hlt : B.1 + k1 < H.size := (Array.getElem?_eq_some_iff.mp hc1).1
  have hheap : ((T.setVm vm').setCell (B.1 + k1) (vp_cell (cy 0) (n1, .inl (va_cpy f g sp dp n)))).heap = H.setIfInBounds (B.1 + k1) (vp_cell (cy 0) (n1, .inl (va_cpy f g sp dp n))) := by rw [← hT]; rfl
  have oq : ∀ q : Nat, q ≠ B.1 + k1 → (H.setIfInBounds (B.1 + k1) (vp_cell (cy 0) (n1, .inl (va_cpy f g sp dp n))))[q]? = H[q]? := fun q hq => by simp [Array.getElem?_setIfInBounds, Ne.symm hq]
  have ha : va_at D clz (B.1 + k1, tE cy B (aG n1 (va_cpy f g sp dp n))) (H.setIfInBounds (B.1 + k1) (vp_cell (cy 0) (n1, .inl (va_cpy f g sp dp n)))) := by
    show (H.setIfInBounds _ _)[B.1 + k1]? = some _
    simp [Array.getElem?_setIfInBounds, hlt]
    rfl
  obtain ⟨t, a1, b1⟩ := kk _ (Nw.of hh1 _) l p e s m args below meth c D cy B _ _ ls hC hK hG hb (hW.upd hh1 ha oq (by simp)) ⟨by simp; exact hS.1, fun q g1 g2 => by
      rw [oq q (fun e => g2 (by rw [e]; exact Nat.le_add_right _ _))]
      exact hS.2.1 q g1 g2, fun q hq => by
      rcases List.mem_append.mp hq with h | h
      · exact hS.2.2 q h
      · obtain ⟨z, -, hz⟩ := List.mem_map.mp h
        rw [← hz]
        exact Nat.le_add_right _ _⟩ hL _ hheap X'
  exact ⟨t, step t a1, b1⟩
end ATC
end
section
theorem inG {C : String} {T : u_T} {N : Nat} (h : (u_ws C T N).all (fun w => goodWord w && lw_tbl.contains w) = true) : ∀ w ∈ u_ws C T N, w ∈ gw := fun w hw => by
  have h1 := List.all_eq_true.mp h w hw
  simp only [Bool.and_eq_true] at h1
  exact List.mem_filter.mpr ⟨List.contains_iff_mem.mp h1.2, h1.1⟩
theorem inX0 : ∀ w ∈ u_ws RX0 TX0 7, w ∈ gw := inG (by decide +kernel)
theorem inX1 : ∀ w ∈ u_ws RX1 TX1 3, w ∈ gw := inG (by decide +kernel)
theorem inX2 : ∀ w ∈ u_ws RX2 TX2 6, w ∈ gw := inG (by decide +kernel)
theorem inX3 : ∀ w ∈ u_ws RX3 TX3 6, w ∈ gw := inG (by decide +kernel)
theorem inX4 : ∀ w ∈ u_ws RX4 TX4 3, w ∈ gw := inG (by decide +kernel)
theorem inX5 : ∀ w ∈ u_ws RX5 TX5 8, w ∈ gw := inG (by decide +kernel)
theorem inX6 : ∀ w ∈ u_ws RX6 TX6 3, w ∈ gw := inG (by decide +kernel)
theorem inX7 : ∀ w ∈ u_ws RX7 TX7 5, w ∈ gw := inG (by decide +kernel)
theorem inX8 : ∀ w ∈ u_ws RX8 TX8 4, w ∈ gw := inG (by decide +kernel)
theorem inX9 : ∀ w ∈ u_ws RX9 TX9 2, w ∈ gw := inG (by decide +kernel)
theorem inX10 : ∀ w ∈ u_ws RX10 TX10 8, w ∈ gw := inG (by decide +kernel)
theorem inX11 : ∀ w ∈ u_ws RX11 TX11 11, w ∈ gw := inG (by decide +kernel)
theorem inX12 : ∀ w ∈ u_ws RX12 TX12 40, w ∈ gw := inG (by decide +kernel)
abbrev mX0_init : MI := (yX0_init, cX0_init, 4, none, { frames := 2, cells := 3, slots := 48, locals := 80 })
abbrev mX0_measure : MI := (yX0_measure, cX0_measure, 5, none, { frames := 3, cells := 0, slots := 0, locals := 120 })
abbrev mX1_init : MI := (yX1_init, cX1_init, 1, none, { frames := 2, cells := 14, slots := 60, locals := 80 })
abbrev mX1_has : MI := (yX1_has, cX1_has, 2, (some .boolean), { frames := 1, cells := 0, slots := 0, locals := 40 })
abbrev mX1_add : MI := (yX1_add, cX1_add, 2, (some .int), { frames := 1, cells := 0, slots := 0, locals := 40 })
abbrev mX1_fits : MI := (yX1_fits, cX1_fits, 5, (some .boolean), { frames := 1, cells := 0, slots := 0, locals := 40 })
abbrev mX1_nameOf : MI := (yX1_nameOf, cX1_nameOf, 3, (some .int), { frames := 2, cells := 0, slots := 0, locals := 80 })
abbrev mX1_isSure : MI := (yX1_isSure, cX1_isSure, 9, (some .boolean), { frames := 2, cells := 0, slots := 0, locals := 80 })
abbrev mX2_init : MI := (yX2_init, cX2_init, 1, none, { frames := 2, cells := 13, slots := 72, locals := 80 })
abbrev mX2_has : MI := (yX2_has, cX2_has, 2, (some .boolean), { frames := 1, cells := 0, slots := 0, locals := 40 })
abbrev mX2_add : MI := (yX2_add, cX2_add, 9, (some .int), { frames := 1, cells := 0, slots := 0, locals := 40 })
abbrev mX2_haveAll : MI := (yX2_haveAll, cX2_haveAll, 3, (some .boolean), { frames := 1, cells := 0, slots := 0, locals := 40 })
abbrev mX2_takeAll : MI := (yX2_takeAll, cX2_takeAll, 3, none, { frames := 1, cells := 0, slots := 0, locals := 40 })
abbrev mX2_takeBack : MI := (yX2_takeBack, cX2_takeBack, 3, none, { frames := 2, cells := 0, slots := 0, locals := 80 })
abbrev mX3_init : MI := (yX3_init, cX3_init, 6, none, { frames := 3, cells := 3, slots := 15, locals := 120 })
abbrev mX3_firstHour : MI := (yX3_firstHour, cX3_firstHour, 2, (some .int), { frames := 6, cells := 0, slots := 0, locals := 240 })
abbrev mX3_hoursWithoutName : MI := (yX3_hoursWithoutName, cX3_hoursWithoutName, 3, (some .int), { frames := 5, cells := 0, slots := 0, locals := 200 })
abbrev mX3_bestDose : MI := (yX3_bestDose, cX3_bestDose, 9, (some .int), { frames := 7, cells := 0, slots := 0, locals := 280 })
abbrev mX3_firstHourWithDose : MI := (yX3_firstHourWithDose, cX3_firstHourWithDose, 5, (some .int), { frames := 5, cells := 0, slots := 0, locals := 200 })
abbrev mX3_passHour : MI := (yX3_passHour, cX3_passHour, 2, none, { frames := 4, cells := 0, slots := 0, locals := 160 })
abbrev mX4_init : MI := (yX4_init, cX4_init, 1, none, { frames := 2, cells := 2, slots := 12, locals := 80 })
abbrev mX4_read : MI := (yX4_read, cX4_read, 7, none, { frames := 2, cells := 0, slots := 0, locals := 80 })
abbrev mX5_init : MI := (yX5_init, cX5_init, 1, none, { frames := 2, cells := 5, slots := 6000, locals := 80 })
abbrev mX5_has : MI := (yX5_has, cX5_has, 2, (some .boolean), { frames := 1, cells := 0, slots := 0, locals := 40 })
abbrev mX5_clear : MI := (yX5_clear, cX5_clear, 1, none, { frames := 1, cells := 0, slots := 0, locals := 40 })
abbrev mX5_add : MI := (yX5_add, cX5_add, 4, none, { frames := 2, cells := 0, slots := 0, locals := 80 })
abbrev mX6_init : MI := (yX6_init, cX6_init, 1, none, { frames := 2, cells := 2, slots := 16, locals := 80 })
abbrev mX6_become : MI := (yX6_become, cX6_become, 3, none, { frames := 1, cells := 0, slots := 0, locals := 40 })
abbrev mX7_init : MI := (yX7_init, cX7_init, 3, none, { frames := 2, cells := 2, slots := 16, locals := 80 })
abbrev mX7_find : MI := (yX7_find, cX7_find, 6, (some .boolean), { frames := 3, cells := 0, slots := 0, locals := 120 })
abbrev mX7_costOfTrial : MI := (yX7_costOfTrial, cX7_costOfTrial, 3, (some .int), { frames := 1, cells := 0, slots := 0, locals := 40 })
abbrev mX7_keepTrial : MI := (yX7_keepTrial, cX7_keepTrial, 3, none, { frames := 1, cells := 0, slots := 0, locals := 40 })
abbrev mX7_advance : MI := (yX7_advance, cX7_advance, 4, (some .boolean), { frames := 1, cells := 0, slots := 0, locals := 40 })
abbrev mX8_init : MI := (yX8_init, cX8_init, 1, none, { frames := 2, cells := 9, slots := 54, locals := 80 })
abbrev mX8_leastSum : MI := (yX8_leastSum, cX8_leastSum, 7, (some .int), { frames := 3, cells := 0, slots := 0, locals := 120 })
abbrev mX8_gather : MI := (yX8_gather, cX8_gather, 4, (some .int), { frames := 1, cells := 0, slots := 0, locals := 40 })
abbrev mX8_sumOfOrder : MI := (yX8_sumOfOrder, cX8_sumOfOrder, 5, (some .int), { frames := 1, cells := 0, slots := 0, locals := 40 })
abbrev mX8_keepOrder : MI := (yX8_keepOrder, cX8_keepOrder, 2, none, { frames := 2, cells := 0, slots := 0, locals := 80 })
abbrev mX8_advance : MI := (yX8_advance, cX8_advance, 6, (some .boolean), { frames := 2, cells := 0, slots := 0, locals := 80 })
abbrev mX8_swap : MI := (yX8_swap, cX8_swap, 4, none, { frames := 1, cells := 0, slots := 0, locals := 40 })
abbrev mX9_init : MI := (yX9_init, cX9_init, 1, none, { frames := 2, cells := 2, slots := 64, locals := 80 })
abbrev mX9_split : MI := (yX9_split, cX9_split, 16, none, { frames := 2, cells := 0, slots := 0, locals := 80 })
abbrev mX9_giveLeft : MI := (yX9_giveLeft, cX9_giveLeft, 7, none, { frames := 1, cells := 0, slots := 0, locals := 40 })
abbrev mX10_init : MI := (yX10_init, cX10_init, 2, none, { frames := 2, cells := 15, slots := 429, locals := 80 })
abbrev mX10_fill : MI := (yX10_fill, cX10_fill, 7, none, { frames := 3, cells := 0, slots := 0, locals := 120 })
abbrev mX10_copy : MI := (yX10_copy, cX10_copy, 3, none, { frames := 2, cells := 0, slots := 0, locals := 80 })
abbrev mX10_pass : MI := (yX10_pass, cX10_pass, 3, none, { frames := 3, cells := 0, slots := 0, locals := 120 })
abbrev mX10_move : MI := (yX10_move, cX10_move, 5, none, { frames := 1, cells := 0, slots := 0, locals := 40 })
abbrev mX10_outOfLast : MI := (yX10_outOfLast, cX10_outOfLast, 1, (some (.array .int)), { frames := 1, cells := 0, slots := 0, locals := 40 })
abbrev mX10_gramsIn : MI := (yX10_gramsIn, cX10_gramsIn, 6, (some .int), { frames := 1, cells := 0, slots := 0, locals := 40 })
abbrev mX10_allGrams : MI := (yX10_allGrams, cX10_allGrams, 1, (some .int), { frames := 1, cells := 0, slots := 0, locals := 40 })
abbrev mX11_init : MI := (yX11_init, cX11_init, 2, none, { frames := 4, cells := 105, slots := 7388, locals := 160 })
abbrev mX11_feed : MI := (yX11_feed, cX11_feed, 8, (some .int), { frames := 2, cells := 0, slots := 0, locals := 80 })
abbrev mX11_stock : MI := (yX11_stock, cX11_stock, 3, (some .int), { frames := 2, cells := 0, slots := 0, locals := 80 })
abbrev mX11_of : MI := (yX11_of, cX11_of, 3, (some .int), { frames := 2, cells := 0, slots := 0, locals := 80 })
abbrev mX11_tank : MI := (yX11_tank, cX11_tank, 5, (some .int), { frames := 4, cells := 0, slots := 0, locals := 160 })
abbrev mX11_pull : MI := (yX11_pull, cX11_pull, 3, (some .int), { frames := 2, cells := 0, slots := 0, locals := 80 })
abbrev mX11_cell : MI := (yX11_cell, cX11_cell, 4, (some .int), { frames := 3, cells := 0, slots := 0, locals := 120 })
abbrev mX11_share : MI := (yX11_share, cX11_share, 4, (some .int), { frames := 2, cells := 0, slots := 0, locals := 80 })
abbrev mX11_mix : MI := (yX11_mix, cX11_mix, 1, (some .int), { frames := 2, cells := 0, slots := 0, locals := 80 })
abbrev mX11_colour : MI := (yX11_colour, cX11_colour, 1, (some .int), { frames := 2, cells := 0, slots := 0, locals := 80 })
abbrev mX11_span : MI := (yX11_span, cX11_span, 5, (some .int), { frames := 3, cells := 0, slots := 0, locals := 120 })
abbrev mX11_sure : MI := (yX11_sure, cX11_sure, 2, (some .int), { frames := 3, cells := 0, slots := 0, locals := 120 })
abbrev mX11_cheapest : MI := (yX11_cheapest, cX11_cheapest, 2, (some .int), { frames := 4, cells := 0, slots := 0, locals := 160 })
abbrev mX11_want : MI := (yX11_want, cX11_want, 3, (some .int), { frames := 2, cells := 0, slots := 0, locals := 80 })
abbrev mX11_hours : MI := (yX11_hours, cX11_hours, 3, (some .int), { frames := 5, cells := 0, slots := 0, locals := 200 })
abbrev mX11_glass : MI := (yX11_glass, cX11_glass, 3, (some .int), { frames := 2, cells := 0, slots := 0, locals := 80 })
abbrev mX11_lead : MI := (yX11_lead, cX11_lead, 3, (some .int), { frames := 2, cells := 0, slots := 0, locals := 80 })
abbrev mX11_when : MI := (yX11_when, cX11_when, 2, (some .int), { frames := 7, cells := 0, slots := 0, locals := 280 })
abbrev mX11_between : MI := (yX11_between, cX11_between, 1, (some .int), { frames := 6, cells := 0, slots := 0, locals := 240 })
abbrev mX11_dose : MI := (yX11_dose, cX11_dose, 3, (some .int), { frames := 8, cells := 0, slots := 0, locals := 320 })
abbrev mX11_change : MI := (yX11_change, cX11_change, 5, (some .int), { frames := 2, cells := 0, slots := 0, locals := 80 })
abbrev mX11_ring : MI := (yX11_ring, cX11_ring, 2, (some .int), { frames := 4, cells := 0, slots := 0, locals := 160 })
abbrev mX11_next : MI := (yX11_next, cX11_next, 2, (some .int), { frames := 2, cells := 0, slots := 0, locals := 80 })
abbrev mX11_told : MI := (yX11_told, cX11_told, 2, (some .int), { frames := 2, cells := 0, slots := 0, locals := 80 })
abbrev mX11_isWithin : MI := (yX11_isWithin, cX11_isWithin, 3, (some .boolean), { frames := 1, cells := 0, slots := 0, locals := 40 })
abbrev mX11_isThing : MI := (yX11_isThing, cX11_isThing, 1, (some .boolean), { frames := 2, cells := 0, slots := 0, locals := 80 })
abbrev mX11_isMakeUp : MI := (yX11_isMakeUp, cX11_isMakeUp, 4, (some .boolean), { frames := 1, cells := 0, slots := 0, locals := 40 })
abbrev mX11_mostDoubt : MI := (yX11_mostDoubt, cX11_mostDoubt, 1, (some .int), { frames := 1, cells := 0, slots := 0, locals := 40 })
abbrev mX11_sumOf : MI := (yX11_sumOf, cX11_sumOf, 6, (some .int), { frames := 1, cells := 0, slots := 0, locals := 40 })
abbrev mX11_canRun : MI := (yX11_canRun, cX11_canRun, 1, (some .boolean), { frames := 1, cells := 0, slots := 0, locals := 40 })
abbrev mX11_passHour : MI := (yX11_passHour, cX11_passHour, 3, none, { frames := 4, cells := 0, slots := 0, locals := 160 })
abbrev mX12_init : MI := (yX12_init, cX12_init, 1, none, { frames := 2, cells := 28, slots := 6936, locals := 80 })
abbrev mX12_in : MI := (yX12_in, cX12_in, 3, (some .boolean), { frames := 1, cells := 0, slots := 0, locals := 40 })
abbrev mX12_isFeed : MI := (yX12_isFeed, cX12_isFeed, 2, (some .boolean), { frames := 2, cells := 0, slots := 0, locals := 80 })
abbrev mX12_isColour : MI := (yX12_isColour, cX12_isColour, 2, (some .boolean), { frames := 2, cells := 0, slots := 0, locals := 80 })
abbrev mX12_feed : MI := (yX12_feed, cX12_feed, 10, (some .int), { frames := 2, cells := 0, slots := 0, locals := 80 })
abbrev mX12_stock : MI := (yX12_stock, cX12_stock, 3, (some .int), { frames := 3, cells := 0, slots := 0, locals := 120 })
abbrev mX12_of : MI := (yX12_of, cX12_of, 3, (some .int), { frames := 3, cells := 0, slots := 0, locals := 120 })
abbrev mX12_shareOut : MI := (yX12_shareOut, cX12_shareOut, 8, none, { frames := 1, cells := 0, slots := 0, locals := 40 })
abbrev mX12_byThings : MI := (yX12_byThings, cX12_byThings, 6, none, { frames := 2, cells := 0, slots := 0, locals := 80 })
abbrev mX12_tank : MI := (yX12_tank, cX12_tank, 6, (some .int), { frames := 3, cells := 0, slots := 0, locals := 120 })
abbrev mX12_pull : MI := (yX12_pull, cX12_pull, 3, (some .int), { frames := 2, cells := 0, slots := 0, locals := 80 })
abbrev mX12_cell : MI := (yX12_cell, cX12_cell, 6, (some .int), { frames := 3, cells := 0, slots := 0, locals := 120 })
abbrev mX12_share : MI := (yX12_share, cX12_share, 4, (some .int), { frames := 3, cells := 0, slots := 0, locals := 120 })
abbrev mX12_mix : MI := (yX12_mix, cX12_mix, 3, (some .int), { frames := 1, cells := 0, slots := 0, locals := 40 })
abbrev mX12_colour : MI := (yX12_colour, cX12_colour, 2, (some .int), { frames := 1, cells := 0, slots := 0, locals := 40 })
abbrev mX12_span : MI := (yX12_span, cX12_span, 5, (some .int), { frames := 3, cells := 0, slots := 0, locals := 120 })
abbrev mX12_isSure : MI := (yX12_isSure, cX12_isSure, 8, (some .boolean), { frames := 1, cells := 0, slots := 0, locals := 40 })
abbrev mX12_sure : MI := (yX12_sure, cX12_sure, 2, (some .int), { frames := 3, cells := 0, slots := 0, locals := 120 })
abbrev mX12_cheapest : MI := (yX12_cheapest, cX12_cheapest, 7, (some .int), { frames := 3, cells := 0, slots := 0, locals := 120 })
abbrev mX12_want : MI := (yX12_want, cX12_want, 3, (some .int), { frames := 3, cells := 0, slots := 0, locals := 120 })
abbrev mX12_comes : MI := (yX12_comes, cX12_comes, 5, none, { frames := 3, cells := 0, slots := 0, locals := 120 })
abbrev mX12_goes : MI := (yX12_goes, cX12_goes, 4, none, { frames := 2, cells := 0, slots := 0, locals := 80 })
abbrev mX12_glassOf : MI := (yX12_glassOf, cX12_glassOf, 4, (some .int), { frames := 1, cells := 0, slots := 0, locals := 40 })
abbrev mX12_isOf : MI := (yX12_isOf, cX12_isOf, 5, (some .boolean), { frames := 2, cells := 0, slots := 0, locals := 80 })
abbrev mX12_nameOf : MI := (yX12_nameOf, cX12_nameOf, 2, (some .int), { frames := 3, cells := 0, slots := 0, locals := 120 })
abbrev mX12_goesBy : MI := (yX12_goesBy, cX12_goesBy, 4, (some .boolean), { frames := 4, cells := 0, slots := 0, locals := 160 })
abbrev mX12_hours : MI := (yX12_hours, cX12_hours, 3, (some .int), { frames := 5, cells := 0, slots := 0, locals := 200 })
abbrev mX12_isHour : MI := (yX12_isHour, cX12_isHour, 2, (some .boolean), { frames := 2, cells := 0, slots := 0, locals := 80 })
abbrev mX12_glass : MI := (yX12_glass, cX12_glass, 3, (some .int), { frames := 3, cells := 0, slots := 0, locals := 120 })
abbrev mX12_lead : MI := (yX12_lead, cX12_lead, 3, (some .int), { frames := 3, cells := 0, slots := 0, locals := 120 })
abbrev mX12_first : MI := (yX12_first, cX12_first, 6, (some .int), { frames := 4, cells := 0, slots := 0, locals := 160 })
abbrev mX12_when : MI := (yX12_when, cX12_when, 2, (some .int), { frames := 5, cells := 0, slots := 0, locals := 200 })
abbrev mX12_between : MI := (yX12_between, cX12_between, 3, (some .int), { frames := 4, cells := 0, slots := 0, locals := 160 })
abbrev mX12_dose : MI := (yX12_dose, cX12_dose, 8, (some .int), { frames := 5, cells := 0, slots := 0, locals := 200 })
abbrev mX12_change : MI := (yX12_change, cX12_change, 5, (some .int), { frames := 3, cells := 0, slots := 0, locals := 120 })
abbrev mX12_ring : MI := (yX12_ring, cX12_ring, 7, (some .int), { frames := 2, cells := 0, slots := 0, locals := 80 })
abbrev mX12_turns : MI := (yX12_turns, cX12_turns, 7, (some .boolean), { frames := 1, cells := 0, slots := 0, locals := 40 })
abbrev mX12_next : MI := (yX12_next, cX12_next, 2, (some .int), { frames := 2, cells := 0, slots := 0, locals := 80 })
abbrev mX12_told : MI := (yX12_told, cX12_told, 2, (some .int), { frames := 1, cells := 0, slots := 0, locals := 40 })
abbrev mL_law : MI := (yL_law, cL_law, 4, some .boolean, room_1)
theorem cl_X0_init : CL mX0_init 3 := ⟨gw_in (w := .initialized RX0) 36 (by decide +kernel) (by decide +kernel), gw_in (w := .code yX0_init cX0_init 4 none) 214 (by decide +kernel) (by decide +kernel), by decide +kernel⟩
theorem iv_X0_init : Cond.instanceMethod (mX0_init).1 ∈ gw := gw_in (w := .instanceMethod yX0_init) 213 (by decide +kernel) (by decide +kernel)
theorem cl_X0_measure : CL mX0_measure 3 := ⟨gw_in (w := .initialized RX0) 36 (by decide +kernel) (by decide +kernel), gw_in (w := .code yX0_measure cX0_measure 5 none) 538 (by decide +kernel) (by decide +kernel), by decide +kernel⟩
theorem iv_X0_measure : Cond.instanceMethod (mX0_measure).1 ∈ gw := gw_in (w := .instanceMethod yX0_measure) 536 (by decide +kernel) (by decide +kernel)
theorem vl_X0_measure : VLk mX0_measure := ⟨iv_X0_measure, gw_in (w := .selects RX0 yX0_measure yX0_measure) 537 (by decide +kernel) (by decide +kernel)⟩
theorem cl_X1_init : CL mX1_init 0 := ⟨gw_in (w := .initialized RX1) 33 (by decide +kernel) (by decide +kernel), gw_in (w := .code yX1_init cX1_init 1 none) 131 (by decide +kernel) (by decide +kernel), by decide +kernel⟩
theorem iv_X1_init : Cond.instanceMethod (mX1_init).1 ∈ gw := gw_in (w := .instanceMethod yX1_init) 130 (by decide +kernel) (by decide +kernel)
theorem cl_X1_has : CL mX1_has 1 := ⟨gw_in (w := .initialized RX1) 33 (by decide +kernel) (by decide +kernel), gw_in (w := .code yX1_has cX1_has 2 (some .boolean)) 487 (by decide +kernel) (by decide +kernel), by decide +kernel⟩
theorem iv_X1_has : Cond.instanceMethod (mX1_has).1 ∈ gw := gw_in (w := .instanceMethod yX1_has) 485 (by decide +kernel) (by decide +kernel)
theorem vl_X1_has : VLk mX1_has := ⟨iv_X1_has, gw_in (w := .selects RX1 yX1_has yX1_has) 486 (by decide +kernel) (by decide +kernel)⟩
theorem cl_X1_add : CL mX1_add 0 := ⟨gw_in (w := .initialized RX1) 33 (by decide +kernel) (by decide +kernel), gw_in (w := .code yX1_add cX1_add 2 (some .int)) 478 (by decide +kernel) (by decide +kernel), by decide +kernel⟩
theorem iv_X1_add : Cond.instanceMethod (mX1_add).1 ∈ gw := gw_in (w := .instanceMethod yX1_add) 476 (by decide +kernel) (by decide +kernel)
theorem vl_X1_add : VLk mX1_add := ⟨iv_X1_add, gw_in (w := .selects RX1 yX1_add yX1_add) 477 (by decide +kernel) (by decide +kernel)⟩
theorem cl_X1_fits : CL mX1_fits 2 := ⟨gw_in (w := .initialized RX1) 33 (by decide +kernel) (by decide +kernel), gw_in (w := .code yX1_fits cX1_fits 5 (some .boolean)) 579 (by decide +kernel) (by decide +kernel), by decide +kernel⟩
theorem iv_X1_fits : Cond.instanceMethod (mX1_fits).1 ∈ gw := gw_in (w := .instanceMethod yX1_fits) 577 (by decide +kernel) (by decide +kernel)
theorem vl_X1_fits : VLk mX1_fits := ⟨iv_X1_fits, gw_in (w := .selects RX1 yX1_fits yX1_fits) 578 (by decide +kernel) (by decide +kernel)⟩
theorem cl_X1_nameOf : CL mX1_nameOf 1 := ⟨gw_in (w := .initialized RX1) 33 (by decide +kernel) (by decide +kernel), gw_in (w := .code yX1_nameOf cX1_nameOf 3 (some .int)) 575 (by decide +kernel) (by decide +kernel), by decide +kernel⟩
theorem iv_X1_nameOf : Cond.instanceMethod (mX1_nameOf).1 ∈ gw := gw_in (w := .instanceMethod yX1_nameOf) 573 (by decide +kernel) (by decide +kernel)
theorem vl_X1_nameOf : VLk mX1_nameOf := ⟨iv_X1_nameOf, gw_in (w := .selects RX1 yX1_nameOf yX1_nameOf) 574 (by decide +kernel) (by decide +kernel)⟩
theorem cl_X1_isSure : CL mX1_isSure 3 := ⟨gw_in (w := .initialized RX1) 33 (by decide +kernel) (by decide +kernel), gw_in (w := .code yX1_isSure cX1_isSure 9 (some .boolean)) 495 (by decide +kernel) (by decide +kernel), by decide +kernel⟩
theorem iv_X1_isSure : Cond.instanceMethod (mX1_isSure).1 ∈ gw := gw_in (w := .instanceMethod yX1_isSure) 493 (by decide +kernel) (by decide +kernel)
theorem vl_X1_isSure : VLk mX1_isSure := ⟨iv_X1_isSure, gw_in (w := .selects RX1 yX1_isSure yX1_isSure) 494 (by decide +kernel) (by decide +kernel)⟩
theorem cl_X2_init : CL mX2_init 0 := ⟨gw_in (w := .initialized RX2) 31 (by decide +kernel) (by decide +kernel), gw_in (w := .code yX2_init cX2_init 1 none) 71 (by decide +kernel) (by decide +kernel), by decide +kernel⟩
theorem iv_X2_init : Cond.instanceMethod (mX2_init).1 ∈ gw := gw_in (w := .instanceMethod yX2_init) 70 (by decide +kernel) (by decide +kernel)
theorem cl_X2_has : CL mX2_has 1 := ⟨gw_in (w := .initialized RX2) 31 (by decide +kernel) (by decide +kernel), gw_in (w := .code yX2_has cX2_has 2 (some .boolean)) 414 (by decide +kernel) (by decide +kernel), by decide +kernel⟩
theorem iv_X2_has : Cond.instanceMethod (mX2_has).1 ∈ gw := gw_in (w := .instanceMethod yX2_has) 412 (by decide +kernel) (by decide +kernel)
theorem vl_X2_has : VLk mX2_has := ⟨iv_X2_has, gw_in (w := .selects RX2 yX2_has yX2_has) 413 (by decide +kernel) (by decide +kernel)⟩
theorem cl_X2_add : CL mX2_add 7 := ⟨gw_in (w := .initialized RX2) 31 (by decide +kernel) (by decide +kernel), gw_in (w := .code yX2_add cX2_add 9 (some .int)) 405 (by decide +kernel) (by decide +kernel), by decide +kernel⟩
theorem iv_X2_add : Cond.instanceMethod (mX2_add).1 ∈ gw := gw_in (w := .instanceMethod yX2_add) 403 (by decide +kernel) (by decide +kernel)
theorem vl_X2_add : VLk mX2_add := ⟨iv_X2_add, gw_in (w := .selects RX2 yX2_add yX2_add) 404 (by decide +kernel) (by decide +kernel)⟩
theorem cl_X2_haveAll : CL mX2_haveAll 1 := ⟨gw_in (w := .initialized RX2) 31 (by decide +kernel) (by decide +kernel), gw_in (w := .code yX2_haveAll cX2_haveAll 3 (some .boolean)) 544 (by decide +kernel) (by decide +kernel), by decide +kernel⟩
theorem iv_X2_haveAll : Cond.instanceMethod (mX2_haveAll).1 ∈ gw := gw_in (w := .instanceMethod yX2_haveAll) 542 (by decide +kernel) (by decide +kernel)
theorem vl_X2_haveAll : VLk mX2_haveAll := ⟨iv_X2_haveAll, gw_in (w := .selects RX2 yX2_haveAll yX2_haveAll) 543 (by decide +kernel) (by decide +kernel)⟩
theorem cl_X2_takeAll : CL mX2_takeAll 1 := ⟨gw_in (w := .initialized RX2) 31 (by decide +kernel) (by decide +kernel), gw_in (w := .code yX2_takeAll cX2_takeAll 3 none) 552 (by decide +kernel) (by decide +kernel), by decide +kernel⟩
theorem iv_X2_takeAll : Cond.instanceMethod (mX2_takeAll).1 ∈ gw := gw_in (w := .instanceMethod yX2_takeAll) 550 (by decide +kernel) (by decide +kernel)
theorem vl_X2_takeAll : VLk mX2_takeAll := ⟨iv_X2_takeAll, gw_in (w := .selects RX2 yX2_takeAll yX2_takeAll) 551 (by decide +kernel) (by decide +kernel)⟩
theorem cl_X2_takeBack : CL mX2_takeBack 1 := ⟨gw_in (w := .initialized RX2) 31 (by decide +kernel) (by decide +kernel), gw_in (w := .code yX2_takeBack cX2_takeBack 3 none) 588 (by decide +kernel) (by decide +kernel), by decide +kernel⟩
theorem iv_X2_takeBack : Cond.instanceMethod (mX2_takeBack).1 ∈ gw := gw_in (w := .instanceMethod yX2_takeBack) 586 (by decide +kernel) (by decide +kernel)
theorem vl_X2_takeBack : VLk mX2_takeBack := ⟨iv_X2_takeBack, gw_in (w := .selects RX2 yX2_takeBack yX2_takeBack) 587 (by decide +kernel) (by decide +kernel)⟩
theorem cl_X3_init : CL mX3_init 5 := ⟨gw_in (w := .initialized RX3) 39 (by decide +kernel) (by decide +kernel), gw_in (w := .code yX3_init cX3_init 6 none) 307 (by decide +kernel) (by decide +kernel), by decide +kernel⟩
theorem iv_X3_init : Cond.instanceMethod (mX3_init).1 ∈ gw := gw_in (w := .instanceMethod yX3_init) 306 (by decide +kernel) (by decide +kernel)
theorem cl_X3_firstHour : CL mX3_firstHour 1 := ⟨gw_in (w := .initialized RX3) 39 (by decide +kernel) (by decide +kernel), gw_in (w := .code yX3_firstHour cX3_firstHour 2 (some .int)) 610 (by decide +kernel) (by decide +kernel), by decide +kernel⟩
theorem iv_X3_firstHour : Cond.instanceMethod (mX3_firstHour).1 ∈ gw := gw_in (w := .instanceMethod yX3_firstHour) 608 (by decide +kernel) (by decide +kernel)
theorem vl_X3_firstHour : VLk mX3_firstHour := ⟨iv_X3_firstHour, gw_in (w := .selects RX3 yX3_firstHour yX3_firstHour) 609 (by decide +kernel) (by decide +kernel)⟩
theorem cl_X3_hoursWithoutName : CL mX3_hoursWithoutName 0 := ⟨gw_in (w := .initialized RX3) 39 (by decide +kernel) (by decide +kernel), gw_in (w := .code yX3_hoursWithoutName cX3_hoursWithoutName 3 (some .int)) 634 (by decide +kernel) (by decide +kernel), by decide +kernel⟩
theorem iv_X3_hoursWithoutName : Cond.instanceMethod (mX3_hoursWithoutName).1 ∈ gw := gw_in (w := .instanceMethod yX3_hoursWithoutName) 632 (by decide +kernel) (by decide +kernel)
theorem vl_X3_hoursWithoutName : VLk mX3_hoursWithoutName := ⟨iv_X3_hoursWithoutName, gw_in (w := .selects RX3 yX3_hoursWithoutName yX3_hoursWithoutName) 633 (by decide +kernel) (by decide +kernel)⟩
theorem cl_X3_bestDose : CL mX3_bestDose 2 := ⟨gw_in (w := .initialized RX3) 39 (by decide +kernel) (by decide +kernel), gw_in (w := .code yX3_bestDose cX3_bestDose 9 (some .int)) 643 (by decide +kernel) (by decide +kernel), by decide +kernel⟩
theorem iv_X3_bestDose : Cond.instanceMethod (mX3_bestDose).1 ∈ gw := gw_in (w := .instanceMethod yX3_bestDose) 641 (by decide +kernel) (by decide +kernel)
theorem vl_X3_bestDose : VLk mX3_bestDose := ⟨iv_X3_bestDose, gw_in (w := .selects RX3 yX3_bestDose yX3_bestDose) 642 (by decide +kernel) (by decide +kernel)⟩
theorem cl_X3_firstHourWithDose : CL mX3_firstHourWithDose 3 := ⟨gw_in (w := .initialized RX3) 39 (by decide +kernel) (by decide +kernel), gw_in (w := .code yX3_firstHourWithDose cX3_firstHourWithDose 5 (some .int)) 615 (by decide +kernel) (by decide +kernel), by decide +kernel⟩
theorem iv_X3_firstHourWithDose : Cond.instanceMethod (mX3_firstHourWithDose).1 ∈ gw := gw_in (w := .instanceMethod yX3_firstHourWithDose) 614 (by decide +kernel) (by decide +kernel)
theorem vl_X3_firstHourWithDose : VLk mX3_firstHourWithDose := ⟨iv_X3_firstHourWithDose, gw_in (w := .selects RX3 yX3_firstHourWithDose yX3_firstHourWithDose) 7 (by decide +kernel) (by decide +kernel)⟩
theorem cl_X3_passHour : CL mX3_passHour 1 := ⟨gw_in (w := .initialized RX3) 39 (by decide +kernel) (by decide +kernel), gw_in (w := .code yX3_passHour cX3_passHour 2 none) 623 (by decide +kernel) (by decide +kernel), by decide +kernel⟩
theorem iv_X3_passHour : Cond.instanceMethod (mX3_passHour).1 ∈ gw := gw_in (w := .instanceMethod yX3_passHour) 622 (by decide +kernel) (by decide +kernel)
theorem vl_X3_passHour : VLk mX3_passHour := ⟨iv_X3_passHour, gw_in (w := .selects RX3 yX3_passHour yX3_passHour) 8 (by decide +kernel) (by decide +kernel)⟩
theorem cl_X4_init : CL mX4_init 0 := ⟨gw_in (w := .initialized RX4) 37 (by decide +kernel) (by decide +kernel), gw_in (w := .code yX4_init cX4_init 1 none) 245 (by decide +kernel) (by decide +kernel), by decide +kernel⟩
theorem iv_X4_init : Cond.instanceMethod (mX4_init).1 ∈ gw := gw_in (w := .instanceMethod yX4_init) 244 (by decide +kernel) (by decide +kernel)
theorem cl_X4_read : CL mX4_read 1 := ⟨gw_in (w := .initialized RX4) 37 (by decide +kernel) (by decide +kernel), gw_in (w := .code yX4_read cX4_read 7 none) 567 (by decide +kernel) (by decide +kernel), by decide +kernel⟩
theorem iv_X4_read : Cond.instanceMethod (mX4_read).1 ∈ gw := gw_in (w := .instanceMethod yX4_read) 565 (by decide +kernel) (by decide +kernel)
theorem vl_X4_read : VLk mX4_read := ⟨iv_X4_read, gw_in (w := .selects RX4 yX4_read yX4_read) 566 (by decide +kernel) (by decide +kernel)⟩
theorem cl_X5_init : CL mX5_init 0 := ⟨gw_in (w := .initialized RX5) 38 (by decide +kernel) (by decide +kernel), gw_in (w := .code yX5_init cX5_init 1 none) 267 (by decide +kernel) (by decide +kernel), by decide +kernel⟩
theorem iv_X5_init : Cond.instanceMethod (mX5_init).1 ∈ gw := gw_in (w := .instanceMethod yX5_init) 266 (by decide +kernel) (by decide +kernel)
theorem cl_X5_has : CL mX5_has 1 := ⟨gw_in (w := .initialized RX5) 38 (by decide +kernel) (by decide +kernel), gw_in (w := .code yX5_has cX5_has 2 (some .boolean)) 598 (by decide +kernel) (by decide +kernel), by decide +kernel⟩
theorem iv_X5_has : Cond.instanceMethod (mX5_has).1 ∈ gw := gw_in (w := .instanceMethod yX5_has) 596 (by decide +kernel) (by decide +kernel)
theorem vl_X5_has : VLk mX5_has := ⟨iv_X5_has, gw_in (w := .selects RX5 yX5_has yX5_has) 597 (by decide +kernel) (by decide +kernel)⟩
theorem cl_X5_clear : CL mX5_clear 0 := ⟨gw_in (w := .initialized RX5) 38 (by decide +kernel) (by decide +kernel), gw_in (w := .code yX5_clear cX5_clear 1 none) 440 (by decide +kernel) (by decide +kernel), by decide +kernel⟩
theorem iv_X5_clear : Cond.instanceMethod (mX5_clear).1 ∈ gw := gw_in (w := .instanceMethod yX5_clear) 438 (by decide +kernel) (by decide +kernel)
theorem vl_X5_clear : VLk mX5_clear := ⟨iv_X5_clear, gw_in (w := .selects RX5 yX5_clear yX5_clear) 439 (by decide +kernel) (by decide +kernel)⟩
theorem cl_X5_add : CL mX5_add 3 := ⟨gw_in (w := .initialized RX5) 38 (by decide +kernel) (by decide +kernel), gw_in (w := .code yX5_add cX5_add 4 none) 583 (by decide +kernel) (by decide +kernel), by decide +kernel⟩
theorem iv_X5_add : Cond.instanceMethod (mX5_add).1 ∈ gw := gw_in (w := .instanceMethod yX5_add) 581 (by decide +kernel) (by decide +kernel)
theorem vl_X5_add : VLk mX5_add := ⟨iv_X5_add, gw_in (w := .selects RX5 yX5_add yX5_add) 582 (by decide +kernel) (by decide +kernel)⟩
theorem cl_X6_init : CL mX6_init 0 := ⟨gw_in (w := .initialized RX6) 32 (by decide +kernel) (by decide +kernel), gw_in (w := .code yX6_init cX6_init 1 none) 111 (by decide +kernel) (by decide +kernel), by decide +kernel⟩
theorem iv_X6_init : Cond.instanceMethod (mX6_init).1 ∈ gw := gw_in (w := .instanceMethod yX6_init) 110 (by decide +kernel) (by decide +kernel)
theorem cl_X6_become : CL mX6_become 1 := ⟨gw_in (w := .initialized RX6) 32 (by decide +kernel) (by decide +kernel), gw_in (w := .code yX6_become cX6_become 3 none) 470 (by decide +kernel) (by decide +kernel), by decide +kernel⟩
theorem iv_X6_become : Cond.instanceMethod (mX6_become).1 ∈ gw := gw_in (w := .instanceMethod yX6_become) 468 (by decide +kernel) (by decide +kernel)
theorem vl_X6_become : VLk mX6_become := ⟨iv_X6_become, gw_in (w := .selects RX6 yX6_become yX6_become) 469 (by decide +kernel) (by decide +kernel)⟩
theorem cl_X7_init : CL mX7_init 2 := ⟨gw_in (w := .initialized RX7) 34 (by decide +kernel) (by decide +kernel), gw_in (w := .code yX7_init cX7_init 3 none) 151 (by decide +kernel) (by decide +kernel), by decide +kernel⟩
theorem iv_X7_init : Cond.instanceMethod (mX7_init).1 ∈ gw := gw_in (w := .instanceMethod yX7_init) 150 (by decide +kernel) (by decide +kernel)
theorem cl_X7_find : CL mX7_find 1 := ⟨gw_in (w := .initialized RX7) 34 (by decide +kernel) (by decide +kernel), gw_in (w := .code yX7_find cX7_find 6 (some .boolean)) 509 (by decide +kernel) (by decide +kernel), by decide +kernel⟩
theorem iv_X7_find : Cond.instanceMethod (mX7_find).1 ∈ gw := gw_in (w := .instanceMethod yX7_find) 507 (by decide +kernel) (by decide +kernel)
theorem vl_X7_find : VLk mX7_find := ⟨iv_X7_find, gw_in (w := .selects RX7 yX7_find yX7_find) 508 (by decide +kernel) (by decide +kernel)⟩
theorem cl_X7_costOfTrial : CL mX7_costOfTrial 0 := ⟨gw_in (w := .initialized RX7) 34 (by decide +kernel) (by decide +kernel), gw_in (w := .code yX7_costOfTrial cX7_costOfTrial 3 (some .int)) 513 (by decide +kernel) (by decide +kernel), by decide +kernel⟩
theorem iv_X7_costOfTrial : Cond.instanceMethod (mX7_costOfTrial).1 ∈ gw := gw_in (w := .instanceMethod yX7_costOfTrial) 512 (by decide +kernel) (by decide +kernel)
theorem vl_X7_costOfTrial : VLk mX7_costOfTrial := ⟨iv_X7_costOfTrial, gw_in (w := .selects RX7 yX7_costOfTrial yX7_costOfTrial) 1 (by decide +kernel) (by decide +kernel)⟩
theorem cl_X7_keepTrial : CL mX7_keepTrial 1 := ⟨gw_in (w := .initialized RX7) 34 (by decide +kernel) (by decide +kernel), gw_in (w := .code yX7_keepTrial cX7_keepTrial 3 none) 518 (by decide +kernel) (by decide +kernel), by decide +kernel⟩
theorem iv_X7_keepTrial : Cond.instanceMethod (mX7_keepTrial).1 ∈ gw := gw_in (w := .instanceMethod yX7_keepTrial) 517 (by decide +kernel) (by decide +kernel)
theorem vl_X7_keepTrial : VLk mX7_keepTrial := ⟨iv_X7_keepTrial, gw_in (w := .selects RX7 yX7_keepTrial yX7_keepTrial) 2 (by decide +kernel) (by decide +kernel)⟩
theorem cl_X7_advance : CL mX7_advance 0 := ⟨gw_in (w := .initialized RX7) 34 (by decide +kernel) (by decide +kernel), gw_in (w := .code yX7_advance cX7_advance 4 (some .boolean)) 522 (by decide +kernel) (by decide +kernel), by decide +kernel⟩
theorem iv_X7_advance : Cond.instanceMethod (mX7_advance).1 ∈ gw := gw_in (w := .instanceMethod yX7_advance) 521 (by decide +kernel) (by decide +kernel)
theorem vl_X7_advance : VLk mX7_advance := ⟨iv_X7_advance, gw_in (w := .selects RX7 yX7_advance yX7_advance) 3 (by decide +kernel) (by decide +kernel)⟩
theorem cl_X8_init : CL mX8_init 0 := ⟨gw_in (w := .initialized RX8) 40 (by decide +kernel) (by decide +kernel), gw_in (w := .code yX8_init cX8_init 1 none) 334 (by decide +kernel) (by decide +kernel), by decide +kernel⟩
theorem iv_X8_init : Cond.instanceMethod (mX8_init).1 ∈ gw := gw_in (w := .instanceMethod yX8_init) 333 (by decide +kernel) (by decide +kernel)
theorem cl_X8_leastSum : CL mX8_leastSum 1 := ⟨gw_in (w := .initialized RX8) 40 (by decide +kernel) (by decide +kernel), gw_in (w := .code yX8_leastSum cX8_leastSum 7 (some .int)) 657 (by decide +kernel) (by decide +kernel), by decide +kernel⟩
theorem iv_X8_leastSum : Cond.instanceMethod (mX8_leastSum).1 ∈ gw := gw_in (w := .instanceMethod yX8_leastSum) 655 (by decide +kernel) (by decide +kernel)
theorem vl_X8_leastSum : VLk mX8_leastSum := ⟨iv_X8_leastSum, gw_in (w := .selects RX8 yX8_leastSum yX8_leastSum) 656 (by decide +kernel) (by decide +kernel)⟩
theorem cl_X8_gather : CL mX8_gather 1 := ⟨gw_in (w := .initialized RX8) 40 (by decide +kernel) (by decide +kernel), gw_in (w := .code yX8_gather cX8_gather 4 (some .int)) 661 (by decide +kernel) (by decide +kernel), by decide +kernel⟩
theorem iv_X8_gather : Cond.instanceMethod (mX8_gather).1 ∈ gw := gw_in (w := .instanceMethod yX8_gather) 660 (by decide +kernel) (by decide +kernel)
theorem vl_X8_gather : VLk mX8_gather := ⟨iv_X8_gather, gw_in (w := .selects RX8 yX8_gather yX8_gather) 9 (by decide +kernel) (by decide +kernel)⟩
theorem cl_X8_sumOfOrder : CL mX8_sumOfOrder 1 := ⟨gw_in (w := .initialized RX8) 40 (by decide +kernel) (by decide +kernel), gw_in (w := .code yX8_sumOfOrder cX8_sumOfOrder 5 (some .int)) 665 (by decide +kernel) (by decide +kernel), by decide +kernel⟩
theorem iv_X8_sumOfOrder : Cond.instanceMethod (mX8_sumOfOrder).1 ∈ gw := gw_in (w := .instanceMethod yX8_sumOfOrder) 664 (by decide +kernel) (by decide +kernel)
theorem vl_X8_sumOfOrder : VLk mX8_sumOfOrder := ⟨iv_X8_sumOfOrder, gw_in (w := .selects RX8 yX8_sumOfOrder yX8_sumOfOrder) 10 (by decide +kernel) (by decide +kernel)⟩
theorem cl_X8_keepOrder : CL mX8_keepOrder 1 := ⟨gw_in (w := .initialized RX8) 40 (by decide +kernel) (by decide +kernel), gw_in (w := .code yX8_keepOrder cX8_keepOrder 2 none) 669 (by decide +kernel) (by decide +kernel), by decide +kernel⟩
theorem iv_X8_keepOrder : Cond.instanceMethod (mX8_keepOrder).1 ∈ gw := gw_in (w := .instanceMethod yX8_keepOrder) 668 (by decide +kernel) (by decide +kernel)
theorem vl_X8_keepOrder : VLk mX8_keepOrder := ⟨iv_X8_keepOrder, gw_in (w := .selects RX8 yX8_keepOrder yX8_keepOrder) 11 (by decide +kernel) (by decide +kernel)⟩
theorem cl_X8_advance : CL mX8_advance 1 := ⟨gw_in (w := .initialized RX8) 40 (by decide +kernel) (by decide +kernel), gw_in (w := .code yX8_advance cX8_advance 6 (some .boolean)) 674 (by decide +kernel) (by decide +kernel), by decide +kernel⟩
theorem iv_X8_advance : Cond.instanceMethod (mX8_advance).1 ∈ gw := gw_in (w := .instanceMethod yX8_advance) 673 (by decide +kernel) (by decide +kernel)
theorem vl_X8_advance : VLk mX8_advance := ⟨iv_X8_advance, gw_in (w := .selects RX8 yX8_advance yX8_advance) 12 (by decide +kernel) (by decide +kernel)⟩
theorem cl_X8_swap : CL mX8_swap 2 := ⟨gw_in (w := .initialized RX8) 40 (by decide +kernel) (by decide +kernel), gw_in (w := .code yX8_swap cX8_swap 4 none) 678 (by decide +kernel) (by decide +kernel), by decide +kernel⟩
theorem iv_X8_swap : Cond.instanceMethod (mX8_swap).1 ∈ gw := gw_in (w := .instanceMethod yX8_swap) 677 (by decide +kernel) (by decide +kernel)
theorem vl_X8_swap : VLk mX8_swap := ⟨iv_X8_swap, gw_in (w := .selects RX8 yX8_swap yX8_swap) 13 (by decide +kernel) (by decide +kernel)⟩
theorem cl_X9_init : CL mX9_init 0 := ⟨gw_in (w := .initialized RX9) 30 (by decide +kernel) (by decide +kernel), gw_in (w := .code yX9_init cX9_init 1 none) 56 (by decide +kernel) (by decide +kernel), by decide +kernel⟩
theorem iv_X9_init : Cond.instanceMethod (mX9_init).1 ∈ gw := gw_in (w := .instanceMethod yX9_init) 55 (by decide +kernel) (by decide +kernel)
theorem cl_X9_split : CL mX9_split 5 := ⟨gw_in (w := .initialized RX9) 30 (by decide +kernel) (by decide +kernel), gw_in (w := .code yX9_split cX9_split 16 none) 432 (by decide +kernel) (by decide +kernel), by decide +kernel⟩
theorem iv_X9_split : Cond.instanceMethod (mX9_split).1 ∈ gw := gw_in (w := .instanceMethod yX9_split) 430 (by decide +kernel) (by decide +kernel)
theorem vl_X9_split : VLk mX9_split := ⟨iv_X9_split, gw_in (w := .selects RX9 yX9_split yX9_split) 431 (by decide +kernel) (by decide +kernel)⟩
theorem cl_X9_giveLeft : CL mX9_giveLeft 3 := ⟨gw_in (w := .initialized RX9) 30 (by decide +kernel) (by decide +kernel), gw_in (w := .code yX9_giveLeft cX9_giveLeft 7 none) 436 (by decide +kernel) (by decide +kernel), by decide +kernel⟩
theorem iv_X9_giveLeft : Cond.instanceMethod (mX9_giveLeft).1 ∈ gw := gw_in (w := .instanceMethod yX9_giveLeft) 435 (by decide +kernel) (by decide +kernel)
theorem vl_X9_giveLeft : VLk mX9_giveLeft := ⟨iv_X9_giveLeft, gw_in (w := .selects RX9 yX9_giveLeft yX9_giveLeft) 0 (by decide +kernel) (by decide +kernel)⟩
theorem cl_X10_init : CL mX10_init 1 := ⟨gw_in (w := .initialized RX10) 35 (by decide +kernel) (by decide +kernel), gw_in (w := .code yX10_init cX10_init 2 none) 175 (by decide +kernel) (by decide +kernel), by decide +kernel⟩
theorem iv_X10_init : Cond.instanceMethod (mX10_init).1 ∈ gw := gw_in (w := .instanceMethod yX10_init) 174 (by decide +kernel) (by decide +kernel)
theorem cl_X10_fill : CL mX10_fill 4 := ⟨gw_in (w := .initialized RX10) 35 (by decide +kernel) (by decide +kernel), gw_in (w := .code yX10_fill cX10_fill 7 none) 428 (by decide +kernel) (by decide +kernel), by decide +kernel⟩
theorem iv_X10_fill : Cond.instanceMethod (mX10_fill).1 ∈ gw := gw_in (w := .instanceMethod yX10_fill) 426 (by decide +kernel) (by decide +kernel)
theorem vl_X10_fill : VLk mX10_fill := ⟨iv_X10_fill, gw_in (w := .selects RX10 yX10_fill yX10_fill) 427 (by decide +kernel) (by decide +kernel)⟩
theorem cl_X10_copy : CL mX10_copy 1 := ⟨gw_in (w := .initialized RX10) 35 (by decide +kernel) (by decide +kernel), gw_in (w := .code yX10_copy cX10_copy 3 none) 619 (by decide +kernel) (by decide +kernel), by decide +kernel⟩
theorem iv_X10_copy : Cond.instanceMethod (mX10_copy).1 ∈ gw := gw_in (w := .instanceMethod yX10_copy) 617 (by decide +kernel) (by decide +kernel)
theorem vl_X10_copy : VLk mX10_copy := ⟨iv_X10_copy, gw_in (w := .selects RX10 yX10_copy yX10_copy) 618 (by decide +kernel) (by decide +kernel)⟩
theorem cl_X10_pass : CL mX10_pass 1 := ⟨gw_in (w := .initialized RX10) 35 (by decide +kernel) (by decide +kernel), gw_in (w := .code yX10_pass cX10_pass 3 none) 556 (by decide +kernel) (by decide +kernel), by decide +kernel⟩
theorem iv_X10_pass : Cond.instanceMethod (mX10_pass).1 ∈ gw := gw_in (w := .instanceMethod yX10_pass) 554 (by decide +kernel) (by decide +kernel)
theorem vl_X10_pass : VLk mX10_pass := ⟨iv_X10_pass, gw_in (w := .selects RX10 yX10_pass yX10_pass) 555 (by decide +kernel) (by decide +kernel)⟩
theorem cl_X10_move : CL mX10_move 2 := ⟨gw_in (w := .initialized RX10) 35 (by decide +kernel) (by decide +kernel), gw_in (w := .code yX10_move cX10_move 5 none) 563 (by decide +kernel) (by decide +kernel), by decide +kernel⟩
theorem iv_X10_move : Cond.instanceMethod (mX10_move).1 ∈ gw := gw_in (w := .instanceMethod yX10_move) 562 (by decide +kernel) (by decide +kernel)
theorem vl_X10_move : VLk mX10_move := ⟨iv_X10_move, gw_in (w := .selects RX10 yX10_move yX10_move) 6 (by decide +kernel) (by decide +kernel)⟩
theorem cl_X10_outOfLast : CL mX10_outOfLast 0 := ⟨gw_in (w := .initialized RX10) 35 (by decide +kernel) (by decide +kernel), gw_in (w := .code yX10_outOfLast cX10_outOfLast 1 (some (.array .int))) 571 (by decide +kernel) (by decide +kernel), by decide +kernel⟩
theorem iv_X10_outOfLast : Cond.instanceMethod (mX10_outOfLast).1 ∈ gw := gw_in (w := .instanceMethod yX10_outOfLast) 569 (by decide +kernel) (by decide +kernel)
theorem vl_X10_outOfLast : VLk mX10_outOfLast := ⟨iv_X10_outOfLast, gw_in (w := .selects RX10 yX10_outOfLast yX10_outOfLast) 570 (by decide +kernel) (by decide +kernel)⟩
theorem cl_X10_gramsIn : CL mX10_gramsIn 3 := ⟨gw_in (w := .initialized RX10) 35 (by decide +kernel) (by decide +kernel), gw_in (w := .code yX10_gramsIn cX10_gramsIn 6 (some .int)) 455 (by decide +kernel) (by decide +kernel), by decide +kernel⟩
theorem iv_X10_gramsIn : Cond.instanceMethod (mX10_gramsIn).1 ∈ gw := gw_in (w := .instanceMethod yX10_gramsIn) 453 (by decide +kernel) (by decide +kernel)
theorem vl_X10_gramsIn : VLk mX10_gramsIn := ⟨iv_X10_gramsIn, gw_in (w := .selects RX10 yX10_gramsIn yX10_gramsIn) 454 (by decide +kernel) (by decide +kernel)⟩
theorem cl_X10_allGrams : CL mX10_allGrams 0 := ⟨gw_in (w := .initialized RX10) 35 (by decide +kernel) (by decide +kernel), gw_in (w := .code yX10_allGrams cX10_allGrams 1 (some .int)) 690 (by decide +kernel) (by decide +kernel), by decide +kernel⟩
theorem iv_X10_allGrams : Cond.instanceMethod (mX10_allGrams).1 ∈ gw := gw_in (w := .instanceMethod yX10_allGrams) 688 (by decide +kernel) (by decide +kernel)
theorem vl_X10_allGrams : VLk mX10_allGrams := ⟨iv_X10_allGrams, gw_in (w := .selects RX10 yX10_allGrams yX10_allGrams) 689 (by decide +kernel) (by decide +kernel)⟩
theorem cl_X11_init : CL mX11_init 0 := ⟨gw_in (w := .initialized RX11) 29 (by decide +kernel) (by decide +kernel), gw_in (w := .code yX11_init cX11_init 2 none) 48 (by decide +kernel) (by decide +kernel), by decide +kernel⟩
theorem iv_X11_init : Cond.instanceMethod (mX11_init).1 ∈ gw := gw_in (w := .instanceMethod yX11_init) 47 (by decide +kernel) (by decide +kernel)
theorem cl_X11_feed : CL mX11_feed 7 := ⟨gw_in (w := .initialized RX11) 29 (by decide +kernel) (by decide +kernel), gw_in (w := .code yX11_feed cX11_feed 8 (some .int)) 390 (by decide +kernel) (by decide +kernel), by decide +kernel⟩
theorem iv_X11_feed : Cond.instanceMethod (mX11_feed).1 ∈ gw := gw_in (w := .instanceMethod yX11_feed) 388 (by decide +kernel) (by decide +kernel)
theorem vl_X11_feed : VLk mX11_feed := ⟨iv_X11_feed, gw_in (w := .selects RX11 yX11_feed yX11_feed) 389 (by decide +kernel) (by decide +kernel)⟩
theorem cl_X11_stock : CL mX11_stock 2 := ⟨gw_in (w := .initialized RX11) 29 (by decide +kernel) (by decide +kernel), gw_in (w := .code yX11_stock cX11_stock 3 (some .int)) 410 (by decide +kernel) (by decide +kernel), by decide +kernel⟩
theorem iv_X11_stock : Cond.instanceMethod (mX11_stock).1 ∈ gw := gw_in (w := .instanceMethod yX11_stock) 408 (by decide +kernel) (by decide +kernel)
theorem vl_X11_stock : VLk mX11_stock := ⟨iv_X11_stock, gw_in (w := .selects RX11 yX11_stock yX11_stock) 409 (by decide +kernel) (by decide +kernel)⟩
theorem cl_X11_of : CL mX11_of 2 := ⟨gw_in (w := .initialized RX11) 29 (by decide +kernel) (by decide +kernel), gw_in (w := .code yX11_of cX11_of 3 (some .int)) 419 (by decide +kernel) (by decide +kernel), by decide +kernel⟩
theorem iv_X11_of : Cond.instanceMethod (mX11_of).1 ∈ gw := gw_in (w := .instanceMethod yX11_of) 417 (by decide +kernel) (by decide +kernel)
theorem vl_X11_of : VLk mX11_of := ⟨iv_X11_of, gw_in (w := .selects RX11 yX11_of yX11_of) 418 (by decide +kernel) (by decide +kernel)⟩
theorem cl_X11_tank : CL mX11_tank 4 := ⟨gw_in (w := .initialized RX11) 29 (by decide +kernel) (by decide +kernel), gw_in (w := .code yX11_tank cX11_tank 5 (some .int)) 423 (by decide +kernel) (by decide +kernel), by decide +kernel⟩
theorem iv_X11_tank : Cond.instanceMethod (mX11_tank).1 ∈ gw := gw_in (w := .instanceMethod yX11_tank) 421 (by decide +kernel) (by decide +kernel)
theorem vl_X11_tank : VLk mX11_tank := ⟨iv_X11_tank, gw_in (w := .selects RX11 yX11_tank yX11_tank) 422 (by decide +kernel) (by decide +kernel)⟩
theorem cl_X11_pull : CL mX11_pull 1 := ⟨gw_in (w := .initialized RX11) 29 (by decide +kernel) (by decide +kernel), gw_in (w := .code yX11_pull cX11_pull 3 (some .int)) 444 (by decide +kernel) (by decide +kernel), by decide +kernel⟩
theorem iv_X11_pull : Cond.instanceMethod (mX11_pull).1 ∈ gw := gw_in (w := .instanceMethod yX11_pull) 442 (by decide +kernel) (by decide +kernel)
theorem vl_X11_pull : VLk mX11_pull := ⟨iv_X11_pull, gw_in (w := .selects RX11 yX11_pull yX11_pull) 443 (by decide +kernel) (by decide +kernel)⟩
theorem cl_X11_cell : CL mX11_cell 3 := ⟨gw_in (w := .initialized RX11) 29 (by decide +kernel) (by decide +kernel), gw_in (w := .code yX11_cell cX11_cell 4 (some .int)) 448 (by decide +kernel) (by decide +kernel), by decide +kernel⟩
theorem iv_X11_cell : Cond.instanceMethod (mX11_cell).1 ∈ gw := gw_in (w := .instanceMethod yX11_cell) 446 (by decide +kernel) (by decide +kernel)
theorem vl_X11_cell : VLk mX11_cell := ⟨iv_X11_cell, gw_in (w := .selects RX11 yX11_cell yX11_cell) 447 (by decide +kernel) (by decide +kernel)⟩
theorem cl_X11_share : CL mX11_share 2 := ⟨gw_in (w := .initialized RX11) 29 (by decide +kernel) (by decide +kernel), gw_in (w := .code yX11_share cX11_share 4 (some .int)) 459 (by decide +kernel) (by decide +kernel), by decide +kernel⟩
theorem iv_X11_share : Cond.instanceMethod (mX11_share).1 ∈ gw := gw_in (w := .instanceMethod yX11_share) 457 (by decide +kernel) (by decide +kernel)
theorem vl_X11_share : VLk mX11_share := ⟨iv_X11_share, gw_in (w := .selects RX11 yX11_share yX11_share) 458 (by decide +kernel) (by decide +kernel)⟩
theorem cl_X11_mix : CL mX11_mix 0 := ⟨gw_in (w := .initialized RX11) 29 (by decide +kernel) (by decide +kernel), gw_in (w := .code yX11_mix cX11_mix 1 (some .int)) 463 (by decide +kernel) (by decide +kernel), by decide +kernel⟩
theorem iv_X11_mix : Cond.instanceMethod (mX11_mix).1 ∈ gw := gw_in (w := .instanceMethod yX11_mix) 461 (by decide +kernel) (by decide +kernel)
theorem vl_X11_mix : VLk mX11_mix := ⟨iv_X11_mix, gw_in (w := .selects RX11 yX11_mix yX11_mix) 462 (by decide +kernel) (by decide +kernel)⟩
theorem cl_X11_colour : CL mX11_colour 0 := ⟨gw_in (w := .initialized RX11) 29 (by decide +kernel) (by decide +kernel), gw_in (w := .code yX11_colour cX11_colour 1 (some .int)) 474 (by decide +kernel) (by decide +kernel), by decide +kernel⟩
theorem iv_X11_colour : Cond.instanceMethod (mX11_colour).1 ∈ gw := gw_in (w := .instanceMethod yX11_colour) 472 (by decide +kernel) (by decide +kernel)
theorem vl_X11_colour : VLk mX11_colour := ⟨iv_X11_colour, gw_in (w := .selects RX11 yX11_colour yX11_colour) 473 (by decide +kernel) (by decide +kernel)⟩
theorem cl_X11_span : CL mX11_span 4 := ⟨gw_in (w := .initialized RX11) 29 (by decide +kernel) (by decide +kernel), gw_in (w := .code yX11_span cX11_span 5 (some .int)) 483 (by decide +kernel) (by decide +kernel), by decide +kernel⟩
theorem iv_X11_span : Cond.instanceMethod (mX11_span).1 ∈ gw := gw_in (w := .instanceMethod yX11_span) 481 (by decide +kernel) (by decide +kernel)
theorem vl_X11_span : VLk mX11_span := ⟨iv_X11_span, gw_in (w := .selects RX11 yX11_span yX11_span) 482 (by decide +kernel) (by decide +kernel)⟩
theorem cl_X11_sure : CL mX11_sure 1 := ⟨gw_in (w := .initialized RX11) 29 (by decide +kernel) (by decide +kernel), gw_in (w := .code yX11_sure cX11_sure 2 (some .int)) 491 (by decide +kernel) (by decide +kernel), by decide +kernel⟩
theorem iv_X11_sure : Cond.instanceMethod (mX11_sure).1 ∈ gw := gw_in (w := .instanceMethod yX11_sure) 489 (by decide +kernel) (by decide +kernel)
theorem vl_X11_sure : VLk mX11_sure := ⟨iv_X11_sure, gw_in (w := .selects RX11 yX11_sure yX11_sure) 490 (by decide +kernel) (by decide +kernel)⟩
theorem cl_X11_cheapest : CL mX11_cheapest 1 := ⟨gw_in (w := .initialized RX11) 29 (by decide +kernel) (by decide +kernel), gw_in (w := .code yX11_cheapest cX11_cheapest 2 (some .int)) 505 (by decide +kernel) (by decide +kernel), by decide +kernel⟩
theorem iv_X11_cheapest : Cond.instanceMethod (mX11_cheapest).1 ∈ gw := gw_in (w := .instanceMethod yX11_cheapest) 503 (by decide +kernel) (by decide +kernel)
theorem vl_X11_cheapest : VLk mX11_cheapest := ⟨iv_X11_cheapest, gw_in (w := .selects RX11 yX11_cheapest yX11_cheapest) 504 (by decide +kernel) (by decide +kernel)⟩
theorem cl_X11_want : CL mX11_want 1 := ⟨gw_in (w := .initialized RX11) 29 (by decide +kernel) (by decide +kernel), gw_in (w := .code yX11_want cX11_want 3 (some .int)) 526 (by decide +kernel) (by decide +kernel), by decide +kernel⟩
theorem iv_X11_want : Cond.instanceMethod (mX11_want).1 ∈ gw := gw_in (w := .instanceMethod yX11_want) 524 (by decide +kernel) (by decide +kernel)
theorem vl_X11_want : VLk mX11_want := ⟨iv_X11_want, gw_in (w := .selects RX11 yX11_want yX11_want) 525 (by decide +kernel) (by decide +kernel)⟩
theorem cl_X11_hours : CL mX11_hours 1 := ⟨gw_in (w := .initialized RX11) 29 (by decide +kernel) (by decide +kernel), gw_in (w := .code yX11_hours cX11_hours 3 (some .int)) 530 (by decide +kernel) (by decide +kernel), by decide +kernel⟩
theorem iv_X11_hours : Cond.instanceMethod (mX11_hours).1 ∈ gw := gw_in (w := .instanceMethod yX11_hours) 528 (by decide +kernel) (by decide +kernel)
theorem vl_X11_hours : VLk mX11_hours := ⟨iv_X11_hours, gw_in (w := .selects RX11 yX11_hours yX11_hours) 529 (by decide +kernel) (by decide +kernel)⟩
theorem cl_X11_glass : CL mX11_glass 2 := ⟨gw_in (w := .initialized RX11) 29 (by decide +kernel) (by decide +kernel), gw_in (w := .code yX11_glass cX11_glass 3 (some .int)) 594 (by decide +kernel) (by decide +kernel), by decide +kernel⟩
theorem iv_X11_glass : Cond.instanceMethod (mX11_glass).1 ∈ gw := gw_in (w := .instanceMethod yX11_glass) 592 (by decide +kernel) (by decide +kernel)
theorem vl_X11_glass : VLk mX11_glass := ⟨iv_X11_glass, gw_in (w := .selects RX11 yX11_glass yX11_glass) 593 (by decide +kernel) (by decide +kernel)⟩
theorem cl_X11_lead : CL mX11_lead 2 := ⟨gw_in (w := .initialized RX11) 29 (by decide +kernel) (by decide +kernel), gw_in (w := .code yX11_lead cX11_lead 3 (some .int)) 602 (by decide +kernel) (by decide +kernel), by decide +kernel⟩
theorem iv_X11_lead : Cond.instanceMethod (mX11_lead).1 ∈ gw := gw_in (w := .instanceMethod yX11_lead) 600 (by decide +kernel) (by decide +kernel)
theorem vl_X11_lead : VLk mX11_lead := ⟨iv_X11_lead, gw_in (w := .selects RX11 yX11_lead yX11_lead) 601 (by decide +kernel) (by decide +kernel)⟩
theorem cl_X11_when : CL mX11_when 1 := ⟨gw_in (w := .initialized RX11) 29 (by decide +kernel) (by decide +kernel), gw_in (w := .code yX11_when cX11_when 2 (some .int)) 606 (by decide +kernel) (by decide +kernel), by decide +kernel⟩
theorem iv_X11_when : Cond.instanceMethod (mX11_when).1 ∈ gw := gw_in (w := .instanceMethod yX11_when) 604 (by decide +kernel) (by decide +kernel)
theorem vl_X11_when : VLk mX11_when := ⟨iv_X11_when, gw_in (w := .selects RX11 yX11_when yX11_when) 605 (by decide +kernel) (by decide +kernel)⟩
theorem cl_X11_between : CL mX11_between 0 := ⟨gw_in (w := .initialized RX11) 29 (by decide +kernel) (by decide +kernel), gw_in (w := .code yX11_between cX11_between 1 (some .int)) 630 (by decide +kernel) (by decide +kernel), by decide +kernel⟩
theorem iv_X11_between : Cond.instanceMethod (mX11_between).1 ∈ gw := gw_in (w := .instanceMethod yX11_between) 628 (by decide +kernel) (by decide +kernel)
theorem vl_X11_between : VLk mX11_between := ⟨iv_X11_between, gw_in (w := .selects RX11 yX11_between yX11_between) 629 (by decide +kernel) (by decide +kernel)⟩
theorem cl_X11_dose : CL mX11_dose 2 := ⟨gw_in (w := .initialized RX11) 29 (by decide +kernel) (by decide +kernel), gw_in (w := .code yX11_dose cX11_dose 3 (some .int)) 639 (by decide +kernel) (by decide +kernel), by decide +kernel⟩
theorem iv_X11_dose : Cond.instanceMethod (mX11_dose).1 ∈ gw := gw_in (w := .instanceMethod yX11_dose) 637 (by decide +kernel) (by decide +kernel)
theorem vl_X11_dose : VLk mX11_dose := ⟨iv_X11_dose, gw_in (w := .selects RX11 yX11_dose yX11_dose) 638 (by decide +kernel) (by decide +kernel)⟩
theorem cl_X11_change : CL mX11_change 3 := ⟨gw_in (w := .initialized RX11) 29 (by decide +kernel) (by decide +kernel), gw_in (w := .code yX11_change cX11_change 5 (some .int)) 649 (by decide +kernel) (by decide +kernel), by decide +kernel⟩
theorem iv_X11_change : Cond.instanceMethod (mX11_change).1 ∈ gw := gw_in (w := .instanceMethod yX11_change) 647 (by decide +kernel) (by decide +kernel)
theorem vl_X11_change : VLk mX11_change := ⟨iv_X11_change, gw_in (w := .selects RX11 yX11_change yX11_change) 648 (by decide +kernel) (by decide +kernel)⟩
theorem cl_X11_ring : CL mX11_ring 1 := ⟨gw_in (w := .initialized RX11) 29 (by decide +kernel) (by decide +kernel), gw_in (w := .code yX11_ring cX11_ring 2 (some .int)) 653 (by decide +kernel) (by decide +kernel), by decide +kernel⟩
theorem iv_X11_ring : Cond.instanceMethod (mX11_ring).1 ∈ gw := gw_in (w := .instanceMethod yX11_ring) 651 (by decide +kernel) (by decide +kernel)
theorem vl_X11_ring : VLk mX11_ring := ⟨iv_X11_ring, gw_in (w := .selects RX11 yX11_ring yX11_ring) 652 (by decide +kernel) (by decide +kernel)⟩
theorem cl_X11_next : CL mX11_next 1 := ⟨gw_in (w := .initialized RX11) 29 (by decide +kernel) (by decide +kernel), gw_in (w := .code yX11_next cX11_next 2 (some .int)) 682 (by decide +kernel) (by decide +kernel), by decide +kernel⟩
theorem iv_X11_next : Cond.instanceMethod (mX11_next).1 ∈ gw := gw_in (w := .instanceMethod yX11_next) 680 (by decide +kernel) (by decide +kernel)
theorem vl_X11_next : VLk mX11_next := ⟨iv_X11_next, gw_in (w := .selects RX11 yX11_next yX11_next) 681 (by decide +kernel) (by decide +kernel)⟩
theorem cl_X11_told : CL mX11_told 1 := ⟨gw_in (w := .initialized RX11) 29 (by decide +kernel) (by decide +kernel), gw_in (w := .code yX11_told cX11_told 2 (some .int)) 686 (by decide +kernel) (by decide +kernel), by decide +kernel⟩
theorem iv_X11_told : Cond.instanceMethod (mX11_told).1 ∈ gw := gw_in (w := .instanceMethod yX11_told) 684 (by decide +kernel) (by decide +kernel)
theorem vl_X11_told : VLk mX11_told := ⟨iv_X11_told, gw_in (w := .selects RX11 yX11_told yX11_told) 685 (by decide +kernel) (by decide +kernel)⟩
theorem cl_X11_isWithin : CL mX11_isWithin 3 := ⟨gw_in (w := .initialized RX11) 29 (by decide +kernel) (by decide +kernel), gw_in (w := .code yX11_isWithin cX11_isWithin 3 (some .boolean)) 393 (by decide +kernel) (by decide +kernel), by decide +kernel⟩
theorem sv_X11_isWithin : Cond.static (mX11_isWithin).1 ∈ gw := gw_in (w := .static yX11_isWithin) 392 (by decide +kernel) (by decide +kernel)
theorem cl_X11_isThing : CL mX11_isThing 1 := ⟨gw_in (w := .initialized RX11) 29 (by decide +kernel) (by decide +kernel), gw_in (w := .code yX11_isThing cX11_isThing 1 (some .boolean)) 451 (by decide +kernel) (by decide +kernel), by decide +kernel⟩
theorem sv_X11_isThing : Cond.static (mX11_isThing).1 ∈ gw := gw_in (w := .static yX11_isThing) 450 (by decide +kernel) (by decide +kernel)
theorem cl_X11_isMakeUp : CL mX11_isMakeUp 4 := ⟨gw_in (w := .initialized RX11) 29 (by decide +kernel) (by decide +kernel), gw_in (w := .code yX11_isMakeUp cX11_isMakeUp 4 (some .boolean)) 396 (by decide +kernel) (by decide +kernel), by decide +kernel⟩
theorem sv_X11_isMakeUp : Cond.static (mX11_isMakeUp).1 ∈ gw := gw_in (w := .static yX11_isMakeUp) 395 (by decide +kernel) (by decide +kernel)
theorem cl_X11_mostDoubt : CL mX11_mostDoubt 1 := ⟨gw_in (w := .initialized RX11) 29 (by decide +kernel) (by decide +kernel), gw_in (w := .code yX11_mostDoubt cX11_mostDoubt 1 (some .int)) 401 (by decide +kernel) (by decide +kernel), by decide +kernel⟩
theorem sv_X11_mostDoubt : Cond.static (mX11_mostDoubt).1 ∈ gw := gw_in (w := .static yX11_mostDoubt) 400 (by decide +kernel) (by decide +kernel)
theorem cl_X11_sumOf : CL mX11_sumOf 1 := ⟨gw_in (w := .initialized RX11) 29 (by decide +kernel) (by decide +kernel), gw_in (w := .code yX11_sumOf cX11_sumOf 6 (some .int)) 466 (by decide +kernel) (by decide +kernel), by decide +kernel⟩
theorem sv_X11_sumOf : Cond.static (mX11_sumOf).1 ∈ gw := gw_in (w := .static yX11_sumOf) 465 (by decide +kernel) (by decide +kernel)
theorem cl_X11_canRun : CL mX11_canRun 0 := ⟨gw_in (w := .initialized RX11) 29 (by decide +kernel) (by decide +kernel), gw_in (w := .code yX11_canRun cX11_canRun 1 (some .boolean)) 534 (by decide +kernel) (by decide +kernel), by decide +kernel⟩
theorem iv_X11_canRun : Cond.instanceMethod (mX11_canRun).1 ∈ gw := gw_in (w := .instanceMethod yX11_canRun) 533 (by decide +kernel) (by decide +kernel)
theorem vl_X11_canRun : VLk mX11_canRun := ⟨iv_X11_canRun, gw_in (w := .selects RX11 yX11_canRun yX11_canRun) 4 (by decide +kernel) (by decide +kernel)⟩
theorem cl_X11_passHour : CL mX11_passHour 0 := ⟨gw_in (w := .initialized RX11) 29 (by decide +kernel) (by decide +kernel), gw_in (w := .code yX11_passHour cX11_passHour 3 none) 548 (by decide +kernel) (by decide +kernel), by decide +kernel⟩
theorem iv_X11_passHour : Cond.instanceMethod (mX11_passHour).1 ∈ gw := gw_in (w := .instanceMethod yX11_passHour) 547 (by decide +kernel) (by decide +kernel)
theorem vl_X11_passHour : VLk mX11_passHour := ⟨iv_X11_passHour, gw_in (w := .selects RX11 yX11_passHour yX11_passHour) 5 (by decide +kernel) (by decide +kernel)⟩
theorem cl_X12_init : CL mX12_init 0 := ⟨gw_in (w := .initialized RX12) 41 (by decide +kernel) (by decide +kernel), gw_in (w := .code yX12_init cX12_init 1 none) 695 (by decide +kernel) (by decide +kernel), by decide +kernel⟩
theorem iv_X12_init : Cond.instanceMethod (mX12_init).1 ∈ gw := gw_in (w := .instanceMethod yX12_init) 694 (by decide +kernel) (by decide +kernel)
theorem cl_X12_in : CL mX12_in 3 := ⟨gw_in (w := .initialized RX12) 41 (by decide +kernel) (by decide +kernel), gw_in (w := .code yX12_in cX12_in 3 (some .boolean)) 824 (by decide +kernel) (by decide +kernel), by decide +kernel⟩
theorem sv_X12_in : Cond.static (mX12_in).1 ∈ gw := gw_in (w := .static yX12_in) 823 (by decide +kernel) (by decide +kernel)
theorem cl_X12_isFeed : CL mX12_isFeed 1 := ⟨gw_in (w := .initialized RX12) 41 (by decide +kernel) (by decide +kernel), gw_in (w := .code yX12_isFeed cX12_isFeed 2 (some .boolean)) 833 (by decide +kernel) (by decide +kernel), by decide +kernel⟩
theorem iv_X12_isFeed : Cond.instanceMethod (mX12_isFeed).1 ∈ gw := gw_in (w := .instanceMethod yX12_isFeed) 832 (by decide +kernel) (by decide +kernel)
theorem vl_X12_isFeed : VLk mX12_isFeed := ⟨iv_X12_isFeed, gw_in (w := .selects RX12 yX12_isFeed yX12_isFeed) 14 (by decide +kernel) (by decide +kernel)⟩
theorem cl_X12_isColour : CL mX12_isColour 1 := ⟨gw_in (w := .initialized RX12) 41 (by decide +kernel) (by decide +kernel), gw_in (w := .code yX12_isColour cX12_isColour 2 (some .boolean)) 880 (by decide +kernel) (by decide +kernel), by decide +kernel⟩
theorem iv_X12_isColour : Cond.instanceMethod (mX12_isColour).1 ∈ gw := gw_in (w := .instanceMethod yX12_isColour) 879 (by decide +kernel) (by decide +kernel)
theorem vl_X12_isColour : VLk mX12_isColour := ⟨iv_X12_isColour, gw_in (w := .selects RX12 yX12_isColour yX12_isColour) 17 (by decide +kernel) (by decide +kernel)⟩
theorem cl_X12_feed : CL mX12_feed 7 := ⟨gw_in (w := .initialized RX12) 41 (by decide +kernel) (by decide +kernel), gw_in (w := .code yX12_feed cX12_feed 10 (some .int)) 821 (by decide +kernel) (by decide +kernel), by decide +kernel⟩
theorem iv_X12_feed : Cond.instanceMethod (mX12_feed).1 ∈ gw := gw_in (w := .instanceMethod yX12_feed) 819 (by decide +kernel) (by decide +kernel)
theorem vl_X12_feed : VLk mX12_feed := ⟨iv_X12_feed, gw_in (w := .selects RX12 yX12_feed yX12_feed) 820 (by decide +kernel) (by decide +kernel)⟩
theorem cl_X12_stock : CL mX12_stock 2 := ⟨gw_in (w := .initialized RX12) 41 (by decide +kernel) (by decide +kernel), gw_in (w := .code yX12_stock cX12_stock 3 (some .int)) 829 (by decide +kernel) (by decide +kernel), by decide +kernel⟩
theorem iv_X12_stock : Cond.instanceMethod (mX12_stock).1 ∈ gw := gw_in (w := .instanceMethod yX12_stock) 827 (by decide +kernel) (by decide +kernel)
theorem vl_X12_stock : VLk mX12_stock := ⟨iv_X12_stock, gw_in (w := .selects RX12 yX12_stock yX12_stock) 828 (by decide +kernel) (by decide +kernel)⟩
theorem cl_X12_of : CL mX12_of 2 := ⟨gw_in (w := .initialized RX12) 41 (by decide +kernel) (by decide +kernel), gw_in (w := .code yX12_of cX12_of 3 (some .int)) 838 (by decide +kernel) (by decide +kernel), by decide +kernel⟩
theorem iv_X12_of : Cond.instanceMethod (mX12_of).1 ∈ gw := gw_in (w := .instanceMethod yX12_of) 836 (by decide +kernel) (by decide +kernel)
theorem vl_X12_of : VLk mX12_of := ⟨iv_X12_of, gw_in (w := .selects RX12 yX12_of yX12_of) 837 (by decide +kernel) (by decide +kernel)⟩
theorem cl_X12_shareOut : CL mX12_shareOut 2 := ⟨gw_in (w := .initialized RX12) 41 (by decide +kernel) (by decide +kernel), gw_in (w := .code yX12_shareOut cX12_shareOut 8 none) 851 (by decide +kernel) (by decide +kernel), by decide +kernel⟩
theorem iv_X12_shareOut : Cond.instanceMethod (mX12_shareOut).1 ∈ gw := gw_in (w := .instanceMethod yX12_shareOut) 850 (by decide +kernel) (by decide +kernel)
theorem vl_X12_shareOut : VLk mX12_shareOut := ⟨iv_X12_shareOut, gw_in (w := .selects RX12 yX12_shareOut yX12_shareOut) 16 (by decide +kernel) (by decide +kernel)⟩
theorem cl_X12_byThings : CL mX12_byThings 4 := ⟨gw_in (w := .initialized RX12) 41 (by decide +kernel) (by decide +kernel), gw_in (w := .code yX12_byThings cX12_byThings 6 none) 847 (by decide +kernel) (by decide +kernel), by decide +kernel⟩
theorem iv_X12_byThings : Cond.instanceMethod (mX12_byThings).1 ∈ gw := gw_in (w := .instanceMethod yX12_byThings) 846 (by decide +kernel) (by decide +kernel)
theorem vl_X12_byThings : VLk mX12_byThings := ⟨iv_X12_byThings, gw_in (w := .selects RX12 yX12_byThings yX12_byThings) 15 (by decide +kernel) (by decide +kernel)⟩
theorem cl_X12_tank : CL mX12_tank 4 := ⟨gw_in (w := .initialized RX12) 41 (by decide +kernel) (by decide +kernel), gw_in (w := .code yX12_tank cX12_tank 6 (some .int)) 842 (by decide +kernel) (by decide +kernel), by decide +kernel⟩
theorem iv_X12_tank : Cond.instanceMethod (mX12_tank).1 ∈ gw := gw_in (w := .instanceMethod yX12_tank) 840 (by decide +kernel) (by decide +kernel)
theorem vl_X12_tank : VLk mX12_tank := ⟨iv_X12_tank, gw_in (w := .selects RX12 yX12_tank yX12_tank) 841 (by decide +kernel) (by decide +kernel)⟩
theorem cl_X12_pull : CL mX12_pull 1 := ⟨gw_in (w := .initialized RX12) 41 (by decide +kernel) (by decide +kernel), gw_in (w := .code yX12_pull cX12_pull 3 (some .int)) 856 (by decide +kernel) (by decide +kernel), by decide +kernel⟩
theorem iv_X12_pull : Cond.instanceMethod (mX12_pull).1 ∈ gw := gw_in (w := .instanceMethod yX12_pull) 854 (by decide +kernel) (by decide +kernel)
theorem vl_X12_pull : VLk mX12_pull := ⟨iv_X12_pull, gw_in (w := .selects RX12 yX12_pull yX12_pull) 855 (by decide +kernel) (by decide +kernel)⟩
theorem cl_X12_cell : CL mX12_cell 3 := ⟨gw_in (w := .initialized RX12) 41 (by decide +kernel) (by decide +kernel), gw_in (w := .code yX12_cell cX12_cell 6 (some .int)) 860 (by decide +kernel) (by decide +kernel), by decide +kernel⟩
theorem iv_X12_cell : Cond.instanceMethod (mX12_cell).1 ∈ gw := gw_in (w := .instanceMethod yX12_cell) 858 (by decide +kernel) (by decide +kernel)
theorem vl_X12_cell : VLk mX12_cell := ⟨iv_X12_cell, gw_in (w := .selects RX12 yX12_cell yX12_cell) 859 (by decide +kernel) (by decide +kernel)⟩
theorem cl_X12_share : CL mX12_share 2 := ⟨gw_in (w := .initialized RX12) 41 (by decide +kernel) (by decide +kernel), gw_in (w := .code yX12_share cX12_share 4 (some .int)) 864 (by decide +kernel) (by decide +kernel), by decide +kernel⟩
theorem iv_X12_share : Cond.instanceMethod (mX12_share).1 ∈ gw := gw_in (w := .instanceMethod yX12_share) 862 (by decide +kernel) (by decide +kernel)
theorem vl_X12_share : VLk mX12_share := ⟨iv_X12_share, gw_in (w := .selects RX12 yX12_share yX12_share) 863 (by decide +kernel) (by decide +kernel)⟩
theorem cl_X12_mix : CL mX12_mix 0 := ⟨gw_in (w := .initialized RX12) 41 (by decide +kernel) (by decide +kernel), gw_in (w := .code yX12_mix cX12_mix 3 (some .int)) 868 (by decide +kernel) (by decide +kernel), by decide +kernel⟩
theorem iv_X12_mix : Cond.instanceMethod (mX12_mix).1 ∈ gw := gw_in (w := .instanceMethod yX12_mix) 866 (by decide +kernel) (by decide +kernel)
theorem vl_X12_mix : VLk mX12_mix := ⟨iv_X12_mix, gw_in (w := .selects RX12 yX12_mix yX12_mix) 867 (by decide +kernel) (by decide +kernel)⟩
theorem cl_X12_colour : CL mX12_colour 0 := ⟨gw_in (w := .initialized RX12) 41 (by decide +kernel) (by decide +kernel), gw_in (w := .code yX12_colour cX12_colour 2 (some .int)) 872 (by decide +kernel) (by decide +kernel), by decide +kernel⟩
theorem iv_X12_colour : Cond.instanceMethod (mX12_colour).1 ∈ gw := gw_in (w := .instanceMethod yX12_colour) 870 (by decide +kernel) (by decide +kernel)
theorem vl_X12_colour : VLk mX12_colour := ⟨iv_X12_colour, gw_in (w := .selects RX12 yX12_colour yX12_colour) 871 (by decide +kernel) (by decide +kernel)⟩
theorem cl_X12_span : CL mX12_span 4 := ⟨gw_in (w := .initialized RX12) 41 (by decide +kernel) (by decide +kernel), gw_in (w := .code yX12_span cX12_span 5 (some .int)) 876 (by decide +kernel) (by decide +kernel), by decide +kernel⟩
theorem iv_X12_span : Cond.instanceMethod (mX12_span).1 ∈ gw := gw_in (w := .instanceMethod yX12_span) 874 (by decide +kernel) (by decide +kernel)
theorem vl_X12_span : VLk mX12_span := ⟨iv_X12_span, gw_in (w := .selects RX12 yX12_span yX12_span) 875 (by decide +kernel) (by decide +kernel)⟩
theorem cl_X12_isSure : CL mX12_isSure 2 := ⟨gw_in (w := .initialized RX12) 41 (by decide +kernel) (by decide +kernel), gw_in (w := .code yX12_isSure cX12_isSure 8 (some .boolean)) 888 (by decide +kernel) (by decide +kernel), by decide +kernel⟩
theorem iv_X12_isSure : Cond.instanceMethod (mX12_isSure).1 ∈ gw := gw_in (w := .instanceMethod yX12_isSure) 887 (by decide +kernel) (by decide +kernel)
theorem vl_X12_isSure : VLk mX12_isSure := ⟨iv_X12_isSure, gw_in (w := .selects RX12 yX12_isSure yX12_isSure) 18 (by decide +kernel) (by decide +kernel)⟩
theorem cl_X12_sure : CL mX12_sure 1 := ⟨gw_in (w := .initialized RX12) 41 (by decide +kernel) (by decide +kernel), gw_in (w := .code yX12_sure cX12_sure 2 (some .int)) 884 (by decide +kernel) (by decide +kernel), by decide +kernel⟩
theorem iv_X12_sure : Cond.instanceMethod (mX12_sure).1 ∈ gw := gw_in (w := .instanceMethod yX12_sure) 882 (by decide +kernel) (by decide +kernel)
theorem vl_X12_sure : VLk mX12_sure := ⟨iv_X12_sure, gw_in (w := .selects RX12 yX12_sure yX12_sure) 883 (by decide +kernel) (by decide +kernel)⟩
theorem cl_X12_cheapest : CL mX12_cheapest 1 := ⟨gw_in (w := .initialized RX12) 41 (by decide +kernel) (by decide +kernel), gw_in (w := .code yX12_cheapest cX12_cheapest 7 (some .int)) 892 (by decide +kernel) (by decide +kernel), by decide +kernel⟩
theorem iv_X12_cheapest : Cond.instanceMethod (mX12_cheapest).1 ∈ gw := gw_in (w := .instanceMethod yX12_cheapest) 890 (by decide +kernel) (by decide +kernel)
theorem vl_X12_cheapest : VLk mX12_cheapest := ⟨iv_X12_cheapest, gw_in (w := .selects RX12 yX12_cheapest yX12_cheapest) 891 (by decide +kernel) (by decide +kernel)⟩
theorem cl_X12_want : CL mX12_want 1 := ⟨gw_in (w := .initialized RX12) 41 (by decide +kernel) (by decide +kernel), gw_in (w := .code yX12_want cX12_want 3 (some .int)) 896 (by decide +kernel) (by decide +kernel), by decide +kernel⟩
theorem iv_X12_want : Cond.instanceMethod (mX12_want).1 ∈ gw := gw_in (w := .instanceMethod yX12_want) 894 (by decide +kernel) (by decide +kernel)
theorem vl_X12_want : VLk mX12_want := ⟨iv_X12_want, gw_in (w := .selects RX12 yX12_want yX12_want) 895 (by decide +kernel) (by decide +kernel)⟩
theorem cl_X12_comes : CL mX12_comes 2 := ⟨gw_in (w := .initialized RX12) 41 (by decide +kernel) (by decide +kernel), gw_in (w := .code yX12_comes cX12_comes 5 none) 908 (by decide +kernel) (by decide +kernel), by decide +kernel⟩
theorem iv_X12_comes : Cond.instanceMethod (mX12_comes).1 ∈ gw := gw_in (w := .instanceMethod yX12_comes) 907 (by decide +kernel) (by decide +kernel)
theorem vl_X12_comes : VLk mX12_comes := ⟨iv_X12_comes, gw_in (w := .selects RX12 yX12_comes yX12_comes) 20 (by decide +kernel) (by decide +kernel)⟩
theorem cl_X12_goes : CL mX12_goes 1 := ⟨gw_in (w := .initialized RX12) 41 (by decide +kernel) (by decide +kernel), gw_in (w := .code yX12_goes cX12_goes 4 none) 913 (by decide +kernel) (by decide +kernel), by decide +kernel⟩
theorem iv_X12_goes : Cond.instanceMethod (mX12_goes).1 ∈ gw := gw_in (w := .instanceMethod yX12_goes) 912 (by decide +kernel) (by decide +kernel)
theorem vl_X12_goes : VLk mX12_goes := ⟨iv_X12_goes, gw_in (w := .selects RX12 yX12_goes yX12_goes) 21 (by decide +kernel) (by decide +kernel)⟩
theorem cl_X12_glassOf : CL mX12_glassOf 1 := ⟨gw_in (w := .initialized RX12) 41 (by decide +kernel) (by decide +kernel), gw_in (w := .code yX12_glassOf cX12_glassOf 4 (some .int)) 925 (by decide +kernel) (by decide +kernel), by decide +kernel⟩
theorem iv_X12_glassOf : Cond.instanceMethod (mX12_glassOf).1 ∈ gw := gw_in (w := .instanceMethod yX12_glassOf) 924 (by decide +kernel) (by decide +kernel)
theorem vl_X12_glassOf : VLk mX12_glassOf := ⟨iv_X12_glassOf, gw_in (w := .selects RX12 yX12_glassOf yX12_glassOf) 24 (by decide +kernel) (by decide +kernel)⟩
theorem cl_X12_isOf : CL mX12_isOf 1 := ⟨gw_in (w := .initialized RX12) 41 (by decide +kernel) (by decide +kernel), gw_in (w := .code yX12_isOf cX12_isOf 5 (some .boolean)) 921 (by decide +kernel) (by decide +kernel), by decide +kernel⟩
theorem iv_X12_isOf : Cond.instanceMethod (mX12_isOf).1 ∈ gw := gw_in (w := .instanceMethod yX12_isOf) 920 (by decide +kernel) (by decide +kernel)
theorem vl_X12_isOf : VLk mX12_isOf := ⟨iv_X12_isOf, gw_in (w := .selects RX12 yX12_isOf yX12_isOf) 23 (by decide +kernel) (by decide +kernel)⟩
theorem cl_X12_nameOf : CL mX12_nameOf 0 := ⟨gw_in (w := .initialized RX12) 41 (by decide +kernel) (by decide +kernel), gw_in (w := .code yX12_nameOf cX12_nameOf 2 (some .int)) 917 (by decide +kernel) (by decide +kernel), by decide +kernel⟩
theorem iv_X12_nameOf : Cond.instanceMethod (mX12_nameOf).1 ∈ gw := gw_in (w := .instanceMethod yX12_nameOf) 916 (by decide +kernel) (by decide +kernel)
theorem vl_X12_nameOf : VLk mX12_nameOf := ⟨iv_X12_nameOf, gw_in (w := .selects RX12 yX12_nameOf yX12_nameOf) 22 (by decide +kernel) (by decide +kernel)⟩
theorem cl_X12_goesBy : CL mX12_goesBy 0 := ⟨gw_in (w := .initialized RX12) 41 (by decide +kernel) (by decide +kernel), gw_in (w := .code yX12_goesBy cX12_goesBy 4 (some .boolean)) 904 (by decide +kernel) (by decide +kernel), by decide +kernel⟩
theorem iv_X12_goesBy : Cond.instanceMethod (mX12_goesBy).1 ∈ gw := gw_in (w := .instanceMethod yX12_goesBy) 903 (by decide +kernel) (by decide +kernel)
theorem vl_X12_goesBy : VLk mX12_goesBy := ⟨iv_X12_goesBy, gw_in (w := .selects RX12 yX12_goesBy yX12_goesBy) 19 (by decide +kernel) (by decide +kernel)⟩
theorem cl_X12_hours : CL mX12_hours 1 := ⟨gw_in (w := .initialized RX12) 41 (by decide +kernel) (by decide +kernel), gw_in (w := .code yX12_hours cX12_hours 3 (some .int)) 900 (by decide +kernel) (by decide +kernel), by decide +kernel⟩
theorem iv_X12_hours : Cond.instanceMethod (mX12_hours).1 ∈ gw := gw_in (w := .instanceMethod yX12_hours) 898 (by decide +kernel) (by decide +kernel)
theorem vl_X12_hours : VLk mX12_hours := ⟨iv_X12_hours, gw_in (w := .selects RX12 yX12_hours yX12_hours) 899 (by decide +kernel) (by decide +kernel)⟩
theorem cl_X12_isHour : CL mX12_isHour 1 := ⟨gw_in (w := .initialized RX12) 41 (by decide +kernel) (by decide +kernel), gw_in (w := .code yX12_isHour cX12_isHour 2 (some .boolean)) 933 (by decide +kernel) (by decide +kernel), by decide +kernel⟩
theorem iv_X12_isHour : Cond.instanceMethod (mX12_isHour).1 ∈ gw := gw_in (w := .instanceMethod yX12_isHour) 932 (by decide +kernel) (by decide +kernel)
theorem vl_X12_isHour : VLk mX12_isHour := ⟨iv_X12_isHour, gw_in (w := .selects RX12 yX12_isHour yX12_isHour) 25 (by decide +kernel) (by decide +kernel)⟩
theorem cl_X12_glass : CL mX12_glass 2 := ⟨gw_in (w := .initialized RX12) 41 (by decide +kernel) (by decide +kernel), gw_in (w := .code yX12_glass cX12_glass 3 (some .int)) 929 (by decide +kernel) (by decide +kernel), by decide +kernel⟩
theorem iv_X12_glass : Cond.instanceMethod (mX12_glass).1 ∈ gw := gw_in (w := .instanceMethod yX12_glass) 927 (by decide +kernel) (by decide +kernel)
theorem vl_X12_glass : VLk mX12_glass := ⟨iv_X12_glass, gw_in (w := .selects RX12 yX12_glass yX12_glass) 928 (by decide +kernel) (by decide +kernel)⟩
theorem cl_X12_lead : CL mX12_lead 2 := ⟨gw_in (w := .initialized RX12) 41 (by decide +kernel) (by decide +kernel), gw_in (w := .code yX12_lead cX12_lead 3 (some .int)) 937 (by decide +kernel) (by decide +kernel), by decide +kernel⟩
theorem iv_X12_lead : Cond.instanceMethod (mX12_lead).1 ∈ gw := gw_in (w := .instanceMethod yX12_lead) 935 (by decide +kernel) (by decide +kernel)
theorem vl_X12_lead : VLk mX12_lead := ⟨iv_X12_lead, gw_in (w := .selects RX12 yX12_lead yX12_lead) 936 (by decide +kernel) (by decide +kernel)⟩
theorem cl_X12_first : CL mX12_first 4 := ⟨gw_in (w := .initialized RX12) 41 (by decide +kernel) (by decide +kernel), gw_in (w := .code yX12_first cX12_first 6 (some .int)) 945 (by decide +kernel) (by decide +kernel), by decide +kernel⟩
theorem iv_X12_first : Cond.instanceMethod (mX12_first).1 ∈ gw := gw_in (w := .instanceMethod yX12_first) 944 (by decide +kernel) (by decide +kernel)
theorem vl_X12_first : VLk mX12_first := ⟨iv_X12_first, gw_in (w := .selects RX12 yX12_first yX12_first) 26 (by decide +kernel) (by decide +kernel)⟩
theorem cl_X12_when : CL mX12_when 1 := ⟨gw_in (w := .initialized RX12) 41 (by decide +kernel) (by decide +kernel), gw_in (w := .code yX12_when cX12_when 2 (some .int)) 941 (by decide +kernel) (by decide +kernel), by decide +kernel⟩
theorem iv_X12_when : Cond.instanceMethod (mX12_when).1 ∈ gw := gw_in (w := .instanceMethod yX12_when) 939 (by decide +kernel) (by decide +kernel)
theorem vl_X12_when : VLk mX12_when := ⟨iv_X12_when, gw_in (w := .selects RX12 yX12_when yX12_when) 940 (by decide +kernel) (by decide +kernel)⟩
theorem cl_X12_between : CL mX12_between 0 := ⟨gw_in (w := .initialized RX12) 41 (by decide +kernel) (by decide +kernel), gw_in (w := .code yX12_between cX12_between 3 (some .int)) 949 (by decide +kernel) (by decide +kernel), by decide +kernel⟩
theorem iv_X12_between : Cond.instanceMethod (mX12_between).1 ∈ gw := gw_in (w := .instanceMethod yX12_between) 947 (by decide +kernel) (by decide +kernel)
theorem vl_X12_between : VLk mX12_between := ⟨iv_X12_between, gw_in (w := .selects RX12 yX12_between yX12_between) 948 (by decide +kernel) (by decide +kernel)⟩
theorem cl_X12_dose : CL mX12_dose 2 := ⟨gw_in (w := .initialized RX12) 41 (by decide +kernel) (by decide +kernel), gw_in (w := .code yX12_dose cX12_dose 8 (some .int)) 953 (by decide +kernel) (by decide +kernel), by decide +kernel⟩
theorem iv_X12_dose : Cond.instanceMethod (mX12_dose).1 ∈ gw := gw_in (w := .instanceMethod yX12_dose) 951 (by decide +kernel) (by decide +kernel)
theorem vl_X12_dose : VLk mX12_dose := ⟨iv_X12_dose, gw_in (w := .selects RX12 yX12_dose yX12_dose) 952 (by decide +kernel) (by decide +kernel)⟩
theorem cl_X12_change : CL mX12_change 3 := ⟨gw_in (w := .initialized RX12) 41 (by decide +kernel) (by decide +kernel), gw_in (w := .code yX12_change cX12_change 5 (some .int)) 957 (by decide +kernel) (by decide +kernel), by decide +kernel⟩
theorem iv_X12_change : Cond.instanceMethod (mX12_change).1 ∈ gw := gw_in (w := .instanceMethod yX12_change) 955 (by decide +kernel) (by decide +kernel)
theorem vl_X12_change : VLk mX12_change := ⟨iv_X12_change, gw_in (w := .selects RX12 yX12_change yX12_change) 956 (by decide +kernel) (by decide +kernel)⟩
theorem cl_X12_ring : CL mX12_ring 1 := ⟨gw_in (w := .initialized RX12) 41 (by decide +kernel) (by decide +kernel), gw_in (w := .code yX12_ring cX12_ring 7 (some .int)) 961 (by decide +kernel) (by decide +kernel), by decide +kernel⟩
theorem iv_X12_ring : Cond.instanceMethod (mX12_ring).1 ∈ gw := gw_in (w := .instanceMethod yX12_ring) 959 (by decide +kernel) (by decide +kernel)
theorem vl_X12_ring : VLk mX12_ring := ⟨iv_X12_ring, gw_in (w := .selects RX12 yX12_ring yX12_ring) 960 (by decide +kernel) (by decide +kernel)⟩
theorem cl_X12_turns : CL mX12_turns 1 := ⟨gw_in (w := .initialized RX12) 41 (by decide +kernel) (by decide +kernel), gw_in (w := .code yX12_turns cX12_turns 7 (some .boolean)) 965 (by decide +kernel) (by decide +kernel), by decide +kernel⟩
theorem iv_X12_turns : Cond.instanceMethod (mX12_turns).1 ∈ gw := gw_in (w := .instanceMethod yX12_turns) 964 (by decide +kernel) (by decide +kernel)
theorem vl_X12_turns : VLk mX12_turns := ⟨iv_X12_turns, gw_in (w := .selects RX12 yX12_turns yX12_turns) 27 (by decide +kernel) (by decide +kernel)⟩
theorem cl_X12_next : CL mX12_next 1 := ⟨gw_in (w := .initialized RX12) 41 (by decide +kernel) (by decide +kernel), gw_in (w := .code yX12_next cX12_next 2 (some .int)) 969 (by decide +kernel) (by decide +kernel), by decide +kernel⟩
theorem iv_X12_next : Cond.instanceMethod (mX12_next).1 ∈ gw := gw_in (w := .instanceMethod yX12_next) 967 (by decide +kernel) (by decide +kernel)
theorem vl_X12_next : VLk mX12_next := ⟨iv_X12_next, gw_in (w := .selects RX12 yX12_next yX12_next) 968 (by decide +kernel) (by decide +kernel)⟩
theorem cl_X12_told : CL mX12_told 1 := ⟨gw_in (w := .initialized RX12) 41 (by decide +kernel) (by decide +kernel), gw_in (w := .code yX12_told cX12_told 2 (some .int)) 973 (by decide +kernel) (by decide +kernel), by decide +kernel⟩
theorem iv_X12_told : Cond.instanceMethod (mX12_told).1 ∈ gw := gw_in (w := .instanceMethod yX12_told) 971 (by decide +kernel) (by decide +kernel)
theorem vl_X12_told : VLk mX12_told := ⟨iv_X12_told, gw_in (w := .selects RX12 yX12_told yX12_told) 972 (by decide +kernel) (by decide +kernel)⟩
theorem ml_L_9 : Cond.methodLink RL 9 yX11_init ∈ gw := gw_in (w := .methodLink RL 9 yX11_init) 46 (by decide +kernel) (by decide +kernel)
theorem ml_X11_3 : Cond.methodLink RX11 3 Lib.objectInit ∈ gw := gw_in (w := .methodLink RX11 3 Lib.objectInit) 49 (by decide +kernel) (by decide +kernel)
theorem ml_X9_3 : Cond.methodLink RX9 3 Lib.objectInit ∈ gw := gw_in (w := .methodLink RX9 3 Lib.objectInit) 57 (by decide +kernel) (by decide +kernel)
theorem ml_X2_3 : Cond.methodLink RX2 3 Lib.objectInit ∈ gw := gw_in (w := .methodLink RX2 3 Lib.objectInit) 72 (by decide +kernel) (by decide +kernel)
theorem ml_X6_3 : Cond.methodLink RX6 3 Lib.objectInit ∈ gw := gw_in (w := .methodLink RX6 3 Lib.objectInit) 112 (by decide +kernel) (by decide +kernel)
theorem ml_X1_3 : Cond.methodLink RX1 3 Lib.objectInit ∈ gw := gw_in (w := .methodLink RX1 3 Lib.objectInit) 132 (by decide +kernel) (by decide +kernel)
theorem ml_X11_35 : Cond.methodLink RX11 35 yX7_init ∈ gw := gw_in (w := .methodLink RX11 35 yX7_init) 149 (by decide +kernel) (by decide +kernel)
theorem ml_X7_3 : Cond.methodLink RX7 3 Lib.objectInit ∈ gw := gw_in (w := .methodLink RX7 3 Lib.objectInit) 152 (by decide +kernel) (by decide +kernel)
theorem ml_X11_44 : Cond.methodLink RX11 44 yX10_init ∈ gw := gw_in (w := .methodLink RX11 44 yX10_init) 173 (by decide +kernel) (by decide +kernel)
theorem ml_X10_3 : Cond.methodLink RX10 3 Lib.objectInit ∈ gw := gw_in (w := .methodLink RX10 3 Lib.objectInit) 176 (by decide +kernel) (by decide +kernel)
theorem ml_X11_53 : Cond.methodLink RX11 53 yX0_init ∈ gw := gw_in (w := .methodLink RX11 53 yX0_init) 212 (by decide +kernel) (by decide +kernel)
theorem ml_X0_3 : Cond.methodLink RX0 3 Lib.objectInit ∈ gw := gw_in (w := .methodLink RX0 3 Lib.objectInit) 215 (by decide +kernel) (by decide +kernel)
theorem ml_X4_3 : Cond.methodLink RX4 3 Lib.objectInit ∈ gw := gw_in (w := .methodLink RX4 3 Lib.objectInit) 246 (by decide +kernel) (by decide +kernel)
theorem ml_X5_3 : Cond.methodLink RX5 3 Lib.objectInit ∈ gw := gw_in (w := .methodLink RX5 3 Lib.objectInit) 268 (by decide +kernel) (by decide +kernel)
theorem ml_X11_76 : Cond.methodLink RX11 76 yX3_init ∈ gw := gw_in (w := .methodLink RX11 76 yX3_init) 305 (by decide +kernel) (by decide +kernel)
theorem ml_X3_3 : Cond.methodLink RX3 3 Lib.objectInit ∈ gw := gw_in (w := .methodLink RX3 3 Lib.objectInit) 308 (by decide +kernel) (by decide +kernel)
theorem ml_X8_3 : Cond.methodLink RX8 3 Lib.objectInit ∈ gw := gw_in (w := .methodLink RX8 3 Lib.objectInit) 335 (by decide +kernel) (by decide +kernel)
theorem ml_L_13 : Cond.methodLink RL 13 yX11_feed ∈ gw := gw_in (w := .methodLink RL 13 yX11_feed) 387 (by decide +kernel) (by decide +kernel)
theorem ml_X11_94 : Cond.methodLink RX11 94 yX11_isWithin ∈ gw := gw_in (w := .methodLink RX11 94 yX11_isWithin) 391 (by decide +kernel) (by decide +kernel)
theorem ml_X11_98 : Cond.methodLink RX11 98 yX11_isMakeUp ∈ gw := gw_in (w := .methodLink RX11 98 yX11_isMakeUp) 394 (by decide +kernel) (by decide +kernel)
theorem ml_X11_103 : Cond.methodLink RX11 103 yX11_mostDoubt ∈ gw := gw_in (w := .methodLink RX11 103 yX11_mostDoubt) 399 (by decide +kernel) (by decide +kernel)
theorem ml_X11_107 : Cond.methodLink RX11 107 yX2_add ∈ gw := gw_in (w := .methodLink RX11 107 yX2_add) 402 (by decide +kernel) (by decide +kernel)
theorem ml_L_18 : Cond.methodLink RL 18 yX11_stock ∈ gw := gw_in (w := .methodLink RL 18 yX11_stock) 407 (by decide +kernel) (by decide +kernel)
theorem ml_X11_111 : Cond.methodLink RX11 111 yX2_has ∈ gw := gw_in (w := .methodLink RX11 111 yX2_has) 411 (by decide +kernel) (by decide +kernel)
theorem ml_L_23 : Cond.methodLink RL 23 yX11_of ∈ gw := gw_in (w := .methodLink RL 23 yX11_of) 416 (by decide +kernel) (by decide +kernel)
theorem ml_L_27 : Cond.methodLink RL 27 yX11_tank ∈ gw := gw_in (w := .methodLink RL 27 yX11_tank) 420 (by decide +kernel) (by decide +kernel)
theorem ml_X11_137 : Cond.methodLink RX11 137 yX10_fill ∈ gw := gw_in (w := .methodLink RX11 137 yX10_fill) 425 (by decide +kernel) (by decide +kernel)
theorem ml_X10_37 : Cond.methodLink RX10 37 yX9_split ∈ gw := gw_in (w := .methodLink RX10 37 yX9_split) 429 (by decide +kernel) (by decide +kernel)
theorem ml_X9_19 : Cond.methodLink RX9 19 yX9_giveLeft ∈ gw := gw_in (w := .methodLink RX9 19 yX9_giveLeft) 433 (by decide +kernel) (by decide +kernel)
theorem ml_X11_144 : Cond.methodLink RX11 144 yX5_clear ∈ gw := gw_in (w := .methodLink RX11 144 yX5_clear) 437 (by decide +kernel) (by decide +kernel)
theorem ml_L_32 : Cond.methodLink RL 32 yX11_pull ∈ gw := gw_in (w := .methodLink RL 32 yX11_pull) 441 (by decide +kernel) (by decide +kernel)
theorem ml_L_37 : Cond.methodLink RL 37 yX11_cell ∈ gw := gw_in (w := .methodLink RL 37 yX11_cell) 445 (by decide +kernel) (by decide +kernel)
theorem ml_X11_153 : Cond.methodLink RX11 153 yX11_isThing ∈ gw := gw_in (w := .methodLink RX11 153 yX11_isThing) 449 (by decide +kernel) (by decide +kernel)
theorem ml_X11_160 : Cond.methodLink RX11 160 yX10_gramsIn ∈ gw := gw_in (w := .methodLink RX11 160 yX10_gramsIn) 452 (by decide +kernel) (by decide +kernel)
theorem ml_L_42 : Cond.methodLink RL 42 yX11_share ∈ gw := gw_in (w := .methodLink RL 42 yX11_share) 456 (by decide +kernel) (by decide +kernel)
theorem ml_L_46 : Cond.methodLink RL 46 yX11_mix ∈ gw := gw_in (w := .methodLink RL 46 yX11_mix) 460 (by decide +kernel) (by decide +kernel)
theorem ml_X11_167 : Cond.methodLink RX11 167 yX11_sumOf ∈ gw := gw_in (w := .methodLink RX11 167 yX11_sumOf) 464 (by decide +kernel) (by decide +kernel)
theorem ml_X11_171 : Cond.methodLink RX11 171 yX6_become ∈ gw := gw_in (w := .methodLink RX11 171 yX6_become) 467 (by decide +kernel) (by decide +kernel)
theorem ml_L_51 : Cond.methodLink RL 51 yX11_colour ∈ gw := gw_in (w := .methodLink RL 51 yX11_colour) 471 (by decide +kernel) (by decide +kernel)
theorem ml_X11_175 : Cond.methodLink RX11 175 yX1_add ∈ gw := gw_in (w := .methodLink RX11 175 yX1_add) 475 (by decide +kernel) (by decide +kernel)
theorem ml_L_55 : Cond.methodLink RL 55 yX11_span ∈ gw := gw_in (w := .methodLink RL 55 yX11_span) 480 (by decide +kernel) (by decide +kernel)
theorem ml_X11_178 : Cond.methodLink RX11 178 yX1_has ∈ gw := gw_in (w := .methodLink RX11 178 yX1_has) 484 (by decide +kernel) (by decide +kernel)
theorem ml_L_59 : Cond.methodLink RL 59 yX11_sure ∈ gw := gw_in (w := .methodLink RL 59 yX11_sure) 488 (by decide +kernel) (by decide +kernel)
theorem ml_X11_186 : Cond.methodLink RX11 186 yX1_isSure ∈ gw := gw_in (w := .methodLink RX11 186 yX1_isSure) 492 (by decide +kernel) (by decide +kernel)
theorem ml_X1_46 : Cond.methodLink RX1 46 Lib.Math.max.name ∈ gw := gw_in (w := .methodLink RX1 46 Lib.Math.max.name) 496 (by decide +kernel) (by decide +kernel)
theorem ml_X1_52 : Cond.methodLink RX1 52 Lib.Math.min.name ∈ gw := gw_in (w := .methodLink RX1 52 Lib.Math.min.name) 499 (by decide +kernel) (by decide +kernel)
theorem ml_L_63 : Cond.methodLink RL 63 yX11_cheapest ∈ gw := gw_in (w := .methodLink RL 63 yX11_cheapest) 502 (by decide +kernel) (by decide +kernel)
theorem ml_X11_190 : Cond.methodLink RX11 190 yX7_find ∈ gw := gw_in (w := .methodLink RX11 190 yX7_find) 506 (by decide +kernel) (by decide +kernel)
theorem ml_X7_32 : Cond.methodLink RX7 32 yX7_costOfTrial ∈ gw := gw_in (w := .methodLink RX7 32 yX7_costOfTrial) 510 (by decide +kernel) (by decide +kernel)
theorem ml_X7_39 : Cond.methodLink RX7 39 yX1_isSure ∈ gw := gw_in (w := .methodLink RX7 39 yX1_isSure) 514 (by decide +kernel) (by decide +kernel)
theorem ml_X7_45 : Cond.methodLink RX7 45 yX7_keepTrial ∈ gw := gw_in (w := .methodLink RX7 45 yX7_keepTrial) 515 (by decide +kernel) (by decide +kernel)
theorem ml_X7_49 : Cond.methodLink RX7 49 yX7_advance ∈ gw := gw_in (w := .methodLink RX7 49 yX7_advance) 519 (by decide +kernel) (by decide +kernel)
theorem ml_L_67 : Cond.methodLink RL 67 yX11_want ∈ gw := gw_in (w := .methodLink RL 67 yX11_want) 523 (by decide +kernel) (by decide +kernel)
theorem ml_L_71 : Cond.methodLink RL 71 yX11_hours ∈ gw := gw_in (w := .methodLink RL 71 yX11_hours) 527 (by decide +kernel) (by decide +kernel)
theorem ml_X11_199 : Cond.methodLink RX11 199 yX11_canRun ∈ gw := gw_in (w := .methodLink RX11 199 yX11_canRun) 531 (by decide +kernel) (by decide +kernel)
theorem ml_X11_206 : Cond.methodLink RX11 206 yX0_measure ∈ gw := gw_in (w := .methodLink RX11 206 yX0_measure) 535 (by decide +kernel) (by decide +kernel)
theorem ml_X0_38 : Cond.methodLink RX0 38 yX2_has ∈ gw := gw_in (w := .methodLink RX0 38 yX2_has) 539 (by decide +kernel) (by decide +kernel)
theorem ml_X0_44 : Cond.methodLink RX0 44 yX9_split ∈ gw := gw_in (w := .methodLink RX0 44 yX9_split) 540 (by decide +kernel) (by decide +kernel)
theorem ml_X11_213 : Cond.methodLink RX11 213 yX2_haveAll ∈ gw := gw_in (w := .methodLink RX11 213 yX2_haveAll) 541 (by decide +kernel) (by decide +kernel)
theorem ml_X11_217 : Cond.methodLink RX11 217 yX11_passHour ∈ gw := gw_in (w := .methodLink RX11 217 yX11_passHour) 545 (by decide +kernel) (by decide +kernel)
theorem ml_X11_272 : Cond.methodLink RX11 272 yX2_takeAll ∈ gw := gw_in (w := .methodLink RX11 272 yX2_takeAll) 549 (by decide +kernel) (by decide +kernel)
theorem ml_X11_275 : Cond.methodLink RX11 275 yX10_pass ∈ gw := gw_in (w := .methodLink RX11 275 yX10_pass) 553 (by decide +kernel) (by decide +kernel)
theorem ml_X10_43 : Cond.methodLink RX10 43 arraycopyName ∈ gw := gw_in (w := .methodLink RX10 43 arraycopyName) 557 (by decide +kernel) (by decide +kernel)
theorem ml_X10_61 : Cond.methodLink RX10 61 yX10_move ∈ gw := gw_in (w := .methodLink RX10 61 yX10_move) 560 (by decide +kernel) (by decide +kernel)
theorem ml_X11_279 : Cond.methodLink RX11 279 yX4_read ∈ gw := gw_in (w := .methodLink RX11 279 yX4_read) 564 (by decide +kernel) (by decide +kernel)
theorem ml_X4_18 : Cond.methodLink RX4 18 yX10_outOfLast ∈ gw := gw_in (w := .methodLink RX4 18 yX10_outOfLast) 568 (by decide +kernel) (by decide +kernel)
theorem ml_X11_283 : Cond.methodLink RX11 283 yX1_nameOf ∈ gw := gw_in (w := .methodLink RX11 283 yX1_nameOf) 572 (by decide +kernel) (by decide +kernel)
theorem ml_X1_33 : Cond.methodLink RX1 33 yX1_fits ∈ gw := gw_in (w := .methodLink RX1 33 yX1_fits) 576 (by decide +kernel) (by decide +kernel)
theorem ml_X11_287 : Cond.methodLink RX11 287 yX5_add ∈ gw := gw_in (w := .methodLink RX11 287 yX5_add) 580 (by decide +kernel) (by decide +kernel)
theorem ml_X5_41 : Cond.methodLink RX5 41 arraycopyName ∈ gw := gw_in (w := .methodLink RX5 41 arraycopyName) 584 (by decide +kernel) (by decide +kernel)
theorem ml_X11_292 : Cond.methodLink RX11 292 yX2_takeBack ∈ gw := gw_in (w := .methodLink RX11 292 yX2_takeBack) 585 (by decide +kernel) (by decide +kernel)
theorem ml_X2_35 : Cond.methodLink RX2 35 Lib.Math.min.name ∈ gw := gw_in (w := .methodLink RX2 35 Lib.Math.min.name) 590 (by decide +kernel) (by decide +kernel)
theorem ml_L_75 : Cond.methodLink RL 75 yX11_glass ∈ gw := gw_in (w := .methodLink RL 75 yX11_glass) 591 (by decide +kernel) (by decide +kernel)
theorem ml_X11_220 : Cond.methodLink RX11 220 yX5_has ∈ gw := gw_in (w := .methodLink RX11 220 yX5_has) 595 (by decide +kernel) (by decide +kernel)
theorem ml_L_79 : Cond.methodLink RL 79 yX11_lead ∈ gw := gw_in (w := .methodLink RL 79 yX11_lead) 599 (by decide +kernel) (by decide +kernel)
theorem ml_L_83 : Cond.methodLink RL 83 yX11_when ∈ gw := gw_in (w := .methodLink RL 83 yX11_when) 603 (by decide +kernel) (by decide +kernel)
theorem ml_X11_237 : Cond.methodLink RX11 237 yX3_firstHour ∈ gw := gw_in (w := .methodLink RX11 237 yX3_firstHour) 607 (by decide +kernel) (by decide +kernel)
theorem ml_X3_42 : Cond.methodLink RX3 42 yX0_measure ∈ gw := gw_in (w := .methodLink RX3 42 yX0_measure) 611 (by decide +kernel) (by decide +kernel)
theorem ml_X3_48 : Cond.methodLink RX3 48 yX3_firstHourWithDose ∈ gw := gw_in (w := .methodLink RX3 48 yX3_firstHourWithDose) 612 (by decide +kernel) (by decide +kernel)
theorem ml_X3_52 : Cond.methodLink RX3 52 yX10_copy ∈ gw := gw_in (w := .methodLink RX3 52 yX10_copy) 616 (by decide +kernel) (by decide +kernel)
theorem ml_X3_56 : Cond.methodLink RX3 56 yX3_passHour ∈ gw := gw_in (w := .methodLink RX3 56 yX3_passHour) 620 (by decide +kernel) (by decide +kernel)
theorem ml_X3_79 : Cond.methodLink RX3 79 yX10_pass ∈ gw := gw_in (w := .methodLink RX3 79 yX10_pass) 624 (by decide +kernel) (by decide +kernel)
theorem ml_X3_82 : Cond.methodLink RX3 82 yX4_read ∈ gw := gw_in (w := .methodLink RX3 82 yX4_read) 625 (by decide +kernel) (by decide +kernel)
theorem ml_X3_71 : Cond.methodLink RX3 71 yX1_fits ∈ gw := gw_in (w := .methodLink RX3 71 yX1_fits) 626 (by decide +kernel) (by decide +kernel)
theorem ml_L_87 : Cond.methodLink RL 87 yX11_between ∈ gw := gw_in (w := .methodLink RL 87 yX11_between) 627 (by decide +kernel) (by decide +kernel)
theorem ml_X11_240 : Cond.methodLink RX11 240 yX3_hoursWithoutName ∈ gw := gw_in (w := .methodLink RX11 240 yX3_hoursWithoutName) 631 (by decide +kernel) (by decide +kernel)
theorem ml_X3_60 : Cond.methodLink RX3 60 yX1_nameOf ∈ gw := gw_in (w := .methodLink RX3 60 yX1_nameOf) 635 (by decide +kernel) (by decide +kernel)
theorem ml_L_91 : Cond.methodLink RL 91 yX11_dose ∈ gw := gw_in (w := .methodLink RL 91 yX11_dose) 636 (by decide +kernel) (by decide +kernel)
theorem ml_X11_243 : Cond.methodLink RX11 243 yX3_bestDose ∈ gw := gw_in (w := .methodLink RX11 243 yX3_bestDose) 640 (by decide +kernel) (by decide +kernel)
theorem ml_X3_66 : Cond.methodLink RX3 66 yX3_firstHour ∈ gw := gw_in (w := .methodLink RX3 66 yX3_firstHour) 644 (by decide +kernel) (by decide +kernel)
theorem ml_L_95 : Cond.methodLink RL 95 yX11_change ∈ gw := gw_in (w := .methodLink RL 95 yX11_change) 646 (by decide +kernel) (by decide +kernel)
theorem ml_L_99 : Cond.methodLink RL 99 yX11_ring ∈ gw := gw_in (w := .methodLink RL 99 yX11_ring) 650 (by decide +kernel) (by decide +kernel)
theorem ml_X11_251 : Cond.methodLink RX11 251 yX8_leastSum ∈ gw := gw_in (w := .methodLink RX11 251 yX8_leastSum) 654 (by decide +kernel) (by decide +kernel)
theorem ml_X8_23 : Cond.methodLink RX8 23 yX8_gather ∈ gw := gw_in (w := .methodLink RX8 23 yX8_gather) 658 (by decide +kernel) (by decide +kernel)
theorem ml_X8_27 : Cond.methodLink RX8 27 yX8_sumOfOrder ∈ gw := gw_in (w := .methodLink RX8 27 yX8_sumOfOrder) 662 (by decide +kernel) (by decide +kernel)
theorem ml_X8_30 : Cond.methodLink RX8 30 yX8_keepOrder ∈ gw := gw_in (w := .methodLink RX8 30 yX8_keepOrder) 666 (by decide +kernel) (by decide +kernel)
theorem ml_X8_38 : Cond.methodLink RX8 38 arraycopyName ∈ gw := gw_in (w := .methodLink RX8 38 arraycopyName) 670 (by decide +kernel) (by decide +kernel)
theorem ml_X8_34 : Cond.methodLink RX8 34 yX8_advance ∈ gw := gw_in (w := .methodLink RX8 34 yX8_advance) 671 (by decide +kernel) (by decide +kernel)
theorem ml_X8_48 : Cond.methodLink RX8 48 yX8_swap ∈ gw := gw_in (w := .methodLink RX8 48 yX8_swap) 675 (by decide +kernel) (by decide +kernel)
theorem ml_L_103 : Cond.methodLink RL 103 yX11_next ∈ gw := gw_in (w := .methodLink RL 103 yX11_next) 679 (by decide +kernel) (by decide +kernel)
theorem ml_L_107 : Cond.methodLink RL 107 yX11_told ∈ gw := gw_in (w := .methodLink RL 107 yX11_told) 683 (by decide +kernel) (by decide +kernel)
theorem ml_X11_267 : Cond.methodLink RX11 267 yX10_allGrams ∈ gw := gw_in (w := .methodLink RX11 267 yX10_allGrams) 687 (by decide +kernel) (by decide +kernel)
theorem ml_L_12 : Cond.methodLink RL 12 yX12_init ∈ gw := gw_in (w := .methodLink RL 12 yX12_init) 693 (by decide +kernel) (by decide +kernel)
theorem ml_X12_1 : Cond.methodLink RX12 1 Lib.objectInit ∈ gw := gw_in (w := .methodLink RX12 1 Lib.objectInit) 696 (by decide +kernel) (by decide +kernel)
theorem ml_L_17 : Cond.methodLink RL 17 yX12_feed ∈ gw := gw_in (w := .methodLink RL 17 yX12_feed) 818 (by decide +kernel) (by decide +kernel)
theorem ml_X12_111 : Cond.methodLink RX12 111 yX12_in ∈ gw := gw_in (w := .methodLink RX12 111 yX12_in) 822 (by decide +kernel) (by decide +kernel)
theorem ml_L_22 : Cond.methodLink RL 22 yX12_stock ∈ gw := gw_in (w := .methodLink RL 22 yX12_stock) 826 (by decide +kernel) (by decide +kernel)
theorem ml_X12_119 : Cond.methodLink RX12 119 yX12_isFeed ∈ gw := gw_in (w := .methodLink RX12 119 yX12_isFeed) 830 (by decide +kernel) (by decide +kernel)
theorem ml_L_26 : Cond.methodLink RL 26 yX12_of ∈ gw := gw_in (w := .methodLink RL 26 yX12_of) 835 (by decide +kernel) (by decide +kernel)
theorem ml_L_31 : Cond.methodLink RL 31 yX12_tank ∈ gw := gw_in (w := .methodLink RL 31 yX12_tank) 839 (by decide +kernel) (by decide +kernel)
theorem ml_X12_148 : Cond.methodLink RX12 148 yX12_byThings ∈ gw := gw_in (w := .methodLink RX12 148 yX12_byThings) 844 (by decide +kernel) (by decide +kernel)
theorem ml_X12_130 : Cond.methodLink RX12 130 yX12_shareOut ∈ gw := gw_in (w := .methodLink RX12 130 yX12_shareOut) 848 (by decide +kernel) (by decide +kernel)
theorem ml_L_36 : Cond.methodLink RL 36 yX12_pull ∈ gw := gw_in (w := .methodLink RL 36 yX12_pull) 853 (by decide +kernel) (by decide +kernel)
theorem ml_L_41 : Cond.methodLink RL 41 yX12_cell ∈ gw := gw_in (w := .methodLink RL 41 yX12_cell) 857 (by decide +kernel) (by decide +kernel)
theorem ml_L_45 : Cond.methodLink RL 45 yX12_share ∈ gw := gw_in (w := .methodLink RL 45 yX12_share) 861 (by decide +kernel) (by decide +kernel)
theorem ml_L_50 : Cond.methodLink RL 50 yX12_mix ∈ gw := gw_in (w := .methodLink RL 50 yX12_mix) 865 (by decide +kernel) (by decide +kernel)
theorem ml_L_54 : Cond.methodLink RL 54 yX12_colour ∈ gw := gw_in (w := .methodLink RL 54 yX12_colour) 869 (by decide +kernel) (by decide +kernel)
theorem ml_L_58 : Cond.methodLink RL 58 yX12_span ∈ gw := gw_in (w := .methodLink RL 58 yX12_span) 873 (by decide +kernel) (by decide +kernel)
theorem ml_X12_152 : Cond.methodLink RX12 152 yX12_isColour ∈ gw := gw_in (w := .methodLink RX12 152 yX12_isColour) 877 (by decide +kernel) (by decide +kernel)
theorem ml_L_62 : Cond.methodLink RL 62 yX12_sure ∈ gw := gw_in (w := .methodLink RL 62 yX12_sure) 881 (by decide +kernel) (by decide +kernel)
theorem ml_X12_155 : Cond.methodLink RX12 155 yX12_isSure ∈ gw := gw_in (w := .methodLink RX12 155 yX12_isSure) 885 (by decide +kernel) (by decide +kernel)
theorem ml_L_66 : Cond.methodLink RL 66 yX12_cheapest ∈ gw := gw_in (w := .methodLink RL 66 yX12_cheapest) 889 (by decide +kernel) (by decide +kernel)
theorem ml_L_70 : Cond.methodLink RL 70 yX12_want ∈ gw := gw_in (w := .methodLink RL 70 yX12_want) 893 (by decide +kernel) (by decide +kernel)
theorem ml_L_74 : Cond.methodLink RL 74 yX12_hours ∈ gw := gw_in (w := .methodLink RL 74 yX12_hours) 897 (by decide +kernel) (by decide +kernel)
theorem ml_X12_179 : Cond.methodLink RX12 179 yX12_goesBy ∈ gw := gw_in (w := .methodLink RX12 179 yX12_goesBy) 901 (by decide +kernel) (by decide +kernel)
theorem ml_X12_168 : Cond.methodLink RX12 168 yX12_comes ∈ gw := gw_in (w := .methodLink RX12 168 yX12_comes) 905 (by decide +kernel) (by decide +kernel)
theorem ml_X12_171 : Cond.methodLink RX12 171 yX12_goes ∈ gw := gw_in (w := .methodLink RX12 171 yX12_goes) 910 (by decide +kernel) (by decide +kernel)
theorem ml_X12_175 : Cond.methodLink RX12 175 yX12_nameOf ∈ gw := gw_in (w := .methodLink RX12 175 yX12_nameOf) 914 (by decide +kernel) (by decide +kernel)
theorem ml_X12_165 : Cond.methodLink RX12 165 yX12_isOf ∈ gw := gw_in (w := .methodLink RX12 165 yX12_isOf) 918 (by decide +kernel) (by decide +kernel)
theorem ml_X12_161 : Cond.methodLink RX12 161 yX12_glassOf ∈ gw := gw_in (w := .methodLink RX12 161 yX12_glassOf) 922 (by decide +kernel) (by decide +kernel)
theorem ml_L_78 : Cond.methodLink RL 78 yX12_glass ∈ gw := gw_in (w := .methodLink RL 78 yX12_glass) 926 (by decide +kernel) (by decide +kernel)
theorem ml_X12_183 : Cond.methodLink RX12 183 yX12_isHour ∈ gw := gw_in (w := .methodLink RX12 183 yX12_isHour) 930 (by decide +kernel) (by decide +kernel)
theorem ml_L_82 : Cond.methodLink RL 82 yX12_lead ∈ gw := gw_in (w := .methodLink RL 82 yX12_lead) 934 (by decide +kernel) (by decide +kernel)
theorem ml_L_86 : Cond.methodLink RL 86 yX12_when ∈ gw := gw_in (w := .methodLink RL 86 yX12_when) 938 (by decide +kernel) (by decide +kernel)
theorem ml_X12_186 : Cond.methodLink RX12 186 yX12_first ∈ gw := gw_in (w := .methodLink RX12 186 yX12_first) 942 (by decide +kernel) (by decide +kernel)
theorem ml_L_90 : Cond.methodLink RL 90 yX12_between ∈ gw := gw_in (w := .methodLink RL 90 yX12_between) 946 (by decide +kernel) (by decide +kernel)
theorem ml_L_94 : Cond.methodLink RL 94 yX12_dose ∈ gw := gw_in (w := .methodLink RL 94 yX12_dose) 950 (by decide +kernel) (by decide +kernel)
theorem ml_L_98 : Cond.methodLink RL 98 yX12_change ∈ gw := gw_in (w := .methodLink RL 98 yX12_change) 954 (by decide +kernel) (by decide +kernel)
theorem ml_L_102 : Cond.methodLink RL 102 yX12_ring ∈ gw := gw_in (w := .methodLink RL 102 yX12_ring) 958 (by decide +kernel) (by decide +kernel)
theorem ml_X12_190 : Cond.methodLink RX12 190 yX12_turns ∈ gw := gw_in (w := .methodLink RX12 190 yX12_turns) 962 (by decide +kernel) (by decide +kernel)
theorem ml_L_106 : Cond.methodLink RL 106 yX12_next ∈ gw := gw_in (w := .methodLink RL 106 yX12_next) 966 (by decide +kernel) (by decide +kernel)
theorem ml_L_110 : Cond.methodLink RL 110 yX12_told ∈ gw := gw_in (w := .methodLink RL 110 yX12_told) 970 (by decide +kernel) (by decide +kernel)
theorem nl_X11_11 : ∃ host, Cond.methodLinkNest RX11 11 yX9_init host ∈ lw_tbl := ⟨"GlassTank", List.mem_of_getElem? (i := 54) (by decide +kernel)⟩
theorem nl_X11_14 : ∃ host, Cond.methodLinkNest RX11 14 yX2_init host ∈ lw_tbl := ⟨"GlassTank", List.mem_of_getElem? (i := 69) (by decide +kernel)⟩
theorem nl_X11_21 : ∃ host, Cond.methodLinkNest RX11 21 yX6_init host ∈ lw_tbl := ⟨"GlassTank", List.mem_of_getElem? (i := 109) (by decide +kernel)⟩
theorem nl_X11_28 : ∃ host, Cond.methodLinkNest RX11 28 yX1_init host ∈ lw_tbl := ⟨"GlassTank", List.mem_of_getElem? (i := 129) (by decide +kernel)⟩
theorem nl_X11_62 : ∃ host, Cond.methodLinkNest RX11 62 yX4_init host ∈ lw_tbl := ⟨"GlassTank", List.mem_of_getElem? (i := 243) (by decide +kernel)⟩
theorem nl_X11_69 : ∃ host, Cond.methodLinkNest RX11 69 yX5_init host ∈ lw_tbl := ⟨"GlassTank", List.mem_of_getElem? (i := 265) (by decide +kernel)⟩
theorem nl_X3_11 : ∃ host, Cond.methodLinkNest RX3 11 yX4_init host ∈ lw_tbl := ⟨"GlassTank", List.mem_of_getElem? (i := 310) (by decide +kernel)⟩
theorem nl_X11_85 : ∃ host, Cond.methodLinkNest RX11 85 yX8_init host ∈ lw_tbl := ⟨"GlassTank", List.mem_of_getElem? (i := 332) (by decide +kernel)⟩
theorem fl_X9_9 : FL RX9 9 9 0 := ⟨RX9, TX9, 2, rfl, by decide, gw_in (w := .fieldLink RX9 9 (TX9 0).1 (TX9 0).2.1 (TX9 0).2.2.1) 58 (by decide +kernel) (by decide +kernel), inX9⟩
theorem pl_X9_9 : PL true RX9 9 9 0 (.array .long) := ⟨RX9, TX9, 2, tyX9, rfl, by decide, gw_in (w := .fieldLink RX9 9 (TX9 0).1 (TX9 0).2.1 (TX9 0).2.2.1) 58 (by decide +kernel) (by decide +kernel), inX9, tyX9_ok, nmX9, rfl, rfl, by decide +kernel⟩
theorem fl_X9_15 : FL RX9 15 9 1 := ⟨RX9, TX9, 2, rfl, by decide, gw_in (w := .fieldLink RX9 15 (TX9 1).1 (TX9 1).2.1 (TX9 1).2.2.1) 59 (by decide +kernel) (by decide +kernel), inX9⟩
theorem pl_X9_15 : PL true RX9 15 9 1 (.array .int) := ⟨RX9, TX9, 2, tyX9, rfl, by decide, gw_in (w := .fieldLink RX9 15 (TX9 1).1 (TX9 1).2.1 (TX9 1).2.2.1) 59 (by decide +kernel) (by decide +kernel), inX9, tyX9_ok, nmX9, rfl, rfl, by decide +kernel⟩
theorem fl_X7_26 : FL RX7 26 2 0 := ⟨RX2, TX2, 6, rfl, by decide, gw_in (w := .fieldLink RX7 26 (TX2 0).1 (TX2 0).2.1 (TX2 0).2.2.1) 75 (by decide +kernel) (by decide +kernel), inX2⟩
theorem fl_X2_29 : FL RX2 29 2 0 := ⟨RX2, TX2, 6, rfl, by decide, gw_in (w := .fieldLink RX2 29 (TX2 0).1 (TX2 0).2.1 (TX2 0).2.2.1) 76 (by decide +kernel) (by decide +kernel), inX2⟩
theorem pl_X2_29 : PL false RX2 29 2 0 .int := ⟨RX2, TX2, 6, tyX2, rfl, by decide, gw_in (w := .fieldLink RX2 29 (TX2 0).1 (TX2 0).2.1 (TX2 0).2.2.1) 76 (by decide +kernel) (by decide +kernel), inX2, tyX2_ok, nmX2, rfl, rfl, by decide +kernel⟩
theorem fl_X0_50 : FL RX0 50 2 0 := ⟨RX2, TX2, 6, rfl, by decide, gw_in (w := .fieldLink RX0 50 (TX2 0).1 (TX2 0).2.1 (TX2 0).2.2.1) 77 (by decide +kernel) (by decide +kernel), inX2⟩
theorem fl_X1_37 : FL RX1 37 2 0 := ⟨RX2, TX2, 6, rfl, by decide, gw_in (w := .fieldLink RX1 37 (TX2 0).1 (TX2 0).2.1 (TX2 0).2.2.1) 78 (by decide +kernel) (by decide +kernel), inX2⟩
theorem fl_X11_260 : FL RX11 260 2 0 := ⟨RX2, TX2, 6, rfl, by decide, gw_in (w := .fieldLink RX11 260 (TX2 0).1 (TX2 0).2.1 (TX2 0).2.2.1) 79 (by decide +kernel) (by decide +kernel), inX2⟩
theorem fl_X2_9 : FL RX2 9 2 1 := ⟨RX2, TX2, 6, rfl, by decide, gw_in (w := .fieldLink RX2 9 (TX2 1).1 (TX2 1).2.1 (TX2 1).2.2.1) 80 (by decide +kernel) (by decide +kernel), inX2⟩
theorem pl_X2_9 : PL true RX2 9 2 1 (.array .int) := ⟨RX2, TX2, 6, tyX2, rfl, by decide, gw_in (w := .fieldLink RX2 9 (TX2 1).1 (TX2 1).2.1 (TX2 1).2.2.1) 80 (by decide +kernel) (by decide +kernel), inX2, tyX2_ok, nmX2, rfl, rfl, by decide +kernel⟩
theorem fl_X11_124 : FL RX11 124 2 1 := ⟨RX2, TX2, 6, rfl, by decide, gw_in (w := .fieldLink RX11 124 (TX2 1).1 (TX2 1).2.1 (TX2 1).2.2.1) 81 (by decide +kernel) (by decide +kernel), inX2⟩
theorem fl_X2_17 : FL RX2 17 2 2 := ⟨RX2, TX2, 6, rfl, by decide, gw_in (w := .fieldLink RX2 17 (TX2 2).1 (TX2 2).2.1 (TX2 2).2.2.1) 82 (by decide +kernel) (by decide +kernel), inX2⟩
theorem pl_X2_17 : PL true RX2 17 2 2 (.array (.array .int)) := ⟨RX2, TX2, 6, tyX2, rfl, by decide, gw_in (w := .fieldLink RX2 17 (TX2 2).1 (TX2 2).2.1 (TX2 2).2.2.1) 82 (by decide +kernel) (by decide +kernel), inX2, tyX2_ok, nmX2, rfl, rfl, by decide +kernel⟩
theorem fl_X0_54 : FL RX0 54 2 2 := ⟨RX2, TX2, 6, rfl, by decide, gw_in (w := .fieldLink RX0 54 (TX2 2).1 (TX2 2).2.1 (TX2 2).2.2.1) 83 (by decide +kernel) (by decide +kernel), inX2⟩
theorem fl_X11_120 : FL RX11 120 2 2 := ⟨RX2, TX2, 6, rfl, by decide, gw_in (w := .fieldLink RX11 120 (TX2 2).1 (TX2 2).2.1 (TX2 2).2.2.1) 84 (by decide +kernel) (by decide +kernel), inX2⟩
theorem fl_X1_40 : FL RX1 40 2 2 := ⟨RX2, TX2, 6, rfl, by decide, gw_in (w := .fieldLink RX1 40 (TX2 2).1 (TX2 2).2.1 (TX2 2).2.2.1) 85 (by decide +kernel) (by decide +kernel), inX2⟩
theorem fl_X2_20 : FL RX2 20 2 3 := ⟨RX2, TX2, 6, rfl, by decide, gw_in (w := .fieldLink RX2 20 (TX2 3).1 (TX2 3).2.1 (TX2 3).2.2.1) 86 (by decide +kernel) (by decide +kernel), inX2⟩
theorem pl_X2_20 : PL true RX2 20 2 3 (.array .int) := ⟨RX2, TX2, 6, tyX2, rfl, by decide, gw_in (w := .fieldLink RX2 20 (TX2 3).1 (TX2 3).2.1 (TX2 3).2.2.1) 86 (by decide +kernel) (by decide +kernel), inX2, tyX2_ok, nmX2, rfl, rfl, by decide +kernel⟩
theorem fl_X11_127 : FL RX11 127 2 3 := ⟨RX2, TX2, 6, rfl, by decide, gw_in (w := .fieldLink RX11 127 (TX2 3).1 (TX2 3).2.1 (TX2 3).2.2.1) 87 (by decide +kernel) (by decide +kernel), inX2⟩
theorem fl_X1_43 : FL RX1 43 2 3 := ⟨RX2, TX2, 6, rfl, by decide, gw_in (w := .fieldLink RX1 43 (TX2 3).1 (TX2 3).2.1 (TX2 3).2.2.1) 88 (by decide +kernel) (by decide +kernel), inX2⟩
theorem fl_X2_23 : FL RX2 23 2 4 := ⟨RX2, TX2, 6, rfl, by decide, gw_in (w := .fieldLink RX2 23 (TX2 4).1 (TX2 4).2.1 (TX2 4).2.2.1) 89 (by decide +kernel) (by decide +kernel), inX2⟩
theorem pl_X2_23 : PL true RX2 23 2 4 (.array .int) := ⟨RX2, TX2, 6, tyX2, rfl, by decide, gw_in (w := .fieldLink RX2 23 (TX2 4).1 (TX2 4).2.1 (TX2 4).2.2.1) 89 (by decide +kernel) (by decide +kernel), inX2, tyX2_ok, nmX2, rfl, rfl, by decide +kernel⟩
theorem fl_X7_53 : FL RX7 53 2 4 := ⟨RX2, TX2, 6, rfl, by decide, gw_in (w := .fieldLink RX7 53 (TX2 4).1 (TX2 4).2.1 (TX2 4).2.2.1) 90 (by decide +kernel) (by decide +kernel), inX2⟩
theorem fl_X11_130 : FL RX11 130 2 4 := ⟨RX2, TX2, 6, rfl, by decide, gw_in (w := .fieldLink RX11 130 (TX2 4).1 (TX2 4).2.1 (TX2 4).2.2.1) 91 (by decide +kernel) (by decide +kernel), inX2⟩
theorem fl_X2_26 : FL RX2 26 2 5 := ⟨RX2, TX2, 6, rfl, by decide, gw_in (w := .fieldLink RX2 26 (TX2 5).1 (TX2 5).2.1 (TX2 5).2.2.1) 92 (by decide +kernel) (by decide +kernel), inX2⟩
theorem pl_X2_26 : PL true RX2 26 2 5 (.array .int) := ⟨RX2, TX2, 6, tyX2, rfl, by decide, gw_in (w := .fieldLink RX2 26 (TX2 5).1 (TX2 5).2.1 (TX2 5).2.2.1) 92 (by decide +kernel) (by decide +kernel), inX2, tyX2_ok, nmX2, rfl, rfl, by decide +kernel⟩
theorem fl_X11_116 : FL RX11 116 2 5 := ⟨RX2, TX2, 6, rfl, by decide, gw_in (w := .fieldLink RX11 116 (TX2 5).1 (TX2 5).2.1 (TX2 5).2.2.1) 93 (by decide +kernel) (by decide +kernel), inX2⟩
theorem fl_X6_18 : FL RX6 18 6 0 := ⟨RX6, TX6, 3, rfl, by decide, gw_in (w := .fieldLink RX6 18 (TX6 0).1 (TX6 0).2.1 (TX6 0).2.2.1) 113 (by decide +kernel) (by decide +kernel), inX6⟩
theorem pl_X6_18 : PL false RX6 18 6 0 .boolean := ⟨RX6, TX6, 3, tyX6, rfl, by decide, gw_in (w := .fieldLink RX6 18 (TX6 0).1 (TX6 0).2.1 (TX6 0).2.2.1) 113 (by decide +kernel) (by decide +kernel), inX6, tyX6_ok, nmX6, rfl, rfl, by decide +kernel⟩
theorem fl_X11_185 : FL RX11 185 6 0 := ⟨RX6, TX6, 3, rfl, by decide, gw_in (w := .fieldLink RX11 185 (TX6 0).1 (TX6 0).2.1 (TX6 0).2.2.1) 114 (by decide +kernel) (by decide +kernel), inX6⟩
theorem fl_X6_9 : FL RX6 9 6 1 := ⟨RX6, TX6, 3, rfl, by decide, gw_in (w := .fieldLink RX6 9 (TX6 1).1 (TX6 1).2.1 (TX6 1).2.2.1) 115 (by decide +kernel) (by decide +kernel), inX6⟩
theorem pl_X6_9 : PL true RX6 9 6 1 (.array .int) := ⟨RX6, TX6, 3, tyX6, rfl, by decide, gw_in (w := .fieldLink RX6 9 (TX6 1).1 (TX6 1).2.1 (TX6 1).2.2.1) 115 (by decide +kernel) (by decide +kernel), inX6, tyX6_ok, nmX6, rfl, rfl, by decide +kernel⟩
theorem fl_X0_33 : FL RX0 33 6 1 := ⟨RX6, TX6, 3, rfl, by decide, gw_in (w := .fieldLink RX0 33 (TX6 1).1 (TX6 1).2.1 (TX6 1).2.2.1) 116 (by decide +kernel) (by decide +kernel), inX6⟩
theorem fl_X11_133 : FL RX11 133 6 1 := ⟨RX6, TX6, 3, rfl, by decide, gw_in (w := .fieldLink RX11 133 (TX6 1).1 (TX6 1).2.1 (TX6 1).2.2.1) 117 (by decide +kernel) (by decide +kernel), inX6⟩
theorem fl_X6_15 : FL RX6 15 6 2 := ⟨RX6, TX6, 3, rfl, by decide, gw_in (w := .fieldLink RX6 15 (TX6 2).1 (TX6 2).2.1 (TX6 2).2.2.1) 118 (by decide +kernel) (by decide +kernel), inX6⟩
theorem pl_X6_15 : PL true RX6 15 6 2 (.array .int) := ⟨RX6, TX6, 3, tyX6, rfl, by decide, gw_in (w := .fieldLink RX6 15 (TX6 2).1 (TX6 2).2.1 (TX6 2).2.2.1) 118 (by decide +kernel) (by decide +kernel), inX6, tyX6_ok, nmX6, rfl, rfl, by decide +kernel⟩
theorem fl_X11_164 : FL RX11 164 6 2 := ⟨RX6, TX6, 3, rfl, by decide, gw_in (w := .fieldLink RX11 164 (TX6 2).1 (TX6 2).2.1 (TX6 2).2.2.1) 119 (by decide +kernel) (by decide +kernel), inX6⟩
theorem fl_X1_19 : FL RX1 19 1 0 := ⟨RX1, TX1, 3, rfl, by decide, gw_in (w := .fieldLink RX1 19 (TX1 0).1 (TX1 0).2.1 (TX1 0).2.2.1) 134 (by decide +kernel) (by decide +kernel), inX1⟩
theorem pl_X1_19 : PL false RX1 19 1 0 .int := ⟨RX1, TX1, 3, tyX1, rfl, by decide, gw_in (w := .fieldLink RX1 19 (TX1 0).1 (TX1 0).2.1 (TX1 0).2.2.1) 134 (by decide +kernel) (by decide +kernel), inX1, tyX1_ok, nmX1, rfl, rfl, by decide +kernel⟩
theorem fl_X11_250 : FL RX11 250 1 0 := ⟨RX1, TX1, 3, rfl, by decide, gw_in (w := .fieldLink RX11 250 (TX1 0).1 (TX1 0).2.1 (TX1 0).2.2.1) 135 (by decide +kernel) (by decide +kernel), inX1⟩
theorem fl_X1_11 : FL RX1 11 1 1 := ⟨RX1, TX1, 3, rfl, by decide, gw_in (w := .fieldLink RX1 11 (TX1 1).1 (TX1 1).2.1 (TX1 1).2.2.1) 136 (by decide +kernel) (by decide +kernel), inX1⟩
theorem pl_X1_11 : PL true RX1 11 1 1 (.array (.array .int)) := ⟨RX1, TX1, 3, tyX1, rfl, by decide, gw_in (w := .fieldLink RX1 11 (TX1 1).1 (TX1 1).2.1 (TX1 1).2.2.1) 136 (by decide +kernel) (by decide +kernel), inX1, tyX1_ok, nmX1, rfl, rfl, by decide +kernel⟩
theorem fl_X11_179 : FL RX11 179 1 1 := ⟨RX1, TX1, 3, rfl, by decide, gw_in (w := .fieldLink RX11 179 (TX1 1).1 (TX1 1).2.1 (TX1 1).2.2.1) 137 (by decide +kernel) (by decide +kernel), inX1⟩
theorem fl_X1_16 : FL RX1 16 1 2 := ⟨RX1, TX1, 3, rfl, by decide, gw_in (w := .fieldLink RX1 16 (TX1 2).1 (TX1 2).2.1 (TX1 2).2.2.1) 138 (by decide +kernel) (by decide +kernel), inX1⟩
theorem pl_X1_16 : PL true RX1 16 1 2 (.array (.array .int)) := ⟨RX1, TX1, 3, tyX1, rfl, by decide, gw_in (w := .fieldLink RX1 16 (TX1 2).1 (TX1 2).2.1 (TX1 2).2.2.1) 138 (by decide +kernel) (by decide +kernel), inX1, tyX1_ok, nmX1, rfl, rfl, by decide +kernel⟩
theorem fl_X11_182 : FL RX11 182 1 2 := ⟨RX1, TX1, 3, rfl, by decide, gw_in (w := .fieldLink RX11 182 (TX1 2).1 (TX1 2).2.1 (TX1 2).2.2.1) 139 (by decide +kernel) (by decide +kernel), inX1⟩
theorem fl_X7_18 : FL RX7 18 7 0 := ⟨RX7, TX7, 5, rfl, by decide, gw_in (w := .fieldLink RX7 18 (TX7 0).1 (TX7 0).2.1 (TX7 0).2.2.1) 153 (by decide +kernel) (by decide +kernel), inX7⟩
theorem pl_X7_18 : PL true RX7 18 7 0 (.object "GlassTank$Feeds") := ⟨RX7, TX7, 5, tyX7, rfl, by decide, gw_in (w := .fieldLink RX7 18 (TX7 0).1 (TX7 0).2.1 (TX7 0).2.2.1) 153 (by decide +kernel) (by decide +kernel), inX7, tyX7_ok, nmX7, rfl, rfl, by decide +kernel⟩
theorem fl_X7_22 : FL RX7 22 7 1 := ⟨RX7, TX7, 5, rfl, by decide, gw_in (w := .fieldLink RX7 22 (TX7 1).1 (TX7 1).2.1 (TX7 1).2.2.1) 154 (by decide +kernel) (by decide +kernel), inX7⟩
theorem pl_X7_22 : PL true RX7 22 7 1 (.object "GlassTank$Colours") := ⟨RX7, TX7, 5, tyX7, rfl, by decide, gw_in (w := .fieldLink RX7 22 (TX7 1).1 (TX7 1).2.1 (TX7 1).2.2.1) 154 (by decide +kernel) (by decide +kernel), inX7, tyX7_ok, nmX7, rfl, rfl, by decide +kernel⟩
theorem fl_X7_9 : FL RX7 9 7 2 := ⟨RX7, TX7, 5, rfl, by decide, gw_in (w := .fieldLink RX7 9 (TX7 2).1 (TX7 2).2.1 (TX7 2).2.2.1) 155 (by decide +kernel) (by decide +kernel), inX7⟩
theorem pl_X7_9 : PL true RX7 9 7 2 (.array .int) := ⟨RX7, TX7, 5, tyX7, rfl, by decide, gw_in (w := .fieldLink RX7 9 (TX7 2).1 (TX7 2).2.1 (TX7 2).2.2.1) 155 (by decide +kernel) (by decide +kernel), inX7, tyX7_ok, nmX7, rfl, rfl, by decide +kernel⟩
theorem fl_X7_15 : FL RX7 15 7 3 := ⟨RX7, TX7, 5, rfl, by decide, gw_in (w := .fieldLink RX7 15 (TX7 3).1 (TX7 3).2.1 (TX7 3).2.2.1) 156 (by decide +kernel) (by decide +kernel), inX7⟩
theorem pl_X7_15 : PL true RX7 15 7 3 (.array .int) := ⟨RX7, TX7, 5, tyX7, rfl, by decide, gw_in (w := .fieldLink RX7 15 (TX7 3).1 (TX7 3).2.1 (TX7 3).2.2.1) 156 (by decide +kernel) (by decide +kernel), inX7, tyX7_ok, nmX7, rfl, rfl, by decide +kernel⟩
theorem fl_X11_193 : FL RX11 193 7 3 := ⟨RX7, TX7, 5, rfl, by decide, gw_in (w := .fieldLink RX11 193 (TX7 3).1 (TX7 3).2.1 (TX7 3).2.2.1) 157 (by decide +kernel) (by decide +kernel), inX7⟩
theorem fl_X7_36 : FL RX7 36 7 4 := ⟨RX7, TX7, 5, rfl, by decide, gw_in (w := .fieldLink RX7 36 (TX7 4).1 (TX7 4).2.1 (TX7 4).2.2.1) 158 (by decide +kernel) (by decide +kernel), inX7⟩
theorem pl_X7_36 : PL false RX7 36 7 4 .int := ⟨RX7, TX7, 5, tyX7, rfl, by decide, gw_in (w := .fieldLink RX7 36 (TX7 4).1 (TX7 4).2.1 (TX7 4).2.2.1) 158 (by decide +kernel) (by decide +kernel), inX7, tyX7_ok, nmX7, rfl, rfl, by decide +kernel⟩
theorem fl_X11_196 : FL RX11 196 7 4 := ⟨RX7, TX7, 5, rfl, by decide, gw_in (w := .fieldLink RX11 196 (TX7 4).1 (TX7 4).2.1 (TX7 4).2.2.1) 159 (by decide +kernel) (by decide +kernel), inX7⟩
theorem fl_X10_29 : FL RX10 29 10 0 := ⟨RX10, TX10, 8, rfl, by decide, gw_in (w := .fieldLink RX10 29 (TX10 0).1 (TX10 0).2.1 (TX10 0).2.2.1) 178 (by decide +kernel) (by decide +kernel), inX10⟩
theorem pl_X10_29 : PL true RX10 29 10 0 (.object "GlassTank$Sharer") := ⟨RX10, TX10, 8, tyX10, rfl, by decide, gw_in (w := .fieldLink RX10 29 (TX10 0).1 (TX10 0).2.1 (TX10 0).2.2.1) 178 (by decide +kernel) (by decide +kernel), inX10, tyX10_ok, nmX10, rfl, rfl, by decide +kernel⟩
theorem fl_X10_11 : FL RX10 11 10 1 := ⟨RX10, TX10, 8, rfl, by decide, gw_in (w := .fieldLink RX10 11 (TX10 1).1 (TX10 1).2.1 (TX10 1).2.2.1) 179 (by decide +kernel) (by decide +kernel), inX10⟩
theorem pl_X10_11 : PL true RX10 11 10 1 (.array (.array .int)) := ⟨RX10, TX10, 8, tyX10, rfl, by decide, gw_in (w := .fieldLink RX10 11 (TX10 1).1 (TX10 1).2.1 (TX10 1).2.2.1) 179 (by decide +kernel) (by decide +kernel), inX10, tyX10_ok, nmX10, rfl, rfl, by decide +kernel⟩
theorem fl_X10_16 : FL RX10 16 10 2 := ⟨RX10, TX10, 8, rfl, by decide, gw_in (w := .fieldLink RX10 16 (TX10 2).1 (TX10 2).2.1 (TX10 2).2.2.1) 180 (by decide +kernel) (by decide +kernel), inX10⟩
theorem pl_X10_16 : PL true RX10 16 10 2 (.array (.array .int)) := ⟨RX10, TX10, 8, tyX10, rfl, by decide, gw_in (w := .fieldLink RX10 16 (TX10 2).1 (TX10 2).2.1 (TX10 2).2.2.1) 180 (by decide +kernel) (by decide +kernel), inX10, tyX10_ok, nmX10, rfl, rfl, by decide +kernel⟩
theorem fl_X10_33 : FL RX10 33 10 3 := ⟨RX10, TX10, 8, rfl, by decide, gw_in (w := .fieldLink RX10 33 (TX10 3).1 (TX10 3).2.1 (TX10 3).2.2.1) 181 (by decide +kernel) (by decide +kernel), inX10⟩
theorem pl_X10_33 : PL false RX10 33 10 3 .boolean := ⟨RX10, TX10, 8, tyX10, rfl, by decide, gw_in (w := .fieldLink RX10 33 (TX10 3).1 (TX10 3).2.1 (TX10 3).2.2.1) 181 (by decide +kernel) (by decide +kernel), inX10, tyX10_ok, nmX10, rfl, rfl, by decide +kernel⟩
theorem fl_X11_156 : FL RX11 156 10 3 := ⟨RX10, TX10, 8, rfl, by decide, gw_in (w := .fieldLink RX11 156 (TX10 3).1 (TX10 3).2.1 (TX10 3).2.2.1) 182 (by decide +kernel) (by decide +kernel), inX10⟩
theorem fl_X10_19 : FL RX10 19 10 4 := ⟨RX10, TX10, 8, rfl, by decide, gw_in (w := .fieldLink RX10 19 (TX10 4).1 (TX10 4).2.1 (TX10 4).2.2.1) 183 (by decide +kernel) (by decide +kernel), inX10⟩
theorem pl_X10_19 : PL false RX10 19 10 4 .int := ⟨RX10, TX10, 8, tyX10, rfl, by decide, gw_in (w := .fieldLink RX10 19 (TX10 4).1 (TX10 4).2.1 (TX10 4).2.2.1) 183 (by decide +kernel) (by decide +kernel), inX10, tyX10_ok, nmX10, rfl, rfl, by decide +kernel⟩
theorem fl_X11_150 : FL RX11 150 10 4 := ⟨RX10, TX10, 8, rfl, by decide, gw_in (w := .fieldLink RX11 150 (TX10 4).1 (TX10 4).2.1 (TX10 4).2.2.1) 184 (by decide +kernel) (by decide +kernel), inX10⟩
theorem fl_X10_23 : FL RX10 23 10 5 := ⟨RX10, TX10, 8, rfl, by decide, gw_in (w := .fieldLink RX10 23 (TX10 5).1 (TX10 5).2.1 (TX10 5).2.2.1) 185 (by decide +kernel) (by decide +kernel), inX10⟩
theorem pl_X10_23 : PL false RX10 23 10 5 .int := ⟨RX10, TX10, 8, tyX10, rfl, by decide, gw_in (w := .fieldLink RX10 23 (TX10 5).1 (TX10 5).2.1 (TX10 5).2.2.1) 185 (by decide +kernel) (by decide +kernel), inX10, tyX10_ok, nmX10, rfl, rfl, by decide +kernel⟩
theorem fl_X11_147 : FL RX11 147 10 5 := ⟨RX10, TX10, 8, rfl, by decide, gw_in (w := .fieldLink RX11 147 (TX10 5).1 (TX10 5).2.1 (TX10 5).2.2.1) 186 (by decide +kernel) (by decide +kernel), inX10⟩
theorem fl_X10_26 : FL RX10 26 10 6 := ⟨RX10, TX10, 8, rfl, by decide, gw_in (w := .fieldLink RX10 26 (TX10 6).1 (TX10 6).2.1 (TX10 6).2.2.1) 187 (by decide +kernel) (by decide +kernel), inX10⟩
theorem pl_X10_26 : PL false RX10 26 10 6 .int := ⟨RX10, TX10, 8, tyX10, rfl, by decide, gw_in (w := .fieldLink RX10 26 (TX10 6).1 (TX10 6).2.1 (TX10 6).2.2.1) 187 (by decide +kernel) (by decide +kernel), inX10, tyX10_ok, nmX10, rfl, rfl, by decide +kernel⟩
theorem fl_X3_36 : FL RX3 36 10 6 := ⟨RX10, TX10, 8, rfl, by decide, gw_in (w := .fieldLink RX3 36 (TX10 6).1 (TX10 6).2.1 (TX10 6).2.2.1) 188 (by decide +kernel) (by decide +kernel), inX10⟩
theorem fl_X4_24 : FL RX4 24 10 6 := ⟨RX10, TX10, 8, rfl, by decide, gw_in (w := .fieldLink RX4 24 (TX10 6).1 (TX10 6).2.1 (TX10 6).2.2.1) 189 (by decide +kernel) (by decide +kernel), inX10⟩
theorem fl_X11_141 : FL RX11 141 10 6 := ⟨RX10, TX10, 8, rfl, by decide, gw_in (w := .fieldLink RX11 141 (TX10 6).1 (TX10 6).2.1 (TX10 6).2.2.1) 190 (by decide +kernel) (by decide +kernel), inX10⟩
theorem pl_X11_141 : PL false RX11 141 10 6 .int := ⟨RX10, TX10, 8, tyX10, rfl, by decide, gw_in (w := .fieldLink RX11 141 (TX10 6).1 (TX10 6).2.1 (TX10 6).2.2.1) 190 (by decide +kernel) (by decide +kernel), inX10, tyX10_ok, nmX10, rfl, rfl, by decide +kernel⟩
theorem fl_X10_58 : FL RX10 58 10 7 := ⟨RX10, TX10, 8, rfl, by decide, gw_in (w := .fieldLink RX10 58 (TX10 7).1 (TX10 7).2.1 (TX10 7).2.2.1) 191 (by decide +kernel) (by decide +kernel), inX10⟩
theorem pl_X10_58 : PL false RX10 58 10 7 .boolean := ⟨RX10, TX10, 8, tyX10, rfl, by decide, gw_in (w := .fieldLink RX10 58 (TX10 7).1 (TX10 7).2.1 (TX10 7).2.2.1) 191 (by decide +kernel) (by decide +kernel), inX10, tyX10_ok, nmX10, rfl, rfl, by decide +kernel⟩
theorem fl_X3_75 : FL RX3 75 10 7 := ⟨RX10, TX10, 8, rfl, by decide, gw_in (w := .fieldLink RX3 75 (TX10 7).1 (TX10 7).2.1 (TX10 7).2.2.1) 192 (by decide +kernel) (by decide +kernel), inX10⟩
theorem fl_X0_21 : FL RX0 21 0 0 := ⟨RX0, TX0, 7, rfl, by decide, gw_in (w := .fieldLink RX0 21 (TX0 0).1 (TX0 0).2.1 (TX0 0).2.2.1) 216 (by decide +kernel) (by decide +kernel), inX0⟩
theorem pl_X0_21 : PL true RX0 21 0 0 (.object "GlassTank$Feeds") := ⟨RX0, TX0, 7, tyX0, rfl, by decide, gw_in (w := .fieldLink RX0 21 (TX0 0).1 (TX0 0).2.1 (TX0 0).2.2.1) 216 (by decide +kernel) (by decide +kernel), inX0, tyX0_ok, nmX0, rfl, rfl, by decide +kernel⟩
theorem fl_X0_25 : FL RX0 25 0 1 := ⟨RX0, TX0, 7, rfl, by decide, gw_in (w := .fieldLink RX0 25 (TX0 1).1 (TX0 1).2.1 (TX0 1).2.2.1) 217 (by decide +kernel) (by decide +kernel), inX0⟩
theorem pl_X0_25 : PL true RX0 25 0 1 (.object "GlassTank$Mix") := ⟨RX0, TX0, 7, tyX0, rfl, by decide, gw_in (w := .fieldLink RX0 25 (TX0 1).1 (TX0 1).2.1 (TX0 1).2.2.1) 217 (by decide +kernel) (by decide +kernel), inX0, tyX0_ok, nmX0, rfl, rfl, by decide +kernel⟩
theorem fl_X0_29 : FL RX0 29 0 2 := ⟨RX0, TX0, 7, rfl, by decide, gw_in (w := .fieldLink RX0 29 (TX0 2).1 (TX0 2).2.1 (TX0 2).2.2.1) 218 (by decide +kernel) (by decide +kernel), inX0⟩
theorem pl_X0_29 : PL true RX0 29 0 2 (.object "GlassTank$Sharer") := ⟨RX0, TX0, 7, tyX0, rfl, by decide, gw_in (w := .fieldLink RX0 29 (TX0 2).1 (TX0 2).2.1 (TX0 2).2.2.1) 218 (by decide +kernel) (by decide +kernel), inX0, tyX0_ok, nmX0, rfl, rfl, by decide +kernel⟩
theorem fl_X0_9 : FL RX0 9 0 3 := ⟨RX0, TX0, 7, rfl, by decide, gw_in (w := .fieldLink RX0 9 (TX0 3).1 (TX0 3).2.1 (TX0 3).2.2.1) 219 (by decide +kernel) (by decide +kernel), inX0⟩
theorem pl_X0_9 : PL true RX0 9 0 3 (.array .int) := ⟨RX0, TX0, 7, tyX0, rfl, by decide, gw_in (w := .fieldLink RX0 9 (TX0 3).1 (TX0 3).2.1 (TX0 3).2.2.1) 219 (by decide +kernel) (by decide +kernel), inX0, tyX0_ok, nmX0, rfl, rfl, by decide +kernel⟩
theorem fl_X0_15 : FL RX0 15 0 4 := ⟨RX0, TX0, 7, rfl, by decide, gw_in (w := .fieldLink RX0 15 (TX0 4).1 (TX0 4).2.1 (TX0 4).2.2.1) 220 (by decide +kernel) (by decide +kernel), inX0⟩
theorem pl_X0_15 : PL true RX0 15 0 4 (.array .int) := ⟨RX0, TX0, 7, tyX0, rfl, by decide, gw_in (w := .fieldLink RX0 15 (TX0 4).1 (TX0 4).2.1 (TX0 4).2.2.1) 220 (by decide +kernel) (by decide +kernel), inX0, tyX0_ok, nmX0, rfl, rfl, by decide +kernel⟩
theorem fl_X11_210 : FL RX11 210 0 4 := ⟨RX0, TX0, 7, rfl, by decide, gw_in (w := .fieldLink RX11 210 (TX0 4).1 (TX0 4).2.1 (TX0 4).2.2.1) 221 (by decide +kernel) (by decide +kernel), inX0⟩
theorem fl_X0_18 : FL RX0 18 0 5 := ⟨RX0, TX0, 7, rfl, by decide, gw_in (w := .fieldLink RX0 18 (TX0 5).1 (TX0 5).2.1 (TX0 5).2.2.1) 222 (by decide +kernel) (by decide +kernel), inX0⟩
theorem pl_X0_18 : PL true RX0 18 0 5 (.array .int) := ⟨RX0, TX0, 7, tyX0, rfl, by decide, gw_in (w := .fieldLink RX0 18 (TX0 5).1 (TX0 5).2.1 (TX0 5).2.2.1) 222 (by decide +kernel) (by decide +kernel), inX0, tyX0_ok, nmX0, rfl, rfl, by decide +kernel⟩
theorem fl_X10_49 : FL RX10 49 0 5 := ⟨RX0, TX0, 7, rfl, by decide, gw_in (w := .fieldLink RX10 49 (TX0 5).1 (TX0 5).2.1 (TX0 5).2.2.1) 223 (by decide +kernel) (by decide +kernel), inX0⟩
theorem fl_X0_58 : FL RX0 58 0 6 := ⟨RX0, TX0, 7, rfl, by decide, gw_in (w := .fieldLink RX0 58 (TX0 6).1 (TX0 6).2.1 (TX0 6).2.2.1) 224 (by decide +kernel) (by decide +kernel), inX0⟩
theorem pl_X0_58 : PL false RX0 58 0 6 .int := ⟨RX0, TX0, 7, tyX0, rfl, by decide, gw_in (w := .fieldLink RX0 58 (TX0 6).1 (TX0 6).2.1 (TX0 6).2.2.1) 224 (by decide +kernel) (by decide +kernel), inX0, tyX0_ok, nmX0, rfl, rfl, by decide +kernel⟩
theorem fl_X10_55 : FL RX10 55 0 6 := ⟨RX0, TX0, 7, rfl, by decide, gw_in (w := .fieldLink RX10 55 (TX0 6).1 (TX0 6).2.1 (TX0 6).2.2.1) 225 (by decide +kernel) (by decide +kernel), inX0⟩
theorem fl_X4_9 : FL RX4 9 4 0 := ⟨RX4, TX4, 3, rfl, by decide, gw_in (w := .fieldLink RX4 9 (TX4 0).1 (TX4 0).2.1 (TX4 0).2.2.1) 247 (by decide +kernel) (by decide +kernel), inX4⟩
theorem pl_X4_9 : PL true RX4 9 4 0 (.array .int) := ⟨RX4, TX4, 3, tyX4, rfl, by decide, gw_in (w := .fieldLink RX4 9 (TX4 0).1 (TX4 0).2.1 (TX4 0).2.2.1) 247 (by decide +kernel) (by decide +kernel), inX4, tyX4_ok, nmX4, rfl, rfl, by decide +kernel⟩
theorem fl_X1_24 : FL RX1 24 4 0 := ⟨RX4, TX4, 3, rfl, by decide, gw_in (w := .fieldLink RX1 24 (TX4 0).1 (TX4 0).2.1 (TX4 0).2.2.1) 248 (by decide +kernel) (by decide +kernel), inX4⟩
theorem fl_X5_38 : FL RX5 38 4 0 := ⟨RX4, TX4, 3, rfl, by decide, gw_in (w := .fieldLink RX5 38 (TX4 0).1 (TX4 0).2.1 (TX4 0).2.2.1) 249 (by decide +kernel) (by decide +kernel), inX4⟩
theorem fl_X4_15 : FL RX4 15 4 1 := ⟨RX4, TX4, 3, rfl, by decide, gw_in (w := .fieldLink RX4 15 (TX4 1).1 (TX4 1).2.1 (TX4 1).2.2.1) 250 (by decide +kernel) (by decide +kernel), inX4⟩
theorem pl_X4_15 : PL true RX4 15 4 1 (.array .int) := ⟨RX4, TX4, 3, tyX4, rfl, by decide, gw_in (w := .fieldLink RX4 15 (TX4 1).1 (TX4 1).2.1 (TX4 1).2.2.1) 250 (by decide +kernel) (by decide +kernel), inX4, tyX4_ok, nmX4, rfl, rfl, by decide +kernel⟩
theorem fl_X5_47 : FL RX5 47 4 1 := ⟨RX4, TX4, 3, rfl, by decide, gw_in (w := .fieldLink RX5 47 (TX4 1).1 (TX4 1).2.1 (TX4 1).2.2.1) 251 (by decide +kernel) (by decide +kernel), inX4⟩
theorem fl_X4_28 : FL RX4 28 4 2 := ⟨RX4, TX4, 3, rfl, by decide, gw_in (w := .fieldLink RX4 28 (TX4 2).1 (TX4 2).2.1 (TX4 2).2.2.1) 252 (by decide +kernel) (by decide +kernel), inX4⟩
theorem pl_X4_28 : PL false RX4 28 4 2 .int := ⟨RX4, TX4, 3, tyX4, rfl, by decide, gw_in (w := .fieldLink RX4 28 (TX4 2).1 (TX4 2).2.1 (TX4 2).2.2.1) 252 (by decide +kernel) (by decide +kernel), inX4, tyX4_ok, nmX4, rfl, rfl, by decide +kernel⟩
theorem fl_X1_30 : FL RX1 30 4 2 := ⟨RX4, TX4, 3, rfl, by decide, gw_in (w := .fieldLink RX1 30 (TX4 2).1 (TX4 2).2.1 (TX4 2).2.2.1) 253 (by decide +kernel) (by decide +kernel), inX4⟩
theorem fl_X5_48 : FL RX5 48 4 2 := ⟨RX4, TX4, 3, rfl, by decide, gw_in (w := .fieldLink RX5 48 (TX4 2).1 (TX4 2).2.1 (TX4 2).2.2.1) 254 (by decide +kernel) (by decide +kernel), inX4⟩
theorem fl_X11_290 : FL RX11 290 4 2 := ⟨RX4, TX4, 3, rfl, by decide, gw_in (w := .fieldLink RX11 290 (TX4 2).1 (TX4 2).2.1 (TX4 2).2.2.1) 255 (by decide +kernel) (by decide +kernel), inX4⟩
theorem fl_X5_28 : FL RX5 28 5 0 := ⟨RX5, TX5, 8, rfl, by decide, gw_in (w := .fieldLink RX5 28 (TX5 0).1 (TX5 0).2.1 (TX5 0).2.2.1) 269 (by decide +kernel) (by decide +kernel), inX5⟩
theorem pl_X5_28 : PL false RX5 28 5 0 .int := ⟨RX5, TX5, 8, tyX5, rfl, by decide, gw_in (w := .fieldLink RX5 28 (TX5 0).1 (TX5 0).2.1 (TX5 0).2.2.1) 269 (by decide +kernel) (by decide +kernel), inX5, tyX5_ok, nmX5, rfl, rfl, by decide +kernel⟩
theorem fl_X11_203 : FL RX11 203 5 0 := ⟨RX5, TX5, 8, rfl, by decide, gw_in (w := .fieldLink RX11 203 (TX5 0).1 (TX5 0).2.1 (TX5 0).2.2.1) 270 (by decide +kernel) (by decide +kernel), inX5⟩
theorem fl_X5_32 : FL RX5 32 5 1 := ⟨RX5, TX5, 8, rfl, by decide, gw_in (w := .fieldLink RX5 32 (TX5 1).1 (TX5 1).2.1 (TX5 1).2.2.1) 271 (by decide +kernel) (by decide +kernel), inX5⟩
theorem pl_X5_32 : PL false RX5 32 5 1 .int := ⟨RX5, TX5, 8, tyX5, rfl, by decide, gw_in (w := .fieldLink RX5 32 (TX5 1).1 (TX5 1).2.1 (TX5 1).2.2.1) 271 (by decide +kernel) (by decide +kernel), inX5, tyX5_ok, nmX5, rfl, rfl, by decide +kernel⟩
theorem fl_X11_261 : FL RX11 261 5 1 := ⟨RX5, TX5, 8, rfl, by decide, gw_in (w := .fieldLink RX11 261 (TX5 1).1 (TX5 1).2.1 (TX5 1).2.2.1) 272 (by decide +kernel) (by decide +kernel), inX5⟩
theorem fl_X5_35 : FL RX5 35 5 2 := ⟨RX5, TX5, 8, rfl, by decide, gw_in (w := .fieldLink RX5 35 (TX5 2).1 (TX5 2).2.1 (TX5 2).2.2.1) 273 (by decide +kernel) (by decide +kernel), inX5⟩
theorem pl_X5_35 : PL false RX5 35 5 2 .int := ⟨RX5, TX5, 8, tyX5, rfl, by decide, gw_in (w := .fieldLink RX5 35 (TX5 2).1 (TX5 2).2.1 (TX5 2).2.2.1) 273 (by decide +kernel) (by decide +kernel), inX5, tyX5_ok, nmX5, rfl, rfl, by decide +kernel⟩
theorem fl_X11_264 : FL RX11 264 5 2 := ⟨RX5, TX5, 8, rfl, by decide, gw_in (w := .fieldLink RX11 264 (TX5 2).1 (TX5 2).2.1 (TX5 2).2.2.1) 274 (by decide +kernel) (by decide +kernel), inX5⟩
theorem fl_X5_9 : FL RX5 9 5 3 := ⟨RX5, TX5, 8, rfl, by decide, gw_in (w := .fieldLink RX5 9 (TX5 3).1 (TX5 3).2.1 (TX5 3).2.2.1) 275 (by decide +kernel) (by decide +kernel), inX5⟩
theorem pl_X5_9 : PL true RX5 9 5 3 (.array .int) := ⟨RX5, TX5, 8, tyX5, rfl, by decide, gw_in (w := .fieldLink RX5 9 (TX5 3).1 (TX5 3).2.1 (TX5 3).2.2.1) 275 (by decide +kernel) (by decide +kernel), inX5, tyX5_ok, nmX5, rfl, rfl, by decide +kernel⟩
theorem fl_X11_221 : FL RX11 221 5 3 := ⟨RX5, TX5, 8, rfl, by decide, gw_in (w := .fieldLink RX11 221 (TX5 3).1 (TX5 3).2.1 (TX5 3).2.2.1) 276 (by decide +kernel) (by decide +kernel), inX5⟩
theorem fl_X5_15 : FL RX5 15 5 4 := ⟨RX5, TX5, 8, rfl, by decide, gw_in (w := .fieldLink RX5 15 (TX5 4).1 (TX5 4).2.1 (TX5 4).2.2.1) 277 (by decide +kernel) (by decide +kernel), inX5⟩
theorem pl_X5_15 : PL true RX5 15 5 4 (.array .int) := ⟨RX5, TX5, 8, tyX5, rfl, by decide, gw_in (w := .fieldLink RX5 15 (TX5 4).1 (TX5 4).2.1 (TX5 4).2.2.1) 277 (by decide +kernel) (by decide +kernel), inX5, tyX5_ok, nmX5, rfl, rfl, by decide +kernel⟩
theorem fl_X11_234 : FL RX11 234 5 4 := ⟨RX5, TX5, 8, rfl, by decide, gw_in (w := .fieldLink RX11 234 (TX5 4).1 (TX5 4).2.1 (TX5 4).2.2.1) 278 (by decide +kernel) (by decide +kernel), inX5⟩
theorem fl_X5_18 : FL RX5 18 5 5 := ⟨RX5, TX5, 8, rfl, by decide, gw_in (w := .fieldLink RX5 18 (TX5 5).1 (TX5 5).2.1 (TX5 5).2.2.1) 279 (by decide +kernel) (by decide +kernel), inX5⟩
theorem pl_X5_18 : PL true RX5 18 5 5 (.array .int) := ⟨RX5, TX5, 8, tyX5, rfl, by decide, gw_in (w := .fieldLink RX5 18 (TX5 5).1 (TX5 5).2.1 (TX5 5).2.2.1) 279 (by decide +kernel) (by decide +kernel), inX5, tyX5_ok, nmX5, rfl, rfl, by decide +kernel⟩
theorem fl_X11_231 : FL RX11 231 5 5 := ⟨RX5, TX5, 8, rfl, by decide, gw_in (w := .fieldLink RX11 231 (TX5 5).1 (TX5 5).2.1 (TX5 5).2.2.1) 280 (by decide +kernel) (by decide +kernel), inX5⟩
theorem fl_X5_21 : FL RX5 21 5 6 := ⟨RX5, TX5, 8, rfl, by decide, gw_in (w := .fieldLink RX5 21 (TX5 6).1 (TX5 6).2.1 (TX5 6).2.2.1) 281 (by decide +kernel) (by decide +kernel), inX5⟩
theorem pl_X5_21 : PL true RX5 21 5 6 (.array .int) := ⟨RX5, TX5, 8, tyX5, rfl, by decide, gw_in (w := .fieldLink RX5 21 (TX5 6).1 (TX5 6).2.1 (TX5 6).2.2.1) 281 (by decide +kernel) (by decide +kernel), inX5, tyX5_ok, nmX5, rfl, rfl, by decide +kernel⟩
theorem fl_X11_224 : FL RX11 224 5 6 := ⟨RX5, TX5, 8, rfl, by decide, gw_in (w := .fieldLink RX11 224 (TX5 6).1 (TX5 6).2.1 (TX5 6).2.2.1) 282 (by decide +kernel) (by decide +kernel), inX5⟩
theorem fl_X5_24 : FL RX5 24 5 7 := ⟨RX5, TX5, 8, rfl, by decide, gw_in (w := .fieldLink RX5 24 (TX5 7).1 (TX5 7).2.1 (TX5 7).2.2.1) 283 (by decide +kernel) (by decide +kernel), inX5⟩
theorem pl_X5_24 : PL true RX5 24 5 7 (.array .boolean) := ⟨RX5, TX5, 8, tyX5, rfl, by decide, gw_in (w := .fieldLink RX5 24 (TX5 7).1 (TX5 7).2.1 (TX5 7).2.2.1) 283 (by decide +kernel) (by decide +kernel), inX5, tyX5_ok, nmX5, rfl, rfl, by decide +kernel⟩
theorem fl_X11_227 : FL RX11 227 5 7 := ⟨RX5, TX5, 8, rfl, by decide, gw_in (w := .fieldLink RX11 227 (TX5 7).1 (TX5 7).2.1 (TX5 7).2.2.1) 284 (by decide +kernel) (by decide +kernel), inX5⟩
theorem fl_X3_18 : FL RX3 18 3 0 := ⟨RX3, TX3, 6, rfl, by decide, gw_in (w := .fieldLink RX3 18 (TX3 0).1 (TX3 0).2.1 (TX3 0).2.2.1) 311 (by decide +kernel) (by decide +kernel), inX3⟩
theorem pl_X3_18 : PL true RX3 18 3 0 (.object "GlassTank$Tank") := ⟨RX3, TX3, 6, tyX3, rfl, by decide, gw_in (w := .fieldLink RX3 18 (TX3 0).1 (TX3 0).2.1 (TX3 0).2.2.1) 311 (by decide +kernel) (by decide +kernel), inX3, tyX3_ok, nmX3, rfl, rfl, by decide +kernel⟩
theorem fl_X3_22 : FL RX3 22 3 1 := ⟨RX3, TX3, 6, rfl, by decide, gw_in (w := .fieldLink RX3 22 (TX3 1).1 (TX3 1).2.1 (TX3 1).2.2.1) 312 (by decide +kernel) (by decide +kernel), inX3⟩
theorem pl_X3_22 : PL true RX3 22 3 1 (.object "GlassTank$Colours") := ⟨RX3, TX3, 6, tyX3, rfl, by decide, gw_in (w := .fieldLink RX3 22 (TX3 1).1 (TX3 1).2.1 (TX3 1).2.2.1) 312 (by decide +kernel) (by decide +kernel), inX3, tyX3_ok, nmX3, rfl, rfl, by decide +kernel⟩
theorem fl_X3_26 : FL RX3 26 3 2 := ⟨RX3, TX3, 6, rfl, by decide, gw_in (w := .fieldLink RX3 26 (TX3 2).1 (TX3 2).2.1 (TX3 2).2.2.1) 313 (by decide +kernel) (by decide +kernel), inX3⟩
theorem pl_X3_26 : PL true RX3 26 3 2 (.object "GlassTank$Charge") := ⟨RX3, TX3, 6, tyX3, rfl, by decide, gw_in (w := .fieldLink RX3 26 (TX3 2).1 (TX3 2).2.1 (TX3 2).2.2.1) 313 (by decide +kernel) (by decide +kernel), inX3, tyX3_ok, nmX3, rfl, rfl, by decide +kernel⟩
theorem fl_X3_30 : FL RX3 30 3 3 := ⟨RX3, TX3, 6, rfl, by decide, gw_in (w := .fieldLink RX3 30 (TX3 3).1 (TX3 3).2.1 (TX3 3).2.2.1) 314 (by decide +kernel) (by decide +kernel), inX3⟩
theorem pl_X3_30 : PL true RX3 30 3 3 (.object "GlassTank$Charge") := ⟨RX3, TX3, 6, tyX3, rfl, by decide, gw_in (w := .fieldLink RX3 30 (TX3 3).1 (TX3 3).2.1 (TX3 3).2.2.1) 314 (by decide +kernel) (by decide +kernel), inX3, tyX3_ok, nmX3, rfl, rfl, by decide +kernel⟩
theorem fl_X3_33 : FL RX3 33 3 4 := ⟨RX3, TX3, 6, rfl, by decide, gw_in (w := .fieldLink RX3 33 (TX3 4).1 (TX3 4).2.1 (TX3 4).2.2.1) 315 (by decide +kernel) (by decide +kernel), inX3⟩
theorem pl_X3_33 : PL true RX3 33 3 4 (.object "GlassTank$Tank") := ⟨RX3, TX3, 6, tyX3, rfl, by decide, gw_in (w := .fieldLink RX3 33 (TX3 4).1 (TX3 4).2.1 (TX3 4).2.2.1) 315 (by decide +kernel) (by decide +kernel), inX3, tyX3_ok, nmX3, rfl, rfl, by decide +kernel⟩
theorem fl_X3_12 : FL RX3 12 3 5 := ⟨RX3, TX3, 6, rfl, by decide, gw_in (w := .fieldLink RX3 12 (TX3 5).1 (TX3 5).2.1 (TX3 5).2.2.1) 316 (by decide +kernel) (by decide +kernel), inX3⟩
theorem pl_X3_12 : PL true RX3 12 3 5 (.object "GlassTank$Glass") := ⟨RX3, TX3, 6, tyX3, rfl, by decide, gw_in (w := .fieldLink RX3 12 (TX3 5).1 (TX3 5).2.1 (TX3 5).2.2.1) 316 (by decide +kernel) (by decide +kernel), inX3, tyX3_ok, nmX3, rfl, rfl, by decide +kernel⟩
theorem fl_X8_11 : FL RX8 11 8 0 := ⟨RX8, TX8, 4, rfl, by decide, gw_in (w := .fieldLink RX8 11 (TX8 0).1 (TX8 0).2.1 (TX8 0).2.2.1) 337 (by decide +kernel) (by decide +kernel), inX8⟩
theorem pl_X8_11 : PL true RX8 11 8 0 (.array (.array .int)) := ⟨RX8, TX8, 4, tyX8, rfl, by decide, gw_in (w := .fieldLink RX8 11 (TX8 0).1 (TX8 0).2.1 (TX8 0).2.2.1) 337 (by decide +kernel) (by decide +kernel), inX8, tyX8_ok, nmX8, rfl, rfl, by decide +kernel⟩
theorem fl_X11_247 : FL RX11 247 8 0 := ⟨RX8, TX8, 4, rfl, by decide, gw_in (w := .fieldLink RX11 247 (TX8 0).1 (TX8 0).2.1 (TX8 0).2.2.1) 338 (by decide +kernel) (by decide +kernel), inX8⟩
theorem fl_X8_16 : FL RX8 16 8 1 := ⟨RX8, TX8, 4, rfl, by decide, gw_in (w := .fieldLink RX8 16 (TX8 1).1 (TX8 1).2.1 (TX8 1).2.2.1) 339 (by decide +kernel) (by decide +kernel), inX8⟩
theorem pl_X8_16 : PL true RX8 16 8 1 (.array .int) := ⟨RX8, TX8, 4, tyX8, rfl, by decide, gw_in (w := .fieldLink RX8 16 (TX8 1).1 (TX8 1).2.1 (TX8 1).2.2.1) 339 (by decide +kernel) (by decide +kernel), inX8, tyX8_ok, nmX8, rfl, rfl, by decide +kernel⟩
theorem fl_X11_257 : FL RX11 257 8 1 := ⟨RX8, TX8, 4, rfl, by decide, gw_in (w := .fieldLink RX11 257 (TX8 1).1 (TX8 1).2.1 (TX8 1).2.2.1) 340 (by decide +kernel) (by decide +kernel), inX8⟩
theorem fl_X8_44 : FL RX8 44 8 2 := ⟨RX8, TX8, 4, rfl, by decide, gw_in (w := .fieldLink RX8 44 (TX8 2).1 (TX8 2).2.1 (TX8 2).2.2.1) 341 (by decide +kernel) (by decide +kernel), inX8⟩
theorem pl_X8_44 : PL false RX8 44 8 2 .int := ⟨RX8, TX8, 4, tyX8, rfl, by decide, gw_in (w := .fieldLink RX8 44 (TX8 2).1 (TX8 2).2.1 (TX8 2).2.2.1) 341 (by decide +kernel) (by decide +kernel), inX8, tyX8_ok, nmX8, rfl, rfl, by decide +kernel⟩
theorem fl_X11_254 : FL RX11 254 8 2 := ⟨RX8, TX8, 4, rfl, by decide, gw_in (w := .fieldLink RX11 254 (TX8 2).1 (TX8 2).2.1 (TX8 2).2.2.1) 342 (by decide +kernel) (by decide +kernel), inX8⟩
theorem fl_X8_20 : FL RX8 20 8 3 := ⟨RX8, TX8, 4, rfl, by decide, gw_in (w := .fieldLink RX8 20 (TX8 3).1 (TX8 3).2.1 (TX8 3).2.2.1) 343 (by decide +kernel) (by decide +kernel), inX8⟩
theorem pl_X8_20 : PL true RX8 20 8 3 (.array .int) := ⟨RX8, TX8, 4, tyX8, rfl, by decide, gw_in (w := .fieldLink RX8 20 (TX8 3).1 (TX8 3).2.1 (TX8 3).2.2.1) 343 (by decide +kernel) (by decide +kernel), inX8, tyX8_ok, nmX8, rfl, rfl, by decide +kernel⟩
theorem fl_X11_15 : FL RX11 15 11 0 := ⟨RX11, TX11, 11, rfl, by decide, gw_in (w := .fieldLink RX11 15 (TX11 0).1 (TX11 0).2.1 (TX11 0).2.2.1) 353 (by decide +kernel) (by decide +kernel), inX11⟩
theorem pl_X11_15 : PL true RX11 15 11 0 (.object "GlassTank$Feeds") := ⟨RX11, TX11, 11, tyX11, rfl, by decide, gw_in (w := .fieldLink RX11 15 (TX11 0).1 (TX11 0).2.1 (TX11 0).2.2.1) 353 (by decide +kernel) (by decide +kernel), inX11, tyX11_ok, nmX11, rfl, rfl, by decide +kernel⟩
theorem fl_X11_22 : FL RX11 22 11 1 := ⟨RX11, TX11, 11, rfl, by decide, gw_in (w := .fieldLink RX11 22 (TX11 1).1 (TX11 1).2.1 (TX11 1).2.2.1) 354 (by decide +kernel) (by decide +kernel), inX11⟩
theorem pl_X11_22 : PL true RX11 22 11 1 (.object "GlassTank$Mix") := ⟨RX11, TX11, 11, tyX11, rfl, by decide, gw_in (w := .fieldLink RX11 22 (TX11 1).1 (TX11 1).2.1 (TX11 1).2.2.1) 354 (by decide +kernel) (by decide +kernel), inX11, tyX11_ok, nmX11, rfl, rfl, by decide +kernel⟩
theorem fl_X11_38 : FL RX11 38 11 2 := ⟨RX11, TX11, 11, rfl, by decide, gw_in (w := .fieldLink RX11 38 (TX11 2).1 (TX11 2).2.1 (TX11 2).2.2.1) 355 (by decide +kernel) (by decide +kernel), inX11⟩
theorem pl_X11_38 : PL true RX11 38 11 2 (.object "GlassTank$MixSearch") := ⟨RX11, TX11, 11, tyX11, rfl, by decide, gw_in (w := .fieldLink RX11 38 (TX11 2).1 (TX11 2).2.1 (TX11 2).2.2.1) 355 (by decide +kernel) (by decide +kernel), inX11, tyX11_ok, nmX11, rfl, rfl, by decide +kernel⟩
theorem fl_X11_47 : FL RX11 47 11 3 := ⟨RX11, TX11, 11, rfl, by decide, gw_in (w := .fieldLink RX11 47 (TX11 3).1 (TX11 3).2.1 (TX11 3).2.2.1) 356 (by decide +kernel) (by decide +kernel), inX11⟩
theorem pl_X11_47 : PL true RX11 47 11 3 (.object "GlassTank$Tank") := ⟨RX11, TX11, 11, tyX11, rfl, by decide, gw_in (w := .fieldLink RX11 47 (TX11 3).1 (TX11 3).2.1 (TX11 3).2.2.1) 356 (by decide +kernel) (by decide +kernel), inX11, tyX11_ok, nmX11, rfl, rfl, by decide +kernel⟩
theorem fl_X11_56 : FL RX11 56 11 4 := ⟨RX11, TX11, 11, rfl, by decide, gw_in (w := .fieldLink RX11 56 (TX11 4).1 (TX11 4).2.1 (TX11 4).2.2.1) 357 (by decide +kernel) (by decide +kernel), inX11⟩
theorem pl_X11_56 : PL true RX11 56 11 4 (.object "GlassTank$Charge") := ⟨RX11, TX11, 11, tyX11, rfl, by decide, gw_in (w := .fieldLink RX11 56 (TX11 4).1 (TX11 4).2.1 (TX11 4).2.2.1) 357 (by decide +kernel) (by decide +kernel), inX11, tyX11_ok, nmX11, rfl, rfl, by decide +kernel⟩
theorem fl_X11_63 : FL RX11 63 11 5 := ⟨RX11, TX11, 11, rfl, by decide, gw_in (w := .fieldLink RX11 63 (TX11 5).1 (TX11 5).2.1 (TX11 5).2.2.1) 358 (by decide +kernel) (by decide +kernel), inX11⟩
theorem pl_X11_63 : PL true RX11 63 11 5 (.object "GlassTank$Glass") := ⟨RX11, TX11, 11, tyX11, rfl, by decide, gw_in (w := .fieldLink RX11 63 (TX11 5).1 (TX11 5).2.1 (TX11 5).2.2.1) 358 (by decide +kernel) (by decide +kernel), inX11, tyX11_ok, nmX11, rfl, rfl, by decide +kernel⟩
theorem fl_X11_29 : FL RX11 29 11 6 := ⟨RX11, TX11, 11, rfl, by decide, gw_in (w := .fieldLink RX11 29 (TX11 6).1 (TX11 6).2.1 (TX11 6).2.2.1) 359 (by decide +kernel) (by decide +kernel), inX11⟩
theorem pl_X11_29 : PL true RX11 29 11 6 (.object "GlassTank$Colours") := ⟨RX11, TX11, 11, tyX11, rfl, by decide, gw_in (w := .fieldLink RX11 29 (TX11 6).1 (TX11 6).2.1 (TX11 6).2.2.1) 359 (by decide +kernel) (by decide +kernel), inX11, tyX11_ok, nmX11, rfl, rfl, by decide +kernel⟩
theorem fl_X11_70 : FL RX11 70 11 7 := ⟨RX11, TX11, 11, rfl, by decide, gw_in (w := .fieldLink RX11 70 (TX11 7).1 (TX11 7).2.1 (TX11 7).2.2.1) 360 (by decide +kernel) (by decide +kernel), inX11⟩
theorem pl_X11_70 : PL true RX11 70 11 7 (.object "GlassTank$Log") := ⟨RX11, TX11, 11, tyX11, rfl, by decide, gw_in (w := .fieldLink RX11 70 (TX11 7).1 (TX11 7).2.1 (TX11 7).2.2.1) 360 (by decide +kernel) (by decide +kernel), inX11, tyX11_ok, nmX11, rfl, rfl, by decide +kernel⟩
theorem fl_X11_79 : FL RX11 79 11 8 := ⟨RX11, TX11, 11, rfl, by decide, gw_in (w := .fieldLink RX11 79 (TX11 8).1 (TX11 8).2.1 (TX11 8).2.2.1) 361 (by decide +kernel) (by decide +kernel), inX11⟩
theorem pl_X11_79 : PL true RX11 79 11 8 (.object "GlassTank$Forecast") := ⟨RX11, TX11, 11, tyX11, rfl, by decide, gw_in (w := .fieldLink RX11 79 (TX11 8).1 (TX11 8).2.1 (TX11 8).2.2.1) 361 (by decide +kernel) (by decide +kernel), inX11, tyX11_ok, nmX11, rfl, rfl, by decide +kernel⟩
theorem fl_X11_86 : FL RX11 86 11 9 := ⟨RX11, TX11, 11, rfl, by decide, gw_in (w := .fieldLink RX11 86 (TX11 9).1 (TX11 9).2.1 (TX11 9).2.2.1) 362 (by decide +kernel) (by decide +kernel), inX11⟩
theorem pl_X11_86 : PL true RX11 86 11 9 (.object "GlassTank$Ring") := ⟨RX11, TX11, 11, tyX11, rfl, by decide, gw_in (w := .fieldLink RX11 86 (TX11 9).1 (TX11 9).2.1 (TX11 9).2.2.1) 362 (by decide +kernel) (by decide +kernel), inX11, tyX11_ok, nmX11, rfl, rfl, by decide +kernel⟩
theorem fl_X11_90 : FL RX11 90 11 10 := ⟨RX11, TX11, 11, rfl, by decide, gw_in (w := .fieldLink RX11 90 (TX11 10).1 (TX11 10).2.1 (TX11 10).2.2.1) 363 (by decide +kernel) (by decide +kernel), inX11⟩
theorem pl_X11_90 : PL false RX11 90 11 10 .int := ⟨RX11, TX11, 11, tyX11, rfl, by decide, gw_in (w := .fieldLink RX11 90 (TX11 10).1 (TX11 10).2.1 (TX11 10).2.2.1) 363 (by decide +kernel) (by decide +kernel), inX11, tyX11_ok, nmX11, rfl, rfl, by decide +kernel⟩
theorem fl_X12_108 : FL RX12 108 12 0 := ⟨RX12, TX12, 40, rfl, by decide, gw_in (w := .fieldLink RX12 108 (TX12 0).1 (TX12 0).2.1 (TX12 0).2.2.1) 697 (by decide +kernel) (by decide +kernel), inX12⟩
theorem pl_X12_108 : PL false RX12 108 12 0 .int := ⟨RX12, TX12, 40, tyX12, rfl, by decide, gw_in (w := .fieldLink RX12 108 (TX12 0).1 (TX12 0).2.1 (TX12 0).2.2.1) 697 (by decide +kernel) (by decide +kernel), inX12, tyX12_ok, nmX12, rfl, rfl, by decide +kernel⟩
theorem fl_X12_115 : FL RX12 115 12 1 := ⟨RX12, TX12, 40, rfl, by decide, gw_in (w := .fieldLink RX12 115 (TX12 1).1 (TX12 1).2.1 (TX12 1).2.2.1) 698 (by decide +kernel) (by decide +kernel), inX12⟩
theorem pl_X12_115 : PL false RX12 115 12 1 .int := ⟨RX12, TX12, 40, tyX12, rfl, by decide, gw_in (w := .fieldLink RX12 115 (TX12 1).1 (TX12 1).2.1 (TX12 1).2.2.1) 698 (by decide +kernel) (by decide +kernel), inX12, tyX12_ok, nmX12, rfl, rfl, by decide +kernel⟩
theorem fl_X12_7 : FL RX12 7 12 2 := ⟨RX12, TX12, 40, rfl, by decide, gw_in (w := .fieldLink RX12 7 (TX12 2).1 (TX12 2).2.1 (TX12 2).2.2.1) 699 (by decide +kernel) (by decide +kernel), inX12⟩
theorem pl_X12_7 : PL true RX12 7 12 2 (.array .int) := ⟨RX12, TX12, 40, tyX12, rfl, by decide, gw_in (w := .fieldLink RX12 7 (TX12 2).1 (TX12 2).2.1 (TX12 2).2.2.1) 699 (by decide +kernel) (by decide +kernel), inX12, tyX12_ok, nmX12, rfl, rfl, by decide +kernel⟩
theorem fl_X12_13 : FL RX12 13 12 3 := ⟨RX12, TX12, 40, rfl, by decide, gw_in (w := .fieldLink RX12 13 (TX12 3).1 (TX12 3).2.1 (TX12 3).2.2.1) 700 (by decide +kernel) (by decide +kernel), inX12⟩
theorem pl_X12_13 : PL true RX12 13 12 3 (.array .int) := ⟨RX12, TX12, 40, tyX12, rfl, by decide, gw_in (w := .fieldLink RX12 13 (TX12 3).1 (TX12 3).2.1 (TX12 3).2.2.1) 700 (by decide +kernel) (by decide +kernel), inX12, tyX12_ok, nmX12, rfl, rfl, by decide +kernel⟩
theorem fl_X12_16 : FL RX12 16 12 4 := ⟨RX12, TX12, 40, rfl, by decide, gw_in (w := .fieldLink RX12 16 (TX12 4).1 (TX12 4).2.1 (TX12 4).2.2.1) 701 (by decide +kernel) (by decide +kernel), inX12⟩
theorem pl_X12_16 : PL true RX12 16 12 4 (.array .int) := ⟨RX12, TX12, 40, tyX12, rfl, by decide, gw_in (w := .fieldLink RX12 16 (TX12 4).1 (TX12 4).2.1 (TX12 4).2.2.1) 701 (by decide +kernel) (by decide +kernel), inX12, tyX12_ok, nmX12, rfl, rfl, by decide +kernel⟩
theorem fl_X12_19 : FL RX12 19 12 5 := ⟨RX12, TX12, 40, rfl, by decide, gw_in (w := .fieldLink RX12 19 (TX12 5).1 (TX12 5).2.1 (TX12 5).2.2.1) 702 (by decide +kernel) (by decide +kernel), inX12⟩
theorem pl_X12_19 : PL true RX12 19 12 5 (.array .int) := ⟨RX12, TX12, 40, tyX12, rfl, by decide, gw_in (w := .fieldLink RX12 19 (TX12 5).1 (TX12 5).2.1 (TX12 5).2.2.1) 702 (by decide +kernel) (by decide +kernel), inX12, tyX12_ok, nmX12, rfl, rfl, by decide +kernel⟩
theorem fl_X12_22 : FL RX12 22 12 6 := ⟨RX12, TX12, 40, rfl, by decide, gw_in (w := .fieldLink RX12 22 (TX12 6).1 (TX12 6).2.1 (TX12 6).2.2.1) 703 (by decide +kernel) (by decide +kernel), inX12⟩
theorem pl_X12_22 : PL true RX12 22 12 6 (.array .int) := ⟨RX12, TX12, 40, tyX12, rfl, by decide, gw_in (w := .fieldLink RX12 22 (TX12 6).1 (TX12 6).2.1 (TX12 6).2.2.1) 703 (by decide +kernel) (by decide +kernel), inX12, tyX12_ok, nmX12, rfl, rfl, by decide +kernel⟩
theorem fl_X12_25 : FL RX12 25 12 7 := ⟨RX12, TX12, 40, rfl, by decide, gw_in (w := .fieldLink RX12 25 (TX12 7).1 (TX12 7).2.1 (TX12 7).2.2.1) 704 (by decide +kernel) (by decide +kernel), inX12⟩
theorem pl_X12_25 : PL true RX12 25 12 7 (.array .int) := ⟨RX12, TX12, 40, tyX12, rfl, by decide, gw_in (w := .fieldLink RX12 25 (TX12 7).1 (TX12 7).2.1 (TX12 7).2.2.1) 704 (by decide +kernel) (by decide +kernel), inX12, tyX12_ok, nmX12, rfl, rfl, by decide +kernel⟩
theorem fl_X12_28 : FL RX12 28 12 8 := ⟨RX12, TX12, 40, rfl, by decide, gw_in (w := .fieldLink RX12 28 (TX12 8).1 (TX12 8).2.1 (TX12 8).2.2.1) 705 (by decide +kernel) (by decide +kernel), inX12⟩
theorem pl_X12_28 : PL true RX12 28 12 8 (.array .int) := ⟨RX12, TX12, 40, tyX12, rfl, by decide, gw_in (w := .fieldLink RX12 28 (TX12 8).1 (TX12 8).2.1 (TX12 8).2.2.1) 705 (by decide +kernel) (by decide +kernel), inX12, tyX12_ok, nmX12, rfl, rfl, by decide +kernel⟩
theorem fl_X12_124 : FL RX12 124 12 9 := ⟨RX12, TX12, 40, rfl, by decide, gw_in (w := .fieldLink RX12 124 (TX12 9).1 (TX12 9).2.1 (TX12 9).2.2.1) 706 (by decide +kernel) (by decide +kernel), inX12⟩
theorem pl_X12_124 : PL false RX12 124 12 9 .boolean := ⟨RX12, TX12, 40, tyX12, rfl, by decide, gw_in (w := .fieldLink RX12 124 (TX12 9).1 (TX12 9).2.1 (TX12 9).2.2.1) 706 (by decide +kernel) (by decide +kernel), inX12, tyX12_ok, nmX12, rfl, rfl, by decide +kernel⟩
theorem fl_X12_135 : FL RX12 135 12 10 := ⟨RX12, TX12, 40, rfl, by decide, gw_in (w := .fieldLink RX12 135 (TX12 10).1 (TX12 10).2.1 (TX12 10).2.2.1) 707 (by decide +kernel) (by decide +kernel), inX12⟩
theorem pl_X12_135 : PL false RX12 135 12 10 .boolean := ⟨RX12, TX12, 40, tyX12, rfl, by decide, gw_in (w := .fieldLink RX12 135 (TX12 10).1 (TX12 10).2.1 (TX12 10).2.2.1) 707 (by decide +kernel) (by decide +kernel), inX12, tyX12_ok, nmX12, rfl, rfl, by decide +kernel⟩
theorem fl_X12_31 : FL RX12 31 12 11 := ⟨RX12, TX12, 40, rfl, by decide, gw_in (w := .fieldLink RX12 31 (TX12 11).1 (TX12 11).2.1 (TX12 11).2.2.1) 708 (by decide +kernel) (by decide +kernel), inX12⟩
theorem pl_X12_31 : PL false RX12 31 12 11 .int := ⟨RX12, TX12, 40, tyX12, rfl, by decide, gw_in (w := .fieldLink RX12 31 (TX12 11).1 (TX12 11).2.1 (TX12 11).2.2.1) 708 (by decide +kernel) (by decide +kernel), inX12, tyX12_ok, nmX12, rfl, rfl, by decide +kernel⟩
theorem fl_X12_35 : FL RX12 35 12 12 := ⟨RX12, TX12, 40, rfl, by decide, gw_in (w := .fieldLink RX12 35 (TX12 12).1 (TX12 12).2.1 (TX12 12).2.2.1) 709 (by decide +kernel) (by decide +kernel), inX12⟩
theorem pl_X12_35 : PL false RX12 35 12 12 .int := ⟨RX12, TX12, 40, tyX12, rfl, by decide, gw_in (w := .fieldLink RX12 35 (TX12 12).1 (TX12 12).2.1 (TX12 12).2.2.1) 709 (by decide +kernel) (by decide +kernel), inX12, tyX12_ok, nmX12, rfl, rfl, by decide +kernel⟩
theorem fl_X12_38 : FL RX12 38 12 13 := ⟨RX12, TX12, 40, rfl, by decide, gw_in (w := .fieldLink RX12 38 (TX12 13).1 (TX12 13).2.1 (TX12 13).2.2.1) 710 (by decide +kernel) (by decide +kernel), inX12⟩
theorem pl_X12_38 : PL false RX12 38 12 13 .int := ⟨RX12, TX12, 40, tyX12, rfl, by decide, gw_in (w := .fieldLink RX12 38 (TX12 13).1 (TX12 13).2.1 (TX12 13).2.2.1) 710 (by decide +kernel) (by decide +kernel), inX12, tyX12_ok, nmX12, rfl, rfl, by decide +kernel⟩
theorem fl_X12_41 : FL RX12 41 12 14 := ⟨RX12, TX12, 40, rfl, by decide, gw_in (w := .fieldLink RX12 41 (TX12 14).1 (TX12 14).2.1 (TX12 14).2.2.1) 711 (by decide +kernel) (by decide +kernel), inX12⟩
theorem pl_X12_41 : PL false RX12 41 12 14 .int := ⟨RX12, TX12, 40, tyX12, rfl, by decide, gw_in (w := .fieldLink RX12 41 (TX12 14).1 (TX12 14).2.1 (TX12 14).2.2.1) 711 (by decide +kernel) (by decide +kernel), inX12, tyX12_ok, nmX12, rfl, rfl, by decide +kernel⟩
theorem fl_X12_44 : FL RX12 44 12 15 := ⟨RX12, TX12, 40, rfl, by decide, gw_in (w := .fieldLink RX12 44 (TX12 15).1 (TX12 15).2.1 (TX12 15).2.2.1) 712 (by decide +kernel) (by decide +kernel), inX12⟩
theorem pl_X12_44 : PL true RX12 44 12 15 (.array .int) := ⟨RX12, TX12, 40, tyX12, rfl, by decide, gw_in (w := .fieldLink RX12 44 (TX12 15).1 (TX12 15).2.1 (TX12 15).2.2.1) 712 (by decide +kernel) (by decide +kernel), inX12, tyX12_ok, nmX12, rfl, rfl, by decide +kernel⟩
theorem fl_X12_47 : FL RX12 47 12 16 := ⟨RX12, TX12, 40, rfl, by decide, gw_in (w := .fieldLink RX12 47 (TX12 16).1 (TX12 16).2.1 (TX12 16).2.2.1) 713 (by decide +kernel) (by decide +kernel), inX12⟩
theorem pl_X12_47 : PL true RX12 47 12 16 (.array .int) := ⟨RX12, TX12, 40, tyX12, rfl, by decide, gw_in (w := .fieldLink RX12 47 (TX12 16).1 (TX12 16).2.1 (TX12 16).2.2.1) 713 (by decide +kernel) (by decide +kernel), inX12, tyX12_ok, nmX12, rfl, rfl, by decide +kernel⟩
theorem fl_X12_50 : FL RX12 50 12 17 := ⟨RX12, TX12, 40, rfl, by decide, gw_in (w := .fieldLink RX12 50 (TX12 17).1 (TX12 17).2.1 (TX12 17).2.2.1) 714 (by decide +kernel) (by decide +kernel), inX12⟩
theorem pl_X12_50 : PL true RX12 50 12 17 (.array .int) := ⟨RX12, TX12, 40, tyX12, rfl, by decide, gw_in (w := .fieldLink RX12 50 (TX12 17).1 (TX12 17).2.1 (TX12 17).2.2.1) 714 (by decide +kernel) (by decide +kernel), inX12, tyX12_ok, nmX12, rfl, rfl, by decide +kernel⟩
theorem fl_X12_53 : FL RX12 53 12 18 := ⟨RX12, TX12, 40, rfl, by decide, gw_in (w := .fieldLink RX12 53 (TX12 18).1 (TX12 18).2.1 (TX12 18).2.2.1) 715 (by decide +kernel) (by decide +kernel), inX12⟩
theorem pl_X12_53 : PL true RX12 53 12 18 (.array .int) := ⟨RX12, TX12, 40, tyX12, rfl, by decide, gw_in (w := .fieldLink RX12 53 (TX12 18).1 (TX12 18).2.1 (TX12 18).2.2.1) 715 (by decide +kernel) (by decide +kernel), inX12, tyX12_ok, nmX12, rfl, rfl, by decide +kernel⟩
theorem fl_X12_56 : FL RX12 56 12 19 := ⟨RX12, TX12, 40, rfl, by decide, gw_in (w := .fieldLink RX12 56 (TX12 19).1 (TX12 19).2.1 (TX12 19).2.2.1) 716 (by decide +kernel) (by decide +kernel), inX12⟩
theorem pl_X12_56 : PL true RX12 56 12 19 (.array .int) := ⟨RX12, TX12, 40, tyX12, rfl, by decide, gw_in (w := .fieldLink RX12 56 (TX12 19).1 (TX12 19).2.1 (TX12 19).2.2.1) 716 (by decide +kernel) (by decide +kernel), inX12, tyX12_ok, nmX12, rfl, rfl, by decide +kernel⟩
theorem fl_X12_59 : FL RX12 59 12 20 := ⟨RX12, TX12, 40, rfl, by decide, gw_in (w := .fieldLink RX12 59 (TX12 20).1 (TX12 20).2.1 (TX12 20).2.2.1) 717 (by decide +kernel) (by decide +kernel), inX12⟩
theorem pl_X12_59 : PL true RX12 59 12 20 (.array .int) := ⟨RX12, TX12, 40, tyX12, rfl, by decide, gw_in (w := .fieldLink RX12 59 (TX12 20).1 (TX12 20).2.1 (TX12 20).2.2.1) 717 (by decide +kernel) (by decide +kernel), inX12, tyX12_ok, nmX12, rfl, rfl, by decide +kernel⟩
theorem fl_X12_62 : FL RX12 62 12 21 := ⟨RX12, TX12, 40, rfl, by decide, gw_in (w := .fieldLink RX12 62 (TX12 21).1 (TX12 21).2.1 (TX12 21).2.2.1) 718 (by decide +kernel) (by decide +kernel), inX12⟩
theorem pl_X12_62 : PL true RX12 62 12 21 (.array .int) := ⟨RX12, TX12, 40, tyX12, rfl, by decide, gw_in (w := .fieldLink RX12 62 (TX12 21).1 (TX12 21).2.1 (TX12 21).2.2.1) 718 (by decide +kernel) (by decide +kernel), inX12, tyX12_ok, nmX12, rfl, rfl, by decide +kernel⟩
theorem fl_X12_65 : FL RX12 65 12 22 := ⟨RX12, TX12, 40, rfl, by decide, gw_in (w := .fieldLink RX12 65 (TX12 22).1 (TX12 22).2.1 (TX12 22).2.2.1) 719 (by decide +kernel) (by decide +kernel), inX12⟩
theorem pl_X12_65 : PL true RX12 65 12 22 (.array .int) := ⟨RX12, TX12, 40, tyX12, rfl, by decide, gw_in (w := .fieldLink RX12 65 (TX12 22).1 (TX12 22).2.1 (TX12 22).2.2.1) 719 (by decide +kernel) (by decide +kernel), inX12, tyX12_ok, nmX12, rfl, rfl, by decide +kernel⟩
theorem fl_X12_138 : FL RX12 138 12 23 := ⟨RX12, TX12, 40, rfl, by decide, gw_in (w := .fieldLink RX12 138 (TX12 23).1 (TX12 23).2.1 (TX12 23).2.2.1) 720 (by decide +kernel) (by decide +kernel), inX12⟩
theorem pl_X12_138 : PL false RX12 138 12 23 .int := ⟨RX12, TX12, 40, tyX12, rfl, by decide, gw_in (w := .fieldLink RX12 138 (TX12 23).1 (TX12 23).2.1 (TX12 23).2.2.1) 720 (by decide +kernel) (by decide +kernel), inX12, tyX12_ok, nmX12, rfl, rfl, by decide +kernel⟩
theorem fl_X12_141 : FL RX12 141 12 24 := ⟨RX12, TX12, 40, rfl, by decide, gw_in (w := .fieldLink RX12 141 (TX12 24).1 (TX12 24).2.1 (TX12 24).2.2.1) 721 (by decide +kernel) (by decide +kernel), inX12⟩
theorem pl_X12_141 : PL false RX12 141 12 24 .long := ⟨RX12, TX12, 40, tyX12, rfl, by decide, gw_in (w := .fieldLink RX12 141 (TX12 24).1 (TX12 24).2.1 (TX12 24).2.2.1) 721 (by decide +kernel) (by decide +kernel), inX12, tyX12_ok, nmX12, rfl, rfl, by decide +kernel⟩
theorem fl_X12_145 : FL RX12 145 12 25 := ⟨RX12, TX12, 40, rfl, by decide, gw_in (w := .fieldLink RX12 145 (TX12 25).1 (TX12 25).2.1 (TX12 25).2.2.1) 722 (by decide +kernel) (by decide +kernel), inX12⟩
theorem pl_X12_145 : PL false RX12 145 12 25 .long := ⟨RX12, TX12, 40, tyX12, rfl, by decide, gw_in (w := .fieldLink RX12 145 (TX12 25).1 (TX12 25).2.1 (TX12 25).2.2.1) 722 (by decide +kernel) (by decide +kernel), inX12, tyX12_ok, nmX12, rfl, rfl, by decide +kernel⟩
theorem fl_X12_68 : FL RX12 68 12 26 := ⟨RX12, TX12, 40, rfl, by decide, gw_in (w := .fieldLink RX12 68 (TX12 26).1 (TX12 26).2.1 (TX12 26).2.2.1) 723 (by decide +kernel) (by decide +kernel), inX12⟩
theorem pl_X12_68 : PL true RX12 68 12 26 (.array .int) := ⟨RX12, TX12, 40, tyX12, rfl, by decide, gw_in (w := .fieldLink RX12 68 (TX12 26).1 (TX12 26).2.1 (TX12 26).2.2.1) 723 (by decide +kernel) (by decide +kernel), inX12, tyX12_ok, nmX12, rfl, rfl, by decide +kernel⟩
theorem fl_X12_71 : FL RX12 71 12 27 := ⟨RX12, TX12, 40, rfl, by decide, gw_in (w := .fieldLink RX12 71 (TX12 27).1 (TX12 27).2.1 (TX12 27).2.2.1) 724 (by decide +kernel) (by decide +kernel), inX12⟩
theorem pl_X12_71 : PL true RX12 71 12 27 (.array .int) := ⟨RX12, TX12, 40, tyX12, rfl, by decide, gw_in (w := .fieldLink RX12 71 (TX12 27).1 (TX12 27).2.1 (TX12 27).2.2.1) 724 (by decide +kernel) (by decide +kernel), inX12, tyX12_ok, nmX12, rfl, rfl, by decide +kernel⟩
theorem fl_X12_74 : FL RX12 74 12 28 := ⟨RX12, TX12, 40, rfl, by decide, gw_in (w := .fieldLink RX12 74 (TX12 28).1 (TX12 28).2.1 (TX12 28).2.2.1) 725 (by decide +kernel) (by decide +kernel), inX12⟩
theorem pl_X12_74 : PL true RX12 74 12 28 (.array .int) := ⟨RX12, TX12, 40, tyX12, rfl, by decide, gw_in (w := .fieldLink RX12 74 (TX12 28).1 (TX12 28).2.1 (TX12 28).2.2.1) 725 (by decide +kernel) (by decide +kernel), inX12, tyX12_ok, nmX12, rfl, rfl, by decide +kernel⟩
theorem fl_X12_77 : FL RX12 77 12 29 := ⟨RX12, TX12, 40, rfl, by decide, gw_in (w := .fieldLink RX12 77 (TX12 29).1 (TX12 29).2.1 (TX12 29).2.2.1) 726 (by decide +kernel) (by decide +kernel), inX12⟩
theorem pl_X12_77 : PL true RX12 77 12 29 (.array .int) := ⟨RX12, TX12, 40, tyX12, rfl, by decide, gw_in (w := .fieldLink RX12 77 (TX12 29).1 (TX12 29).2.1 (TX12 29).2.2.1) 726 (by decide +kernel) (by decide +kernel), inX12, tyX12_ok, nmX12, rfl, rfl, by decide +kernel⟩
theorem fl_X12_80 : FL RX12 80 12 30 := ⟨RX12, TX12, 40, rfl, by decide, gw_in (w := .fieldLink RX12 80 (TX12 30).1 (TX12 30).2.1 (TX12 30).2.2.1) 727 (by decide +kernel) (by decide +kernel), inX12⟩
theorem pl_X12_80 : PL true RX12 80 12 30 (.array .int) := ⟨RX12, TX12, 40, tyX12, rfl, by decide, gw_in (w := .fieldLink RX12 80 (TX12 30).1 (TX12 30).2.1 (TX12 30).2.2.1) 727 (by decide +kernel) (by decide +kernel), inX12, tyX12_ok, nmX12, rfl, rfl, by decide +kernel⟩
theorem fl_X12_83 : FL RX12 83 12 31 := ⟨RX12, TX12, 40, rfl, by decide, gw_in (w := .fieldLink RX12 83 (TX12 31).1 (TX12 31).2.1 (TX12 31).2.2.1) 728 (by decide +kernel) (by decide +kernel), inX12⟩
theorem pl_X12_83 : PL true RX12 83 12 31 (.array .long) := ⟨RX12, TX12, 40, tyX12, rfl, by decide, gw_in (w := .fieldLink RX12 83 (TX12 31).1 (TX12 31).2.1 (TX12 31).2.2.1) 728 (by decide +kernel) (by decide +kernel), inX12, tyX12_ok, nmX12, rfl, rfl, by decide +kernel⟩
theorem fl_X12_87 : FL RX12 87 12 32 := ⟨RX12, TX12, 40, rfl, by decide, gw_in (w := .fieldLink RX12 87 (TX12 32).1 (TX12 32).2.1 (TX12 32).2.2.1) 729 (by decide +kernel) (by decide +kernel), inX12⟩
theorem pl_X12_87 : PL true RX12 87 12 32 (.array .long) := ⟨RX12, TX12, 40, tyX12, rfl, by decide, gw_in (w := .fieldLink RX12 87 (TX12 32).1 (TX12 32).2.1 (TX12 32).2.2.1) 729 (by decide +kernel) (by decide +kernel), inX12, tyX12_ok, nmX12, rfl, rfl, by decide +kernel⟩
theorem fl_X12_90 : FL RX12 90 12 33 := ⟨RX12, TX12, 40, rfl, by decide, gw_in (w := .fieldLink RX12 90 (TX12 33).1 (TX12 33).2.1 (TX12 33).2.2.1) 730 (by decide +kernel) (by decide +kernel), inX12⟩
theorem pl_X12_90 : PL true RX12 90 12 33 (.array .int) := ⟨RX12, TX12, 40, tyX12, rfl, by decide, gw_in (w := .fieldLink RX12 90 (TX12 33).1 (TX12 33).2.1 (TX12 33).2.2.1) 730 (by decide +kernel) (by decide +kernel), inX12, tyX12_ok, nmX12, rfl, rfl, by decide +kernel⟩
theorem fl_X12_93 : FL RX12 93 12 34 := ⟨RX12, TX12, 40, rfl, by decide, gw_in (w := .fieldLink RX12 93 (TX12 34).1 (TX12 34).2.1 (TX12 34).2.2.1) 731 (by decide +kernel) (by decide +kernel), inX12⟩
theorem pl_X12_93 : PL true RX12 93 12 34 (.array .int) := ⟨RX12, TX12, 40, tyX12, rfl, by decide, gw_in (w := .fieldLink RX12 93 (TX12 34).1 (TX12 34).2.1 (TX12 34).2.2.1) 731 (by decide +kernel) (by decide +kernel), inX12, tyX12_ok, nmX12, rfl, rfl, by decide +kernel⟩
theorem fl_X12_96 : FL RX12 96 12 35 := ⟨RX12, TX12, 40, rfl, by decide, gw_in (w := .fieldLink RX12 96 (TX12 35).1 (TX12 35).2.1 (TX12 35).2.2.1) 732 (by decide +kernel) (by decide +kernel), inX12⟩
theorem pl_X12_96 : PL true RX12 96 12 35 (.array .int) := ⟨RX12, TX12, 40, tyX12, rfl, by decide, gw_in (w := .fieldLink RX12 96 (TX12 35).1 (TX12 35).2.1 (TX12 35).2.2.1) 732 (by decide +kernel) (by decide +kernel), inX12, tyX12_ok, nmX12, rfl, rfl, by decide +kernel⟩
theorem fl_X12_99 : FL RX12 99 12 36 := ⟨RX12, TX12, 40, rfl, by decide, gw_in (w := .fieldLink RX12 99 (TX12 36).1 (TX12 36).2.1 (TX12 36).2.2.1) 733 (by decide +kernel) (by decide +kernel), inX12⟩
theorem pl_X12_99 : PL true RX12 99 12 36 (.array .int) := ⟨RX12, TX12, 40, tyX12, rfl, by decide, gw_in (w := .fieldLink RX12 99 (TX12 36).1 (TX12 36).2.1 (TX12 36).2.2.1) 733 (by decide +kernel) (by decide +kernel), inX12, tyX12_ok, nmX12, rfl, rfl, by decide +kernel⟩
theorem fl_X12_102 : FL RX12 102 12 37 := ⟨RX12, TX12, 40, rfl, by decide, gw_in (w := .fieldLink RX12 102 (TX12 37).1 (TX12 37).2.1 (TX12 37).2.2.1) 734 (by decide +kernel) (by decide +kernel), inX12⟩
theorem pl_X12_102 : PL true RX12 102 12 37 (.array .int) := ⟨RX12, TX12, 40, tyX12, rfl, by decide, gw_in (w := .fieldLink RX12 102 (TX12 37).1 (TX12 37).2.1 (TX12 37).2.2.1) 734 (by decide +kernel) (by decide +kernel), inX12, tyX12_ok, nmX12, rfl, rfl, by decide +kernel⟩
theorem fl_X12_105 : FL RX12 105 12 38 := ⟨RX12, TX12, 40, rfl, by decide, gw_in (w := .fieldLink RX12 105 (TX12 38).1 (TX12 38).2.1 (TX12 38).2.2.1) 735 (by decide +kernel) (by decide +kernel), inX12⟩
theorem pl_X12_105 : PL true RX12 105 12 38 (.array .int) := ⟨RX12, TX12, 40, tyX12, rfl, by decide, gw_in (w := .fieldLink RX12 105 (TX12 38).1 (TX12 38).2.1 (TX12 38).2.2.1) 735 (by decide +kernel) (by decide +kernel), inX12, tyX12_ok, nmX12, rfl, rfl, by decide +kernel⟩
theorem fl_X12_193 : FL RX12 193 12 39 := ⟨RX12, TX12, 40, rfl, by decide, gw_in (w := .fieldLink RX12 193 (TX12 39).1 (TX12 39).2.1 (TX12 39).2.2.1) 736 (by decide +kernel) (by decide +kernel), inX12⟩
theorem pl_X12_193 : PL false RX12 193 12 39 .int := ⟨RX12, TX12, 40, tyX12, rfl, by decide, gw_in (w := .fieldLink RX12 193 (TX12 39).1 (TX12 39).2.1 (TX12 39).2.2.1) 736 (by decide +kernel) (by decide +kernel), inX12, tyX12_ok, nmX12, rfl, rfl, by decide +kernel⟩
theorem cn_X11_102 : Cond.constant RX11 102 (-1000000000) ∈ gw := gw_in (w := .constant RX11 102 (-1000000000)) 398 (by decide +kernel) (by decide +kernel)
theorem cn_X2_33 : Cond.constant RX2 33 (-1000000000) ∈ gw := gw_in (w := .constant RX2 33 (-1000000000)) 406 (by decide +kernel) (by decide +kernel)
theorem cn_X11_115 : Cond.constant RX11 115 (10000000) ∈ gw := gw_in (w := .constant RX11 115 (10000000)) 415 (by decide +kernel) (by decide +kernel)
theorem cn_X11_136 : Cond.constant RX11 136 (100000) ∈ gw := gw_in (w := .constant RX11 136 (100000)) 424 (by decide +kernel) (by decide +kernel)
theorem cn_X1_23 : Cond.constant RX1 23 (-1000000000) ∈ gw := gw_in (w := .constant RX1 23 (-1000000000)) 479 (by decide +kernel) (by decide +kernel)
theorem cn_X2_34 : Cond.constant RX2 34 (10000000) ∈ gw := gw_in (w := .constant RX2 34 (10000000)) 589 (by decide +kernel) (by decide +kernel)
theorem cn_X3_70 : Cond.constant RX3 70 (100000) ∈ gw := gw_in (w := .constant RX3 70 (100000)) 645 (by decide +kernel) (by decide +kernel)
theorem cn_X12_118 : Cond.constant RX12 118 (-1000000000) ∈ gw := gw_in (w := .constant RX12 118 (-1000000000)) 825 (by decide +kernel) (by decide +kernel)
theorem cn_X12_123 : Cond.constant RX12 123 (10000000) ∈ gw := gw_in (w := .constant RX12 123 (10000000)) 834 (by decide +kernel) (by decide +kernel)
theorem cn_X12_134 : Cond.constant RX12 134 (100000) ∈ gw := gw_in (w := .constant RX12 134 (100000)) 843 (by decide +kernel) (by decide +kernel)
theorem cj_X11_270 : Cond.constantLong RX11 270 (1000) ∈ gw := gw_in (w := .constantLong RX11 270 (1000)) 397 (by decide +kernel) (by decide +kernel)
theorem cj_X12_128 : Cond.constantLong RX12 128 (-1) ∈ gw := gw_in (w := .constantLong RX12 128 (-1)) 852 (by decide +kernel) (by decide +kernel)
theorem cj_X12_159 : Cond.constantLong RX12 159 (1000) ∈ gw := gw_in (w := .constantLong RX12 159 (1000)) 909 (by decide +kernel) (by decide +kernel)
theorem jw_max : Cond.static Lib.Math.max.name ∈ gw ∧ Cond.initialized "java/lang/Math" ∈ gw ∧ Cond.code Lib.Math.max.name Lib.Math.max.code 2 (some .int) ∈ gw := ⟨gw_in (w := .static Lib.Math.max.name) 497 (by decide +kernel) (by decide +kernel), gw_in (w := .initialized "java/lang/Math") 42 (by decide +kernel) (by decide +kernel), gw_in (w := .code Lib.Math.max.name Lib.Math.max.code 2 (some .int)) 498 (by decide +kernel) (by decide +kernel)⟩
theorem jw_min : Cond.static Lib.Math.min.name ∈ gw ∧ Cond.initialized "java/lang/Math" ∈ gw ∧ Cond.code Lib.Math.min.name Lib.Math.min.code 2 (some .int) ∈ gw := ⟨gw_in (w := .static Lib.Math.min.name) 500 (by decide +kernel) (by decide +kernel), gw_in (w := .initialized "java/lang/Math") 42 (by decide +kernel) (by decide +kernel), gw_in (w := .code Lib.Math.min.name Lib.Math.min.code 2 (some .int)) 501 (by decide +kernel) (by decide +kernel)⟩
theorem jw_copy : Cond.native arraycopyName ∈ gw ∧ Cond.static arraycopyName ∈ gw ∧ Cond.initialized "java/lang/System" ∈ gw := ⟨gw_in (w := .native arraycopyName) 559 (by decide +kernel) (by decide +kernel), gw_in (w := .static arraycopyName) 558 (by decide +kernel) (by decide +kernel), gw_in (w := .initialized "java/lang/System") 43 (by decide +kernel) (by decide +kernel)⟩
theorem jw_obj : Cond.instanceMethod Lib.objectInit ∈ gw ∧ Cond.code Lib.objectInit ⟨#[0xb1]⟩ 1 none ∈ gw := ⟨gw_in (w := .instanceMethod Lib.objectInit) 50 (by decide +kernel) (by decide +kernel), gw_in (w := .code Lib.objectInit ⟨#[0xb1]⟩ 1 none) 51 (by decide +kernel) (by decide +kernel)⟩
end
section
/-! ===== rows over naturals ===== -/
def updN (w : Nat → Nat) (j x : Nat) : Nat → Nat := fun i => if i = j then x else w i
def aI (n : Nat) (w : Nat → Nat) : PC := aG n (fun i => nI (w i))
def aL (n : Nat) (w : Nat → Nat) : PC := aJ n (fun i => lN (w i))
def bI (b : Bool) : Int32 := if b then 1 else 0
theorem updN_I (w : Nat → Nat) (j x : Nat) : upd (fun i => nI (w i)) j (nI x) = fun i => nI (updN w j x i) := by
  funext i; unfold upd updN; by_cases e : i = j <;> simp [e]
theorem updN_L (w : Nat → Nat) (j x : Nat) : vp_updL (fun i => lN (w i)) j (lN x) = fun i => lN (updN w j x i) := by
  funext i; unfold vp_updL updN; by_cases e : i = j <;> simp [e]
theorem updN_s (w : Nat → Nat) (j x : Nat) : updN w j x j = x := if_pos rfl
theorem updN_n (w : Nat → Nat) {j i : Nat} (x : Nat) (h : i ≠ j) : updN w j x i = w i := if_neg h
def Fr (P : Nat → Prop) (h0 h : List PC) : Prop := (∀ j, ¬ P j → h[j]? = h0[j]?) ∧ h.length = h0.length
theorem Fr.rf {P : Nat → Prop} {h : List PC} : Fr P h h := ⟨fun _ _ => rfl, rfl⟩
theorem Fr.nw {P : Nat → Prop} {h0 h h' : List PC} {k : Nat} {c : PC} (f : Fr P h0 h) (n : Nw h k c h') (hk : P k) : Fr P h0 h' :=
  ⟨fun j q => (n.2.1 j (fun e => q (by rw [e]; exact hk))).trans (f.1 j q), n.2.2.trans f.2⟩
theorem Fr.tr {P P' : Nat → Prop} {h0 h h' : List PC} (f : Fr P h0 h) (g : Fr P' h h') (hk : ∀ j, P' j → P j) : Fr P h0 h' :=
  ⟨fun j q => (g.1 j (fun e => q (hk j e))).trans (f.1 j q), g.2.trans f.2⟩
theorem Fr.wk {P P' : Nat → Prop} {h0 h : List PC} (f : Fr P h0 h) (hk : ∀ j, P j → P' j) : Fr P' h0 h := ⟨fun j q => f.1 j (fun e => q (hk j e)), f.2⟩
theorem Fr.at {P : Nat → Prop} {h0 h : List PC} {x : Option PC} {k : Nat} (f : Fr P h0 h) (hk : ¬ P k) (e : h0[k]? = x) : h[k]? = x := (f.1 k hk).trans e
theorem Nw.o {h h' : List PC} {k j : Nat} {c : PC} {x : Option PC} (n : Nw h k c h') (hj : j ≠ k) (e : h[j]? = x) : h'[j]? = x := (n.2.1 j hj).trans e
section ATN
variable {M : MI} {G : GT} {pc : Nat} {L rest : List Value} {h : List PC} {cs sl : Nat} {Z : ZT}
theorem at_g (pc' : Nat) {idx k ci j : Nat} (hd : decode M.2.1 pc = .ok (.getfield idx, 3)) (hp : pc + 3 = pc') (hf : FL M.1.cls idx ci j) (kk : ∃ fs : List Value, h[k]? = some (.inr (ci, fs)) ∧ ∃ v, fs[j]? = some v ∧ At M G pc' L (v :: rest) h cs sl Z) : At M G pc L (.ref k :: rest) h cs sl Z := by
  obtain ⟨fs, h1, v, h2, h3⟩ := kk
  exact at_get pc' hd hp hf h1 h2 h3
theorem at_pi (pc' : Nat) {idx k ci j : Nat} {x : Int32} {ty : FieldType} (hd : decode M.2.1 pc = .ok (.putfield idx, 3)) (hp : pc + 3 = pc') (hf : PL false M.1.cls idx ci j ty) (hn : narrow ty (.int x) = .int x) (hfit : fits ty (.int x) = true) (kk : ∃ fs : List Value, h[k]? = some (.inr (ci, fs)) ∧ j < fs.length ∧ ∃ fs', fs.set j (.int x) = fs' ∧ ∀ h' : List PC, Nw h k (.inr (ci, fs')) h' → At M G pc' L rest h' cs sl Z) : At M G pc L (.int x :: .ref k :: rest) h cs sl Z := by
  obtain ⟨fs, h1, h2, fs', h3, h4⟩ := kk
  exact at_puti pc' hd hp hf h1 h2 hn hfit h3 h4
theorem at_pl (pc' : Nat) {idx k ci j : Nat} {x : Int64} (hd : decode M.2.1 pc = .ok (.putfield idx, 3)) (hp : pc + 3 = pc') (hf : PL false M.1.cls idx ci j .long) (kk : ∃ fs : List Value, h[k]? = some (.inr (ci, fs)) ∧ j < fs.length ∧ ∃ fs', fs.set j (.long x) = fs' ∧ ∀ h' : List PC, Nw h k (.inr (ci, fs')) h' → At M G pc' L rest h' cs sl Z) : At M G pc L (.long x :: .ref k :: rest) h cs sl Z := by
  obtain ⟨fs, h1, h2, fs', h3, h4⟩ := kk
  exact at_putl pc' hd hp hf h1 h2 rfl rfl h3 h4
theorem at_ia (pc' : Nat) {k j : Nat} (hd : decode M.2.1 pc = .ok (.iaload, 1)) (hp : pc + 1 = pc') (kk : ∃ (n : Nat) (w : Nat → Nat), h[k]? = some (aI n w) ∧ j < n ∧ n < 2 ^ 31 ∧ At M G pc' L (.int (nI (w j)) :: rest) h cs sl Z) : At M G pc L (.int (nI j) :: .ref k :: rest) h cs sl Z := by
  obtain ⟨n, w, h1, h2, h3, h4⟩ := kk
  refine at_ialdG pc' hd hp h1 (vp_in_nI h2 h3) ?_
  rw [nI_clamp (by omega)]
  exact h4
theorem at_iaG (pc' : Nat) {k j : Nat} (hd : decode M.2.1 pc = .ok (.iaload, 1)) (hp : pc + 1 = pc') (kk : ∃ (n : Nat) (f : Nat → Int32), h[k]? = some (aG n f) ∧ j < n ∧ n < 2 ^ 31 ∧ At M G pc' L (.int (f j) :: rest) h cs sl Z) : At M G pc L (.int (nI j) :: .ref k :: rest) h cs sl Z := by
  obtain ⟨n, w, h1, h2, h3, h4⟩ := kk
  refine at_ialdG pc' hd hp h1 (vp_in_nI h2 h3) ?_
  rw [nI_clamp (by omega)]
  exact h4
theorem at_za (pc' : Nat) {k j : Nat} (hd : decode M.2.1 pc = .ok (.baload, 1)) (hp : pc + 1 = pc') (kk : ∃ (n : Nat) (f : Nat → Int32), h[k]? = some (aZ n f) ∧ j < n ∧ n < 2 ^ 31 ∧ At M G pc' L (.int (f j) :: rest) h cs sl Z) : At M G pc L (.int (nI j) :: .ref k :: rest) h cs sl Z := by
  obtain ⟨n, w, h1, h2, h3, h4⟩ := kk
  refine at_zaldG pc' hd hp h1 (vp_in_nI h2 h3) ?_
  rw [nI_clamp (by omega)]
  exact h4
theorem at_la (pc' : Nat) {k j : Nat} (hd : decode M.2.1 pc = .ok (.laload, 1)) (hp : pc + 1 = pc') (kk : ∃ (n : Nat) (w : Nat → Nat), h[k]? = some (aL n w) ∧ j < n ∧ n < 2 ^ 31 ∧ At M G pc' L (.long (lN (w j)) :: rest) h cs sl Z) : At M G pc L (.int (nI j) :: .ref k :: rest) h cs sl Z := by
  obtain ⟨n, w, h1, h2, h3, h4⟩ := kk
  refine at_laldG pc' hd hp h1 (vp_in_nI h2 h3) ?_
  rw [nI_clamp (by omega)]
  exact h4
theorem at_laJ (pc' : Nat) {k j : Nat} (hd : decode M.2.1 pc = .ok (.laload, 1)) (hp : pc + 1 = pc') (kk : ∃ (n : Nat) (f : Nat → Int64), h[k]? = some (aJ n f) ∧ j < n ∧ n < 2 ^ 31 ∧ At M G pc' L (.long (f j) :: rest) h cs sl Z) : At M G pc L (.int (nI j) :: .ref k :: rest) h cs sl Z := by
  obtain ⟨n, w, h1, h2, h3, h4⟩ := kk
  refine at_laldG pc' hd hp h1 (vp_in_nI h2 h3) ?_
  rw [nI_clamp (by omega)]
  exact h4
theorem at_aa (pc' : Nat) {k j : Nat} (hd : decode M.2.1 pc = .ok (.aaload, 1)) (hp : pc + 1 = pc') (kk : ∃ (n : Nat) (f : Nat → Option Nat), h[k]? = some (aR n f) ∧ j < n ∧ n < 2 ^ 31 ∧ ∃ a, f j = some a ∧ At M G pc' L (.ref a :: rest) h cs sl Z) : At M G pc L (.int (nI j) :: .ref k :: rest) h cs sl Z := by
  obtain ⟨n, w, h1, h2, h3, a, h4, h5⟩ := kk
  exact at_aald pc' hd hp h1 (vp_in_nI h2 h3) (by rw [nI_clamp (by omega)]; exact h4) h5
theorem at_is (pc' : Nat) {k j x : Nat} (hd : decode M.2.1 pc = .ok (.iastore, 1)) (hp : pc + 1 = pc') (kk : ∃ (n : Nat) (w : Nat → Nat), h[k]? = some (aI n w) ∧ j < n ∧ n < 2 ^ 31 ∧ ∀ h' : List PC, Nw h k (aI n (updN w j x)) h' → At M G pc' L rest h' cs sl Z) : At M G pc L (.int (nI x) :: .int (nI j) :: .ref k :: rest) h cs sl Z := by
  obtain ⟨n, w, h1, h2, h3, h4⟩ := kk
  refine at_iastG pc' hd hp h1 (vp_in_nI h2 h3) (fun h' n' => h4 h' ?_)
  rw [nI_clamp (by omega), updN_I] at n'
  exact n'
theorem at_isG (pc' : Nat) {k j : Nat} {x : Int32} (hd : decode M.2.1 pc = .ok (.iastore, 1)) (hp : pc + 1 = pc') (kk : ∃ (n : Nat) (f : Nat → Int32), h[k]? = some (aG n f) ∧ j < n ∧ n < 2 ^ 31 ∧ ∀ h' : List PC, Nw h k (aG n (upd f j x)) h' → At M G pc' L rest h' cs sl Z) : At M G pc L (.int x :: .int (nI j) :: .ref k :: rest) h cs sl Z := by
  obtain ⟨n, w, h1, h2, h3, h4⟩ := kk
  refine at_iastG pc' hd hp h1 (vp_in_nI h2 h3) (fun h' n' => h4 h' ?_)
  rw [nI_clamp (by omega)] at n'
  exact n'
theorem at_zs (pc' : Nat) {k j : Nat} {b : Bool} (hd : decode M.2.1 pc = .ok (.bastore, 1)) (hp : pc + 1 = pc') (kk : ∃ (n : Nat) (f : Nat → Int32), h[k]? = some (aZ n f) ∧ j < n ∧ n < 2 ^ 31 ∧ ∀ h' : List PC, Nw h k (aZ n (upd f j (bI b))) h' → At M G pc' L rest h' cs sl Z) : At M G pc L (.int (bI b) :: .int (nI j) :: .ref k :: rest) h cs sl Z := by
  obtain ⟨n, w, h1, h2, h3, h4⟩ := kk
  refine at_zastG pc' hd hp h1 (vp_in_nI h2 h3) (fun h' n' => h4 h' ?_)
  rw [nI_clamp (by omega), show vp_nar .boolean (bI b) = bI b by cases b <;> rfl] at n'
  exact n'
theorem at_ls (pc' : Nat) {k j x : Nat} (hd : decode M.2.1 pc = .ok (.lastore, 1)) (hp : pc + 1 = pc') (kk : ∃ (n : Nat) (w : Nat → Nat), h[k]? = some (aL n w) ∧ j < n ∧ n < 2 ^ 31 ∧ ∀ h' : List PC, Nw h k (aL n (updN w j x)) h' → At M G pc' L rest h' cs sl Z) : At M G pc L (.long (lN x) :: .int (nI j) :: .ref k :: rest) h cs sl Z := by
  obtain ⟨n, w, h1, h2, h3, h4⟩ := kk
  refine at_lastG pc' hd hp h1 (vp_in_nI h2 h3) (fun h' n' => h4 h' ?_)
  rw [nI_clamp (by omega), updN_L] at n'
  exact n'
theorem at_lsJ (pc' : Nat) {k j : Nat} {x : Int64} (hd : decode M.2.1 pc = .ok (.lastore, 1)) (hp : pc + 1 = pc') (kk : ∃ (n : Nat) (f : Nat → Int64), h[k]? = some (aJ n f) ∧ j < n ∧ n < 2 ^ 31 ∧ ∀ h' : List PC, Nw h k (aJ n (vp_updL f j x)) h' → At M G pc' L rest h' cs sl Z) : At M G pc L (.long x :: .int (nI j) :: .ref k :: rest) h cs sl Z := by
  obtain ⟨n, w, h1, h2, h3, h4⟩ := kk
  refine at_lastG pc' hd hp h1 (vp_in_nI h2 h3) (fun h' n' => h4 h' ?_)
  rw [nI_clamp (by omega)] at n'
  exact n'
theorem at_iaddN (pc' : Nat) {a b : Nat} (hd : decode M.2.1 pc = .ok (.iadd, 1)) (hp : pc + 1 = pc') (kk : At M G pc' L (.int (nI (a + b)) :: rest) h cs sl Z) : At M G pc L (.int (nI b) :: .int (nI a) :: rest) h cs sl Z := at_iadd pc' hd hp (by rw [nI_add]; exact kk)
theorem at_imulN (pc' : Nat) {a b : Nat} (hd : decode M.2.1 pc = .ok (.imul, 1)) (hp : pc + 1 = pc') (kk : At M G pc' L (.int (nI (a * b)) :: rest) h cs sl Z) : At M G pc L (.int (nI b) :: .int (nI a) :: rest) h cs sl Z := at_imul pc' hd hp (by rw [pk_mul]; exact kk)
theorem at_isubN (pc' : Nat) {a b : Nat} (hd : decode M.2.1 pc = .ok (.isub, 1)) (hp : pc + 1 = pc') (hab : b ≤ a) (kk : At M G pc' L (.int (nI (a - b)) :: rest) h cs sl Z) : At M G pc L (.int (nI b) :: .int (nI a) :: rest) h cs sl Z := at_isub pc' hd hp (by rw [pk_sub hab]; exact kk)
theorem at_iincN (pc' : Nat) {i j : Nat} {n : Int} {q : Nat} {L' : List Value} (hd : decode M.2.1 pc = .ok (.iinc i n, 3)) (hp : pc + 3 = pc') (hq : Int32.ofInt n = nI q) (hi : L[i]? = some (.int (nI j))) (hn : i < M.2.2.1) (hc : nlb L i = true) (hl : L.set i (.int (nI (j + q))) = L') (kk : At M G pc' L' rest h cs sl Z) : At M G pc L rest h cs sl Z := at_iinc pc' hd hp (by rw [hq, nI_add]) hi hn hc hl kk
theorem at_idecN (pc' : Nat) {i j : Nat} {L' : List Value} (hd : decode M.2.1 pc = .ok (.iinc i (-1), 3)) (hp : pc + 3 = pc') (hi : L[i]? = some (.int (nI (j + 1)))) (hn : i < M.2.2.1) (hc : nlb L i = true) (hl : L.set i (.int (nI j)) = L') (kk : At M G pc' L' rest h cs sl Z) : At M G pc L rest h cs sl Z := at_iinc pc' hd hp (by rw [show Int32.ofInt (-1) = -1 by decide, pk_m1]) hi hn hc hl kk
theorem at_i2lN (pc' : Nat) {a : Nat} (hd : decode M.2.1 pc = .ok (.i2l, 1)) (hp : pc + 1 = pc') (ha : a < 2 ^ 31) (kk : At M G pc' L (.long (lN a) :: rest) h cs sl Z) : At M G pc L (.int (nI a) :: rest) h cs sl Z := at_i2l pc' hd hp (nI_l ha) kk
theorem at_l2iN (pc' : Nat) {a : Nat} (hd : decode M.2.1 pc = .ok (.l2i, 1)) (hp : pc + 1 = pc') (kk : At M G pc' L (.int (nI a) :: rest) h cs sl Z) : At M G pc L (.long (lN a) :: rest) h cs sl Z := at_l2i pc' hd hp (lN_i a) kk
theorem at_laddN (pc' : Nat) {a b : Nat} (hd : decode M.2.1 pc = .ok (.ladd, 1)) (hp : pc + 1 = pc') (kk : At M G pc' L (.long (lN (a + b)) :: rest) h cs sl Z) : At M G pc L (.long (lN b) :: .long (lN a) :: rest) h cs sl Z := at_ladd pc' hd hp (by rw [lN_add]; exact kk)
theorem at_lmulN (pc' : Nat) {a b : Nat} (hd : decode M.2.1 pc = .ok (.lmul, 1)) (hp : pc + 1 = pc') (kk : At M G pc' L (.long (lN (a * b)) :: rest) h cs sl Z) : At M G pc L (.long (lN b) :: .long (lN a) :: rest) h cs sl Z := at_lmul pc' hd hp (by rw [lN_mul]; exact kk)
theorem at_lsubN (pc' : Nat) {a b : Nat} (hd : decode M.2.1 pc = .ok (.lsub, 1)) (hp : pc + 1 = pc') (hab : b ≤ a) (kk : At M G pc' L (.long (lN (a - b)) :: rest) h cs sl Z) : At M G pc L (.long (lN b) :: .long (lN a) :: rest) h cs sl Z := at_lsub pc' hd hp (by rw [lN_sub hab]; exact kk)
theorem lN_ne0 {b : Nat} (h0 : 0 < b) (hb : b < 2 ^ 63) : ¬ lN b = 0 := by
  intro e
  have : lN b = lN 0 := e
  rw [pk_lEQ hb (by decide)] at this
  omega
theorem at_ldivN (pc' : Nat) {a b : Nat} (hd : decode M.2.1 pc = .ok (.ldiv, 1)) (hp : pc + 1 = pc') (ha : a < 2 ^ 63) (h0 : 0 < b) (hb : b < 2 ^ 63) (kk : At M G pc' L (.long (lN (a / b)) :: rest) h cs sl Z) : At M G pc L (.long (lN b) :: .long (lN a) :: rest) h cs sl Z := at_ldiv pc' hd hp (lN_ne0 h0 hb) (by rw [pk_lDiv ha h0 hb]; exact kk)
theorem at_lremN (pc' : Nat) {a b : Nat} (hd : decode M.2.1 pc = .ok (.lrem, 1)) (hp : pc + 1 = pc') (ha : a < 2 ^ 63) (h0 : 0 < b) (hb : b < 2 ^ 63) (kk : At M G pc' L (.long (lN (a % b)) :: rest) h cs sl Z) : At M G pc L (.long (lN b) :: .long (lN a) :: rest) h cs sl Z := at_lrem pc' hd hp (lN_ne0 h0 hb) (by rw [pk_lRem ha h0 hb]; exact kk)
theorem at_idivN (pc' : Nat) {a b : Nat} (hd : decode M.2.1 pc = .ok (.idiv, 1)) (hp : pc + 1 = pc') (ha : a < 2 ^ 31) (h0 : 0 < b) (hb : b < 2 ^ 31) (kk : At M G pc' L (.int (nI (a / b)) :: rest) h cs sl Z) : At M G pc L (.int (nI b) :: .int (nI a) :: rest) h cs sl Z := at_idiv pc' hd hp (nI_ne0 h0 hb) (by rw [pk_div ha h0 hb]; exact kk)
theorem at_iremN (pc' : Nat) {a b : Nat} (hd : decode M.2.1 pc = .ok (.irem, 1)) (hp : pc + 1 = pc') (ha : a < 2 ^ 31) (h0 : 0 < b) (hb : b < 2 ^ 31) (kk : At M G pc' L (.int (nI (a % b)) :: rest) h cs sl Z) : At M G pc L (.int (nI b) :: .int (nI a) :: rest) h cs sl Z := at_irem pc' hd hp (nI_ne0 h0 hb) (by rw [pk_rem ha h0 hb]; exact kk)
theorem at_icmp_eqN (pt pf : Nat) {a b : Nat} {off : Int} (hd : decode M.2.1 pc = .ok (.if_icmp .eq off, 3)) (ht : (pc : Int) + off = (pt : Int)) (hp : pc + 3 = pf) (ha : a < 2 ^ 31) (hb : b < 2 ^ 31) (kt : a = b → At M G pt L rest h cs sl Z) (kf : a ≠ b → At M G pf L rest h cs sl Z) : At M G pc L (.int (nI b) :: .int (nI a) :: rest) h cs sl Z := at_icmp_eq pt pf hd ht hp (fun q => kt ((nI_eq ha hb).mp q)) (fun q => kf (fun e => q (by rw [e])))
theorem at_icmp_neN (pt pf : Nat) {a b : Nat} {off : Int} (hd : decode M.2.1 pc = .ok (.if_icmp .ne off, 3)) (ht : (pc : Int) + off = (pt : Int)) (hp : pc + 3 = pf) (ha : a < 2 ^ 31) (hb : b < 2 ^ 31) (kt : a ≠ b → At M G pt L rest h cs sl Z) (kf : a = b → At M G pf L rest h cs sl Z) : At M G pc L (.int (nI b) :: .int (nI a) :: rest) h cs sl Z := at_icmp_ne pt pf hd ht hp (fun q => kt (fun e => q (by rw [e]))) (fun q => kf ((nI_eq ha hb).mp q))
theorem at_icmp_ltN (pt pf : Nat) {a b : Nat} {off : Int} (hd : decode M.2.1 pc = .ok (.if_icmp .lt off, 3)) (ht : (pc : Int) + off = (pt : Int)) (hp : pc + 3 = pf) (ha : a < 2 ^ 31) (hb : b < 2 ^ 31) (kt : a < b → At M G pt L rest h cs sl Z) (kf : b ≤ a → At M G pf L rest h cs sl Z) : At M G pc L (.int (nI b) :: .int (nI a) :: rest) h cs sl Z := at_icmp_lt pt pf hd ht hp (fun q => kt ((nI_ltI ha hb).mp q)) (fun q => kf (by have := mt (nI_ltI ha hb).mpr q; omega))
theorem at_icmp_geN (pt pf : Nat) {a b : Nat} {off : Int} (hd : decode M.2.1 pc = .ok (.if_icmp .ge off, 3)) (ht : (pc : Int) + off = (pt : Int)) (hp : pc + 3 = pf) (ha : a < 2 ^ 31) (hb : b < 2 ^ 31) (kt : b ≤ a → At M G pt L rest h cs sl Z) (kf : a < b → At M G pf L rest h cs sl Z) : At M G pc L (.int (nI b) :: .int (nI a) :: rest) h cs sl Z := at_icmp_ge pt pf hd ht hp (fun q => kt ((nI_leI hb ha).mp q)) (fun q => kf (by have := mt (nI_leI hb ha).mpr q; omega))
theorem at_icmp_gtN (pt pf : Nat) {a b : Nat} {off : Int} (hd : decode M.2.1 pc = .ok (.if_icmp .gt off, 3)) (ht : (pc : Int) + off = (pt : Int)) (hp : pc + 3 = pf) (ha : a < 2 ^ 31) (hb : b < 2 ^ 31) (kt : b < a → At M G pt L rest h cs sl Z) (kf : a ≤ b → At M G pf L rest h cs sl Z) : At M G pc L (.int (nI b) :: .int (nI a) :: rest) h cs sl Z := at_icmp_gt pt pf hd ht hp (fun q => kt ((nI_ltI hb ha).mp q)) (fun q => kf (by have := mt (nI_ltI hb ha).mpr q; omega))
theorem at_icmp_leN (pt pf : Nat) {a b : Nat} {off : Int} (hd : decode M.2.1 pc = .ok (.if_icmp .le off, 3)) (ht : (pc : Int) + off = (pt : Int)) (hp : pc + 3 = pf) (ha : a < 2 ^ 31) (hb : b < 2 ^ 31) (kt : a ≤ b → At M G pt L rest h cs sl Z) (kf : b < a → At M G pf L rest h cs sl Z) : At M G pc L (.int (nI b) :: .int (nI a) :: rest) h cs sl Z := at_icmp_le pt pf hd ht hp (fun q => kt ((nI_leI ha hb).mp q)) (fun q => kf (by have := mt (nI_leI ha hb).mpr q; omega))
theorem nI_z {a : Nat} (ha : a < 2 ^ 31) : nI a = 0 ↔ a = 0 := (nI_eq (b := 0) ha (by decide))
theorem at_if_eqN (pt pf : Nat) {a : Nat} {off : Int} (hd : decode M.2.1 pc = .ok (.ifCond .eq off, 3)) (ht : (pc : Int) + off = (pt : Int)) (hp : pc + 3 = pf) (ha : a < 2 ^ 31) (kt : a = 0 → At M G pt L rest h cs sl Z) (kf : a ≠ 0 → At M G pf L rest h cs sl Z) : At M G pc L (.int (nI a) :: rest) h cs sl Z := at_if_eq pt pf hd ht hp (fun q => kt ((nI_z ha).mp q)) (fun q => kf (fun e => q ((nI_z ha).mpr e)))
theorem at_if_neN (pt pf : Nat) {a : Nat} {off : Int} (hd : decode M.2.1 pc = .ok (.ifCond .ne off, 3)) (ht : (pc : Int) + off = (pt : Int)) (hp : pc + 3 = pf) (ha : a < 2 ^ 31) (kt : a ≠ 0 → At M G pt L rest h cs sl Z) (kf : a = 0 → At M G pf L rest h cs sl Z) : At M G pc L (.int (nI a) :: rest) h cs sl Z := at_if_ne pt pf hd ht hp (fun q => kt (fun e => q ((nI_z ha).mpr e))) (fun q => kf ((nI_z ha).mp q))
theorem at_if_ltN (pt pf : Nat) {a : Nat} {off : Int} (hd : decode M.2.1 pc = .ok (.ifCond .lt off, 3)) (ht : (pc : Int) + off = (pt : Int)) (hp : pc + 3 = pf) (ha : a < 2 ^ 31) (kf : At M G pf L rest h cs sl Z) : At M G pc L (.int (nI a) :: rest) h cs sl Z := at_if_lt pt pf hd ht hp (fun q => absurd q (nI_pos ha)) (fun _ => kf)
theorem at_if_geN (pt pf : Nat) {a : Nat} {off : Int} (hd : decode M.2.1 pc = .ok (.ifCond .ge off, 3)) (ht : (pc : Int) + off = (pt : Int)) (hp : pc + 3 = pf) (ha : a < 2 ^ 31) (kt : At M G pt L rest h cs sl Z) : At M G pc L (.int (nI a) :: rest) h cs sl Z := at_if_ge pt pf hd ht hp (fun _ => kt) (fun q => absurd (nI_pos' ha) q)
theorem at_if_leN (pt pf : Nat) {a : Nat} {off : Int} (hd : decode M.2.1 pc = .ok (.ifCond .le off, 3)) (ht : (pc : Int) + off = (pt : Int)) (hp : pc + 3 = pf) (ha : a < 2 ^ 31) (kt : a = 0 → At M G pt L rest h cs sl Z) (kf : 0 < a → At M G pf L rest h cs sl Z) : At M G pc L (.int (nI a) :: rest) h cs sl Z := at_if_le pt pf hd ht hp (fun q => kt (by have := (nI_leI (b := 0) ha (by decide)).mp q; omega)) (fun q => kf (by have := mt (nI_leI (b := 0) ha (by decide)).mpr q; omega))
theorem at_if_gtN (pt pf : Nat) {a : Nat} {off : Int} (hd : decode M.2.1 pc = .ok (.ifCond .gt off, 3)) (ht : (pc : Int) + off = (pt : Int)) (hp : pc + 3 = pf) (ha : a < 2 ^ 31) (kt : 0 < a → At M G pt L rest h cs sl Z) (kf : a = 0 → At M G pf L rest h cs sl Z) : At M G pc L (.int (nI a) :: rest) h cs sl Z := at_if_gt pt pf hd ht hp (fun q => kt ((nI_ltI (a := 0) (by decide) ha).mp q)) (fun q => kf (by have := mt (nI_ltI (a := 0) (by decide) ha).mpr q; omega))
theorem at_if_eqB (pt pf : Nat) {b : Bool} {off : Int} (hd : decode M.2.1 pc = .ok (.ifCond .eq off, 3)) (ht : (pc : Int) + off = (pt : Int)) (hp : pc + 3 = pf) (kt : b = false → At M G pt L rest h cs sl Z) (kf : b = true → At M G pf L rest h cs sl Z) : At M G pc L (.int (bI b) :: rest) h cs sl Z := at_if_eq pt pf hd ht hp (fun q => kt (by cases b; rfl; exact absurd q (by decide))) (fun q => kf (by cases b; exact absurd rfl q; rfl))
theorem at_if_neB (pt pf : Nat) {b : Bool} {off : Int} (hd : decode M.2.1 pc = .ok (.ifCond .ne off, 3)) (ht : (pc : Int) + off = (pt : Int)) (hp : pc + 3 = pf) (kt : b = true → At M G pt L rest h cs sl Z) (kf : b = false → At M G pf L rest h cs sl Z) : At M G pc L (.int (bI b) :: rest) h cs sl Z := at_if_ne pt pf hd ht hp (fun q => kt (by cases b; exact absurd rfl q; rfl)) (fun q => kf (by cases b; rfl; exact absurd q (by decide)))
theorem lgc_le {a b : Nat} (ha : a < 2 ^ 63) (hb : b < 2 ^ 63) : lg_cmp (lN a) (lN b) ≤ 0 ↔ a ≤ b := by
  unfold lg_cmp
  have h1 := pk_lLT ha hb
  have h2 := pk_lLT hb ha
  have h3 := pk_lEQ ha hb
  by_cases c1 : a < b
  · simp [h1, h2, h3, c1, show ¬ b < a by omega, show a ≤ b by omega, show ¬ a = b by omega]
  · by_cases c2 : a = b
    · subst c2; simp
    · simp [h1, h2, h3, c1, c2, show b < a by omega, show ¬ a ≤ b by omega]
theorem lgc_ge {a b : Nat} (ha : a < 2 ^ 63) (hb : b < 2 ^ 63) : 0 ≤ lg_cmp (lN a) (lN b) ↔ b ≤ a := by
  unfold lg_cmp
  have h1 := pk_lLT ha hb
  have h2 := pk_lLT hb ha
  have h3 := pk_lEQ ha hb
  by_cases c1 : a < b
  · simp [h1, h2, h3, c1, show ¬ b < a by omega, show ¬ b ≤ a by omega, show ¬ a = b by omega]
  · by_cases c2 : a = b
    · subst c2; simp
    · simp [h1, h2, h3, c1, c2, show b < a by omega, show b ≤ a by omega]
theorem at_lcmp_leN (pi pt pf : Nat) {a b : Nat} {off : Int} (hd : decode M.2.1 pc = .ok (.lcmp, 1)) (hp : pc + 1 = pi) (hd2 : decode M.2.1 pi = .ok (.ifCond .le off, 3)) (ht : (pi : Int) + off = (pt : Int)) (hpf : pi + 3 = pf) (ha : a < 2 ^ 63) (hb : b < 2 ^ 63) (kt : a ≤ b → At M G pt L rest h cs sl Z) (kf : b < a → At M G pf L rest h cs sl Z) : At M G pc L (.long (lN b) :: .long (lN a) :: rest) h cs sl Z :=
  at_lcmp pi hd hp (at_if_le pt pf hd2 ht hpf (fun q => kt ((lgc_le ha hb).mp q)) (fun q => kf (by have := mt (lgc_le ha hb).mpr q; omega)))
theorem at_lcmp_gtN (pi pt pf : Nat) {a b : Nat} {off : Int} (hd : decode M.2.1 pc = .ok (.lcmp, 1)) (hp : pc + 1 = pi) (hd2 : decode M.2.1 pi = .ok (.ifCond .gt off, 3)) (ht : (pi : Int) + off = (pt : Int)) (hpf : pi + 3 = pf) (ha : a < 2 ^ 63) (hb : b < 2 ^ 63) (kt : b < a → At M G pt L rest h cs sl Z) (kf : a ≤ b → At M G pf L rest h cs sl Z) : At M G pc L (.long (lN b) :: .long (lN a) :: rest) h cs sl Z :=
  at_lcmp pi hd hp (at_if_gt pt pf hd2 ht hpf (fun q => kt (by have h1 := (lgc_le ha hb); have : ¬ lg_cmp (lN a) (lN b) ≤ 0 := Int32.not_le.mpr q; rw [h1] at this; omega)) (fun q => kf ((lgc_le ha hb).mp (Int32.not_lt.mp q))))
theorem at_lcmp_ltN (pi pt pf : Nat) {a b : Nat} {off : Int} (hd : decode M.2.1 pc = .ok (.lcmp, 1)) (hp : pc + 1 = pi) (hd2 : decode M.2.1 pi = .ok (.ifCond .lt off, 3)) (ht : (pi : Int) + off = (pt : Int)) (hpf : pi + 3 = pf) (ha : a < 2 ^ 63) (hb : b < 2 ^ 63) (kt : a < b → At M G pt L rest h cs sl Z) (kf : b ≤ a → At M G pf L rest h cs sl Z) : At M G pc L (.long (lN b) :: .long (lN a) :: rest) h cs sl Z :=
  at_lcmp pi hd hp (at_if_lt pt pf hd2 ht hpf (fun q => kt (by have h1 := (lgc_ge ha hb); have : ¬ 0 ≤ lg_cmp (lN a) (lN b) := Int32.not_le.mpr q; rw [h1] at this; omega)) (fun q => kf ((lgc_ge ha hb).mp (Int32.not_lt.mp q))))
theorem at_lcmp_geN (pi pt pf : Nat) {a b : Nat} {off : Int} (hd : decode M.2.1 pc = .ok (.lcmp, 1)) (hp : pc + 1 = pi) (hd2 : decode M.2.1 pi = .ok (.ifCond .ge off, 3)) (ht : (pi : Int) + off = (pt : Int)) (hpf : pi + 3 = pf) (ha : a < 2 ^ 63) (hb : b < 2 ^ 63) (kt : b ≤ a → At M G pt L rest h cs sl Z) (kf : a < b → At M G pf L rest h cs sl Z) : At M G pc L (.long (lN b) :: .long (lN a) :: rest) h cs sl Z :=
  at_lcmp pi hd hp (at_if_ge pt pf hd2 ht hpf (fun q => kt ((lgc_ge ha hb).mp q)) (fun q => kf (by have := mt (lgc_ge ha hb).mpr q; omega)))
theorem at_lcmp_neN (pi pt pf : Nat) {a b : Nat} {off : Int} (hd : decode M.2.1 pc = .ok (.lcmp, 1)) (hp : pc + 1 = pi) (hd2 : decode M.2.1 pi = .ok (.ifCond .ne off, 3)) (ht : (pi : Int) + off = (pt : Int)) (hpf : pi + 3 = pf) (ha : a < 2 ^ 63) (hb : b < 2 ^ 63) (kt : a ≠ b → At M G pt L rest h cs sl Z) (kf : a = b → At M G pf L rest h cs sl Z) : At M G pc L (.long (lN b) :: .long (lN a) :: rest) h cs sl Z :=
  at_lcmp pi hd hp (at_if_ne pt pf hd2 ht hpf (fun q => kt (fun e => by subst e; exact q (by unfold lg_cmp; simp))) (fun q => kf (by have h1 := (lgc_ge ha hb).mp (by rw [q]; decide); have h2 := (lgc_le ha hb).mp (by rw [q]; decide); omega)))
end ATN
end
section
/-! ===== helpers ===== -/
theorem ct_at {M : MI} {av L : List Value} {h : List PC} {Q : Option Value → List PC → Prop} (hy : plainName M.1.cls = true) (hc : av.all (fun v => v.category == 1) = true) (hL : av ++ List.replicate (M.2.2.1 - av.length) .null = L) (hn : av.length ≤ M.2.2.1)
    (k : At M T0 0 L [] h 0 0 (ZM M Q)) : Ct M av h Q :=
  ct_of_at hy (fun v hv => by have := List.all_eq_true.mp hc v hv; simpa using this) hL hn k
theorem bI_t {p : Prop} [Decidable p] (h : p) : (some (Value.int (nI 1)) : Option Value) = some (.int (bI (decide p))) := by rw [decide_eq_true h]; rfl
theorem bI_f {p : Prop} [Decidable p] (h : ¬ p) : (some (Value.int (nI 0)) : Option Value) = some (.int (bI (decide p))) := by rw [decide_eq_false h]; rfl
theorem i_nlt {a b : Int32} (h : ¬ a < b) : b ≤ a := Int32.not_lt.mp h
theorem i_nle {a b : Int32} (h : ¬ a ≤ b) : b < a := Int32.not_le.mp h
/-- the cells of the class, by their places -/
abbrev oTankObj (wanted : Int32) : PC := .inr (11, [.ref 4, .ref 18, .ref 36, .ref 39, .ref 55, .ref 59, .ref 21, .ref 62, .ref 68, .ref 96, .int wanted])
abbrev oSharer : PC := .inr (9, [.ref 2, .ref 3])
abbrev oFeeds (cnt : Nat) : PC := .inr (2, [.int (nI cnt), .ref 5, .ref 6, .ref 15, .ref 16, .ref 17])
abbrev oMix (made : Nat) : PC := .inr (6, [.int (nI made), .ref 19, .ref 20])
abbrev oColours (cnt : Nat) : PC := .inr (1, [.int (nI cnt), .ref 22, .ref 29])
abbrev oSearch (cost : Nat) : PC := .inr (7, [.ref 4, .ref 21, .ref 37, .ref 38, .int (nI cost)])
abbrev oTank (t : Nat) (made cc w p still : Nat) : PC := .inr (10, [.ref 1, .ref (t + 1), .ref (t + 8), .int (nI made), .int (nI cc), .int (nI w), .int (nI p), .int (nI still)])
abbrev oCharge (q : Nat) (size : Nat) : PC := .inr (0, [.ref 4, .ref 18, .ref 1, .ref (q + 1), .ref (q + 2), .ref (q + 3), .int (nI size)])
abbrev oGlass (g : Nat) (grams : Nat) : PC := .inr (4, [.ref (g + 1), .ref (g + 2), .int (nI grams)])
abbrev oLog (cnt waste put : Nat) : PC := .inr (5, [.int (nI cnt), .int (nI waste), .int (nI put), .ref 63, .ref 64, .ref 65, .ref 66, .ref 67])
abbrev oForecast : PC := .inr (3, [.ref 39, .ref 21, .ref 69, .ref 73, .ref 77, .ref 93])
abbrev oRing (size : Nat) : PC := .inr (8, [.ref 97, .ref 104, .int (nI size), .ref 105])
/-- rows of an array of arrays: the outer array at k, its n rows behind it -/
def rowsAt (k : Nat) (n : Nat) : Nat → Option Nat := fun i => if i < n then some (k + 1 + i) else none
theorem rowsAt_in {k n i : Nat} (h : i < n) : rowsAt k n i = some (k + 1 + i) := if_pos h
/-- an array whose first n places hold f -/
def Ar (h : List PC) (k n : Nat) (f : Nat → Nat) : Prop := ∃ w, h[k]? = some (aI n w) ∧ ∀ i, i < n → w i = f i
theorem Ar.of {h : List PC} {k n : Nat} {f : Nat → Nat} (e : h[k]? = some (aI n f)) : Ar h k n f := ⟨f, e, fun _ _ => rfl⟩
theorem Ar.nw {h h' : List PC} {k n j : Nat} {f : Nat → Nat} {c : PC} (a : Ar h k n f) (nn : Nw h j c h') (hj : k ≠ j) : Ar h' k n f := by
  obtain ⟨w, h1, h2⟩ := a
  exact ⟨w, nn.o hj h1, h2⟩
theorem Ar.fr {P : Nat → Prop} {h h' : List PC} {k n : Nat} {f : Nat → Nat} (a : Ar h k n f) (fr : Fr P h h') (hk : ¬ P k) : Ar h' k n f := by
  obtain ⟨w, h1, h2⟩ := a
  exact ⟨w, fr.at hk h1, h2⟩
theorem Ar.cg {h : List PC} {k n : Nat} {f g : Nat → Nat} (a : Ar h k n f) (e : ∀ i, i < n → f i = g i) : Ar h k n g := by
  obtain ⟨w, h1, h2⟩ := a
  exact ⟨w, h1, fun i hi => (h2 i hi).trans (e i hi)⟩
def wi (x lo hi : Int32) : Bool := decide (lo ≤ x ∧ x ≤ hi)
theorem wi_t {x : Int32} {a b : Nat} (h : wi x (nI a) (nI b) = true) (hb : b < 2 ^ 31) (ha : a < 2 ^ 31) : ∃ j, a ≤ j ∧ j ≤ b ∧ x = nI j := by
  unfold wi at h
  obtain ⟨h1, h2⟩ := of_decide_eq_true h
  have e1 := Int32.le_iff_toInt_le.mp h1
  have e2 := Int32.le_iff_toInt_le.mp h2
  rw [nI_toInt ha] at e1
  rw [nI_toInt hb] at e2
  refine ⟨x.toInt.toNat, by omega, by omega, ?_⟩
  apply Int32.toInt_inj.mp
  rw [nI_toInt (by omega)]
  omega
theorem wi_nI {j a b : Nat} (hj : j < 2 ^ 31) (ha : a < 2 ^ 31) (hb : b < 2 ^ 31) : wi (nI j) (nI a) (nI b) = decide (a ≤ j ∧ j ≤ b) := by
  unfold wi
  simp only [nI_leI ha hj, nI_leI hj hb]
section ATZ
variable {M : MI} {G : GT} {pc : Nat} {L rest : List Value} {h : List PC} {cs sl : Nat} {Z : ZT}
theorem at_zsN (pc' : Nat) {k j x : Nat} (hd : decode M.2.1 pc = .ok (.bastore, 1)) (hp : pc + 1 = pc') (hx : x ≤ 1) (kk : ∃ (n : Nat) (w : Nat → Nat), h[k]? = some (aZ n (fun i => nI (w i))) ∧ j < n ∧ n < 2 ^ 31 ∧ ∀ h' : List PC, Nw h k (aZ n (fun i => nI (updN w j x i))) h' → At M G pc' L rest h' cs sl Z) : At M G pc L (.int (nI x) :: .int (nI j) :: .ref k :: rest) h cs sl Z := by
  obtain ⟨n, w, h1, h2, h3, h4⟩ := kk
  have e : nI x = bI (decide (x = 1)) := by
    rcases Nat.lt_or_ge x 1 with q | q
    · rw [show x = 0 by omega]; rfl
    · rw [show x = 1 by omega]; rfl
  rw [e]
  refine at_zs pc' hd hp ⟨n, _, h1, h2, h3, fun h' n' => h4 h' ?_⟩
  rw [← e, updN_I] at n'
  exact n'
end ATZ
end
section
/-! ===== sums, the greatest, sharing ===== -/
def sm (f : Nat → Nat) : Nat → Nat
  | 0 => 0
  | n + 1 => sm f n + f n
theorem sm_congr {f g : Nat → Nat} : ∀ {n : Nat}, (∀ i, i < n → f i = g i) → sm f n = sm g n
  | 0, _ => rfl
  | n + 1, h => by
    show sm f n + f n = sm g n + g n
    rw [sm_congr (fun i hi => h i (by omega)), h n (by omega)]
theorem sm_le {f g : Nat → Nat} : ∀ {n : Nat}, (∀ i, i < n → f i ≤ g i) → sm f n ≤ sm g n
  | 0, _ => Nat.le_refl _
  | n + 1, h => by
    have h1 := sm_le (n := n) (fun i hi => h i (by omega))
    have h2 := h n (by omega)
    show sm f n + f n ≤ sm g n + g n
    omega
theorem sm_mono (f : Nat → Nat) : ∀ {m n : Nat}, m ≤ n → sm f m ≤ sm f n
  | m, 0, h => by rw [Nat.le_zero.mp h]; exact Nat.le_refl _
  | m, n + 1, h => by
    rcases Nat.lt_or_ge m (n + 1) with q | q
    · have := sm_mono f (m := m) (n := n) (by omega)
      show sm f m ≤ sm f n + f n
      omega
    · rw [show m = n + 1 by omega]; exact Nat.le_refl _
theorem sm_el (f : Nat → Nat) {i n : Nat} (h : i < n) : f i ≤ sm f n := by
  have := sm_mono f (m := i + 1) (n := n) h
  have h2 : sm f (i + 1) = sm f i + f i := rfl
  omega
theorem sm_zero (n : Nat) : sm (fun _ => 0) n = 0 := by
  induction n with
  | zero => rfl
  | succ n ih => show sm (fun _ => 0) n + 0 = 0; omega
theorem sm_ext0 {f : Nat → Nat} {m : Nat} : ∀ {n : Nat}, m ≤ n → (∀ i, m ≤ i → i < n → f i = 0) → sm f n = sm f m
  | 0, h, _ => by rw [Nat.le_zero.mp h]
  | n + 1, h, h0 => by
    rcases Nat.lt_or_ge m (n + 1) with q | q
    · show sm f n + f n = _
      rw [h0 n (by omega) (by omega), sm_ext0 (m := m) (n := n) (by omega) (fun i a b => h0 i a (by omega))]
      omega
    · rw [show m = n + 1 by omega]
theorem sm_updN (f : Nat → Nat) (k x : Nat) : ∀ {n : Nat}, k < n → sm (updN f k x) n + f k = sm f n + x
  | 0, h => absurd h (Nat.not_lt_zero _)
  | n + 1, h => by
    show sm (updN f k x) n + updN f k x n + f k = sm f n + f n + x
    by_cases e : k = n
    · subst e
      rw [updN_s, sm_congr (g := f) (fun i hi => updN_n f x (by omega))]
      omega
    · have := sm_updN f k x (n := n) (by omega)
      rw [updN_n f x (fun q => e q.symm)]
      omega
theorem sm_mul (c : Nat) (f : Nat → Nat) : ∀ n, sm (fun i => c * f i) n = c * sm f n
  | 0 => by simp [sm]
  | n + 1 => by
    show sm (fun i => c * f i) n + c * f n = c * (sm f n + f n)
    rw [sm_mul c f n, Nat.mul_add]
theorem sm_add (f g : Nat → Nat) : ∀ n, sm (fun i => f i + g i) n = sm f n + sm g n
  | 0 => rfl
  | n + 1 => by
    show sm (fun i => f i + g i) n + (f n + g n) = sm f n + f n + (sm g n + g n)
    rw [sm_add f g n]; omega
theorem sm_bound {f : Nat → Nat} {c : Nat} : ∀ {n : Nat}, (∀ i, i < n → f i ≤ c) → sm f n ≤ n * c
  | 0, _ => by simp [sm]
  | n + 1, h => by
    have h1 := sm_bound (n := n) (fun i hi => h i (by omega))
    have h2 := h n (by omega)
    show sm f n + f n ≤ (n + 1) * c
    rw [Nat.succ_mul]; omega
def best (r : Nat → Nat) : Nat → Nat
  | 0 => 0
  | n + 1 => if r (best r n) < r n then n else best r n
theorem best_spec (r : Nat → Nat) : ∀ n, 0 < n → best r n < n ∧ (∀ i, i < n → r i ≤ r (best r n)) ∧ ∀ i, i < best r n → r i < r (best r n)
  | 0, h => absurd h (Nat.lt_irrefl _)
  | 1, _ => by
    have e : best r 1 = 0 := by simp [best]
    rw [e]
    exact ⟨by omega, fun i hi => by rw [show i = 0 by omega]; exact Nat.le_refl _, fun i hi => by omega⟩
  | n + 2, _ => by
    obtain ⟨h1, h2, h3⟩ := best_spec r (n + 1) (by omega)
    have e : best r (n + 2) = if r (best r (n + 1)) < r (n + 1) then n + 1 else best r (n + 1) := rfl
    by_cases c : r (best r (n + 1)) < r (n + 1)
    · rw [if_pos c] at e
      rw [e]
      refine ⟨by omega, fun i hi => ?_, fun i hi => ?_⟩
      · by_cases q : i = n + 1
        · rw [q]; exact Nat.le_refl _
        · have := h2 i (by omega); omega
      · have := h2 i hi; omega
    · rw [if_neg c] at e
      rw [e]
      refine ⟨by omega, fun i hi => ?_, h3⟩
      by_cases q : i = n + 1
      · rw [q]; omega
      · exact h2 i (by omega)
theorem best_uniq {r : Nat → Nat} {n b : Nat} (hb : b < n) (h2 : ∀ i, i < n → r i ≤ r b) (h3 : ∀ i, i < b → r i < r b) : best r n = b := by
  obtain ⟨k1, k2, k3⟩ := best_spec r n (by omega)
  rcases Nat.lt_trichotomy (best r n) b with q | q | q
  · have := h3 _ q
    have := k2 b hb
    omega
  · exact q
  · have := k3 _ q
    have := h2 _ k1
    omega
def cnt (r : Nat → Nat) : Nat → Nat
  | 0 => 0
  | n + 1 => cnt r n + (if 0 < r n then 1 else 0)
theorem cnt_ex {r : Nat → Nat} : ∀ {n : Nat}, 0 < cnt r n → ∃ i, i < n ∧ 0 < r i
  | 0, h => absurd h (Nat.lt_irrefl _)
  | n + 1, h => by
    by_cases c : 0 < r n
    · exact ⟨n, by omega, c⟩
    · have e : cnt r (n + 1) = cnt r n + (if 0 < r n then 1 else 0) := rfl
      rw [if_neg c] at e
      obtain ⟨i, h1, h2⟩ := cnt_ex (r := r) (n := n) (by omega)
      exact ⟨i, by omega, h2⟩
theorem cnt_upd {r : Nat → Nat} {b : Nat} (hb : 0 < r b) : ∀ {n : Nat}, b < n → cnt (updN r b 0) n + 1 = cnt r n
  | 0, h => absurd h (Nat.not_lt_zero _)
  | n + 1, h => by
    show cnt (updN r b 0) n + (if 0 < updN r b 0 n then 1 else 0) + 1 = cnt r n + (if 0 < r n then 1 else 0)
    by_cases e : b = n
    · subst e
      rw [updN_s, if_neg (by omega), if_pos hb]
      have : ∀ {m : Nat}, m ≤ b → cnt (updN r b 0) m = cnt r m := by
        intro m
        induction m with
        | zero => intro _; rfl
        | succ m ih =>
          intro hm
          show cnt (updN r b 0) m + (if 0 < updN r b 0 m then 1 else 0) = cnt r m + (if 0 < r m then 1 else 0)
          rw [ih (by omega), updN_n r 0 (by omega)]
      rw [this (Nat.le_refl _)]
    · have ih := cnt_upd hb (n := n) (by omega)
      rw [updN_n r 0 (fun q => e q.symm)]
      omega
theorem best_pos {r : Nat → Nat} {n : Nat} (h : 0 < cnt r n) : best r n < n ∧ 0 < r (best r n) := by
  obtain ⟨i, h1, h2⟩ := cnt_ex h
  obtain ⟨k1, k2, -⟩ := best_spec r n (by omega)
  exact ⟨k1, Nat.lt_of_lt_of_le h2 (k2 i h1)⟩
/-- one more to the greatest, k times -/
def give (n : Nat) : Nat → (Nat → Nat) → (Nat → Nat) → (Nat → Nat)
  | 0, _, got => got
  | k + 1, r, got => give n k (updN r (best r n) 0) (updN got (best r n) (got (best r n) + 1))
def prt (g : Nat) (w : Nat → Nat) (T i : Nat) : Nat := g * w i / T
def rst (g : Nat) (w : Nat → Nat) (T i : Nat) : Nat := g * w i % T
def share (g : Nat) (w : Nat → Nat) (n : Nat) : Nat → Nat := give n (g - sm (prt g w (sm w n)) n) (rst g w (sm w n)) (prt g w (sm w n))
theorem sm_split (g : Nat) (w : Nat → Nat) (T : Nat) (n : Nat) : T * sm (prt g w T) n + sm (rst g w T) n = g * sm w n := by
  rw [← sm_mul, ← sm_add, ← sm_mul]
  apply sm_congr
  intro i _
  show T * (g * w i / T) + g * w i % T = g * w i
  exact Nat.div_add_mod _ _
theorem rst_cnt {r : Nat → Nat} {T : Nat} (hT : 0 < T) : ∀ {n : Nat}, (∀ i, i < n → r i < T) → sm r n ≤ cnt r n * (T - 1)
  | 0, _ => by simp [sm]
  | n + 1, h => by
    have ih := rst_cnt hT (n := n) (fun i hi => h i (by omega))
    have h2 := h n (by omega)
    show sm r n + r n ≤ (cnt r n + (if 0 < r n then 1 else 0)) * (T - 1)
    by_cases c : 0 < r n
    · rw [if_pos c, Nat.succ_mul]; omega
    · rw [if_neg c]
      have : r n = 0 := by omega
      rw [this]; simpa using ih
theorem left_cnt {g : Nat} {w : Nat → Nat} {n : Nat} (hT : 0 < sm w n) : sm (prt g w (sm w n)) n ≤ g ∧ g - sm (prt g w (sm w n)) n ≤ cnt (rst g w (sm w n)) n := by
  have h1 := sm_split g w (sm w n) n
  have h2 := rst_cnt (r := rst g w (sm w n)) hT (n := n) (fun i _ => Nat.mod_lt _ hT)
  generalize sm w n = T at *
  generalize sm (prt g w T) n = a at *
  generalize sm (rst g w T) n = b at *
  generalize cnt (rst g w T) n = c at *
  have hag : a ≤ g := by
    have : T * a ≤ T * g := by rw [Nat.mul_comm T g]; omega
    exact Nat.le_of_mul_le_mul_left this hT
  refine ⟨hag, ?_⟩
  have e : T * (g - a) = b := by rw [Nat.mul_sub, Nat.mul_comm T g]; omega
  have h3 : T * (g - a) ≤ c * T := by
    have : c * (T - 1) ≤ c * T := Nat.mul_le_mul_left _ (by omega)
    omega
  rw [Nat.mul_comm] at h3
  exact Nat.le_of_mul_le_mul_right h3 hT
theorem give_sum (n : Nat) (hn : 0 < n) : ∀ (k : Nat) (r got : Nat → Nat), sm (give n k r got) n = sm got n + k
  | 0, _, _ => rfl
  | k + 1, r, got => by
    show sm (give n k _ _) n = _
    rw [give_sum n hn k]
    have := sm_updN got (best r n) (got (best r n) + 1) (best_spec r n hn).1
    omega
theorem give_out (n : Nat) : ∀ (k : Nat) (r got : Nat → Nat) (i : Nat), n ≤ i → 0 < n → give n k r got i = got i
  | 0, _, _, _, _, _ => rfl
  | k + 1, r, got, i, h, hn => by
    show give n k _ _ i = _
    rw [give_out n k _ _ i h hn, updN_n]
    have := (best_spec r n hn).1
    omega
/-- each place gets at most one, and only where there is a rest -/
theorem give_le (n : Nat) : ∀ (k : Nat) (r got : Nat → Nat), k ≤ cnt r n → ∀ i, got i ≤ give n k r got i ∧ give n k r got i ≤ got i + 1 ∧ (r i = 0 → give n k r got i = got i)
  | 0, _, _, _, i => ⟨Nat.le_refl _, Nat.le_succ _, fun _ => rfl⟩
  | k + 1, r, got, h, i => by
    obtain ⟨hb, hp⟩ := best_pos (r := r) (n := n) (by omega)
    have hc := cnt_upd hp hb
    have ih := give_le n k (updN r (best r n) 0) (updN got (best r n) (got (best r n) + 1)) (by omega) i
    show _ ≤ give n k _ _ i ∧ give n k _ _ i ≤ _ ∧ (_ → give n k _ _ i = _)
    by_cases e : i = best r n
    · have e2 := ih.2.2 (by rw [e, updN_s])
      rw [e2, e, updN_s]
      refine ⟨by omega, by omega, fun q => by omega⟩
    · rw [updN_n got _ e, updN_n r _ e] at ih
      exact ih
theorem share_sum {g : Nat} {w : Nat → Nat} {n : Nat} (hT : 0 < sm w n) : sm (share g w n) n = g := by
  have hn : 0 < n := by
    rcases Nat.eq_zero_or_pos n with q | q
    · rw [q] at hT; exact absurd hT (Nat.lt_irrefl _)
    · exact q
  unfold share
  rw [give_sum n hn]
  have := (left_cnt (g := g) hT).1
  omega
theorem share_zero {g : Nat} {w : Nat → Nat} {n i : Nat} (hT : 0 < sm w n) (h0 : w i = 0) : share g w n i = 0 := by
  have h := give_le n _ (rst g w (sm w n)) (prt g w (sm w n)) (left_cnt (g := g) hT).2 i
  unfold share
  rw [h.2.2 (by unfold rst; rw [h0]; simp)]
  unfold prt; rw [h0]; simp
theorem share_le {g : Nat} {w : Nat → Nat} {n : Nat} (hT : 0 < sm w n) (hg : g ≤ sm w n) (i : Nat) : share g w n i ≤ w i := by
  have h := give_le n _ (rst g w (sm w n)) (prt g w (sm w n)) (left_cnt (g := g) hT).2 i
  unfold share
  generalize hx : give n (g - sm (prt g w (sm w n)) n) (rst g w (sm w n)) (prt g w (sm w n)) i = x at *
  generalize sm w n = T at *
  have hdm : T * prt g w T i + rst g w T i = g * w i := Nat.div_add_mod _ _
  have h1 : g * w i ≤ T * w i := Nat.mul_le_mul_right _ hg
  by_cases c : rst g w T i = 0
  · rw [h.2.2 c]
    have : T * prt g w T i ≤ T * w i := by omega
    exact Nat.le_of_mul_le_mul_left this hT
  · have h2 : T * prt g w T i < T * w i := by omega
    have h3 : prt g w T i < w i := Nat.lt_of_mul_lt_mul_left h2
    omega
theorem share_le_g {g : Nat} {w : Nat → Nat} {n i : Nat} (hT : 0 < sm w n) (hi : i < n) : share g w n i ≤ g := by
  have := sm_el (share g w n) hi
  rw [share_sum hT] at this
  exact this
theorem best_scale {r : Nat → Nat} {c n : Nat} (hc : 0 < c) (hn : 0 < n) : best (fun i => c * r i) n = best r n := by
  obtain ⟨k1, k2, k3⟩ := best_spec r n hn
  exact best_uniq k1 (fun i hi => Nat.mul_le_mul_left _ (k2 i hi)) (fun i hi => Nat.mul_lt_mul_of_pos_left (k3 i hi) hc)
theorem give_scale {c n : Nat} (hc : 0 < c) (hn : 0 < n) : ∀ (k : Nat) (r got : Nat → Nat), give n k (fun i => c * r i) got = give n k r got
  | 0, _, _ => rfl
  | k + 1, r, got => by
    show give n k _ _ = give n k _ _
    rw [best_scale hc hn, ← give_scale hc hn k (updN r (best r n) 0)]
    congr 1
    funext i
    unfold updN
    by_cases e : i = best r n <;> simp [e]
theorem share_scale {g : Nat} {w : Nat → Nat} {c n : Nat} (hc : 0 < c) (hn : 0 < n) : share g (fun i => c * w i) n = share g w n := by
  unfold share
  rw [sm_mul]
  have e1 : prt g (fun i => c * w i) (c * sm w n) = prt g w (sm w n) := by
    funext i
    show g * (c * w i) / (c * sm w n) = g * w i / sm w n
    rw [Nat.mul_left_comm, Nat.mul_div_mul_left _ _ hc]
  have e2 : rst g (fun i => c * w i) (c * sm w n) = fun i => c * rst g w (sm w n) i := by
    funext i
    show g * (c * w i) % (c * sm w n) = c * (g * w i % sm w n)
    rw [Nat.mul_left_comm, Nat.mul_mod_mul_left]
  rw [e1, e2, give_scale hc hn]
theorem best_ext {r : Nat → Nat} {m n : Nat} (hmn : m ≤ n) (h0 : ∀ i, m ≤ i → i < n → r i = 0) (hc : 0 < cnt r m) : best r n = best r m := by
  obtain ⟨hb, hp⟩ := best_pos hc
  obtain ⟨k1, k2, k3⟩ := best_spec r m (by omega)
  refine best_uniq (by omega) (fun i hi => ?_) k3
  rcases Nat.lt_or_ge i m with q | q
  · exact k2 i q
  · rw [h0 i q hi]; omega
theorem give_ext {m n : Nat} (hmn : m ≤ n) : ∀ (k : Nat) (r got : Nat → Nat), k ≤ cnt r m → (∀ i, m ≤ i → i < n → r i = 0) → give n k r got = give m k r got
  | 0, _, _, _, _ => rfl
  | k + 1, r, got, h, h0 => by
    obtain ⟨hb, hp⟩ := best_pos (r := r) (n := m) (by omega)
    have hcu := cnt_upd hp hb
    show give n k _ _ = give m k _ _
    rw [best_ext hmn h0 (by omega)]
    exact give_ext hmn k _ _ (by omega) (fun i a b => by
      by_cases e : i = best r m
      · rw [e, updN_s]
      · rw [updN_n _ _ e]; exact h0 i a b)
theorem share_ext {g : Nat} {w : Nat → Nat} {m n : Nat} (hmn : m ≤ n) (h0 : ∀ i, m ≤ i → i < n → w i = 0) (hT : 0 < sm w m) : share g w n = share g w m := by
  unfold share
  have e : sm w n = sm w m := sm_ext0 hmn h0
  rw [e]
  have e2 : sm (prt g w (sm w m)) n = sm (prt g w (sm w m)) m := sm_ext0 hmn (fun i a b => by unfold prt; rw [h0 i a b]; simp)
  rw [e2]
  exact give_ext hmn _ _ _ (left_cnt hT).2 (fun i a b => by unfold rst; rw [h0 i a b]; simp)
theorem best_congr {r r' : Nat → Nat} : ∀ {n : Nat}, (∀ i, i < n → r i = r' i) → best r n = best r' n
  | 0, _ => rfl
  | 1, _ => by simp [best]
  | n + 2, h => by
    have ih := best_congr (n := n + 1) (fun i hi => h i (by omega))
    have hb := (best_spec r' (n + 1) (by omega)).1
    show (if r (best r (n + 1)) < r (n + 1) then n + 1 else best r (n + 1)) = (if r' (best r' (n + 1)) < r' (n + 1) then n + 1 else best r' (n + 1))
    rw [ih, h (n + 1) (by omega), h _ (by omega)]
theorem give_congr {n : Nat} (hn : 0 < n) : ∀ (k : Nat) (r r' got got' : Nat → Nat), (∀ i, i < n → r i = r' i) → (∀ i, i < n → got i = got' i) → ∀ i, i < n → give n k r got i = give n k r' got' i
  | 0, _, _, _, _, _, hg, i, hi => hg i hi
  | k + 1, r, r', got, got', hr, hg, i, hi => by
    show give n k _ _ i = give n k _ _ i
    have hb := (best_spec r' n hn).1
    rw [best_congr hr]
    refine give_congr hn k _ _ _ _ (fun i hi => ?_) (fun i hi => ?_) i hi
    · by_cases e : i = best r' n
      · rw [e, updN_s, updN_s]
      · rw [updN_n _ _ e, updN_n _ _ e, hr i hi]
    · by_cases e : i = best r' n
      · rw [e, updN_s, updN_s, hg _ hb]
      · rw [updN_n _ _ e, updN_n _ _ e, hg i hi]
theorem share_congr {g : Nat} {w w' : Nat → Nat} {n : Nat} (hn : 0 < n) (h : ∀ i, i < n → w i = w' i) : ∀ i, i < n → share g w n i = share g w' n i := by
  intro i hi
  unfold share
  rw [sm_congr h]
  have e : ∀ i, i < n → prt g w (sm w' n) i = prt g w' (sm w' n) i := fun i hi => by unfold prt; rw [h i hi]
  rw [sm_congr e]
  exact give_congr hn _ _ _ _ _ (fun i hi => by unfold rst; rw [h i hi]) e i hi
/-! the class's way: the rests above 0 alone, side by side -/
def Cmp (n : Nat) (r : Nat → Nat) (m : Nat) (p : Nat → Nat) : Prop := (∀ j, j < m → p j < n) ∧ (∀ i j, i < j → j < m → p i < p j) ∧ ∀ x, x < n → 0 < r x → ∃ j, j < m ∧ p j = x
theorem Cmp_best {n m : Nat} {r p c : Nat → Nat} (h : Cmp n r m p) (hc : ∀ j, j < m → c j = r (p j)) (hp : 0 < cnt r n) : p (best c m) = best r n ∧ best c m < m := by
  obtain ⟨x, hx, hx2⟩ := cnt_ex hp
  obtain ⟨j0, hj0, hj1⟩ := h.2.2 x hx hx2
  obtain ⟨k1, k2, k3⟩ := best_spec c m (by omega)
  have hpos : 0 < r (p (best c m)) := by
    have := k2 j0 hj0
    rw [hc _ hj0, hc _ k1, hj1] at this
    omega
  refine ⟨(best_uniq (h.1 _ k1) (fun i hi => ?_) (fun i hi => ?_)).symm, k1⟩
  · by_cases q : 0 < r i
    · obtain ⟨j, hj, e⟩ := h.2.2 i hi q
      have := k2 j hj
      rw [hc _ hj, hc _ k1, e] at this
      exact this
    · omega
  · by_cases q : 0 < r i
    · obtain ⟨j, hj, e⟩ := h.2.2 i (Nat.lt_trans hi (h.1 _ k1)) q
      have hlt : j < best c m := by
        rcases Nat.lt_trichotomy j (best c m) with z | z | z
        · exact z
        · rw [z] at e; omega
        · have := h.2.1 _ _ z hj; omega
      have := k3 j hlt
      rw [hc _ hj, hc _ k1, e] at this
      exact this
    · omega
def giveC (m : Nat) (p : Nat → Nat) : Nat → (Nat → Nat) → (Nat → Nat) → (Nat → Nat)
  | 0, _, o => o
  | k + 1, c, o => giveC m p k (updN c (best c m) 0) (updN o (p (best c m)) (o (p (best c m)) + 1))
theorem giveC_eq {n m a : Nat} {p : Nat → Nat} : ∀ (k : Nat) (r got c o : Nat → Nat), k ≤ cnt r n → Cmp n r m p → (∀ j, j < m → c j = r (p j)) → (∀ i, i < n → o (a + i) = got i) →
    (∀ i, i < n → giveC m (fun j => a + p j) k c o (a + i) = give n k r got i) ∧ ∀ x, (x < a ∨ a + n ≤ x) → giveC m (fun j => a + p j) k c o x = o x
  | 0, _, _, _, _, _, _, _, ho => ⟨ho, fun _ _ => rfl⟩
  | k + 1, r, got, c, o, hk, hC, hc, ho => by
    obtain ⟨hb, hp⟩ := best_pos (r := r) (n := n) (by omega)
    obtain ⟨e1, e2⟩ := Cmp_best hC hc (by omega)
    have hcu := cnt_upd hp hb
    have ih := giveC_eq (a := a) k (updN r (best r n) 0) (updN got (best r n) (got (best r n) + 1)) (updN c (best c m) 0) (updN o (a + p (best c m)) (o (a + p (best c m)) + 1)) (by omega)
      ⟨hC.1, hC.2.1, fun x hx hx2 => by
        by_cases e : x = best r n
        · rw [e, updN_s] at hx2; omega
        · rw [updN_n _ _ e] at hx2; exact hC.2.2 x hx hx2⟩
      (fun j hj => by
        by_cases e : j = best c m
        · rw [e, updN_s, e1, updN_s]
        · have : p j ≠ best r n := fun q => by
            rw [← e1] at q
            rcases Nat.lt_or_gt_of_ne e with z | z
            · have := hC.2.1 _ _ z e2; omega
            · have := hC.2.1 _ _ z hj; omega
          rw [updN_n _ _ e, updN_n _ _ this, hc j hj])
      (fun i hi => by
        by_cases e : i = best r n
        · rw [e, updN_s, e1, updN_s, ho _ hb]
        · rw [updN_n _ _ e, updN_n _ _ (by rw [e1]; omega), ho i hi])
    refine ⟨ih.1, fun x hx => ?_⟩
    have := ih.2 x hx
    rw [updN_n _ _ (by rw [e1]; omega)] at this
    exact this
/-! the reference's way: a taken rest is -1; W holds the rests and 1, a taken one 0 -/
theorem bestW {n : Nat} {r W : Nat → Nat} (h1 : ∀ i, i < n → W i ≤ r i + 1) (h2 : ∀ i, i < n → 0 < r i → W i = r i + 1) (hp : 0 < cnt r n) : best W n = best r n := by
  obtain ⟨hb, hpos⟩ := best_pos hp
  obtain ⟨k1, k2, k3⟩ := best_spec r n (by omega)
  refine best_uniq k1 (fun i hi => ?_) (fun i hi => ?_)
  · have := h1 i hi
    have := k2 i hi
    rw [h2 _ k1 hpos]; omega
  · have := h1 i (by omega)
    have := k3 i hi
    rw [h2 _ k1 hpos]; omega
end
section
abbrev oModel (feeds colours : Nat) (hasMix isMade cells wide pull : Nat) (wanted : Int32) (hours waste come ringMany : Nat) : PC := .inr (12, [.int (nI feeds), .int (nI colours), .ref 107, .ref 108, .ref 109, .ref 110, .ref 111, .ref 112, .ref 113, .int (nI hasMix), .int (nI isMade), .int (nI cells), .int (nI wide), .int (nI pull), .int wanted, .ref 114, .ref 115, .ref 116, .ref 117, .ref 118, .ref 119, .ref 120, .ref 121, .int (nI hours), .long (lN waste), .long (lN come), .ref 122, .ref 123, .ref 124, .ref 125, .ref 126, .ref 127, .ref 128, .ref 129, .ref 130, .ref 131, .ref 132, .ref 133, .ref 134, .int (nI ringMany)])
theorem c_X9_giveLeft {h : List PC} {m left ko no : Nat} {R P o : Nat → Nat} (h1 : h[1]? = some oSharer) (h2 : h[2]? = some (aL 32 R)) (h3 : h[3]? = some (aI 32 P)) (hO : h[ko]? = some (aI no o)) (hko : ko ≠ 1 ∧ ko ≠ 2 ∧ ko ≠ 3) (hm : m ≤ 32) (hl : left ≤ m) (hP : ∀ j, j < m → P j < no) (hno : no < 2 ^ 31) (hR : ∀ j, j < m → R j < 2 ^ 63) : Ct mX9_giveLeft [.ref 1, .int (nI left), .int (nI m), .ref ko] h (fun r h' => r = none ∧ (∃ R', h'[2]? = some (aL 32 R')) ∧ h'[ko]? = some (aI no (giveC m P left R o)) ∧ Fr (fun j => j = 2 ∨ j = ko) h h') := by
  refine ct_at (L := [_, _, _, _, _, _, _]) (by decide +kernel) rfl rfl (Nat.le_of_ble_eq_true rfl) ?_
  refine at_iconst 1 (nI 0) dX9_giveLeft_0 rfl (by decide) ?_
  refine at_istore (L' := [_, _, _, _, _, _, _]) 3 dX9_giveLeft_1 rfl (by decide) rfl rfl ?_
  have outer : ∀ (d g : Nat) (R' o' : Nat → Nat) (h' : List PC), g + d = left → giveC m P d R' o' = giveC m P left R o → (∀ j, j < m → R' j < 2 ^ 63) → h'[2]? = some (aL 32 R') → h'[ko]? = some (aI no o') → Fr (fun j => j = 2 ∨ j = ko) h h' → At mX9_giveLeft T0 3 [.ref 1, .int (nI left), .int (nI m), .ref ko, .int (nI g), .null, .null] [] h' 0 0 (ZM mX9_giveLeft (fun r h' => r = none ∧ (∃ R', h'[2]? = some (aL 32 R')) ∧ h'[ko]? = some (aI no (giveC m P left R o)) ∧ Fr (fun j => j = 2 ∨ j = ko) h h')) := by
    intro d
    induction d with
    | zero =>
      intro g R' o' h' hg hX hR' a2 aO hfr
      refine at_iload 5 dX9_giveLeft_3 rfl rfl ?_
      refine at_iload_n 6 dX9_giveLeft_5 rfl rfl rfl ?_
      refine at_icmp_geN 82 9 dX9_giveLeft_6 rfl rfl (by omega) (by omega) (fun cc => ?_) (fun cc => ?_)
      · refine at_vret dX9_giveLeft_82 rfl (by decide) (by decide) ?_
        exact ⟨rfl, ⟨_, a2⟩, by rw [aO, ← hX]; rfl, hfr⟩
      · omega
    | succ d ih =>
      intro g R' o' h' hg hX hR' a2 aO hfr
      have a1 := hfr.at (k := 1) (by omega) h1
      have a3 := hfr.at (k := 3) (by omega) h3
      refine at_iload 5 dX9_giveLeft_3 rfl rfl ?_
      refine at_iload_n 6 dX9_giveLeft_5 rfl rfl rfl ?_
      refine at_icmp_geN 82 9 dX9_giveLeft_6 rfl rfl (by omega) (by omega) (fun cc => ?_) (fun cc => ?_)
      · omega
      · refine at_iload 11 dX9_giveLeft_9 rfl rfl ?_
        refine at_iload_n 12 dX9_giveLeft_11 rfl rfl rfl ?_
        refine at_icmp_geN 82 15 dX9_giveLeft_12 rfl rfl (by omega) (by omega) (fun cc => ?_) (fun cc => ?_)
        · omega
        · refine at_iconst 16 (nI 0) dX9_giveLeft_15 rfl (by decide) ?_
          refine at_istore (L' := [_, _, _, _, _, _, _]) 18 dX9_giveLeft_16 rfl (by decide) rfl rfl ?_
          refine at_iconst 19 (nI 1) dX9_giveLeft_18 rfl (by decide) ?_
          refine at_istore (L' := [_, _, _, _, _, _, _]) 21 dX9_giveLeft_19 rfl (by decide) rfl rfl ?_
          have inner : ∀ (e i : Nat), i + e = m → 1 ≤ i → At mX9_giveLeft T0 21 [.ref 1, .int (nI left), .int (nI m), .ref ko, .int (nI g), .int (nI (best R' i)), .int (nI i)] [] h' 0 0 (ZM mX9_giveLeft (fun r h' => r = none ∧ (∃ R', h'[2]? = some (aL 32 R')) ∧ h'[ko]? = some (aI no (giveC m P left R o)) ∧ Fr (fun j => j = 2 ∨ j = ko) h h')) := by
            intro e
            induction e with
            | zero =>
              intro i hi h1i
              have hb := (best_spec R' i (by omega)).1
              have him : i = m := by omega
              refine at_iload 23 dX9_giveLeft_21 rfl rfl ?_
              refine at_iload_n 24 dX9_giveLeft_23 rfl rfl rfl ?_
              refine at_icmp_geN 55 27 dX9_giveLeft_24 rfl rfl (by omega) (by omega) (fun cc => ?_) (fun cc => ?_)
              · rw [him] at hb ⊢
                have hPb := hP (best R' m) hb
                refine at_aload_n 56 dX9_giveLeft_55 rfl rfl rfl ?_
                refine at_aload_n 57 dX9_giveLeft_56 rfl rfl rfl ?_
                refine at_g 60 dX9_giveLeft_57 rfl fl_X9_15 ⟨_, by assumption, ?_⟩
                refine ⟨_, rfl, ?_⟩
                refine at_iload 62 dX9_giveLeft_60 rfl rfl ?_
                first | refine at_ia 63 dX9_giveLeft_62 rfl ⟨_, _, by assumption, by omega, by first | decide | omega, ?_⟩ | refine at_iaG 63 dX9_giveLeft_62 rfl ⟨_, _, by assumption, by omega, by first | decide | omega, ?_⟩
                refine at_dup2 64 dX9_giveLeft_63 rfl rfl rfl ?_
                first | refine at_ia 65 dX9_giveLeft_64 rfl ⟨_, _, by assumption, by omega, by first | decide | omega, ?_⟩ | refine at_iaG 65 dX9_giveLeft_64 rfl ⟨_, _, by assumption, by omega, by first | decide | omega, ?_⟩
                refine at_iconst 66 (nI 1) dX9_giveLeft_65 rfl (by decide) ?_
                first | refine at_iaddN 67 dX9_giveLeft_66 rfl ?_ | refine at_iadd 67 dX9_giveLeft_66 rfl ?_
                first | refine at_is 68 dX9_giveLeft_67 rfl ⟨_, _, by assumption, by omega, by first | decide | omega, fun hh1 nn1 => ?_⟩ | refine at_isG 68 dX9_giveLeft_67 rfl ⟨_, _, by assumption, by omega, by first | decide | omega, fun hh1 nn1 => ?_⟩
                replace a1 := nn1.o (by first | decide | omega | assumption) a1
                replace a2 := nn1.o (by first | decide | omega | assumption) a2
                replace a3 := nn1.o (by first | decide | omega | assumption) a3
                replace aO := nn1.1
                replace hfr := hfr.nw nn1 (by first | (dsimp only; omega) | (dsimp only; done) | simp)
                clear nn1
                refine at_aload_n 69 dX9_giveLeft_68 rfl rfl rfl ?_
                refine at_g 72 dX9_giveLeft_69 rfl fl_X9_9 ⟨_, by assumption, ?_⟩
                refine ⟨_, rfl, ?_⟩
                refine at_iload 74 dX9_giveLeft_72 rfl rfl ?_
                refine at_lconst 75 (lN 0) dX9_giveLeft_74 rfl rfl ?_
                first | refine at_ls 76 dX9_giveLeft_75 rfl ⟨_, _, by assumption, by omega, by first | decide | omega, fun hh2 nn2 => ?_⟩ | refine at_lsJ 76 dX9_giveLeft_75 rfl ⟨_, _, by assumption, by omega, by first | decide | omega, fun hh2 nn2 => ?_⟩
                replace a1 := nn2.o (by first | decide | omega | assumption) a1
                replace a2 := nn2.1
                replace a3 := nn2.o (by first | decide | omega | assumption) a3
                replace aO := nn2.o (by first | decide | omega | assumption) aO
                replace hfr := hfr.nw nn2 (by first | (dsimp only; omega) | (dsimp only; done) | simp)
                clear nn2
                refine at_iincN (q := 1) (L' := [_, _, _, _, _, _, _]) 79 dX9_giveLeft_76 rfl (by decide) rfl (by decide) rfl rfl ?_
                refine at_goto 3 dX9_giveLeft_79 rfl ?_
                refine at_drop (L' := [_, _, _, _, _, _, _]) 5 rfl ?_
                refine at_drop (L' := [_, _, _, _, _, _, _]) 6 rfl ?_
                refine ih (g + 1) _ _ _ (by omega) hX (fun j hj => ?_) a2 aO hfr
                unfold updN
                by_cases e : j = best R' m
                · rw [if_pos e]; decide
                · rw [if_neg e]; exact hR' j hj
              · omega
            | succ e ih2 =>
              intro i hi h1i
              have hb := (best_spec R' i h1i).1
              refine at_iload 23 dX9_giveLeft_21 rfl rfl ?_
              refine at_iload_n 24 dX9_giveLeft_23 rfl rfl rfl ?_
              refine at_icmp_geN 55 27 dX9_giveLeft_24 rfl rfl (by omega) (by omega) (fun cc => ?_) (fun cc => ?_)
              · omega
              · refine at_aload_n 28 dX9_giveLeft_27 rfl rfl rfl ?_
                refine at_g 31 dX9_giveLeft_28 rfl fl_X9_9 ⟨_, by assumption, ?_⟩
                refine ⟨_, rfl, ?_⟩
                refine at_iload 33 dX9_giveLeft_31 rfl rfl ?_
                first | refine at_la 34 dX9_giveLeft_33 rfl ⟨_, _, by assumption, by omega, by first | decide | omega, ?_⟩ | refine at_laJ 34 dX9_giveLeft_33 rfl ⟨_, _, by assumption, by omega, by first | decide | omega, ?_⟩
                refine at_aload_n 35 dX9_giveLeft_34 rfl rfl rfl ?_
                refine at_g 38 dX9_giveLeft_35 rfl fl_X9_9 ⟨_, by assumption, ?_⟩
                refine ⟨_, rfl, ?_⟩
                refine at_iload 40 dX9_giveLeft_38 rfl rfl ?_
                first | refine at_la 41 dX9_giveLeft_40 rfl ⟨_, _, by assumption, by omega, by first | decide | omega, ?_⟩ | refine at_laJ 41 dX9_giveLeft_40 rfl ⟨_, _, by assumption, by omega, by first | decide | omega, ?_⟩
                refine at_lcmp_leN 42 49 45 dX9_giveLeft_41 rfl dX9_giveLeft_42 rfl rfl (hR' _ (by omega)) (hR' _ (by omega)) (fun cc => ?_) (fun cc => ?_)
                · refine at_iincN (q := 1) (L' := [_, _, _, _, _, _, _]) 52 dX9_giveLeft_49 rfl (by decide) rfl (by decide) rfl rfl ?_
                  refine at_goto 21 dX9_giveLeft_52 rfl ?_
                  have hn := ih2 (i + 1) (by omega) (by omega)
                  have e2 : best R' (i + 1) = best R' i := by
                    show (if R' (best R' i) < R' i then i else best R' i) = _
                    rw [if_neg (by omega)]
                  rw [e2] at hn
                  exact hn
                · refine at_iload 47 dX9_giveLeft_45 rfl rfl ?_
                  refine at_istore (L' := [_, _, _, _, _, _, _]) 49 dX9_giveLeft_47 rfl (by decide) rfl rfl ?_
                  refine at_iincN (q := 1) (L' := [_, _, _, _, _, _, _]) 52 dX9_giveLeft_49 rfl (by decide) rfl (by decide) rfl rfl ?_
                  refine at_goto 21 dX9_giveLeft_52 rfl ?_
                  have hn := ih2 (i + 1) (by omega) (by omega)
                  have e2 : best R' (i + 1) = i := by
                    show (if R' (best R' i) < R' i then i else best R' i) = _
                    rw [if_pos (by omega)]
                  rw [e2] at hn
                  exact hn
          have hn := inner (m - 1) 1 (by omega) (by omega)
          rw [show best R' 1 = 0 by simp [best]] at hn
          exact hn
  exact outer left 0 R o h (by omega) rfl hR h2 hO Fr.rf
theorem giveC_cg {m : Nat} {P P' : Nat → Nat} (hP : ∀ j, j < m → P j = P' j) : ∀ (k : Nat) (c o : Nat → Nat), k ≤ m → giveC m P k c o = giveC m P' k c o
  | 0, _, _, _ => rfl
  | k + 1, c, o, h => by
    show giveC m P k _ _ = giveC m P' k _ _
    rw [hP _ (best_spec c m (by omega)).1]
    exact giveC_cg hP k _ _ (by omega)
def shr (a n : Nat) (f o : Nat → Nat) : Nat → Nat := fun x => if a ≤ x ∧ x < a + n then f (x - a) else o x
theorem shr_0 (a : Nat) (f o : Nat → Nat) : shr a 0 f o = o := by
  funext x; unfold shr; rw [if_neg (by omega)]
theorem shr_s (a n : Nat) (f o : Nat → Nat) : updN (shr a n f o) (a + n) (f n) = shr a (n + 1) f o := by
  funext x
  unfold updN shr
  by_cases e : x = a + n
  · subst e
    rw [if_pos rfl, if_pos (by omega)]
    congr 1; omega
  · rw [if_neg e]
    by_cases e2 : a ≤ x ∧ x < a + n
    · rw [if_pos e2, if_pos (by omega)]
    · rw [if_neg e2, if_neg (by omega)]
theorem c_X9_split {h : List PC} {g n a kw nw ko no : Nat} {R P w o : Nat → Nat} (h1 : h[1]? = some oSharer) (h2 : h[2]? = some (aL 32 R)) (h3 : h[3]? = some (aI 32 P)) (hW : h[kw]? = some (aI nw w)) (hO : h[ko]? = some (aI no o)) (hko : ko ≠ 1 ∧ ko ≠ 2 ∧ ko ≠ 3) (hkw : kw ≠ 2 ∧ kw ≠ 3 ∧ kw ≠ ko) (hn : n ≤ 32) (hnw : n ≤ nw) (hna : a + n ≤ no) (hz : nw < 2 ^ 31 ∧ no < 2 ^ 31) (hT : 0 < sm w n) (hTb : sm w n < 2 ^ 31) (hg : g < 2 ^ 31) : Ct mX9_split [.ref 1, .int (nI g), .ref kw, .int (nI n), .ref ko, .int (nI a)] h (fun r h' => r = none ∧ (∃ R', h'[2]? = some (aL 32 R')) ∧ (∃ P', h'[3]? = some (aI 32 P')) ∧ h'[ko]? = some (aI no (shr a n (share g w n) o)) ∧ Fr (fun j => j = 2 ∨ j = 3 ∨ j = ko) h h') := by
  refine ct_at (L := [_, _, _, _, _, _, _, _, _, _, _, _, _, _, _, _]) (by decide +kernel) rfl rfl (Nat.le_of_ble_eq_true rfl) ?_
  refine at_iload_n 1 dX9_split_0 rfl rfl rfl ?_
  refine at_bipush 3 (nI 32) dX9_split_1 rfl (by decide) ?_
  refine at_icmp_gtN 27 6 dX9_split_3 rfl rfl (by omega) (by omega) (fun cc => ?_) (fun cc => ?_)
  · omega
  refine at_iload_n 7 dX9_split_6 rfl rfl rfl ?_
  refine at_aload_n 8 dX9_split_7 rfl rfl rfl ?_
  refine at_alen 9 .int dX9_split_8 rfl (hW) (fun _ => rfl) rfl ?_
  rw [show Int32.ofNat nw = nI nw from rfl]
  refine at_icmp_gtN 27 12 dX9_split_9 rfl rfl (by omega) (by omega) (fun cc => ?_) (fun cc => ?_)
  · omega
  refine at_iload 14 dX9_split_12 rfl rfl ?_
  refine at_if_ltN 27 17 dX9_split_14 rfl rfl (by omega) ?_
  refine at_iload 19 dX9_split_17 rfl rfl ?_
  refine at_aload 21 dX9_split_19 rfl rfl ?_
  refine at_alen 22 .int dX9_split_21 rfl (hO) (fun _ => rfl) rfl ?_
  refine at_iload_n 23 dX9_split_22 rfl rfl rfl ?_
  rw [show Int32.ofNat no = nI no from rfl]
  first | refine at_isubN 24 dX9_split_23 rfl (by omega) ?_ | refine at_isub 24 dX9_split_23 rfl ?_
  refine at_icmp_leN 28 27 dX9_split_24 rfl rfl (by omega) (by omega) (fun cc => ?_) (fun cc => ?_)
  rotate_left
  · omega
  refine at_lconst 29 (lN 0) dX9_split_28 rfl rfl ?_
  refine at_lstore (L' := [_, _, _, _, _, _, _, _, _, _, _, _, _, _, _, _]) 31 dX9_split_29 rfl (by decide) rfl rfl ?_
  refine at_iconst 32 (nI 0) dX9_split_31 rfl (by decide) ?_
  refine at_istore (L' := [_, _, _, _, _, _, _, _, _, _, _, _, _, _, _, _]) 34 dX9_split_32 rfl (by decide) rfl rfl ?_
  have loop1 : ∀ (d i : Nat), i + d = n → At mX9_split T0 34 [.ref 1, .int (nI g), .ref kw, .int (nI n), .ref ko, .int (nI a), .long (lN (sm w i)), .null, .int (nI i), .null, .null, .null, .null, .null, .null, .null] [] h 0 0 (ZM mX9_split (fun r h' => r = none ∧ (∃ R', h'[2]? = some (aL 32 R')) ∧ (∃ P', h'[3]? = some (aI 32 P')) ∧ h'[ko]? = some (aI no (shr a n (share g w n) o)) ∧ Fr (fun j => j = 2 ∨ j = 3 ∨ j = ko) h h')) := by
    intro d
    induction d with
    | zero =>
      intro i hi
      have hin : i = n := by omega
      refine at_iload 36 dX9_split_34 rfl rfl ?_
      refine at_iload_n 37 dX9_split_36 rfl rfl rfl ?_
      refine at_icmp_geN 56 40 dX9_split_37 rfl rfl (by omega) (by omega) (fun cc => ?_) (fun cc => ?_)
      · rw [hin]
        refine at_lload 58 dX9_split_56 rfl rfl ?_
        refine at_lconst 59 (lN 0) dX9_split_58 rfl rfl ?_
        refine at_lcmp_gtN 60 64 63 dX9_split_59 rfl dX9_split_60 rfl rfl (by omega) (by omega) (fun cc => ?_) (fun cc => ?_)
        rotate_left
        · omega
        refine at_iload_n 65 dX9_split_64 rfl rfl rfl ?_
        refine at_istore (L' := [_, _, _, _, _, _, _, _, _, _, _, _, _, _, _, _]) 67 dX9_split_65 rfl (by decide) rfl rfl ?_
        refine at_iconst 68 (nI 0) dX9_split_67 rfl (by decide) ?_
        refine at_istore (L' := [_, _, _, _, _, _, _, _, _, _, _, _, _, _, _, _]) 70 dX9_split_68 rfl (by decide) rfl rfl ?_
        refine at_iconst 71 (nI 0) dX9_split_70 rfl (by decide) ?_
        refine at_istore (L' := [_, _, _, _, _, _, _, _, _, _, _, _, _, _, _, _]) 73 dX9_split_71 rfl (by decide) rfl rfl ?_
        have hL := left_cnt (g := g) hT
        have loop2 : ∀ (d i m : Nat) (p R' P' : Nat → Nat) (h' : List PC), i + d = n → m ≤ i → m = cnt (rst g w (sm w n)) i → Cmp i (rst g w (sm w n)) m p → (∀ j, j < m → R' j = rst g w (sm w n) (p j)) → (∀ j, j < m → P' j = a + p j) → h'[2]? = some (aL 32 R') → h'[3]? = some (aI 32 P') → h'[ko]? = some (aI no (shr a i (prt g w (sm w n)) o)) → Fr (fun j => j = 2 ∨ j = 3 ∨ j = ko) h h' → At mX9_split T0 73 [.ref 1, .int (nI g), .ref kw, .int (nI n), .ref ko, .int (nI a), .long (lN (sm w n)), .null, .int (nI (g - sm (prt g w (sm w n)) i)), .int (nI m), .int (nI i), .null, .null, .null, .null, .null] [] h' 0 0 (ZM mX9_split (fun r h' => r = none ∧ (∃ R', h'[2]? = some (aL 32 R')) ∧ (∃ P', h'[3]? = some (aI 32 P')) ∧ h'[ko]? = some (aI no (shr a n (share g w n) o)) ∧ Fr (fun j => j = 2 ∨ j = 3 ∨ j = ko) h h')) := by
          intro d
          induction d with
          | zero =>
            intro i m p R' P' h' hi hm hmc hC hR' hP' a2 a3 aO hfr
            have hin2 : i = n := by omega
            have a1 := hfr.at (k := 1) (by omega) h1
            refine at_iload 75 dX9_split_73 rfl rfl ?_
            refine at_iload_n 76 dX9_split_75 rfl rfl rfl ?_
            refine at_icmp_geN 172 79 dX9_split_76 rfl rfl (by omega) (by omega) (fun cc => ?_) (fun cc => ?_)
            · rw [hin2] at hC aO hm ⊢
              refine at_aload_n 173 dX9_split_172 rfl rfl rfl ?_
              refine at_iload 175 dX9_split_173 rfl rfl ?_
              refine at_iload 177 dX9_split_175 rfl rfl ?_
              refine at_aload 179 dX9_split_177 rfl rfl ?_
              have hcm : g - sm (prt g w (sm w n)) n ≤ m := by
                rw [hmc, hin2]; exact hL.2
              refine at_invV (ci := 9) 182 [_, _, _] _ (c_X9_giveLeft a1 a2 a3 aO hko (by omega) hcm (fun j hj => by rw [hP' j hj]; have := hC.1 j hj; omega) (by omega) (fun j hj => by rw [hR' j hj]; have : rst g w (sm w n) (p j) < sm w n := Nat.mod_lt _ hT; omega)) dX9_split_179 rfl rfl (by assumption) rfl ml_X9_19 cl_X9_giveLeft vl_X9_giveLeft rfl (Nat.le_of_ble_eq_true rfl) ⟨by decide, by decide⟩ (by decide) (fun rr hh qq => ?_)
              obtain ⟨rfl, ⟨R2, b2⟩, bO, bfr⟩ := qq
              refine at_vret dX9_split_182 rfl (by decide) (by decide) ?_
              refine ⟨rfl, ⟨R2, b2⟩, ⟨P', bfr.at (k := 3) (by omega) a3⟩, ?_, hfr.tr bfr (fun j hj => by omega)⟩
              rw [bO]
              congr 2
              have key := giveC_eq (a := a) (n := n) (m := m) (p := p) (g - sm (prt g w (sm w n)) n) (rst g w (sm w n)) (prt g w (sm w n)) R' (shr a n (prt g w (sm w n)) o) hL.2 hC hR' (fun i hi => by unfold shr; rw [if_pos (by omega)]; congr 1; omega)
              rw [giveC_cg (P' := fun j => a + p j) hP' _ _ _ hcm]
              funext x
              by_cases e : a ≤ x ∧ x < a + n
              · have k1 := key.1 (x - a) (by omega)
                rw [show a + (x - a) = x by omega] at k1
                rw [k1]
                unfold shr
                rw [if_pos e]
                rfl
              · rw [key.2 x (by omega)]
                unfold shr
                rw [if_neg e, if_neg e]
            · omega
          | succ d ih =>
            intro i m p R' P' h' hi hm hmc hC hR' hP' a2 a3 aO hfr
            have a1 := hfr.at (k := 1) (by omega) h1
            have aW := hfr.at (k := kw) (by omega) hW
            have hwi : w i ≤ sm w n := sm_el w (by omega)
            have hpr : g * w i < 2 ^ 62 := by
              have : g * w i ≤ (2 ^ 31 - 1) * (2 ^ 31 - 1) := Nat.mul_le_mul (by omega) (by omega)
              omega
            have hpg : prt g w (sm w n) i ≤ g - sm (prt g w (sm w n)) i := by
              have e1 := sm_mono (prt g w (sm w n)) (m := i + 1) (n := n) (by omega)
              have e2 : sm (prt g w (sm w n)) (i + 1) = sm (prt g w (sm w n)) i + prt g w (sm w n) i := rfl
              omega
            have hlf : g - sm (prt g w (sm w n)) i - prt g w (sm w n) i = g - sm (prt g w (sm w n)) (i + 1) := by
              have e2 : sm (prt g w (sm w n)) (i + 1) = sm (prt g w (sm w n)) i + prt g w (sm w n) i := rfl
              omega
            refine at_iload 75 dX9_split_73 rfl rfl ?_
            refine at_iload_n 76 dX9_split_75 rfl rfl rfl ?_
            refine at_icmp_geN 172 79 dX9_split_76 rfl rfl (by omega) (by omega) (fun cc => ?_) (fun cc => ?_)
            · omega
            refine at_iconst 80 (nI 0) dX9_split_79 rfl (by decide) ?_
            refine at_istore (L' := [_, _, _, _, _, _, _, _, _, _, _, _, _, _, _, _]) 82 dX9_split_80 rfl (by decide) rfl rfl ?_
            refine at_aload_n 83 dX9_split_82 rfl rfl rfl ?_
            refine at_iload 85 dX9_split_83 rfl rfl ?_
            first | refine at_ia 86 dX9_split_85 rfl ⟨_, _, by assumption, by omega, by first | decide | omega, ?_⟩ | refine at_iaG 86 dX9_split_85 rfl ⟨_, _, by assumption, by omega, by first | decide | omega, ?_⟩
            refine at_if_eqN 149 89 dX9_split_86 rfl rfl (by omega) (fun cc => ?_) (fun cc => ?_)
            · have hp0 : prt g w (sm w n) i = 0 := by unfold prt; rw [cc]; simp
              have hr0 : rst g w (sm w n) i = 0 := by unfold rst; rw [cc]; simp
              refine at_aload 151 dX9_split_149 rfl rfl ?_
              refine at_iload 153 dX9_split_151 rfl rfl ?_
              refine at_iload 155 dX9_split_153 rfl rfl ?_
              first | refine at_iaddN 156 dX9_split_155 rfl ?_ | refine at_iadd 156 dX9_split_155 rfl ?_
              refine at_iload 158 dX9_split_156 rfl rfl ?_
              first | refine at_is 159 dX9_split_158 rfl ⟨_, _, by assumption, by omega, by first | decide | omega, fun hh3 nn3 => ?_⟩ | refine at_isG 159 dX9_split_158 rfl ⟨_, _, by assumption, by omega, by first | decide | omega, fun hh3 nn3 => ?_⟩
              replace a1 := nn3.o (by first | decide | omega | assumption) a1
              replace a2 := nn3.o (by first | decide | omega | assumption) a2
              replace a3 := nn3.o (by first | decide | omega | assumption) a3
              replace aW := nn3.o (by first | decide | omega | assumption) aW
              replace aO := nn3.1
              replace hfr := hfr.nw nn3 (by first | (dsimp only; omega) | (dsimp only; done) | simp)
              clear nn3
              refine at_iload 161 dX9_split_159 rfl rfl ?_
              refine at_iload 163 dX9_split_161 rfl rfl ?_
              first | refine at_isubN 164 dX9_split_163 rfl (by omega) ?_ | refine at_isub 164 dX9_split_163 rfl ?_
              rw [show g - sm (prt g w (sm w n)) i - 0 = g - sm (prt g w (sm w n)) (i + 1) by rw [← hlf, hp0]]
              refine at_istore (L' := [_, _, _, _, _, _, _, _, _, _, _, _, _, _, _, _]) 166 dX9_split_164 rfl (by decide) rfl rfl ?_
              refine at_iincN (q := 1) (L' := [_, _, _, _, _, _, _, _, _, _, _, _, _, _, _, _]) 169 dX9_split_166 rfl (by decide) rfl (by decide) rfl rfl ?_
              refine at_goto 73 dX9_split_169 rfl ?_
              refine at_drop (L' := [_, _, _, _, _, _, _, _, _, _, _, _, _, _, _, _]) 11 rfl ?_
              refine ih (i + 1) m p R' P' _ (by omega) (by omega) (by show _ = cnt _ i + _; rw [if_neg (by omega)]; exact hmc) ⟨fun j hj => by have := hC.1 j hj; omega, hC.2.1, fun x hx hx2 => ?_⟩ hR' hP' a2 a3 ?_ hfr
              · by_cases e : x = i
                · rw [e, hr0] at hx2; omega
                · exact hC.2.2 x (by omega) hx2
              · rw [aO, ← shr_s, hp0]
            · have hmod : g * w i - g * w i / sm w n * sm w n = rst g w (sm w n) i := by
                unfold rst
                rw [Nat.mod_def, Nat.mul_comm (sm w n)]
              have hdl : g * w i / sm w n * sm w n ≤ g * w i := Nat.div_mul_le_self _ _
              have hpi : g * w i / sm w n = prt g w (sm w n) i := rfl
              refine at_iload_n 90 dX9_split_89 rfl rfl rfl ?_
              first | refine at_i2lN 91 dX9_split_90 rfl (by omega) ?_ | refine at_i2l 91 dX9_split_90 rfl rfl ?_
              refine at_aload_n 92 dX9_split_91 rfl rfl rfl ?_
              refine at_iload 94 dX9_split_92 rfl rfl ?_
              first | refine at_ia 95 dX9_split_94 rfl ⟨_, _, by assumption, by omega, by first | decide | omega, ?_⟩ | refine at_iaG 95 dX9_split_94 rfl ⟨_, _, by assumption, by omega, by first | decide | omega, ?_⟩
              first | refine at_i2lN 96 dX9_split_95 rfl (by omega) ?_ | refine at_i2l 96 dX9_split_95 rfl rfl ?_
              first | refine at_lmulN 97 dX9_split_96 rfl ?_ | refine at_lmul 97 dX9_split_96 rfl ?_
              refine at_lstore (L' := [_, _, _, _, _, _, _, _, _, _, _, _, _, _, _, _]) 99 dX9_split_97 rfl (by decide) rfl rfl ?_
              refine at_lload 101 dX9_split_99 rfl rfl ?_
              refine at_lload 103 dX9_split_101 rfl rfl ?_
              refine at_ldivN 104 dX9_split_103 rfl (by omega) (by omega) (by omega) ?_
              first | refine at_l2iN 105 dX9_split_104 rfl ?_ | refine at_l2i 105 dX9_split_104 rfl rfl ?_
              refine at_istore (L' := [_, _, _, _, _, _, _, _, _, _, _, _, _, _, _, _]) 107 dX9_split_105 rfl (by decide) rfl rfl ?_
              refine at_lload 109 dX9_split_107 rfl rfl ?_
              refine at_iload 111 dX9_split_109 rfl rfl ?_
              first | refine at_i2lN 112 dX9_split_111 rfl (by rw [hpi]; omega) ?_ | refine at_i2l 112 dX9_split_111 rfl rfl ?_
              refine at_lload 114 dX9_split_112 rfl rfl ?_
              first | refine at_lmulN 115 dX9_split_114 rfl ?_ | refine at_lmul 115 dX9_split_114 rfl ?_
              first | refine at_lsubN 116 dX9_split_115 rfl (hdl) ?_ | refine at_lsub 116 dX9_split_115 rfl ?_
              rw [hmod, hpi]
              refine at_lstore (L' := [_, _, _, _, _, _, _, _, _, _, _, _, _, _, _, _]) 118 dX9_split_116 rfl (by decide) rfl rfl ?_
              refine at_lload 120 dX9_split_118 rfl rfl ?_
              refine at_lconst 121 (lN 0) dX9_split_120 rfl rfl ?_
              refine at_lcmp_leN 122 149 125 dX9_split_121 rfl dX9_split_122 rfl rfl (by have : rst g w (sm w n) i < sm w n := Nat.mod_lt _ hT; omega) (by omega) (fun cc => ?_) (fun cc => ?_)
              · refine at_aload 151 dX9_split_149 rfl rfl ?_
                refine at_iload 153 dX9_split_151 rfl rfl ?_
                refine at_iload 155 dX9_split_153 rfl rfl ?_
                first | refine at_iaddN 156 dX9_split_155 rfl ?_ | refine at_iadd 156 dX9_split_155 rfl ?_
                refine at_iload 158 dX9_split_156 rfl rfl ?_
                first | refine at_is 159 dX9_split_158 rfl ⟨_, _, by assumption, by omega, by first | decide | omega, fun hh4 nn4 => ?_⟩ | refine at_isG 159 dX9_split_158 rfl ⟨_, _, by assumption, by omega, by first | decide | omega, fun hh4 nn4 => ?_⟩
                replace a1 := nn4.o (by first | decide | omega | assumption) a1
                replace a2 := nn4.o (by first | decide | omega | assumption) a2
                replace a3 := nn4.o (by first | decide | omega | assumption) a3
                replace aW := nn4.o (by first | decide | omega | assumption) aW
                replace aO := nn4.1
                replace hfr := hfr.nw nn4 (by first | (dsimp only; omega) | (dsimp only; done) | simp)
                clear nn4
                refine at_iload 161 dX9_split_159 rfl rfl ?_
                refine at_iload 163 dX9_split_161 rfl rfl ?_
                first | refine at_isubN 164 dX9_split_163 rfl (by omega) ?_ | refine at_isub 164 dX9_split_163 rfl ?_
                rw [hlf]
                refine at_istore (L' := [_, _, _, _, _, _, _, _, _, _, _, _, _, _, _, _]) 166 dX9_split_164 rfl (by decide) rfl rfl ?_
                refine at_iincN (q := 1) (L' := [_, _, _, _, _, _, _, _, _, _, _, _, _, _, _, _]) 169 dX9_split_166 rfl (by decide) rfl (by decide) rfl rfl ?_
                refine at_goto 73 dX9_split_169 rfl ?_
                refine at_drop (L' := [_, _, _, _, _, _, _, _, _, _, _, _, _, _, _, _]) 11 rfl ?_
                refine at_drop (L' := [_, _, _, _, _, _, _, _, _, _, _, _, _, _, _, _]) 12 rfl ?_
                refine at_drop (L' := [_, _, _, _, _, _, _, _, _, _, _, _, _, _, _, _]) 14 rfl ?_
                refine ih (i + 1) m p R' P' _ (by omega) (by omega) (by show _ = cnt _ i + _; rw [if_neg (by omega)]; exact hmc) ⟨fun j hj => by have := hC.1 j hj; omega, hC.2.1, fun x hx hx2 => ?_⟩ hR' hP' a2 a3 ?_ hfr
                · by_cases e : x = i
                  · rw [e] at hx2; omega
                  · exact hC.2.2 x (by omega) hx2
                · rw [aO, ← shr_s]
              · refine at_aload_n 126 dX9_split_125 rfl rfl rfl ?_
                refine at_g 129 dX9_split_126 rfl fl_X9_9 ⟨_, by assumption, ?_⟩
                refine ⟨_, rfl, ?_⟩
                refine at_iload 131 dX9_split_129 rfl rfl ?_
                refine at_lload 133 dX9_split_131 rfl rfl ?_
                first | refine at_ls 134 dX9_split_133 rfl ⟨_, _, by assumption, by omega, by first | decide | omega, fun hh5 nn5 => ?_⟩ | refine at_lsJ 134 dX9_split_133 rfl ⟨_, _, by assumption, by omega, by first | decide | omega, fun hh5 nn5 => ?_⟩
                replace a1 := nn5.o (by first | decide | omega | assumption) a1
                replace a2 := nn5.1
                replace a3 := nn5.o (by first | decide | omega | assumption) a3
                replace aW := nn5.o (by first | decide | omega | assumption) aW
                replace aO := nn5.o (by first | decide | omega | assumption) aO
                replace hfr := hfr.nw nn5 (by first | (dsimp only; omega) | (dsimp only; done) | simp)
                clear nn5
                refine at_aload_n 135 dX9_split_134 rfl rfl rfl ?_
                refine at_g 138 dX9_split_135 rfl fl_X9_15 ⟨_, by assumption, ?_⟩
                refine ⟨_, rfl, ?_⟩
                refine at_iload 140 dX9_split_138 rfl rfl ?_
                refine at_iload 142 dX9_split_140 rfl rfl ?_
                refine at_iload 144 dX9_split_142 rfl rfl ?_
                first | refine at_iaddN 145 dX9_split_144 rfl ?_ | refine at_iadd 145 dX9_split_144 rfl ?_
                first | refine at_is 146 dX9_split_145 rfl ⟨_, _, by assumption, by omega, by first | decide | omega, fun hh6 nn6 => ?_⟩ | refine at_isG 146 dX9_split_145 rfl ⟨_, _, by assumption, by omega, by first | decide | omega, fun hh6 nn6 => ?_⟩
                replace a1 := nn6.o (by first | decide | omega | assumption) a1
                replace a2 := nn6.o (by first | decide | omega | assumption) a2
                replace a3 := nn6.1
                replace aW := nn6.o (by first | decide | omega | assumption) aW
                replace aO := nn6.o (by first | decide | omega | assumption) aO
                replace hfr := hfr.nw nn6 (by first | (dsimp only; omega) | (dsimp only; done) | simp)
                clear nn6
                refine at_iincN (q := 1) (L' := [_, _, _, _, _, _, _, _, _, _, _, _, _, _, _, _]) 149 dX9_split_146 rfl (by decide) rfl (by decide) rfl rfl ?_
                refine at_aload 151 dX9_split_149 rfl rfl ?_
                refine at_iload 153 dX9_split_151 rfl rfl ?_
                refine at_iload 155 dX9_split_153 rfl rfl ?_
                first | refine at_iaddN 156 dX9_split_155 rfl ?_ | refine at_iadd 156 dX9_split_155 rfl ?_
                refine at_iload 158 dX9_split_156 rfl rfl ?_
                first | refine at_is 159 dX9_split_158 rfl ⟨_, _, by assumption, by omega, by first | decide | omega, fun hh7 nn7 => ?_⟩ | refine at_isG 159 dX9_split_158 rfl ⟨_, _, by assumption, by omega, by first | decide | omega, fun hh7 nn7 => ?_⟩
                replace a1 := nn7.o (by first | decide | omega | assumption) a1
                replace a2 := nn7.o (by first | decide | omega | assumption) a2
                replace a3 := nn7.o (by first | decide | omega | assumption) a3
                replace aW := nn7.o (by first | decide | omega | assumption) aW
                replace aO := nn7.1
                replace hfr := hfr.nw nn7 (by first | (dsimp only; omega) | (dsimp only; done) | simp)
                clear nn7
                refine at_iload 161 dX9_split_159 rfl rfl ?_
                refine at_iload 163 dX9_split_161 rfl rfl ?_
                first | refine at_isubN 164 dX9_split_163 rfl (by omega) ?_ | refine at_isub 164 dX9_split_163 rfl ?_
                rw [hlf]
                refine at_istore (L' := [_, _, _, _, _, _, _, _, _, _, _, _, _, _, _, _]) 166 dX9_split_164 rfl (by decide) rfl rfl ?_
                refine at_iincN (q := 1) (L' := [_, _, _, _, _, _, _, _, _, _, _, _, _, _, _, _]) 169 dX9_split_166 rfl (by decide) rfl (by decide) rfl rfl ?_
                refine at_goto 73 dX9_split_169 rfl ?_
                refine at_drop (L' := [_, _, _, _, _, _, _, _, _, _, _, _, _, _, _, _]) 11 rfl ?_
                refine at_drop (L' := [_, _, _, _, _, _, _, _, _, _, _, _, _, _, _, _]) 12 rfl ?_
                refine at_drop (L' := [_, _, _, _, _, _, _, _, _, _, _, _, _, _, _, _]) 14 rfl ?_
                refine ih (i + 1) (m + 1) (fun j => if j = m then i else p j) _ _ _ (by omega) (by omega) (by show _ = cnt _ i + _; rw [if_pos (by omega), hmc]) ⟨fun j hj => ?_, fun x y hxy hy => ?_, fun x hx hx2 => ?_⟩ (fun j hj => ?_) (fun j hj => ?_) a2 a3 ?_ hfr
                · dsimp only
                  by_cases e : j = m
                  · rw [if_pos e]; omega
                  · rw [if_neg e]; have := hC.1 j (by omega); omega
                · dsimp only
                  rw [if_neg (show ¬ x = m by omega)]
                  by_cases e : y = m
                  · rw [if_pos e]; exact hC.1 x (by omega)
                  · rw [if_neg e]; exact hC.2.1 x y hxy (by omega)
                · by_cases e : x = i
                  · exact ⟨m, by omega, by dsimp only; rw [if_pos rfl, e]⟩
                  · obtain ⟨j, hj, e2⟩ := hC.2.2 x (by omega) hx2
                    exact ⟨j, by omega, by dsimp only; rw [if_neg (by omega), e2]⟩
                · by_cases e : j = m
                  · rw [e, updN_s, if_pos rfl]
                  · rw [updN_n _ _ e, if_neg e]; exact hR' j (by omega)
                · by_cases e : j = m
                  · rw [e, updN_s, if_pos rfl]
                  · rw [updN_n _ _ e, if_neg e]; exact hP' j (by omega)
                · rw [aO, ← shr_s]
        exact loop2 n 0 0 (fun _ => 0) R P h (by omega) (by omega) rfl ⟨fun j hj => by omega, fun i j _ hj => by omega, fun x hx => by omega⟩ (fun j hj => by omega) (fun j hj => by omega) h2 h3 (by rw [shr_0]; exact hO) Fr.rf
      · omega
    | succ d ih =>
      intro i hi
      have hwi : w i ≤ sm w n := sm_el w (by omega)
      refine at_iload 36 dX9_split_34 rfl rfl ?_
      refine at_iload_n 37 dX9_split_36 rfl rfl rfl ?_
      refine at_icmp_geN 56 40 dX9_split_37 rfl rfl (by omega) (by omega) (fun cc => ?_) (fun cc => ?_)
      · omega
      refine at_lload 42 dX9_split_40 rfl rfl ?_
      refine at_aload_n 43 dX9_split_42 rfl rfl rfl ?_
      refine at_iload 45 dX9_split_43 rfl rfl ?_
      first | refine at_ia 46 dX9_split_45 rfl ⟨_, _, by assumption, by omega, by first | decide | omega, ?_⟩ | refine at_iaG 46 dX9_split_45 rfl ⟨_, _, by assumption, by omega, by first | decide | omega, ?_⟩
      first | refine at_i2lN 47 dX9_split_46 rfl (by omega) ?_ | refine at_i2l 47 dX9_split_46 rfl rfl ?_
      first | refine at_laddN 48 dX9_split_47 rfl ?_ | refine at_ladd 48 dX9_split_47 rfl ?_
      refine at_lstore (L' := [_, _, _, _, _, _, _, _, _, _, _, _, _, _, _, _]) 50 dX9_split_48 rfl (by decide) rfl rfl ?_
      refine at_iincN (q := 1) (L' := [_, _, _, _, _, _, _, _, _, _, _, _, _, _, _, _]) 53 dX9_split_50 rfl (by decide) rfl (by decide) rfl rfl ?_
      refine at_goto 34 dX9_split_53 rfl ?_
      exact ih (i + 1) (by omega)
  exact loop1 n 0 (by omega)
end
section
theorem fb_rng (x : Int32) : -2147483648 ≤ x.toInt ∧ x.toInt < 2147483648 := by
  have h1 := Int32.le_toInt x
  have h2 := Int32.toInt_lt x
  omega
theorem fb_bmodL {z : Int} (h1 : -9223372036854775808 ≤ z) (h2 : z < 9223372036854775808) : z.bmod (2 ^ 64) = z := by
  rw [Int.bmod_eq_of_le (by omega) (by omega)]
theorem lNm_toInt {a : Nat} (h : a < 2 ^ 62) : (lN a - 1).toInt = (a : Int) - 1 := by
  rw [Int64.toInt_sub, pk_lT (by omega), show (1 : Int64).toInt = 1 by decide, fb_bmodL (by omega) (by omega)]
theorem lNm_le {a b : Nat} (ha : a < 2 ^ 62) (hb : b < 2 ^ 62) : lg_cmp (lN a - 1) (lN b - 1) ≤ 0 ↔ a ≤ b := by
  have h1 : lN a - 1 > lN b - 1 ↔ b < a := by
    show lN b - 1 < lN a - 1 ↔ _
    rw [Int64.lt_iff_toInt_lt, lNm_toInt ha, lNm_toInt hb]; omega
  have h2 : lN a - 1 = lN b - 1 ↔ a = b := by
    rw [← Int64.toInt_inj, lNm_toInt ha, lNm_toInt hb]; omega
  unfold lg_cmp
  by_cases c1 : b < a
  · rw [if_pos (h1.mpr c1)]
    exact ⟨fun q => absurd q (by decide), fun q => by omega⟩
  · rw [if_neg (fun q => c1 (h1.mp q))]
    by_cases c2 : a = b
    · rw [if_pos (h2.mpr c2)]
      exact ⟨fun _ => by omega, fun _ => by decide⟩
    · rw [if_neg (fun q => c2 (h2.mp q))]
      exact ⟨fun _ => by omega, fun _ => by decide⟩
theorem c_X12_shareOut {h : List PC} {fe co hm im ce wd pu ho wa cm rm : Nat} {wn : Int32} {g n : Nat} {w Gt : Nat → Nat} {Rj : Nat → Int64} (h0 : h[106]? = some (oModel fe co hm im ce wd pu wn ho wa cm rm)) (hw : h[127]? = some (aL 32 w)) (hr : h[128]? = some (aJ 32 Rj)) (hgt : h[129]? = some (aI 32 Gt)) (hn0 : 0 < n) (hn : n ≤ 32) (hT : 0 < sm w n) (hTb : sm w n < 2 ^ 31) (hg : g < 2 ^ 31) : Ct mX12_shareOut [.ref 106, .int (nI g), .int (nI n)] h (fun r h' => r = none ∧ (∃ Rj', h'[128]? = some (aJ 32 Rj')) ∧ h'[129]? = some (aI 32 (shr 0 n (share g w n) Gt)) ∧ Fr (fun j => j = 128 ∨ j = 129) h h') := by
  refine ct_at (L := [_, _, _, _, _, _, _, _]) (by decide +kernel) rfl rfl (Nat.le_of_ble_eq_true rfl) ?_
  refine at_lconst 1 (lN 0) dX12_shareOut_0 rfl rfl ?_
  refine at_lstore_n (L' := [_, _, _, _, _, _, _, _]) 2 dX12_shareOut_1 rfl rfl (by decide) rfl rfl ?_
  refine at_iconst 3 (nI 0) dX12_shareOut_2 rfl (by decide) ?_
  refine at_istore (L' := [_, _, _, _, _, _, _, _]) 5 dX12_shareOut_3 rfl (by decide) rfl rfl ?_
  have loop1 : ∀ (d i : Nat), i + d = n → At mX12_shareOut T0 5 [.ref 106, .int (nI g), .int (nI n), .long (lN (sm w i)), .null, .int (nI i), .null, .null] [] h 0 0 (ZM mX12_shareOut (fun r h' => r = none ∧ (∃ Rj', h'[128]? = some (aJ 32 Rj')) ∧ h'[129]? = some (aI 32 (shr 0 n (share g w n) Gt)) ∧ Fr (fun j => j = 128 ∨ j = 129) h h')) := by
    intro d
    induction d with
    | succ d ih =>
      intro i hi
      refine at_iload 7 dX12_shareOut_5 rfl rfl ?_
      refine at_iload_n 8 dX12_shareOut_7 rfl rfl rfl ?_
      refine at_icmp_geN 27 11 dX12_shareOut_8 rfl rfl (by omega) (by omega) (fun cc => ?_) (fun cc => ?_)
      · omega
      refine at_lload_n 12 dX12_shareOut_11 rfl rfl rfl ?_
      refine at_aload_n 13 dX12_shareOut_12 rfl rfl rfl ?_
      refine at_g 16 dX12_shareOut_13 rfl fl_X12_83 ⟨_, by assumption, ?_⟩
      refine ⟨_, rfl, ?_⟩
      refine at_iload 18 dX12_shareOut_16 rfl rfl ?_
      first | refine at_la 19 dX12_shareOut_18 rfl ⟨_, _, by assumption, by omega, by first | decide | omega, ?_⟩ | refine at_laJ 19 dX12_shareOut_18 rfl ⟨_, _, by assumption, by omega, by first | decide | omega, ?_⟩
      first | refine at_laddN 20 dX12_shareOut_19 rfl ?_ | refine at_ladd 20 dX12_shareOut_19 rfl ?_
      refine at_lstore_n (L' := [_, _, _, _, _, _, _, _]) 21 dX12_shareOut_20 rfl rfl (by decide) rfl rfl ?_
      refine at_iincN (q := 1) (L' := [_, _, _, _, _, _, _, _]) 24 dX12_shareOut_21 rfl (by decide) rfl (by decide) rfl rfl ?_
      refine at_goto 5 dX12_shareOut_24 rfl ?_
      exact ih (i + 1) (by omega)
    | zero =>
      intro i hi
      have hin : i = n := by omega
      refine at_iload 7 dX12_shareOut_5 rfl rfl ?_
      refine at_iload_n 8 dX12_shareOut_7 rfl rfl rfl ?_
      refine at_icmp_geN 27 11 dX12_shareOut_8 rfl rfl (by omega) (by omega) (fun cc => ?_) (fun cc => ?_)
      rotate_left
      · omega
      rw [hin]
      refine at_iload_n 28 dX12_shareOut_27 rfl rfl rfl ?_
      refine at_istore (L' := [_, _, _, _, _, _, _, _]) 30 dX12_shareOut_28 rfl (by decide) rfl rfl ?_
      refine at_iconst 31 (nI 0) dX12_shareOut_30 rfl (by decide) ?_
      refine at_istore (L' := [_, _, _, _, _, _, _, _]) 33 dX12_shareOut_31 rfl (by decide) rfl rfl ?_
      have hL := left_cnt (g := g) hT
      have loop2 : ∀ (d i : Nat) (f : Nat → Int64) (h' : List PC), i + d = n → (∀ j, j < i → f j = lN (rst g w (sm w n) j)) → h'[128]? = some (aJ 32 f) → h'[129]? = some (aI 32 (shr 0 i (prt g w (sm w n)) Gt)) → Fr (fun j => j = 128 ∨ j = 129) h h' → At mX12_shareOut T0 33 [.ref 106, .int (nI g), .int (nI n), .long (lN (sm w n)), .null, .int (nI (g - sm (prt g w (sm w n)) i)), .int (nI i), .null] [] h' 0 0 (ZM mX12_shareOut (fun r h' => r = none ∧ (∃ Rj', h'[128]? = some (aJ 32 Rj')) ∧ h'[129]? = some (aI 32 (shr 0 n (share g w n) Gt)) ∧ Fr (fun j => j = 128 ∨ j = 129) h h')) := by
        intro d
        induction d with
        | succ d ih =>
          intro i f h' hi hf aR aG hfr
          have a0 := hfr.at (k := 106) (by omega) h0
          have aW := hfr.at (k := 127) (by omega) hw
          have hwi : w i ≤ sm w n := sm_el w (by omega)
          have hpr : g * w i < 2 ^ 62 := by
            have : g * w i ≤ (2 ^ 31 - 1) * (2 ^ 31 - 1) := Nat.mul_le_mul (by omega) (by omega)
            omega
          have hpg : prt g w (sm w n) i ≤ g - sm (prt g w (sm w n)) i := by
            have e1 := sm_mono (prt g w (sm w n)) (m := i + 1) (n := n) (by omega)
            have e2 : sm (prt g w (sm w n)) (i + 1) = sm (prt g w (sm w n)) i + prt g w (sm w n) i := rfl
            omega
          have hlf : g - sm (prt g w (sm w n)) i - prt g w (sm w n) i = g - sm (prt g w (sm w n)) (i + 1) := by
            have e2 : sm (prt g w (sm w n)) (i + 1) = sm (prt g w (sm w n)) i + prt g w (sm w n) i := rfl
            omega
          refine at_iload 35 dX12_shareOut_33 rfl rfl ?_
          refine at_iload_n 36 dX12_shareOut_35 rfl rfl rfl ?_
          refine at_icmp_geN 96 39 dX12_shareOut_36 rfl rfl (by omega) (by omega) (fun cc => ?_) (fun cc => ?_)
          · omega
          refine at_aload_n 40 dX12_shareOut_39 rfl rfl rfl ?_
          refine at_g 43 dX12_shareOut_40 rfl fl_X12_90 ⟨_, by assumption, ?_⟩
          refine ⟨_, rfl, ?_⟩
          refine at_iload 45 dX12_shareOut_43 rfl rfl ?_
          refine at_iload_n 46 dX12_shareOut_45 rfl rfl rfl ?_
          first | refine at_i2lN 47 dX12_shareOut_46 rfl (by omega) ?_ | refine at_i2l 47 dX12_shareOut_46 rfl rfl ?_
          refine at_aload_n 48 dX12_shareOut_47 rfl rfl rfl ?_
          refine at_g 51 dX12_shareOut_48 rfl fl_X12_83 ⟨_, by assumption, ?_⟩
          refine ⟨_, rfl, ?_⟩
          refine at_iload 53 dX12_shareOut_51 rfl rfl ?_
          first | refine at_la 54 dX12_shareOut_53 rfl ⟨_, _, by assumption, by omega, by first | decide | omega, ?_⟩ | refine at_laJ 54 dX12_shareOut_53 rfl ⟨_, _, by assumption, by omega, by first | decide | omega, ?_⟩
          first | refine at_lmulN 55 dX12_shareOut_54 rfl ?_ | refine at_lmul 55 dX12_shareOut_54 rfl ?_
          refine at_lload_n 56 dX12_shareOut_55 rfl rfl rfl ?_
          refine at_ldivN 57 dX12_shareOut_56 rfl (by omega) (by omega) (by omega) ?_
          first | refine at_l2iN 58 dX12_shareOut_57 rfl ?_ | refine at_l2i 58 dX12_shareOut_57 rfl rfl ?_
          first | refine at_is 59 dX12_shareOut_58 rfl ⟨_, _, by assumption, by omega, by first | decide | omega, fun hh1 nn1 => ?_⟩ | refine at_isG 59 dX12_shareOut_58 rfl ⟨_, _, by assumption, by omega, by first | decide | omega, fun hh1 nn1 => ?_⟩
          replace a0 := nn1.o (by first | decide | omega | assumption) a0
          replace aR := nn1.o (by first | decide | omega | assumption) aR
          replace aG := nn1.1
          replace aW := nn1.o (by first | decide | omega | assumption) aW
          replace hfr := hfr.nw nn1 (by first | (dsimp only; omega) | (dsimp only; done) | simp)
          clear nn1
          have e9 : updN (shr 0 i (prt g w (sm w n)) Gt) i (g * w i / sm w n) = shr 0 (i + 1) (prt g w (sm w n)) Gt := by
            have := shr_s 0 i (prt g w (sm w n)) Gt
            rw [Nat.zero_add] at this
            exact this
          rw [e9] at aG
          refine at_aload_n 60 dX12_shareOut_59 rfl rfl rfl ?_
          refine at_g 63 dX12_shareOut_60 rfl fl_X12_87 ⟨_, by assumption, ?_⟩
          refine ⟨_, rfl, ?_⟩
          refine at_iload 65 dX12_shareOut_63 rfl rfl ?_
          refine at_iload_n 66 dX12_shareOut_65 rfl rfl rfl ?_
          first | refine at_i2lN 67 dX12_shareOut_66 rfl (by omega) ?_ | refine at_i2l 67 dX12_shareOut_66 rfl rfl ?_
          refine at_aload_n 68 dX12_shareOut_67 rfl rfl rfl ?_
          refine at_g 71 dX12_shareOut_68 rfl fl_X12_83 ⟨_, by assumption, ?_⟩
          refine ⟨_, rfl, ?_⟩
          refine at_iload 73 dX12_shareOut_71 rfl rfl ?_
          first | refine at_la 74 dX12_shareOut_73 rfl ⟨_, _, by assumption, by omega, by first | decide | omega, ?_⟩ | refine at_laJ 74 dX12_shareOut_73 rfl ⟨_, _, by assumption, by omega, by first | decide | omega, ?_⟩
          first | refine at_lmulN 75 dX12_shareOut_74 rfl ?_ | refine at_lmul 75 dX12_shareOut_74 rfl ?_
          refine at_lload_n 76 dX12_shareOut_75 rfl rfl rfl ?_
          refine at_lremN 77 dX12_shareOut_76 rfl (by omega) (by omega) (by omega) ?_
          first | refine at_ls 78 dX12_shareOut_77 rfl ⟨_, _, by assumption, by omega, by first | decide | omega, fun hh2 nn2 => ?_⟩ | refine at_lsJ 78 dX12_shareOut_77 rfl ⟨_, _, by assumption, by omega, by first | decide | omega, fun hh2 nn2 => ?_⟩
          replace a0 := nn2.o (by first | decide | omega | assumption) a0
          replace aR := nn2.1
          replace aG := nn2.o (by first | decide | omega | assumption) aG
          replace aW := nn2.o (by first | decide | omega | assumption) aW
          replace hfr := hfr.nw nn2 (by first | (dsimp only; omega) | (dsimp only; done) | simp)
          clear nn2
          refine at_iload 80 dX12_shareOut_78 rfl rfl ?_
          refine at_aload_n 81 dX12_shareOut_80 rfl rfl rfl ?_
          refine at_g 84 dX12_shareOut_81 rfl fl_X12_90 ⟨_, by assumption, ?_⟩
          refine ⟨_, rfl, ?_⟩
          refine at_iload 86 dX12_shareOut_84 rfl rfl ?_
          first | refine at_ia 87 dX12_shareOut_86 rfl ⟨_, _, by assumption, by omega, by first | decide | omega, ?_⟩ | refine at_iaG 87 dX12_shareOut_86 rfl ⟨_, _, by assumption, by omega, by first | decide | omega, ?_⟩
          have e3 : shr 0 (i + 1) (prt g w (sm w n)) Gt i = prt g w (sm w n) i := by unfold shr; rw [if_pos (by omega)]; rfl
          rw [e3]
          first | refine at_isubN 88 dX12_shareOut_87 rfl (by omega) ?_ | refine at_isub 88 dX12_shareOut_87 rfl ?_
          rw [hlf]
          refine at_istore (L' := [_, _, _, _, _, _, _, _]) 90 dX12_shareOut_88 rfl (by decide) rfl rfl ?_
          refine at_iincN (q := 1) (L' := [_, _, _, _, _, _, _, _]) 93 dX12_shareOut_90 rfl (by decide) rfl (by decide) rfl rfl ?_
          refine at_goto 33 dX12_shareOut_93 rfl ?_
          refine ih (i + 1) _ _ (by omega) (fun j hj => ?_) aR aG hfr
          by_cases e : j = i
          · rw [e, pk_uLs]; rfl
          · rw [pk_uLn e]; exact hf j (by omega)
        | zero =>
          intro i f h' hi hf aR aG hfr
          have hin2 : i = n := by omega
          refine at_iload 35 dX12_shareOut_33 rfl rfl ?_
          refine at_iload_n 36 dX12_shareOut_35 rfl rfl rfl ?_
          refine at_icmp_geN 96 39 dX12_shareOut_36 rfl rfl (by omega) (by omega) (fun cc => ?_) (fun cc => ?_)
          rotate_left
          · omega
          rw [hin2] at aG hf ⊢
          refine at_drop (L' := [_, _, _, _, _, _, _, _]) 6 rfl ?_
          have loop3 : ∀ (k : Nat) (r got W : Nat → Nat) (f : Nat → Int64) (h' : List PC), k ≤ cnt r n → k ≤ g → give n k r got = share g w n → (∀ i, i < n → W i ≤ r i + 1) → (∀ i, i < n → 0 < r i → W i = r i + 1) → (∀ i, i < n → r i < 2 ^ 31) → (∀ i, i < n → f i = lN (W i) - 1) → h'[128]? = some (aJ 32 f) → h'[129]? = some (aI 32 (shr 0 n got Gt)) → Fr (fun j => j = 128 ∨ j = 129) h h' → At mX12_shareOut T0 96 [.ref 106, .int (nI g), .int (nI n), .long (lN (sm w n)), .null, .int (nI k), .null, .null] [] h' 0 0 (ZM mX12_shareOut (fun r h' => r = none ∧ (∃ Rj', h'[128]? = some (aJ 32 Rj')) ∧ h'[129]? = some (aI 32 (shr 0 n (share g w n) Gt)) ∧ Fr (fun j => j = 128 ∨ j = 129) h h')) := by
            intro k
            induction k with
            | zero =>
              intro r got W f h' hc hkg hX hW1 hW2 hrb hf aR aG hfr
              refine at_iload 98 dX12_shareOut_96 rfl rfl ?_
              refine at_if_leN 168 101 dX12_shareOut_98 rfl rfl (by omega) (fun cc => ?_) (fun cc => ?_)
              · refine at_vret dX12_shareOut_168 rfl (by decide) (by decide) ?_
                refine ⟨rfl, ⟨_, aR⟩, ?_, hfr⟩
                rw [aG, ← hX]; rfl
              · omega
            | succ k ih =>
              intro r got W f h' hc hkg hX hW1 hW2 hrb hf aR aG hfr
              have a0 := hfr.at (k := 106) (by omega) h0
              refine at_iload 98 dX12_shareOut_96 rfl rfl ?_
              refine at_if_leN 168 101 dX12_shareOut_98 rfl rfl (by omega) (fun cc => ?_) (fun cc => ?_)
              · omega
              refine at_iconst 102 (nI 0) dX12_shareOut_101 rfl (by decide) ?_
              refine at_istore (L' := [_, _, _, _, _, _, _, _]) 104 dX12_shareOut_102 rfl (by decide) rfl rfl ?_
              refine at_iconst 105 (nI 0) dX12_shareOut_104 rfl (by decide) ?_
              refine at_istore (L' := [_, _, _, _, _, _, _, _]) 107 dX12_shareOut_105 rfl (by decide) rfl rfl ?_
              have inner : ∀ (e i : Nat), i + e = n → At mX12_shareOut T0 107 [.ref 106, .int (nI g), .int (nI n), .long (lN (sm w n)), .null, .int (nI (k + 1)), .int (nI (best W i)), .int (nI i)] [] h' 0 0 (ZM mX12_shareOut (fun r h' => r = none ∧ (∃ Rj', h'[128]? = some (aJ 32 Rj')) ∧ h'[129]? = some (aI 32 (shr 0 n (share g w n) Gt)) ∧ Fr (fun j => j = 128 ∨ j = 129) h h')) := by
                intro e
                induction e with
                | succ e ih2 =>
                  intro i hi
                  have hb : best W i < n := by
                    rcases Nat.eq_zero_or_pos i with q | q
                    · rw [q]; exact hn0
                    · have := (best_spec W i q).1; omega
                  have hWi := hW1 i (by omega)
                  have hWb := hW1 _ hb
                  have hri := hrb i (by omega)
                  have hrb2 := hrb _ hb
                  refine at_iload 109 dX12_shareOut_107 rfl rfl ?_
                  refine at_iload_n 110 dX12_shareOut_109 rfl rfl rfl ?_
                  refine at_icmp_geN 141 113 dX12_shareOut_110 rfl rfl (by omega) (by omega) (fun cc => ?_) (fun cc => ?_)
                  · omega
                  refine at_aload_n 114 dX12_shareOut_113 rfl rfl rfl ?_
                  refine at_g 117 dX12_shareOut_114 rfl fl_X12_87 ⟨_, by assumption, ?_⟩
                  refine ⟨_, rfl, ?_⟩
                  refine at_iload 119 dX12_shareOut_117 rfl rfl ?_
                  first | refine at_la 120 dX12_shareOut_119 rfl ⟨_, _, by assumption, by omega, by first | decide | omega, ?_⟩ | refine at_laJ 120 dX12_shareOut_119 rfl ⟨_, _, by assumption, by omega, by first | decide | omega, ?_⟩
                  refine at_aload_n 121 dX12_shareOut_120 rfl rfl rfl ?_
                  refine at_g 124 dX12_shareOut_121 rfl fl_X12_87 ⟨_, by assumption, ?_⟩
                  refine ⟨_, rfl, ?_⟩
                  refine at_iload 126 dX12_shareOut_124 rfl rfl ?_
                  first | refine at_la 127 dX12_shareOut_126 rfl ⟨_, _, by assumption, by omega, by first | decide | omega, ?_⟩ | refine at_laJ 127 dX12_shareOut_126 rfl ⟨_, _, by assumption, by omega, by first | decide | omega, ?_⟩
                  rw [hf i (by omega), hf _ hb]
                  refine at_lcmp 128 dX12_shareOut_127 rfl ?_
                  refine at_if_le 135 131 dX12_shareOut_128 rfl rfl (fun cc => ?_) (fun cc => ?_)
                  · rw [lNm_le (by omega) (by omega)] at cc
                    refine at_iincN (q := 1) (L' := [_, _, _, _, _, _, _, _]) 138 dX12_shareOut_135 rfl (by decide) rfl (by decide) rfl rfl ?_
                    refine at_goto 107 dX12_shareOut_138 rfl ?_
                    have hn2 := ih2 (i + 1) (by omega)
                    have e2 : best W (i + 1) = best W i := by
                      show (if W (best W i) < W i then i else best W i) = _
                      rw [if_neg (by omega)]
                    rw [e2] at hn2
                    exact hn2
                  · rw [lNm_le (by omega) (by omega)] at cc
                    refine at_iload 133 dX12_shareOut_131 rfl rfl ?_
                    refine at_istore (L' := [_, _, _, _, _, _, _, _]) 135 dX12_shareOut_133 rfl (by decide) rfl rfl ?_
                    refine at_iincN (q := 1) (L' := [_, _, _, _, _, _, _, _]) 138 dX12_shareOut_135 rfl (by decide) rfl (by decide) rfl rfl ?_
                    refine at_goto 107 dX12_shareOut_138 rfl ?_
                    have hn2 := ih2 (i + 1) (by omega)
                    have e2 : best W (i + 1) = i := by
                      show (if W (best W i) < W i then i else best W i) = _
                      rw [if_pos (by omega)]
                    rw [e2] at hn2
                    exact hn2
                | zero =>
                  intro i hi
                  have hin3 : i = n := by omega
                  refine at_iload 109 dX12_shareOut_107 rfl rfl ?_
                  refine at_iload_n 110 dX12_shareOut_109 rfl rfl rfl ?_
                  refine at_icmp_geN 141 113 dX12_shareOut_110 rfl rfl (by omega) (by omega) (fun cc => ?_) (fun cc => ?_)
                  rotate_left
                  · omega
                  rw [hin3]
                  have hbe := bestW hW1 hW2 (by omega)
                  obtain ⟨hb, hbp⟩ := best_pos (r := r) (n := n) (by omega)
                  have hcu := cnt_upd hbp hb
                  rw [hbe]
                  refine at_aload_n 142 dX12_shareOut_141 rfl rfl rfl ?_
                  refine at_g 145 dX12_shareOut_142 rfl fl_X12_90 ⟨_, by assumption, ?_⟩
                  refine ⟨_, rfl, ?_⟩
                  refine at_iload 147 dX12_shareOut_145 rfl rfl ?_
                  refine at_dup2 148 dX12_shareOut_147 rfl rfl rfl ?_
                  first | refine at_ia 149 dX12_shareOut_148 rfl ⟨_, _, by assumption, by omega, by first | decide | omega, ?_⟩ | refine at_iaG 149 dX12_shareOut_148 rfl ⟨_, _, by assumption, by omega, by first | decide | omega, ?_⟩
                  have e3 : shr 0 n got Gt (best r n) = got (best r n) := by unfold shr; rw [if_pos (by omega)]; rfl
                  rw [e3]
                  refine at_iconst 150 (nI 1) dX12_shareOut_149 rfl (by decide) ?_
                  first | refine at_iaddN 151 dX12_shareOut_150 rfl ?_ | refine at_iadd 151 dX12_shareOut_150 rfl ?_
                  first | refine at_is 152 dX12_shareOut_151 rfl ⟨_, _, by assumption, by omega, by first | decide | omega, fun hh3 nn3 => ?_⟩ | refine at_isG 152 dX12_shareOut_151 rfl ⟨_, _, by assumption, by omega, by first | decide | omega, fun hh3 nn3 => ?_⟩
                  replace a0 := nn3.o (by first | decide | omega | assumption) a0
                  replace aR := nn3.o (by first | decide | omega | assumption) aR
                  replace aG := nn3.1
                  replace hfr := hfr.nw nn3 (by first | (dsimp only; omega) | (dsimp only; done) | simp)
                  clear nn3
                  refine at_aload_n 153 dX12_shareOut_152 rfl rfl rfl ?_
                  refine at_g 156 dX12_shareOut_153 rfl fl_X12_87 ⟨_, by assumption, ?_⟩
                  refine ⟨_, rfl, ?_⟩
                  refine at_iload 158 dX12_shareOut_156 rfl rfl ?_
                  refine at_ldc2 161 (-1) dX12_shareOut_158 rfl cj_X12_128 ?_
                  first | refine at_ls 162 dX12_shareOut_161 rfl ⟨_, _, by assumption, by omega, by first | decide | omega, fun hh4 nn4 => ?_⟩ | refine at_lsJ 162 dX12_shareOut_161 rfl ⟨_, _, by assumption, by omega, by first | decide | omega, fun hh4 nn4 => ?_⟩
                  replace a0 := nn4.o (by first | decide | omega | assumption) a0
                  replace aR := nn4.1
                  replace aG := nn4.o (by first | decide | omega | assumption) aG
                  replace hfr := hfr.nw nn4 (by first | (dsimp only; omega) | (dsimp only; done) | simp)
                  clear nn4
                  refine at_idecN (L' := [_, _, _, _, _, _, _, _]) 165 dX12_shareOut_162 rfl rfl (by decide) rfl rfl ?_
                  refine at_goto 96 dX12_shareOut_165 rfl ?_
                  refine at_drop (L' := [_, _, _, _, _, _, _, _]) 6 rfl ?_
                  refine at_drop (L' := [_, _, _, _, _, _, _, _]) 7 rfl ?_
                  refine ih (updN r (best r n) 0) (updN got (best r n) (got (best r n) + 1)) (updN W (best r n) 0) _ _ (by omega) (by omega) hX (fun i hi => ?_) (fun i hi hp => ?_) (fun i hi => ?_) (fun i hi => ?_) aR ?_ hfr
                  · by_cases e : i = best r n
                    · rw [e, updN_s]; omega
                    · rw [updN_n _ _ e, updN_n _ _ e]; exact hW1 i hi
                  · by_cases e : i = best r n
                    · rw [e, updN_s] at hp; omega
                    · rw [updN_n _ _ e] at hp; rw [updN_n _ _ e, updN_n _ _ e]; exact hW2 i hi hp
                  · by_cases e : i = best r n
                    · rw [e, updN_s]; decide
                    · rw [updN_n _ _ e]; exact hrb i hi
                  · by_cases e : i = best r n
                    · rw [e, pk_uLs, updN_s]; decide
                    · rw [pk_uLn e, updN_n _ _ e]; exact hf i hi
                  · rw [aG]
                    congr 2
                    funext x
                    unfold updN shr
                    by_cases e : x = best r n
                    · subst e
                      simp [hb]
                    · simp [e]
              exact inner n 0 (by omega)
          refine loop3 (g - sm (prt g w (sm w n)) n) (rst g w (sm w n)) (prt g w (sm w n)) (fun i => rst g w (sm w n) i + 1) f h' hL.2 (by omega) rfl (fun i hi => by omega) (fun i hi _ => rfl) (fun i hi => ?_) (fun i hi => ?_) aR aG hfr
          · have : rst g w (sm w n) i < sm w n := Nat.mod_lt _ hT
            omega
          · rw [hf i hi]
            show _ = lN (_ + 1) - 1
            rw [← lN_1, Int64.add_sub_cancel]
      exact loop2 n 0 Rj h (by omega) (fun j hj => by omega) hr (by rw [shr_0]; exact hgt) Fr.rf
  exact loop1 n 0 (by omega)
end
section
theorem c_X11_isWithin {h : List PC} (x lo hi : Int32) : Ct mX11_isWithin [.int x, .int lo, .int hi] h (fun r h' => r = some (.int (bI (wi x lo hi))) ∧ h' = h) := by
  refine ct_at (L := [_, _, _]) (by decide +kernel) rfl rfl (Nat.le_of_ble_eq_true rfl) ?_
  refine at_iload_n 1 dX11_isWithin_0 rfl rfl rfl ?_
  refine at_iload_n 2 dX11_isWithin_1 rfl rfl rfl ?_
  refine at_icmp_lt 14 5 dX11_isWithin_2 rfl rfl (fun cc => ?_) (fun cc => ?_)
  · refine at_iconst 15 (nI 0) dX11_isWithin_14 rfl (by decide) ?_
    refine at_zret dX11_isWithin_15 rfl (by first | rfl | decide) (by decide) (by decide) ?_
    exact ⟨bI_f (fun q => absurd cc (Int32.not_lt.mpr q.1)), rfl⟩
  refine at_iload_n 6 dX11_isWithin_5 rfl rfl rfl ?_
  refine at_iload_n 7 dX11_isWithin_6 rfl rfl rfl ?_
  refine at_icmp_gt 14 10 dX11_isWithin_7 rfl rfl (fun cc => ?_) (fun cc => ?_)
  · refine at_iconst 15 (nI 0) dX11_isWithin_14 rfl (by decide) ?_
    refine at_zret dX11_isWithin_15 rfl (by first | rfl | decide) (by decide) (by decide) ?_
    exact ⟨bI_f (fun q => absurd cc (Int32.not_lt.mpr q.2)), rfl⟩
  refine at_iconst 11 (nI 1) dX11_isWithin_10 rfl (by decide) ?_
  refine at_goto 15 dX11_isWithin_11 rfl ?_
  refine at_zret dX11_isWithin_15 rfl (by first | rfl | decide) (by decide) (by decide) ?_
  exact ⟨bI_t ⟨i_nlt (by assumption), i_nlt cc⟩, rfl⟩
theorem c_X11_isThing {h : List PC} (x : Int32) : Ct mX11_isThing [.int x] h (fun r h' => r = some (.int (bI (wi x (nI 0) (nI 3)))) ∧ h' = h) := by
  refine ct_at (L := [_]) (by decide +kernel) rfl rfl (Nat.le_of_ble_eq_true rfl) ?_
  refine at_iload_n 1 dX11_isThing_0 rfl rfl rfl ?_
  refine at_iconst 2 (nI 0) dX11_isThing_1 rfl (by decide) ?_
  refine at_iconst 3 (nI 3) dX11_isThing_2 rfl (by decide) ?_
  refine at_invS 6 [_, _, _] _ (c_X11_isWithin x (nI 0) (nI 3)) dX11_isThing_3 rfl rfl ml_X11_94 cl_X11_isWithin sv_X11_isWithin rfl (Nat.le_of_ble_eq_true rfl) ⟨by decide, by decide⟩ (by decide) (fun rr hh qq => ?_)
  obtain ⟨rfl, rfl⟩ := qq
  refine at_zret dX11_isThing_6 rfl ?_ (by decide) (by decide) ⟨rfl, rfl⟩
  cases wi x (nI 0) (nI 3) <;> rfl
theorem i2l_nn {a : Int32} (h : ¬ a < 0) : ∃ j : Nat, j < 2 ^ 31 ∧ a = nI j := nI_of h
theorem c_X11_isMakeUp {h : List PC} (a b c d : Int32) : Ct mX11_isMakeUp [.int a, .int b, .int c, .int d] h (fun r h' => r = some (.int (bI (decide (0 ≤ a ∧ 0 ≤ b ∧ 0 ≤ c ∧ 0 ≤ d ∧ a.toInt + b.toInt + c.toInt + d.toInt = 1000)))) ∧ h' = h) := by
  refine ct_at (L := [_, _, _, _]) (by decide +kernel) rfl rfl (Nat.le_of_ble_eq_true rfl) ?_
  refine at_iload_n 1 dX11_isMakeUp_0 rfl rfl rfl ?_
  refine at_if_lt 38 4 dX11_isMakeUp_1 rfl rfl (fun cc => ?_) (fun cc => ?_)
  · refine at_iconst 39 (nI 0) dX11_isMakeUp_38 rfl (by decide) ?_
    refine at_zret dX11_isMakeUp_39 rfl (by first | rfl | decide) (by decide) (by decide) ?_
    exact ⟨bI_f (fun q => absurd cc (Int32.not_lt.mpr q.1)), rfl⟩
  have ca := cc
  refine at_iload_n 5 dX11_isMakeUp_4 rfl rfl rfl ?_
  refine at_if_lt 38 8 dX11_isMakeUp_5 rfl rfl (fun cc => ?_) (fun cc => ?_)
  · refine at_iconst 39 (nI 0) dX11_isMakeUp_38 rfl (by decide) ?_
    refine at_zret dX11_isMakeUp_39 rfl (by first | rfl | decide) (by decide) (by decide) ?_
    exact ⟨bI_f (fun q => absurd cc (Int32.not_lt.mpr q.2.1)), rfl⟩
  have cb := cc
  refine at_iload_n 9 dX11_isMakeUp_8 rfl rfl rfl ?_
  refine at_if_lt 38 12 dX11_isMakeUp_9 rfl rfl (fun cc => ?_) (fun cc => ?_)
  · refine at_iconst 39 (nI 0) dX11_isMakeUp_38 rfl (by decide) ?_
    refine at_zret dX11_isMakeUp_39 rfl (by first | rfl | decide) (by decide) (by decide) ?_
    exact ⟨bI_f (fun q => absurd cc (Int32.not_lt.mpr q.2.2.1)), rfl⟩
  have ccc := cc
  refine at_iload_n 13 dX11_isMakeUp_12 rfl rfl rfl ?_
  refine at_if_lt 38 16 dX11_isMakeUp_13 rfl rfl (fun cc => ?_) (fun cc => ?_)
  · refine at_iconst 39 (nI 0) dX11_isMakeUp_38 rfl (by decide) ?_
    refine at_zret dX11_isMakeUp_39 rfl (by first | rfl | decide) (by decide) (by decide) ?_
    exact ⟨bI_f (fun q => absurd cc (Int32.not_lt.mpr q.2.2.2.1)), rfl⟩
  have cdd := cc
  clear cc
  obtain ⟨x, hx, rfl⟩ := nI_of ca
  obtain ⟨y, hy, rfl⟩ := nI_of cb
  obtain ⟨z, hz, rfl⟩ := nI_of ccc
  obtain ⟨u, hu, rfl⟩ := nI_of cdd
  rw [nI_toInt hx, nI_toInt hy, nI_toInt hz, nI_toInt hu]
  refine at_iload_n 17 dX11_isMakeUp_16 rfl rfl rfl ?_
  first | refine at_i2lN 18 dX11_isMakeUp_17 rfl (by omega) ?_ | refine at_i2l 18 dX11_isMakeUp_17 rfl rfl ?_
  refine at_iload_n 19 dX11_isMakeUp_18 rfl rfl rfl ?_
  first | refine at_i2lN 20 dX11_isMakeUp_19 rfl (by omega) ?_ | refine at_i2l 20 dX11_isMakeUp_19 rfl rfl ?_
  first | refine at_laddN 21 dX11_isMakeUp_20 rfl ?_ | refine at_ladd 21 dX11_isMakeUp_20 rfl ?_
  refine at_iload_n 22 dX11_isMakeUp_21 rfl rfl rfl ?_
  first | refine at_i2lN 23 dX11_isMakeUp_22 rfl (by omega) ?_ | refine at_i2l 23 dX11_isMakeUp_22 rfl rfl ?_
  first | refine at_laddN 24 dX11_isMakeUp_23 rfl ?_ | refine at_ladd 24 dX11_isMakeUp_23 rfl ?_
  refine at_iload_n 25 dX11_isMakeUp_24 rfl rfl rfl ?_
  first | refine at_i2lN 26 dX11_isMakeUp_25 rfl (by omega) ?_ | refine at_i2l 26 dX11_isMakeUp_25 rfl rfl ?_
  first | refine at_laddN 27 dX11_isMakeUp_26 rfl ?_ | refine at_ladd 27 dX11_isMakeUp_26 rfl ?_
  refine at_ldc2 30 (lN 1000) dX11_isMakeUp_27 rfl cj_X11_270 ?_
  refine at_lcmp_neN 31 38 34 dX11_isMakeUp_30 rfl dX11_isMakeUp_31 rfl rfl (by omega) (by omega) (fun cc => ?_) (fun cc => ?_)
  · refine at_iconst 39 (nI 0) dX11_isMakeUp_38 rfl (by decide) ?_
    refine at_zret dX11_isMakeUp_39 rfl (by first | rfl | decide) (by decide) (by decide) ?_
    exact ⟨bI_f (fun q => by omega), rfl⟩
  · refine at_iconst 35 (nI 1) dX11_isMakeUp_34 rfl (by decide) ?_
    refine at_goto 39 dX11_isMakeUp_35 rfl ?_
    refine at_zret dX11_isMakeUp_39 rfl (by first | rfl | decide) (by decide) (by decide) ?_
    exact ⟨bI_t ⟨nI_pos' hx, nI_pos' hy, nI_pos' hz, nI_pos' hu, by omega⟩, rfl⟩
theorem c_X11_mostDoubt {h : List PC} {k : Nat} (hk : k < 4) : Ct mX11_mostDoubt [.int (nI k)] h (fun r h' => r = some (.int (nI (if k = 0 ∨ k = 2 then 0 else 100))) ∧ h' = h) := by
  refine ct_at (L := [_]) (by decide +kernel) rfl rfl (Nat.le_of_ble_eq_true rfl) ?_
  refine at_iload_n 1 dX11_mostDoubt_0 rfl rfl rfl ?_
  refine at_if_eqN 9 4 dX11_mostDoubt_1 rfl rfl (by omega) (fun cc => ?_) (fun cc => ?_)
  · refine at_iconst 10 (nI 0) dX11_mostDoubt_9 rfl (by decide) ?_
    refine at_goto 15 dX11_mostDoubt_10 rfl ?_
    refine at_iret dX11_mostDoubt_15 rfl (by decide) (by decide) ?_
    rw [if_pos (Or.inl cc)]
    exact ⟨rfl, rfl⟩
  have c0 := cc
  refine at_iload_n 5 dX11_mostDoubt_4 rfl rfl rfl ?_
  refine at_iconst 6 (nI 2) dX11_mostDoubt_5 rfl (by decide) ?_
  refine at_icmp_neN 13 9 dX11_mostDoubt_6 rfl rfl (by omega) (by omega) (fun cc => ?_) (fun cc => ?_)
  · refine at_bipush 15 (nI 100) dX11_mostDoubt_13 rfl (by decide) ?_
    refine at_iret dX11_mostDoubt_15 rfl (by decide) (by decide) ?_
    rw [if_neg (by omega)]
    exact ⟨rfl, rfl⟩
  · refine at_iconst 10 (nI 0) dX11_mostDoubt_9 rfl (by decide) ?_
    refine at_goto 15 dX11_mostDoubt_10 rfl ?_
    refine at_iret dX11_mostDoubt_15 rfl (by decide) (by decide) ?_
    rw [if_pos (Or.inr cc)]
    exact ⟨rfl, rfl⟩
theorem c_X11_sumOf {h : List PC} {w : Nat → Nat} {k : Nat} (hk : h[k]? = some (aI 8 w)) : Ct mX11_sumOf [.ref k] h (fun r h' => r = some (.int (nI (sm w 8))) ∧ h' = h) := by
  refine ct_at (L := [_, _, _, _, _, _]) (by decide +kernel) rfl rfl (Nat.le_of_ble_eq_true rfl) ?_
  refine at_iconst 1 (nI 0) dX11_sumOf_0 rfl (by decide) ?_
  refine at_istore_n (L' := [_, _, _, _, _, _]) 2 dX11_sumOf_1 rfl rfl (by decide) rfl rfl ?_
  refine at_aload_n 3 dX11_sumOf_2 rfl rfl rfl ?_
  refine at_astore_n (L' := [_, _, _, _, _, _]) 4 dX11_sumOf_3 rfl rfl (by decide) rfl rfl ?_
  refine at_aload_n 5 dX11_sumOf_4 rfl rfl rfl ?_
  refine at_alen 6 .int dX11_sumOf_5 rfl (hk) (fun _ => rfl) rfl ?_
  rw [show Int32.ofNat 8 = nI 8 from rfl]
  refine at_istore_n (L' := [_, _, _, _, _, _]) 7 dX11_sumOf_6 rfl rfl (by decide) rfl rfl ?_
  refine at_iconst 8 (nI 0) dX11_sumOf_7 rfl (by decide) ?_
  refine at_istore (L' := [_, _, _, _, _, _]) 10 dX11_sumOf_8 rfl (by decide) rfl rfl ?_
  have loop : ∀ (d i : Nat), i + d = 8 → At mX11_sumOf T0 10 [.ref k, .int (nI (sm w i)), .ref k, .int (nI 8), .int (nI i), .null] [] h 0 0 (ZM mX11_sumOf (fun r h' => r = some (.int (nI (sm w 8))) ∧ h' = h)) := by
    intro d
    induction d with
    | zero =>
      intro i hi
      have : i = 8 := by omega
      subst this
      refine at_iload 12 dX11_sumOf_10 rfl rfl ?_
      refine at_iload_n 13 dX11_sumOf_12 rfl rfl rfl ?_
      refine at_icmp_geN 33 16 dX11_sumOf_13 rfl rfl (by omega) (by omega) (fun cc => ?_) (fun cc => ?_)
      · refine at_iload_n 34 dX11_sumOf_33 rfl rfl rfl ?_
        refine at_iret dX11_sumOf_34 rfl (by decide) (by decide) ?_
        exact ⟨rfl, rfl⟩
      · omega
    | succ d ih =>
      intro i hi
      refine at_iload 12 dX11_sumOf_10 rfl rfl ?_
      refine at_iload_n 13 dX11_sumOf_12 rfl rfl rfl ?_
      refine at_icmp_geN 33 16 dX11_sumOf_13 rfl rfl (by omega) (by omega) (fun cc => ?_) (fun cc => ?_)
      · omega
      refine at_aload_n 17 dX11_sumOf_16 rfl rfl rfl ?_
      refine at_iload 19 dX11_sumOf_17 rfl rfl ?_
      first | refine at_ia 20 dX11_sumOf_19 rfl ⟨_, _, by assumption, by omega, by first | decide | omega, ?_⟩ | refine at_iaG 20 dX11_sumOf_19 rfl ⟨_, _, by assumption, by omega, by first | decide | omega, ?_⟩
      refine at_istore (L' := [_, _, _, _, _, _]) 22 dX11_sumOf_20 rfl (by decide) rfl rfl ?_
      refine at_iload_n 23 dX11_sumOf_22 rfl rfl rfl ?_
      refine at_iload 25 dX11_sumOf_23 rfl rfl ?_
      first | refine at_iaddN 26 dX11_sumOf_25 rfl ?_ | refine at_iadd 26 dX11_sumOf_25 rfl ?_
      refine at_istore_n (L' := [_, _, _, _, _, _]) 27 dX11_sumOf_26 rfl rfl (by decide) rfl rfl ?_
      refine at_iincN (q := 1) (L' := [_, _, _, _, _, _]) 30 dX11_sumOf_27 rfl (by decide) rfl (by decide) rfl rfl ?_
      refine at_goto 10 dX11_sumOf_30 rfl ?_
      refine at_drop (L' := [_, _, _, _, _, _]) 5 rfl ?_
      exact ih (i + 1) (by omega)
  exact loop 8 0 (by omega)
theorem c_X11_canRun {h : List PC} {wn : Int32} {md mx cc0 w p st : Nat} (h0 : h[0]? = some (oTankObj wn)) (ht : h[39]? = some (oTank 39 md cc0 w p st)) (hm : h[18]? = some (oMix mx)) (h1 : md ≤ 1) (h2 : mx ≤ 1) : Ct mX11_canRun [.ref 0] h (fun r h' => r = some (.int (bI (decide (md = 1 ∧ mx = 1)))) ∧ h' = h) := by
  refine ct_at (L := [_]) (by decide +kernel) rfl rfl (Nat.le_of_ble_eq_true rfl) ?_
  refine at_aload_n 1 dX11_canRun_0 rfl rfl rfl ?_
  refine at_g 4 dX11_canRun_1 rfl fl_X11_47 ⟨_, by assumption, ?_⟩
  refine ⟨_, rfl, ?_⟩
  refine at_g 7 dX11_canRun_4 rfl fl_X11_156 ⟨_, by assumption, ?_⟩
  refine ⟨_, rfl, ?_⟩
  refine at_if_eqN 24 10 dX11_canRun_7 rfl rfl (by omega) (fun cc => ?_) (fun cc => ?_)
  · refine at_iconst 25 (nI 0) dX11_canRun_24 rfl (by decide) ?_
    refine at_zret dX11_canRun_25 rfl (by first | rfl | decide) (by decide) (by decide) ?_
    exact ⟨bI_f (by omega), rfl⟩
  have c1 := cc
  refine at_aload_n 11 dX11_canRun_10 rfl rfl rfl ?_
  refine at_g 14 dX11_canRun_11 rfl fl_X11_22 ⟨_, by assumption, ?_⟩
  refine ⟨_, rfl, ?_⟩
  refine at_g 17 dX11_canRun_14 rfl fl_X11_185 ⟨_, by assumption, ?_⟩
  refine ⟨_, rfl, ?_⟩
  refine at_if_eqN 24 20 dX11_canRun_17 rfl rfl (by omega) (fun cc => ?_) (fun cc => ?_)
  · refine at_iconst 25 (nI 0) dX11_canRun_24 rfl (by decide) ?_
    refine at_zret dX11_canRun_25 rfl (by first | rfl | decide) (by decide) (by decide) ?_
    exact ⟨bI_f (by omega), rfl⟩
  refine at_iconst 21 (nI 1) dX11_canRun_20 rfl (by decide) ?_
  refine at_goto 25 dX11_canRun_21 rfl ?_
  refine at_zret dX11_canRun_25 rfl (by first | rfl | decide) (by decide) (by decide) ?_
  exact ⟨bI_t (by omega), rfl⟩
theorem c_X2_has {h : List PC} {cnt : Nat} (f : Int32) (hF : h[4]? = some (oFeeds cnt)) : Ct mX2_has [.ref 4, .int f] h (fun r h' => r = some (.int (bI (decide (0 ≤ f ∧ f < nI cnt)))) ∧ h' = h) := by
  refine ct_at (L := [_, _]) (by decide +kernel) rfl rfl (Nat.le_of_ble_eq_true rfl) ?_
  refine at_iload_n 1 dX2_has_0 rfl rfl rfl ?_
  refine at_if_lt 16 4 dX2_has_1 rfl rfl (fun cc => ?_) (fun cc => ?_)
  · refine at_iconst 17 (nI 0) dX2_has_16 rfl (by decide) ?_
    refine at_zret dX2_has_17 rfl (by first | rfl | decide) (by decide) (by decide) ?_
    exact ⟨bI_f (fun q => absurd cc (Int32.not_lt.mpr q.1)), rfl⟩
  refine at_iload_n 5 dX2_has_4 rfl rfl rfl ?_
  refine at_aload_n 6 dX2_has_5 rfl rfl rfl ?_
  refine at_g 9 dX2_has_6 rfl fl_X2_29 ⟨_, by assumption, ?_⟩
  refine ⟨_, rfl, ?_⟩
  refine at_icmp_ge 16 12 dX2_has_9 rfl rfl (fun cc => ?_) (fun cc => ?_)
  · refine at_iconst 17 (nI 0) dX2_has_16 rfl (by decide) ?_
    refine at_zret dX2_has_17 rfl (by first | rfl | decide) (by decide) (by decide) ?_
    exact ⟨bI_f (fun q => absurd q.2 (Int32.not_lt.mpr cc)), rfl⟩
  refine at_iconst 13 (nI 1) dX2_has_12 rfl (by decide) ?_
  refine at_goto 17 dX2_has_13 rfl ?_
  refine at_zret dX2_has_17 rfl (by first | rfl | decide) (by decide) (by decide) ?_
  exact ⟨bI_t ⟨i_nlt (by assumption), i_nle cc⟩, rfl⟩
theorem c_X1_has {h : List PC} {cnt : Nat} (f : Int32) (hF : h[21]? = some (oColours cnt)) : Ct mX1_has [.ref 21, .int f] h (fun r h' => r = some (.int (bI (decide (0 ≤ f ∧ f < nI cnt)))) ∧ h' = h) := by
  refine ct_at (L := [_, _]) (by decide +kernel) rfl rfl (Nat.le_of_ble_eq_true rfl) ?_
  refine at_iload_n 1 dX1_has_0 rfl rfl rfl ?_
  refine at_if_lt 16 4 dX1_has_1 rfl rfl (fun cc => ?_) (fun cc => ?_)
  · refine at_iconst 17 (nI 0) dX1_has_16 rfl (by decide) ?_
    refine at_zret dX1_has_17 rfl (by first | rfl | decide) (by decide) (by decide) ?_
    exact ⟨bI_f (fun q => absurd cc (Int32.not_lt.mpr q.1)), rfl⟩
  refine at_iload_n 5 dX1_has_4 rfl rfl rfl ?_
  refine at_aload_n 6 dX1_has_5 rfl rfl rfl ?_
  refine at_g 9 dX1_has_6 rfl fl_X1_19 ⟨_, by assumption, ?_⟩
  refine ⟨_, rfl, ?_⟩
  refine at_icmp_ge 16 12 dX1_has_9 rfl rfl (fun cc => ?_) (fun cc => ?_)
  · refine at_iconst 17 (nI 0) dX1_has_16 rfl (by decide) ?_
    refine at_zret dX1_has_17 rfl (by first | rfl | decide) (by decide) (by decide) ?_
    exact ⟨bI_f (fun q => absurd q.2 (Int32.not_lt.mpr cc)), rfl⟩
  refine at_iconst 13 (nI 1) dX1_has_12 rfl (by decide) ?_
  refine at_goto 17 dX1_has_13 rfl ?_
  refine at_zret dX1_has_17 rfl (by first | rfl | decide) (by decide) (by decide) ?_
  exact ⟨bI_t ⟨i_nlt (by assumption), i_nle cc⟩, rfl⟩
theorem c_X5_has {h : List PC} {cnt wa pu : Nat} (f : Int32) (hF : h[62]? = some (oLog cnt wa pu)) : Ct mX5_has [.ref 62, .int f] h (fun r h' => r = some (.int (bI (decide (0 ≤ f ∧ f < nI cnt)))) ∧ h' = h) := by
  refine ct_at (L := [_, _]) (by decide +kernel) rfl rfl (Nat.le_of_ble_eq_true rfl) ?_
  refine at_iload_n 1 dX5_has_0 rfl rfl rfl ?_
  refine at_if_lt 16 4 dX5_has_1 rfl rfl (fun cc => ?_) (fun cc => ?_)
  · refine at_iconst 17 (nI 0) dX5_has_16 rfl (by decide) ?_
    refine at_zret dX5_has_17 rfl (by first | rfl | decide) (by decide) (by decide) ?_
    exact ⟨bI_f (fun q => absurd cc (Int32.not_lt.mpr q.1)), rfl⟩
  refine at_iload_n 5 dX5_has_4 rfl rfl rfl ?_
  refine at_aload_n 6 dX5_has_5 rfl rfl rfl ?_
  refine at_g 9 dX5_has_6 rfl fl_X5_28 ⟨_, by assumption, ?_⟩
  refine ⟨_, rfl, ?_⟩
  refine at_icmp_ge 16 12 dX5_has_9 rfl rfl (fun cc => ?_) (fun cc => ?_)
  · refine at_iconst 17 (nI 0) dX5_has_16 rfl (by decide) ?_
    refine at_zret dX5_has_17 rfl (by first | rfl | decide) (by decide) (by decide) ?_
    exact ⟨bI_f (fun q => absurd q.2 (Int32.not_lt.mpr cc)), rfl⟩
  refine at_iconst 13 (nI 1) dX5_has_12 rfl (by decide) ?_
  refine at_goto 17 dX5_has_13 rfl ?_
  refine at_zret dX5_has_17 rfl (by first | rfl | decide) (by decide) (by decide) ?_
  exact ⟨bI_t ⟨i_nlt (by assumption), i_nle cc⟩, rfl⟩
theorem c_X5_clear {h : List PC} {cnt wa pu : Nat} (hF : h[62]? = some (oLog cnt wa pu)) : Ct mX5_clear [.ref 62] h (fun r h' => r = none ∧ h'[62]? = some (oLog 0 0 0) ∧ Fr (fun j => j = 62) h h') := by
  refine ct_at (L := [_]) (by decide +kernel) rfl rfl (Nat.le_of_ble_eq_true rfl) ?_
  have hfr : Fr (fun j => j = 62) h h := Fr.rf
  refine at_aload_n 1 dX5_clear_0 rfl rfl rfl ?_
  refine at_iconst 2 (nI 0) dX5_clear_1 rfl (by decide) ?_
  refine at_pi 5 dX5_clear_2 rfl pl_X5_28 (rfl) (rfl) ⟨_, by assumption, ?_⟩
  refine ⟨(Nat.le_of_ble_eq_true rfl), [_, _, _, _, _, _, _, _], rfl, fun hh1 nn1 => ?_⟩
  replace hF := nn1.1
  replace hfr := hfr.nw nn1 (by first | (dsimp only; omega) | (dsimp only; done) | simp)
  clear nn1
  refine at_aload_n 6 dX5_clear_5 rfl rfl rfl ?_
  refine at_iconst 7 (nI 0) dX5_clear_6 rfl (by decide) ?_
  refine at_pi 10 dX5_clear_7 rfl pl_X5_32 (rfl) (rfl) ⟨_, by assumption, ?_⟩
  refine ⟨(Nat.le_of_ble_eq_true rfl), [_, _, _, _, _, _, _, _], rfl, fun hh2 nn2 => ?_⟩
  replace hF := nn2.1
  replace hfr := hfr.nw nn2 (by first | (dsimp only; omega) | (dsimp only; done) | simp)
  clear nn2
  refine at_aload_n 11 dX5_clear_10 rfl rfl rfl ?_
  refine at_iconst 12 (nI 0) dX5_clear_11 rfl (by decide) ?_
  refine at_pi 15 dX5_clear_12 rfl pl_X5_35 (rfl) (rfl) ⟨_, by assumption, ?_⟩
  refine ⟨(Nat.le_of_ble_eq_true rfl), [_, _, _, _, _, _, _, _], rfl, fun hh3 nn3 => ?_⟩
  replace hF := nn3.1
  replace hfr := hfr.nw nn3 (by first | (dsimp only; omega) | (dsimp only; done) | simp)
  clear nn3
  refine at_vret dX5_clear_15 rfl (by decide) (by decide) ?_
  exact ⟨rfl, hF, hfr⟩
theorem c_X10_outOfLast {h : List PC} {t md n w p st : Nat} (hT : h[t]? = some (oTank t md n w p st)) (hf : h[t + 8]? = some (aR 7 (rowsAt (t + 8) 7))) (hn : n < 7) : Ct mX10_outOfLast [.ref t] h (fun r h' => r = some (.ref (t + 9 + n)) ∧ h' = h) := by
  refine ct_at (L := [_]) (by decide +kernel) rfl rfl (Nat.le_of_ble_eq_true rfl) ?_
  refine at_aload_n 1 dX10_outOfLast_0 rfl rfl rfl ?_
  refine at_g 4 dX10_outOfLast_1 rfl fl_X10_16 ⟨_, by assumption, ?_⟩
  refine ⟨_, rfl, ?_⟩
  refine at_aload_n 5 dX10_outOfLast_4 rfl rfl rfl ?_
  refine at_g 8 dX10_outOfLast_5 rfl fl_X10_19 ⟨_, by assumption, ?_⟩
  refine ⟨_, rfl, ?_⟩
  refine at_aa 9 dX10_outOfLast_8 rfl ⟨_, _, by assumption, by omega, by first | decide | omega, ?_⟩
  refine ⟨_, rowsAt_in (by omega), ?_⟩
  refine at_aret dX10_outOfLast_9 rfl (by decide) (by decide) ?_
  exact ⟨rfl, rfl⟩
theorem c_X10_allGrams {h : List PC} {t md n w p st : Nat} (hT : h[t]? = some (oTank t md n w p st)) (hm : md ≤ 1) : Ct mX10_allGrams [.ref t] h (fun r h' => r = some (.int (nI (if md = 1 then n * w else 0))) ∧ h' = h) := by
  refine ct_at (L := [_]) (by decide +kernel) rfl rfl (Nat.le_of_ble_eq_true rfl) ?_
  refine at_aload_n 1 dX10_allGrams_0 rfl rfl rfl ?_
  refine at_g 4 dX10_allGrams_1 rfl fl_X10_33 ⟨_, by assumption, ?_⟩
  refine ⟨_, rfl, ?_⟩
  refine at_if_eqN 19 7 dX10_allGrams_4 rfl rfl (by omega) (fun cc => ?_) (fun cc => ?_)
  · refine at_iconst 20 (nI 0) dX10_allGrams_19 rfl (by decide) ?_
    refine at_iret dX10_allGrams_20 rfl (by decide) (by decide) ?_
    rw [if_neg (by omega)]
    exact ⟨rfl, rfl⟩
  · refine at_aload_n 8 dX10_allGrams_7 rfl rfl rfl ?_
    refine at_g 11 dX10_allGrams_8 rfl fl_X10_19 ⟨_, by assumption, ?_⟩
    refine ⟨_, rfl, ?_⟩
    refine at_aload_n 12 dX10_allGrams_11 rfl rfl rfl ?_
    refine at_g 15 dX10_allGrams_12 rfl fl_X10_23 ⟨_, by assumption, ?_⟩
    refine ⟨_, rfl, ?_⟩
    first | refine at_imulN 16 dX10_allGrams_15 rfl ?_ | refine at_imul 16 dX10_allGrams_15 rfl ?_
    refine at_goto 20 dX10_allGrams_16 rfl ?_
    refine at_iret dX10_allGrams_20 rfl (by decide) (by decide) ?_
    rw [if_pos (by omega)]
    exact ⟨rfl, rfl⟩
end
section
theorem c_X2_add {h : List PC} {n k a b c d q p : Nat} {kd db pr w : Nat → Nat} (hF : h[4]? = some (oFeeds n)) (hk : h[5]? = some (aI 8 kd)) (hm : h[6]? = some (aR 8 (rowsAt 6 8))) (hr : h[7 + n]? = some (aI 4 w)) (hb : h[15]? = some (aI 8 db)) (hp : h[16]? = some (aI 8 pr)) (hn : n < 8) : Ct mX2_add [.ref 4, .int (nI k), .int (nI a), .int (nI b), .int (nI c), .int (nI d), .int (nI q), .int (nI p)] h (fun r h' => r = some (.int (nI n)) ∧ h'[4]? = some (oFeeds (n + 1)) ∧ h'[5]? = some (aI 8 (updN kd n k)) ∧ h'[7 + n]? = some (aI 4 (updN (updN (updN (updN w 0 a) 1 b) 2 c) 3 d)) ∧ h'[15]? = some (aI 8 (updN db n q)) ∧ h'[16]? = some (aI 8 (updN pr n p)) ∧ Fr (fun j => j = 4 ∨ j = 5 ∨ j = 7 + n ∨ j = 15 ∨ j = 16) h h') := by
  refine ct_at (L := [_, _, _, _, _, _, _, _, _]) (by decide +kernel) rfl rfl (Nat.le_of_ble_eq_true rfl) ?_
  have hfr : Fr (fun j => j = 4 ∨ j = 5 ∨ j = 7 + n ∨ j = 15 ∨ j = 16) h h := Fr.rf
  refine at_aload_n 1 dX2_add_0 rfl rfl rfl ?_
  refine at_g 4 dX2_add_1 rfl fl_X2_29 ⟨_, by assumption, ?_⟩
  refine ⟨_, rfl, ?_⟩
  refine at_bipush 6 (nI 8) dX2_add_4 rfl (by decide) ?_
  refine at_icmp_ltN 12 9 dX2_add_6 rfl rfl (by omega) (by omega) (fun cc => ?_) (fun cc => ?_)
  rotate_left
  · omega
  refine at_aload_n 13 dX2_add_12 rfl rfl rfl ?_
  refine at_g 16 dX2_add_13 rfl fl_X2_29 ⟨_, by assumption, ?_⟩
  refine ⟨_, rfl, ?_⟩
  refine at_istore (L' := [_, _, _, _, _, _, _, _, _]) 18 dX2_add_16 rfl (by decide) rfl rfl ?_
  refine at_aload_n 19 dX2_add_18 rfl rfl rfl ?_
  refine at_g 22 dX2_add_19 rfl fl_X2_9 ⟨_, by assumption, ?_⟩
  refine ⟨_, rfl, ?_⟩
  refine at_iload 24 dX2_add_22 rfl rfl ?_
  refine at_iload_n 25 dX2_add_24 rfl rfl rfl ?_
  first | refine at_is 26 dX2_add_25 rfl ⟨_, _, by assumption, by omega, by first | decide | omega, fun hh1 nn1 => ?_⟩ | refine at_isG 26 dX2_add_25 rfl ⟨_, _, by assumption, by omega, by first | decide | omega, fun hh1 nn1 => ?_⟩
  replace hF := nn1.o (by first | decide | omega | assumption) hF
  replace hk := nn1.1
  replace hm := nn1.o (by first | decide | omega | assumption) hm
  replace hr := nn1.o (by first | decide | omega | assumption) hr
  replace hb := nn1.o (by first | decide | omega | assumption) hb
  replace hp := nn1.o (by first | decide | omega | assumption) hp
  replace hfr := hfr.nw nn1 (by first | (dsimp only; omega) | (dsimp only; done) | simp)
  clear nn1
  refine at_aload_n 27 dX2_add_26 rfl rfl rfl ?_
  refine at_g 30 dX2_add_27 rfl fl_X2_17 ⟨_, by assumption, ?_⟩
  refine ⟨_, rfl, ?_⟩
  refine at_iload 32 dX2_add_30 rfl rfl ?_
  refine at_aa 33 dX2_add_32 rfl ⟨_, _, by assumption, by omega, by first | decide | omega, ?_⟩
  refine ⟨_, rowsAt_in (by omega), ?_⟩
  refine at_iconst 34 (nI 0) dX2_add_33 rfl (by decide) ?_
  refine at_iload_n 35 dX2_add_34 rfl rfl rfl ?_
  first | refine at_is 36 dX2_add_35 rfl ⟨_, _, by assumption, by omega, by first | decide | omega, fun hh2 nn2 => ?_⟩ | refine at_isG 36 dX2_add_35 rfl ⟨_, _, by assumption, by omega, by first | decide | omega, fun hh2 nn2 => ?_⟩
  replace hF := nn2.o (by first | decide | omega | assumption) hF
  replace hk := nn2.o (by first | decide | omega | assumption) hk
  replace hm := nn2.o (by first | decide | omega | assumption) hm
  replace hr := nn2.1
  replace hb := nn2.o (by first | decide | omega | assumption) hb
  replace hp := nn2.o (by first | decide | omega | assumption) hp
  replace hfr := hfr.nw nn2 (by first | (dsimp only; omega) | (dsimp only; done) | simp)
  clear nn2
  refine at_aload_n 37 dX2_add_36 rfl rfl rfl ?_
  refine at_g 40 dX2_add_37 rfl fl_X2_17 ⟨_, by assumption, ?_⟩
  refine ⟨_, rfl, ?_⟩
  refine at_iload 42 dX2_add_40 rfl rfl ?_
  refine at_aa 43 dX2_add_42 rfl ⟨_, _, by assumption, by omega, by first | decide | omega, ?_⟩
  refine ⟨_, rowsAt_in (by omega), ?_⟩
  refine at_iconst 44 (nI 1) dX2_add_43 rfl (by decide) ?_
  refine at_iload_n 45 dX2_add_44 rfl rfl rfl ?_
  first | refine at_is 46 dX2_add_45 rfl ⟨_, _, by assumption, by omega, by first | decide | omega, fun hh3 nn3 => ?_⟩ | refine at_isG 46 dX2_add_45 rfl ⟨_, _, by assumption, by omega, by first | decide | omega, fun hh3 nn3 => ?_⟩
  replace hF := nn3.o (by first | decide | omega | assumption) hF
  replace hk := nn3.o (by first | decide | omega | assumption) hk
  replace hm := nn3.o (by first | decide | omega | assumption) hm
  replace hr := nn3.1
  replace hb := nn3.o (by first | decide | omega | assumption) hb
  replace hp := nn3.o (by first | decide | omega | assumption) hp
  replace hfr := hfr.nw nn3 (by first | (dsimp only; omega) | (dsimp only; done) | simp)
  clear nn3
  refine at_aload_n 47 dX2_add_46 rfl rfl rfl ?_
  refine at_g 50 dX2_add_47 rfl fl_X2_17 ⟨_, by assumption, ?_⟩
  refine ⟨_, rfl, ?_⟩
  refine at_iload 52 dX2_add_50 rfl rfl ?_
  refine at_aa 53 dX2_add_52 rfl ⟨_, _, by assumption, by omega, by first | decide | omega, ?_⟩
  refine ⟨_, rowsAt_in (by omega), ?_⟩
  refine at_iconst 54 (nI 2) dX2_add_53 rfl (by decide) ?_
  refine at_iload 56 dX2_add_54 rfl rfl ?_
  first | refine at_is 57 dX2_add_56 rfl ⟨_, _, by assumption, by omega, by first | decide | omega, fun hh4 nn4 => ?_⟩ | refine at_isG 57 dX2_add_56 rfl ⟨_, _, by assumption, by omega, by first | decide | omega, fun hh4 nn4 => ?_⟩
  replace hF := nn4.o (by first | decide | omega | assumption) hF
  replace hk := nn4.o (by first | decide | omega | assumption) hk
  replace hm := nn4.o (by first | decide | omega | assumption) hm
  replace hr := nn4.1
  replace hb := nn4.o (by first | decide | omega | assumption) hb
  replace hp := nn4.o (by first | decide | omega | assumption) hp
  replace hfr := hfr.nw nn4 (by first | (dsimp only; omega) | (dsimp only; done) | simp)
  clear nn4
  refine at_aload_n 58 dX2_add_57 rfl rfl rfl ?_
  refine at_g 61 dX2_add_58 rfl fl_X2_17 ⟨_, by assumption, ?_⟩
  refine ⟨_, rfl, ?_⟩
  refine at_iload 63 dX2_add_61 rfl rfl ?_
  refine at_aa 64 dX2_add_63 rfl ⟨_, _, by assumption, by omega, by first | decide | omega, ?_⟩
  refine ⟨_, rowsAt_in (by omega), ?_⟩
  refine at_iconst 65 (nI 3) dX2_add_64 rfl (by decide) ?_
  refine at_iload 67 dX2_add_65 rfl rfl ?_
  first | refine at_is 68 dX2_add_67 rfl ⟨_, _, by assumption, by omega, by first | decide | omega, fun hh5 nn5 => ?_⟩ | refine at_isG 68 dX2_add_67 rfl ⟨_, _, by assumption, by omega, by first | decide | omega, fun hh5 nn5 => ?_⟩
  replace hF := nn5.o (by first | decide | omega | assumption) hF
  replace hk := nn5.o (by first | decide | omega | assumption) hk
  replace hm := nn5.o (by first | decide | omega | assumption) hm
  replace hr := nn5.1
  replace hb := nn5.o (by first | decide | omega | assumption) hb
  replace hp := nn5.o (by first | decide | omega | assumption) hp
  replace hfr := hfr.nw nn5 (by first | (dsimp only; omega) | (dsimp only; done) | simp)
  clear nn5
  refine at_aload_n 69 dX2_add_68 rfl rfl rfl ?_
  refine at_g 72 dX2_add_69 rfl fl_X2_20 ⟨_, by assumption, ?_⟩
  refine ⟨_, rfl, ?_⟩
  refine at_iload 74 dX2_add_72 rfl rfl ?_
  refine at_iload 76 dX2_add_74 rfl rfl ?_
  first | refine at_is 77 dX2_add_76 rfl ⟨_, _, by assumption, by omega, by first | decide | omega, fun hh6 nn6 => ?_⟩ | refine at_isG 77 dX2_add_76 rfl ⟨_, _, by assumption, by omega, by first | decide | omega, fun hh6 nn6 => ?_⟩
  replace hF := nn6.o (by first | decide | omega | assumption) hF
  replace hk := nn6.o (by first | decide | omega | assumption) hk
  replace hm := nn6.o (by first | decide | omega | assumption) hm
  replace hr := nn6.o (by first | decide | omega | assumption) hr
  replace hb := nn6.1
  replace hp := nn6.o (by first | decide | omega | assumption) hp
  replace hfr := hfr.nw nn6 (by first | (dsimp only; omega) | (dsimp only; done) | simp)
  clear nn6
  refine at_aload_n 78 dX2_add_77 rfl rfl rfl ?_
  refine at_g 81 dX2_add_78 rfl fl_X2_23 ⟨_, by assumption, ?_⟩
  refine ⟨_, rfl, ?_⟩
  refine at_iload 83 dX2_add_81 rfl rfl ?_
  refine at_iload 85 dX2_add_83 rfl rfl ?_
  first | refine at_is 86 dX2_add_85 rfl ⟨_, _, by assumption, by omega, by first | decide | omega, fun hh7 nn7 => ?_⟩ | refine at_isG 86 dX2_add_85 rfl ⟨_, _, by assumption, by omega, by first | decide | omega, fun hh7 nn7 => ?_⟩
  replace hF := nn7.o (by first | decide | omega | assumption) hF
  replace hk := nn7.o (by first | decide | omega | assumption) hk
  replace hm := nn7.o (by first | decide | omega | assumption) hm
  replace hr := nn7.o (by first | decide | omega | assumption) hr
  replace hb := nn7.o (by first | decide | omega | assumption) hb
  replace hp := nn7.1
  replace hfr := hfr.nw nn7 (by first | (dsimp only; omega) | (dsimp only; done) | simp)
  clear nn7
  refine at_aload_n 87 dX2_add_86 rfl rfl rfl ?_
  refine at_dup 88 dX2_add_87 rfl rfl ?_
  refine at_g 91 dX2_add_88 rfl fl_X2_29 ⟨_, by assumption, ?_⟩
  refine ⟨_, rfl, ?_⟩
  refine at_iconst 92 (nI 1) dX2_add_91 rfl (by decide) ?_
  first | refine at_iaddN 93 dX2_add_92 rfl ?_ | refine at_iadd 93 dX2_add_92 rfl ?_
  refine at_pi 96 dX2_add_93 rfl pl_X2_29 (rfl) (rfl) ⟨_, by assumption, ?_⟩
  refine ⟨(Nat.le_of_ble_eq_true rfl), [_, _, _, _, _, _], rfl, fun hh8 nn8 => ?_⟩
  replace hF := nn8.1
  replace hk := nn8.o (by first | decide | omega | assumption) hk
  replace hm := nn8.o (by first | decide | omega | assumption) hm
  replace hr := nn8.o (by first | decide | omega | assumption) hr
  replace hb := nn8.o (by first | decide | omega | assumption) hb
  replace hp := nn8.o (by first | decide | omega | assumption) hp
  replace hfr := hfr.nw nn8 (by first | (dsimp only; omega) | (dsimp only; done) | simp)
  clear nn8
  refine at_iload 98 dX2_add_96 rfl rfl ?_
  refine at_iret dX2_add_98 rfl (by decide) (by decide) ?_
  exact ⟨rfl, hF, hk, hr, hb, hp, hfr⟩
theorem c_X2_add_full {h : List PC} {n : Nat} (k a b c d q p : Int32) (hF : h[4]? = some (oFeeds n)) (hn : 8 ≤ n) (hn2 : n < 2 ^ 31) : Ct mX2_add [.ref 4, .int k, .int a, .int b, .int c, .int d, .int q, .int p] h (fun r h' => r = some (.int (-1000000000)) ∧ h' = h) := by
  refine ct_at (L := [_, _, _, _, _, _, _, _, _]) (by decide +kernel) rfl rfl (Nat.le_of_ble_eq_true rfl) ?_
  refine at_aload_n 1 dX2_add_0 rfl rfl rfl ?_
  refine at_g 4 dX2_add_1 rfl fl_X2_29 ⟨_, by assumption, ?_⟩
  refine ⟨_, rfl, ?_⟩
  refine at_bipush 6 (nI 8) dX2_add_4 rfl (by decide) ?_
  refine at_icmp_ltN 12 9 dX2_add_6 rfl rfl (by omega) (by omega) (fun cc => ?_) (fun cc => ?_)
  · omega
  refine at_ldc 11 (-1000000000) dX2_add_9 rfl cn_X2_33 ?_
  refine at_iret dX2_add_11 rfl (by decide) (by decide) ?_
  exact ⟨rfl, rfl⟩
def allB (P : Nat → Bool) : Nat → Bool
  | 0 => true
  | n + 1 => allB P n && P n
theorem allB_iff {P : Nat → Bool} : ∀ {n : Nat}, allB P n = true ↔ ∀ i, i < n → P i = true
  | 0 => ⟨fun _ i hi => absurd hi (Nat.not_lt_zero _), fun _ => rfl⟩
  | n + 1 => by
    unfold allB
    rw [Bool.and_eq_true, allB_iff (n := n)]
    refine ⟨fun q i hi => ?_, fun q => ⟨fun i hi => q i (by omega), q n (by omega)⟩⟩
    by_cases e : i = n
    · rw [e]; exact q.2
    · exact q.1 i (by omega)
theorem bI_T {b : Bool} (h : b = true) : (some (Value.int (nI 1)) : Option Value) = some (.int (bI b)) := by rw [h]; rfl
theorem bI_F {b : Bool} (h : ¬ b = true) : (some (Value.int (nI 0)) : Option Value) = some (.int (bI b)) := by rw [Bool.not_eq_true] at h; rw [h]; rfl
theorem c_X2_haveAll {h : List PC} {n kt : Nat} {s t : Nat → Nat} (hF : h[4]? = some (oFeeds n)) (hS : h[17]? = some (aI 8 s)) (hT : h[kt]? = some (aI 8 t)) (hs : ∀ i, i < 8 → s i < 2 ^ 31) (ht : ∀ i, i < 8 → t i < 2 ^ 31) : Ct mX2_haveAll [.ref 4, .ref kt] h (fun r h' => r = some (.int (bI (allB (fun i => decide (t i ≤ s i)) 8))) ∧ h' = h) := by
  refine ct_at (L := [_, _, _]) (by decide +kernel) rfl rfl (Nat.le_of_ble_eq_true rfl) ?_
  refine at_iconst 1 (nI 0) dX2_haveAll_0 rfl (by decide) ?_
  refine at_istore_n (L' := [_, _, _]) 2 dX2_haveAll_1 rfl rfl (by decide) rfl rfl ?_
  have loop : ∀ (d i : Nat), i + d = 8 → (∀ j, j < i → t j ≤ s j) → At mX2_haveAll T0 2 [.ref 4, .ref kt, .int (nI i)] [] h 0 0 (ZM mX2_haveAll (fun r h' => r = some (.int (bI (allB (fun i => decide (t i ≤ s i)) 8))) ∧ h' = h)) := by
    intro d
    induction d with
    | zero =>
      intro i hi hj
      refine at_iload_n 3 dX2_haveAll_2 rfl rfl rfl ?_
      refine at_bipush 5 (nI 8) dX2_haveAll_3 rfl (by decide) ?_
      refine at_icmp_geN 28 8 dX2_haveAll_5 rfl rfl (by omega) (by omega) (fun cc => ?_) (fun cc => ?_)
      · refine at_iconst 29 (nI 1) dX2_haveAll_28 rfl (by decide) ?_
        refine at_zret dX2_haveAll_29 rfl (by first | rfl | decide) (by decide) (by decide) ?_
        exact ⟨bI_T (allB_iff.mpr (fun j hj8 => decide_eq_true (hj j (by omega)))), rfl⟩
      · omega
    | succ d ih =>
      intro i hi hj
      refine at_iload_n 3 dX2_haveAll_2 rfl rfl rfl ?_
      refine at_bipush 5 (nI 8) dX2_haveAll_3 rfl (by decide) ?_
      refine at_icmp_geN 28 8 dX2_haveAll_5 rfl rfl (by omega) (by omega) (fun cc => ?_) (fun cc => ?_)
      · omega
      refine at_aload_n 9 dX2_haveAll_8 rfl rfl rfl ?_
      refine at_g 12 dX2_haveAll_9 rfl fl_X2_26 ⟨_, by assumption, ?_⟩
      refine ⟨_, rfl, ?_⟩
      refine at_iload_n 13 dX2_haveAll_12 rfl rfl rfl ?_
      first | refine at_ia 14 dX2_haveAll_13 rfl ⟨_, _, by assumption, by omega, by first | decide | omega, ?_⟩ | refine at_iaG 14 dX2_haveAll_13 rfl ⟨_, _, by assumption, by omega, by first | decide | omega, ?_⟩
      refine at_aload_n 15 dX2_haveAll_14 rfl rfl rfl ?_
      refine at_iload_n 16 dX2_haveAll_15 rfl rfl rfl ?_
      first | refine at_ia 17 dX2_haveAll_16 rfl ⟨_, _, by assumption, by omega, by first | decide | omega, ?_⟩ | refine at_iaG 17 dX2_haveAll_16 rfl ⟨_, _, by assumption, by omega, by first | decide | omega, ?_⟩
      refine at_icmp_geN 22 20 dX2_haveAll_17 rfl rfl (hs _ (by omega)) (ht _ (by omega)) (fun cc => ?_) (fun cc => ?_)
      · refine at_iincN (q := 1) (L' := [_, _, _]) 25 dX2_haveAll_22 rfl (by decide) rfl (by decide) rfl rfl ?_
        refine at_goto 2 dX2_haveAll_25 rfl ?_
        refine ih (i + 1) (by omega) (fun j hj2 => ?_)
        by_cases e : j = i
        · rw [e]; exact cc
        · exact hj j (by omega)
      · refine at_iconst 21 (nI 0) dX2_haveAll_20 rfl (by decide) ?_
        refine at_zret dX2_haveAll_21 rfl (by first | rfl | decide) (by decide) (by decide) ?_
        exact ⟨bI_F (fun q => by have := of_decide_eq_true (allB_iff.mp q i (by omega)); omega), rfl⟩
  exact loop 8 0 (by omega) (fun j hj => by omega)
theorem c_X2_takeAll {h : List PC} {n kt : Nat} {s t : Nat → Nat} (hF : h[4]? = some (oFeeds n)) (hS : h[17]? = some (aI 8 s)) (hT : h[kt]? = some (aI 8 t)) (hk : kt ≠ 17) (hst : ∀ i, i < 8 → t i ≤ s i) : Ct mX2_takeAll [.ref 4, .ref kt] h (fun r h' => r = none ∧ h'[17]? = some (aI 8 (fun i => if i < 8 then s i - t i else s i)) ∧ Fr (fun j => j = 17) h h') := by
  refine ct_at (L := [_, _, _]) (by decide +kernel) rfl rfl (Nat.le_of_ble_eq_true rfl) ?_
  refine at_iconst 1 (nI 0) dX2_takeAll_0 rfl (by decide) ?_
  refine at_istore_n (L' := [_, _, _]) 2 dX2_takeAll_1 rfl rfl (by decide) rfl rfl ?_
  have loop : ∀ (d j : Nat) (h1 : List PC), j + d = 8 → h1[17]? = some (aI 8 (fun i => if i < j then s i - t i else s i)) → Fr (fun j => j = 17) h h1 → At mX2_takeAll T0 2 [.ref 4, .ref kt, .int (nI j)] [] h1 0 0 (ZM mX2_takeAll (fun r h' => r = none ∧ h'[17]? = some (aI 8 (fun i => if i < 8 then s i - t i else s i)) ∧ Fr (fun j => j = 17) h h')) := by
    intro d
    induction d with
    | zero =>
      intro j h1 hj hS1 hfr
      have : j = 8 := by omega
      subst this
      refine at_iload_n 3 dX2_takeAll_2 rfl rfl rfl ?_
      refine at_bipush 5 (nI 8) dX2_takeAll_3 rfl (by decide) ?_
      refine at_icmp_geN 26 8 dX2_takeAll_5 rfl rfl (by omega) (by omega) (fun cc => ?_) (fun cc => ?_)
      · refine at_vret dX2_takeAll_26 rfl (by decide) (by decide) ?_
        exact ⟨rfl, hS1, hfr⟩
      · omega
    | succ d ih =>
      intro j h1 hj hS1 hfr
      have hF1 := hfr.at (k := 4) (by decide) hF
      have hT1 := hfr.at hk hT
      have hj8 := hst j (by omega)
      refine at_iload_n 3 dX2_takeAll_2 rfl rfl rfl ?_
      refine at_bipush 5 (nI 8) dX2_takeAll_3 rfl (by decide) ?_
      refine at_icmp_geN 26 8 dX2_takeAll_5 rfl rfl (by omega) (by omega) (fun cc => ?_) (fun cc => ?_)
      · omega
      · refine at_aload_n 9 dX2_takeAll_8 rfl rfl rfl ?_
        refine at_g 12 dX2_takeAll_9 rfl fl_X2_26 ⟨_, by assumption, ?_⟩
        refine ⟨_, rfl, ?_⟩
        refine at_iload_n 13 dX2_takeAll_12 rfl rfl rfl ?_
        refine at_dup2 14 dX2_takeAll_13 rfl rfl rfl ?_
        first | refine at_ia 15 dX2_takeAll_14 rfl ⟨_, _, by assumption, by omega, by first | decide | omega, ?_⟩ | refine at_iaG 15 dX2_takeAll_14 rfl ⟨_, _, by assumption, by omega, by first | decide | omega, ?_⟩
        refine at_aload_n 16 dX2_takeAll_15 rfl rfl rfl ?_
        refine at_iload_n 17 dX2_takeAll_16 rfl rfl rfl ?_
        first | refine at_ia 18 dX2_takeAll_17 rfl ⟨_, _, by assumption, by omega, by first | decide | omega, ?_⟩ | refine at_iaG 18 dX2_takeAll_17 rfl ⟨_, _, by assumption, by omega, by first | decide | omega, ?_⟩
        rw [if_neg (Nat.lt_irrefl j)]
        first | refine at_isubN 19 dX2_takeAll_18 rfl (by omega) ?_ | refine at_isub 19 dX2_takeAll_18 rfl ?_
        first | refine at_is 20 dX2_takeAll_19 rfl ⟨_, _, by assumption, by omega, by first | decide | omega, fun hh9 nn9 => ?_⟩ | refine at_isG 20 dX2_takeAll_19 rfl ⟨_, _, by assumption, by omega, by first | decide | omega, fun hh9 nn9 => ?_⟩
        replace hF1 := nn9.o (by first | decide | omega | assumption) hF1
        replace hS1 := nn9.1
        replace hT1 := nn9.o (by first | decide | omega | assumption) hT1
        replace hfr := hfr.nw nn9 (by first | (dsimp only; omega) | (dsimp only; done) | simp)
        clear nn9
        refine at_iincN (q := 1) (L' := [_, _, _]) 23 dX2_takeAll_20 rfl (by decide) rfl (by decide) rfl rfl ?_
        refine at_goto 2 dX2_takeAll_23 rfl ?_
        refine ih (j + 1) _ (by omega) ?_ hfr
        rw [hS1]
        congr 2
        funext i
        unfold updN
        by_cases e : i = j
        · subst e; simp
        · by_cases e2 : i < j
          · simp [e, e2, show i < j + 1 by omega]
          · simp [e, e2, show ¬ i < j + 1 by omega]
  exact loop 8 0 h (by decide) (by simpa using hS) Fr.rf
/-- the first own feed from i on -/
def ownF (kd : Nat → Nat) (n : Nat) : Nat → Nat → Nat
  | 0, i => i
  | d + 1, i => if kd i = 3 then i else ownF kd n d (i + 1)
def backS (kd s : Nat → Nat) (n g : Nat) : Nat → Nat := if ownF kd n n 0 < n then updN s (ownF kd n n 0) (if 10000000 < s (ownF kd n n 0) + g then 10000000 else s (ownF kd n n 0) + g) else s
theorem ownF_ge (kd : Nat → Nat) (n : Nat) : ∀ d i, i ≤ ownF kd n d i ∧ ownF kd n d i ≤ i + d
  | 0, i => ⟨Nat.le_refl _, Nat.le_refl _⟩
  | d + 1, i => by
    unfold ownF
    by_cases e : kd i = 3
    · rw [if_pos e]; omega
    · rw [if_neg e]
      have := ownF_ge kd n d (i + 1)
      omega
theorem c_X2_takeBack {h : List PC} {n g : Nat} {s kd : Nat → Nat} (hF : h[4]? = some (oFeeds n)) (hk : h[5]? = some (aI 8 kd)) (hS : h[17]? = some (aI 8 s)) (hn : n ≤ 8) (hkd : ∀ i, i < 8 → kd i < 4) (hs : ∀ i, i < 8 → s i ≤ 10000000) (hg : g ≤ 100000) : Ct mX2_takeBack [.ref 4, .int (nI g)] h (fun r h' => r = none ∧ h'[17]? = some (aI 8 (backS kd s n g)) ∧ Fr (fun j => j = 17) h h') := by
  refine ct_at (L := [_, _, _]) (by decide +kernel) rfl rfl (Nat.le_of_ble_eq_true rfl) ?_
  refine at_iconst 1 (nI 0) dX2_takeBack_0 rfl (by decide) ?_
  refine at_istore_n (L' := [_, _, _]) 2 dX2_takeBack_1 rfl rfl (by decide) rfl rfl ?_
  have loop : ∀ (d i : Nat), i + d = n → ownF kd n d i = ownF kd n n 0 → At mX2_takeBack T0 2 [.ref 4, .int (nI g), .int (nI i)] [] h 0 0 (ZM mX2_takeBack (fun r h' => r = none ∧ h'[17]? = some (aI 8 (backS kd s n g)) ∧ Fr (fun j => j = 17) h h')) := by
    intro d
    induction d with
    | zero =>
      intro i hi ho
      refine at_iload_n 3 dX2_takeBack_2 rfl rfl rfl ?_
      refine at_aload_n 4 dX2_takeBack_3 rfl rfl rfl ?_
      refine at_g 7 dX2_takeBack_4 rfl fl_X2_29 ⟨_, by assumption, ?_⟩
      refine ⟨_, rfl, ?_⟩
      refine at_icmp_geN 46 10 dX2_takeBack_7 rfl rfl (by omega) (by omega) (fun cc => ?_) (fun cc => ?_)
      · refine at_vret dX2_takeBack_46 rfl (by decide) (by decide) ?_
        refine ⟨rfl, ?_, Fr.rf⟩
        unfold backS
        rw [← ho]
        unfold ownF
        rw [if_neg (by omega)]
        exact hS
      · omega
    | succ d ih =>
      intro i hi ho
      have hfr : Fr (fun j => j = 17) h h := Fr.rf
      have hki := hkd i (by omega)
      have hsi := hs i (by omega)
      refine at_iload_n 3 dX2_takeBack_2 rfl rfl rfl ?_
      refine at_aload_n 4 dX2_takeBack_3 rfl rfl rfl ?_
      refine at_g 7 dX2_takeBack_4 rfl fl_X2_29 ⟨_, by assumption, ?_⟩
      refine ⟨_, rfl, ?_⟩
      refine at_icmp_geN 46 10 dX2_takeBack_7 rfl rfl (by omega) (by omega) (fun cc => ?_) (fun cc => ?_)
      · omega
      refine at_aload_n 11 dX2_takeBack_10 rfl rfl rfl ?_
      refine at_g 14 dX2_takeBack_11 rfl fl_X2_9 ⟨_, by assumption, ?_⟩
      refine ⟨_, rfl, ?_⟩
      refine at_iload_n 15 dX2_takeBack_14 rfl rfl rfl ?_
      first | refine at_ia 16 dX2_takeBack_15 rfl ⟨_, _, by assumption, by omega, by first | decide | omega, ?_⟩ | refine at_iaG 16 dX2_takeBack_15 rfl ⟨_, _, by assumption, by omega, by first | decide | omega, ?_⟩
      refine at_iconst 17 (nI 3) dX2_takeBack_16 rfl (by decide) ?_
      refine at_icmp_neN 40 20 dX2_takeBack_17 rfl rfl (by omega) (by omega) (fun cc => ?_) (fun cc => ?_)
      · refine at_iincN (q := 1) (L' := [_, _, _]) 43 dX2_takeBack_40 rfl (by decide) rfl (by decide) rfl rfl ?_
        refine at_goto 2 dX2_takeBack_43 rfl ?_
        refine ih (i + 1) (by omega) ?_
        rw [← ho]
        show _ = if kd i = 3 then i else ownF kd n d (i + 1)
        rw [if_neg cc]
      · have ho2 : ownF kd n n 0 = i := by
          rw [← ho]
          show (if kd i = 3 then i else ownF kd n d (i + 1)) = i
          rw [if_pos cc]
        refine at_aload_n 21 dX2_takeBack_20 rfl rfl rfl ?_
        refine at_g 24 dX2_takeBack_21 rfl fl_X2_26 ⟨_, by assumption, ?_⟩
        refine ⟨_, rfl, ?_⟩
        refine at_iload_n 25 dX2_takeBack_24 rfl rfl rfl ?_
        refine at_aload_n 26 dX2_takeBack_25 rfl rfl rfl ?_
        refine at_g 29 dX2_takeBack_26 rfl fl_X2_26 ⟨_, by assumption, ?_⟩
        refine ⟨_, rfl, ?_⟩
        refine at_iload_n 30 dX2_takeBack_29 rfl rfl rfl ?_
        first | refine at_ia 31 dX2_takeBack_30 rfl ⟨_, _, by assumption, by omega, by first | decide | omega, ?_⟩ | refine at_iaG 31 dX2_takeBack_30 rfl ⟨_, _, by assumption, by omega, by first | decide | omega, ?_⟩
        refine at_iload_n 32 dX2_takeBack_31 rfl rfl rfl ?_
        first | refine at_iaddN 33 dX2_takeBack_32 rfl ?_ | refine at_iadd 33 dX2_takeBack_32 rfl ?_
        refine at_ldc 35 (nI 10000000) dX2_takeBack_33 rfl cn_X2_34 ?_
        refine at_min 38 dX2_takeBack_35 rfl ml_X2_35 jw_min (Nat.le_of_ble_eq_true rfl) (by decide) (by decide) ?_
        have e9 : (if nI 10000000 < nI (s i + g) then nI 10000000 else nI (s i + g)) = nI (if 10000000 < s i + g then 10000000 else s i + g) := by
          by_cases e : 10000000 < s i + g
          · rw [if_pos e, if_pos ((nI_ltI (by decide) (by omega)).mpr e)]
          · rw [if_neg e, if_neg (fun q => e ((nI_ltI (by decide) (by omega)).mp q))]
        rw [e9]
        first | refine at_is 39 dX2_takeBack_38 rfl ⟨_, _, by assumption, by omega, by first | decide | omega, fun hh10 nn10 => ?_⟩ | refine at_isG 39 dX2_takeBack_38 rfl ⟨_, _, by assumption, by omega, by first | decide | omega, fun hh10 nn10 => ?_⟩
        replace hF := nn10.o (by first | decide | omega | assumption) hF
        replace hk := nn10.o (by first | decide | omega | assumption) hk
        replace hS := nn10.1
        replace hfr := hfr.nw nn10 (by first | (dsimp only; omega) | (dsimp only; done) | simp)
        clear nn10
        refine at_vret dX2_takeBack_39 rfl (by decide) (by decide) ?_
        refine ⟨rfl, ?_, hfr⟩
        unfold backS
        rw [ho2, if_pos (by omega)]
        exact hS
  exact loop n 0 (by omega) rfl
theorem c_X6_become {h : List PC} {m kg : Nat} {w a b : Nat → Nat} (hM : h[18]? = some (oMix m)) (ha : h[19]? = some (aI 8 a)) (hb : h[20]? = some (aI 8 b)) (hg : h[kg]? = some (aI 8 w)) (hk : kg ≠ 18 ∧ kg ≠ 19 ∧ kg ≠ 20) : Ct mX6_become [.ref 18, .ref kg] h (fun r h' => r = none ∧ Ar h' 19 8 w ∧ Ar h' 20 8 w ∧ h'[18]? = some (oMix 1) ∧ Fr (fun j => j = 18 ∨ j = 19 ∨ j = 20) h h') := by
  refine ct_at (L := [_, _, _]) (by decide +kernel) rfl rfl (Nat.le_of_ble_eq_true rfl) ?_
  refine at_iconst 1 (nI 0) dX6_become_0 rfl (by decide) ?_
  refine at_istore_n (L' := [_, _, _]) 2 dX6_become_1 rfl rfl (by decide) rfl rfl ?_
  have loop : ∀ (d i : Nat) (a b g : Nat → Nat) (h1 : List PC), i + d = 8 → h1[18]? = some (oMix m) → h1[19]? = some (aI 8 a) → h1[20]? = some (aI 8 b) → h1[kg]? = some (aI 8 g) → (∀ j, j < i → a j = w j ∧ b j = w j) → (∀ j, j < 8 → g j = w j) → Fr (fun j => j = 18 ∨ j = 19 ∨ j = 20) h h1 → At mX6_become T0 2 [.ref 18, .ref kg, .int (nI i)] [] h1 0 0 (ZM mX6_become (fun r h' => r = none ∧ Ar h' 19 8 w ∧ Ar h' 20 8 w ∧ h'[18]? = some (oMix 1) ∧ Fr (fun j => j = 18 ∨ j = 19 ∨ j = 20) h h')) := by
    intro d
    induction d with
    | zero =>
      intro i a b g h1 hi hM ha hb hg hab hgw hfr
      refine at_iload_n 3 dX6_become_2 rfl rfl rfl ?_
      refine at_bipush 5 (nI 8) dX6_become_3 rfl (by decide) ?_
      refine at_icmp_geN 32 8 dX6_become_5 rfl rfl (by omega) (by omega) (fun cc => ?_) (fun cc => ?_)
      · refine at_aload_n 33 dX6_become_32 rfl rfl rfl ?_
        refine at_iconst 34 (nI 1) dX6_become_33 rfl (by decide) ?_
        refine at_pi 37 dX6_become_34 rfl pl_X6_18 (by first | rfl | decide | assumption) (by first | rfl | decide | assumption) ⟨_, by assumption, ?_⟩
        refine ⟨(Nat.le_of_ble_eq_true rfl), [_, _, _], rfl, fun hh11 nn11 => ?_⟩
        replace hM := nn11.1
        replace ha := nn11.o (by first | decide | omega | assumption) ha
        replace hb := nn11.o (by first | decide | omega | assumption) hb
        replace hfr := hfr.nw nn11 (by first | (dsimp only; omega) | (dsimp only; done) | simp)
        clear nn11
        refine at_vret dX6_become_37 rfl (by decide) (by decide) ?_
        exact ⟨rfl, ⟨a, ha, fun j hj => (hab j (by omega)).1⟩, ⟨b, hb, fun j hj => (hab j (by omega)).2⟩, hM, hfr⟩
      · omega
    | succ d ih =>
      intro i a b g h1 hi hM ha hb hg hab hgw hfr
      refine at_iload_n 3 dX6_become_2 rfl rfl rfl ?_
      refine at_bipush 5 (nI 8) dX6_become_3 rfl (by decide) ?_
      refine at_icmp_geN 32 8 dX6_become_5 rfl rfl (by omega) (by omega) (fun cc => ?_) (fun cc => ?_)
      · omega
      refine at_aload_n 9 dX6_become_8 rfl rfl rfl ?_
      refine at_g 12 dX6_become_9 rfl fl_X6_9 ⟨_, by assumption, ?_⟩
      refine ⟨_, rfl, ?_⟩
      refine at_iload_n 13 dX6_become_12 rfl rfl rfl ?_
      refine at_aload_n 14 dX6_become_13 rfl rfl rfl ?_
      refine at_iload_n 15 dX6_become_14 rfl rfl rfl ?_
      first | refine at_ia 16 dX6_become_15 rfl ⟨_, _, by assumption, by omega, by first | decide | omega, ?_⟩ | refine at_iaG 16 dX6_become_15 rfl ⟨_, _, by assumption, by omega, by first | decide | omega, ?_⟩
      first | refine at_is 17 dX6_become_16 rfl ⟨_, _, by assumption, by omega, by first | decide | omega, fun hh12 nn12 => ?_⟩ | refine at_isG 17 dX6_become_16 rfl ⟨_, _, by assumption, by omega, by first | decide | omega, fun hh12 nn12 => ?_⟩
      replace hM := nn12.o (by first | decide | omega | assumption) hM
      replace ha := nn12.1
      replace hb := nn12.o (by first | decide | omega | assumption) hb
      replace hg := nn12.o (by first | decide | omega | assumption) hg
      replace hfr := hfr.nw nn12 (by first | (dsimp only; omega) | (dsimp only; done) | simp)
      clear nn12
      refine at_aload_n 18 dX6_become_17 rfl rfl rfl ?_
      refine at_g 21 dX6_become_18 rfl fl_X6_15 ⟨_, by assumption, ?_⟩
      refine ⟨_, rfl, ?_⟩
      refine at_iload_n 22 dX6_become_21 rfl rfl rfl ?_
      refine at_aload_n 23 dX6_become_22 rfl rfl rfl ?_
      refine at_iload_n 24 dX6_become_23 rfl rfl rfl ?_
      first | refine at_ia 25 dX6_become_24 rfl ⟨_, _, by assumption, by omega, by first | decide | omega, ?_⟩ | refine at_iaG 25 dX6_become_24 rfl ⟨_, _, by assumption, by omega, by first | decide | omega, ?_⟩
      first | refine at_is 26 dX6_become_25 rfl ⟨_, _, by assumption, by omega, by first | decide | omega, fun hh13 nn13 => ?_⟩ | refine at_isG 26 dX6_become_25 rfl ⟨_, _, by assumption, by omega, by first | decide | omega, fun hh13 nn13 => ?_⟩
      replace hM := nn13.o (by first | decide | omega | assumption) hM
      replace ha := nn13.o (by first | decide | omega | assumption) ha
      replace hb := nn13.1
      replace hg := nn13.o (by first | decide | omega | assumption) hg
      replace hfr := hfr.nw nn13 (by first | (dsimp only; omega) | (dsimp only; done) | simp)
      clear nn13
      refine at_iincN (q := 1) (L' := [_, _, _]) 29 dX6_become_26 rfl (by decide) rfl (by decide) rfl rfl ?_
      refine at_goto 2 dX6_become_29 rfl ?_
      refine ih (i + 1) _ _ g _ (by omega) hM ha hb hg (fun j hj => ?_) hgw hfr
      by_cases e : j = i
      · subst e; rw [updN_s, updN_s]; exact ⟨hgw j (by omega), hgw j (by omega)⟩
      · rw [updN_n _ _ e, updN_n _ _ e]; exact hab j (by omega)
  exact loop 8 0 a b w h (by omega) hM ha hb hg (fun j hj => by omega) (fun _ _ => rfl) Fr.rf
theorem c_X6_become_self {h : List PC} {m : Nat} {a b : Nat → Nat} (hM : h[18]? = some (oMix m)) (ha : h[19]? = some (aI 8 a)) (hb : h[20]? = some (aI 8 b)) : Ct mX6_become [.ref 18, .ref 20] h (fun r h' => r = none ∧ Ar h' 19 8 b ∧ Ar h' 20 8 b ∧ h'[18]? = some (oMix 1) ∧ Fr (fun j => j = 18 ∨ j = 19 ∨ j = 20) h h') := by
  refine ct_at (L := [_, _, _]) (by decide +kernel) rfl rfl (Nat.le_of_ble_eq_true rfl) ?_
  refine at_iconst 1 (nI 0) dX6_become_0 rfl (by decide) ?_
  refine at_istore_n (L' := [_, _, _]) 2 dX6_become_1 rfl rfl (by decide) rfl rfl ?_
  have loop : ∀ (d i : Nat) (a : Nat → Nat) (h1 : List PC), i + d = 8 → h1[18]? = some (oMix m) → h1[19]? = some (aI 8 a) → h1[20]? = some (aI 8 b) → (∀ j, j < i → a j = b j) → Fr (fun j => j = 18 ∨ j = 19 ∨ j = 20) h h1 → At mX6_become T0 2 [.ref 18, .ref 20, .int (nI i)] [] h1 0 0 (ZM mX6_become (fun r h' => r = none ∧ Ar h' 19 8 b ∧ Ar h' 20 8 b ∧ h'[18]? = some (oMix 1) ∧ Fr (fun j => j = 18 ∨ j = 19 ∨ j = 20) h h')) := by
    intro d
    induction d with
    | zero =>
      intro i a h1 hi hM ha hb hab hfr
      refine at_iload_n 3 dX6_become_2 rfl rfl rfl ?_
      refine at_bipush 5 (nI 8) dX6_become_3 rfl (by decide) ?_
      refine at_icmp_geN 32 8 dX6_become_5 rfl rfl (by omega) (by omega) (fun cc => ?_) (fun cc => ?_)
      · refine at_aload_n 33 dX6_become_32 rfl rfl rfl ?_
        refine at_iconst 34 (nI 1) dX6_become_33 rfl (by decide) ?_
        refine at_pi 37 dX6_become_34 rfl pl_X6_18 (by first | rfl | decide | assumption) (by first | rfl | decide | assumption) ⟨_, by assumption, ?_⟩
        refine ⟨(Nat.le_of_ble_eq_true rfl), [_, _, _], rfl, fun hh14 nn14 => ?_⟩
        replace hM := nn14.1
        replace ha := nn14.o (by first | decide | omega | assumption) ha
        replace hb := nn14.o (by first | decide | omega | assumption) hb
        replace hfr := hfr.nw nn14 (by first | (dsimp only; omega) | (dsimp only; done) | simp)
        clear nn14
        refine at_vret dX6_become_37 rfl (by decide) (by decide) ?_
        exact ⟨rfl, ⟨a, ha, fun j hj => hab j (by omega)⟩, Ar.of hb, hM, hfr⟩
      · omega
    | succ d ih =>
      intro i a h1 hi hM ha hb hab hfr
      refine at_iload_n 3 dX6_become_2 rfl rfl rfl ?_
      refine at_bipush 5 (nI 8) dX6_become_3 rfl (by decide) ?_
      refine at_icmp_geN 32 8 dX6_become_5 rfl rfl (by omega) (by omega) (fun cc => ?_) (fun cc => ?_)
      · omega
      refine at_aload_n 9 dX6_become_8 rfl rfl rfl ?_
      refine at_g 12 dX6_become_9 rfl fl_X6_9 ⟨_, by assumption, ?_⟩
      refine ⟨_, rfl, ?_⟩
      refine at_iload_n 13 dX6_become_12 rfl rfl rfl ?_
      refine at_aload_n 14 dX6_become_13 rfl rfl rfl ?_
      refine at_iload_n 15 dX6_become_14 rfl rfl rfl ?_
      first | refine at_ia 16 dX6_become_15 rfl ⟨_, _, by assumption, by omega, by first | decide | omega, ?_⟩ | refine at_iaG 16 dX6_become_15 rfl ⟨_, _, by assumption, by omega, by first | decide | omega, ?_⟩
      first | refine at_is 17 dX6_become_16 rfl ⟨_, _, by assumption, by omega, by first | decide | omega, fun hh15 nn15 => ?_⟩ | refine at_isG 17 dX6_become_16 rfl ⟨_, _, by assumption, by omega, by first | decide | omega, fun hh15 nn15 => ?_⟩
      replace hM := nn15.o (by first | decide | omega | assumption) hM
      replace ha := nn15.1
      replace hb := nn15.o (by first | decide | omega | assumption) hb
      replace hfr := hfr.nw nn15 (by first | (dsimp only; omega) | (dsimp only; done) | simp)
      clear nn15
      refine at_aload_n 18 dX6_become_17 rfl rfl rfl ?_
      refine at_g 21 dX6_become_18 rfl fl_X6_15 ⟨_, by assumption, ?_⟩
      refine ⟨_, rfl, ?_⟩
      refine at_iload_n 22 dX6_become_21 rfl rfl rfl ?_
      refine at_aload_n 23 dX6_become_22 rfl rfl rfl ?_
      refine at_iload_n 24 dX6_become_23 rfl rfl rfl ?_
      first | refine at_ia 25 dX6_become_24 rfl ⟨_, _, by assumption, by omega, by first | decide | omega, ?_⟩ | refine at_iaG 25 dX6_become_24 rfl ⟨_, _, by assumption, by omega, by first | decide | omega, ?_⟩
      first | refine at_is 26 dX6_become_25 rfl ⟨_, _, by assumption, by omega, by first | decide | omega, fun hh16 nn16 => ?_⟩ | refine at_isG 26 dX6_become_25 rfl ⟨_, _, by assumption, by omega, by first | decide | omega, fun hh16 nn16 => ?_⟩
      replace hM := nn16.o (by first | decide | omega | assumption) hM
      replace ha := nn16.o (by first | decide | omega | assumption) ha
      replace hb := nn16.1
      replace hfr := hfr.nw nn16 (by first | (dsimp only; omega) | (dsimp only; done) | simp)
      clear nn16
      refine at_iincN (q := 1) (L' := [_, _, _]) 29 dX6_become_26 rfl (by decide) rfl (by decide) rfl rfl ?_
      refine at_goto 2 dX6_become_29 rfl ?_
      have e9 : updN b i (b i) = b := by
        funext j; unfold updN; by_cases e : j = i
        · rw [if_pos e, e]
        · rw [if_neg e]
      rw [e9] at hb
      refine ih (i + 1) _ _ (by omega) hM ha hb (fun j hj => ?_) hfr
      by_cases e : j = i
      · subst e; rw [updN_s]
      · rw [updN_n _ _ e]; exact hab j (by omega)
  exact loop 8 0 a h (by omega) hM ha hb (fun j hj => by omega) Fr.rf
end
section
def fitB (le mo : Nat → Nat) (c : Nat) (th : Nat → Nat) (g : Nat) : Bool := allB (fun t => decide (le (4 * c + t) * g ≤ 1000 * th t ∧ 1000 * th t ≤ mo (4 * c + t) * g)) 4
def firstB (F : Nat → Bool) : Nat → Nat → Nat
  | 0, i => i
  | d + 1, i => if F i then i else firstB F d (i + 1)
theorem firstB_le (F : Nat → Bool) : ∀ d i, i ≤ firstB F d i ∧ firstB F d i ≤ i + d
  | 0, i => ⟨Nat.le_refl _, Nat.le_refl _⟩
  | d + 1, i => by
    unfold firstB
    by_cases e : F i = true
    · rw [if_pos e]; omega
    · rw [if_neg e]
      have := firstB_le F d (i + 1)
      omega
/-- a name and 1; 0: no name -/
def nameC (F : Nat → Bool) (n : Nat) : Nat := if firstB F n 0 < n then firstB F n 0 + 1 else 0
theorem nI_m1 : nI 0 - 1 = -1 := by decide
theorem c_X1_add {h : List PC} {n : Nat} {a b : Nat → Nat} (hC : h[21]? = some (oColours n)) (hl : h[22]? = some (aR 6 (rowsAt 22 6))) (hm : h[29]? = some (aR 6 (rowsAt 29 6))) (ha : h[23 + n]? = some (aI 4 a)) (hb : h[30 + n]? = some (aI 4 b)) (hn : n < 6) : Ct mX1_add [.ref 21] h (fun r h' => r = some (.int (nI n)) ∧ h'[21]? = some (oColours (n + 1)) ∧ Ar h' (23 + n) 4 (fun _ => 0) ∧ Ar h' (30 + n) 4 (fun _ => 1000) ∧ Fr (fun j => j = 21 ∨ j = 23 + n ∨ j = 30 + n) h h') := by
  refine ct_at (L := [_, _]) (by decide +kernel) rfl rfl (Nat.le_of_ble_eq_true rfl) ?_
  refine at_aload_n 1 dX1_add_0 rfl rfl rfl ?_
  refine at_g 4 dX1_add_1 rfl fl_X1_19 ⟨_, by assumption, ?_⟩
  refine ⟨_, rfl, ?_⟩
  refine at_bipush 6 (nI 6) dX1_add_4 rfl (by decide) ?_
  refine at_icmp_ltN 12 9 dX1_add_6 rfl rfl (by omega) (by omega) (fun cc => ?_) (fun cc => ?_)
  rotate_left
  · omega
  refine at_iconst 13 (nI 0) dX1_add_12 rfl (by decide) ?_
  refine at_istore_n (L' := [_, _]) 14 dX1_add_13 rfl rfl (by decide) rfl rfl ?_
  have loop : ∀ (d i : Nat) (a b : Nat → Nat) (h1 : List PC), i + d = 4 → h1[23 + n]? = some (aI 4 a) → h1[30 + n]? = some (aI 4 b) → (∀ j, j < i → a j = 0 ∧ b j = 1000) → Fr (fun j => j = 21 ∨ j = 23 + n ∨ j = 30 + n) h h1 → h1[21]? = some (oColours n) → At mX1_add T0 14 [.ref 21, .int (nI i)] [] h1 0 0 (ZM mX1_add (fun r h' => r = some (.int (nI n)) ∧ h'[21]? = some (oColours (n + 1)) ∧ Ar h' (23 + n) 4 (fun _ => 0) ∧ Ar h' (30 + n) 4 (fun _ => 1000) ∧ Fr (fun j => j = 21 ∨ j = 23 + n ∨ j = 30 + n) h h')) := by
    intro d
    induction d with
    | zero =>
      intro i a b h1 hi ha hb hab hfr hC
      refine at_iload_n 15 dX1_add_14 rfl rfl rfl ?_
      refine at_iconst 16 (nI 4) dX1_add_15 rfl (by decide) ?_
      refine at_icmp_geN 51 19 dX1_add_16 rfl rfl (by omega) (by omega) (fun cc => ?_) (fun cc => ?_)
      rotate_left
      · omega
      refine at_aload_n 52 dX1_add_51 rfl rfl rfl ?_
      refine at_dup 53 dX1_add_52 rfl rfl ?_
      refine at_g 56 dX1_add_53 rfl fl_X1_19 ⟨_, by assumption, ?_⟩
      refine ⟨_, rfl, ?_⟩
      refine at_iconst 57 (nI 1) dX1_add_56 rfl (by decide) ?_
      first | refine at_iaddN 58 dX1_add_57 rfl ?_ | refine at_iadd 58 dX1_add_57 rfl ?_
      refine at_pi 61 dX1_add_58 rfl pl_X1_19 (rfl) (rfl) ⟨_, by assumption, ?_⟩
      refine ⟨(Nat.le_of_ble_eq_true rfl), [_, _, _], rfl, fun hh1 nn1 => ?_⟩
      replace hC := nn1.1
      replace ha := nn1.o (by first | decide | omega | assumption) ha
      replace hb := nn1.o (by first | decide | omega | assumption) hb
      replace hfr := hfr.nw nn1 (by first | (dsimp only; omega) | (dsimp only; done) | simp)
      clear nn1
      refine at_aload_n 62 dX1_add_61 rfl rfl rfl ?_
      refine at_g 65 dX1_add_62 rfl fl_X1_19 ⟨_, by assumption, ?_⟩
      refine ⟨_, rfl, ?_⟩
      refine at_iconst 66 (nI 1) dX1_add_65 rfl (by decide) ?_
      first | refine at_isubN 67 dX1_add_66 rfl (by omega) ?_ | refine at_isub 67 dX1_add_66 rfl ?_
      refine at_iret dX1_add_67 rfl (by decide) (by decide) ?_
      exact ⟨rfl, hC, ⟨a, ha, fun j hj => (hab j (by omega)).1⟩, ⟨b, hb, fun j hj => (hab j (by omega)).2⟩, hfr⟩
    | succ d ih =>
      intro i a b h1 hi ha hb hab hfr hC
      have hl := hfr.at (k := 22) (by omega) hl
      have hm := hfr.at (k := 29) (by omega) hm
      refine at_iload_n 15 dX1_add_14 rfl rfl rfl ?_
      refine at_iconst 16 (nI 4) dX1_add_15 rfl (by decide) ?_
      refine at_icmp_geN 51 19 dX1_add_16 rfl rfl (by omega) (by omega) (fun cc => ?_) (fun cc => ?_)
      · omega
      refine at_aload_n 20 dX1_add_19 rfl rfl rfl ?_
      refine at_g 23 dX1_add_20 rfl fl_X1_11 ⟨_, by assumption, ?_⟩
      refine ⟨_, rfl, ?_⟩
      refine at_aload_n 24 dX1_add_23 rfl rfl rfl ?_
      refine at_g 27 dX1_add_24 rfl fl_X1_19 ⟨_, by assumption, ?_⟩
      refine ⟨_, rfl, ?_⟩
      refine at_aa 28 dX1_add_27 rfl ⟨_, _, by assumption, by omega, by first | decide | omega, ?_⟩
      refine ⟨_, rowsAt_in (by omega), ?_⟩
      refine at_iload_n 29 dX1_add_28 rfl rfl rfl ?_
      refine at_iconst 30 (nI 0) dX1_add_29 rfl (by decide) ?_
      first | refine at_is 31 dX1_add_30 rfl ⟨_, _, by assumption, by omega, by first | decide | omega, fun hh2 nn2 => ?_⟩ | refine at_isG 31 dX1_add_30 rfl ⟨_, _, by assumption, by omega, by first | decide | omega, fun hh2 nn2 => ?_⟩
      replace hC := nn2.o (by first | decide | omega | assumption) hC
      replace ha := nn2.1
      replace hb := nn2.o (by first | decide | omega | assumption) hb
      replace hl := nn2.o (by first | decide | omega | assumption) hl
      replace hm := nn2.o (by first | decide | omega | assumption) hm
      replace hfr := hfr.nw nn2 (by first | (dsimp only; omega) | (dsimp only; done) | simp)
      clear nn2
      refine at_aload_n 32 dX1_add_31 rfl rfl rfl ?_
      refine at_g 35 dX1_add_32 rfl fl_X1_16 ⟨_, by assumption, ?_⟩
      refine ⟨_, rfl, ?_⟩
      refine at_aload_n 36 dX1_add_35 rfl rfl rfl ?_
      refine at_g 39 dX1_add_36 rfl fl_X1_19 ⟨_, by assumption, ?_⟩
      refine ⟨_, rfl, ?_⟩
      refine at_aa 40 dX1_add_39 rfl ⟨_, _, by assumption, by omega, by first | decide | omega, ?_⟩
      refine ⟨_, rowsAt_in (by omega), ?_⟩
      refine at_iload_n 41 dX1_add_40 rfl rfl rfl ?_
      refine at_sipush 44 (nI 1000) dX1_add_41 rfl (by decide) ?_
      first | refine at_is 45 dX1_add_44 rfl ⟨_, _, by assumption, by omega, by first | decide | omega, fun hh3 nn3 => ?_⟩ | refine at_isG 45 dX1_add_44 rfl ⟨_, _, by assumption, by omega, by first | decide | omega, fun hh3 nn3 => ?_⟩
      replace hC := nn3.o (by first | decide | omega | assumption) hC
      replace ha := nn3.o (by first | decide | omega | assumption) ha
      replace hb := nn3.1
      replace hl := nn3.o (by first | decide | omega | assumption) hl
      replace hm := nn3.o (by first | decide | omega | assumption) hm
      replace hfr := hfr.nw nn3 (by first | (dsimp only; omega) | (dsimp only; done) | simp)
      clear nn3
      refine at_iincN (q := 1) (L' := [_, _]) 48 dX1_add_45 rfl (by decide) rfl (by decide) rfl rfl ?_
      refine at_goto 14 dX1_add_48 rfl ?_
      refine ih (i + 1) _ _ _ (by omega) ha hb (fun j hj => ?_) hfr hC
      by_cases e : j = i
      · subst e; rw [updN_s, updN_s]; exact ⟨rfl, rfl⟩
      · rw [updN_n _ _ e, updN_n _ _ e]; exact hab j (by omega)
  exact loop 4 0 a b h (by omega) ha hb (fun j hj => by omega) Fr.rf hC
theorem c_X1_add_full {h : List PC} {n : Nat} (hC : h[21]? = some (oColours n)) (hn : 6 ≤ n) (hn2 : n < 2 ^ 31) : Ct mX1_add [.ref 21] h (fun r h' => r = some (.int (-1000000000)) ∧ h' = h) := by
  refine ct_at (L := [_, _]) (by decide +kernel) rfl rfl (Nat.le_of_ble_eq_true rfl) ?_
  refine at_aload_n 1 dX1_add_0 rfl rfl rfl ?_
  refine at_g 4 dX1_add_1 rfl fl_X1_19 ⟨_, by assumption, ?_⟩
  refine ⟨_, rfl, ?_⟩
  refine at_bipush 6 (nI 6) dX1_add_4 rfl (by decide) ?_
  refine at_icmp_ltN 12 9 dX1_add_6 rfl rfl (by omega) (by omega) (fun cc => ?_) (fun cc => ?_)
  · omega
  refine at_ldc 11 (-1000000000) dX1_add_9 rfl cn_X1_23 ?_
  refine at_iret dX1_add_11 rfl (by decide) (by decide) ?_
  exact ⟨rfl, rfl⟩
theorem c_X1_fits {h : List PC} {n c g k : Nat} {le mo th : Nat → Nat} (hC : h[21]? = some (oColours n)) (hl : h[22]? = some (aR 6 (rowsAt 22 6))) (hm : h[29]? = some (aR 6 (rowsAt 29 6))) (hle : Ar h (23 + c) 4 (fun t => le (4 * c + t))) (hmo : Ar h (30 + c) 4 (fun t => mo (4 * c + t))) (hG : h[k]? = some (oGlass k g)) (ht : h[k + 1]? = some (aI 4 th)) (hc : c < 6) (hg : g ≤ 100000) (hth : ∀ t, t < 4 → th t ≤ 100000) (hlb : ∀ t, t < 4 → le (4 * c + t) ≤ 1000) (hmb : ∀ t, t < 4 → mo (4 * c + t) ≤ 1000) : Ct mX1_fits [.ref 21, .int (nI c), .ref k] h (fun r h' => r = some (.int (bI (fitB le mo c th g))) ∧ h' = h) := by
  obtain ⟨wl, al, el⟩ := hle
  obtain ⟨wm, am, em⟩ := hmo
  replace el : ∀ i, i < 4 → wl i = le (4 * c + i) := el
  replace em : ∀ i, i < 4 → wm i = mo (4 * c + i) := em
  refine ct_at (L := [_, _, _, _, _]) (by decide +kernel) rfl rfl (Nat.le_of_ble_eq_true rfl) ?_
  refine at_iconst 1 (nI 0) dX1_fits_0 rfl (by decide) ?_
  refine at_istore_n (L' := [_, _, _, _, _]) 2 dX1_fits_1 rfl rfl (by decide) rfl rfl ?_
  have loop : ∀ (d i : Nat), i + d = 4 → (∀ j, j < i → le (4 * c + j) * g ≤ 1000 * th j ∧ 1000 * th j ≤ mo (4 * c + j) * g) → At mX1_fits T0 2 [.ref 21, .int (nI c), .ref k, .int (nI i), .null] [] h 0 0 (ZM mX1_fits (fun r h' => r = some (.int (bI (fitB le mo c th g))) ∧ h' = h)) := by
    intro d
    induction d with
    | zero =>
      intro i hi hj
      refine at_iload_n 3 dX1_fits_2 rfl rfl rfl ?_
      refine at_iconst 4 (nI 4) dX1_fits_3 rfl (by decide) ?_
      refine at_icmp_geN 63 7 dX1_fits_4 rfl rfl (by omega) (by omega) (fun cc => ?_) (fun cc => ?_)
      rotate_left
      · omega
      refine at_iconst 64 (nI 1) dX1_fits_63 rfl (by decide) ?_
      refine at_zret dX1_fits_64 rfl (by first | rfl | decide) (by decide) (by decide) ?_
      exact ⟨bI_T (allB_iff.mpr (fun j hj4 => decide_eq_true (hj j (by omega)))), rfl⟩
    | succ d ih =>
      intro i hi hj
      have h1 := hth i (by omega)
      have h2 : wl i * g ≤ 1000 * 100000 := by rw [el i (by omega)]; exact Nat.mul_le_mul (hlb i (by omega)) hg
      have h3 : wm i * g ≤ 1000 * 100000 := by rw [em i (by omega)]; exact Nat.mul_le_mul (hmb i (by omega)) hg
      refine at_iload_n 3 dX1_fits_2 rfl rfl rfl ?_
      refine at_iconst 4 (nI 4) dX1_fits_3 rfl (by decide) ?_
      refine at_icmp_geN 63 7 dX1_fits_4 rfl rfl (by omega) (by omega) (fun cc => ?_) (fun cc => ?_)
      · omega
      refine at_sipush 10 (nI 1000) dX1_fits_7 rfl (by decide) ?_
      refine at_aload_n 11 dX1_fits_10 rfl rfl rfl ?_
      refine at_g 14 dX1_fits_11 rfl fl_X1_24 ⟨_, by assumption, ?_⟩
      refine ⟨_, rfl, ?_⟩
      refine at_iload_n 15 dX1_fits_14 rfl rfl rfl ?_
      first | refine at_ia 16 dX1_fits_15 rfl ⟨_, _, by assumption, by omega, by first | decide | omega, ?_⟩ | refine at_iaG 16 dX1_fits_15 rfl ⟨_, _, by assumption, by omega, by first | decide | omega, ?_⟩
      first | refine at_imulN 17 dX1_fits_16 rfl ?_ | refine at_imul 17 dX1_fits_16 rfl ?_
      refine at_istore (L' := [_, _, _, _, _]) 19 dX1_fits_17 rfl (by decide) rfl rfl ?_
      refine at_iload 21 dX1_fits_19 rfl rfl ?_
      refine at_aload_n 22 dX1_fits_21 rfl rfl rfl ?_
      refine at_g 25 dX1_fits_22 rfl fl_X1_11 ⟨_, by assumption, ?_⟩
      refine ⟨_, rfl, ?_⟩
      refine at_iload_n 26 dX1_fits_25 rfl rfl rfl ?_
      refine at_aa 27 dX1_fits_26 rfl ⟨_, _, by assumption, by omega, by first | decide | omega, ?_⟩
      refine ⟨_, rowsAt_in (by omega), ?_⟩
      refine at_iload_n 28 dX1_fits_27 rfl rfl rfl ?_
      first | refine at_ia 29 dX1_fits_28 rfl ⟨_, _, by assumption, by omega, by first | decide | omega, ?_⟩ | refine at_iaG 29 dX1_fits_28 rfl ⟨_, _, by assumption, by omega, by first | decide | omega, ?_⟩
      refine at_aload_n 30 dX1_fits_29 rfl rfl rfl ?_
      refine at_g 33 dX1_fits_30 rfl fl_X1_30 ⟨_, by assumption, ?_⟩
      refine ⟨_, rfl, ?_⟩
      first | refine at_imulN 34 dX1_fits_33 rfl ?_ | refine at_imul 34 dX1_fits_33 rfl ?_
      refine at_icmp_ltN 55 37 dX1_fits_34 rfl rfl (by omega) (by omega) (fun cc => ?_) (fun cc => ?_)
      · refine at_iconst 56 (nI 0) dX1_fits_55 rfl (by decide) ?_
        refine at_zret dX1_fits_56 rfl (by first | rfl | decide) (by decide) (by decide) ?_
        refine ⟨bI_F (fun q => ?_), rfl⟩
        have q1 := (of_decide_eq_true (allB_iff.mp q i (by omega))).1
        rw [el i (by omega)] at cc
        omega
      have c1 := cc
      refine at_iload 39 dX1_fits_37 rfl rfl ?_
      refine at_aload_n 40 dX1_fits_39 rfl rfl rfl ?_
      refine at_g 43 dX1_fits_40 rfl fl_X1_16 ⟨_, by assumption, ?_⟩
      refine ⟨_, rfl, ?_⟩
      refine at_iload_n 44 dX1_fits_43 rfl rfl rfl ?_
      refine at_aa 45 dX1_fits_44 rfl ⟨_, _, by assumption, by omega, by first | decide | omega, ?_⟩
      refine ⟨_, rowsAt_in (by omega), ?_⟩
      refine at_iload_n 46 dX1_fits_45 rfl rfl rfl ?_
      first | refine at_ia 47 dX1_fits_46 rfl ⟨_, _, by assumption, by omega, by first | decide | omega, ?_⟩ | refine at_iaG 47 dX1_fits_46 rfl ⟨_, _, by assumption, by omega, by first | decide | omega, ?_⟩
      refine at_aload_n 48 dX1_fits_47 rfl rfl rfl ?_
      refine at_g 51 dX1_fits_48 rfl fl_X1_30 ⟨_, by assumption, ?_⟩
      refine ⟨_, rfl, ?_⟩
      first | refine at_imulN 52 dX1_fits_51 rfl ?_ | refine at_imul 52 dX1_fits_51 rfl ?_
      refine at_icmp_leN 57 55 dX1_fits_52 rfl rfl (by omega) (by omega) (fun cc => ?_) (fun cc => ?_)
      · refine at_iincN (q := 1) (L' := [_, _, _, _, _]) 60 dX1_fits_57 rfl (by decide) rfl (by decide) rfl rfl ?_
        refine at_goto 2 dX1_fits_60 rfl ?_
        refine at_drop (L' := [_, _, _, _, _]) 4 rfl ?_
        refine ih (i + 1) (by omega) (fun j hj2 => ?_)
        by_cases e : j = i
        · subst e
          rw [← el j (by omega), ← em j (by omega)]
          exact ⟨c1, cc⟩
        · exact hj j (by omega)
      · refine at_iconst 56 (nI 0) dX1_fits_55 rfl (by decide) ?_
        refine at_zret dX1_fits_56 rfl (by first | rfl | decide) (by decide) (by decide) ?_
        refine ⟨bI_F (fun q => ?_), rfl⟩
        have q1 := (of_decide_eq_true (allB_iff.mp q i (by omega))).2
        rw [em i (by omega)] at cc
        omega
  exact loop 4 0 (by omega) (fun j hj => by omega)
theorem c_X1_nameOf {h : List PC} {n g k : Nat} {le mo th : Nat → Nat} (hC : h[21]? = some (oColours n)) (hl : h[22]? = some (aR 6 (rowsAt 22 6))) (hm : h[29]? = some (aR 6 (rowsAt 29 6))) (hle : ∀ c, c < 6 → Ar h (23 + c) 4 (fun t => le (4 * c + t))) (hmo : ∀ c, c < 6 → Ar h (30 + c) 4 (fun t => mo (4 * c + t))) (hG : h[k]? = some (oGlass k g)) (ht : h[k + 1]? = some (aI 4 th)) (hn : n ≤ 6) (hg : g ≤ 100000) (hth : ∀ t, t < 4 → th t ≤ 100000) (hlb : ∀ i, i < 24 → le i ≤ 1000) (hmb : ∀ i, i < 24 → mo i ≤ 1000) : Ct mX1_nameOf [.ref 21, .ref k] h (fun r h' => r = some (.int (nI (nameC (fun c => fitB le mo c th g) n) - 1)) ∧ h' = h) := by
  refine ct_at (L := [_, _, _]) (by decide +kernel) rfl rfl (Nat.le_of_ble_eq_true rfl) ?_
  refine at_iconst 1 (nI 0) dX1_nameOf_0 rfl (by decide) ?_
  refine at_istore_n (L' := [_, _, _]) 2 dX1_nameOf_1 rfl rfl (by decide) rfl rfl ?_
  have loop : ∀ (d i : Nat), i + d = n → firstB (fun c => fitB le mo c th g) d i = firstB (fun c => fitB le mo c th g) n 0 → At mX1_nameOf T0 2 [.ref 21, .ref k, .int (nI i)] [] h 0 0 (ZM mX1_nameOf (fun r h' => r = some (.int (nI (nameC (fun c => fitB le mo c th g) n) - 1)) ∧ h' = h)) := by
    intro d
    induction d with
    | zero =>
      intro i hi ho
      refine at_iload_n 3 dX1_nameOf_2 rfl rfl rfl ?_
      refine at_aload_n 4 dX1_nameOf_3 rfl rfl rfl ?_
      refine at_g 7 dX1_nameOf_4 rfl fl_X1_19 ⟨_, by assumption, ?_⟩
      refine ⟨_, rfl, ?_⟩
      refine at_icmp_geN 27 10 dX1_nameOf_7 rfl rfl (by omega) (by omega) (fun cc => ?_) (fun cc => ?_)
      rotate_left
      · omega
      refine at_iconst 28 (-1) dX1_nameOf_27 rfl (by decide) ?_
      refine at_iret dX1_nameOf_28 rfl (by decide) (by decide) ?_
      refine ⟨?_, rfl⟩
      unfold nameC
      rw [← ho]
      unfold firstB
      rw [if_neg (by omega), nI_m1]
    | succ d ih =>
      intro i hi ho
      refine at_iload_n 3 dX1_nameOf_2 rfl rfl rfl ?_
      refine at_aload_n 4 dX1_nameOf_3 rfl rfl rfl ?_
      refine at_g 7 dX1_nameOf_4 rfl fl_X1_19 ⟨_, by assumption, ?_⟩
      refine ⟨_, rfl, ?_⟩
      refine at_icmp_geN 27 10 dX1_nameOf_7 rfl rfl (by omega) (by omega) (fun cc => ?_) (fun cc => ?_)
      · omega
      refine at_aload_n 11 dX1_nameOf_10 rfl rfl rfl ?_
      refine at_iload_n 12 dX1_nameOf_11 rfl rfl rfl ?_
      refine at_aload_n 13 dX1_nameOf_12 rfl rfl rfl ?_
      refine at_invV (ci := 1) 16 [_, _] _ (c_X1_fits hC hl hm (hle i (by omega)) (hmo i (by omega)) hG ht (by omega) hg hth (fun t ht4 => hlb _ (by omega)) (fun t ht4 => hmb _ (by omega))) dX1_nameOf_13 rfl rfl (by assumption) rfl ml_X1_33 cl_X1_fits vl_X1_fits rfl (Nat.le_of_ble_eq_true rfl) ⟨by decide, by decide⟩ (by decide) (fun rr hh qq => ?_)
      obtain ⟨rfl, rfl⟩ := qq
      refine at_if_eqB 21 19 dX1_nameOf_16 rfl rfl (fun cc => ?_) (fun cc => ?_)
      · refine at_iincN (q := 1) (L' := [_, _, _]) 24 dX1_nameOf_21 rfl (by decide) rfl (by decide) rfl rfl ?_
        refine at_goto 2 dX1_nameOf_24 rfl ?_
        refine ih (i + 1) (by omega) ?_
        rw [← ho]
        show _ = if (fun c => fitB le mo c th g) i = true then i else firstB _ d (i + 1)
        rw [if_neg (by dsimp only; rw [cc]; decide)]
      · refine at_iload_n 20 dX1_nameOf_19 rfl rfl rfl ?_
        refine at_iret dX1_nameOf_20 rfl (by decide) (by decide) ?_
        refine ⟨?_, rfl⟩
        have ho2 : firstB (fun c => fitB le mo c th g) n 0 = i := by
          rw [← ho]
          show (if (fun c => fitB le mo c th g) i = true then i else firstB _ d (i + 1)) = i
          rw [if_pos cc]
        unfold nameC
        rw [ho2, if_pos (by omega), nI_pred]
  exact loop n 0 (by omega) rfl
def capK (a : Nat) : Nat := if 1000 < a then 1000 else a
def lowS (mk db sh : Nat → Nat) (n t : Nat) : Nat := sm (fun f => sh f * (mk (4 * f + t) - db f)) n
def highS (mk db sh : Nat → Nat) (n t : Nat) : Nat := sm (fun f => sh f * capK (mk (4 * f + t) + db f)) n
def sureB (le mo mk db sh : Nat → Nat) (n c : Nat) : Bool := allB (fun t => decide (le (4 * c + t) * 1000 ≤ lowS mk db sh n t ∧ highS mk db sh n t ≤ mo (4 * c + t) * 1000)) 4
theorem lowS_b {mk db sh : Nat → Nat} {n t : Nat} (hn : n ≤ 8) (hs : ∀ f, f < 8 → sh f ≤ 1000) (hm : ∀ i, i < 32 → mk i ≤ 1000) (ht : t < 4) {i : Nat} (hi : i ≤ n) : lowS mk db sh i t ≤ 8000000 := by
  unfold lowS
  have := sm_bound (f := fun f => sh f * (mk (4 * f + t) - db f)) (c := 1000000) (n := i) (fun f hf => by
    have h1 := hs f (by omega)
    have h2 := hm (4 * f + t) (by omega)
    have : sh f * (mk (4 * f + t) - db f) ≤ 1000 * 1000 := Nat.mul_le_mul h1 (by omega)
    exact this)
  omega
theorem highS_b {mk db sh : Nat → Nat} {n t : Nat} (hn : n ≤ 8) (hs : ∀ f, f < 8 → sh f ≤ 1000) {i : Nat} (hi : i ≤ n) : highS mk db sh i t ≤ 8000000 := by
  unfold highS
  have := sm_bound (f := fun f => sh f * capK (mk (4 * f + t) + db f)) (c := 1000000) (n := i) (fun f hf => by
    have h1 := hs f (by omega)
    have h2 : capK (mk (4 * f + t) + db f) ≤ 1000 := by unfold capK; split <;> omega
    have : sh f * capK (mk (4 * f + t) + db f) ≤ 1000 * 1000 := Nat.mul_le_mul h1 h2
    exact this)
  omega
theorem max_sub {v d : Nat} (hv : v < 2 ^ 30) (hd : d < 2 ^ 30) : (if nI v - nI d < nI 0 then nI 0 else nI v - nI d) = nI (v - d) := by
  rcases Nat.lt_or_ge v d with q | q
  · rw [if_pos (show nI v - nI d < nI 0 from pk_sneg hd q), show v - d = 0 by omega]
  · rw [pk_sub q, if_neg (by have := nI_pos (n := v - d) (by omega); exact this)]
theorem min_cap {a : Nat} (ha : a < 2 ^ 31) : (if nI 1000 < nI a then nI 1000 else nI a) = nI (capK a) := by
  unfold capK
  by_cases e : 1000 < a
  · rw [if_pos e, if_pos ((nI_ltI (by decide) ha).mpr e)]
  · rw [if_neg e, if_neg (fun q => e ((nI_ltI (by decide) ha).mp q))]
theorem c_X1_isSure {h : List PC} {nc n c ks : Nat} {le mo mk db sh : Nat → Nat} (hC : h[21]? = some (oColours nc)) (hl : h[22]? = some (aR 6 (rowsAt 22 6))) (hm : h[29]? = some (aR 6 (rowsAt 29 6))) (hle : Ar h (23 + c) 4 (fun t => le (4 * c + t))) (hmo : Ar h (30 + c) 4 (fun t => mo (4 * c + t))) (hF : h[4]? = some (oFeeds n)) (hr : h[6]? = some (aR 8 (rowsAt 6 8))) (hmk : ∀ f, f < 8 → Ar h (7 + f) 4 (fun t => mk (4 * f + t))) (hd : h[15]? = some (aI 8 db)) (hs : h[ks]? = some (aI 8 sh)) (hc : c < 6) (hn : n ≤ 8) (hsb : ∀ f, f < 8 → sh f ≤ 1000) (hmb : ∀ i, i < 32 → mk i ≤ 1000) (hdb : ∀ f, f < 8 → db f ≤ 100) (hlb : ∀ t, t < 4 → le (4 * c + t) ≤ 1000) (hob : ∀ t, t < 4 → mo (4 * c + t) ≤ 1000) : Ct mX1_isSure [.ref 21, .int (nI c), .ref ks, .ref 4] h (fun r h' => r = some (.int (bI (sureB le mo mk db sh n c))) ∧ h' = h) := by
  obtain ⟨wl, al, el⟩ := hle
  obtain ⟨wm, am, em⟩ := hmo
  replace el : ∀ i, i < 4 → wl i = le (4 * c + i) := el
  replace em : ∀ i, i < 4 → wm i = mo (4 * c + i) := em
  refine ct_at (L := [_, _, _, _, _, _, _, _, _]) (by decide +kernel) rfl rfl (Nat.le_of_ble_eq_true rfl) ?_
  refine at_iconst 1 (nI 0) dX1_isSure_0 rfl (by decide) ?_
  refine at_istore (L' := [_, _, _, _, _, _, _, _, _]) 3 dX1_isSure_1 rfl (by decide) rfl rfl ?_
  have loop : ∀ (d i : Nat), i + d = 4 → (∀ j, j < i → le (4 * c + j) * 1000 ≤ lowS mk db sh n j ∧ highS mk db sh n j ≤ mo (4 * c + j) * 1000) → At mX1_isSure T0 3 [.ref 21, .int (nI c), .ref ks, .ref 4, .int (nI i), .null, .null, .null, .null] [] h 0 0 (ZM mX1_isSure (fun r h' => r = some (.int (bI (sureB le mo mk db sh n c))) ∧ h' = h)) := by
    intro d
    induction d with
    | zero =>
      intro i hi hj
      refine at_iload 5 dX1_isSure_3 rfl rfl ?_
      refine at_iconst 6 (nI 4) dX1_isSure_5 rfl (by decide) ?_
      refine at_icmp_geN 139 9 dX1_isSure_6 rfl rfl (by omega) (by omega) (fun cc => ?_) (fun cc => ?_)
      rotate_left
      · omega
      refine at_iconst 140 (nI 1) dX1_isSure_139 rfl (by decide) ?_
      refine at_zret dX1_isSure_140 rfl (by first | rfl | decide) (by decide) (by decide) ?_
      exact ⟨bI_T (allB_iff.mpr (fun j hj4 => decide_eq_true (hj j (by omega)))), rfl⟩
    | succ d ih =>
      intro i hi hj
      refine at_iload 5 dX1_isSure_3 rfl rfl ?_
      refine at_iconst 6 (nI 4) dX1_isSure_5 rfl (by decide) ?_
      refine at_icmp_geN 139 9 dX1_isSure_6 rfl rfl (by omega) (by omega) (fun cc => ?_) (fun cc => ?_)
      · omega
      have hi4 := cc
      refine at_iconst 10 (nI 0) dX1_isSure_9 rfl (by decide) ?_
      refine at_istore (L' := [_, _, _, _, _, _, _, _, _]) 12 dX1_isSure_10 rfl (by decide) rfl rfl ?_
      refine at_iconst 13 (nI 0) dX1_isSure_12 rfl (by decide) ?_
      refine at_istore (L' := [_, _, _, _, _, _, _, _, _]) 15 dX1_isSure_13 rfl (by decide) rfl rfl ?_
      refine at_iconst 16 (nI 0) dX1_isSure_15 rfl (by decide) ?_
      refine at_istore (L' := [_, _, _, _, _, _, _, _, _]) 18 dX1_isSure_16 rfl (by decide) rfl rfl ?_
      have inner : ∀ (e f : Nat), f + e = n → At mX1_isSure T0 18 [.ref 21, .int (nI c), .ref ks, .ref 4, .int (nI i), .int (nI (lowS mk db sh f i)), .int (nI (highS mk db sh f i)), .int (nI f), .null] [] h 0 0 (ZM mX1_isSure (fun r h' => r = some (.int (bI (sureB le mo mk db sh n c))) ∧ h' = h)) := by
        intro e
        induction e with
        | zero =>
          intro f hf
          have hfn : f = n := by omega
          refine at_iload 20 dX1_isSure_18 rfl rfl ?_
          refine at_aload_n 21 dX1_isSure_20 rfl rfl rfl ?_
          refine at_g 24 dX1_isSure_21 rfl fl_X1_37 ⟨_, by assumption, ?_⟩
          refine ⟨_, rfl, ?_⟩
          refine at_icmp_geN 95 27 dX1_isSure_24 rfl rfl (by omega) (by omega) (fun cc => ?_) (fun cc => ?_)
          rotate_left
          · omega
          rw [hfn]
          have b1 := lowS_b (db := db) hn hsb hmb hi4 (Nat.le_refl n)
          have b2 := highS_b (mk := mk) (db := db) (t := i) hn hsb (Nat.le_refl n)
          have b3 : wl i ≤ 1000 := by rw [el i hi4]; exact hlb i hi4
          have b4 : wm i ≤ 1000 := by rw [em i hi4]; exact hob i hi4
          refine at_iload 97 dX1_isSure_95 rfl rfl ?_
          refine at_aload_n 98 dX1_isSure_97 rfl rfl rfl ?_
          refine at_g 101 dX1_isSure_98 rfl fl_X1_11 ⟨_, by assumption, ?_⟩
          refine ⟨_, rfl, ?_⟩
          refine at_iload_n 102 dX1_isSure_101 rfl rfl rfl ?_
          refine at_aa 103 dX1_isSure_102 rfl ⟨_, _, by assumption, by omega, by first | decide | omega, ?_⟩
          refine ⟨_, rowsAt_in (by omega), ?_⟩
          refine at_iload 105 dX1_isSure_103 rfl rfl ?_
          first | refine at_ia 106 dX1_isSure_105 rfl ⟨_, _, by assumption, by omega, by first | decide | omega, ?_⟩ | refine at_iaG 106 dX1_isSure_105 rfl ⟨_, _, by assumption, by omega, by first | decide | omega, ?_⟩
          refine at_sipush 109 (nI 1000) dX1_isSure_106 rfl (by decide) ?_
          first | refine at_imulN 110 dX1_isSure_109 rfl ?_ | refine at_imul 110 dX1_isSure_109 rfl ?_
          refine at_icmp_ltN 131 113 dX1_isSure_110 rfl rfl (by omega) (by omega) (fun cc => ?_) (fun cc => ?_)
          · refine at_iconst 132 (nI 0) dX1_isSure_131 rfl (by decide) ?_
            refine at_zret dX1_isSure_132 rfl (by first | rfl | decide) (by decide) (by decide) ?_
            refine ⟨bI_F (fun q => ?_), rfl⟩
            have q1 := (of_decide_eq_true (allB_iff.mp q i (by omega))).1
            rw [el i (by omega)] at cc
            omega
          have c1 := cc
          refine at_iload 115 dX1_isSure_113 rfl rfl ?_
          refine at_aload_n 116 dX1_isSure_115 rfl rfl rfl ?_
          refine at_g 119 dX1_isSure_116 rfl fl_X1_16 ⟨_, by assumption, ?_⟩
          refine ⟨_, rfl, ?_⟩
          refine at_iload_n 120 dX1_isSure_119 rfl rfl rfl ?_
          refine at_aa 121 dX1_isSure_120 rfl ⟨_, _, by assumption, by omega, by first | decide | omega, ?_⟩
          refine ⟨_, rowsAt_in (by omega), ?_⟩
          refine at_iload 123 dX1_isSure_121 rfl rfl ?_
          first | refine at_ia 124 dX1_isSure_123 rfl ⟨_, _, by assumption, by omega, by first | decide | omega, ?_⟩ | refine at_iaG 124 dX1_isSure_123 rfl ⟨_, _, by assumption, by omega, by first | decide | omega, ?_⟩
          refine at_sipush 127 (nI 1000) dX1_isSure_124 rfl (by decide) ?_
          first | refine at_imulN 128 dX1_isSure_127 rfl ?_ | refine at_imul 128 dX1_isSure_127 rfl ?_
          refine at_icmp_leN 133 131 dX1_isSure_128 rfl rfl (by omega) (by omega) (fun cc => ?_) (fun cc => ?_)
          · refine at_iincN (q := 1) (L' := [_, _, _, _, _, _, _, _, _]) 136 dX1_isSure_133 rfl (by decide) rfl (by decide) rfl rfl ?_
            refine at_goto 3 dX1_isSure_136 rfl ?_
            refine at_drop (L' := [_, _, _, _, _, _, _, _, _]) 5 rfl ?_
            refine at_drop (L' := [_, _, _, _, _, _, _, _, _]) 6 rfl ?_
            refine at_drop (L' := [_, _, _, _, _, _, _, _, _]) 7 rfl ?_
            refine ih (i + 1) (by omega) (fun j hj2 => ?_)
            by_cases e : j = i
            · subst e
              rw [← el j (by omega), ← em j (by omega)]
              exact ⟨c1, cc⟩
            · exact hj j (by omega)
          · refine at_iconst 132 (nI 0) dX1_isSure_131 rfl (by decide) ?_
            refine at_zret dX1_isSure_132 rfl (by first | rfl | decide) (by decide) (by decide) ?_
            refine ⟨bI_F (fun q => ?_), rfl⟩
            have q1 := (of_decide_eq_true (allB_iff.mp q i (by omega))).2
            rw [em i (by omega)] at cc
            omega
        | succ e ih2 =>
          intro f hf
          obtain ⟨wk, ak, ek⟩ := hmk f (by omega)
          replace ek : ∀ i, i < 4 → wk i = mk (4 * f + i) := ek
          have b1 := hmb (4 * f + i) (by omega)
          have b2 := hdb f (by omega)
          refine at_iload 20 dX1_isSure_18 rfl rfl ?_
          refine at_aload_n 21 dX1_isSure_20 rfl rfl rfl ?_
          refine at_g 24 dX1_isSure_21 rfl fl_X1_37 ⟨_, by assumption, ?_⟩
          refine ⟨_, rfl, ?_⟩
          refine at_icmp_geN 95 27 dX1_isSure_24 rfl rfl (by omega) (by omega) (fun cc => ?_) (fun cc => ?_)
          · omega
          refine at_aload_n 28 dX1_isSure_27 rfl rfl rfl ?_
          refine at_g 31 dX1_isSure_28 rfl fl_X1_40 ⟨_, by assumption, ?_⟩
          refine ⟨_, rfl, ?_⟩
          refine at_iload 33 dX1_isSure_31 rfl rfl ?_
          refine at_aa 34 dX1_isSure_33 rfl ⟨_, _, by assumption, by omega, by first | decide | omega, ?_⟩
          refine ⟨_, rowsAt_in (by omega), ?_⟩
          refine at_iload 36 dX1_isSure_34 rfl rfl ?_
          first | refine at_ia 37 dX1_isSure_36 rfl ⟨_, _, by assumption, by omega, by first | decide | omega, ?_⟩ | refine at_iaG 37 dX1_isSure_36 rfl ⟨_, _, by assumption, by omega, by first | decide | omega, ?_⟩
          rw [ek i (by omega)]
          refine at_istore (L' := [_, _, _, _, _, _, _, _, _]) 39 dX1_isSure_37 rfl (by decide) rfl rfl ?_
          refine at_iload 41 dX1_isSure_39 rfl rfl ?_
          refine at_aload_n 42 dX1_isSure_41 rfl rfl rfl ?_
          refine at_iload 44 dX1_isSure_42 rfl rfl ?_
          first | refine at_ia 45 dX1_isSure_44 rfl ⟨_, _, by assumption, by omega, by first | decide | omega, ?_⟩ | refine at_iaG 45 dX1_isSure_44 rfl ⟨_, _, by assumption, by omega, by first | decide | omega, ?_⟩
          refine at_iload 47 dX1_isSure_45 rfl rfl ?_
          refine at_aload_n 48 dX1_isSure_47 rfl rfl rfl ?_
          refine at_g 51 dX1_isSure_48 rfl fl_X1_43 ⟨_, by assumption, ?_⟩
          refine ⟨_, rfl, ?_⟩
          refine at_iload 53 dX1_isSure_51 rfl rfl ?_
          first | refine at_ia 54 dX1_isSure_53 rfl ⟨_, _, by assumption, by omega, by first | decide | omega, ?_⟩ | refine at_iaG 54 dX1_isSure_53 rfl ⟨_, _, by assumption, by omega, by first | decide | omega, ?_⟩
          refine at_isub 55 dX1_isSure_54 rfl ?_
          refine at_iconst 56 (nI 0) dX1_isSure_55 rfl (by decide) ?_
          refine at_max 59 dX1_isSure_56 rfl ml_X1_46 jw_max (Nat.le_of_ble_eq_true rfl) (by decide) (by decide) ?_
          rw [max_sub (by omega) (by omega)]
          first | refine at_imulN 60 dX1_isSure_59 rfl ?_ | refine at_imul 60 dX1_isSure_59 rfl ?_
          first | refine at_iaddN 61 dX1_isSure_60 rfl ?_ | refine at_iadd 61 dX1_isSure_60 rfl ?_
          refine at_istore (L' := [_, _, _, _, _, _, _, _, _]) 63 dX1_isSure_61 rfl (by decide) rfl rfl ?_
          refine at_iload 65 dX1_isSure_63 rfl rfl ?_
          refine at_aload_n 66 dX1_isSure_65 rfl rfl rfl ?_
          refine at_iload 68 dX1_isSure_66 rfl rfl ?_
          first | refine at_ia 69 dX1_isSure_68 rfl ⟨_, _, by assumption, by omega, by first | decide | omega, ?_⟩ | refine at_iaG 69 dX1_isSure_68 rfl ⟨_, _, by assumption, by omega, by first | decide | omega, ?_⟩
          refine at_iload 71 dX1_isSure_69 rfl rfl ?_
          refine at_aload_n 72 dX1_isSure_71 rfl rfl rfl ?_
          refine at_g 75 dX1_isSure_72 rfl fl_X1_43 ⟨_, by assumption, ?_⟩
          refine ⟨_, rfl, ?_⟩
          refine at_iload 77 dX1_isSure_75 rfl rfl ?_
          first | refine at_ia 78 dX1_isSure_77 rfl ⟨_, _, by assumption, by omega, by first | decide | omega, ?_⟩ | refine at_iaG 78 dX1_isSure_77 rfl ⟨_, _, by assumption, by omega, by first | decide | omega, ?_⟩
          first | refine at_iaddN 79 dX1_isSure_78 rfl ?_ | refine at_iadd 79 dX1_isSure_78 rfl ?_
          refine at_sipush 82 (nI 1000) dX1_isSure_79 rfl (by decide) ?_
          refine at_min 85 dX1_isSure_82 rfl ml_X1_52 jw_min (Nat.le_of_ble_eq_true rfl) (by decide) (by decide) ?_
          rw [min_cap (by omega)]
          first | refine at_imulN 86 dX1_isSure_85 rfl ?_ | refine at_imul 86 dX1_isSure_85 rfl ?_
          first | refine at_iaddN 87 dX1_isSure_86 rfl ?_ | refine at_iadd 87 dX1_isSure_86 rfl ?_
          refine at_istore (L' := [_, _, _, _, _, _, _, _, _]) 89 dX1_isSure_87 rfl (by decide) rfl rfl ?_
          refine at_iincN (q := 1) (L' := [_, _, _, _, _, _, _, _, _]) 92 dX1_isSure_89 rfl (by decide) rfl (by decide) rfl rfl ?_
          refine at_goto 18 dX1_isSure_92 rfl ?_
          refine at_drop (L' := [_, _, _, _, _, _, _, _, _]) 8 rfl ?_
          exact ih2 (f + 1) (by omega)
      exact inner n 0 (by omega)
  exact loop 4 0 (by omega) (fun j hj => by omega)
end
section
def lotN (tk mk : Nat → Nat) (n : Nat) (l0 : Nat → Nat) : Nat → Nat := fun i => if i < 4 * n then share (tk (i / 4)) (fun t => mk (4 * (i / 4) + t)) 4 (i % 4) else l0 i
/-- the weights of an hour: shares, and a dose of s to the feed ti - 1 -/
def doseW (sh : Nat → Nat) (s ti : Nat) : Nat → Nat := fun f => sh f * (1000 - s) + (if f + 1 = ti then s * 1000 else 0)
theorem a_X0_measure {h h1 : List PC} {q n g sz m : Nat} {ti ds : Int32} {R P W mk l0 wc tk lt : Nat → Nat} (hq : 40 ≤ q) (h1s : h[1]? = some oSharer) (hF : h[4]? = some (oFeeds n)) (hr : h[6]? = some (aR 8 (rowsAt 6 8))) (hmk : ∀ f, f < 8 → Ar h (7 + f) 4 (fun t => mk (4 * f + t))) (hM : h[18]? = some (oMix m)) (hn : n ≤ 8) (hg : g < 2 ^ 31) (hT : 0 < sm W 8) (hTb : sm W 8 < 2 ^ 31) (hms : ∀ f, f < n → sm (fun t => mk (4 * f + t)) 4 = 1000)
    (a2 : h1[2]? = some (aL 32 R)) (a3 : h1[3]? = some (aI 32 P)) (aq : h1[q]? = some (oCharge q sz)) (aw : h1[q + 1]? = some (aI 8 wc)) (at2 : h1[q + 2]? = some (aI 8 tk)) (al : h1[q + 3]? = some (aI 32 lt)) (hwc : ∀ i, i < 8 → wc i = W i) (hlt : ∀ i, i < 32 → lt i = l0 i) (hfr : Fr (fun j => j = 2 ∨ j = 3 ∨ (q ≤ j ∧ j ≤ q + 3)) h h1) : At mX0_measure T0 64 [.ref q, .int (nI g), .int ti, .int ds, .int (nI 8)] [] h1 0 0 (ZM mX0_measure (fun r h' => r = none ∧ (∃ R', h'[2]? = some (aL 32 R')) ∧ (∃ P', h'[3]? = some (aI 32 P')) ∧ h'[q]? = some (oCharge q (n * 4)) ∧ (∃ w, h'[q + 1]? = some (aI 8 w)) ∧ Ar h' (q + 2) 8 (share g W 8) ∧ Ar h' (q + 3) 32 (lotN (share g W 8) mk n l0) ∧ Fr (fun j => j = 2 ∨ j = 3 ∨ (q ≤ j ∧ j ≤ q + 3)) h h')) := by
  have b1 := hfr.at (k := 1) (by omega) h1s
  have hWs : sm wc 8 = sm W 8 := sm_congr hwc
  refine at_aload_n 65 dX0_measure_64 rfl rfl rfl ?_
  refine at_g 68 dX0_measure_65 rfl fl_X0_29 ⟨_, by assumption, ?_⟩
  refine ⟨_, rfl, ?_⟩
  refine at_iload_n 69 dX0_measure_68 rfl rfl rfl ?_
  refine at_aload_n 70 dX0_measure_69 rfl rfl rfl ?_
  refine at_g 73 dX0_measure_70 rfl fl_X0_9 ⟨_, by assumption, ?_⟩
  refine ⟨_, rfl, ?_⟩
  refine at_bipush 75 (nI 8) dX0_measure_73 rfl (by decide) ?_
  refine at_aload_n 76 dX0_measure_75 rfl rfl rfl ?_
  refine at_g 79 dX0_measure_76 rfl fl_X0_15 ⟨_, by assumption, ?_⟩
  refine ⟨_, rfl, ?_⟩
  refine at_iconst 80 (nI 0) dX0_measure_79 rfl (by decide) ?_
  refine at_invV (ci := 9) 83 [_, _, _, _, _] _ (c_X9_split b1 a2 a3 aw at2 (by omega) (by omega) (by decide) (by decide) (by decide) (by decide) (by omega) (by omega) hg) dX0_measure_80 rfl rfl (by assumption) rfl ml_X0_44 cl_X9_split vl_X9_split rfl (Nat.le_of_ble_eq_true rfl) ⟨by decide, by decide⟩ (by decide) (fun rr hh qq => ?_)
  obtain ⟨rfl, ⟨R2, c2⟩, ⟨P2, c3⟩, ct, cfr⟩ := qq
  have htk : ∀ i, i < 8 → shr 0 8 (share g wc 8) tk i = share g W 8 i := fun i hi => by
    unfold shr
    rw [if_pos (by omega)]
    exact share_congr (by decide) hwc i hi
  generalize shr 0 8 (share g wc 8) tk = tk2 at ct htk
  have hfr2 : Fr (fun j => j = 2 ∨ j = 3 ∨ (q ≤ j ∧ j ≤ q + 3)) h hh := hfr.tr cfr (fun j hj => by omega)
  have cq := cfr.at (k := q) (by omega) aq
  have cw := cfr.at (k := q + 1) (by omega) aw
  have cl := cfr.at (k := q + 3) (by omega) al
  refine at_iconst 84 (nI 0) dX0_measure_83 rfl (by decide) ?_
  refine at_istore (L' := [_, _, _, _, _]) 86 dX0_measure_84 rfl (by decide) rfl rfl ?_
  have loop : ∀ (d f : Nat) (R P lt : Nat → Nat) (h2 : List PC), f + d = n → h2[2]? = some (aL 32 R) → h2[3]? = some (aI 32 P) → h2[q]? = some (oCharge q sz) → h2[q + 1]? = some (aI 8 wc) → h2[q + 2]? = some (aI 8 tk2) → h2[q + 3]? = some (aI 32 lt) → (∀ i, i < 32 → lt i = lotN (share g W 8) mk f l0 i) → Fr (fun j => j = 2 ∨ j = 3 ∨ (q ≤ j ∧ j ≤ q + 3)) h h2 → At mX0_measure T0 86 [.ref q, .int (nI g), .int ti, .int ds, .int (nI f)] [] h2 0 0 (ZM mX0_measure (fun r h' => r = none ∧ (∃ R', h'[2]? = some (aL 32 R')) ∧ (∃ P', h'[3]? = some (aI 32 P')) ∧ h'[q]? = some (oCharge q (n * 4)) ∧ (∃ w, h'[q + 1]? = some (aI 8 w)) ∧ Ar h' (q + 2) 8 (share g W 8) ∧ Ar h' (q + 3) 32 (lotN (share g W 8) mk n l0) ∧ Fr (fun j => j = 2 ∨ j = 3 ∨ (q ≤ j ∧ j ≤ q + 3)) h h')) := by
    intro d
    induction d with
    | zero =>
      intro f R P lt h2 hf a2 a3 aq aw at2 al hlt hfr
      have b4 := hfr.at (k := 4) (by omega) hF
      refine at_iload 88 dX0_measure_86 rfl rfl ?_
      refine at_aload_n 89 dX0_measure_88 rfl rfl rfl ?_
      refine at_g 92 dX0_measure_89 rfl fl_X0_21 ⟨_, by assumption, ?_⟩
      refine ⟨_, rfl, ?_⟩
      refine at_g 95 dX0_measure_92 rfl fl_X0_50 ⟨_, by assumption, ?_⟩
      refine ⟨_, rfl, ?_⟩
      refine at_icmp_geN 137 98 dX0_measure_95 rfl rfl (by omega) (by omega) (fun cc => ?_) (fun cc => ?_)
      rotate_left
      · omega
      refine at_aload_n 138 dX0_measure_137 rfl rfl rfl ?_
      refine at_aload_n 139 dX0_measure_138 rfl rfl rfl ?_
      refine at_g 142 dX0_measure_139 rfl fl_X0_21 ⟨_, by assumption, ?_⟩
      refine ⟨_, rfl, ?_⟩
      refine at_g 145 dX0_measure_142 rfl fl_X0_50 ⟨_, by assumption, ?_⟩
      refine ⟨_, rfl, ?_⟩
      refine at_iconst 146 (nI 4) dX0_measure_145 rfl (by decide) ?_
      first | refine at_imulN 147 dX0_measure_146 rfl ?_ | refine at_imul 147 dX0_measure_146 rfl ?_
      refine at_pi 150 dX0_measure_147 rfl pl_X0_58 (rfl) (rfl) ⟨_, by assumption, ?_⟩
      refine ⟨(Nat.le_of_ble_eq_true rfl), [_, _, _, _, _, _, _], rfl, fun hh1 nn1 => ?_⟩
      replace a2 := nn1.o (by first | decide | omega | assumption) a2
      replace a3 := nn1.o (by first | decide | omega | assumption) a3
      replace aq := nn1.1
      replace aw := nn1.o (by first | decide | omega | assumption) aw
      replace at2 := nn1.o (by first | decide | omega | assumption) at2
      replace al := nn1.o (by first | decide | omega | assumption) al
      replace b4 := nn1.o (by first | decide | omega | assumption) b4
      replace hfr := hfr.nw nn1 (by first | (dsimp only; omega) | (dsimp only; done) | simp)
      clear nn1
      refine at_vret dX0_measure_150 rfl (by decide) (by decide) ?_
      exact ⟨rfl, ⟨R, a2⟩, ⟨P, a3⟩, aq, ⟨wc, aw⟩, ⟨tk2, at2, htk⟩, ⟨lt, al, fun i hi => by rw [hlt i hi, show f = n by omega]⟩, hfr⟩
    | succ d ih =>
      intro f R P lt h2 hf a2 a3 aq aw at2 al hlt hfr
      have b1 := hfr.at (k := 1) (by omega) h1s
      have b4 := hfr.at (k := 4) (by omega) hF
      have b6 := hfr.at (k := 6) (by omega) hr
      obtain ⟨wk, ak, ek⟩ := (hmk f (by omega)).fr hfr (by omega)
      replace ek : ∀ i, i < 4 → wk i = mk (4 * f + i) := ek
      have hsk : sm wk 4 = 1000 := by rw [sm_congr (g := fun t => mk (4 * f + t)) ek]; exact hms f (by omega)
      have htf : tk2 f ≤ g := by rw [htk f (by omega)]; exact share_le_g hT (by omega)
      refine at_iload 88 dX0_measure_86 rfl rfl ?_
      refine at_aload_n 89 dX0_measure_88 rfl rfl rfl ?_
      refine at_g 92 dX0_measure_89 rfl fl_X0_21 ⟨_, by assumption, ?_⟩
      refine ⟨_, rfl, ?_⟩
      refine at_g 95 dX0_measure_92 rfl fl_X0_50 ⟨_, by assumption, ?_⟩
      refine ⟨_, rfl, ?_⟩
      refine at_icmp_geN 137 98 dX0_measure_95 rfl rfl (by omega) (by omega) (fun cc => ?_) (fun cc => ?_)
      · omega
      refine at_aload_n 99 dX0_measure_98 rfl rfl rfl ?_
      refine at_g 102 dX0_measure_99 rfl fl_X0_29 ⟨_, by assumption, ?_⟩
      refine ⟨_, rfl, ?_⟩
      refine at_aload_n 103 dX0_measure_102 rfl rfl rfl ?_
      refine at_g 106 dX0_measure_103 rfl fl_X0_15 ⟨_, by assumption, ?_⟩
      refine ⟨_, rfl, ?_⟩
      refine at_iload 108 dX0_measure_106 rfl rfl ?_
      first | refine at_ia 109 dX0_measure_108 rfl ⟨_, _, by assumption, by omega, by first | decide | omega, ?_⟩ | refine at_iaG 109 dX0_measure_108 rfl ⟨_, _, by assumption, by omega, by first | decide | omega, ?_⟩
      refine at_aload_n 110 dX0_measure_109 rfl rfl rfl ?_
      refine at_g 113 dX0_measure_110 rfl fl_X0_21 ⟨_, by assumption, ?_⟩
      refine ⟨_, rfl, ?_⟩
      refine at_g 116 dX0_measure_113 rfl fl_X0_54 ⟨_, by assumption, ?_⟩
      refine ⟨_, rfl, ?_⟩
      refine at_iload 118 dX0_measure_116 rfl rfl ?_
      refine at_aa 119 dX0_measure_118 rfl ⟨_, _, by assumption, by omega, by first | decide | omega, ?_⟩
      refine ⟨_, rowsAt_in (by omega), ?_⟩
      refine at_iconst 120 (nI 4) dX0_measure_119 rfl (by decide) ?_
      refine at_aload_n 121 dX0_measure_120 rfl rfl rfl ?_
      refine at_g 124 dX0_measure_121 rfl fl_X0_18 ⟨_, by assumption, ?_⟩
      refine ⟨_, rfl, ?_⟩
      refine at_iload 126 dX0_measure_124 rfl rfl ?_
      refine at_iconst 127 (nI 4) dX0_measure_126 rfl (by decide) ?_
      first | refine at_imulN 128 dX0_measure_127 rfl ?_ | refine at_imul 128 dX0_measure_127 rfl ?_
      refine at_invV (ci := 9) 131 [_, _, _, _, _] _ (c_X9_split (kw := 6 + 1 + f) b1 a2 a3 ak al (by omega) (by omega) (by decide) (by decide) (by omega) (by decide) (by omega) (by omega) (by omega)) dX0_measure_128 rfl rfl (by assumption) rfl ml_X0_44 cl_X9_split vl_X9_split rfl (Nat.le_of_ble_eq_true rfl) ⟨by decide, by decide⟩ (by decide) (fun rr hh qq => ?_)
      obtain ⟨rfl, ⟨R2, c2⟩, ⟨P2, c3⟩, cl, cfr⟩ := qq
      refine at_iincN (q := 1) (L' := [_, _, _, _, _]) 134 dX0_measure_131 rfl (by decide) rfl (by decide) rfl rfl ?_
      refine at_goto 86 dX0_measure_134 rfl ?_
      refine ih (f + 1) R2 P2 _ hh (by omega) c2 c3 (cfr.at (k := q) (by omega) aq) (cfr.at (k := q + 1) (by omega) aw) (cfr.at (k := q + 2) (by omega) at2) cl (fun i hi => ?_) (hfr.tr cfr (fun j hj => by omega))
      unfold shr
      by_cases e : f * 4 ≤ i ∧ i < f * 4 + 4
      · rw [if_pos e]
        unfold lotN
        rw [if_pos (by omega), show i / 4 = f by omega, show i % 4 = i - f * 4 by omega, htk f (by omega)]
        exact share_congr (by decide) ek _ (by omega)
      · rw [if_neg e, hlt i hi]
        unfold lotN
        by_cases e2 : i < 4 * f
        · rw [if_pos e2, if_pos (by omega)]
        · rw [if_neg e2, if_neg (by omega)]
  refine loop n 0 R2 P2 lt hh (by omega) c2 c3 cq cw ct cl (fun i hi => ?_) hfr2
  rw [hlt i hi]
  unfold lotN
  rw [if_neg (by omega)]
theorem c_X0_measure {h : List PC} {q n g sz m s ti : Nat} {ti0 : Int32} {R P mk l0 wc tk sh : Nat → Nat} (hti : (ti = 0 ∧ ti0 = -1) ∨ (∃ f, f < n ∧ ti = f + 1 ∧ ti0 = nI f)) (hq : 40 ≤ q) (h1s : h[1]? = some oSharer) (h2 : h[2]? = some (aL 32 R)) (h3 : h[3]? = some (aI 32 P)) (hF : h[4]? = some (oFeeds n)) (hr : h[6]? = some (aR 8 (rowsAt 6 8))) (hmk : ∀ f, f < 8 → Ar h (7 + f) 4 (fun t => mk (4 * f + t))) (hM : h[18]? = some (oMix m)) (hs : h[19]? = some (aI 8 sh)) (hQ : h[q]? = some (oCharge q sz)) (hw : h[q + 1]? = some (aI 8 wc)) (ht : h[q + 2]? = some (aI 8 tk)) (hl : h[q + 3]? = some (aI 32 l0)) (hn : n ≤ 8) (hg : g < 2 ^ 31) (hsd : s ≤ 1000) (hT : 0 < sm (doseW sh s ti) 8) (hTb : sm (doseW sh s ti) 8 < 2 ^ 31) (hms : ∀ f, f < n → sm (fun t => mk (4 * f + t)) 4 = 1000) : Ct mX0_measure [.ref q, .int (nI g), .int ti0, .int (nI s)] h (fun r h' => r = none ∧ (∃ R', h'[2]? = some (aL 32 R')) ∧ (∃ P', h'[3]? = some (aI 32 P')) ∧ h'[q]? = some (oCharge q (n * 4)) ∧ (∃ w, h'[q + 1]? = some (aI 8 w)) ∧ Ar h' (q + 2) 8 (share g (doseW sh s ti) 8) ∧ Ar h' (q + 3) 32 (lotN (share g (doseW sh s ti) 8) mk n l0) ∧ Fr (fun j => j = 2 ∨ j = 3 ∨ (q ≤ j ∧ j ≤ q + 3)) h h') := by
  refine ct_at (L := [_, _, _, _, _]) (by decide +kernel) rfl rfl (Nat.le_of_ble_eq_true rfl) ?_
  refine at_iconst 1 (nI 0) dX0_measure_0 rfl (by decide) ?_
  refine at_istore (L' := [_, _, _, _, _]) 3 dX0_measure_1 rfl (by decide) rfl rfl ?_
  have loop : ∀ (d i : Nat) (wc : Nat → Nat) (h1 : List PC), i + d = 8 → h1[q + 1]? = some (aI 8 wc) → (∀ j, j < i → wc j = sh j * (1000 - s)) → Fr (fun j => j = q + 1) h h1 → At mX0_measure T0 3 [.ref q, .int (nI g), .int ti0, .int (nI s), .int (nI i)] [] h1 0 0 (ZM mX0_measure (fun r h' => r = none ∧ (∃ R', h'[2]? = some (aL 32 R')) ∧ (∃ P', h'[3]? = some (aI 32 P')) ∧ h'[q]? = some (oCharge q (n * 4)) ∧ (∃ w, h'[q + 1]? = some (aI 8 w)) ∧ Ar h' (q + 2) 8 (share g (doseW sh s ti) 8) ∧ Ar h' (q + 3) 32 (lotN (share g (doseW sh s ti) 8) mk n l0) ∧ Fr (fun j => j = 2 ∨ j = 3 ∨ (q ≤ j ∧ j ≤ q + 3)) h h')) := by
    intro d
    induction d with
    | succ d ih =>
      intro i wc h1 hi hw hwc hfr
      have bq := hfr.at (k := q) (by omega) hQ
      have b18 := hfr.at (k := 18) (by omega) hM
      have b19 := hfr.at (k := 19) (by omega) hs
      refine at_iload 5 dX0_measure_3 rfl rfl ?_
      refine at_bipush 7 (nI 8) dX0_measure_5 rfl (by decide) ?_
      refine at_icmp_geN 39 10 dX0_measure_7 rfl rfl (by omega) (by omega) (fun cc => ?_) (fun cc => ?_)
      · omega
      refine at_aload_n 11 dX0_measure_10 rfl rfl rfl ?_
      refine at_g 14 dX0_measure_11 rfl fl_X0_9 ⟨_, by assumption, ?_⟩
      refine ⟨_, rfl, ?_⟩
      refine at_iload 16 dX0_measure_14 rfl rfl ?_
      refine at_aload_n 17 dX0_measure_16 rfl rfl rfl ?_
      refine at_g 20 dX0_measure_17 rfl fl_X0_25 ⟨_, by assumption, ?_⟩
      refine ⟨_, rfl, ?_⟩
      refine at_g 23 dX0_measure_20 rfl fl_X0_33 ⟨_, by assumption, ?_⟩
      refine ⟨_, rfl, ?_⟩
      refine at_iload 25 dX0_measure_23 rfl rfl ?_
      first | refine at_ia 26 dX0_measure_25 rfl ⟨_, _, by assumption, by omega, by first | decide | omega, ?_⟩ | refine at_iaG 26 dX0_measure_25 rfl ⟨_, _, by assumption, by omega, by first | decide | omega, ?_⟩
      refine at_sipush 29 (nI 1000) dX0_measure_26 rfl (by decide) ?_
      refine at_iload_n 30 dX0_measure_29 rfl rfl rfl ?_
      first | refine at_isubN 31 dX0_measure_30 rfl (by omega) ?_ | refine at_isub 31 dX0_measure_30 rfl ?_
      first | refine at_imulN 32 dX0_measure_31 rfl ?_ | refine at_imul 32 dX0_measure_31 rfl ?_
      first | refine at_is 33 dX0_measure_32 rfl ⟨_, _, by assumption, by omega, by first | decide | omega, fun hh2 nn2 => ?_⟩ | refine at_isG 33 dX0_measure_32 rfl ⟨_, _, by assumption, by omega, by first | decide | omega, fun hh2 nn2 => ?_⟩
      replace bq := nn2.o (by first | decide | omega | assumption) bq
      replace b18 := nn2.o (by first | decide | omega | assumption) b18
      replace b19 := nn2.o (by first | decide | omega | assumption) b19
      replace hw := nn2.1
      replace hfr := hfr.nw nn2 (by first | (dsimp only; omega) | (dsimp only; done) | simp)
      clear nn2
      refine at_iincN (q := 1) (L' := [_, _, _, _, _]) 36 dX0_measure_33 rfl (by decide) rfl (by decide) rfl rfl ?_
      refine at_goto 3 dX0_measure_36 rfl ?_
      refine ih (i + 1) _ _ (by omega) hw (fun j hj => ?_) hfr
      by_cases e : j = i
      · subst e; rw [updN_s]
      · rw [updN_n _ _ e]; exact hwc j (by omega)
    | zero =>
      intro i wc h1 hi hw hwc hfr
      have bq := hfr.at (k := q) (by omega) hQ
      have b4 := hfr.at (k := 4) (by omega) hF
      refine at_iload 5 dX0_measure_3 rfl rfl ?_
      refine at_bipush 7 (nI 8) dX0_measure_5 rfl (by decide) ?_
      refine at_icmp_geN 39 10 dX0_measure_7 rfl rfl (by omega) (by omega) (fun cc => ?_) (fun cc => ?_)
      rotate_left
      · omega
      rw [show i = 8 by omega]
      refine at_aload_n 40 dX0_measure_39 rfl rfl rfl ?_
      refine at_g 43 dX0_measure_40 rfl fl_X0_21 ⟨_, by assumption, ?_⟩
      refine ⟨_, rfl, ?_⟩
      refine at_iload_n 44 dX0_measure_43 rfl rfl rfl ?_
      refine at_invV (ci := 2) 47 [_] _ (c_X2_has ti0 b4) dX0_measure_44 rfl rfl (by assumption) rfl ml_X0_38 cl_X2_has vl_X2_has rfl (Nat.le_of_ble_eq_true rfl) ⟨by decide, by decide⟩ (by decide) (fun rr hh qq => ?_)
      obtain ⟨rfl, rfl⟩ := qq
      refine at_if_eqB 64 50 dX0_measure_47 rfl rfl (fun cc => ?_) (fun cc => ?_)
      · have e0 : ti = 0 := by
          rcases hti with q1 | ⟨f, q1, q2, q3⟩
          · exact q1.1
          · rw [q3] at cc
            have := of_decide_eq_false cc
            exact absurd ⟨nI_pos' (by omega), (nI_ltI (by omega) (by omega)).mpr q1⟩ this
        refine a_X0_measure (l0 := l0) (h := h) hq h1s hF hr hmk hM hn hg hT hTb hms (hfr.at (k := 2) (by omega) h2) (hfr.at (k := 3) (by omega) h3) bq hw (hfr.at (k := q + 2) (by omega) ht) (hfr.at (k := q + 3) (by omega) hl) (fun j hj => ?_) (fun _ _ => rfl) (hfr.wk (fun j hj => by omega))
        rw [hwc j (by omega)]
        unfold doseW
        rw [if_neg (by omega)]
        rfl
      · obtain ⟨f, q1, q2, q3⟩ : ∃ f, f < n ∧ ti = f + 1 ∧ ti0 = nI f := by
          rcases hti with q1 | q1
          · rw [q1.2] at cc
            have := (of_decide_eq_true cc).1
            exact absurd this (by decide)
          · exact q1
        subst q3
        refine at_aload_n 51 dX0_measure_50 rfl rfl rfl ?_
        refine at_g 54 dX0_measure_51 rfl fl_X0_9 ⟨_, by assumption, ?_⟩
        refine ⟨_, rfl, ?_⟩
        refine at_iload_n 55 dX0_measure_54 rfl rfl rfl ?_
        refine at_dup2 56 dX0_measure_55 rfl rfl rfl ?_
        first | refine at_ia 57 dX0_measure_56 rfl ⟨_, _, by assumption, by omega, by first | decide | omega, ?_⟩ | refine at_iaG 57 dX0_measure_56 rfl ⟨_, _, by assumption, by omega, by first | decide | omega, ?_⟩
        refine at_iload_n 58 dX0_measure_57 rfl rfl rfl ?_
        refine at_sipush 61 (nI 1000) dX0_measure_58 rfl (by decide) ?_
        first | refine at_imulN 62 dX0_measure_61 rfl ?_ | refine at_imul 62 dX0_measure_61 rfl ?_
        first | refine at_iaddN 63 dX0_measure_62 rfl ?_ | refine at_iadd 63 dX0_measure_62 rfl ?_
        first | refine at_is 64 dX0_measure_63 rfl ⟨_, _, by assumption, by omega, by first | decide | omega, fun hh3 nn3 => ?_⟩ | refine at_isG 64 dX0_measure_63 rfl ⟨_, _, by assumption, by omega, by first | decide | omega, fun hh3 nn3 => ?_⟩
        replace bq := nn3.o (by first | decide | omega | assumption) bq
        replace hw := nn3.1
        replace hfr := hfr.nw nn3 (by first | (dsimp only; omega) | (dsimp only; done) | simp)
        clear nn3
        refine a_X0_measure (l0 := l0) (h := h) hq h1s hF hr hmk hM hn hg hT hTb hms (hfr.at (k := 2) (by omega) h2) (hfr.at (k := 3) (by omega) h3) bq hw (hfr.at (k := q + 2) (by omega) ht) (hfr.at (k := q + 3) (by omega) hl) (fun j hj => ?_) (fun _ _ => rfl) (hfr.wk (fun j hj => by omega))
        unfold doseW
        by_cases e : j = f
        · subst e
          rw [updN_s, if_pos (by omega), hwc j (by omega)]
        · rw [updN_n _ _ e, if_neg (by omega), hwc j (by omega)]
          rfl
  exact loop 8 0 wc h (by omega) hw (fun j hj => by omega) Fr.rf
end
