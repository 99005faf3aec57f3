section
-- ===== PART A: goes FIRST, ahead of the names: the tables' words, and 'selects' of the private methods out of them =====
/-- a private method of a class that the tables say can be made, by its rows of tables_1 -/
def lw_okq (q : MethodName × Nat) : Prop := (q.1.cls ≠ "java/lang/invoke/MethodHandle" ∧ q.1.cls ≠ "java/lang/invoke/VarHandle") ∧ Cond.instantiable q.1.cls q.2 ∈ tables_1 ∧ Cond.privateMethod q.1 ∈ tables_1 ∧ Cond.instanceMethod q.1 ∈ tables_1
theorem lw_p0 : lw_okq (⟨"Aquiferward$World", "fillCell", "(IIII)V"⟩, 12) := ⟨⟨by decide +kernel, by decide +kernel⟩, List.mem_of_getElem? (i := 49) (by decide +kernel), List.mem_of_getElem? (i := 377) (by decide +kernel), List.mem_of_getElem? (i := 378) (by decide +kernel)⟩
theorem lw_p1 : lw_okq (⟨"Aquiferward$World", "followTransfer", "(III)V"⟩, 12) := ⟨⟨by decide +kernel, by decide +kernel⟩, List.mem_of_getElem? (i := 49) (by decide +kernel), List.mem_of_getElem? (i := 385) (by decide +kernel), List.mem_of_getElem? (i := 386) (by decide +kernel)⟩
theorem lw_p2 : lw_okq (⟨"Aquiferward$World", "letMonthsPass", "(I)V"⟩, 12) := ⟨⟨by decide +kernel, by decide +kernel⟩, List.mem_of_getElem? (i := 49) (by decide +kernel), List.mem_of_getElem? (i := 397) (by decide +kernel), List.mem_of_getElem? (i := 398) (by decide +kernel)⟩
theorem lw_p3 : lw_okq (⟨"Aquiferward$World", "letRainFall", "()V"⟩, 12) := ⟨⟨by decide +kernel, by decide +kernel⟩, List.mem_of_getElem? (i := 49) (by decide +kernel), List.mem_of_getElem? (i := 401) (by decide +kernel), List.mem_of_getElem? (i := 402) (by decide +kernel)⟩
theorem lw_p4 : lw_okq (⟨"Aquiferward$World", "pumpWells", "()V"⟩, 12) := ⟨⟨by decide +kernel, by decide +kernel⟩, List.mem_of_getElem? (i := 49) (by decide +kernel), List.mem_of_getElem? (i := 405) (by decide +kernel), List.mem_of_getElem? (i := 406) (by decide +kernel)⟩
theorem lw_p5 : lw_okq (⟨"Aquiferward$World", "pumpWell", "(I)V"⟩, 12) := ⟨⟨by decide +kernel, by decide +kernel⟩, List.mem_of_getElem? (i := 49) (by decide +kernel), List.mem_of_getElem? (i := 409) (by decide +kernel), List.mem_of_getElem? (i := 410) (by decide +kernel)⟩
theorem lw_p6 : lw_okq (⟨"Aquiferward$World", "note", "(C)V"⟩, 12) := ⟨⟨by decide +kernel, by decide +kernel⟩, List.mem_of_getElem? (i := 49) (by decide +kernel), List.mem_of_getElem? (i := 428) (by decide +kernel), List.mem_of_getElem? (i := 429) (by decide +kernel)⟩
theorem lw_p7 : lw_okq (⟨"Aquiferward$World", "letWaterFlow", "()V"⟩, 12) := ⟨⟨by decide +kernel, by decide +kernel⟩, List.mem_of_getElem? (i := 49) (by decide +kernel), List.mem_of_getElem? (i := 528) (by decide +kernel), List.mem_of_getElem? (i := 529) (by decide +kernel)⟩
theorem lw_p8 : lw_okq (⟨"Aquiferward$World", "flow", "(III)V"⟩, 12) := ⟨⟨by decide +kernel, by decide +kernel⟩, List.mem_of_getElem? (i := 49) (by decide +kernel), List.mem_of_getElem? (i := 533) (by decide +kernel), List.mem_of_getElem? (i := 534) (by decide +kernel)⟩
theorem lw_p9 : lw_okq (⟨"Aquiferward$World", "letRiverRun", "()V"⟩, 12) := ⟨⟨by decide +kernel, by decide +kernel⟩, List.mem_of_getElem? (i := 49) (by decide +kernel), List.mem_of_getElem? (i := 537) (by decide +kernel), List.mem_of_getElem? (i := 538) (by decide +kernel)⟩
theorem lw_p10 : lw_okq (⟨"Aquiferward$World", "runThroughBed", "(II)I"⟩, 12) := ⟨⟨by decide +kernel, by decide +kernel⟩, List.mem_of_getElem? (i := 49) (by decide +kernel), List.mem_of_getElem? (i := 541) (by decide +kernel), List.mem_of_getElem? (i := 542) (by decide +kernel)⟩
theorem lw_p11 : lw_okq (⟨"Aquiferward$World", "letSpringsRun", "()V"⟩, 12) := ⟨⟨by decide +kernel, by decide +kernel⟩, List.mem_of_getElem? (i := 49) (by decide +kernel), List.mem_of_getElem? (i := 545) (by decide +kernel), List.mem_of_getElem? (i := 546) (by decide +kernel)⟩
theorem lw_p12 : lw_okq (⟨"Aquiferward$World", "letSpringRun", "(I)V"⟩, 12) := ⟨⟨by decide +kernel, by decide +kernel⟩, List.mem_of_getElem? (i := 49) (by decide +kernel), List.mem_of_getElem? (i := 549) (by decide +kernel), List.mem_of_getElem? (i := 550) (by decide +kernel)⟩
theorem lw_p13 : lw_okq (⟨"Aquiferward$World", "meetSea", "(I)V"⟩, 12) := ⟨⟨by decide +kernel, by decide +kernel⟩, List.mem_of_getElem? (i := 49) (by decide +kernel), List.mem_of_getElem? (i := 554) (by decide +kernel), List.mem_of_getElem? (i := 555) (by decide +kernel)⟩
theorem lw_p14 : lw_okq (⟨"Aquiferward$World", "endMonth", "()V"⟩, 12) := ⟨⟨by decide +kernel, by decide +kernel⟩, List.mem_of_getElem? (i := 49) (by decide +kernel), List.mem_of_getElem? (i := 558) (by decide +kernel), List.mem_of_getElem? (i := 559) (by decide +kernel)⟩
theorem lw_p15 : lw_okq (⟨"Aquiferward$World", "endYear", "()V"⟩, 12) := ⟨⟨by decide +kernel, by decide +kernel⟩, List.mem_of_getElem? (i := 49) (by decide +kernel), List.mem_of_getElem? (i := 562) (by decide +kernel), List.mem_of_getElem? (i := 563) (by decide +kernel)⟩
def lw_privs_1 : List (MethodName × Nat) := [(⟨"Aquiferward$World", "fillCell", "(IIII)V"⟩, 12), (⟨"Aquiferward$World", "followTransfer", "(III)V"⟩, 12), (⟨"Aquiferward$World", "letMonthsPass", "(I)V"⟩, 12), (⟨"Aquiferward$World", "letRainFall", "()V"⟩, 12), (⟨"Aquiferward$World", "pumpWells", "()V"⟩, 12), (⟨"Aquiferward$World", "pumpWell", "(I)V"⟩, 12), (⟨"Aquiferward$World", "note", "(C)V"⟩, 12), (⟨"Aquiferward$World", "letWaterFlow", "()V"⟩, 12), (⟨"Aquiferward$World", "flow", "(III)V"⟩, 12), (⟨"Aquiferward$World", "letRiverRun", "()V"⟩, 12), (⟨"Aquiferward$World", "runThroughBed", "(II)I"⟩, 12), (⟨"Aquiferward$World", "letSpringsRun", "()V"⟩, 12), (⟨"Aquiferward$World", "letSpringRun", "(I)V"⟩, 12), (⟨"Aquiferward$World", "meetSea", "(I)V"⟩, 12), (⟨"Aquiferward$World", "endMonth", "()V"⟩, 12), (⟨"Aquiferward$World", "endYear", "()V"⟩, 12)]
theorem lw_r1 : ∀ q ∈ lw_privs_1, lw_okq q := List.forall_mem_cons.mpr ⟨lw_p0, List.forall_mem_cons.mpr ⟨lw_p1, List.forall_mem_cons.mpr ⟨lw_p2, List.forall_mem_cons.mpr ⟨lw_p3, List.forall_mem_cons.mpr ⟨lw_p4, List.forall_mem_cons.mpr ⟨lw_p5, List.forall_mem_cons.mpr ⟨lw_p6, List.forall_mem_cons.mpr ⟨lw_p7, List.forall_mem_cons.mpr ⟨lw_p8, List.forall_mem_cons.mpr ⟨lw_p9, List.forall_mem_cons.mpr ⟨lw_p10, List.forall_mem_cons.mpr ⟨lw_p11, List.forall_mem_cons.mpr ⟨lw_p12, List.forall_mem_cons.mpr ⟨lw_p13, List.forall_mem_cons.mpr ⟨lw_p14, List.forall_mem_cons.mpr ⟨lw_p15, fun _ h => absurd h List.not_mem_nil⟩⟩⟩⟩⟩⟩⟩⟩⟩⟩⟩⟩⟩⟩⟩⟩
theorem lw_p16 : lw_okq (⟨"java/lang/Throwable", "fillInStackTrace", "(I)Ljava/lang/Throwable;"⟩, 6) := ⟨⟨by decide +kernel, by decide +kernel⟩, List.mem_of_getElem? (i := 627) (by decide +kernel), List.mem_of_getElem? (i := 625) (by decide +kernel), List.mem_of_getElem? (i := 626) (by decide +kernel)⟩
theorem lw_p17 : lw_okq (⟨"Aquiferward", "carryOut", "(LAquiferward$Call;)V"⟩, 4) := ⟨⟨by decide +kernel, by decide +kernel⟩, List.mem_of_getElem? (i := 41) (by decide +kernel), List.mem_of_getElem? (i := 739) (by decide +kernel), List.mem_of_getElem? (i := 740) (by decide +kernel)⟩
theorem lw_p18 : lw_okq (⟨"java/util/ArrayList", "add", "(Ljava/lang/Object;[Ljava/lang/Object;I)V"⟩, 3) := ⟨⟨by decide +kernel, by decide +kernel⟩, List.mem_of_getElem? (i := 273) (by decide +kernel), List.mem_of_getElem? (i := 748) (by decide +kernel), List.mem_of_getElem? (i := 749) (by decide +kernel)⟩
theorem lw_p19 : lw_okq (⟨"java/util/ArrayList", "grow", "()[Ljava/lang/Object;"⟩, 3) := ⟨⟨by decide +kernel, by decide +kernel⟩, List.mem_of_getElem? (i := 273) (by decide +kernel), List.mem_of_getElem? (i := 752) (by decide +kernel), List.mem_of_getElem? (i := 753) (by decide +kernel)⟩
theorem lw_p20 : lw_okq (⟨"java/util/ArrayList", "grow", "(I)[Ljava/lang/Object;"⟩, 3) := ⟨⟨by decide +kernel, by decide +kernel⟩, List.mem_of_getElem? (i := 273) (by decide +kernel), List.mem_of_getElem? (i := 756) (by decide +kernel), List.mem_of_getElem? (i := 757) (by decide +kernel)⟩
theorem lw_p21 : lw_okq (⟨"Aquiferward", "requireWell", "(I)V"⟩, 4) := ⟨⟨by decide +kernel, by decide +kernel⟩, List.mem_of_getElem? (i := 41) (by decide +kernel), List.mem_of_getElem? (i := 879) (by decide +kernel), List.mem_of_getElem? (i := 880) (by decide +kernel)⟩
theorem lw_p22 : lw_okq (⟨"Aquiferward", "worldWithout", "(I)LAquiferward$World;"⟩, 4) := ⟨⟨by decide +kernel, by decide +kernel⟩, List.mem_of_getElem? (i := 41) (by decide +kernel), List.mem_of_getElem? (i := 1012) (by decide +kernel), List.mem_of_getElem? (i := 1013) (by decide +kernel)⟩
theorem lw_p23 : lw_okq (⟨"AquiferwardModel", "fails", "(I)Z"⟩, 3) := ⟨⟨by decide +kernel, by decide +kernel⟩, List.mem_of_getElem? (i := 1112) (by decide +kernel), List.mem_of_getElem? (i := 1219) (by decide +kernel), List.mem_of_getElem? (i := 1220) (by decide +kernel)⟩
theorem lw_p24 : lw_okq (⟨"AquiferwardModel", "act", "(IIIII)V"⟩, 3) := ⟨⟨by decide +kernel, by decide +kernel⟩, List.mem_of_getElem? (i := 1112) (by decide +kernel), List.mem_of_getElem? (i := 1223) (by decide +kernel), List.mem_of_getElem? (i := 1224) (by decide +kernel)⟩
theorem lw_p25 : lw_okq (⟨"java/util/ArrayList", "rangeCheckForAdd", "(I)V"⟩, 3) := ⟨⟨by decide +kernel, by decide +kernel⟩, List.mem_of_getElem? (i := 273) (by decide +kernel), List.mem_of_getElem? (i := 1323) (by decide +kernel), List.mem_of_getElem? (i := 1324) (by decide +kernel)⟩
theorem lw_p26 : lw_okq (⟨"java/util/ArrayList", "outOfBoundsMsg", "(I)Ljava/lang/String;"⟩, 3) := ⟨⟨by decide +kernel, by decide +kernel⟩, List.mem_of_getElem? (i := 273) (by decide +kernel), List.mem_of_getElem? (i := 1328) (by decide +kernel), List.mem_of_getElem? (i := 1329) (by decide +kernel)⟩
theorem lw_p27 : lw_okq (⟨"AquiferwardModel", "failsSet", "(IIZ)Z"⟩, 3) := ⟨⟨by decide +kernel, by decide +kernel⟩, List.mem_of_getElem? (i := 1112) (by decide +kernel), List.mem_of_getElem? (i := 1547) (by decide +kernel), List.mem_of_getElem? (i := 1548) (by decide +kernel)⟩
theorem lw_p28 : lw_okq (⟨"AquiferwardModel", "failsWell", "(I)Z"⟩, 3) := ⟨⟨by decide +kernel, by decide +kernel⟩, List.mem_of_getElem? (i := 1112) (by decide +kernel), List.mem_of_getElem? (i := 1584) (by decide +kernel), List.mem_of_getElem? (i := 1585) (by decide +kernel)⟩
theorem lw_p29 : lw_okq (⟨"AquiferwardModel", "isWell", "(I)Z"⟩, 3) := ⟨⟨by decide +kernel, by decide +kernel⟩, List.mem_of_getElem? (i := 1112) (by decide +kernel), List.mem_of_getElem? (i := 1588) (by decide +kernel), List.mem_of_getElem? (i := 1589) (by decide +kernel)⟩
theorem lw_p30 : lw_okq (⟨"AquiferwardModel", "failsCell", "(I)Z"⟩, 3) := ⟨⟨by decide +kernel, by decide +kernel⟩, List.mem_of_getElem? (i := 1112) (by decide +kernel), List.mem_of_getElem? (i := 1610) (by decide +kernel), List.mem_of_getElem? (i := 1611) (by decide +kernel)⟩
def lw_privs_2 : List (MethodName × Nat) := [(⟨"java/lang/Throwable", "fillInStackTrace", "(I)Ljava/lang/Throwable;"⟩, 6), (⟨"Aquiferward", "carryOut", "(LAquiferward$Call;)V"⟩, 4), (⟨"java/util/ArrayList", "add", "(Ljava/lang/Object;[Ljava/lang/Object;I)V"⟩, 3), (⟨"java/util/ArrayList", "grow", "()[Ljava/lang/Object;"⟩, 3), (⟨"java/util/ArrayList", "grow", "(I)[Ljava/lang/Object;"⟩, 3), (⟨"Aquiferward", "requireWell", "(I)V"⟩, 4), (⟨"Aquiferward", "worldWithout", "(I)LAquiferward$World;"⟩, 4), (⟨"AquiferwardModel", "fails", "(I)Z"⟩, 3), (⟨"AquiferwardModel", "act", "(IIIII)V"⟩, 3), (⟨"java/util/ArrayList", "rangeCheckForAdd", "(I)V"⟩, 3), (⟨"java/util/ArrayList", "outOfBoundsMsg", "(I)Ljava/lang/String;"⟩, 3), (⟨"AquiferwardModel", "failsSet", "(IIZ)Z"⟩, 3), (⟨"AquiferwardModel", "failsWell", "(I)Z"⟩, 3), (⟨"AquiferwardModel", "isWell", "(I)Z"⟩, 3), (⟨"AquiferwardModel", "failsCell", "(I)Z"⟩, 3)]
theorem lw_r2 : ∀ q ∈ lw_privs_2, lw_okq q := List.forall_mem_cons.mpr ⟨lw_p16, List.forall_mem_cons.mpr ⟨lw_p17, List.forall_mem_cons.mpr ⟨lw_p18, List.forall_mem_cons.mpr ⟨lw_p19, List.forall_mem_cons.mpr ⟨lw_p20, List.forall_mem_cons.mpr ⟨lw_p21, List.forall_mem_cons.mpr ⟨lw_p22, List.forall_mem_cons.mpr ⟨lw_p23, List.forall_mem_cons.mpr ⟨lw_p24, List.forall_mem_cons.mpr ⟨lw_p25, List.forall_mem_cons.mpr ⟨lw_p26, List.forall_mem_cons.mpr ⟨lw_p27, List.forall_mem_cons.mpr ⟨lw_p28, List.forall_mem_cons.mpr ⟨lw_p29, List.forall_mem_cons.mpr ⟨lw_p30, fun _ h => absurd h List.not_mem_nil⟩⟩⟩⟩⟩⟩⟩⟩⟩⟩⟩⟩⟩⟩⟩
def lw_privs : List (MethodName × Nat) := lw_privs_1 ++ (lw_privs_2)
def lw_tbl : List Cond := k2_sels lw_privs ++ tables_1
theorem lw_privs_ok : ∀ q ∈ lw_privs, lw_okq q := by
  show ∀ q ∈ lw_privs_1 ++ (lw_privs_2), lw_okq q
  exact List.forall_mem_append.mpr ⟨lw_r1, lw_r2⟩
/-- the streams that the claim lets the run draw from -/
abbrev lw_cs : List Choice := [Jvm.Choice.named "NaN.bits"]
theorem lw_bits : nanBits ∈ lw_cs := by first | decide | exact List.mem_cons_self | simp [lw_cs, nanBits]
-- ===== end of PART A; then your names; then what follows =====
end
section
def RX0 : String := "Aquiferward$Books"
def TX0 : u_T := fun k => match k with
  | _ => ("Aquiferward$Books", "sums", "[J", true)
def tyX0 : Nat → FieldType := fun k => match k with
  | _ => .array .long
abbrev wsX00 : List Cond := u_ws RX0 TX0 1
theorem nmX0 : ∀ a, a < 1 → ∀ b, b < 1 → a ≠ b → (TX0 a).2.1 ≠ (TX0 b).2.1 := by decide +kernel
theorem tyX0_ok : ∀ k, k < 1 → parseFieldDescriptor (TX0 k).2.2.1 = some (tyX0 k) := by decide +kernel
abbrev cX0_init : ByteArray := prog_2_method_1_code
def yX0_init : MethodName := ⟨RX0, "<init>", "()V"⟩
abbrev cX0_balanceWith : ByteArray := prog_2_method_2_code
def yX0_balanceWith : MethodName := ⟨RX0, "balanceWith", "(J)Z"⟩
def RX1 : String := "Aquiferward$Call"
def TX1 : u_T := fun k => match k with
  | 0 => ("Aquiferward$Call", "kind", "I", true)
  | 1 => ("Aquiferward$Call", "first", "I", true)
  | 2 => ("Aquiferward$Call", "second", "I", true)
  | 3 => ("Aquiferward$Call", "third", "I", true)
  | _ => ("Aquiferward$Call", "fourth", "I", true)
def tyX1 : Nat → FieldType := fun k => match k with
  | 0 => .int
  | 1 => .int
  | 2 => .int
  | 3 => .int
  | _ => .int
abbrev wsX10 : List Cond := u_ws RX1 TX1 5
theorem nmX1 : ∀ a, a < 5 → ∀ b, b < 5 → a ≠ b → (TX1 a).2.1 ≠ (TX1 b).2.1 := by decide +kernel
theorem tyX1_ok : ∀ k, k < 5 → parseFieldDescriptor (TX1 k).2.2.1 = some (tyX1 k) := by decide +kernel
abbrev cX1_init : ByteArray := prog_3_method_1_code
def yX1_init : MethodName := ⟨RX1, "<init>", "(IIIII)V"⟩
def RX2 : String := "Aquiferward$Cells"
def TX2 : u_T := fun k => match k with
  | 0 => ("Aquiferward$Cells", "bases", "[I", true)
  | 1 => ("Aquiferward$Cells", "storages", "[I", true)
  | 2 => ("Aquiferward$Cells", "water", "[I", true)
  | _ => ("Aquiferward$Cells", "salt", "[I", true)
def tyX2 : Nat → FieldType := fun k => match k with
  | 0 => .array .int
  | 1 => .array .int
  | 2 => .array .int
  | _ => .array .int
abbrev wsX20 : List Cond := u_ws RX2 TX2 4
theorem nmX2 : ∀ a, a < 4 → ∀ b, b < 4 → a ≠ b → (TX2 a).2.1 ≠ (TX2 b).2.1 := by decide +kernel
theorem tyX2_ok : ∀ k, k < 4 → parseFieldDescriptor (TX2 k).2.2.1 = some (tyX2 k) := by decide +kernel
abbrev cX2_init : ByteArray := prog_4_method_1_code
def yX2_init : MethodName := ⟨RX2, "<init>", "()V"⟩
abbrev cX2_height : ByteArray := prog_4_method_2_code
def yX2_height : MethodName := ⟨RX2, "height", "(I)I"⟩
abbrev cX2_takeOut : ByteArray := prog_4_method_3_code
def yX2_takeOut : MethodName := ⟨RX2, "takeOut", "(II)I"⟩
abbrev cX2_waterInAll : ByteArray := prog_4_method_4_code
def yX2_waterInAll : MethodName := ⟨RX2, "waterInAll", "()J"⟩
abbrev cX2_sameWater : ByteArray := prog_4_method_5_code
def yX2_sameWater : MethodName := ⟨RX2, "sameWater", "(LAquiferward$Cells;)Z"⟩
def RX3 : String := "Aquiferward$Land"
def TX3 : u_T := fun k => match k with
  | 0 => ("Aquiferward$Land", "grounds", "[I", true)
  | 1 => ("Aquiferward$Land", "conductances", "[I", true)
  | 2 => ("Aquiferward$Land", "leakages", "[I", true)
  | 3 => ("Aquiferward$Land", "rains", "[I", true)
  | 4 => ("Aquiferward$Land", "bedStages", "[I", true)
  | 5 => ("Aquiferward$Land", "bedStrengths", "[I", true)
  | 6 => ("Aquiferward$Land", "river", "I", false)
  | _ => ("Aquiferward$Land", "sea", "I", false)
def tyX3 : Nat → FieldType := fun k => match k with
  | 0 => .array .int
  | 1 => .array .int
  | 2 => .array .int
  | 3 => .array .int
  | 4 => .array .int
  | 5 => .array .int
  | 6 => .int
  | _ => .int
abbrev wsX30 : List Cond := u_ws RX3 TX3 8
theorem nmX3 : ∀ a, a < 8 → ∀ b, b < 8 → a ≠ b → (TX3 a).2.1 ≠ (TX3 b).2.1 := by decide +kernel
theorem tyX3_ok : ∀ k, k < 8 → parseFieldDescriptor (TX3 k).2.2.1 = some (tyX3 k) := by decide +kernel
abbrev cX3_init : ByteArray := prog_5_method_1_code
def yX3_init : MethodName := ⟨RX3, "<init>", "()V"⟩
def RX4 : String := "Aquiferward$Wells"
def TX4 : u_T := fun k => match k with
  | 0 => ("Aquiferward$Wells", "cells", "[I", true)
  | 1 => ("Aquiferward$Wells", "years", "[I", true)
  | 2 => ("Aquiferward$Wells", "amounts", "[I", true)
  | 3 => ("Aquiferward$Wells", "wishes", "[I", true)
  | 4 => ("Aquiferward$Wells", "thisYear", "[I", true)
  | 5 => ("Aquiferward$Wells", "inAll", "[J", true)
  | 6 => ("Aquiferward$Wells", "shut", "[Z", true)
  | 7 => ("Aquiferward$Wells", "idleYears", "[I", true)
  | 8 => ("Aquiferward$Wells", "givenThisYear", "[I", true)
  | 9 => ("Aquiferward$Wells", "oldestFirst", "[I", true)
  | _ => ("Aquiferward$Wells", "count", "I", false)
def tyX4 : Nat → FieldType := fun k => match k with
  | 0 => .array .int
  | 1 => .array .int
  | 2 => .array .int
  | 3 => .array .int
  | 4 => .array .int
  | 5 => .array .long
  | 6 => .array .boolean
  | 7 => .array .int
  | 8 => .array .int
  | 9 => .array .int
  | _ => .int
abbrev wsX40 : List Cond := u_ws RX4 TX4 11
theorem nmX4 : ∀ a, a < 11 → ∀ b, b < 11 → a ≠ b → (TX4 a).2.1 ≠ (TX4 b).2.1 := by decide +kernel
theorem tyX4_ok : ∀ k, k < 11 → parseFieldDescriptor (TX4 k).2.2.1 = some (tyX4 k) := by decide +kernel
abbrev cX4_init : ByteArray := prog_6_method_1_code
def yX4_init : MethodName := ⟨RX4, "<init>", "()V"⟩
abbrev cX4_add : ByteArray := prog_6_method_2_code
def yX4_add : MethodName := ⟨RX4, "add", "(III)V"⟩
abbrev cX4_canGive : ByteArray := prog_6_method_3_code
def yX4_canGive : MethodName := ⟨RX4, "canGive", "(III)Z"⟩
abbrev cX4_give : ByteArray := prog_6_method_4_code
def yX4_give : MethodName := ⟨RX4, "give", "(III)V"⟩
abbrev cX4_wanted : ByteArray := prog_6_method_5_code
def yX4_wanted : MethodName := ⟨RX4, "wanted", "(I)I"⟩
abbrev cX4_shutYounger : ByteArray := prog_6_method_6_code
def yX4_shutYounger : MethodName := ⟨RX4, "shutYounger", "(I)V"⟩
abbrev cX4_forfeits : ByteArray := prog_6_method_7_code
def yX4_forfeits : MethodName := ⟨RX4, "forfeits", "(I)Z"⟩
abbrev cX4_startYear : ByteArray := prog_6_method_8_code
def yX4_startYear : MethodName := ⟨RX4, "startYear", "(I)V"⟩
abbrev cX4_keptToAmounts : ByteArray := prog_6_method_9_code
def yX4_keptToAmounts : MethodName := ⟨RX4, "keptToAmounts", "()Z"⟩
def RX5 : String := "Aquiferward$World"
def TX5 : u_T := fun k => match k with
  | 0 => ("Aquiferward$World", "cells", "LAquiferward$Cells;", true)
  | 1 => ("Aquiferward$World", "land", "LAquiferward$Land;", true)
  | 2 => ("Aquiferward$World", "wells", "LAquiferward$Wells;", true)
  | 3 => ("Aquiferward$World", "books", "LAquiferward$Books;", true)
  | 4 => ("Aquiferward$World", "events", "Ljava/lang/StringBuilder;", true)
  | 5 => ("Aquiferward$World", "heights", "[I", true)
  | 6 => ("Aquiferward$World", "waterIn", "[I", true)
  | 7 => ("Aquiferward$World", "saltIn", "[I", true)
  | 8 => ("Aquiferward$World", "leftOut", "I", true)
  | 9 => ("Aquiferward$World", "keepsEvents", "Z", true)
  | 10 => ("Aquiferward$World", "month", "I", false)
  | _ => ("Aquiferward$World", "followed", "I", false)
def tyX5 : Nat → FieldType := fun k => match k with
  | 0 => .object "Aquiferward$Cells"
  | 1 => .object "Aquiferward$Land"
  | 2 => .object "Aquiferward$Wells"
  | 3 => .object "Aquiferward$Books"
  | 4 => .object "java/lang/StringBuilder"
  | 5 => .array .int
  | 6 => .array .int
  | 7 => .array .int
  | 8 => .int
  | 9 => .boolean
  | 10 => .int
  | _ => .int
abbrev wsX50 : List Cond := u_ws RX5 TX5 12
theorem nmX5 : ∀ a, a < 12 → ∀ b, b < 12 → a ≠ b → (TX5 a).2.1 ≠ (TX5 b).2.1 := by decide +kernel
theorem tyX5_ok : ∀ k, k < 12 → parseFieldDescriptor (TX5 k).2.2.1 = some (tyX5 k) := by decide +kernel
abbrev cX5_init : ByteArray := prog_7_method_1_code
def yX5_init : MethodName := ⟨RX5, "<init>", "(IZ)V"⟩
abbrev cX5_followDiary : ByteArray := prog_7_method_2_code
def yX5_followDiary : MethodName := ⟨RX5, "followDiary", "(Ljava/util/ArrayList;)V"⟩
abbrev cX5_follow : ByteArray := prog_7_method_3_code
def yX5_follow : MethodName := ⟨RX5, "follow", "(LAquiferward$Call;)V"⟩
abbrev cX5_followTransfer : ByteArray := prog_7_method_4_code
def yX5_followTransfer : MethodName := ⟨RX5, "followTransfer", "(III)V"⟩
abbrev cX5_fillCell : ByteArray := prog_7_method_5_code
def yX5_fillCell : MethodName := ⟨RX5, "fillCell", "(IIII)V"⟩
abbrev cX5_letMonthsPass : ByteArray := prog_7_method_6_code
def yX5_letMonthsPass : MethodName := ⟨RX5, "letMonthsPass", "(I)V"⟩
abbrev cX5_note : ByteArray := prog_7_method_7_code
def yX5_note : MethodName := ⟨RX5, "note", "(C)V"⟩
abbrev cX5_letRainFall : ByteArray := prog_7_method_8_code
def yX5_letRainFall : MethodName := ⟨RX5, "letRainFall", "()V"⟩
abbrev cX5_pumpWells : ByteArray := prog_7_method_9_code
def yX5_pumpWells : MethodName := ⟨RX5, "pumpWells", "()V"⟩
abbrev cX5_pumpWell : ByteArray := prog_7_method_10_code
def yX5_pumpWell : MethodName := ⟨RX5, "pumpWell", "(I)V"⟩
abbrev cX5_letWaterFlow : ByteArray := prog_7_method_11_code
def yX5_letWaterFlow : MethodName := ⟨RX5, "letWaterFlow", "()V"⟩
abbrev cX5_flow : ByteArray := prog_7_method_12_code
def yX5_flow : MethodName := ⟨RX5, "flow", "(III)V"⟩
abbrev cX5_letRiverRun : ByteArray := prog_7_method_13_code
def yX5_letRiverRun : MethodName := ⟨RX5, "letRiverRun", "()V"⟩
abbrev cX5_runThroughBed : ByteArray := prog_7_method_14_code
def yX5_runThroughBed : MethodName := ⟨RX5, "runThroughBed", "(II)I"⟩
abbrev cX5_letSpringsRun : ByteArray := prog_7_method_15_code
def yX5_letSpringsRun : MethodName := ⟨RX5, "letSpringsRun", "()V"⟩
abbrev cX5_letSpringRun : ByteArray := prog_7_method_16_code
def yX5_letSpringRun : MethodName := ⟨RX5, "letSpringRun", "(I)V"⟩
abbrev cX5_meetSea : ByteArray := prog_7_method_17_code
def yX5_meetSea : MethodName := ⟨RX5, "meetSea", "(I)V"⟩
abbrev cX5_endMonth : ByteArray := prog_7_method_18_code
def yX5_endMonth : MethodName := ⟨RX5, "endMonth", "()V"⟩
abbrev cX5_endYear : ByteArray := prog_7_method_19_code
def yX5_endYear : MethodName := ⟨RX5, "endYear", "()V"⟩
def RX6 : String := "Aquiferward"
def TX6 : u_T := fun k => match k with
  | 0 => ("Aquiferward", "world", "LAquiferward$World;", true)
  | 1 => ("Aquiferward", "again", "LAquiferward$World;", true)
  | 2 => ("Aquiferward", "without", "[LAquiferward$World;", true)
  | _ => ("Aquiferward", "diary", "Ljava/util/ArrayList;", true)
def tyX6 : Nat → FieldType := fun k => match k with
  | 0 => .object "Aquiferward$World"
  | 1 => .object "Aquiferward$World"
  | 2 => .array (.object "Aquiferward$World")
  | _ => .object "java/util/ArrayList"
abbrev wsX60 : List Cond := u_ws RX6 TX6 4
theorem nmX6 : ∀ a, a < 4 → ∀ b, b < 4 → a ≠ b → (TX6 a).2.1 ≠ (TX6 b).2.1 := by decide +kernel
theorem tyX6_ok : ∀ k, k < 4 → parseFieldDescriptor (TX6 k).2.2.1 = some (tyX6 k) := by decide +kernel
abbrev cX6_init : ByteArray := prog_1_method_1_code
def yX6_init : MethodName := ⟨RX6, "<init>", "()V"⟩
abbrev cX6_setCell : ByteArray := prog_1_method_2_code
def yX6_setCell : MethodName := ⟨RX6, "setCell", "(IIII)I"⟩
abbrev cX6_setGround : ByteArray := prog_1_method_3_code
def yX6_setGround : MethodName := ⟨RX6, "setGround", "(II)I"⟩
abbrev cX6_setConductance : ByteArray := prog_1_method_4_code
def yX6_setConductance : MethodName := ⟨RX6, "setConductance", "(II)I"⟩
abbrev cX6_setLeakage : ByteArray := prog_1_method_5_code
def yX6_setLeakage : MethodName := ⟨RX6, "setLeakage", "(II)I"⟩
abbrev cX6_setRain : ByteArray := prog_1_method_6_code
def yX6_setRain : MethodName := ⟨RX6, "setRain", "(II)I"⟩
abbrev cX6_setBed : ByteArray := prog_1_method_7_code
def yX6_setBed : MethodName := ⟨RX6, "setBed", "(III)I"⟩
abbrev cX6_setRiver : ByteArray := prog_1_method_8_code
def yX6_setRiver : MethodName := ⟨RX6, "setRiver", "(I)I"⟩
abbrev cX6_setSea : ByteArray := prog_1_method_9_code
def yX6_setSea : MethodName := ⟨RX6, "setSea", "(I)I"⟩
abbrev cX6_addWell : ByteArray := prog_1_method_10_code
def yX6_addWell : MethodName := ⟨RX6, "addWell", "(III)I"⟩
abbrev cX6_setWish : ByteArray := prog_1_method_11_code
def yX6_setWish : MethodName := ⟨RX6, "setWish", "(II)I"⟩
abbrev cX6_transfer : ByteArray := prog_1_method_12_code
def yX6_transfer : MethodName := ⟨RX6, "transfer", "(III)I"⟩
abbrev cX6_pass : ByteArray := prog_1_method_13_code
def yX6_pass : MethodName := ⟨RX6, "pass", "(I)I"⟩
abbrev cX6_level : ByteArray := prog_1_method_14_code
def yX6_level : MethodName := ⟨RX6, "level", "(I)I"⟩
abbrev cX6_water : ByteArray := prog_1_method_15_code
def yX6_water : MethodName := ⟨RX6, "water", "(I)I"⟩
abbrev cX6_salt : ByteArray := prog_1_method_16_code
def yX6_salt : MethodName := ⟨RX6, "salt", "(I)I"⟩
abbrev cX6_amount : ByteArray := prog_1_method_17_code
def yX6_amount : MethodName := ⟨RX6, "amount", "(I)I"⟩
abbrev cX6_yearly : ByteArray := prog_1_method_18_code
def yX6_yearly : MethodName := ⟨RX6, "yearly", "(I)I"⟩
abbrev cX6_pumped : ByteArray := prog_1_method_19_code
def yX6_pumped : MethodName := ⟨RX6, "pumped", "(I)J"⟩
abbrev cX6_isShut : ByteArray := prog_1_method_20_code
def yX6_isShut : MethodName := ⟨RX6, "isShut", "(I)Z"⟩
abbrev cX6_byAge : ByteArray := prog_1_method_21_code
def yX6_byAge : MethodName := ⟨RX6, "byAge", "(I)I"⟩
abbrev cX6_pumpedWithout : ByteArray := prog_1_method_22_code
def yX6_pumpedWithout : MethodName := ⟨RX6, "pumpedWithout", "(II)J"⟩
abbrev cX6_events : ByteArray := prog_1_method_23_code
def yX6_events : MethodName := ⟨RX6, "events", "()I"⟩
abbrev cX6_eventAt : ByteArray := prog_1_method_24_code
def yX6_eventAt : MethodName := ⟨RX6, "eventAt", "(I)C"⟩
abbrev cX6_account : ByteArray := prog_1_method_25_code
def yX6_account : MethodName := ⟨RX6, "account", "(C)J"⟩
abbrev cX6_checksum : ByteArray := prog_1_method_26_code
def yX6_checksum : MethodName := ⟨RX6, "checksum", "()J"⟩
abbrev cX6_dryShare : ByteArray := prog_1_method_27_code
def yX6_dryShare : MethodName := ⟨RX6, "dryShare", "()F"⟩
abbrev cX6_meanLevel : ByteArray := prog_1_method_28_code
def yX6_meanLevel : MethodName := ⟨RX6, "meanLevel", "()D"⟩
abbrev cX6_isSound : ByteArray := prog_1_method_29_code
def yX6_isSound : MethodName := ⟨RX6, "isSound", "()Z"⟩
abbrev cX6_requireWell : ByteArray := prog_1_method_30_code
def yX6_requireWell : MethodName := ⟨RX6, "requireWell", "(I)V"⟩
abbrev cX6_requireIndex : ByteArray := prog_1_method_31_code
def yX6_requireIndex : MethodName := ⟨RX6, "requireIndex", "(II)V"⟩
abbrev cX6_requireRange : ByteArray := prog_1_method_32_code
def yX6_requireRange : MethodName := ⟨RX6, "requireRange", "(III)V"⟩
abbrev cX6_carryOut : ByteArray := prog_1_method_33_code
def yX6_carryOut : MethodName := ⟨RX6, "carryOut", "(LAquiferward$Call;)V"⟩
abbrev cX6_worldWithout : ByteArray := prog_1_method_34_code
def yX6_worldWithout : MethodName := ⟨RX6, "worldWithout", "(I)LAquiferward$World;"⟩
def RX7 : String := "AquiferwardModel$Land"
def TX7 : u_T := fun k => match k with
  | 0 => ("AquiferwardModel$Land", "base", "[I", true)
  | 1 => ("AquiferwardModel$Land", "storage", "[I", true)
  | 2 => ("AquiferwardModel$Land", "water", "[I", true)
  | 3 => ("AquiferwardModel$Land", "salt", "[I", true)
  | 4 => ("AquiferwardModel$Land", "ground", "[I", true)
  | 5 => ("AquiferwardModel$Land", "conductance", "[I", true)
  | 6 => ("AquiferwardModel$Land", "leakage", "[I", true)
  | 7 => ("AquiferwardModel$Land", "rain", "[I", true)
  | 8 => ("AquiferwardModel$Land", "stage", "[I", true)
  | 9 => ("AquiferwardModel$Land", "bed", "[I", true)
  | 10 => ("AquiferwardModel$Land", "comes", "[I", true)
  | 11 => ("AquiferwardModel$Land", "comesSalt", "[I", true)
  | 12 => ("AquiferwardModel$Land", "river", "I", false)
  | 13 => ("AquiferwardModel$Land", "sea", "I", false)
  | 14 => ("AquiferwardModel$Land", "month", "I", false)
  | 15 => ("AquiferwardModel$Land", "wells", "Ljava/util/ArrayList;", true)
  | 16 => ("AquiferwardModel$Land", "events", "Ljava/lang/StringBuilder;", true)
  | _ => ("AquiferwardModel$Land", "accounts", "[J", true)
def tyX7 : Nat → FieldType := fun k => match k with
  | 0 => .array .int
  | 1 => .array .int
  | 2 => .array .int
  | 3 => .array .int
  | 4 => .array .int
  | 5 => .array .int
  | 6 => .array .int
  | 7 => .array .int
  | 8 => .array .int
  | 9 => .array .int
  | 10 => .array .int
  | 11 => .array .int
  | 12 => .int
  | 13 => .int
  | 14 => .int
  | 15 => .object "java/util/ArrayList"
  | 16 => .object "java/lang/StringBuilder"
  | _ => .array .long
abbrev wsX70 : List Cond := u_ws RX7 TX7 18
theorem nmX7 : ∀ a, a < 18 → ∀ b, b < 18 → a ≠ b → (TX7 a).2.1 ≠ (TX7 b).2.1 := by decide +kernel
theorem tyX7_ok : ∀ k, k < 18 → parseFieldDescriptor (TX7 k).2.2.1 = some (tyX7 k) := by decide +kernel
abbrev cX7_init : ByteArray := prog_10_method_1_code
def yX7_init : MethodName := ⟨RX7, "<init>", "()V"⟩
abbrev cX7_level : ByteArray := prog_10_method_2_code
def yX7_level : MethodName := ⟨RX7, "level", "(I)I"⟩
abbrev cX7_count : ByteArray := prog_10_method_3_code
def yX7_count : MethodName := ⟨RX7, "count", "(CI)V"⟩
abbrev cX7_takes : ByteArray := prog_10_method_4_code
def yX7_takes : MethodName := ⟨RX7, "takes", "(II)I"⟩
abbrev cX7_byAge : ByteArray := prog_10_method_5_code
def yX7_byAge : MethodName := ⟨RX7, "byAge", "()Ljava/util/ArrayList;"⟩
abbrev cX7_pump : ByteArray := prog_10_method_6_code
def yX7_pump : MethodName := ⟨RX7, "pump", "()V"⟩
abbrev cX7_flow : ByteArray := prog_10_method_7_code
def yX7_flow : MethodName := ⟨RX7, "flow", "([III)I"⟩
abbrev cX7_goes : ByteArray := prog_10_method_8_code
def yX7_goes : MethodName := ⟨RX7, "goes", "([III)V"⟩
abbrev cX7_flowAll : ByteArray := prog_10_method_9_code
def yX7_flowAll : MethodName := ⟨RX7, "flowAll", "()V"⟩
abbrev cX7_runRiver : ByteArray := prog_10_method_10_code
def yX7_runRiver : MethodName := ⟨RX7, "runRiver", "()V"⟩
abbrev cX7_spring : ByteArray := prog_10_method_11_code
def yX7_spring : MethodName := ⟨RX7, "spring", "()V"⟩
abbrev cX7_meetSea : ByteArray := prog_10_method_12_code
def yX7_meetSea : MethodName := ⟨RX7, "meetSea", "()V"⟩
abbrev cX7_endYear : ByteArray := prog_10_method_13_code
def yX7_endYear : MethodName := ⟨RX7, "endYear", "()V"⟩
abbrev cX7_pass : ByteArray := prog_10_method_14_code
def yX7_pass : MethodName := ⟨RX7, "pass", "()V"⟩
abbrev cX7_canTransfer : ByteArray := prog_10_method_15_code
def yX7_canTransfer : MethodName := ⟨RX7, "canTransfer", "(III)Z"⟩
abbrev cX7_does : ByteArray := prog_10_method_16_code
def yX7_does : MethodName := ⟨RX7, "does", "([I)V"⟩
def RX8 : String := "AquiferwardModel$Well"
def TX8 : u_T := fun k => match k with
  | 0 => ("AquiferwardModel$Well", "cell", "I", true)
  | 1 => ("AquiferwardModel$Well", "year", "I", true)
  | 2 => ("AquiferwardModel$Well", "amount", "I", false)
  | 3 => ("AquiferwardModel$Well", "wish", "I", false)
  | 4 => ("AquiferwardModel$Well", "yearly", "I", false)
  | 5 => ("AquiferwardModel$Well", "pumped", "J", false)
  | 6 => ("AquiferwardModel$Well", "isShut", "Z", false)
  | 7 => ("AquiferwardModel$Well", "idle", "I", false)
  | _ => ("AquiferwardModel$Well", "isOut", "Z", false)
def tyX8 : Nat → FieldType := fun k => match k with
  | 0 => .int
  | 1 => .int
  | 2 => .int
  | 3 => .int
  | 4 => .int
  | 5 => .long
  | 6 => .boolean
  | 7 => .int
  | _ => .boolean
abbrev wsX80 : List Cond := u_ws RX8 TX8 9
theorem nmX8 : ∀ a, a < 9 → ∀ b, b < 9 → a ≠ b → (TX8 a).2.1 ≠ (TX8 b).2.1 := by decide +kernel
theorem tyX8_ok : ∀ k, k < 9 → parseFieldDescriptor (TX8 k).2.2.1 = some (tyX8 k) := by decide +kernel
abbrev cX8_init : ByteArray := prog_11_method_1_code
def yX8_init : MethodName := ⟨RX8, "<init>", "(III)V"⟩
def RX9 : String := "AquiferwardModel"
def TX9 : u_T := fun k => match k with
  | 0 => ("AquiferwardModel", "thrown", "I", false)
  | 1 => ("AquiferwardModel", "land", "LAquiferwardModel$Land;", true)
  | _ => ("AquiferwardModel", "acts", "Ljava/util/ArrayList;", true)
def tyX9 : Nat → FieldType := fun k => match k with
  | 0 => .int
  | 1 => .object "AquiferwardModel$Land"
  | _ => .object "java/util/ArrayList"
abbrev wsX90 : List Cond := u_ws RX9 TX9 3
theorem nmX9 : ∀ a, a < 3 → ∀ b, b < 3 → a ≠ b → (TX9 a).2.1 ≠ (TX9 b).2.1 := by decide +kernel
theorem tyX9_ok : ∀ k, k < 3 → parseFieldDescriptor (TX9 k).2.2.1 = some (tyX9 k) := by decide +kernel
abbrev cX9_init : ByteArray := prog_9_method_1_code
def yX9_init : MethodName := ⟨RX9, "<init>", "()V"⟩
abbrev cX9_thrown : ByteArray := prog_9_method_2_code
def yX9_thrown : MethodName := ⟨RX9, "thrown", "()I"⟩
abbrev cX9_fails : ByteArray := prog_9_method_3_code
def yX9_fails : MethodName := ⟨RX9, "fails", "(I)Z"⟩
abbrev cX9_in : ByteArray := prog_9_method_4_code
def yX9_in : MethodName := ⟨RX9, "in", "(III)Z"⟩
abbrev cX9_act : ByteArray := prog_9_method_5_code
def yX9_act : MethodName := ⟨RX9, "act", "(IIIII)V"⟩
abbrev cX9_setCell : ByteArray := prog_9_method_6_code
def yX9_setCell : MethodName := ⟨RX9, "setCell", "(IIII)I"⟩
abbrev cX9_failsSet : ByteArray := prog_9_method_7_code
def yX9_failsSet : MethodName := ⟨RX9, "failsSet", "(IIZ)Z"⟩
abbrev cX9_setGround : ByteArray := prog_9_method_8_code
def yX9_setGround : MethodName := ⟨RX9, "setGround", "(II)I"⟩
abbrev cX9_setConductance : ByteArray := prog_9_method_9_code
def yX9_setConductance : MethodName := ⟨RX9, "setConductance", "(II)I"⟩
abbrev cX9_setLeakage : ByteArray := prog_9_method_10_code
def yX9_setLeakage : MethodName := ⟨RX9, "setLeakage", "(II)I"⟩
abbrev cX9_setRain : ByteArray := prog_9_method_11_code
def yX9_setRain : MethodName := ⟨RX9, "setRain", "(II)I"⟩
abbrev cX9_setBed : ByteArray := prog_9_method_12_code
def yX9_setBed : MethodName := ⟨RX9, "setBed", "(III)I"⟩
abbrev cX9_setRiver : ByteArray := prog_9_method_13_code
def yX9_setRiver : MethodName := ⟨RX9, "setRiver", "(I)I"⟩
abbrev cX9_setSea : ByteArray := prog_9_method_14_code
def yX9_setSea : MethodName := ⟨RX9, "setSea", "(I)I"⟩
abbrev cX9_addWell : ByteArray := prog_9_method_15_code
def yX9_addWell : MethodName := ⟨RX9, "addWell", "(III)I"⟩
abbrev cX9_isWell : ByteArray := prog_9_method_16_code
def yX9_isWell : MethodName := ⟨RX9, "isWell", "(I)Z"⟩
abbrev cX9_failsWell : ByteArray := prog_9_method_17_code
def yX9_failsWell : MethodName := ⟨RX9, "failsWell", "(I)Z"⟩
abbrev cX9_setWish : ByteArray := prog_9_method_18_code
def yX9_setWish : MethodName := ⟨RX9, "setWish", "(II)I"⟩
abbrev cX9_transfer : ByteArray := prog_9_method_19_code
def yX9_transfer : MethodName := ⟨RX9, "transfer", "(III)I"⟩
abbrev cX9_pass : ByteArray := prog_9_method_20_code
def yX9_pass : MethodName := ⟨RX9, "pass", "(I)I"⟩
abbrev cX9_failsCell : ByteArray := prog_9_method_21_code
def yX9_failsCell : MethodName := ⟨RX9, "failsCell", "(I)Z"⟩
abbrev cX9_level : ByteArray := prog_9_method_22_code
def yX9_level : MethodName := ⟨RX9, "level", "(I)I"⟩
abbrev cX9_water : ByteArray := prog_9_method_23_code
def yX9_water : MethodName := ⟨RX9, "water", "(I)I"⟩
abbrev cX9_salt : ByteArray := prog_9_method_24_code
def yX9_salt : MethodName := ⟨RX9, "salt", "(I)I"⟩
abbrev cX9_amount : ByteArray := prog_9_method_25_code
def yX9_amount : MethodName := ⟨RX9, "amount", "(I)I"⟩
abbrev cX9_yearly : ByteArray := prog_9_method_26_code
def yX9_yearly : MethodName := ⟨RX9, "yearly", "(I)I"⟩
abbrev cX9_pumped : ByteArray := prog_9_method_27_code
def yX9_pumped : MethodName := ⟨RX9, "pumped", "(I)J"⟩
abbrev cX9_isShut : ByteArray := prog_9_method_28_code
def yX9_isShut : MethodName := ⟨RX9, "isShut", "(I)Z"⟩
abbrev cX9_byAge : ByteArray := prog_9_method_29_code
def yX9_byAge : MethodName := ⟨RX9, "byAge", "(I)I"⟩
abbrev cX9_pumpedWithout : ByteArray := prog_9_method_30_code
def yX9_pumpedWithout : MethodName := ⟨RX9, "pumpedWithout", "(II)J"⟩
abbrev cX9_events : ByteArray := prog_9_method_31_code
def yX9_events : MethodName := ⟨RX9, "events", "()I"⟩
abbrev cX9_eventAt : ByteArray := prog_9_method_32_code
def yX9_eventAt : MethodName := ⟨RX9, "eventAt", "(I)C"⟩
abbrev cX9_account : ByteArray := prog_9_method_33_code
def yX9_account : MethodName := ⟨RX9, "account", "(C)J"⟩
abbrev cX9_checksum : ByteArray := prog_9_method_34_code
def yX9_checksum : MethodName := ⟨RX9, "checksum", "()J"⟩
abbrev cX9_dryShare : ByteArray := prog_9_method_35_code
def yX9_dryShare : MethodName := ⟨RX9, "dryShare", "()F"⟩
abbrev cX9_meanLevel : ByteArray := prog_9_method_36_code
def yX9_meanLevel : MethodName := ⟨RX9, "meanLevel", "()D"⟩
abbrev cX9_isSound : ByteArray := prog_9_method_37_code
def yX9_isSound : MethodName := ⟨RX9, "isSound", "()Z"⟩
def RJx145de : String := "java/io/Serializable"
def TJx145de : u_T := fun k => match k with
  | _ => ("", "", "", false)
def tyJx145de : Nat → FieldType := fun k => match k with
  | _ => .int
abbrev wsJx145de0 : List Cond := u_ws RJx145de TJx145de 0
theorem nmJx145de : ∀ a, a < 0 → ∀ b, b < 0 → a ≠ b → (TJx145de a).2.1 ≠ (TJx145de b).2.1 := by decide +kernel
theorem tyJx145de_ok : ∀ k, k < 0 → parseFieldDescriptor (TJx145de k).2.2.1 = some (tyJx145de k) := by decide +kernel
def RJ5 : String := "java/lang/AbstractStringBuilder"
def TJ5 : u_T := fun k => match k with
  | _ => ("", "", "", false)
def tyJ5 : Nat → FieldType := fun k => match k with
  | _ => .int
abbrev wsJ50 : List Cond := u_ws RJ5 TJ5 0
theorem nmJ5 : ∀ a, a < 0 → ∀ b, b < 0 → a ≠ b → (TJ5 a).2.1 ≠ (TJ5 b).2.1 := by decide +kernel
theorem tyJ5_ok : ∀ k, k < 0 → parseFieldDescriptor (TJ5 k).2.2.1 = some (tyJ5 k) := by decide +kernel
abbrev cJ5_init_d00df : ByteArray := prog_13_method_2_code
def yJ5_init_d00df : MethodName := ⟨RJ5, "<init>", "(I)V"⟩
abbrev cJ5_length_8abf5 : ByteArray := prog_13_method_6_code
def yJ5_length_8abf5 : MethodName := ⟨RJ5, "length", "()I"⟩
abbrev cJ5_ensureCapacityInternal_d00df : ByteArray := prog_13_method_9_code
def yJ5_ensureCapacityInternal_d00df : MethodName := ⟨RJ5, "ensureCapacityInternal", "(I)V"⟩
abbrev cJ5_newCapacity_0f7a4 : ByteArray := prog_13_method_10_code
def yJ5_newCapacity_0f7a4 : MethodName := ⟨RJ5, "newCapacity", "(I)I"⟩
abbrev cJ5_inflate_da8c8 : ByteArray := prog_13_method_11_code
def yJ5_inflate_da8c8 : MethodName := ⟨RJ5, "inflate", "()V"⟩
abbrev cJ5_charAt_5068e : ByteArray := prog_13_method_14_code
def yJ5_charAt_5068e : MethodName := ⟨RJ5, "charAt", "(I)C"⟩
abbrev cJ5_append_cf1ce : ByteArray := prog_13_method_22_code
def yJ5_append_cf1ce : MethodName := ⟨RJ5, "append", "(Ljava/lang/String;)Ljava/lang/AbstractStringBuilder;"⟩
abbrev cJ5_appendNull_278bc : ByteArray := prog_13_method_26_code
def yJ5_appendNull_278bc : MethodName := ⟨RJ5, "appendNull", "()Ljava/lang/AbstractStringBuilder;"⟩
abbrev cJ5_append_3fe6f : ByteArray := prog_13_method_31_code
def yJ5_append_3fe6f : MethodName := ⟨RJ5, "append", "(C)Ljava/lang/AbstractStringBuilder;"⟩
abbrev cJ5_append_c97b9 : ByteArray := prog_13_method_32_code
def yJ5_append_c97b9 : MethodName := ⟨RJ5, "append", "(I)Ljava/lang/AbstractStringBuilder;"⟩
abbrev cJ5_getValue_6d5f1 : ByteArray := prog_13_method_64_code
def yJ5_getValue_6d5f1 : MethodName := ⟨RJ5, "getValue", "()[B"⟩
abbrev cJ5_isLatin1_aae02 : ByteArray := prog_13_method_68_code
def yJ5_isLatin1_aae02 : MethodName := ⟨RJ5, "isLatin1", "()Z"⟩
abbrev cJ5_inflateIfNeededFor_a7421 : ByteArray := prog_13_method_71_code
def yJ5_inflateIfNeededFor_a7421 : MethodName := ⟨RJ5, "inflateIfNeededFor", "(Ljava/lang/String;)V"⟩
abbrev cJ5_putStringAt_47b60 : ByteArray := prog_13_method_73_code
def yJ5_putStringAt_47b60 : MethodName := ⟨RJ5, "putStringAt", "(ILjava/lang/String;)V"⟩
def RJx2cfe8 : String := "java/lang/Appendable"
def TJx2cfe8 : u_T := fun k => match k with
  | _ => ("", "", "", false)
def tyJx2cfe8 : Nat → FieldType := fun k => match k with
  | _ => .int
abbrev wsJx2cfe80 : List Cond := u_ws RJx2cfe8 TJx2cfe8 0
theorem nmJx2cfe8 : ∀ a, a < 0 → ∀ b, b < 0 → a ≠ b → (TJx2cfe8 a).2.1 ≠ (TJx2cfe8 b).2.1 := by decide +kernel
theorem tyJx2cfe8_ok : ∀ k, k < 0 → parseFieldDescriptor (TJx2cfe8 k).2.2.1 = some (tyJx2cfe8 k) := by decide +kernel
def RJx00060 : String := "java/lang/ArrayIndexOutOfBoundsException"
def TJx00060 : u_T := fun k => match k with
  | 0 => ("java/lang/Throwable", "backtrace", "Ljava/lang/Object;", false)
  | 1 => ("java/lang/Throwable", "detailMessage", "Ljava/lang/String;", false)
  | 2 => ("java/lang/Throwable", "cause", "Ljava/lang/Throwable;", false)
  | 3 => ("java/lang/Throwable", "stackTrace", "[Ljava/lang/StackTraceElement;", false)
  | 4 => ("java/lang/Throwable", "depth", "I", false)
  | _ => ("java/lang/Throwable", "suppressedExceptions", "Ljava/util/List;", false)
def tyJx00060 : Nat → FieldType := fun k => match k with
  | 0 => .object "java/lang/Object"
  | 1 => .object "java/lang/String"
  | 2 => .object "java/lang/Throwable"
  | 3 => .array (.object "java/lang/StackTraceElement")
  | 4 => .int
  | _ => .object "java/util/List"
abbrev wsJx000600 : List Cond := u_ws RJx00060 TJx00060 6
theorem nmJx00060 : ∀ a, a < 6 → ∀ b, b < 6 → a ≠ b → (TJx00060 a).2.1 ≠ (TJx00060 b).2.1 := by decide +kernel
theorem tyJx00060_ok : ∀ k, k < 6 → parseFieldDescriptor (TJx00060 k).2.2.1 = some (tyJx00060 k) := by decide +kernel
abbrev cJx00060_init_a7421 : ByteArray := prog_16_method_2_code
def yJx00060_init_a7421 : MethodName := ⟨RJx00060, "<init>", "(Ljava/lang/String;)V"⟩
def RJx9f9b0 : String := "java/lang/CharSequence"
def TJx9f9b0 : u_T := fun k => match k with
  | _ => ("", "", "", false)
def tyJx9f9b0 : Nat → FieldType := fun k => match k with
  | _ => .int
abbrev wsJx9f9b00 : List Cond := u_ws RJx9f9b0 TJx9f9b0 0
theorem nmJx9f9b0 : ∀ a, a < 0 → ∀ b, b < 0 → a ≠ b → (TJx9f9b0 a).2.1 ≠ (TJx9f9b0 b).2.1 := by decide +kernel
theorem tyJx9f9b0_ok : ∀ k, k < 0 → parseFieldDescriptor (TJx9f9b0 k).2.2.1 = some (tyJx9f9b0 k) := by decide +kernel
def RJ11 : String := "java/lang/Character"
def TJ11 : u_T := fun k => match k with
  | _ => ("", "", "", false)
def tyJ11 : Nat → FieldType := fun k => match k with
  | _ => .int
abbrev wsJ110 : List Cond := u_ws RJ11 TJ11 0
theorem nmJ11 : ∀ a, a < 0 → ∀ b, b < 0 → a ≠ b → (TJ11 a).2.1 ≠ (TJ11 b).2.1 := by decide +kernel
theorem tyJ11_ok : ∀ k, k < 0 → parseFieldDescriptor (TJ11 k).2.2.1 = some (tyJ11 k) := by decide +kernel
abbrev cJ11_isValidCodePoint_9a6ad : ByteArray := prog_18_method_11_code
def yJ11_isValidCodePoint_9a6ad : MethodName := ⟨RJ11, "isValidCodePoint", "(I)Z"⟩
abbrev cJ11_highSurrogate_5068e : ByteArray := prog_18_method_28_code
def yJ11_highSurrogate_5068e : MethodName := ⟨RJ11, "highSurrogate", "(I)C"⟩
abbrev cJ11_lowSurrogate_5068e : ByteArray := prog_18_method_29_code
def yJ11_lowSurrogate_5068e : MethodName := ⟨RJ11, "lowSurrogate", "(I)C"⟩
def RJx8e188 : String := "java/lang/Cloneable"
def TJx8e188 : u_T := fun k => match k with
  | _ => ("", "", "", false)
def tyJx8e188 : Nat → FieldType := fun k => match k with
  | _ => .int
abbrev wsJx8e1880 : List Cond := u_ws RJx8e188 TJx8e188 0
theorem nmJx8e188 : ∀ a, a < 0 → ∀ b, b < 0 → a ≠ b → (TJx8e188 a).2.1 ≠ (TJx8e188 b).2.1 := by decide +kernel
theorem tyJx8e188_ok : ∀ k, k < 0 → parseFieldDescriptor (TJx8e188 k).2.2.1 = some (tyJx8e188 k) := by decide +kernel
def RJxb160c : String := "java/lang/Comparable"
def TJxb160c : u_T := fun k => match k with
  | _ => ("", "", "", false)
def tyJxb160c : Nat → FieldType := fun k => match k with
  | _ => .int
abbrev wsJxb160c0 : List Cond := u_ws RJxb160c TJxb160c 0
theorem nmJxb160c : ∀ a, a < 0 → ∀ b, b < 0 → a ≠ b → (TJxb160c a).2.1 ≠ (TJxb160c b).2.1 := by decide +kernel
theorem tyJxb160c_ok : ∀ k, k < 0 → parseFieldDescriptor (TJxb160c k).2.2.1 = some (tyJxb160c k) := by decide +kernel
def RJxabbfe : String := "java/lang/Integer$IntegerCache"
def TJxabbfe : u_T := fun k => match k with
  | _ => ("", "", "", false)
def tyJxabbfe : Nat → FieldType := fun k => match k with
  | _ => .int
abbrev wsJxabbfe0 : List Cond := u_ws RJxabbfe TJxabbfe 0
theorem nmJxabbfe : ∀ a, a < 0 → ∀ b, b < 0 → a ≠ b → (TJxabbfe a).2.1 ≠ (TJxabbfe b).2.1 := by decide +kernel
theorem tyJxabbfe_ok : ∀ k, k < 0 → parseFieldDescriptor (TJxabbfe k).2.2.1 = some (tyJxabbfe k) := by decide +kernel
def RJ6 : String := "java/lang/Integer"
def TJ6 : u_T := fun k => match k with
  | _ => ("java/lang/Integer", "value", "I", true)
def tyJ6 : Nat → FieldType := fun k => match k with
  | _ => .int
abbrev wsJ60 : List Cond := u_ws RJ6 TJ6 1
theorem nmJ6 : ∀ a, a < 1 → ∀ b, b < 1 → a ≠ b → (TJ6 a).2.1 ≠ (TJ6 b).2.1 := by decide +kernel
theorem tyJ6_ok : ∀ k, k < 1 → parseFieldDescriptor (TJ6 k).2.2.1 = some (tyJ6 k) := by decide +kernel
abbrev cJ6_getChars_ba4f3 : ByteArray := prog_25_method_12_code
def yJ6_getChars_ba4f3 : MethodName := ⟨RJ6, "getChars", "(II[B)I"⟩
abbrev cJ6_stringSize_0f7a4 : ByteArray := prog_25_method_13_code
def yJ6_stringSize_0f7a4 : MethodName := ⟨RJ6, "stringSize", "(I)I"⟩
abbrev cJ6_valueOf_2dffe : ByteArray := prog_25_method_22_code
def yJ6_valueOf_2dffe : MethodName := ⟨RJ6, "valueOf", "(I)Ljava/lang/Integer;"⟩
abbrev cJ6_init_d00df : ByteArray := prog_25_method_23_code
def yJ6_init_d00df : MethodName := ⟨RJ6, "<init>", "(I)V"⟩
abbrev cJ6_intValue_8abf5 : ByteArray := prog_25_method_27_code
def yJ6_intValue_8abf5 : MethodName := ⟨RJ6, "intValue", "()I"⟩
def RJxab1ab : String := "java/lang/Iterable"
def TJxab1ab : u_T := fun k => match k with
  | _ => ("", "", "", false)
def tyJxab1ab : Nat → FieldType := fun k => match k with
  | _ => .int
abbrev wsJxab1ab0 : List Cond := u_ws RJxab1ab TJxab1ab 0
theorem nmJxab1ab : ∀ a, a < 0 → ∀ b, b < 0 → a ≠ b → (TJxab1ab a).2.1 ≠ (TJxab1ab b).2.1 := by decide +kernel
theorem tyJxab1ab_ok : ∀ k, k < 0 → parseFieldDescriptor (TJxab1ab k).2.2.1 = some (tyJxab1ab k) := by decide +kernel
def RJ9 : String := "java/lang/Math"
def TJ9 : u_T := fun k => match k with
  | _ => ("", "", "", false)
def tyJ9 : Nat → FieldType := fun k => match k with
  | _ => .int
abbrev wsJ90 : List Cond := u_ws RJ9 TJ9 0
theorem nmJ9 : ∀ a, a < 0 → ∀ b, b < 0 → a ≠ b → (TJ9 a).2.1 ≠ (TJ9 b).2.1 := by decide +kernel
theorem tyJ9_ok : ∀ k, k < 0 → parseFieldDescriptor (TJ9 k).2.2.1 = some (tyJ9 k) := by decide +kernel
abbrev cJ9_abs_0f7a4 : ByteArray := prog_28_method_59_code
def yJ9_abs_0f7a4 : MethodName := ⟨RJ9, "abs", "(I)I"⟩
abbrev cJ9_max_7cf53 : ByteArray := prog_28_method_65_code
def yJ9_max_7cf53 : MethodName := ⟨RJ9, "max", "(II)I"⟩
abbrev cJ9_min_7cf53 : ByteArray := prog_28_method_69_code
def yJ9_min_7cf53 : MethodName := ⟨RJ9, "min", "(II)I"⟩
def RJxd2413 : String := "java/lang/Number"
def TJxd2413 : u_T := fun k => match k with
  | _ => ("", "", "", false)
def tyJxd2413 : Nat → FieldType := fun k => match k with
  | _ => .int
abbrev wsJxd24130 : List Cond := u_ws RJxd2413 TJxd2413 0
theorem nmJxd2413 : ∀ a, a < 0 → ∀ b, b < 0 → a ≠ b → (TJxd2413 a).2.1 ≠ (TJxd2413 b).2.1 := by decide +kernel
theorem tyJxd2413_ok : ∀ k, k < 0 → parseFieldDescriptor (TJxd2413 k).2.2.1 = some (tyJxd2413 k) := by decide +kernel
abbrev cJxd2413_init_da8c8 : ByteArray := prog_29_method_1_code
def yJxd2413_init_da8c8 : MethodName := ⟨RJxd2413, "<init>", "()V"⟩
def RJ0 : String := "java/lang/String"
def TJ0 : u_T := fun k => match k with
  | 0 => ("java/lang/String", "value", "[B", true)
  | 1 => ("java/lang/String", "coder", "B", true)
  | 2 => ("java/lang/String", "hash", "I", false)
  | _ => ("java/lang/String", "hashIsZero", "Z", false)
def tyJ0 : Nat → FieldType := fun k => match k with
  | 0 => .array .byte
  | 1 => .byte
  | 2 => .int
  | _ => .boolean
abbrev wsJ00 : List Cond := u_ws RJ0 TJ0 4
theorem nmJ0 : ∀ a, a < 4 → ∀ b, b < 4 → a ≠ b → (TJ0 a).2.1 ≠ (TJ0 b).2.1 := by decide +kernel
theorem tyJ0_ok : ∀ k, k < 4 → parseFieldDescriptor (TJ0 k).2.2.1 = some (tyJ0 k) := by decide +kernel
abbrev cJ0_init_81219 : ByteArray := prog_31_method_53_code
def yJ0_init_81219 : MethodName := ⟨RJ0, "<init>", "(Ljava/lang/StringBuilder;)V"⟩
abbrev cJ0_length_8abf5 : ByteArray := prog_31_method_54_code
def yJ0_length_8abf5 : MethodName := ⟨RJ0, "length", "()I"⟩
abbrev cJ0_indexOf_0f7a4 : ByteArray := prog_31_method_79_code
def yJ0_indexOf_0f7a4 : MethodName := ⟨RJ0, "indexOf", "(I)I"⟩
abbrev cJ0_indexOf_7cf53 : ByteArray := prog_31_method_80_code
def yJ0_indexOf_7cf53 : MethodName := ⟨RJ0, "indexOf", "(II)I"⟩
abbrev cJ0_getBytes_840e7 : ByteArray := prog_31_method_147_code
def yJ0_getBytes_840e7 : MethodName := ⟨RJ0, "getBytes", "([BIB)V"⟩
abbrev cJ0_init_db425 : ByteArray := prog_31_method_150_code
def yJ0_init_db425 : MethodName := ⟨RJ0, "<init>", "(Ljava/lang/AbstractStringBuilder;Ljava/lang/Void;)V"⟩
abbrev cJ0_coder_7d493 : ByteArray := prog_31_method_152_code
def yJ0_coder_7d493 : MethodName := ⟨RJ0, "coder", "()B"⟩
abbrev cJ0_isLatin1_aae02 : ByteArray := prog_31_method_154_code
def yJ0_isLatin1_aae02 : MethodName := ⟨RJ0, "isLatin1", "()Z"⟩
abbrev cJ0_checkIndex_df160 : ByteArray := prog_31_method_155_code
def yJ0_checkIndex_df160 : MethodName := ⟨RJ0, "checkIndex", "(II)V"⟩
abbrev cJ0_checkBoundsOffCount_cabcc : ByteArray := prog_31_method_157_code
def yJ0_checkBoundsOffCount_cabcc : MethodName := ⟨RJ0, "checkBoundsOffCount", "(III)I"⟩
abbrev cJ0_checkBoundsBeginEnd_23922 : ByteArray := prog_31_method_158_code
def yJ0_checkBoundsBeginEnd_23922 : MethodName := ⟨RJ0, "checkBoundsBeginEnd", "(III)V"⟩
def RJ4 : String := "java/lang/StringBuilder"
def TJ4 : u_T := fun k => match k with
  | 0 => ("java/lang/AbstractStringBuilder", "value", "[B", false)
  | 1 => ("java/lang/AbstractStringBuilder", "coder", "B", false)
  | 2 => ("java/lang/AbstractStringBuilder", "maybeLatin1", "Z", false)
  | _ => ("java/lang/AbstractStringBuilder", "count", "I", false)
def tyJ4 : Nat → FieldType := fun k => match k with
  | 0 => .array .byte
  | 1 => .byte
  | 2 => .boolean
  | _ => .int
abbrev wsJ40 : List Cond := u_ws RJ4 TJ4 4
theorem nmJ4 : ∀ a, a < 4 → ∀ b, b < 4 → a ≠ b → (TJ4 a).2.1 ≠ (TJ4 b).2.1 := by decide +kernel
theorem tyJ4_ok : ∀ k, k < 4 → parseFieldDescriptor (TJ4 k).2.2.1 = some (tyJ4 k) := by decide +kernel
abbrev cJ4_init_da8c8 : ByteArray := prog_32_method_1_code
def yJ4_init_da8c8 : MethodName := ⟨RJ4, "<init>", "()V"⟩
abbrev cJ4_append_15ec4 : ByteArray := prog_32_method_7_code
def yJ4_append_15ec4 : MethodName := ⟨RJ4, "append", "(Ljava/lang/String;)Ljava/lang/StringBuilder;"⟩
abbrev cJ4_append_cf468 : ByteArray := prog_32_method_14_code
def yJ4_append_cf468 : MethodName := ⟨RJ4, "append", "(C)Ljava/lang/StringBuilder;"⟩
abbrev cJ4_append_bf812 : ByteArray := prog_32_method_15_code
def yJ4_append_bf812 : MethodName := ⟨RJ4, "append", "(I)Ljava/lang/StringBuilder;"⟩
abbrev cJ4_toString_0e30d : ByteArray := prog_32_method_42_code
def yJ4_toString_0e30d : MethodName := ⟨RJ4, "toString", "()Ljava/lang/String;"⟩
abbrev cJ4_charAt_5068e : ByteArray := prog_32_method_88_code
def yJ4_charAt_5068e : MethodName := ⟨RJ4, "charAt", "(I)C"⟩
abbrev cJ4_length_8abf5 : ByteArray := prog_32_method_93_code
def yJ4_length_8abf5 : MethodName := ⟨RJ4, "length", "()I"⟩
def RJ1 : String := "java/lang/StringLatin1"
def TJ1 : u_T := fun k => match k with
  | _ => ("", "", "", false)
def tyJ1 : Nat → FieldType := fun k => match k with
  | _ => .int
abbrev wsJ10 : List Cond := u_ws RJ1 TJ1 0
theorem nmJ1 : ∀ a, a < 0 → ∀ b, b < 0 → a ≠ b → (TJ1 a).2.1 ≠ (TJ1 b).2.1 := by decide +kernel
theorem tyJ1_ok : ∀ k, k < 0 → parseFieldDescriptor (TJ1 k).2.2.1 = some (tyJ1 k) := by decide +kernel
abbrev cJ1_canEncode_fc78d : ByteArray := prog_33_method_3_code
def yJ1_canEncode_fc78d : MethodName := ⟨RJ1, "canEncode", "(C)Z"⟩
abbrev cJ1_canEncode_9a6ad : ByteArray := prog_33_method_4_code
def yJ1_canEncode_9a6ad : MethodName := ⟨RJ1, "canEncode", "(I)Z"⟩
abbrev cJ1_indexOf_4cfef : ByteArray := prog_33_method_22_code
def yJ1_indexOf_4cfef : MethodName := ⟨RJ1, "indexOf", "([BIII)I"⟩
abbrev cJ1_indexOfChar_4cfef : ByteArray := prog_33_method_23_code
def yJ1_indexOfChar_4cfef : MethodName := ⟨RJ1, "indexOfChar", "([BIII)I"⟩
abbrev cJ1_inflate_0e8fd : ByteArray := prog_33_method_50_code
def yJ1_inflate_0e8fd : MethodName := ⟨RJ1, "inflate", "([BI[BII)V"⟩
def RJ2 : String := "java/lang/StringUTF16"
def TJ2 : u_T := fun k => match k with
  | _ => ("", "", "", false)
def tyJ2 : Nat → FieldType := fun k => match k with
  | _ => .int
abbrev wsJ20 : List Cond := u_ws RJ2 TJ2 0
theorem nmJ2 : ∀ a, a < 0 → ∀ b, b < 0 → a ≠ b → (TJ2 a).2.1 ≠ (TJ2 b).2.1 := by decide +kernel
theorem tyJ2_ok : ∀ k, k < 0 → parseFieldDescriptor (TJ2 k).2.2.1 = some (tyJ2 k) := by decide +kernel
abbrev cJ2_newBytesFor_77867 : ByteArray := prog_34_method_2_code
def yJ2_newBytesFor_77867 : MethodName := ⟨RJ2, "newBytesFor", "(I)[B"⟩
abbrev cJ2_newBytesLength_0f7a4 : ByteArray := prog_34_method_3_code
def yJ2_newBytesLength_0f7a4 : MethodName := ⟨RJ2, "newBytesLength", "(I)I"⟩
abbrev cJ2_putChar_b72d1 : ByteArray := prog_34_method_4_code
def yJ2_putChar_b72d1 : MethodName := ⟨RJ2, "putChar", "([BII)V"⟩
abbrev cJ2_getChar_3b067 : ByteArray := prog_34_method_5_code
def yJ2_getChar_3b067 : MethodName := ⟨RJ2, "getChar", "([BI)C"⟩
abbrev cJ2_length_9d52b : ByteArray := prog_34_method_6_code
def yJ2_length_9d52b : MethodName := ⟨RJ2, "length", "([B)I"⟩
abbrev cJ2_coderFromArrayLen_85cad : ByteArray := prog_34_method_15_code
def yJ2_coderFromArrayLen_85cad : MethodName := ⟨RJ2, "coderFromArrayLen", "([BI)B"⟩
abbrev cJ2_compress_39247 : ByteArray := prog_34_method_17_code
def yJ2_compress_39247 : MethodName := ⟨RJ2, "compress", "([BII)[B"⟩
abbrev cJ2_compress_5af95 : ByteArray := prog_34_method_22_code
def yJ2_compress_5af95 : MethodName := ⟨RJ2, "compress", "([BI[BII)I"⟩
abbrev cJ2_indexOf_4cfef : ByteArray := prog_34_method_40_code
def yJ2_indexOf_4cfef : MethodName := ⟨RJ2, "indexOf", "([BIII)I"⟩
abbrev cJ2_indexOfChar_4cfef : ByteArray := prog_34_method_47_code
def yJ2_indexOfChar_4cfef : MethodName := ⟨RJ2, "indexOfChar", "([BIII)I"⟩
abbrev cJ2_indexOfCharUnsafe_4cfef : ByteArray := prog_34_method_48_code
def yJ2_indexOfCharUnsafe_4cfef : MethodName := ⟨RJ2, "indexOfCharUnsafe", "([BIII)I"⟩
abbrev cJ2_indexOfSupplementary_4cfef : ByteArray := prog_34_method_49_code
def yJ2_indexOfSupplementary_4cfef : MethodName := ⟨RJ2, "indexOfSupplementary", "([BIII)I"⟩
abbrev cJ2_putCharSB_b72d1 : ByteArray := prog_34_method_71_code
def yJ2_putCharSB_b72d1 : MethodName := ⟨RJ2, "putCharSB", "([BII)V"⟩
abbrev cJ2_getChars_46870 : ByteArray := prog_34_method_77_code
def yJ2_getChars_46870 : MethodName := ⟨RJ2, "getChars", "(III[B)I"⟩
abbrev cJ2_putCharsAt_cd4e5 : ByteArray := prog_34_method_81_code
def yJ2_putCharsAt_cd4e5 : MethodName := ⟨RJ2, "putCharsAt", "([BICCCC)I"⟩
abbrev cJ2_inflate_0e8fd : ByteArray := prog_34_method_86_code
def yJ2_inflate_0e8fd : MethodName := ⟨RJ2, "inflate", "([BI[BII)V"⟩
abbrev cJ2_getChars_ba4f3 : ByteArray := prog_34_method_89_code
def yJ2_getChars_ba4f3 : MethodName := ⟨RJ2, "getChars", "(II[B)I"⟩
abbrev cJ2_checkIndex_2214a : ByteArray := prog_34_method_91_code
def yJ2_checkIndex_2214a : MethodName := ⟨RJ2, "checkIndex", "(I[B)V"⟩
abbrev cJ2_checkBoundsBeginEnd_d044e : ByteArray := prog_34_method_93_code
def yJ2_checkBoundsBeginEnd_d044e : MethodName := ⟨RJ2, "checkBoundsBeginEnd", "(II[B)V"⟩
abbrev cJ2_checkBoundsOffCount_d044e : ByteArray := prog_34_method_94_code
def yJ2_checkBoundsOffCount_d044e : MethodName := ⟨RJ2, "checkBoundsOffCount", "(II[B)V"⟩
def RJ10 : String := "java/lang/System"
def TJ10 : u_T := fun k => match k with
  | _ => ("", "", "", false)
def tyJ10 : Nat → FieldType := fun k => match k with
  | _ => .int
abbrev wsJ100 : List Cond := u_ws RJ10 TJ10 0
theorem nmJ10 : ∀ a, a < 0 → ∀ b, b < 0 → a ≠ b → (TJ10 a).2.1 ≠ (TJ10 b).2.1 := by decide +kernel
theorem tyJ10_ok : ∀ k, k < 0 → parseFieldDescriptor (TJ10 k).2.2.1 = some (tyJ10 k) := by decide +kernel
def RJxfd54e : String := "java/lang/constant/Constable"
def TJxfd54e : u_T := fun k => match k with
  | _ => ("", "", "", false)
def tyJxfd54e : Nat → FieldType := fun k => match k with
  | _ => .int
abbrev wsJxfd54e0 : List Cond := u_ws RJxfd54e TJxfd54e 0
theorem nmJxfd54e : ∀ a, a < 0 → ∀ b, b < 0 → a ≠ b → (TJxfd54e a).2.1 ≠ (TJxfd54e b).2.1 := by decide +kernel
theorem tyJxfd54e_ok : ∀ k, k < 0 → parseFieldDescriptor (TJxfd54e k).2.2.1 = some (tyJxfd54e k) := by decide +kernel
def RJx3cf43 : String := "java/lang/constant/ConstantDesc"
def TJx3cf43 : u_T := fun k => match k with
  | _ => ("", "", "", false)
def tyJx3cf43 : Nat → FieldType := fun k => match k with
  | _ => .int
abbrev wsJx3cf430 : List Cond := u_ws RJx3cf43 TJx3cf43 0
theorem nmJx3cf43 : ∀ a, a < 0 → ∀ b, b < 0 → a ≠ b → (TJx3cf43 a).2.1 ≠ (TJx3cf43 b).2.1 := by decide +kernel
theorem tyJx3cf43_ok : ∀ k, k < 0 → parseFieldDescriptor (TJx3cf43 k).2.2.1 = some (tyJx3cf43 k) := by decide +kernel
def RJxa1e45 : String := "java/util/AbstractCollection"
def TJxa1e45 : u_T := fun k => match k with
  | _ => ("", "", "", false)
def tyJxa1e45 : Nat → FieldType := fun k => match k with
  | _ => .int
abbrev wsJxa1e450 : List Cond := u_ws RJxa1e45 TJxa1e45 0
theorem nmJxa1e45 : ∀ a, a < 0 → ∀ b, b < 0 → a ≠ b → (TJxa1e45 a).2.1 ≠ (TJxa1e45 b).2.1 := by decide +kernel
theorem tyJxa1e45_ok : ∀ k, k < 0 → parseFieldDescriptor (TJxa1e45 k).2.2.1 = some (tyJxa1e45 k) := by decide +kernel
abbrev cJxa1e45_init_da8c8 : ByteArray := prog_40_method_1_code
def yJxa1e45_init_da8c8 : MethodName := ⟨RJxa1e45, "<init>", "()V"⟩
def RJxc12de : String := "java/util/AbstractList"
def TJxc12de : u_T := fun k => match k with
  | _ => ("", "", "", false)
def tyJxc12de : Nat → FieldType := fun k => match k with
  | _ => .int
abbrev wsJxc12de0 : List Cond := u_ws RJxc12de TJxc12de 0
theorem nmJxc12de : ∀ a, a < 0 → ∀ b, b < 0 → a ≠ b → (TJxc12de a).2.1 ≠ (TJxc12de b).2.1 := by decide +kernel
theorem tyJxc12de_ok : ∀ k, k < 0 → parseFieldDescriptor (TJxc12de k).2.2.1 = some (tyJxc12de k) := by decide +kernel
abbrev cJxc12de_init_da8c8 : ByteArray := prog_41_method_1_code
def yJxc12de_init_da8c8 : MethodName := ⟨RJxc12de, "<init>", "()V"⟩
def RJx35411 : String := "java/util/ArrayList$Itr"
def TJx35411 : u_T := fun k => match k with
  | 0 => ("java/util/ArrayList$Itr", "cursor", "I", false)
  | 1 => ("java/util/ArrayList$Itr", "lastRet", "I", false)
  | 2 => ("java/util/ArrayList$Itr", "expectedModCount", "I", false)
  | _ => ("java/util/ArrayList$Itr", "this$0", "Ljava/util/ArrayList;", true)
def tyJx35411 : Nat → FieldType := fun k => match k with
  | 0 => .int
  | 1 => .int
  | 2 => .int
  | _ => .object "java/util/ArrayList"
abbrev wsJx354110 : List Cond := u_ws RJx35411 TJx35411 4
theorem nmJx35411 : ∀ a, a < 4 → ∀ b, b < 4 → a ≠ b → (TJx35411 a).2.1 ≠ (TJx35411 b).2.1 := by decide +kernel
theorem tyJx35411_ok : ∀ k, k < 4 → parseFieldDescriptor (TJx35411 k).2.2.1 = some (tyJx35411 k) := by decide +kernel
abbrev cJx35411_init_45d68 : ByteArray := prog_43_method_1_code
def yJx35411_init_45d68 : MethodName := ⟨RJx35411, "<init>", "(Ljava/util/ArrayList;)V"⟩
abbrev cJx35411_hasNext_aae02 : ByteArray := prog_43_method_2_code
def yJx35411_hasNext_aae02 : MethodName := ⟨RJx35411, "hasNext", "()Z"⟩
abbrev cJx35411_next_0502b : ByteArray := prog_43_method_3_code
def yJx35411_next_0502b : MethodName := ⟨RJx35411, "next", "()Ljava/lang/Object;"⟩
abbrev cJx35411_checkForComodification_da8c8 : ByteArray := prog_43_method_6_code
def yJx35411_checkForComodification_da8c8 : MethodName := ⟨RJx35411, "checkForComodification", "()V"⟩
def RJx4a65c : String := "java/util/ArrayList"
def TJx4a65c : u_T := fun k => match k with
  | 0 => ("java/util/AbstractList", "modCount", "I", false)
  | 1 => ("java/util/ArrayList", "elementData", "[Ljava/lang/Object;", false)
  | _ => ("java/util/ArrayList", "size", "I", false)
def tyJx4a65c : Nat → FieldType := fun k => match k with
  | 0 => .int
  | 1 => .array (.object "java/lang/Object")
  | _ => .int
abbrev wsJx4a65c0 : List Cond := u_ws RJx4a65c TJx4a65c 3
theorem nmJx4a65c : ∀ a, a < 3 → ∀ b, b < 3 → a ≠ b → (TJx4a65c a).2.1 ≠ (TJx4a65c b).2.1 := by decide +kernel
theorem tyJx4a65c_ok : ∀ k, k < 3 → parseFieldDescriptor (TJx4a65c k).2.2.1 = some (tyJx4a65c k) := by decide +kernel
abbrev cJx4a65c_init_da8c8 : ByteArray := prog_42_method_2_code
def yJx4a65c_init_da8c8 : MethodName := ⟨RJx4a65c, "<init>", "()V"⟩
abbrev cJx4a65c_grow_92f84 : ByteArray := prog_42_method_6_code
def yJx4a65c_grow_92f84 : MethodName := ⟨RJx4a65c, "grow", "(I)[Ljava/lang/Object;"⟩
abbrev cJx4a65c_grow_d5877 : ByteArray := prog_42_method_7_code
def yJx4a65c_grow_d5877 : MethodName := ⟨RJx4a65c, "grow", "()[Ljava/lang/Object;"⟩
abbrev cJx4a65c_size_8abf5 : ByteArray := prog_42_method_8_code
def yJx4a65c_size_8abf5 : MethodName := ⟨RJx4a65c, "size", "()I"⟩
abbrev cJx4a65c_elementData_915e3 : ByteArray := prog_42_method_18_code
def yJx4a65c_elementData_915e3 : MethodName := ⟨RJx4a65c, "elementData", "(I)Ljava/lang/Object;"⟩
abbrev cJx4a65c_get_915e3 : ByteArray := prog_42_method_20_code
def yJx4a65c_get_915e3 : MethodName := ⟨RJx4a65c, "get", "(I)Ljava/lang/Object;"⟩
abbrev cJx4a65c_add_72be8 : ByteArray := prog_42_method_24_code
def yJx4a65c_add_72be8 : MethodName := ⟨RJx4a65c, "add", "(Ljava/lang/Object;[Ljava/lang/Object;I)V"⟩
abbrev cJx4a65c_add_9ea2d : ByteArray := prog_42_method_25_code
def yJx4a65c_add_9ea2d : MethodName := ⟨RJx4a65c, "add", "(Ljava/lang/Object;)Z"⟩
abbrev cJx4a65c_add_7a177 : ByteArray := prog_42_method_26_code
def yJx4a65c_add_7a177 : MethodName := ⟨RJx4a65c, "add", "(ILjava/lang/Object;)V"⟩
abbrev cJx4a65c_rangeCheckForAdd_d00df : ByteArray := prog_42_method_45_code
def yJx4a65c_rangeCheckForAdd_d00df : MethodName := ⟨RJx4a65c, "rangeCheckForAdd", "(I)V"⟩
abbrev cJx4a65c_outOfBoundsMsg_b52d3 : ByteArray := prog_42_method_46_code
def yJx4a65c_outOfBoundsMsg_b52d3 : MethodName := ⟨RJx4a65c, "outOfBoundsMsg", "(I)Ljava/lang/String;"⟩
abbrev cJx4a65c_iterator_32c93 : ByteArray := prog_42_method_55_code
def yJx4a65c_iterator_32c93 : MethodName := ⟨RJx4a65c, "iterator", "()Ljava/util/Iterator;"⟩
def RJ7 : String := "java/util/Arrays"
def TJ7 : u_T := fun k => match k with
  | _ => ("", "", "", false)
def tyJ7 : Nat → FieldType := fun k => match k with
  | _ => .int
abbrev wsJ70 : List Cond := u_ws RJ7 TJ7 0
theorem nmJ7 : ∀ a, a < 0 → ∀ b, b < 0 → a ≠ b → (TJ7 a).2.1 ≠ (TJ7 b).2.1 := by decide +kernel
theorem tyJ7_ok : ∀ k, k < 0 → parseFieldDescriptor (TJ7 k).2.2.1 = some (tyJ7 k) := by decide +kernel
abbrev cJ7_fill_53178 : ByteArray := prog_44_method_103_code
def yJ7_fill_53178 : MethodName := ⟨RJ7, "fill", "([II)V"⟩
abbrev cJ7_copyOf_1904c : ByteArray := prog_44_method_119_code
def yJ7_copyOf_1904c : MethodName := ⟨RJ7, "copyOf", "([Ljava/lang/Object;I)[Ljava/lang/Object;"⟩
abbrev cJ7_copyOf_6403c : ByteArray := prog_44_method_120_code
def yJ7_copyOf_6403c : MethodName := ⟨RJ7, "copyOf", "([Ljava/lang/Object;ILjava/lang/Class;)[Ljava/lang/Object;"⟩
abbrev cJ7_copyOf_9075b : ByteArray := prog_44_method_121_code
def yJ7_copyOf_9075b : MethodName := ⟨RJ7, "copyOf", "([BI)[B"⟩
abbrev cJ7_checkLength_df160 : ByteArray := prog_44_method_131_code
def yJ7_checkLength_df160 : MethodName := ⟨RJ7, "checkLength", "(II)V"⟩
abbrev cJ7_copyOfRange_39247 : ByteArray := prog_44_method_132_code
def yJ7_copyOfRange_39247 : MethodName := ⟨RJ7, "copyOfRange", "([BII)[B"⟩
abbrev cJ7_copyOfRangeByte_39247 : ByteArray := prog_44_method_133_code
def yJ7_copyOfRangeByte_39247 : MethodName := ⟨RJ7, "copyOfRangeByte", "([BII)[B"⟩
def RJx5ef63 : String := "java/util/Collection"
def TJx5ef63 : u_T := fun k => match k with
  | _ => ("", "", "", false)
def tyJx5ef63 : Nat → FieldType := fun k => match k with
  | _ => .int
abbrev wsJx5ef630 : List Cond := u_ws RJx5ef63 TJx5ef63 0
theorem nmJx5ef63 : ∀ a, a < 0 → ∀ b, b < 0 → a ≠ b → (TJx5ef63 a).2.1 ≠ (TJx5ef63 b).2.1 := by decide +kernel
theorem tyJx5ef63_ok : ∀ k, k < 0 → parseFieldDescriptor (TJx5ef63 k).2.2.1 = some (tyJx5ef63 k) := by decide +kernel
def RJx4d0d8 : String := "java/util/Iterator"
def TJx4d0d8 : u_T := fun k => match k with
  | _ => ("", "", "", false)
def tyJx4d0d8 : Nat → FieldType := fun k => match k with
  | _ => .int
abbrev wsJx4d0d80 : List Cond := u_ws RJx4d0d8 TJx4d0d8 0
theorem nmJx4d0d8 : ∀ a, a < 0 → ∀ b, b < 0 → a ≠ b → (TJx4d0d8 a).2.1 ≠ (TJx4d0d8 b).2.1 := by decide +kernel
theorem tyJx4d0d8_ok : ∀ k, k < 0 → parseFieldDescriptor (TJx4d0d8 k).2.2.1 = some (tyJx4d0d8 k) := by decide +kernel
def RJxbd725 : String := "java/util/List"
def TJxbd725 : u_T := fun k => match k with
  | _ => ("", "", "", false)
def tyJxbd725 : Nat → FieldType := fun k => match k with
  | _ => .int
abbrev wsJxbd7250 : List Cond := u_ws RJxbd725 TJxbd725 0
theorem nmJxbd725 : ∀ a, a < 0 → ∀ b, b < 0 → a ≠ b → (TJxbd725 a).2.1 ≠ (TJxbd725 b).2.1 := by decide +kernel
theorem tyJxbd725_ok : ∀ k, k < 0 → parseFieldDescriptor (TJxbd725 k).2.2.1 = some (tyJxbd725 k) := by decide +kernel
def RJ15 : String := "java/util/Objects"
def TJ15 : u_T := fun k => match k with
  | _ => ("", "", "", false)
def tyJ15 : Nat → FieldType := fun k => match k with
  | _ => .int
abbrev wsJ150 : List Cond := u_ws RJ15 TJ15 0
theorem nmJ15 : ∀ a, a < 0 → ∀ b, b < 0 → a ≠ b → (TJ15 a).2.1 ≠ (TJ15 b).2.1 := by decide +kernel
theorem tyJ15_ok : ∀ k, k < 0 → parseFieldDescriptor (TJ15 k).2.2.1 = some (tyJ15 k) := by decide +kernel
abbrev cJ15_checkIndex_7cf53 : ByteArray := prog_49_method_17_code
def yJ15_checkIndex_7cf53 : MethodName := ⟨RJ15, "checkIndex", "(II)I"⟩
def RJxf0a74 : String := "java/util/RandomAccess"
def TJxf0a74 : u_T := fun k => match k with
  | _ => ("", "", "", false)
def tyJxf0a74 : Nat → FieldType := fun k => match k with
  | _ => .int
abbrev wsJxf0a740 : List Cond := u_ws RJxf0a74 TJxf0a74 0
theorem nmJxf0a74 : ∀ a, a < 0 → ∀ b, b < 0 → a ≠ b → (TJxf0a74 a).2.1 ≠ (TJxf0a74 b).2.1 := by decide +kernel
theorem tyJxf0a74_ok : ∀ k, k < 0 → parseFieldDescriptor (TJxf0a74 k).2.2.1 = some (tyJxf0a74 k) := by decide +kernel
def RJxa66e6 : String := "java/util/SequencedCollection"
def TJxa66e6 : u_T := fun k => match k with
  | _ => ("", "", "", false)
def tyJxa66e6 : Nat → FieldType := fun k => match k with
  | _ => .int
abbrev wsJxa66e60 : List Cond := u_ws RJxa66e6 TJxa66e6 0
theorem nmJxa66e6 : ∀ a, a < 0 → ∀ b, b < 0 → a ≠ b → (TJxa66e6 a).2.1 ≠ (TJxa66e6 b).2.1 := by decide +kernel
theorem tyJxa66e6_ok : ∀ k, k < 0 → parseFieldDescriptor (TJxa66e6 k).2.2.1 = some (tyJxa66e6 k) := by decide +kernel
def RJ8 : String := "jdk/internal/util/ArraysSupport"
def TJ8 : u_T := fun k => match k with
  | _ => ("", "", "", false)
def tyJ8 : Nat → FieldType := fun k => match k with
  | _ => .int
abbrev wsJ80 : List Cond := u_ws RJ8 TJ8 0
theorem nmJ8 : ∀ a, a < 0 → ∀ b, b < 0 → a ≠ b → (TJ8 a).2.1 ≠ (TJ8 b).2.1 := by decide +kernel
theorem tyJ8_ok : ∀ k, k < 0 → parseFieldDescriptor (TJ8 k).2.2.1 = some (tyJ8 k) := by decide +kernel
abbrev cJ8_newLength_cabcc : ByteArray := prog_52_method_27_code
def yJ8_newLength_cabcc : MethodName := ⟨RJ8, "newLength", "(III)I"⟩
abbrev cJ8_hugeLength_7cf53 : ByteArray := prog_52_method_28_code
def yJ8_hugeLength_7cf53 : MethodName := ⟨RJ8, "hugeLength", "(II)I"⟩
def RJ3 : String := "jdk/internal/util/Preconditions"
def TJ3 : u_T := fun k => match k with
  | _ => ("", "", "", false)
def tyJ3 : Nat → FieldType := fun k => match k with
  | _ => .int
abbrev wsJ30 : List Cond := u_ws RJ3 TJ3 0
theorem nmJ3 : ∀ a, a < 0 → ∀ b, b < 0 → a ≠ b → (TJ3 a).2.1 ≠ (TJ3 b).2.1 := by decide +kernel
theorem tyJ3_ok : ∀ k, k < 0 → parseFieldDescriptor (TJ3 k).2.2.1 = some (tyJ3 k) := by decide +kernel
abbrev cJ3_checkIndex_8e157 : ByteArray := prog_53_method_11_code
def yJ3_checkIndex_8e157 : MethodName := ⟨RJ3, "checkIndex", "(IILjava/util/function/BiFunction;)I"⟩
abbrev cJ3_checkFromToIndex_8c36e : ByteArray := prog_53_method_12_code
def yJ3_checkFromToIndex_8c36e : MethodName := ⟨RJ3, "checkFromToIndex", "(IIILjava/util/function/BiFunction;)I"⟩
abbrev cJ3_checkFromIndexSize_8c36e : ByteArray := prog_53_method_13_code
def yJ3_checkFromIndexSize_8c36e : MethodName := ⟨RJ3, "checkFromIndexSize", "(IIILjava/util/function/BiFunction;)I"⟩
def RL : String := "AquiferwardLaw"
abbrev cL_setCell : ByteArray := method_3_code
def yL_setCell : MethodName := ⟨RL, "setCell", "(LAquiferward;IIII[J)I"⟩
abbrev cL_setGround : ByteArray := method_4_code
def yL_setGround : MethodName := ⟨RL, "setGround", "(LAquiferward;II[J)I"⟩
abbrev cL_setConductance : ByteArray := method_5_code
def yL_setConductance : MethodName := ⟨RL, "setConductance", "(LAquiferward;II[J)I"⟩
abbrev cL_setLeakage : ByteArray := method_6_code
def yL_setLeakage : MethodName := ⟨RL, "setLeakage", "(LAquiferward;II[J)I"⟩
abbrev cL_setRain : ByteArray := method_7_code
def yL_setRain : MethodName := ⟨RL, "setRain", "(LAquiferward;II[J)I"⟩
abbrev cL_setBed : ByteArray := method_8_code
def yL_setBed : MethodName := ⟨RL, "setBed", "(LAquiferward;III[J)I"⟩
abbrev cL_setRiver : ByteArray := method_9_code
def yL_setRiver : MethodName := ⟨RL, "setRiver", "(LAquiferward;I[J)I"⟩
abbrev cL_setSea : ByteArray := method_10_code
def yL_setSea : MethodName := ⟨RL, "setSea", "(LAquiferward;I[J)I"⟩
abbrev cL_addWell : ByteArray := method_11_code
def yL_addWell : MethodName := ⟨RL, "addWell", "(LAquiferward;III[J)I"⟩
abbrev cL_setWish : ByteArray := method_12_code
def yL_setWish : MethodName := ⟨RL, "setWish", "(LAquiferward;II[J)I"⟩
abbrev cL_transfer : ByteArray := method_13_code
def yL_transfer : MethodName := ⟨RL, "transfer", "(LAquiferward;III[J)I"⟩
abbrev cL_pass : ByteArray := method_14_code
def yL_pass : MethodName := ⟨RL, "pass", "(LAquiferward;I[J)I"⟩
abbrev cL_level : ByteArray := method_15_code
def yL_level : MethodName := ⟨RL, "level", "(LAquiferward;I[J)I"⟩
abbrev cL_water : ByteArray := method_16_code
def yL_water : MethodName := ⟨RL, "water", "(LAquiferward;I[J)I"⟩
abbrev cL_salt : ByteArray := method_17_code
def yL_salt : MethodName := ⟨RL, "salt", "(LAquiferward;I[J)I"⟩
abbrev cL_amount : ByteArray := method_18_code
def yL_amount : MethodName := ⟨RL, "amount", "(LAquiferward;I[J)I"⟩
abbrev cL_yearly : ByteArray := method_19_code
def yL_yearly : MethodName := ⟨RL, "yearly", "(LAquiferward;I[J)I"⟩
abbrev cL_pumped : ByteArray := method_20_code
def yL_pumped : MethodName := ⟨RL, "pumped", "(LAquiferward;I[J)I"⟩
abbrev cL_isShut : ByteArray := method_21_code
def yL_isShut : MethodName := ⟨RL, "isShut", "(LAquiferward;I[J)I"⟩
abbrev cL_byAge : ByteArray := method_22_code
def yL_byAge : MethodName := ⟨RL, "byAge", "(LAquiferward;I[J)I"⟩
abbrev cL_pumpedWithout : ByteArray := method_23_code
def yL_pumpedWithout : MethodName := ⟨RL, "pumpedWithout", "(LAquiferward;II[J)I"⟩
abbrev cL_eventAt : ByteArray := method_24_code
def yL_eventAt : MethodName := ⟨RL, "eventAt", "(LAquiferward;I[J)I"⟩
abbrev cL_account : ByteArray := method_25_code
def yL_account : MethodName := ⟨RL, "account", "(LAquiferward;C[J)I"⟩
abbrev cL_law : ByteArray := code
def yL_law : MethodName := ⟨RL, "law", "([I)Z"⟩
end
section
theorem dX0_init_0 : decode cX0_init 0 = .ok (.aload_n 0, 1) := by decide +kernel
theorem dX0_init_1 : decode cX0_init 1 = .ok (.invokespecial 1, 3) := by decide +kernel
theorem dX0_init_4 : decode cX0_init 4 = .ok (.aload_n 0, 1) := by decide +kernel
theorem dX0_init_5 : decode cX0_init 5 = .ok (.bipush 9, 2) := by decide +kernel
theorem dX0_init_7 : decode cX0_init 7 = .ok (.newarray .long, 2) := by decide +kernel
theorem dX0_init_9 : decode cX0_init 9 = .ok (.putfield 7, 3) := by decide +kernel
theorem dX0_init_12 : decode cX0_init 12 = .ok (.return_, 1) := by decide +kernel
theorem dX0_balanceWith_0 : decode cX0_balanceWith 0 = .ok (.aload_n 0, 1) := by decide +kernel
theorem dX0_balanceWith_1 : decode cX0_balanceWith 1 = .ok (.getfield 7, 3) := by decide +kernel
theorem dX0_balanceWith_4 : decode cX0_balanceWith 4 = .ok (.iconst 0, 1) := by decide +kernel
theorem dX0_balanceWith_5 : decode cX0_balanceWith 5 = .ok (.laload, 1) := by decide +kernel
theorem dX0_balanceWith_6 : decode cX0_balanceWith 6 = .ok (.aload_n 0, 1) := by decide +kernel
theorem dX0_balanceWith_7 : decode cX0_balanceWith 7 = .ok (.getfield 7, 3) := by decide +kernel
theorem dX0_balanceWith_10 : decode cX0_balanceWith 10 = .ok (.iconst 1, 1) := by decide +kernel
theorem dX0_balanceWith_11 : decode cX0_balanceWith 11 = .ok (.laload, 1) := by decide +kernel
theorem dX0_balanceWith_12 : decode cX0_balanceWith 12 = .ok (.ladd, 1) := by decide +kernel
theorem dX0_balanceWith_13 : decode cX0_balanceWith 13 = .ok (.aload_n 0, 1) := by decide +kernel
theorem dX0_balanceWith_14 : decode cX0_balanceWith 14 = .ok (.getfield 7, 3) := by decide +kernel
theorem dX0_balanceWith_17 : decode cX0_balanceWith 17 = .ok (.iconst 3, 1) := by decide +kernel
theorem dX0_balanceWith_18 : decode cX0_balanceWith 18 = .ok (.laload, 1) := by decide +kernel
theorem dX0_balanceWith_19 : decode cX0_balanceWith 19 = .ok (.ladd, 1) := by decide +kernel
theorem dX0_balanceWith_20 : decode cX0_balanceWith 20 = .ok (.aload_n 0, 1) := by decide +kernel
theorem dX0_balanceWith_21 : decode cX0_balanceWith 21 = .ok (.getfield 7, 3) := by decide +kernel
theorem dX0_balanceWith_24 : decode cX0_balanceWith 24 = .ok (.bipush 6, 2) := by decide +kernel
theorem dX0_balanceWith_26 : decode cX0_balanceWith 26 = .ok (.laload, 1) := by decide +kernel
theorem dX0_balanceWith_27 : decode cX0_balanceWith 27 = .ok (.ladd, 1) := by decide +kernel
theorem dX0_balanceWith_28 : decode cX0_balanceWith 28 = .ok (.lstore_n 3, 1) := by decide +kernel
theorem dX0_balanceWith_29 : decode cX0_balanceWith 29 = .ok (.aload_n 0, 1) := by decide +kernel
theorem dX0_balanceWith_30 : decode cX0_balanceWith 30 = .ok (.getfield 7, 3) := by decide +kernel
theorem dX0_balanceWith_33 : decode cX0_balanceWith 33 = .ok (.iconst 2, 1) := by decide +kernel
theorem dX0_balanceWith_34 : decode cX0_balanceWith 34 = .ok (.laload, 1) := by decide +kernel
theorem dX0_balanceWith_35 : decode cX0_balanceWith 35 = .ok (.aload_n 0, 1) := by decide +kernel
theorem dX0_balanceWith_36 : decode cX0_balanceWith 36 = .ok (.getfield 7, 3) := by decide +kernel
theorem dX0_balanceWith_39 : decode cX0_balanceWith 39 = .ok (.iconst 4, 1) := by decide +kernel
theorem dX0_balanceWith_40 : decode cX0_balanceWith 40 = .ok (.laload, 1) := by decide +kernel
theorem dX0_balanceWith_41 : decode cX0_balanceWith 41 = .ok (.ladd, 1) := by decide +kernel
theorem dX0_balanceWith_42 : decode cX0_balanceWith 42 = .ok (.aload_n 0, 1) := by decide +kernel
theorem dX0_balanceWith_43 : decode cX0_balanceWith 43 = .ok (.getfield 7, 3) := by decide +kernel
theorem dX0_balanceWith_46 : decode cX0_balanceWith 46 = .ok (.iconst 5, 1) := by decide +kernel
theorem dX0_balanceWith_47 : decode cX0_balanceWith 47 = .ok (.laload, 1) := by decide +kernel
theorem dX0_balanceWith_48 : decode cX0_balanceWith 48 = .ok (.ladd, 1) := by decide +kernel
theorem dX0_balanceWith_49 : decode cX0_balanceWith 49 = .ok (.aload_n 0, 1) := by decide +kernel
theorem dX0_balanceWith_50 : decode cX0_balanceWith 50 = .ok (.getfield 7, 3) := by decide +kernel
theorem dX0_balanceWith_53 : decode cX0_balanceWith 53 = .ok (.bipush 7, 2) := by decide +kernel
theorem dX0_balanceWith_55 : decode cX0_balanceWith 55 = .ok (.laload, 1) := by decide +kernel
theorem dX0_balanceWith_56 : decode cX0_balanceWith 56 = .ok (.ladd, 1) := by decide +kernel
theorem dX0_balanceWith_57 : decode cX0_balanceWith 57 = .ok (.lstore 5, 2) := by decide +kernel
theorem dX0_balanceWith_59 : decode cX0_balanceWith 59 = .ok (.lload_n 3, 1) := by decide +kernel
theorem dX0_balanceWith_60 : decode cX0_balanceWith 60 = .ok (.lload 5, 2) := by decide +kernel
theorem dX0_balanceWith_62 : decode cX0_balanceWith 62 = .ok (.lload_n 1, 1) := by decide +kernel
theorem dX0_balanceWith_63 : decode cX0_balanceWith 63 = .ok (.ladd, 1) := by decide +kernel
theorem dX0_balanceWith_64 : decode cX0_balanceWith 64 = .ok (.lcmp, 1) := by decide +kernel
theorem dX0_balanceWith_65 : decode cX0_balanceWith 65 = .ok (.ifCond .ne 7, 3) := by decide +kernel
theorem dX0_balanceWith_68 : decode cX0_balanceWith 68 = .ok (.iconst 1, 1) := by decide +kernel
theorem dX0_balanceWith_69 : decode cX0_balanceWith 69 = .ok (.goto 4, 3) := by decide +kernel
theorem dX0_balanceWith_72 : decode cX0_balanceWith 72 = .ok (.iconst 0, 1) := by decide +kernel
theorem dX0_balanceWith_73 : decode cX0_balanceWith 73 = .ok (.ireturn, 1) := by decide +kernel
theorem dX1_init_0 : decode cX1_init 0 = .ok (.aload_n 0, 1) := by decide +kernel
theorem dX1_init_1 : decode cX1_init 1 = .ok (.invokespecial 1, 3) := by decide +kernel
theorem dX1_init_4 : decode cX1_init 4 = .ok (.aload_n 0, 1) := by decide +kernel
theorem dX1_init_5 : decode cX1_init 5 = .ok (.iload_n 1, 1) := by decide +kernel
theorem dX1_init_6 : decode cX1_init 6 = .ok (.putfield 7, 3) := by decide +kernel
theorem dX1_init_9 : decode cX1_init 9 = .ok (.aload_n 0, 1) := by decide +kernel
theorem dX1_init_10 : decode cX1_init 10 = .ok (.iload_n 2, 1) := by decide +kernel
theorem dX1_init_11 : decode cX1_init 11 = .ok (.putfield 13, 3) := by decide +kernel
theorem dX1_init_14 : decode cX1_init 14 = .ok (.aload_n 0, 1) := by decide +kernel
theorem dX1_init_15 : decode cX1_init 15 = .ok (.iload_n 3, 1) := by decide +kernel
theorem dX1_init_16 : decode cX1_init 16 = .ok (.putfield 16, 3) := by decide +kernel
theorem dX1_init_19 : decode cX1_init 19 = .ok (.aload_n 0, 1) := by decide +kernel
theorem dX1_init_20 : decode cX1_init 20 = .ok (.iload 4, 2) := by decide +kernel
theorem dX1_init_22 : decode cX1_init 22 = .ok (.putfield 19, 3) := by decide +kernel
theorem dX1_init_25 : decode cX1_init 25 = .ok (.aload_n 0, 1) := by decide +kernel
theorem dX1_init_26 : decode cX1_init 26 = .ok (.iload 5, 2) := by decide +kernel
theorem dX1_init_28 : decode cX1_init 28 = .ok (.putfield 22, 3) := by decide +kernel
theorem dX1_init_31 : decode cX1_init 31 = .ok (.return_, 1) := by decide +kernel
theorem dX2_init_0 : decode cX2_init 0 = .ok (.aload_n 0, 1) := by decide +kernel
theorem dX2_init_1 : decode cX2_init 1 = .ok (.invokespecial 3, 3) := by decide +kernel
theorem dX2_init_4 : decode cX2_init 4 = .ok (.aload_n 0, 1) := by decide +kernel
theorem dX2_init_5 : decode cX2_init 5 = .ok (.bipush 16, 2) := by decide +kernel
theorem dX2_init_7 : decode cX2_init 7 = .ok (.newarray .int, 2) := by decide +kernel
theorem dX2_init_9 : decode cX2_init 9 = .ok (.putfield 9, 3) := by decide +kernel
theorem dX2_init_12 : decode cX2_init 12 = .ok (.aload_n 0, 1) := by decide +kernel
theorem dX2_init_13 : decode cX2_init 13 = .ok (.bipush 16, 2) := by decide +kernel
theorem dX2_init_15 : decode cX2_init 15 = .ok (.newarray .int, 2) := by decide +kernel
theorem dX2_init_17 : decode cX2_init 17 = .ok (.putfield 15, 3) := by decide +kernel
theorem dX2_init_20 : decode cX2_init 20 = .ok (.aload_n 0, 1) := by decide +kernel
theorem dX2_init_21 : decode cX2_init 21 = .ok (.bipush 16, 2) := by decide +kernel
theorem dX2_init_23 : decode cX2_init 23 = .ok (.newarray .int, 2) := by decide +kernel
theorem dX2_init_25 : decode cX2_init 25 = .ok (.putfield 18, 3) := by decide +kernel
theorem dX2_init_28 : decode cX2_init 28 = .ok (.aload_n 0, 1) := by decide +kernel
theorem dX2_init_29 : decode cX2_init 29 = .ok (.bipush 16, 2) := by decide +kernel
theorem dX2_init_31 : decode cX2_init 31 = .ok (.newarray .int, 2) := by decide +kernel
theorem dX2_init_33 : decode cX2_init 33 = .ok (.putfield 21, 3) := by decide +kernel
theorem dX2_init_36 : decode cX2_init 36 = .ok (.aload_n 0, 1) := by decide +kernel
theorem dX2_init_37 : decode cX2_init 37 = .ok (.getfield 15, 3) := by decide +kernel
theorem dX2_init_40 : decode cX2_init 40 = .ok (.bipush 10, 2) := by decide +kernel
theorem dX2_init_42 : decode cX2_init 42 = .ok (.invokestatic 24, 3) := by decide +kernel
theorem dX2_init_45 : decode cX2_init 45 = .ok (.return_, 1) := by decide +kernel
theorem dX2_height_0 : decode cX2_height 0 = .ok (.aload_n 0, 1) := by decide +kernel
theorem dX2_height_1 : decode cX2_height 1 = .ok (.getfield 15, 3) := by decide +kernel
theorem dX2_height_4 : decode cX2_height 4 = .ok (.iload_n 1, 1) := by decide +kernel
theorem dX2_height_5 : decode cX2_height 5 = .ok (.iaload, 1) := by decide +kernel
theorem dX2_height_6 : decode cX2_height 6 = .ok (.istore_n 2, 1) := by decide +kernel
theorem dX2_height_7 : decode cX2_height 7 = .ok (.iload_n 2, 1) := by decide +kernel
theorem dX2_height_8 : decode cX2_height 8 = .ok (.iconst 1, 1) := by decide +kernel
theorem dX2_height_9 : decode cX2_height 9 = .ok (.if_icmp .ge 12, 3) := by decide +kernel
theorem dX2_height_12 : decode cX2_height 12 = .ok (.aload_n 0, 1) := by decide +kernel
theorem dX2_height_13 : decode cX2_height 13 = .ok (.getfield 9, 3) := by decide +kernel
theorem dX2_height_16 : decode cX2_height 16 = .ok (.iload_n 1, 1) := by decide +kernel
theorem dX2_height_17 : decode cX2_height 17 = .ok (.iaload, 1) := by decide +kernel
theorem dX2_height_18 : decode cX2_height 18 = .ok (.goto 18, 3) := by decide +kernel
theorem dX2_height_21 : decode cX2_height 21 = .ok (.aload_n 0, 1) := by decide +kernel
theorem dX2_height_22 : decode cX2_height 22 = .ok (.getfield 9, 3) := by decide +kernel
theorem dX2_height_25 : decode cX2_height 25 = .ok (.iload_n 1, 1) := by decide +kernel
theorem dX2_height_26 : decode cX2_height 26 = .ok (.iaload, 1) := by decide +kernel
theorem dX2_height_27 : decode cX2_height 27 = .ok (.aload_n 0, 1) := by decide +kernel
theorem dX2_height_28 : decode cX2_height 28 = .ok (.getfield 18, 3) := by decide +kernel
theorem dX2_height_31 : decode cX2_height 31 = .ok (.iload_n 1, 1) := by decide +kernel
theorem dX2_height_32 : decode cX2_height 32 = .ok (.iaload, 1) := by decide +kernel
theorem dX2_height_33 : decode cX2_height 33 = .ok (.iload_n 2, 1) := by decide +kernel
theorem dX2_height_34 : decode cX2_height 34 = .ok (.idiv, 1) := by decide +kernel
theorem dX2_height_35 : decode cX2_height 35 = .ok (.iadd, 1) := by decide +kernel
theorem dX2_height_36 : decode cX2_height 36 = .ok (.ireturn, 1) := by decide +kernel
theorem dX2_takeOut_0 : decode cX2_takeOut 0 = .ok (.aload_n 0, 1) := by decide +kernel
theorem dX2_takeOut_1 : decode cX2_takeOut 1 = .ok (.getfield 18, 3) := by decide +kernel
theorem dX2_takeOut_4 : decode cX2_takeOut 4 = .ok (.iload_n 1, 1) := by decide +kernel
theorem dX2_takeOut_5 : decode cX2_takeOut 5 = .ok (.iaload, 1) := by decide +kernel
theorem dX2_takeOut_6 : decode cX2_takeOut 6 = .ok (.istore_n 3, 1) := by decide +kernel
theorem dX2_takeOut_7 : decode cX2_takeOut 7 = .ok (.iload_n 3, 1) := by decide +kernel
theorem dX2_takeOut_8 : decode cX2_takeOut 8 = .ok (.iconst 1, 1) := by decide +kernel
theorem dX2_takeOut_9 : decode cX2_takeOut 9 = .ok (.if_icmp .ge 5, 3) := by decide +kernel
theorem dX2_takeOut_12 : decode cX2_takeOut 12 = .ok (.iconst 0, 1) := by decide +kernel
theorem dX2_takeOut_13 : decode cX2_takeOut 13 = .ok (.ireturn, 1) := by decide +kernel
theorem dX2_takeOut_14 : decode cX2_takeOut 14 = .ok (.aload_n 0, 1) := by decide +kernel
theorem dX2_takeOut_15 : decode cX2_takeOut 15 = .ok (.getfield 21, 3) := by decide +kernel
theorem dX2_takeOut_18 : decode cX2_takeOut 18 = .ok (.iload_n 1, 1) := by decide +kernel
theorem dX2_takeOut_19 : decode cX2_takeOut 19 = .ok (.iaload, 1) := by decide +kernel
theorem dX2_takeOut_20 : decode cX2_takeOut 20 = .ok (.i2l, 1) := by decide +kernel
theorem dX2_takeOut_21 : decode cX2_takeOut 21 = .ok (.iload_n 2, 1) := by decide +kernel
theorem dX2_takeOut_22 : decode cX2_takeOut 22 = .ok (.i2l, 1) := by decide +kernel
theorem dX2_takeOut_23 : decode cX2_takeOut 23 = .ok (.lmul, 1) := by decide +kernel
theorem dX2_takeOut_24 : decode cX2_takeOut 24 = .ok (.iload_n 3, 1) := by decide +kernel
theorem dX2_takeOut_25 : decode cX2_takeOut 25 = .ok (.i2l, 1) := by decide +kernel
theorem dX2_takeOut_26 : decode cX2_takeOut 26 = .ok (.ldiv, 1) := by decide +kernel
theorem dX2_takeOut_27 : decode cX2_takeOut 27 = .ok (.l2i, 1) := by decide +kernel
theorem dX2_takeOut_28 : decode cX2_takeOut 28 = .ok (.istore 4, 2) := by decide +kernel
theorem dX2_takeOut_30 : decode cX2_takeOut 30 = .ok (.aload_n 0, 1) := by decide +kernel
theorem dX2_takeOut_31 : decode cX2_takeOut 31 = .ok (.getfield 18, 3) := by decide +kernel
theorem dX2_takeOut_34 : decode cX2_takeOut 34 = .ok (.iload_n 1, 1) := by decide +kernel
theorem dX2_takeOut_35 : decode cX2_takeOut 35 = .ok (.iload_n 3, 1) := by decide +kernel
theorem dX2_takeOut_36 : decode cX2_takeOut 36 = .ok (.iload_n 2, 1) := by decide +kernel
theorem dX2_takeOut_37 : decode cX2_takeOut 37 = .ok (.isub, 1) := by decide +kernel
theorem dX2_takeOut_38 : decode cX2_takeOut 38 = .ok (.iastore, 1) := by decide +kernel
theorem dX2_takeOut_39 : decode cX2_takeOut 39 = .ok (.aload_n 0, 1) := by decide +kernel
theorem dX2_takeOut_40 : decode cX2_takeOut 40 = .ok (.getfield 21, 3) := by decide +kernel
theorem dX2_takeOut_43 : decode cX2_takeOut 43 = .ok (.iload_n 1, 1) := by decide +kernel
theorem dX2_takeOut_44 : decode cX2_takeOut 44 = .ok (.dup2, 1) := by decide +kernel
theorem dX2_takeOut_45 : decode cX2_takeOut 45 = .ok (.iaload, 1) := by decide +kernel
theorem dX2_takeOut_46 : decode cX2_takeOut 46 = .ok (.iload 4, 2) := by decide +kernel
theorem dX2_takeOut_48 : decode cX2_takeOut 48 = .ok (.isub, 1) := by decide +kernel
theorem dX2_takeOut_49 : decode cX2_takeOut 49 = .ok (.iastore, 1) := by decide +kernel
theorem dX2_takeOut_50 : decode cX2_takeOut 50 = .ok (.iload 4, 2) := by decide +kernel
theorem dX2_takeOut_52 : decode cX2_takeOut 52 = .ok (.ireturn, 1) := by decide +kernel
theorem dX2_waterInAll_0 : decode cX2_waterInAll 0 = .ok (.lconst 0, 1) := by decide +kernel
theorem dX2_waterInAll_1 : decode cX2_waterInAll 1 = .ok (.lstore_n 1, 1) := by decide +kernel
theorem dX2_waterInAll_2 : decode cX2_waterInAll 2 = .ok (.iconst 0, 1) := by decide +kernel
theorem dX2_waterInAll_3 : decode cX2_waterInAll 3 = .ok (.istore_n 3, 1) := by decide +kernel
theorem dX2_waterInAll_4 : decode cX2_waterInAll 4 = .ok (.iload_n 3, 1) := by decide +kernel
theorem dX2_waterInAll_5 : decode cX2_waterInAll 5 = .ok (.bipush 16, 2) := by decide +kernel
theorem dX2_waterInAll_7 : decode cX2_waterInAll 7 = .ok (.if_icmp .ge 19, 3) := by decide +kernel
theorem dX2_waterInAll_10 : decode cX2_waterInAll 10 = .ok (.lload_n 1, 1) := by decide +kernel
theorem dX2_waterInAll_11 : decode cX2_waterInAll 11 = .ok (.aload_n 0, 1) := by decide +kernel
theorem dX2_waterInAll_12 : decode cX2_waterInAll 12 = .ok (.getfield 18, 3) := by decide +kernel
theorem dX2_waterInAll_15 : decode cX2_waterInAll 15 = .ok (.iload_n 3, 1) := by decide +kernel
theorem dX2_waterInAll_16 : decode cX2_waterInAll 16 = .ok (.iaload, 1) := by decide +kernel
theorem dX2_waterInAll_17 : decode cX2_waterInAll 17 = .ok (.i2l, 1) := by decide +kernel
theorem dX2_waterInAll_18 : decode cX2_waterInAll 18 = .ok (.ladd, 1) := by decide +kernel
theorem dX2_waterInAll_19 : decode cX2_waterInAll 19 = .ok (.lstore_n 1, 1) := by decide +kernel
theorem dX2_waterInAll_20 : decode cX2_waterInAll 20 = .ok (.iinc 3 1, 3) := by decide +kernel
theorem dX2_waterInAll_23 : decode cX2_waterInAll 23 = .ok (.goto (-19), 3) := by decide +kernel
theorem dX2_waterInAll_26 : decode cX2_waterInAll 26 = .ok (.lload_n 1, 1) := by decide +kernel
theorem dX2_waterInAll_27 : decode cX2_waterInAll 27 = .ok (.lreturn, 1) := by decide +kernel
theorem dX2_sameWater_0 : decode cX2_sameWater 0 = .ok (.iconst 0, 1) := by decide +kernel
theorem dX2_sameWater_1 : decode cX2_sameWater 1 = .ok (.istore_n 2, 1) := by decide +kernel
theorem dX2_sameWater_2 : decode cX2_sameWater 2 = .ok (.iload_n 2, 1) := by decide +kernel
theorem dX2_sameWater_3 : decode cX2_sameWater 3 = .ok (.bipush 16, 2) := by decide +kernel
theorem dX2_sameWater_5 : decode cX2_sameWater 5 = .ok (.if_icmp .ge 26, 3) := by decide +kernel
theorem dX2_sameWater_8 : decode cX2_sameWater 8 = .ok (.aload_n 0, 1) := by decide +kernel
theorem dX2_sameWater_9 : decode cX2_sameWater 9 = .ok (.getfield 18, 3) := by decide +kernel
theorem dX2_sameWater_12 : decode cX2_sameWater 12 = .ok (.iload_n 2, 1) := by decide +kernel
theorem dX2_sameWater_13 : decode cX2_sameWater 13 = .ok (.iaload, 1) := by decide +kernel
theorem dX2_sameWater_14 : decode cX2_sameWater 14 = .ok (.aload_n 1, 1) := by decide +kernel
theorem dX2_sameWater_15 : decode cX2_sameWater 15 = .ok (.getfield 18, 3) := by decide +kernel
theorem dX2_sameWater_18 : decode cX2_sameWater 18 = .ok (.iload_n 2, 1) := by decide +kernel
theorem dX2_sameWater_19 : decode cX2_sameWater 19 = .ok (.iaload, 1) := by decide +kernel
theorem dX2_sameWater_20 : decode cX2_sameWater 20 = .ok (.if_icmp .eq 5, 3) := by decide +kernel
theorem dX2_sameWater_23 : decode cX2_sameWater 23 = .ok (.iconst 0, 1) := by decide +kernel
theorem dX2_sameWater_24 : decode cX2_sameWater 24 = .ok (.ireturn, 1) := by decide +kernel
theorem dX2_sameWater_25 : decode cX2_sameWater 25 = .ok (.iinc 2 1, 3) := by decide +kernel
theorem dX2_sameWater_28 : decode cX2_sameWater 28 = .ok (.goto (-26), 3) := by decide +kernel
theorem dX2_sameWater_31 : decode cX2_sameWater 31 = .ok (.iconst 1, 1) := by decide +kernel
theorem dX2_sameWater_32 : decode cX2_sameWater 32 = .ok (.ireturn, 1) := by decide +kernel
theorem dX3_init_0 : decode cX3_init 0 = .ok (.aload_n 0, 1) := by decide +kernel
theorem dX3_init_1 : decode cX3_init 1 = .ok (.invokespecial 3, 3) := by decide +kernel
theorem dX3_init_4 : decode cX3_init 4 = .ok (.aload_n 0, 1) := by decide +kernel
theorem dX3_init_5 : decode cX3_init 5 = .ok (.bipush 8, 2) := by decide +kernel
theorem dX3_init_7 : decode cX3_init 7 = .ok (.newarray .int, 2) := by decide +kernel
theorem dX3_init_9 : decode cX3_init 9 = .ok (.putfield 9, 3) := by decide +kernel
theorem dX3_init_12 : decode cX3_init 12 = .ok (.aload_n 0, 1) := by decide +kernel
theorem dX3_init_13 : decode cX3_init 13 = .ok (.iconst 2, 1) := by decide +kernel
theorem dX3_init_14 : decode cX3_init 14 = .ok (.newarray .int, 2) := by decide +kernel
theorem dX3_init_16 : decode cX3_init 16 = .ok (.putfield 15, 3) := by decide +kernel
theorem dX3_init_19 : decode cX3_init 19 = .ok (.aload_n 0, 1) := by decide +kernel
theorem dX3_init_20 : decode cX3_init 20 = .ok (.bipush 8, 2) := by decide +kernel
theorem dX3_init_22 : decode cX3_init 22 = .ok (.newarray .int, 2) := by decide +kernel
theorem dX3_init_24 : decode cX3_init 24 = .ok (.putfield 18, 3) := by decide +kernel
theorem dX3_init_27 : decode cX3_init 27 = .ok (.aload_n 0, 1) := by decide +kernel
theorem dX3_init_28 : decode cX3_init 28 = .ok (.bipush 8, 2) := by decide +kernel
theorem dX3_init_30 : decode cX3_init 30 = .ok (.newarray .int, 2) := by decide +kernel
theorem dX3_init_32 : decode cX3_init 32 = .ok (.putfield 21, 3) := by decide +kernel
theorem dX3_init_35 : decode cX3_init 35 = .ok (.aload_n 0, 1) := by decide +kernel
theorem dX3_init_36 : decode cX3_init 36 = .ok (.bipush 8, 2) := by decide +kernel
theorem dX3_init_38 : decode cX3_init 38 = .ok (.newarray .int, 2) := by decide +kernel
theorem dX3_init_40 : decode cX3_init 40 = .ok (.putfield 24, 3) := by decide +kernel
theorem dX3_init_43 : decode cX3_init 43 = .ok (.aload_n 0, 1) := by decide +kernel
theorem dX3_init_44 : decode cX3_init 44 = .ok (.bipush 8, 2) := by decide +kernel
theorem dX3_init_46 : decode cX3_init 46 = .ok (.newarray .int, 2) := by decide +kernel
theorem dX3_init_48 : decode cX3_init 48 = .ok (.putfield 27, 3) := by decide +kernel
theorem dX3_init_51 : decode cX3_init 51 = .ok (.aload_n 0, 1) := by decide +kernel
theorem dX3_init_52 : decode cX3_init 52 = .ok (.getfield 9, 3) := by decide +kernel
theorem dX3_init_55 : decode cX3_init 55 = .ok (.bipush 100, 2) := by decide +kernel
theorem dX3_init_57 : decode cX3_init 57 = .ok (.invokestatic 30, 3) := by decide +kernel
theorem dX3_init_60 : decode cX3_init 60 = .ok (.aload_n 0, 1) := by decide +kernel
theorem dX3_init_61 : decode cX3_init 61 = .ok (.getfield 15, 3) := by decide +kernel
theorem dX3_init_64 : decode cX3_init 64 = .ok (.iconst 4, 1) := by decide +kernel
theorem dX3_init_65 : decode cX3_init 65 = .ok (.invokestatic 30, 3) := by decide +kernel
theorem dX3_init_68 : decode cX3_init 68 = .ok (.return_, 1) := by decide +kernel
theorem dX4_init_0 : decode cX4_init 0 = .ok (.aload_n 0, 1) := by decide +kernel
theorem dX4_init_1 : decode cX4_init 1 = .ok (.invokespecial 3, 3) := by decide +kernel
theorem dX4_init_4 : decode cX4_init 4 = .ok (.aload_n 0, 1) := by decide +kernel
theorem dX4_init_5 : decode cX4_init 5 = .ok (.bipush 6, 2) := by decide +kernel
theorem dX4_init_7 : decode cX4_init 7 = .ok (.newarray .int, 2) := by decide +kernel
theorem dX4_init_9 : decode cX4_init 9 = .ok (.putfield 9, 3) := by decide +kernel
theorem dX4_init_12 : decode cX4_init 12 = .ok (.aload_n 0, 1) := by decide +kernel
theorem dX4_init_13 : decode cX4_init 13 = .ok (.bipush 6, 2) := by decide +kernel
theorem dX4_init_15 : decode cX4_init 15 = .ok (.newarray .int, 2) := by decide +kernel
theorem dX4_init_17 : decode cX4_init 17 = .ok (.putfield 15, 3) := by decide +kernel
theorem dX4_init_20 : decode cX4_init 20 = .ok (.aload_n 0, 1) := by decide +kernel
theorem dX4_init_21 : decode cX4_init 21 = .ok (.bipush 6, 2) := by decide +kernel
theorem dX4_init_23 : decode cX4_init 23 = .ok (.newarray .int, 2) := by decide +kernel
theorem dX4_init_25 : decode cX4_init 25 = .ok (.putfield 18, 3) := by decide +kernel
theorem dX4_init_28 : decode cX4_init 28 = .ok (.aload_n 0, 1) := by decide +kernel
theorem dX4_init_29 : decode cX4_init 29 = .ok (.bipush 6, 2) := by decide +kernel
theorem dX4_init_31 : decode cX4_init 31 = .ok (.newarray .int, 2) := by decide +kernel
theorem dX4_init_33 : decode cX4_init 33 = .ok (.putfield 21, 3) := by decide +kernel
theorem dX4_init_36 : decode cX4_init 36 = .ok (.aload_n 0, 1) := by decide +kernel
theorem dX4_init_37 : decode cX4_init 37 = .ok (.bipush 6, 2) := by decide +kernel
theorem dX4_init_39 : decode cX4_init 39 = .ok (.newarray .int, 2) := by decide +kernel
theorem dX4_init_41 : decode cX4_init 41 = .ok (.putfield 24, 3) := by decide +kernel
theorem dX4_init_44 : decode cX4_init 44 = .ok (.aload_n 0, 1) := by decide +kernel
theorem dX4_init_45 : decode cX4_init 45 = .ok (.bipush 6, 2) := by decide +kernel
theorem dX4_init_47 : decode cX4_init 47 = .ok (.newarray .long, 2) := by decide +kernel
theorem dX4_init_49 : decode cX4_init 49 = .ok (.putfield 27, 3) := by decide +kernel
theorem dX4_init_52 : decode cX4_init 52 = .ok (.aload_n 0, 1) := by decide +kernel
theorem dX4_init_53 : decode cX4_init 53 = .ok (.bipush 6, 2) := by decide +kernel
theorem dX4_init_55 : decode cX4_init 55 = .ok (.newarray .boolean, 2) := by decide +kernel
theorem dX4_init_57 : decode cX4_init 57 = .ok (.putfield 31, 3) := by decide +kernel
theorem dX4_init_60 : decode cX4_init 60 = .ok (.aload_n 0, 1) := by decide +kernel
theorem dX4_init_61 : decode cX4_init 61 = .ok (.bipush 6, 2) := by decide +kernel
theorem dX4_init_63 : decode cX4_init 63 = .ok (.newarray .int, 2) := by decide +kernel
theorem dX4_init_65 : decode cX4_init 65 = .ok (.putfield 35, 3) := by decide +kernel
theorem dX4_init_68 : decode cX4_init 68 = .ok (.aload_n 0, 1) := by decide +kernel
theorem dX4_init_69 : decode cX4_init 69 = .ok (.bipush 6, 2) := by decide +kernel
theorem dX4_init_71 : decode cX4_init 71 = .ok (.newarray .int, 2) := by decide +kernel
theorem dX4_init_73 : decode cX4_init 73 = .ok (.putfield 38, 3) := by decide +kernel
theorem dX4_init_76 : decode cX4_init 76 = .ok (.aload_n 0, 1) := by decide +kernel
theorem dX4_init_77 : decode cX4_init 77 = .ok (.bipush 6, 2) := by decide +kernel
theorem dX4_init_79 : decode cX4_init 79 = .ok (.newarray .int, 2) := by decide +kernel
theorem dX4_init_81 : decode cX4_init 81 = .ok (.putfield 41, 3) := by decide +kernel
theorem dX4_init_84 : decode cX4_init 84 = .ok (.return_, 1) := by decide +kernel
theorem dX4_add_0 : decode cX4_add 0 = .ok (.aload_n 0, 1) := by decide +kernel
theorem dX4_add_1 : decode cX4_add 1 = .ok (.getfield 44, 3) := by decide +kernel
theorem dX4_add_4 : decode cX4_add 4 = .ok (.bipush 6, 2) := by decide +kernel
theorem dX4_add_6 : decode cX4_add 6 = .ok (.if_icmp .lt 4, 3) := by decide +kernel
theorem dX4_add_9 : decode cX4_add 9 = .ok (.return_, 1) := by decide +kernel
theorem dX4_add_10 : decode cX4_add 10 = .ok (.aload_n 0, 1) := by decide +kernel
theorem dX4_add_11 : decode cX4_add 11 = .ok (.getfield 9, 3) := by decide +kernel
theorem dX4_add_14 : decode cX4_add 14 = .ok (.aload_n 0, 1) := by decide +kernel
theorem dX4_add_15 : decode cX4_add 15 = .ok (.getfield 44, 3) := by decide +kernel
theorem dX4_add_18 : decode cX4_add 18 = .ok (.iload_n 1, 1) := by decide +kernel
theorem dX4_add_19 : decode cX4_add 19 = .ok (.iastore, 1) := by decide +kernel
theorem dX4_add_20 : decode cX4_add 20 = .ok (.aload_n 0, 1) := by decide +kernel
theorem dX4_add_21 : decode cX4_add 21 = .ok (.getfield 15, 3) := by decide +kernel
theorem dX4_add_24 : decode cX4_add 24 = .ok (.aload_n 0, 1) := by decide +kernel
theorem dX4_add_25 : decode cX4_add 25 = .ok (.getfield 44, 3) := by decide +kernel
theorem dX4_add_28 : decode cX4_add 28 = .ok (.iload_n 2, 1) := by decide +kernel
theorem dX4_add_29 : decode cX4_add 29 = .ok (.iastore, 1) := by decide +kernel
theorem dX4_add_30 : decode cX4_add 30 = .ok (.aload_n 0, 1) := by decide +kernel
theorem dX4_add_31 : decode cX4_add 31 = .ok (.getfield 18, 3) := by decide +kernel
theorem dX4_add_34 : decode cX4_add 34 = .ok (.aload_n 0, 1) := by decide +kernel
theorem dX4_add_35 : decode cX4_add 35 = .ok (.getfield 44, 3) := by decide +kernel
theorem dX4_add_38 : decode cX4_add 38 = .ok (.iload_n 3, 1) := by decide +kernel
theorem dX4_add_39 : decode cX4_add 39 = .ok (.iastore, 1) := by decide +kernel
theorem dX4_add_40 : decode cX4_add 40 = .ok (.aload_n 0, 1) := by decide +kernel
theorem dX4_add_41 : decode cX4_add 41 = .ok (.getfield 44, 3) := by decide +kernel
theorem dX4_add_44 : decode cX4_add 44 = .ok (.istore 4, 2) := by decide +kernel
theorem dX4_add_46 : decode cX4_add 46 = .ok (.iload 4, 2) := by decide +kernel
theorem dX4_add_48 : decode cX4_add 48 = .ok (.ifCond .le 43, 3) := by decide +kernel
theorem dX4_add_51 : decode cX4_add 51 = .ok (.aload_n 0, 1) := by decide +kernel
theorem dX4_add_52 : decode cX4_add 52 = .ok (.getfield 15, 3) := by decide +kernel
theorem dX4_add_55 : decode cX4_add 55 = .ok (.aload_n 0, 1) := by decide +kernel
theorem dX4_add_56 : decode cX4_add 56 = .ok (.getfield 41, 3) := by decide +kernel
theorem dX4_add_59 : decode cX4_add 59 = .ok (.iload 4, 2) := by decide +kernel
theorem dX4_add_61 : decode cX4_add 61 = .ok (.iconst 1, 1) := by decide +kernel
theorem dX4_add_62 : decode cX4_add 62 = .ok (.isub, 1) := by decide +kernel
theorem dX4_add_63 : decode cX4_add 63 = .ok (.iaload, 1) := by decide +kernel
theorem dX4_add_64 : decode cX4_add 64 = .ok (.iaload, 1) := by decide +kernel
theorem dX4_add_65 : decode cX4_add 65 = .ok (.iload_n 2, 1) := by decide +kernel
theorem dX4_add_66 : decode cX4_add 66 = .ok (.if_icmp .le 25, 3) := by decide +kernel
theorem dX4_add_69 : decode cX4_add 69 = .ok (.aload_n 0, 1) := by decide +kernel
theorem dX4_add_70 : decode cX4_add 70 = .ok (.getfield 41, 3) := by decide +kernel
theorem dX4_add_73 : decode cX4_add 73 = .ok (.iload 4, 2) := by decide +kernel
theorem dX4_add_75 : decode cX4_add 75 = .ok (.aload_n 0, 1) := by decide +kernel
theorem dX4_add_76 : decode cX4_add 76 = .ok (.getfield 41, 3) := by decide +kernel
theorem dX4_add_79 : decode cX4_add 79 = .ok (.iload 4, 2) := by decide +kernel
theorem dX4_add_81 : decode cX4_add 81 = .ok (.iconst 1, 1) := by decide +kernel
theorem dX4_add_82 : decode cX4_add 82 = .ok (.isub, 1) := by decide +kernel
theorem dX4_add_83 : decode cX4_add 83 = .ok (.iaload, 1) := by decide +kernel
theorem dX4_add_84 : decode cX4_add 84 = .ok (.iastore, 1) := by decide +kernel
theorem dX4_add_85 : decode cX4_add 85 = .ok (.iinc 4 (-1), 3) := by decide +kernel
theorem dX4_add_88 : decode cX4_add 88 = .ok (.goto (-42), 3) := by decide +kernel
theorem dX4_add_91 : decode cX4_add 91 = .ok (.aload_n 0, 1) := by decide +kernel
theorem dX4_add_92 : decode cX4_add 92 = .ok (.getfield 41, 3) := by decide +kernel
theorem dX4_add_95 : decode cX4_add 95 = .ok (.iload 4, 2) := by decide +kernel
theorem dX4_add_97 : decode cX4_add 97 = .ok (.aload_n 0, 1) := by decide +kernel
theorem dX4_add_98 : decode cX4_add 98 = .ok (.getfield 44, 3) := by decide +kernel
theorem dX4_add_101 : decode cX4_add 101 = .ok (.iastore, 1) := by decide +kernel
theorem dX4_add_102 : decode cX4_add 102 = .ok (.aload_n 0, 1) := by decide +kernel
theorem dX4_add_103 : decode cX4_add 103 = .ok (.dup, 1) := by decide +kernel
theorem dX4_add_104 : decode cX4_add 104 = .ok (.getfield 44, 3) := by decide +kernel
theorem dX4_add_107 : decode cX4_add 107 = .ok (.iconst 1, 1) := by decide +kernel
theorem dX4_add_108 : decode cX4_add 108 = .ok (.iadd, 1) := by decide +kernel
theorem dX4_add_109 : decode cX4_add 109 = .ok (.putfield 44, 3) := by decide +kernel
theorem dX4_add_112 : decode cX4_add 112 = .ok (.return_, 1) := by decide +kernel
theorem dX4_canGive_0 : decode cX4_canGive 0 = .ok (.iload_n 1, 1) := by decide +kernel
theorem dX4_canGive_1 : decode cX4_canGive 1 = .ok (.iload_n 2, 1) := by decide +kernel
theorem dX4_canGive_2 : decode cX4_canGive 2 = .ok (.if_icmp .eq 31, 3) := by decide +kernel
theorem dX4_canGive_5 : decode cX4_canGive 5 = .ok (.aload_n 0, 1) := by decide +kernel
theorem dX4_canGive_6 : decode cX4_canGive 6 = .ok (.getfield 18, 3) := by decide +kernel
theorem dX4_canGive_9 : decode cX4_canGive 9 = .ok (.iload_n 1, 1) := by decide +kernel
theorem dX4_canGive_10 : decode cX4_canGive 10 = .ok (.iaload, 1) := by decide +kernel
theorem dX4_canGive_11 : decode cX4_canGive 11 = .ok (.iload_n 3, 1) := by decide +kernel
theorem dX4_canGive_12 : decode cX4_canGive 12 = .ok (.if_icmp .lt 21, 3) := by decide +kernel
theorem dX4_canGive_15 : decode cX4_canGive 15 = .ok (.aload_n 0, 1) := by decide +kernel
theorem dX4_canGive_16 : decode cX4_canGive 16 = .ok (.getfield 18, 3) := by decide +kernel
theorem dX4_canGive_19 : decode cX4_canGive 19 = .ok (.iload_n 2, 1) := by decide +kernel
theorem dX4_canGive_20 : decode cX4_canGive 20 = .ok (.iaload, 1) := by decide +kernel
theorem dX4_canGive_21 : decode cX4_canGive 21 = .ok (.iload_n 3, 1) := by decide +kernel
theorem dX4_canGive_22 : decode cX4_canGive 22 = .ok (.iadd, 1) := by decide +kernel
theorem dX4_canGive_23 : decode cX4_canGive 23 = .ok (.sipush 999, 3) := by decide +kernel
theorem dX4_canGive_26 : decode cX4_canGive 26 = .ok (.if_icmp .gt 7, 3) := by decide +kernel
theorem dX4_canGive_29 : decode cX4_canGive 29 = .ok (.iconst 1, 1) := by decide +kernel
theorem dX4_canGive_30 : decode cX4_canGive 30 = .ok (.goto 4, 3) := by decide +kernel
theorem dX4_canGive_33 : decode cX4_canGive 33 = .ok (.iconst 0, 1) := by decide +kernel
theorem dX4_canGive_34 : decode cX4_canGive 34 = .ok (.ireturn, 1) := by decide +kernel
theorem dX4_give_0 : decode cX4_give 0 = .ok (.aload_n 0, 1) := by decide +kernel
theorem dX4_give_1 : decode cX4_give 1 = .ok (.getfield 18, 3) := by decide +kernel
theorem dX4_give_4 : decode cX4_give 4 = .ok (.iload_n 1, 1) := by decide +kernel
theorem dX4_give_5 : decode cX4_give 5 = .ok (.dup2, 1) := by decide +kernel
theorem dX4_give_6 : decode cX4_give 6 = .ok (.iaload, 1) := by decide +kernel
theorem dX4_give_7 : decode cX4_give 7 = .ok (.iload_n 3, 1) := by decide +kernel
theorem dX4_give_8 : decode cX4_give 8 = .ok (.isub, 1) := by decide +kernel
theorem dX4_give_9 : decode cX4_give 9 = .ok (.iastore, 1) := by decide +kernel
theorem dX4_give_10 : decode cX4_give 10 = .ok (.aload_n 0, 1) := by decide +kernel
theorem dX4_give_11 : decode cX4_give 11 = .ok (.getfield 18, 3) := by decide +kernel
theorem dX4_give_14 : decode cX4_give 14 = .ok (.iload_n 2, 1) := by decide +kernel
theorem dX4_give_15 : decode cX4_give 15 = .ok (.dup2, 1) := by decide +kernel
theorem dX4_give_16 : decode cX4_give 16 = .ok (.iaload, 1) := by decide +kernel
theorem dX4_give_17 : decode cX4_give 17 = .ok (.iload_n 3, 1) := by decide +kernel
theorem dX4_give_18 : decode cX4_give 18 = .ok (.iadd, 1) := by decide +kernel
theorem dX4_give_19 : decode cX4_give 19 = .ok (.iastore, 1) := by decide +kernel
theorem dX4_give_20 : decode cX4_give 20 = .ok (.aload_n 0, 1) := by decide +kernel
theorem dX4_give_21 : decode cX4_give 21 = .ok (.getfield 38, 3) := by decide +kernel
theorem dX4_give_24 : decode cX4_give 24 = .ok (.iload_n 1, 1) := by decide +kernel
theorem dX4_give_25 : decode cX4_give 25 = .ok (.dup2, 1) := by decide +kernel
theorem dX4_give_26 : decode cX4_give 26 = .ok (.iaload, 1) := by decide +kernel
theorem dX4_give_27 : decode cX4_give 27 = .ok (.iload_n 3, 1) := by decide +kernel
theorem dX4_give_28 : decode cX4_give 28 = .ok (.iadd, 1) := by decide +kernel
theorem dX4_give_29 : decode cX4_give 29 = .ok (.iastore, 1) := by decide +kernel
theorem dX4_give_30 : decode cX4_give 30 = .ok (.return_, 1) := by decide +kernel
theorem dX4_wanted_0 : decode cX4_wanted 0 = .ok (.aload_n 0, 1) := by decide +kernel
theorem dX4_wanted_1 : decode cX4_wanted 1 = .ok (.getfield 18, 3) := by decide +kernel
theorem dX4_wanted_4 : decode cX4_wanted 4 = .ok (.iload_n 1, 1) := by decide +kernel
theorem dX4_wanted_5 : decode cX4_wanted 5 = .ok (.iaload, 1) := by decide +kernel
theorem dX4_wanted_6 : decode cX4_wanted 6 = .ok (.aload_n 0, 1) := by decide +kernel
theorem dX4_wanted_7 : decode cX4_wanted 7 = .ok (.getfield 24, 3) := by decide +kernel
theorem dX4_wanted_10 : decode cX4_wanted 10 = .ok (.iload_n 1, 1) := by decide +kernel
theorem dX4_wanted_11 : decode cX4_wanted 11 = .ok (.iaload, 1) := by decide +kernel
theorem dX4_wanted_12 : decode cX4_wanted 12 = .ok (.isub, 1) := by decide +kernel
theorem dX4_wanted_13 : decode cX4_wanted 13 = .ok (.istore_n 2, 1) := by decide +kernel
theorem dX4_wanted_14 : decode cX4_wanted 14 = .ok (.iconst 0, 1) := by decide +kernel
theorem dX4_wanted_15 : decode cX4_wanted 15 = .ok (.aload_n 0, 1) := by decide +kernel
theorem dX4_wanted_16 : decode cX4_wanted 16 = .ok (.getfield 21, 3) := by decide +kernel
theorem dX4_wanted_19 : decode cX4_wanted 19 = .ok (.iload_n 1, 1) := by decide +kernel
theorem dX4_wanted_20 : decode cX4_wanted 20 = .ok (.iaload, 1) := by decide +kernel
theorem dX4_wanted_21 : decode cX4_wanted 21 = .ok (.iload_n 2, 1) := by decide +kernel
theorem dX4_wanted_22 : decode cX4_wanted 22 = .ok (.invokestatic 48, 3) := by decide +kernel
theorem dX4_wanted_25 : decode cX4_wanted 25 = .ok (.invokestatic 54, 3) := by decide +kernel
theorem dX4_wanted_28 : decode cX4_wanted 28 = .ok (.ireturn, 1) := by decide +kernel
theorem dX4_shutYounger_0 : decode cX4_shutYounger 0 = .ok (.aload_n 0, 1) := by decide +kernel
theorem dX4_shutYounger_1 : decode cX4_shutYounger 1 = .ok (.getfield 9, 3) := by decide +kernel
theorem dX4_shutYounger_4 : decode cX4_shutYounger 4 = .ok (.aload_n 0, 1) := by decide +kernel
theorem dX4_shutYounger_5 : decode cX4_shutYounger 5 = .ok (.getfield 41, 3) := by decide +kernel
theorem dX4_shutYounger_8 : decode cX4_shutYounger 8 = .ok (.iload_n 1, 1) := by decide +kernel
theorem dX4_shutYounger_9 : decode cX4_shutYounger 9 = .ok (.iaload, 1) := by decide +kernel
theorem dX4_shutYounger_10 : decode cX4_shutYounger 10 = .ok (.iaload, 1) := by decide +kernel
theorem dX4_shutYounger_11 : decode cX4_shutYounger 11 = .ok (.istore_n 2, 1) := by decide +kernel
theorem dX4_shutYounger_12 : decode cX4_shutYounger 12 = .ok (.iload_n 1, 1) := by decide +kernel
theorem dX4_shutYounger_13 : decode cX4_shutYounger 13 = .ok (.iconst 1, 1) := by decide +kernel
theorem dX4_shutYounger_14 : decode cX4_shutYounger 14 = .ok (.iadd, 1) := by decide +kernel
theorem dX4_shutYounger_15 : decode cX4_shutYounger 15 = .ok (.istore_n 3, 1) := by decide +kernel
theorem dX4_shutYounger_16 : decode cX4_shutYounger 16 = .ok (.iload_n 3, 1) := by decide +kernel
theorem dX4_shutYounger_17 : decode cX4_shutYounger 17 = .ok (.aload_n 0, 1) := by decide +kernel
theorem dX4_shutYounger_18 : decode cX4_shutYounger 18 = .ok (.getfield 44, 3) := by decide +kernel
theorem dX4_shutYounger_21 : decode cX4_shutYounger 21 = .ok (.if_icmp .ge 70, 3) := by decide +kernel
theorem dX4_shutYounger_24 : decode cX4_shutYounger 24 = .ok (.aload_n 0, 1) := by decide +kernel
theorem dX4_shutYounger_25 : decode cX4_shutYounger 25 = .ok (.getfield 41, 3) := by decide +kernel
theorem dX4_shutYounger_28 : decode cX4_shutYounger 28 = .ok (.iload_n 3, 1) := by decide +kernel
theorem dX4_shutYounger_29 : decode cX4_shutYounger 29 = .ok (.iaload, 1) := by decide +kernel
theorem dX4_shutYounger_30 : decode cX4_shutYounger 30 = .ok (.istore 4, 2) := by decide +kernel
theorem dX4_shutYounger_32 : decode cX4_shutYounger 32 = .ok (.aload_n 0, 1) := by decide +kernel
theorem dX4_shutYounger_33 : decode cX4_shutYounger 33 = .ok (.getfield 9, 3) := by decide +kernel
theorem dX4_shutYounger_36 : decode cX4_shutYounger 36 = .ok (.iload 4, 2) := by decide +kernel
theorem dX4_shutYounger_38 : decode cX4_shutYounger 38 = .ok (.iaload, 1) := by decide +kernel
theorem dX4_shutYounger_39 : decode cX4_shutYounger 39 = .ok (.bipush 8, 2) := by decide +kernel
theorem dX4_shutYounger_41 : decode cX4_shutYounger 41 = .ok (.idiv, 1) := by decide +kernel
theorem dX4_shutYounger_42 : decode cX4_shutYounger 42 = .ok (.iload_n 2, 1) := by decide +kernel
theorem dX4_shutYounger_43 : decode cX4_shutYounger 43 = .ok (.bipush 8, 2) := by decide +kernel
theorem dX4_shutYounger_45 : decode cX4_shutYounger 45 = .ok (.idiv, 1) := by decide +kernel
theorem dX4_shutYounger_46 : decode cX4_shutYounger 46 = .ok (.if_icmp .ne 7, 3) := by decide +kernel
theorem dX4_shutYounger_49 : decode cX4_shutYounger 49 = .ok (.iconst 1, 1) := by decide +kernel
theorem dX4_shutYounger_50 : decode cX4_shutYounger 50 = .ok (.goto 4, 3) := by decide +kernel
theorem dX4_shutYounger_53 : decode cX4_shutYounger 53 = .ok (.iconst 0, 1) := by decide +kernel
theorem dX4_shutYounger_54 : decode cX4_shutYounger 54 = .ok (.istore 5, 2) := by decide +kernel
theorem dX4_shutYounger_56 : decode cX4_shutYounger 56 = .ok (.iload 5, 2) := by decide +kernel
theorem dX4_shutYounger_58 : decode cX4_shutYounger 58 = .ok (.ifCond .eq 27, 3) := by decide +kernel
theorem dX4_shutYounger_61 : decode cX4_shutYounger 61 = .ok (.aload_n 0, 1) := by decide +kernel
theorem dX4_shutYounger_62 : decode cX4_shutYounger 62 = .ok (.getfield 9, 3) := by decide +kernel
theorem dX4_shutYounger_65 : decode cX4_shutYounger 65 = .ok (.iload 4, 2) := by decide +kernel
theorem dX4_shutYounger_67 : decode cX4_shutYounger 67 = .ok (.iaload, 1) := by decide +kernel
theorem dX4_shutYounger_68 : decode cX4_shutYounger 68 = .ok (.iload_n 2, 1) := by decide +kernel
theorem dX4_shutYounger_69 : decode cX4_shutYounger 69 = .ok (.isub, 1) := by decide +kernel
theorem dX4_shutYounger_70 : decode cX4_shutYounger 70 = .ok (.invokestatic 57, 3) := by decide +kernel
theorem dX4_shutYounger_73 : decode cX4_shutYounger 73 = .ok (.iconst 2, 1) := by decide +kernel
theorem dX4_shutYounger_74 : decode cX4_shutYounger 74 = .ok (.if_icmp .gt 11, 3) := by decide +kernel
theorem dX4_shutYounger_77 : decode cX4_shutYounger 77 = .ok (.aload_n 0, 1) := by decide +kernel
theorem dX4_shutYounger_78 : decode cX4_shutYounger 78 = .ok (.getfield 31, 3) := by decide +kernel
theorem dX4_shutYounger_81 : decode cX4_shutYounger 81 = .ok (.iload 4, 2) := by decide +kernel
theorem dX4_shutYounger_83 : decode cX4_shutYounger 83 = .ok (.iconst 1, 1) := by decide +kernel
theorem dX4_shutYounger_84 : decode cX4_shutYounger 84 = .ok (.bastore, 1) := by decide +kernel
theorem dX4_shutYounger_85 : decode cX4_shutYounger 85 = .ok (.iinc 3 1, 3) := by decide +kernel
theorem dX4_shutYounger_88 : decode cX4_shutYounger 88 = .ok (.goto (-72), 3) := by decide +kernel
theorem dX4_shutYounger_91 : decode cX4_shutYounger 91 = .ok (.return_, 1) := by decide +kernel
theorem dX4_forfeits_0 : decode cX4_forfeits 0 = .ok (.aload_n 0, 1) := by decide +kernel
theorem dX4_forfeits_1 : decode cX4_forfeits 1 = .ok (.getfield 24, 3) := by decide +kernel
theorem dX4_forfeits_4 : decode cX4_forfeits 4 = .ok (.iload_n 1, 1) := by decide +kernel
theorem dX4_forfeits_5 : decode cX4_forfeits 5 = .ok (.iaload, 1) := by decide +kernel
theorem dX4_forfeits_6 : decode cX4_forfeits 6 = .ok (.ifCond .ne 16, 3) := by decide +kernel
theorem dX4_forfeits_9 : decode cX4_forfeits 9 = .ok (.aload_n 0, 1) := by decide +kernel
theorem dX4_forfeits_10 : decode cX4_forfeits 10 = .ok (.getfield 21, 3) := by decide +kernel
theorem dX4_forfeits_13 : decode cX4_forfeits 13 = .ok (.iload_n 1, 1) := by decide +kernel
theorem dX4_forfeits_14 : decode cX4_forfeits 14 = .ok (.iaload, 1) := by decide +kernel
theorem dX4_forfeits_15 : decode cX4_forfeits 15 = .ok (.ifCond .le 7, 3) := by decide +kernel
theorem dX4_forfeits_18 : decode cX4_forfeits 18 = .ok (.iconst 1, 1) := by decide +kernel
theorem dX4_forfeits_19 : decode cX4_forfeits 19 = .ok (.goto 4, 3) := by decide +kernel
theorem dX4_forfeits_22 : decode cX4_forfeits 22 = .ok (.iconst 0, 1) := by decide +kernel
theorem dX4_forfeits_23 : decode cX4_forfeits 23 = .ok (.istore_n 2, 1) := by decide +kernel
theorem dX4_forfeits_24 : decode cX4_forfeits 24 = .ok (.aload_n 0, 1) := by decide +kernel
theorem dX4_forfeits_25 : decode cX4_forfeits 25 = .ok (.getfield 35, 3) := by decide +kernel
theorem dX4_forfeits_28 : decode cX4_forfeits 28 = .ok (.iload_n 1, 1) := by decide +kernel
theorem dX4_forfeits_29 : decode cX4_forfeits 29 = .ok (.iload_n 2, 1) := by decide +kernel
theorem dX4_forfeits_30 : decode cX4_forfeits 30 = .ok (.ifCond .eq 14, 3) := by decide +kernel
theorem dX4_forfeits_33 : decode cX4_forfeits 33 = .ok (.aload_n 0, 1) := by decide +kernel
theorem dX4_forfeits_34 : decode cX4_forfeits 34 = .ok (.getfield 35, 3) := by decide +kernel
theorem dX4_forfeits_37 : decode cX4_forfeits 37 = .ok (.iload_n 1, 1) := by decide +kernel
theorem dX4_forfeits_38 : decode cX4_forfeits 38 = .ok (.iaload, 1) := by decide +kernel
theorem dX4_forfeits_39 : decode cX4_forfeits 39 = .ok (.iconst 1, 1) := by decide +kernel
theorem dX4_forfeits_40 : decode cX4_forfeits 40 = .ok (.iadd, 1) := by decide +kernel
theorem dX4_forfeits_41 : decode cX4_forfeits 41 = .ok (.goto 4, 3) := by decide +kernel
theorem dX4_forfeits_44 : decode cX4_forfeits 44 = .ok (.iconst 0, 1) := by decide +kernel
theorem dX4_forfeits_45 : decode cX4_forfeits 45 = .ok (.iastore, 1) := by decide +kernel
theorem dX4_forfeits_46 : decode cX4_forfeits 46 = .ok (.aload_n 0, 1) := by decide +kernel
theorem dX4_forfeits_47 : decode cX4_forfeits 47 = .ok (.getfield 35, 3) := by decide +kernel
theorem dX4_forfeits_50 : decode cX4_forfeits 50 = .ok (.iload_n 1, 1) := by decide +kernel
theorem dX4_forfeits_51 : decode cX4_forfeits 51 = .ok (.iaload, 1) := by decide +kernel
theorem dX4_forfeits_52 : decode cX4_forfeits 52 = .ok (.iconst 3, 1) := by decide +kernel
theorem dX4_forfeits_53 : decode cX4_forfeits 53 = .ok (.if_icmp .lt 12, 3) := by decide +kernel
theorem dX4_forfeits_56 : decode cX4_forfeits 56 = .ok (.aload_n 0, 1) := by decide +kernel
theorem dX4_forfeits_57 : decode cX4_forfeits 57 = .ok (.getfield 18, 3) := by decide +kernel
theorem dX4_forfeits_60 : decode cX4_forfeits 60 = .ok (.iload_n 1, 1) := by decide +kernel
theorem dX4_forfeits_61 : decode cX4_forfeits 61 = .ok (.iaload, 1) := by decide +kernel
theorem dX4_forfeits_62 : decode cX4_forfeits 62 = .ok (.ifCond .ne 5, 3) := by decide +kernel
theorem dX4_forfeits_65 : decode cX4_forfeits 65 = .ok (.iconst 0, 1) := by decide +kernel
theorem dX4_forfeits_66 : decode cX4_forfeits 66 = .ok (.ireturn, 1) := by decide +kernel
theorem dX4_forfeits_67 : decode cX4_forfeits 67 = .ok (.aload_n 0, 1) := by decide +kernel
theorem dX4_forfeits_68 : decode cX4_forfeits 68 = .ok (.getfield 18, 3) := by decide +kernel
theorem dX4_forfeits_71 : decode cX4_forfeits 71 = .ok (.iload_n 1, 1) := by decide +kernel
theorem dX4_forfeits_72 : decode cX4_forfeits 72 = .ok (.iconst 0, 1) := by decide +kernel
theorem dX4_forfeits_73 : decode cX4_forfeits 73 = .ok (.iastore, 1) := by decide +kernel
theorem dX4_forfeits_74 : decode cX4_forfeits 74 = .ok (.aload_n 0, 1) := by decide +kernel
theorem dX4_forfeits_75 : decode cX4_forfeits 75 = .ok (.getfield 35, 3) := by decide +kernel
theorem dX4_forfeits_78 : decode cX4_forfeits 78 = .ok (.iload_n 1, 1) := by decide +kernel
theorem dX4_forfeits_79 : decode cX4_forfeits 79 = .ok (.iconst 0, 1) := by decide +kernel
theorem dX4_forfeits_80 : decode cX4_forfeits 80 = .ok (.iastore, 1) := by decide +kernel
theorem dX4_forfeits_81 : decode cX4_forfeits 81 = .ok (.iconst 1, 1) := by decide +kernel
theorem dX4_forfeits_82 : decode cX4_forfeits 82 = .ok (.ireturn, 1) := by decide +kernel
theorem dX4_startYear_0 : decode cX4_startYear 0 = .ok (.aload_n 0, 1) := by decide +kernel
theorem dX4_startYear_1 : decode cX4_startYear 1 = .ok (.getfield 24, 3) := by decide +kernel
theorem dX4_startYear_4 : decode cX4_startYear 4 = .ok (.iload_n 1, 1) := by decide +kernel
theorem dX4_startYear_5 : decode cX4_startYear 5 = .ok (.iconst 0, 1) := by decide +kernel
theorem dX4_startYear_6 : decode cX4_startYear 6 = .ok (.iastore, 1) := by decide +kernel
theorem dX4_startYear_7 : decode cX4_startYear 7 = .ok (.aload_n 0, 1) := by decide +kernel
theorem dX4_startYear_8 : decode cX4_startYear 8 = .ok (.getfield 38, 3) := by decide +kernel
theorem dX4_startYear_11 : decode cX4_startYear 11 = .ok (.iload_n 1, 1) := by decide +kernel
theorem dX4_startYear_12 : decode cX4_startYear 12 = .ok (.iconst 0, 1) := by decide +kernel
theorem dX4_startYear_13 : decode cX4_startYear 13 = .ok (.iastore, 1) := by decide +kernel
theorem dX4_startYear_14 : decode cX4_startYear 14 = .ok (.aload_n 0, 1) := by decide +kernel
theorem dX4_startYear_15 : decode cX4_startYear 15 = .ok (.getfield 31, 3) := by decide +kernel
theorem dX4_startYear_18 : decode cX4_startYear 18 = .ok (.iload_n 1, 1) := by decide +kernel
theorem dX4_startYear_19 : decode cX4_startYear 19 = .ok (.iconst 0, 1) := by decide +kernel
theorem dX4_startYear_20 : decode cX4_startYear 20 = .ok (.bastore, 1) := by decide +kernel
theorem dX4_startYear_21 : decode cX4_startYear 21 = .ok (.return_, 1) := by decide +kernel
theorem dX4_keptToAmounts_0 : decode cX4_keptToAmounts 0 = .ok (.iconst 0, 1) := by decide +kernel
theorem dX4_keptToAmounts_1 : decode cX4_keptToAmounts 1 = .ok (.istore_n 1, 1) := by decide +kernel
theorem dX4_keptToAmounts_2 : decode cX4_keptToAmounts 2 = .ok (.iload_n 1, 1) := by decide +kernel
theorem dX4_keptToAmounts_3 : decode cX4_keptToAmounts 3 = .ok (.aload_n 0, 1) := by decide +kernel
theorem dX4_keptToAmounts_4 : decode cX4_keptToAmounts 4 = .ok (.getfield 44, 3) := by decide +kernel
theorem dX4_keptToAmounts_7 : decode cX4_keptToAmounts 7 = .ok (.if_icmp .ge 33, 3) := by decide +kernel
theorem dX4_keptToAmounts_10 : decode cX4_keptToAmounts 10 = .ok (.aload_n 0, 1) := by decide +kernel
theorem dX4_keptToAmounts_11 : decode cX4_keptToAmounts 11 = .ok (.getfield 24, 3) := by decide +kernel
theorem dX4_keptToAmounts_14 : decode cX4_keptToAmounts 14 = .ok (.iload_n 1, 1) := by decide +kernel
theorem dX4_keptToAmounts_15 : decode cX4_keptToAmounts 15 = .ok (.iaload, 1) := by decide +kernel
theorem dX4_keptToAmounts_16 : decode cX4_keptToAmounts 16 = .ok (.aload_n 0, 1) := by decide +kernel
theorem dX4_keptToAmounts_17 : decode cX4_keptToAmounts 17 = .ok (.getfield 18, 3) := by decide +kernel
theorem dX4_keptToAmounts_20 : decode cX4_keptToAmounts 20 = .ok (.iload_n 1, 1) := by decide +kernel
theorem dX4_keptToAmounts_21 : decode cX4_keptToAmounts 21 = .ok (.iaload, 1) := by decide +kernel
theorem dX4_keptToAmounts_22 : decode cX4_keptToAmounts 22 = .ok (.aload_n 0, 1) := by decide +kernel
theorem dX4_keptToAmounts_23 : decode cX4_keptToAmounts 23 = .ok (.getfield 38, 3) := by decide +kernel
theorem dX4_keptToAmounts_26 : decode cX4_keptToAmounts 26 = .ok (.iload_n 1, 1) := by decide +kernel
theorem dX4_keptToAmounts_27 : decode cX4_keptToAmounts 27 = .ok (.iaload, 1) := by decide +kernel
theorem dX4_keptToAmounts_28 : decode cX4_keptToAmounts 28 = .ok (.iadd, 1) := by decide +kernel
theorem dX4_keptToAmounts_29 : decode cX4_keptToAmounts 29 = .ok (.if_icmp .le 5, 3) := by decide +kernel
theorem dX4_keptToAmounts_32 : decode cX4_keptToAmounts 32 = .ok (.iconst 0, 1) := by decide +kernel
theorem dX4_keptToAmounts_33 : decode cX4_keptToAmounts 33 = .ok (.ireturn, 1) := by decide +kernel
theorem dX4_keptToAmounts_34 : decode cX4_keptToAmounts 34 = .ok (.iinc 1 1, 3) := by decide +kernel
theorem dX4_keptToAmounts_37 : decode cX4_keptToAmounts 37 = .ok (.goto (-35), 3) := by decide +kernel
theorem dX4_keptToAmounts_40 : decode cX4_keptToAmounts 40 = .ok (.iconst 1, 1) := by decide +kernel
theorem dX4_keptToAmounts_41 : decode cX4_keptToAmounts 41 = .ok (.ireturn, 1) := by decide +kernel
theorem dX5_init_0 : decode cX5_init 0 = .ok (.aload_n 0, 1) := by decide +kernel
theorem dX5_init_1 : decode cX5_init 1 = .ok (.invokespecial 3, 3) := by decide +kernel
theorem dX5_init_4 : decode cX5_init 4 = .ok (.aload_n 0, 1) := by decide +kernel
theorem dX5_init_5 : decode cX5_init 5 = .ok (.new 9, 3) := by decide +kernel
theorem dX5_init_8 : decode cX5_init 8 = .ok (.dup, 1) := by decide +kernel
theorem dX5_init_9 : decode cX5_init 9 = .ok (.invokespecial 11, 3) := by decide +kernel
theorem dX5_init_12 : decode cX5_init 12 = .ok (.putfield 12, 3) := by decide +kernel
theorem dX5_init_15 : decode cX5_init 15 = .ok (.aload_n 0, 1) := by decide +kernel
theorem dX5_init_16 : decode cX5_init 16 = .ok (.new 18, 3) := by decide +kernel
theorem dX5_init_19 : decode cX5_init 19 = .ok (.dup, 1) := by decide +kernel
theorem dX5_init_20 : decode cX5_init 20 = .ok (.invokespecial 20, 3) := by decide +kernel
theorem dX5_init_23 : decode cX5_init 23 = .ok (.putfield 21, 3) := by decide +kernel
theorem dX5_init_26 : decode cX5_init 26 = .ok (.aload_n 0, 1) := by decide +kernel
theorem dX5_init_27 : decode cX5_init 27 = .ok (.new 25, 3) := by decide +kernel
theorem dX5_init_30 : decode cX5_init 30 = .ok (.dup, 1) := by decide +kernel
theorem dX5_init_31 : decode cX5_init 31 = .ok (.invokespecial 27, 3) := by decide +kernel
theorem dX5_init_34 : decode cX5_init 34 = .ok (.putfield 28, 3) := by decide +kernel
theorem dX5_init_37 : decode cX5_init 37 = .ok (.aload_n 0, 1) := by decide +kernel
theorem dX5_init_38 : decode cX5_init 38 = .ok (.new 32, 3) := by decide +kernel
theorem dX5_init_41 : decode cX5_init 41 = .ok (.dup, 1) := by decide +kernel
theorem dX5_init_42 : decode cX5_init 42 = .ok (.invokespecial 34, 3) := by decide +kernel
theorem dX5_init_45 : decode cX5_init 45 = .ok (.putfield 35, 3) := by decide +kernel
theorem dX5_init_48 : decode cX5_init 48 = .ok (.aload_n 0, 1) := by decide +kernel
theorem dX5_init_49 : decode cX5_init 49 = .ok (.new 39, 3) := by decide +kernel
theorem dX5_init_52 : decode cX5_init 52 = .ok (.dup, 1) := by decide +kernel
theorem dX5_init_53 : decode cX5_init 53 = .ok (.invokespecial 41, 3) := by decide +kernel
theorem dX5_init_56 : decode cX5_init 56 = .ok (.putfield 42, 3) := by decide +kernel
theorem dX5_init_59 : decode cX5_init 59 = .ok (.aload_n 0, 1) := by decide +kernel
theorem dX5_init_60 : decode cX5_init 60 = .ok (.bipush 16, 2) := by decide +kernel
theorem dX5_init_62 : decode cX5_init 62 = .ok (.newarray .int, 2) := by decide +kernel
theorem dX5_init_64 : decode cX5_init 64 = .ok (.putfield 46, 3) := by decide +kernel
theorem dX5_init_67 : decode cX5_init 67 = .ok (.aload_n 0, 1) := by decide +kernel
theorem dX5_init_68 : decode cX5_init 68 = .ok (.bipush 16, 2) := by decide +kernel
theorem dX5_init_70 : decode cX5_init 70 = .ok (.newarray .int, 2) := by decide +kernel
theorem dX5_init_72 : decode cX5_init 72 = .ok (.putfield 50, 3) := by decide +kernel
theorem dX5_init_75 : decode cX5_init 75 = .ok (.aload_n 0, 1) := by decide +kernel
theorem dX5_init_76 : decode cX5_init 76 = .ok (.bipush 16, 2) := by decide +kernel
theorem dX5_init_78 : decode cX5_init 78 = .ok (.newarray .int, 2) := by decide +kernel
theorem dX5_init_80 : decode cX5_init 80 = .ok (.putfield 53, 3) := by decide +kernel
theorem dX5_init_83 : decode cX5_init 83 = .ok (.aload_n 0, 1) := by decide +kernel
theorem dX5_init_84 : decode cX5_init 84 = .ok (.iload_n 1, 1) := by decide +kernel
theorem dX5_init_85 : decode cX5_init 85 = .ok (.putfield 56, 3) := by decide +kernel
theorem dX5_init_88 : decode cX5_init 88 = .ok (.aload_n 0, 1) := by decide +kernel
theorem dX5_init_89 : decode cX5_init 89 = .ok (.iload_n 2, 1) := by decide +kernel
theorem dX5_init_90 : decode cX5_init 90 = .ok (.putfield 60, 3) := by decide +kernel
theorem dX5_init_93 : decode cX5_init 93 = .ok (.return_, 1) := by decide +kernel
theorem dX5_followDiary_0 : decode cX5_followDiary 0 = .ok (.aload_n 0, 1) := by decide +kernel
theorem dX5_followDiary_1 : decode cX5_followDiary 1 = .ok (.getfield 64, 3) := by decide +kernel
theorem dX5_followDiary_4 : decode cX5_followDiary 4 = .ok (.istore_n 2, 1) := by decide +kernel
theorem dX5_followDiary_5 : decode cX5_followDiary 5 = .ok (.iload_n 2, 1) := by decide +kernel
theorem dX5_followDiary_6 : decode cX5_followDiary 6 = .ok (.aload_n 1, 1) := by decide +kernel
theorem dX5_followDiary_7 : decode cX5_followDiary 7 = .ok (.invokevirtual 67, 3) := by decide +kernel
theorem dX5_followDiary_10 : decode cX5_followDiary 10 = .ok (.if_icmp .ge 21, 3) := by decide +kernel
theorem dX5_followDiary_13 : decode cX5_followDiary 13 = .ok (.aload_n 0, 1) := by decide +kernel
theorem dX5_followDiary_14 : decode cX5_followDiary 14 = .ok (.aload_n 1, 1) := by decide +kernel
theorem dX5_followDiary_15 : decode cX5_followDiary 15 = .ok (.iload_n 2, 1) := by decide +kernel
theorem dX5_followDiary_16 : decode cX5_followDiary 16 = .ok (.invokevirtual 73, 3) := by decide +kernel
theorem dX5_followDiary_19 : decode cX5_followDiary 19 = .ok (.checkcast 77, 3) := by decide +kernel
theorem dX5_followDiary_22 : decode cX5_followDiary 22 = .ok (.invokevirtual 79, 3) := by decide +kernel
theorem dX5_followDiary_25 : decode cX5_followDiary 25 = .ok (.iinc 2 1, 3) := by decide +kernel
theorem dX5_followDiary_28 : decode cX5_followDiary 28 = .ok (.goto (-23), 3) := by decide +kernel
theorem dX5_followDiary_31 : decode cX5_followDiary 31 = .ok (.aload_n 0, 1) := by decide +kernel
theorem dX5_followDiary_32 : decode cX5_followDiary 32 = .ok (.aload_n 1, 1) := by decide +kernel
theorem dX5_followDiary_33 : decode cX5_followDiary 33 = .ok (.invokevirtual 67, 3) := by decide +kernel
theorem dX5_followDiary_36 : decode cX5_followDiary 36 = .ok (.putfield 64, 3) := by decide +kernel
theorem dX5_followDiary_39 : decode cX5_followDiary 39 = .ok (.return_, 1) := by decide +kernel
theorem dX5_follow_0 : decode cX5_follow 0 = .ok (.aload_n 1, 1) := by decide +kernel
theorem dX5_follow_1 : decode cX5_follow 1 = .ok (.getfield 83, 3) := by decide +kernel
theorem dX5_follow_4 : decode cX5_follow 4 = .ok (.tableswitch 293 0 10 #[60, 83, 102, 121, 140, 159, 194, 208, 222, 244, 274], 60) := by decide +kernel
theorem dX5_follow_64 : decode cX5_follow 64 = .ok (.aload_n 0, 1) := by decide +kernel
theorem dX5_follow_65 : decode cX5_follow 65 = .ok (.aload_n 1, 1) := by decide +kernel
theorem dX5_follow_66 : decode cX5_follow 66 = .ok (.getfield 86, 3) := by decide +kernel
theorem dX5_follow_69 : decode cX5_follow 69 = .ok (.aload_n 1, 1) := by decide +kernel
theorem dX5_follow_70 : decode cX5_follow 70 = .ok (.getfield 89, 3) := by decide +kernel
theorem dX5_follow_73 : decode cX5_follow 73 = .ok (.aload_n 1, 1) := by decide +kernel
theorem dX5_follow_74 : decode cX5_follow 74 = .ok (.getfield 92, 3) := by decide +kernel
theorem dX5_follow_77 : decode cX5_follow 77 = .ok (.aload_n 1, 1) := by decide +kernel
theorem dX5_follow_78 : decode cX5_follow 78 = .ok (.getfield 95, 3) := by decide +kernel
theorem dX5_follow_81 : decode cX5_follow 81 = .ok (.invokevirtual 98, 3) := by decide +kernel
theorem dX5_follow_84 : decode cX5_follow 84 = .ok (.goto 221, 3) := by decide +kernel
theorem dX5_follow_87 : decode cX5_follow 87 = .ok (.aload_n 0, 1) := by decide +kernel
theorem dX5_follow_88 : decode cX5_follow 88 = .ok (.getfield 21, 3) := by decide +kernel
theorem dX5_follow_91 : decode cX5_follow 91 = .ok (.getfield 102, 3) := by decide +kernel
theorem dX5_follow_94 : decode cX5_follow 94 = .ok (.aload_n 1, 1) := by decide +kernel
theorem dX5_follow_95 : decode cX5_follow 95 = .ok (.getfield 86, 3) := by decide +kernel
theorem dX5_follow_98 : decode cX5_follow 98 = .ok (.aload_n 1, 1) := by decide +kernel
theorem dX5_follow_99 : decode cX5_follow 99 = .ok (.getfield 89, 3) := by decide +kernel
theorem dX5_follow_102 : decode cX5_follow 102 = .ok (.iastore, 1) := by decide +kernel
theorem dX5_follow_103 : decode cX5_follow 103 = .ok (.goto 202, 3) := by decide +kernel
theorem dX5_follow_106 : decode cX5_follow 106 = .ok (.aload_n 0, 1) := by decide +kernel
theorem dX5_follow_107 : decode cX5_follow 107 = .ok (.getfield 21, 3) := by decide +kernel
theorem dX5_follow_110 : decode cX5_follow 110 = .ok (.getfield 105, 3) := by decide +kernel
theorem dX5_follow_113 : decode cX5_follow 113 = .ok (.aload_n 1, 1) := by decide +kernel
theorem dX5_follow_114 : decode cX5_follow 114 = .ok (.getfield 86, 3) := by decide +kernel
theorem dX5_follow_117 : decode cX5_follow 117 = .ok (.aload_n 1, 1) := by decide +kernel
theorem dX5_follow_118 : decode cX5_follow 118 = .ok (.getfield 89, 3) := by decide +kernel
theorem dX5_follow_121 : decode cX5_follow 121 = .ok (.iastore, 1) := by decide +kernel
theorem dX5_follow_122 : decode cX5_follow 122 = .ok (.goto 183, 3) := by decide +kernel
theorem dX5_follow_125 : decode cX5_follow 125 = .ok (.aload_n 0, 1) := by decide +kernel
theorem dX5_follow_126 : decode cX5_follow 126 = .ok (.getfield 21, 3) := by decide +kernel
theorem dX5_follow_129 : decode cX5_follow 129 = .ok (.getfield 108, 3) := by decide +kernel
theorem dX5_follow_132 : decode cX5_follow 132 = .ok (.aload_n 1, 1) := by decide +kernel
theorem dX5_follow_133 : decode cX5_follow 133 = .ok (.getfield 86, 3) := by decide +kernel
theorem dX5_follow_136 : decode cX5_follow 136 = .ok (.aload_n 1, 1) := by decide +kernel
theorem dX5_follow_137 : decode cX5_follow 137 = .ok (.getfield 89, 3) := by decide +kernel
theorem dX5_follow_140 : decode cX5_follow 140 = .ok (.iastore, 1) := by decide +kernel
theorem dX5_follow_141 : decode cX5_follow 141 = .ok (.goto 164, 3) := by decide +kernel
theorem dX5_follow_144 : decode cX5_follow 144 = .ok (.aload_n 0, 1) := by decide +kernel
theorem dX5_follow_145 : decode cX5_follow 145 = .ok (.getfield 21, 3) := by decide +kernel
theorem dX5_follow_148 : decode cX5_follow 148 = .ok (.getfield 111, 3) := by decide +kernel
theorem dX5_follow_151 : decode cX5_follow 151 = .ok (.aload_n 1, 1) := by decide +kernel
theorem dX5_follow_152 : decode cX5_follow 152 = .ok (.getfield 86, 3) := by decide +kernel
theorem dX5_follow_155 : decode cX5_follow 155 = .ok (.aload_n 1, 1) := by decide +kernel
theorem dX5_follow_156 : decode cX5_follow 156 = .ok (.getfield 89, 3) := by decide +kernel
theorem dX5_follow_159 : decode cX5_follow 159 = .ok (.iastore, 1) := by decide +kernel
theorem dX5_follow_160 : decode cX5_follow 160 = .ok (.goto 145, 3) := by decide +kernel
theorem dX5_follow_163 : decode cX5_follow 163 = .ok (.aload_n 0, 1) := by decide +kernel
theorem dX5_follow_164 : decode cX5_follow 164 = .ok (.getfield 21, 3) := by decide +kernel
theorem dX5_follow_167 : decode cX5_follow 167 = .ok (.getfield 114, 3) := by decide +kernel
theorem dX5_follow_170 : decode cX5_follow 170 = .ok (.aload_n 1, 1) := by decide +kernel
theorem dX5_follow_171 : decode cX5_follow 171 = .ok (.getfield 86, 3) := by decide +kernel
theorem dX5_follow_174 : decode cX5_follow 174 = .ok (.aload_n 1, 1) := by decide +kernel
theorem dX5_follow_175 : decode cX5_follow 175 = .ok (.getfield 89, 3) := by decide +kernel
theorem dX5_follow_178 : decode cX5_follow 178 = .ok (.iastore, 1) := by decide +kernel
theorem dX5_follow_179 : decode cX5_follow 179 = .ok (.aload_n 0, 1) := by decide +kernel
theorem dX5_follow_180 : decode cX5_follow 180 = .ok (.getfield 21, 3) := by decide +kernel
theorem dX5_follow_183 : decode cX5_follow 183 = .ok (.getfield 117, 3) := by decide +kernel
theorem dX5_follow_186 : decode cX5_follow 186 = .ok (.aload_n 1, 1) := by decide +kernel
theorem dX5_follow_187 : decode cX5_follow 187 = .ok (.getfield 86, 3) := by decide +kernel
theorem dX5_follow_190 : decode cX5_follow 190 = .ok (.aload_n 1, 1) := by decide +kernel
theorem dX5_follow_191 : decode cX5_follow 191 = .ok (.getfield 92, 3) := by decide +kernel
theorem dX5_follow_194 : decode cX5_follow 194 = .ok (.iastore, 1) := by decide +kernel
theorem dX5_follow_195 : decode cX5_follow 195 = .ok (.goto 110, 3) := by decide +kernel
theorem dX5_follow_198 : decode cX5_follow 198 = .ok (.aload_n 0, 1) := by decide +kernel
theorem dX5_follow_199 : decode cX5_follow 199 = .ok (.getfield 21, 3) := by decide +kernel
theorem dX5_follow_202 : decode cX5_follow 202 = .ok (.aload_n 1, 1) := by decide +kernel
theorem dX5_follow_203 : decode cX5_follow 203 = .ok (.getfield 86, 3) := by decide +kernel
theorem dX5_follow_206 : decode cX5_follow 206 = .ok (.putfield 120, 3) := by decide +kernel
theorem dX5_follow_209 : decode cX5_follow 209 = .ok (.goto 96, 3) := by decide +kernel
theorem dX5_follow_212 : decode cX5_follow 212 = .ok (.aload_n 0, 1) := by decide +kernel
theorem dX5_follow_213 : decode cX5_follow 213 = .ok (.getfield 21, 3) := by decide +kernel
theorem dX5_follow_216 : decode cX5_follow 216 = .ok (.aload_n 1, 1) := by decide +kernel
theorem dX5_follow_217 : decode cX5_follow 217 = .ok (.getfield 86, 3) := by decide +kernel
theorem dX5_follow_220 : decode cX5_follow 220 = .ok (.putfield 123, 3) := by decide +kernel
theorem dX5_follow_223 : decode cX5_follow 223 = .ok (.goto 82, 3) := by decide +kernel
theorem dX5_follow_226 : decode cX5_follow 226 = .ok (.aload_n 0, 1) := by decide +kernel
theorem dX5_follow_227 : decode cX5_follow 227 = .ok (.getfield 28, 3) := by decide +kernel
theorem dX5_follow_230 : decode cX5_follow 230 = .ok (.aload_n 1, 1) := by decide +kernel
theorem dX5_follow_231 : decode cX5_follow 231 = .ok (.getfield 86, 3) := by decide +kernel
theorem dX5_follow_234 : decode cX5_follow 234 = .ok (.aload_n 1, 1) := by decide +kernel
theorem dX5_follow_235 : decode cX5_follow 235 = .ok (.getfield 89, 3) := by decide +kernel
theorem dX5_follow_238 : decode cX5_follow 238 = .ok (.aload_n 1, 1) := by decide +kernel
theorem dX5_follow_239 : decode cX5_follow 239 = .ok (.getfield 92, 3) := by decide +kernel
theorem dX5_follow_242 : decode cX5_follow 242 = .ok (.invokevirtual 126, 3) := by decide +kernel
theorem dX5_follow_245 : decode cX5_follow 245 = .ok (.goto 60, 3) := by decide +kernel
theorem dX5_follow_248 : decode cX5_follow 248 = .ok (.aload_n 1, 1) := by decide +kernel
theorem dX5_follow_249 : decode cX5_follow 249 = .ok (.getfield 86, 3) := by decide +kernel
theorem dX5_follow_252 : decode cX5_follow 252 = .ok (.aload_n 0, 1) := by decide +kernel
theorem dX5_follow_253 : decode cX5_follow 253 = .ok (.getfield 56, 3) := by decide +kernel
theorem dX5_follow_256 : decode cX5_follow 256 = .ok (.if_icmp .eq 49, 3) := by decide +kernel
theorem dX5_follow_259 : decode cX5_follow 259 = .ok (.aload_n 0, 1) := by decide +kernel
theorem dX5_follow_260 : decode cX5_follow 260 = .ok (.getfield 28, 3) := by decide +kernel
theorem dX5_follow_263 : decode cX5_follow 263 = .ok (.getfield 130, 3) := by decide +kernel
theorem dX5_follow_266 : decode cX5_follow 266 = .ok (.aload_n 1, 1) := by decide +kernel
theorem dX5_follow_267 : decode cX5_follow 267 = .ok (.getfield 86, 3) := by decide +kernel
theorem dX5_follow_270 : decode cX5_follow 270 = .ok (.aload_n 1, 1) := by decide +kernel
theorem dX5_follow_271 : decode cX5_follow 271 = .ok (.getfield 89, 3) := by decide +kernel
theorem dX5_follow_274 : decode cX5_follow 274 = .ok (.iastore, 1) := by decide +kernel
theorem dX5_follow_275 : decode cX5_follow 275 = .ok (.goto 30, 3) := by decide +kernel
theorem dX5_follow_278 : decode cX5_follow 278 = .ok (.aload_n 0, 1) := by decide +kernel
theorem dX5_follow_279 : decode cX5_follow 279 = .ok (.aload_n 1, 1) := by decide +kernel
theorem dX5_follow_280 : decode cX5_follow 280 = .ok (.getfield 86, 3) := by decide +kernel
theorem dX5_follow_283 : decode cX5_follow 283 = .ok (.aload_n 1, 1) := by decide +kernel
theorem dX5_follow_284 : decode cX5_follow 284 = .ok (.getfield 89, 3) := by decide +kernel
theorem dX5_follow_287 : decode cX5_follow 287 = .ok (.aload_n 1, 1) := by decide +kernel
theorem dX5_follow_288 : decode cX5_follow 288 = .ok (.getfield 92, 3) := by decide +kernel
theorem dX5_follow_291 : decode cX5_follow 291 = .ok (.invokevirtual 133, 3) := by decide +kernel
theorem dX5_follow_294 : decode cX5_follow 294 = .ok (.goto 11, 3) := by decide +kernel
theorem dX5_follow_297 : decode cX5_follow 297 = .ok (.aload_n 0, 1) := by decide +kernel
theorem dX5_follow_298 : decode cX5_follow 298 = .ok (.aload_n 1, 1) := by decide +kernel
theorem dX5_follow_299 : decode cX5_follow 299 = .ok (.getfield 86, 3) := by decide +kernel
theorem dX5_follow_302 : decode cX5_follow 302 = .ok (.invokevirtual 136, 3) := by decide +kernel
theorem dX5_follow_305 : decode cX5_follow 305 = .ok (.return_, 1) := by decide +kernel
theorem dX5_followTransfer_0 : decode cX5_followTransfer 0 = .ok (.iload_n 1, 1) := by decide +kernel
theorem dX5_followTransfer_1 : decode cX5_followTransfer 1 = .ok (.aload_n 0, 1) := by decide +kernel
theorem dX5_followTransfer_2 : decode cX5_followTransfer 2 = .ok (.getfield 56, 3) := by decide +kernel
theorem dX5_followTransfer_5 : decode cX5_followTransfer 5 = .ok (.if_icmp .eq 34, 3) := by decide +kernel
theorem dX5_followTransfer_8 : decode cX5_followTransfer 8 = .ok (.iload_n 2, 1) := by decide +kernel
theorem dX5_followTransfer_9 : decode cX5_followTransfer 9 = .ok (.aload_n 0, 1) := by decide +kernel
theorem dX5_followTransfer_10 : decode cX5_followTransfer 10 = .ok (.getfield 56, 3) := by decide +kernel
theorem dX5_followTransfer_13 : decode cX5_followTransfer 13 = .ok (.if_icmp .eq 26, 3) := by decide +kernel
theorem dX5_followTransfer_16 : decode cX5_followTransfer 16 = .ok (.aload_n 0, 1) := by decide +kernel
theorem dX5_followTransfer_17 : decode cX5_followTransfer 17 = .ok (.getfield 28, 3) := by decide +kernel
theorem dX5_followTransfer_20 : decode cX5_followTransfer 20 = .ok (.iload_n 1, 1) := by decide +kernel
theorem dX5_followTransfer_21 : decode cX5_followTransfer 21 = .ok (.iload_n 2, 1) := by decide +kernel
theorem dX5_followTransfer_22 : decode cX5_followTransfer 22 = .ok (.iload_n 3, 1) := by decide +kernel
theorem dX5_followTransfer_23 : decode cX5_followTransfer 23 = .ok (.invokevirtual 140, 3) := by decide +kernel
theorem dX5_followTransfer_26 : decode cX5_followTransfer 26 = .ok (.ifCond .eq 13, 3) := by decide +kernel
theorem dX5_followTransfer_29 : decode cX5_followTransfer 29 = .ok (.aload_n 0, 1) := by decide +kernel
theorem dX5_followTransfer_30 : decode cX5_followTransfer 30 = .ok (.getfield 28, 3) := by decide +kernel
theorem dX5_followTransfer_33 : decode cX5_followTransfer 33 = .ok (.iload_n 1, 1) := by decide +kernel
theorem dX5_followTransfer_34 : decode cX5_followTransfer 34 = .ok (.iload_n 2, 1) := by decide +kernel
theorem dX5_followTransfer_35 : decode cX5_followTransfer 35 = .ok (.iload_n 3, 1) := by decide +kernel
theorem dX5_followTransfer_36 : decode cX5_followTransfer 36 = .ok (.invokevirtual 144, 3) := by decide +kernel
theorem dX5_followTransfer_39 : decode cX5_followTransfer 39 = .ok (.return_, 1) := by decide +kernel
theorem dX5_fillCell_0 : decode cX5_fillCell 0 = .ok (.aload_n 0, 1) := by decide +kernel
theorem dX5_fillCell_1 : decode cX5_fillCell 1 = .ok (.getfield 35, 3) := by decide +kernel
theorem dX5_fillCell_4 : decode cX5_fillCell 4 = .ok (.getfield 147, 3) := by decide +kernel
theorem dX5_fillCell_7 : decode cX5_fillCell 7 = .ok (.iconst 0, 1) := by decide +kernel
theorem dX5_fillCell_8 : decode cX5_fillCell 8 = .ok (.dup2, 1) := by decide +kernel
theorem dX5_fillCell_9 : decode cX5_fillCell 9 = .ok (.laload, 1) := by decide +kernel
theorem dX5_fillCell_10 : decode cX5_fillCell 10 = .ok (.iload 4, 2) := by decide +kernel
theorem dX5_fillCell_12 : decode cX5_fillCell 12 = .ok (.aload_n 0, 1) := by decide +kernel
theorem dX5_fillCell_13 : decode cX5_fillCell 13 = .ok (.getfield 12, 3) := by decide +kernel
theorem dX5_fillCell_16 : decode cX5_fillCell 16 = .ok (.getfield 151, 3) := by decide +kernel
theorem dX5_fillCell_19 : decode cX5_fillCell 19 = .ok (.iload_n 1, 1) := by decide +kernel
theorem dX5_fillCell_20 : decode cX5_fillCell 20 = .ok (.iaload, 1) := by decide +kernel
theorem dX5_fillCell_21 : decode cX5_fillCell 21 = .ok (.isub, 1) := by decide +kernel
theorem dX5_fillCell_22 : decode cX5_fillCell 22 = .ok (.i2l, 1) := by decide +kernel
theorem dX5_fillCell_23 : decode cX5_fillCell 23 = .ok (.ladd, 1) := by decide +kernel
theorem dX5_fillCell_24 : decode cX5_fillCell 24 = .ok (.lastore, 1) := by decide +kernel
theorem dX5_fillCell_25 : decode cX5_fillCell 25 = .ok (.aload_n 0, 1) := by decide +kernel
theorem dX5_fillCell_26 : decode cX5_fillCell 26 = .ok (.getfield 12, 3) := by decide +kernel
theorem dX5_fillCell_29 : decode cX5_fillCell 29 = .ok (.getfield 154, 3) := by decide +kernel
theorem dX5_fillCell_32 : decode cX5_fillCell 32 = .ok (.iload_n 1, 1) := by decide +kernel
theorem dX5_fillCell_33 : decode cX5_fillCell 33 = .ok (.iload_n 2, 1) := by decide +kernel
theorem dX5_fillCell_34 : decode cX5_fillCell 34 = .ok (.iastore, 1) := by decide +kernel
theorem dX5_fillCell_35 : decode cX5_fillCell 35 = .ok (.aload_n 0, 1) := by decide +kernel
theorem dX5_fillCell_36 : decode cX5_fillCell 36 = .ok (.getfield 12, 3) := by decide +kernel
theorem dX5_fillCell_39 : decode cX5_fillCell 39 = .ok (.getfield 157, 3) := by decide +kernel
theorem dX5_fillCell_42 : decode cX5_fillCell 42 = .ok (.iload_n 1, 1) := by decide +kernel
theorem dX5_fillCell_43 : decode cX5_fillCell 43 = .ok (.iload_n 3, 1) := by decide +kernel
theorem dX5_fillCell_44 : decode cX5_fillCell 44 = .ok (.iastore, 1) := by decide +kernel
theorem dX5_fillCell_45 : decode cX5_fillCell 45 = .ok (.aload_n 0, 1) := by decide +kernel
theorem dX5_fillCell_46 : decode cX5_fillCell 46 = .ok (.getfield 12, 3) := by decide +kernel
theorem dX5_fillCell_49 : decode cX5_fillCell 49 = .ok (.getfield 151, 3) := by decide +kernel
theorem dX5_fillCell_52 : decode cX5_fillCell 52 = .ok (.iload_n 1, 1) := by decide +kernel
theorem dX5_fillCell_53 : decode cX5_fillCell 53 = .ok (.iload 4, 2) := by decide +kernel
theorem dX5_fillCell_55 : decode cX5_fillCell 55 = .ok (.iastore, 1) := by decide +kernel
theorem dX5_fillCell_56 : decode cX5_fillCell 56 = .ok (.aload_n 0, 1) := by decide +kernel
theorem dX5_fillCell_57 : decode cX5_fillCell 57 = .ok (.getfield 12, 3) := by decide +kernel
theorem dX5_fillCell_60 : decode cX5_fillCell 60 = .ok (.getfield 160, 3) := by decide +kernel
theorem dX5_fillCell_63 : decode cX5_fillCell 63 = .ok (.iload_n 1, 1) := by decide +kernel
theorem dX5_fillCell_64 : decode cX5_fillCell 64 = .ok (.iconst 0, 1) := by decide +kernel
theorem dX5_fillCell_65 : decode cX5_fillCell 65 = .ok (.iastore, 1) := by decide +kernel
theorem dX5_fillCell_66 : decode cX5_fillCell 66 = .ok (.return_, 1) := by decide +kernel
theorem dX5_letMonthsPass_0 : decode cX5_letMonthsPass 0 = .ok (.iconst 0, 1) := by decide +kernel
theorem dX5_letMonthsPass_1 : decode cX5_letMonthsPass 1 = .ok (.istore_n 2, 1) := by decide +kernel
theorem dX5_letMonthsPass_2 : decode cX5_letMonthsPass 2 = .ok (.iload_n 2, 1) := by decide +kernel
theorem dX5_letMonthsPass_3 : decode cX5_letMonthsPass 3 = .ok (.iload_n 1, 1) := by decide +kernel
theorem dX5_letMonthsPass_4 : decode cX5_letMonthsPass 4 = .ok (.if_icmp .ge 44, 3) := by decide +kernel
theorem dX5_letMonthsPass_7 : decode cX5_letMonthsPass 7 = .ok (.aload_n 0, 1) := by decide +kernel
theorem dX5_letMonthsPass_8 : decode cX5_letMonthsPass 8 = .ok (.invokevirtual 163, 3) := by decide +kernel
theorem dX5_letMonthsPass_11 : decode cX5_letMonthsPass 11 = .ok (.aload_n 0, 1) := by decide +kernel
theorem dX5_letMonthsPass_12 : decode cX5_letMonthsPass 12 = .ok (.invokevirtual 166, 3) := by decide +kernel
theorem dX5_letMonthsPass_15 : decode cX5_letMonthsPass 15 = .ok (.aload_n 0, 1) := by decide +kernel
theorem dX5_letMonthsPass_16 : decode cX5_letMonthsPass 16 = .ok (.invokevirtual 169, 3) := by decide +kernel
theorem dX5_letMonthsPass_19 : decode cX5_letMonthsPass 19 = .ok (.aload_n 0, 1) := by decide +kernel
theorem dX5_letMonthsPass_20 : decode cX5_letMonthsPass 20 = .ok (.invokevirtual 172, 3) := by decide +kernel
theorem dX5_letMonthsPass_23 : decode cX5_letMonthsPass 23 = .ok (.aload_n 0, 1) := by decide +kernel
theorem dX5_letMonthsPass_24 : decode cX5_letMonthsPass 24 = .ok (.invokevirtual 175, 3) := by decide +kernel
theorem dX5_letMonthsPass_27 : decode cX5_letMonthsPass 27 = .ok (.aload_n 0, 1) := by decide +kernel
theorem dX5_letMonthsPass_28 : decode cX5_letMonthsPass 28 = .ok (.iconst 0, 1) := by decide +kernel
theorem dX5_letMonthsPass_29 : decode cX5_letMonthsPass 29 = .ok (.invokevirtual 178, 3) := by decide +kernel
theorem dX5_letMonthsPass_32 : decode cX5_letMonthsPass 32 = .ok (.aload_n 0, 1) := by decide +kernel
theorem dX5_letMonthsPass_33 : decode cX5_letMonthsPass 33 = .ok (.bipush 8, 2) := by decide +kernel
theorem dX5_letMonthsPass_35 : decode cX5_letMonthsPass 35 = .ok (.invokevirtual 178, 3) := by decide +kernel
theorem dX5_letMonthsPass_38 : decode cX5_letMonthsPass 38 = .ok (.aload_n 0, 1) := by decide +kernel
theorem dX5_letMonthsPass_39 : decode cX5_letMonthsPass 39 = .ok (.invokevirtual 181, 3) := by decide +kernel
theorem dX5_letMonthsPass_42 : decode cX5_letMonthsPass 42 = .ok (.iinc 2 1, 3) := by decide +kernel
theorem dX5_letMonthsPass_45 : decode cX5_letMonthsPass 45 = .ok (.goto (-43), 3) := by decide +kernel
theorem dX5_letMonthsPass_48 : decode cX5_letMonthsPass 48 = .ok (.return_, 1) := by decide +kernel
theorem dX5_note_0 : decode cX5_note 0 = .ok (.aload_n 0, 1) := by decide +kernel
theorem dX5_note_1 : decode cX5_note 1 = .ok (.getfield 60, 3) := by decide +kernel
theorem dX5_note_4 : decode cX5_note 4 = .ok (.ifCond .eq 12, 3) := by decide +kernel
theorem dX5_note_7 : decode cX5_note 7 = .ok (.aload_n 0, 1) := by decide +kernel
theorem dX5_note_8 : decode cX5_note 8 = .ok (.getfield 42, 3) := by decide +kernel
theorem dX5_note_11 : decode cX5_note 11 = .ok (.iload_n 1, 1) := by decide +kernel
theorem dX5_note_12 : decode cX5_note 12 = .ok (.invokevirtual 184, 3) := by decide +kernel
theorem dX5_note_15 : decode cX5_note 15 = .ok (.pop, 1) := by decide +kernel
theorem dX5_note_16 : decode cX5_note 16 = .ok (.return_, 1) := by decide +kernel
theorem dX5_letRainFall_0 : decode cX5_letRainFall 0 = .ok (.iconst 0, 1) := by decide +kernel
theorem dX5_letRainFall_1 : decode cX5_letRainFall 1 = .ok (.istore_n 1, 1) := by decide +kernel
theorem dX5_letRainFall_2 : decode cX5_letRainFall 2 = .ok (.iload_n 1, 1) := by decide +kernel
theorem dX5_letRainFall_3 : decode cX5_letRainFall 3 = .ok (.bipush 8, 2) := by decide +kernel
theorem dX5_letRainFall_5 : decode cX5_letRainFall 5 = .ok (.if_icmp .ge 52, 3) := by decide +kernel
theorem dX5_letRainFall_8 : decode cX5_letRainFall 8 = .ok (.aload_n 0, 1) := by decide +kernel
theorem dX5_letRainFall_9 : decode cX5_letRainFall 9 = .ok (.getfield 12, 3) := by decide +kernel
theorem dX5_letRainFall_12 : decode cX5_letRainFall 12 = .ok (.getfield 151, 3) := by decide +kernel
theorem dX5_letRainFall_15 : decode cX5_letRainFall 15 = .ok (.iload_n 1, 1) := by decide +kernel
theorem dX5_letRainFall_16 : decode cX5_letRainFall 16 = .ok (.dup2, 1) := by decide +kernel
theorem dX5_letRainFall_17 : decode cX5_letRainFall 17 = .ok (.iaload, 1) := by decide +kernel
theorem dX5_letRainFall_18 : decode cX5_letRainFall 18 = .ok (.aload_n 0, 1) := by decide +kernel
theorem dX5_letRainFall_19 : decode cX5_letRainFall 19 = .ok (.getfield 21, 3) := by decide +kernel
theorem dX5_letRainFall_22 : decode cX5_letRainFall 22 = .ok (.getfield 111, 3) := by decide +kernel
theorem dX5_letRainFall_25 : decode cX5_letRainFall 25 = .ok (.iload_n 1, 1) := by decide +kernel
theorem dX5_letRainFall_26 : decode cX5_letRainFall 26 = .ok (.iaload, 1) := by decide +kernel
theorem dX5_letRainFall_27 : decode cX5_letRainFall 27 = .ok (.iadd, 1) := by decide +kernel
theorem dX5_letRainFall_28 : decode cX5_letRainFall 28 = .ok (.iastore, 1) := by decide +kernel
theorem dX5_letRainFall_29 : decode cX5_letRainFall 29 = .ok (.aload_n 0, 1) := by decide +kernel
theorem dX5_letRainFall_30 : decode cX5_letRainFall 30 = .ok (.getfield 35, 3) := by decide +kernel
theorem dX5_letRainFall_33 : decode cX5_letRainFall 33 = .ok (.getfield 147, 3) := by decide +kernel
theorem dX5_letRainFall_36 : decode cX5_letRainFall 36 = .ok (.iconst 1, 1) := by decide +kernel
theorem dX5_letRainFall_37 : decode cX5_letRainFall 37 = .ok (.dup2, 1) := by decide +kernel
theorem dX5_letRainFall_38 : decode cX5_letRainFall 38 = .ok (.laload, 1) := by decide +kernel
theorem dX5_letRainFall_39 : decode cX5_letRainFall 39 = .ok (.aload_n 0, 1) := by decide +kernel
theorem dX5_letRainFall_40 : decode cX5_letRainFall 40 = .ok (.getfield 21, 3) := by decide +kernel
theorem dX5_letRainFall_43 : decode cX5_letRainFall 43 = .ok (.getfield 111, 3) := by decide +kernel
theorem dX5_letRainFall_46 : decode cX5_letRainFall 46 = .ok (.iload_n 1, 1) := by decide +kernel
theorem dX5_letRainFall_47 : decode cX5_letRainFall 47 = .ok (.iaload, 1) := by decide +kernel
theorem dX5_letRainFall_48 : decode cX5_letRainFall 48 = .ok (.i2l, 1) := by decide +kernel
theorem dX5_letRainFall_49 : decode cX5_letRainFall 49 = .ok (.ladd, 1) := by decide +kernel
theorem dX5_letRainFall_50 : decode cX5_letRainFall 50 = .ok (.lastore, 1) := by decide +kernel
theorem dX5_letRainFall_51 : decode cX5_letRainFall 51 = .ok (.iinc 1 1, 3) := by decide +kernel
theorem dX5_letRainFall_54 : decode cX5_letRainFall 54 = .ok (.goto (-52), 3) := by decide +kernel
theorem dX5_letRainFall_57 : decode cX5_letRainFall 57 = .ok (.return_, 1) := by decide +kernel
theorem dX5_pumpWells_0 : decode cX5_pumpWells 0 = .ok (.iconst 0, 1) := by decide +kernel
theorem dX5_pumpWells_1 : decode cX5_pumpWells 1 = .ok (.istore_n 1, 1) := by decide +kernel
theorem dX5_pumpWells_2 : decode cX5_pumpWells 2 = .ok (.iload_n 1, 1) := by decide +kernel
theorem dX5_pumpWells_3 : decode cX5_pumpWells 3 = .ok (.aload_n 0, 1) := by decide +kernel
theorem dX5_pumpWells_4 : decode cX5_pumpWells 4 = .ok (.getfield 28, 3) := by decide +kernel
theorem dX5_pumpWells_7 : decode cX5_pumpWells 7 = .ok (.getfield 188, 3) := by decide +kernel
theorem dX5_pumpWells_10 : decode cX5_pumpWells 10 = .ok (.if_icmp .ge 34, 3) := by decide +kernel
theorem dX5_pumpWells_13 : decode cX5_pumpWells 13 = .ok (.aload_n 0, 1) := by decide +kernel
theorem dX5_pumpWells_14 : decode cX5_pumpWells 14 = .ok (.getfield 28, 3) := by decide +kernel
theorem dX5_pumpWells_17 : decode cX5_pumpWells 17 = .ok (.getfield 191, 3) := by decide +kernel
theorem dX5_pumpWells_20 : decode cX5_pumpWells 20 = .ok (.aload_n 0, 1) := by decide +kernel
theorem dX5_pumpWells_21 : decode cX5_pumpWells 21 = .ok (.getfield 28, 3) := by decide +kernel
theorem dX5_pumpWells_24 : decode cX5_pumpWells 24 = .ok (.getfield 195, 3) := by decide +kernel
theorem dX5_pumpWells_27 : decode cX5_pumpWells 27 = .ok (.iload_n 1, 1) := by decide +kernel
theorem dX5_pumpWells_28 : decode cX5_pumpWells 28 = .ok (.iaload, 1) := by decide +kernel
theorem dX5_pumpWells_29 : decode cX5_pumpWells 29 = .ok (.baload, 1) := by decide +kernel
theorem dX5_pumpWells_30 : decode cX5_pumpWells 30 = .ok (.ifCond .ne 8, 3) := by decide +kernel
theorem dX5_pumpWells_33 : decode cX5_pumpWells 33 = .ok (.aload_n 0, 1) := by decide +kernel
theorem dX5_pumpWells_34 : decode cX5_pumpWells 34 = .ok (.iload_n 1, 1) := by decide +kernel
theorem dX5_pumpWells_35 : decode cX5_pumpWells 35 = .ok (.invokevirtual 198, 3) := by decide +kernel
theorem dX5_pumpWells_38 : decode cX5_pumpWells 38 = .ok (.iinc 1 1, 3) := by decide +kernel
theorem dX5_pumpWells_41 : decode cX5_pumpWells 41 = .ok (.goto (-39), 3) := by decide +kernel
theorem dX5_pumpWells_44 : decode cX5_pumpWells 44 = .ok (.return_, 1) := by decide +kernel
theorem dX5_pumpWell_0 : decode cX5_pumpWell 0 = .ok (.aload_n 0, 1) := by decide +kernel
theorem dX5_pumpWell_1 : decode cX5_pumpWell 1 = .ok (.getfield 28, 3) := by decide +kernel
theorem dX5_pumpWell_4 : decode cX5_pumpWell 4 = .ok (.getfield 195, 3) := by decide +kernel
theorem dX5_pumpWell_7 : decode cX5_pumpWell 7 = .ok (.iload_n 1, 1) := by decide +kernel
theorem dX5_pumpWell_8 : decode cX5_pumpWell 8 = .ok (.iaload, 1) := by decide +kernel
theorem dX5_pumpWell_9 : decode cX5_pumpWell 9 = .ok (.istore_n 2, 1) := by decide +kernel
theorem dX5_pumpWell_10 : decode cX5_pumpWell 10 = .ok (.aload_n 0, 1) := by decide +kernel
theorem dX5_pumpWell_11 : decode cX5_pumpWell 11 = .ok (.getfield 28, 3) := by decide +kernel
theorem dX5_pumpWell_14 : decode cX5_pumpWell 14 = .ok (.getfield 201, 3) := by decide +kernel
theorem dX5_pumpWell_17 : decode cX5_pumpWell 17 = .ok (.iload_n 2, 1) := by decide +kernel
theorem dX5_pumpWell_18 : decode cX5_pumpWell 18 = .ok (.iaload, 1) := by decide +kernel
theorem dX5_pumpWell_19 : decode cX5_pumpWell 19 = .ok (.istore_n 3, 1) := by decide +kernel
theorem dX5_pumpWell_20 : decode cX5_pumpWell 20 = .ok (.aload_n 0, 1) := by decide +kernel
theorem dX5_pumpWell_21 : decode cX5_pumpWell 21 = .ok (.getfield 28, 3) := by decide +kernel
theorem dX5_pumpWell_24 : decode cX5_pumpWell 24 = .ok (.iload_n 2, 1) := by decide +kernel
theorem dX5_pumpWell_25 : decode cX5_pumpWell 25 = .ok (.invokevirtual 203, 3) := by decide +kernel
theorem dX5_pumpWell_28 : decode cX5_pumpWell 28 = .ok (.istore 4, 2) := by decide +kernel
theorem dX5_pumpWell_30 : decode cX5_pumpWell 30 = .ok (.iload 4, 2) := by decide +kernel
theorem dX5_pumpWell_32 : decode cX5_pumpWell 32 = .ok (.aload_n 0, 1) := by decide +kernel
theorem dX5_pumpWell_33 : decode cX5_pumpWell 33 = .ok (.getfield 12, 3) := by decide +kernel
theorem dX5_pumpWell_36 : decode cX5_pumpWell 36 = .ok (.getfield 151, 3) := by decide +kernel
theorem dX5_pumpWell_39 : decode cX5_pumpWell 39 = .ok (.iload_n 3, 1) := by decide +kernel
theorem dX5_pumpWell_40 : decode cX5_pumpWell 40 = .ok (.iaload, 1) := by decide +kernel
theorem dX5_pumpWell_41 : decode cX5_pumpWell 41 = .ok (.invokestatic 207, 3) := by decide +kernel
theorem dX5_pumpWell_44 : decode cX5_pumpWell 44 = .ok (.istore 5, 2) := by decide +kernel
theorem dX5_pumpWell_46 : decode cX5_pumpWell 46 = .ok (.aload_n 0, 1) := by decide +kernel
theorem dX5_pumpWell_47 : decode cX5_pumpWell 47 = .ok (.getfield 12, 3) := by decide +kernel
theorem dX5_pumpWell_50 : decode cX5_pumpWell 50 = .ok (.iload_n 3, 1) := by decide +kernel
theorem dX5_pumpWell_51 : decode cX5_pumpWell 51 = .ok (.iload 5, 2) := by decide +kernel
theorem dX5_pumpWell_53 : decode cX5_pumpWell 53 = .ok (.invokevirtual 213, 3) := by decide +kernel
theorem dX5_pumpWell_56 : decode cX5_pumpWell 56 = .ok (.pop, 1) := by decide +kernel
theorem dX5_pumpWell_57 : decode cX5_pumpWell 57 = .ok (.aload_n 0, 1) := by decide +kernel
theorem dX5_pumpWell_58 : decode cX5_pumpWell 58 = .ok (.getfield 28, 3) := by decide +kernel
theorem dX5_pumpWell_61 : decode cX5_pumpWell 61 = .ok (.getfield 216, 3) := by decide +kernel
theorem dX5_pumpWell_64 : decode cX5_pumpWell 64 = .ok (.iload_n 2, 1) := by decide +kernel
theorem dX5_pumpWell_65 : decode cX5_pumpWell 65 = .ok (.dup2, 1) := by decide +kernel
theorem dX5_pumpWell_66 : decode cX5_pumpWell 66 = .ok (.iaload, 1) := by decide +kernel
theorem dX5_pumpWell_67 : decode cX5_pumpWell 67 = .ok (.iload 5, 2) := by decide +kernel
theorem dX5_pumpWell_69 : decode cX5_pumpWell 69 = .ok (.iadd, 1) := by decide +kernel
theorem dX5_pumpWell_70 : decode cX5_pumpWell 70 = .ok (.iastore, 1) := by decide +kernel
theorem dX5_pumpWell_71 : decode cX5_pumpWell 71 = .ok (.aload_n 0, 1) := by decide +kernel
theorem dX5_pumpWell_72 : decode cX5_pumpWell 72 = .ok (.getfield 28, 3) := by decide +kernel
theorem dX5_pumpWell_75 : decode cX5_pumpWell 75 = .ok (.getfield 219, 3) := by decide +kernel
theorem dX5_pumpWell_78 : decode cX5_pumpWell 78 = .ok (.iload_n 2, 1) := by decide +kernel
theorem dX5_pumpWell_79 : decode cX5_pumpWell 79 = .ok (.dup2, 1) := by decide +kernel
theorem dX5_pumpWell_80 : decode cX5_pumpWell 80 = .ok (.laload, 1) := by decide +kernel
theorem dX5_pumpWell_81 : decode cX5_pumpWell 81 = .ok (.iload 5, 2) := by decide +kernel
theorem dX5_pumpWell_83 : decode cX5_pumpWell 83 = .ok (.i2l, 1) := by decide +kernel
theorem dX5_pumpWell_84 : decode cX5_pumpWell 84 = .ok (.ladd, 1) := by decide +kernel
theorem dX5_pumpWell_85 : decode cX5_pumpWell 85 = .ok (.lastore, 1) := by decide +kernel
theorem dX5_pumpWell_86 : decode cX5_pumpWell 86 = .ok (.aload_n 0, 1) := by decide +kernel
theorem dX5_pumpWell_87 : decode cX5_pumpWell 87 = .ok (.getfield 35, 3) := by decide +kernel
theorem dX5_pumpWell_90 : decode cX5_pumpWell 90 = .ok (.getfield 147, 3) := by decide +kernel
theorem dX5_pumpWell_93 : decode cX5_pumpWell 93 = .ok (.iconst 2, 1) := by decide +kernel
theorem dX5_pumpWell_94 : decode cX5_pumpWell 94 = .ok (.dup2, 1) := by decide +kernel
theorem dX5_pumpWell_95 : decode cX5_pumpWell 95 = .ok (.laload, 1) := by decide +kernel
theorem dX5_pumpWell_96 : decode cX5_pumpWell 96 = .ok (.iload 5, 2) := by decide +kernel
theorem dX5_pumpWell_98 : decode cX5_pumpWell 98 = .ok (.i2l, 1) := by decide +kernel
theorem dX5_pumpWell_99 : decode cX5_pumpWell 99 = .ok (.ladd, 1) := by decide +kernel
theorem dX5_pumpWell_100 : decode cX5_pumpWell 100 = .ok (.lastore, 1) := by decide +kernel
theorem dX5_pumpWell_101 : decode cX5_pumpWell 101 = .ok (.iload 5, 2) := by decide +kernel
theorem dX5_pumpWell_103 : decode cX5_pumpWell 103 = .ok (.iload 4, 2) := by decide +kernel
theorem dX5_pumpWell_105 : decode cX5_pumpWell 105 = .ok (.if_icmp .ge 17, 3) := by decide +kernel
theorem dX5_pumpWell_108 : decode cX5_pumpWell 108 = .ok (.aload_n 0, 1) := by decide +kernel
theorem dX5_pumpWell_109 : decode cX5_pumpWell 109 = .ok (.bipush 99, 2) := by decide +kernel
theorem dX5_pumpWell_111 : decode cX5_pumpWell 111 = .ok (.invokevirtual 222, 3) := by decide +kernel
theorem dX5_pumpWell_114 : decode cX5_pumpWell 114 = .ok (.aload_n 0, 1) := by decide +kernel
theorem dX5_pumpWell_115 : decode cX5_pumpWell 115 = .ok (.getfield 28, 3) := by decide +kernel
theorem dX5_pumpWell_118 : decode cX5_pumpWell 118 = .ok (.iload_n 1, 1) := by decide +kernel
theorem dX5_pumpWell_119 : decode cX5_pumpWell 119 = .ok (.invokevirtual 226, 3) := by decide +kernel
theorem dX5_pumpWell_122 : decode cX5_pumpWell 122 = .ok (.return_, 1) := by decide +kernel
theorem dX5_letWaterFlow_0 : decode cX5_letWaterFlow 0 = .ok (.iconst 0, 1) := by decide +kernel
theorem dX5_letWaterFlow_1 : decode cX5_letWaterFlow 1 = .ok (.istore_n 1, 1) := by decide +kernel
theorem dX5_letWaterFlow_2 : decode cX5_letWaterFlow 2 = .ok (.iload_n 1, 1) := by decide +kernel
theorem dX5_letWaterFlow_3 : decode cX5_letWaterFlow 3 = .ok (.bipush 16, 2) := by decide +kernel
theorem dX5_letWaterFlow_5 : decode cX5_letWaterFlow 5 = .ok (.if_icmp .ge 37, 3) := by decide +kernel
theorem dX5_letWaterFlow_8 : decode cX5_letWaterFlow 8 = .ok (.aload_n 0, 1) := by decide +kernel
theorem dX5_letWaterFlow_9 : decode cX5_letWaterFlow 9 = .ok (.getfield 46, 3) := by decide +kernel
theorem dX5_letWaterFlow_12 : decode cX5_letWaterFlow 12 = .ok (.iload_n 1, 1) := by decide +kernel
theorem dX5_letWaterFlow_13 : decode cX5_letWaterFlow 13 = .ok (.aload_n 0, 1) := by decide +kernel
theorem dX5_letWaterFlow_14 : decode cX5_letWaterFlow 14 = .ok (.getfield 12, 3) := by decide +kernel
theorem dX5_letWaterFlow_17 : decode cX5_letWaterFlow 17 = .ok (.iload_n 1, 1) := by decide +kernel
theorem dX5_letWaterFlow_18 : decode cX5_letWaterFlow 18 = .ok (.invokevirtual 229, 3) := by decide +kernel
theorem dX5_letWaterFlow_21 : decode cX5_letWaterFlow 21 = .ok (.iastore, 1) := by decide +kernel
theorem dX5_letWaterFlow_22 : decode cX5_letWaterFlow 22 = .ok (.aload_n 0, 1) := by decide +kernel
theorem dX5_letWaterFlow_23 : decode cX5_letWaterFlow 23 = .ok (.getfield 50, 3) := by decide +kernel
theorem dX5_letWaterFlow_26 : decode cX5_letWaterFlow 26 = .ok (.iload_n 1, 1) := by decide +kernel
theorem dX5_letWaterFlow_27 : decode cX5_letWaterFlow 27 = .ok (.iconst 0, 1) := by decide +kernel
theorem dX5_letWaterFlow_28 : decode cX5_letWaterFlow 28 = .ok (.iastore, 1) := by decide +kernel
theorem dX5_letWaterFlow_29 : decode cX5_letWaterFlow 29 = .ok (.aload_n 0, 1) := by decide +kernel
theorem dX5_letWaterFlow_30 : decode cX5_letWaterFlow 30 = .ok (.getfield 53, 3) := by decide +kernel
theorem dX5_letWaterFlow_33 : decode cX5_letWaterFlow 33 = .ok (.iload_n 1, 1) := by decide +kernel
theorem dX5_letWaterFlow_34 : decode cX5_letWaterFlow 34 = .ok (.iconst 0, 1) := by decide +kernel
theorem dX5_letWaterFlow_35 : decode cX5_letWaterFlow 35 = .ok (.iastore, 1) := by decide +kernel
theorem dX5_letWaterFlow_36 : decode cX5_letWaterFlow 36 = .ok (.iinc 1 1, 3) := by decide +kernel
theorem dX5_letWaterFlow_39 : decode cX5_letWaterFlow 39 = .ok (.goto (-37), 3) := by decide +kernel
theorem dX5_letWaterFlow_42 : decode cX5_letWaterFlow 42 = .ok (.iconst 0, 1) := by decide +kernel
theorem dX5_letWaterFlow_43 : decode cX5_letWaterFlow 43 = .ok (.istore_n 1, 1) := by decide +kernel
theorem dX5_letWaterFlow_44 : decode cX5_letWaterFlow 44 = .ok (.iload_n 1, 1) := by decide +kernel
theorem dX5_letWaterFlow_45 : decode cX5_letWaterFlow 45 = .ok (.bipush 16, 2) := by decide +kernel
theorem dX5_letWaterFlow_47 : decode cX5_letWaterFlow 47 = .ok (.if_icmp .ge 76, 3) := by decide +kernel
theorem dX5_letWaterFlow_50 : decode cX5_letWaterFlow 50 = .ok (.iload_n 1, 1) := by decide +kernel
theorem dX5_letWaterFlow_51 : decode cX5_letWaterFlow 51 = .ok (.bipush 8, 2) := by decide +kernel
theorem dX5_letWaterFlow_53 : decode cX5_letWaterFlow 53 = .ok (.irem, 1) := by decide +kernel
theorem dX5_letWaterFlow_54 : decode cX5_letWaterFlow 54 = .ok (.istore_n 2, 1) := by decide +kernel
theorem dX5_letWaterFlow_55 : decode cX5_letWaterFlow 55 = .ok (.aload_n 0, 1) := by decide +kernel
theorem dX5_letWaterFlow_56 : decode cX5_letWaterFlow 56 = .ok (.getfield 21, 3) := by decide +kernel
theorem dX5_letWaterFlow_59 : decode cX5_letWaterFlow 59 = .ok (.getfield 105, 3) := by decide +kernel
theorem dX5_letWaterFlow_62 : decode cX5_letWaterFlow 62 = .ok (.iload_n 1, 1) := by decide +kernel
theorem dX5_letWaterFlow_63 : decode cX5_letWaterFlow 63 = .ok (.bipush 8, 2) := by decide +kernel
theorem dX5_letWaterFlow_65 : decode cX5_letWaterFlow 65 = .ok (.idiv, 1) := by decide +kernel
theorem dX5_letWaterFlow_66 : decode cX5_letWaterFlow 66 = .ok (.iaload, 1) := by decide +kernel
theorem dX5_letWaterFlow_67 : decode cX5_letWaterFlow 67 = .ok (.istore_n 3, 1) := by decide +kernel
theorem dX5_letWaterFlow_68 : decode cX5_letWaterFlow 68 = .ok (.iload_n 2, 1) := by decide +kernel
theorem dX5_letWaterFlow_69 : decode cX5_letWaterFlow 69 = .ok (.ifCond .le 12, 3) := by decide +kernel
theorem dX5_letWaterFlow_72 : decode cX5_letWaterFlow 72 = .ok (.aload_n 0, 1) := by decide +kernel
theorem dX5_letWaterFlow_73 : decode cX5_letWaterFlow 73 = .ok (.iload_n 1, 1) := by decide +kernel
theorem dX5_letWaterFlow_74 : decode cX5_letWaterFlow 74 = .ok (.iload_n 1, 1) := by decide +kernel
theorem dX5_letWaterFlow_75 : decode cX5_letWaterFlow 75 = .ok (.iconst 1, 1) := by decide +kernel
theorem dX5_letWaterFlow_76 : decode cX5_letWaterFlow 76 = .ok (.isub, 1) := by decide +kernel
theorem dX5_letWaterFlow_77 : decode cX5_letWaterFlow 77 = .ok (.iload_n 3, 1) := by decide +kernel
theorem dX5_letWaterFlow_78 : decode cX5_letWaterFlow 78 = .ok (.invokevirtual 232, 3) := by decide +kernel
theorem dX5_letWaterFlow_81 : decode cX5_letWaterFlow 81 = .ok (.iload_n 2, 1) := by decide +kernel
theorem dX5_letWaterFlow_82 : decode cX5_letWaterFlow 82 = .ok (.bipush 7, 2) := by decide +kernel
theorem dX5_letWaterFlow_84 : decode cX5_letWaterFlow 84 = .ok (.if_icmp .ge 12, 3) := by decide +kernel
theorem dX5_letWaterFlow_87 : decode cX5_letWaterFlow 87 = .ok (.aload_n 0, 1) := by decide +kernel
theorem dX5_letWaterFlow_88 : decode cX5_letWaterFlow 88 = .ok (.iload_n 1, 1) := by decide +kernel
theorem dX5_letWaterFlow_89 : decode cX5_letWaterFlow 89 = .ok (.iload_n 1, 1) := by decide +kernel
theorem dX5_letWaterFlow_90 : decode cX5_letWaterFlow 90 = .ok (.iconst 1, 1) := by decide +kernel
theorem dX5_letWaterFlow_91 : decode cX5_letWaterFlow 91 = .ok (.iadd, 1) := by decide +kernel
theorem dX5_letWaterFlow_92 : decode cX5_letWaterFlow 92 = .ok (.iload_n 3, 1) := by decide +kernel
theorem dX5_letWaterFlow_93 : decode cX5_letWaterFlow 93 = .ok (.invokevirtual 232, 3) := by decide +kernel
theorem dX5_letWaterFlow_96 : decode cX5_letWaterFlow 96 = .ok (.aload_n 0, 1) := by decide +kernel
theorem dX5_letWaterFlow_97 : decode cX5_letWaterFlow 97 = .ok (.iload_n 1, 1) := by decide +kernel
theorem dX5_letWaterFlow_98 : decode cX5_letWaterFlow 98 = .ok (.iload_n 1, 1) := by decide +kernel
theorem dX5_letWaterFlow_99 : decode cX5_letWaterFlow 99 = .ok (.bipush 8, 2) := by decide +kernel
theorem dX5_letWaterFlow_101 : decode cX5_letWaterFlow 101 = .ok (.iadd, 1) := by decide +kernel
theorem dX5_letWaterFlow_102 : decode cX5_letWaterFlow 102 = .ok (.bipush 16, 2) := by decide +kernel
theorem dX5_letWaterFlow_104 : decode cX5_letWaterFlow 104 = .ok (.irem, 1) := by decide +kernel
theorem dX5_letWaterFlow_105 : decode cX5_letWaterFlow 105 = .ok (.aload_n 0, 1) := by decide +kernel
theorem dX5_letWaterFlow_106 : decode cX5_letWaterFlow 106 = .ok (.getfield 21, 3) := by decide +kernel
theorem dX5_letWaterFlow_109 : decode cX5_letWaterFlow 109 = .ok (.getfield 108, 3) := by decide +kernel
theorem dX5_letWaterFlow_112 : decode cX5_letWaterFlow 112 = .ok (.iload_n 2, 1) := by decide +kernel
theorem dX5_letWaterFlow_113 : decode cX5_letWaterFlow 113 = .ok (.iaload, 1) := by decide +kernel
theorem dX5_letWaterFlow_114 : decode cX5_letWaterFlow 114 = .ok (.invokevirtual 232, 3) := by decide +kernel
theorem dX5_letWaterFlow_117 : decode cX5_letWaterFlow 117 = .ok (.iinc 1 1, 3) := by decide +kernel
theorem dX5_letWaterFlow_120 : decode cX5_letWaterFlow 120 = .ok (.goto (-76), 3) := by decide +kernel
theorem dX5_letWaterFlow_123 : decode cX5_letWaterFlow 123 = .ok (.iconst 0, 1) := by decide +kernel
theorem dX5_letWaterFlow_124 : decode cX5_letWaterFlow 124 = .ok (.istore_n 1, 1) := by decide +kernel
theorem dX5_letWaterFlow_125 : decode cX5_letWaterFlow 125 = .ok (.iload_n 1, 1) := by decide +kernel
theorem dX5_letWaterFlow_126 : decode cX5_letWaterFlow 126 = .ok (.bipush 16, 2) := by decide +kernel
theorem dX5_letWaterFlow_128 : decode cX5_letWaterFlow 128 = .ok (.if_icmp .ge 45, 3) := by decide +kernel
theorem dX5_letWaterFlow_131 : decode cX5_letWaterFlow 131 = .ok (.aload_n 0, 1) := by decide +kernel
theorem dX5_letWaterFlow_132 : decode cX5_letWaterFlow 132 = .ok (.getfield 12, 3) := by decide +kernel
theorem dX5_letWaterFlow_135 : decode cX5_letWaterFlow 135 = .ok (.getfield 151, 3) := by decide +kernel
theorem dX5_letWaterFlow_138 : decode cX5_letWaterFlow 138 = .ok (.iload_n 1, 1) := by decide +kernel
theorem dX5_letWaterFlow_139 : decode cX5_letWaterFlow 139 = .ok (.dup2, 1) := by decide +kernel
theorem dX5_letWaterFlow_140 : decode cX5_letWaterFlow 140 = .ok (.iaload, 1) := by decide +kernel
theorem dX5_letWaterFlow_141 : decode cX5_letWaterFlow 141 = .ok (.aload_n 0, 1) := by decide +kernel
theorem dX5_letWaterFlow_142 : decode cX5_letWaterFlow 142 = .ok (.getfield 50, 3) := by decide +kernel
theorem dX5_letWaterFlow_145 : decode cX5_letWaterFlow 145 = .ok (.iload_n 1, 1) := by decide +kernel
theorem dX5_letWaterFlow_146 : decode cX5_letWaterFlow 146 = .ok (.iaload, 1) := by decide +kernel
theorem dX5_letWaterFlow_147 : decode cX5_letWaterFlow 147 = .ok (.iadd, 1) := by decide +kernel
theorem dX5_letWaterFlow_148 : decode cX5_letWaterFlow 148 = .ok (.iastore, 1) := by decide +kernel
theorem dX5_letWaterFlow_149 : decode cX5_letWaterFlow 149 = .ok (.aload_n 0, 1) := by decide +kernel
theorem dX5_letWaterFlow_150 : decode cX5_letWaterFlow 150 = .ok (.getfield 12, 3) := by decide +kernel
theorem dX5_letWaterFlow_153 : decode cX5_letWaterFlow 153 = .ok (.getfield 160, 3) := by decide +kernel
theorem dX5_letWaterFlow_156 : decode cX5_letWaterFlow 156 = .ok (.iload_n 1, 1) := by decide +kernel
theorem dX5_letWaterFlow_157 : decode cX5_letWaterFlow 157 = .ok (.dup2, 1) := by decide +kernel
theorem dX5_letWaterFlow_158 : decode cX5_letWaterFlow 158 = .ok (.iaload, 1) := by decide +kernel
theorem dX5_letWaterFlow_159 : decode cX5_letWaterFlow 159 = .ok (.aload_n 0, 1) := by decide +kernel
theorem dX5_letWaterFlow_160 : decode cX5_letWaterFlow 160 = .ok (.getfield 53, 3) := by decide +kernel
theorem dX5_letWaterFlow_163 : decode cX5_letWaterFlow 163 = .ok (.iload_n 1, 1) := by decide +kernel
theorem dX5_letWaterFlow_164 : decode cX5_letWaterFlow 164 = .ok (.iaload, 1) := by decide +kernel
theorem dX5_letWaterFlow_165 : decode cX5_letWaterFlow 165 = .ok (.iadd, 1) := by decide +kernel
theorem dX5_letWaterFlow_166 : decode cX5_letWaterFlow 166 = .ok (.iastore, 1) := by decide +kernel
theorem dX5_letWaterFlow_167 : decode cX5_letWaterFlow 167 = .ok (.iinc 1 1, 3) := by decide +kernel
theorem dX5_letWaterFlow_170 : decode cX5_letWaterFlow 170 = .ok (.goto (-45), 3) := by decide +kernel
theorem dX5_letWaterFlow_173 : decode cX5_letWaterFlow 173 = .ok (.return_, 1) := by decide +kernel
theorem dX5_flow_0 : decode cX5_flow 0 = .ok (.aload_n 0, 1) := by decide +kernel
theorem dX5_flow_1 : decode cX5_flow 1 = .ok (.getfield 46, 3) := by decide +kernel
theorem dX5_flow_4 : decode cX5_flow 4 = .ok (.iload_n 1, 1) := by decide +kernel
theorem dX5_flow_5 : decode cX5_flow 5 = .ok (.iaload, 1) := by decide +kernel
theorem dX5_flow_6 : decode cX5_flow 6 = .ok (.aload_n 0, 1) := by decide +kernel
theorem dX5_flow_7 : decode cX5_flow 7 = .ok (.getfield 46, 3) := by decide +kernel
theorem dX5_flow_10 : decode cX5_flow 10 = .ok (.iload_n 2, 1) := by decide +kernel
theorem dX5_flow_11 : decode cX5_flow 11 = .ok (.iaload, 1) := by decide +kernel
theorem dX5_flow_12 : decode cX5_flow 12 = .ok (.isub, 1) := by decide +kernel
theorem dX5_flow_13 : decode cX5_flow 13 = .ok (.iload_n 3, 1) := by decide +kernel
theorem dX5_flow_14 : decode cX5_flow 14 = .ok (.imul, 1) := by decide +kernel
theorem dX5_flow_15 : decode cX5_flow 15 = .ok (.iconst 4, 1) := by decide +kernel
theorem dX5_flow_16 : decode cX5_flow 16 = .ok (.idiv, 1) := by decide +kernel
theorem dX5_flow_17 : decode cX5_flow 17 = .ok (.istore 4, 2) := by decide +kernel
theorem dX5_flow_19 : decode cX5_flow 19 = .ok (.iload 4, 2) := by decide +kernel
theorem dX5_flow_21 : decode cX5_flow 21 = .ok (.aload_n 0, 1) := by decide +kernel
theorem dX5_flow_22 : decode cX5_flow 22 = .ok (.getfield 12, 3) := by decide +kernel
theorem dX5_flow_25 : decode cX5_flow 25 = .ok (.getfield 151, 3) := by decide +kernel
theorem dX5_flow_28 : decode cX5_flow 28 = .ok (.iload_n 1, 1) := by decide +kernel
theorem dX5_flow_29 : decode cX5_flow 29 = .ok (.iaload, 1) := by decide +kernel
theorem dX5_flow_30 : decode cX5_flow 30 = .ok (.invokestatic 207, 3) := by decide +kernel
theorem dX5_flow_33 : decode cX5_flow 33 = .ok (.istore 5, 2) := by decide +kernel
theorem dX5_flow_35 : decode cX5_flow 35 = .ok (.iload 5, 2) := by decide +kernel
theorem dX5_flow_37 : decode cX5_flow 37 = .ok (.ifCond .le 33, 3) := by decide +kernel
theorem dX5_flow_40 : decode cX5_flow 40 = .ok (.aload_n 0, 1) := by decide +kernel
theorem dX5_flow_41 : decode cX5_flow 41 = .ok (.getfield 53, 3) := by decide +kernel
theorem dX5_flow_44 : decode cX5_flow 44 = .ok (.iload_n 2, 1) := by decide +kernel
theorem dX5_flow_45 : decode cX5_flow 45 = .ok (.dup2, 1) := by decide +kernel
theorem dX5_flow_46 : decode cX5_flow 46 = .ok (.iaload, 1) := by decide +kernel
theorem dX5_flow_47 : decode cX5_flow 47 = .ok (.aload_n 0, 1) := by decide +kernel
theorem dX5_flow_48 : decode cX5_flow 48 = .ok (.getfield 12, 3) := by decide +kernel
theorem dX5_flow_51 : decode cX5_flow 51 = .ok (.iload_n 1, 1) := by decide +kernel
theorem dX5_flow_52 : decode cX5_flow 52 = .ok (.iload 5, 2) := by decide +kernel
theorem dX5_flow_54 : decode cX5_flow 54 = .ok (.invokevirtual 213, 3) := by decide +kernel
theorem dX5_flow_57 : decode cX5_flow 57 = .ok (.iadd, 1) := by decide +kernel
theorem dX5_flow_58 : decode cX5_flow 58 = .ok (.iastore, 1) := by decide +kernel
theorem dX5_flow_59 : decode cX5_flow 59 = .ok (.aload_n 0, 1) := by decide +kernel
theorem dX5_flow_60 : decode cX5_flow 60 = .ok (.getfield 50, 3) := by decide +kernel
theorem dX5_flow_63 : decode cX5_flow 63 = .ok (.iload_n 2, 1) := by decide +kernel
theorem dX5_flow_64 : decode cX5_flow 64 = .ok (.dup2, 1) := by decide +kernel
theorem dX5_flow_65 : decode cX5_flow 65 = .ok (.iaload, 1) := by decide +kernel
theorem dX5_flow_66 : decode cX5_flow 66 = .ok (.iload 5, 2) := by decide +kernel
theorem dX5_flow_68 : decode cX5_flow 68 = .ok (.iadd, 1) := by decide +kernel
theorem dX5_flow_69 : decode cX5_flow 69 = .ok (.iastore, 1) := by decide +kernel
theorem dX5_flow_70 : decode cX5_flow 70 = .ok (.return_, 1) := by decide +kernel
theorem dX5_letRiverRun_0 : decode cX5_letRiverRun 0 = .ok (.aload_n 0, 1) := by decide +kernel
theorem dX5_letRiverRun_1 : decode cX5_letRiverRun 1 = .ok (.getfield 21, 3) := by decide +kernel
theorem dX5_letRiverRun_4 : decode cX5_letRiverRun 4 = .ok (.getfield 120, 3) := by decide +kernel
theorem dX5_letRiverRun_7 : decode cX5_letRiverRun 7 = .ok (.istore_n 1, 1) := by decide +kernel
theorem dX5_letRiverRun_8 : decode cX5_letRiverRun 8 = .ok (.bipush 7, 2) := by decide +kernel
theorem dX5_letRiverRun_10 : decode cX5_letRiverRun 10 = .ok (.istore_n 2, 1) := by decide +kernel
theorem dX5_letRiverRun_11 : decode cX5_letRiverRun 11 = .ok (.iload_n 2, 1) := by decide +kernel
theorem dX5_letRiverRun_12 : decode cX5_letRiverRun 12 = .ok (.ifCond .lt 18, 3) := by decide +kernel
theorem dX5_letRiverRun_15 : decode cX5_letRiverRun 15 = .ok (.iload_n 1, 1) := by decide +kernel
theorem dX5_letRiverRun_16 : decode cX5_letRiverRun 16 = .ok (.aload_n 0, 1) := by decide +kernel
theorem dX5_letRiverRun_17 : decode cX5_letRiverRun 17 = .ok (.iload_n 2, 1) := by decide +kernel
theorem dX5_letRiverRun_18 : decode cX5_letRiverRun 18 = .ok (.iload_n 1, 1) := by decide +kernel
theorem dX5_letRiverRun_19 : decode cX5_letRiverRun 19 = .ok (.invokevirtual 235, 3) := by decide +kernel
theorem dX5_letRiverRun_22 : decode cX5_letRiverRun 22 = .ok (.iadd, 1) := by decide +kernel
theorem dX5_letRiverRun_23 : decode cX5_letRiverRun 23 = .ok (.istore_n 1, 1) := by decide +kernel
theorem dX5_letRiverRun_24 : decode cX5_letRiverRun 24 = .ok (.iinc 2 (-1), 3) := by decide +kernel
theorem dX5_letRiverRun_27 : decode cX5_letRiverRun 27 = .ok (.goto (-16), 3) := by decide +kernel
theorem dX5_letRiverRun_30 : decode cX5_letRiverRun 30 = .ok (.aload_n 0, 1) := by decide +kernel
theorem dX5_letRiverRun_31 : decode cX5_letRiverRun 31 = .ok (.getfield 35, 3) := by decide +kernel
theorem dX5_letRiverRun_34 : decode cX5_letRiverRun 34 = .ok (.getfield 147, 3) := by decide +kernel
theorem dX5_letRiverRun_37 : decode cX5_letRiverRun 37 = .ok (.bipush 8, 2) := by decide +kernel
theorem dX5_letRiverRun_39 : decode cX5_letRiverRun 39 = .ok (.dup2, 1) := by decide +kernel
theorem dX5_letRiverRun_40 : decode cX5_letRiverRun 40 = .ok (.laload, 1) := by decide +kernel
theorem dX5_letRiverRun_41 : decode cX5_letRiverRun 41 = .ok (.iload_n 1, 1) := by decide +kernel
theorem dX5_letRiverRun_42 : decode cX5_letRiverRun 42 = .ok (.i2l, 1) := by decide +kernel
theorem dX5_letRiverRun_43 : decode cX5_letRiverRun 43 = .ok (.ladd, 1) := by decide +kernel
theorem dX5_letRiverRun_44 : decode cX5_letRiverRun 44 = .ok (.lastore, 1) := by decide +kernel
theorem dX5_letRiverRun_45 : decode cX5_letRiverRun 45 = .ok (.return_, 1) := by decide +kernel
theorem dX5_runThroughBed_0 : decode cX5_runThroughBed 0 = .ok (.aload_n 0, 1) := by decide +kernel
theorem dX5_runThroughBed_1 : decode cX5_runThroughBed 1 = .ok (.getfield 21, 3) := by decide +kernel
theorem dX5_runThroughBed_4 : decode cX5_runThroughBed 4 = .ok (.getfield 114, 3) := by decide +kernel
theorem dX5_runThroughBed_7 : decode cX5_runThroughBed 7 = .ok (.iload_n 1, 1) := by decide +kernel
theorem dX5_runThroughBed_8 : decode cX5_runThroughBed 8 = .ok (.iaload, 1) := by decide +kernel
theorem dX5_runThroughBed_9 : decode cX5_runThroughBed 9 = .ok (.aload_n 0, 1) := by decide +kernel
theorem dX5_runThroughBed_10 : decode cX5_runThroughBed 10 = .ok (.getfield 12, 3) := by decide +kernel
theorem dX5_runThroughBed_13 : decode cX5_runThroughBed 13 = .ok (.iload_n 1, 1) := by decide +kernel
theorem dX5_runThroughBed_14 : decode cX5_runThroughBed 14 = .ok (.invokevirtual 229, 3) := by decide +kernel
theorem dX5_runThroughBed_17 : decode cX5_runThroughBed 17 = .ok (.isub, 1) := by decide +kernel
theorem dX5_runThroughBed_18 : decode cX5_runThroughBed 18 = .ok (.aload_n 0, 1) := by decide +kernel
theorem dX5_runThroughBed_19 : decode cX5_runThroughBed 19 = .ok (.getfield 21, 3) := by decide +kernel
theorem dX5_runThroughBed_22 : decode cX5_runThroughBed 22 = .ok (.getfield 117, 3) := by decide +kernel
theorem dX5_runThroughBed_25 : decode cX5_runThroughBed 25 = .ok (.iload_n 1, 1) := by decide +kernel
theorem dX5_runThroughBed_26 : decode cX5_runThroughBed 26 = .ok (.iaload, 1) := by decide +kernel
theorem dX5_runThroughBed_27 : decode cX5_runThroughBed 27 = .ok (.imul, 1) := by decide +kernel
theorem dX5_runThroughBed_28 : decode cX5_runThroughBed 28 = .ok (.iconst 4, 1) := by decide +kernel
theorem dX5_runThroughBed_29 : decode cX5_runThroughBed 29 = .ok (.idiv, 1) := by decide +kernel
theorem dX5_runThroughBed_30 : decode cX5_runThroughBed 30 = .ok (.istore_n 3, 1) := by decide +kernel
theorem dX5_runThroughBed_31 : decode cX5_runThroughBed 31 = .ok (.iload_n 3, 1) := by decide +kernel
theorem dX5_runThroughBed_32 : decode cX5_runThroughBed 32 = .ok (.ifCond .ge 48, 3) := by decide +kernel
theorem dX5_runThroughBed_35 : decode cX5_runThroughBed 35 = .ok (.iload_n 3, 1) := by decide +kernel
theorem dX5_runThroughBed_36 : decode cX5_runThroughBed 36 = .ok (.ineg, 1) := by decide +kernel
theorem dX5_runThroughBed_37 : decode cX5_runThroughBed 37 = .ok (.aload_n 0, 1) := by decide +kernel
theorem dX5_runThroughBed_38 : decode cX5_runThroughBed 38 = .ok (.getfield 12, 3) := by decide +kernel
theorem dX5_runThroughBed_41 : decode cX5_runThroughBed 41 = .ok (.getfield 151, 3) := by decide +kernel
theorem dX5_runThroughBed_44 : decode cX5_runThroughBed 44 = .ok (.iload_n 1, 1) := by decide +kernel
theorem dX5_runThroughBed_45 : decode cX5_runThroughBed 45 = .ok (.iaload, 1) := by decide +kernel
theorem dX5_runThroughBed_46 : decode cX5_runThroughBed 46 = .ok (.invokestatic 207, 3) := by decide +kernel
theorem dX5_runThroughBed_49 : decode cX5_runThroughBed 49 = .ok (.istore 4, 2) := by decide +kernel
theorem dX5_runThroughBed_51 : decode cX5_runThroughBed 51 = .ok (.aload_n 0, 1) := by decide +kernel
theorem dX5_runThroughBed_52 : decode cX5_runThroughBed 52 = .ok (.getfield 12, 3) := by decide +kernel
theorem dX5_runThroughBed_55 : decode cX5_runThroughBed 55 = .ok (.iload_n 1, 1) := by decide +kernel
theorem dX5_runThroughBed_56 : decode cX5_runThroughBed 56 = .ok (.iload 4, 2) := by decide +kernel
theorem dX5_runThroughBed_58 : decode cX5_runThroughBed 58 = .ok (.invokevirtual 213, 3) := by decide +kernel
theorem dX5_runThroughBed_61 : decode cX5_runThroughBed 61 = .ok (.pop, 1) := by decide +kernel
theorem dX5_runThroughBed_62 : decode cX5_runThroughBed 62 = .ok (.aload_n 0, 1) := by decide +kernel
theorem dX5_runThroughBed_63 : decode cX5_runThroughBed 63 = .ok (.getfield 35, 3) := by decide +kernel
theorem dX5_runThroughBed_66 : decode cX5_runThroughBed 66 = .ok (.getfield 147, 3) := by decide +kernel
theorem dX5_runThroughBed_69 : decode cX5_runThroughBed 69 = .ok (.iconst 4, 1) := by decide +kernel
theorem dX5_runThroughBed_70 : decode cX5_runThroughBed 70 = .ok (.dup2, 1) := by decide +kernel
theorem dX5_runThroughBed_71 : decode cX5_runThroughBed 71 = .ok (.laload, 1) := by decide +kernel
theorem dX5_runThroughBed_72 : decode cX5_runThroughBed 72 = .ok (.iload 4, 2) := by decide +kernel
theorem dX5_runThroughBed_74 : decode cX5_runThroughBed 74 = .ok (.i2l, 1) := by decide +kernel
theorem dX5_runThroughBed_75 : decode cX5_runThroughBed 75 = .ok (.ladd, 1) := by decide +kernel
theorem dX5_runThroughBed_76 : decode cX5_runThroughBed 76 = .ok (.lastore, 1) := by decide +kernel
theorem dX5_runThroughBed_77 : decode cX5_runThroughBed 77 = .ok (.iload 4, 2) := by decide +kernel
theorem dX5_runThroughBed_79 : decode cX5_runThroughBed 79 = .ok (.ireturn, 1) := by decide +kernel
theorem dX5_runThroughBed_80 : decode cX5_runThroughBed 80 = .ok (.iload_n 3, 1) := by decide +kernel
theorem dX5_runThroughBed_81 : decode cX5_runThroughBed 81 = .ok (.iload_n 2, 1) := by decide +kernel
theorem dX5_runThroughBed_82 : decode cX5_runThroughBed 82 = .ok (.invokestatic 207, 3) := by decide +kernel
theorem dX5_runThroughBed_85 : decode cX5_runThroughBed 85 = .ok (.istore 4, 2) := by decide +kernel
theorem dX5_runThroughBed_87 : decode cX5_runThroughBed 87 = .ok (.aload_n 0, 1) := by decide +kernel
theorem dX5_runThroughBed_88 : decode cX5_runThroughBed 88 = .ok (.getfield 12, 3) := by decide +kernel
theorem dX5_runThroughBed_91 : decode cX5_runThroughBed 91 = .ok (.getfield 151, 3) := by decide +kernel
theorem dX5_runThroughBed_94 : decode cX5_runThroughBed 94 = .ok (.iload_n 1, 1) := by decide +kernel
theorem dX5_runThroughBed_95 : decode cX5_runThroughBed 95 = .ok (.dup2, 1) := by decide +kernel
theorem dX5_runThroughBed_96 : decode cX5_runThroughBed 96 = .ok (.iaload, 1) := by decide +kernel
theorem dX5_runThroughBed_97 : decode cX5_runThroughBed 97 = .ok (.iload 4, 2) := by decide +kernel
theorem dX5_runThroughBed_99 : decode cX5_runThroughBed 99 = .ok (.iadd, 1) := by decide +kernel
theorem dX5_runThroughBed_100 : decode cX5_runThroughBed 100 = .ok (.iastore, 1) := by decide +kernel
theorem dX5_runThroughBed_101 : decode cX5_runThroughBed 101 = .ok (.aload_n 0, 1) := by decide +kernel
theorem dX5_runThroughBed_102 : decode cX5_runThroughBed 102 = .ok (.getfield 35, 3) := by decide +kernel
theorem dX5_runThroughBed_105 : decode cX5_runThroughBed 105 = .ok (.getfield 147, 3) := by decide +kernel
theorem dX5_runThroughBed_108 : decode cX5_runThroughBed 108 = .ok (.iconst 3, 1) := by decide +kernel
theorem dX5_runThroughBed_109 : decode cX5_runThroughBed 109 = .ok (.dup2, 1) := by decide +kernel
theorem dX5_runThroughBed_110 : decode cX5_runThroughBed 110 = .ok (.laload, 1) := by decide +kernel
theorem dX5_runThroughBed_111 : decode cX5_runThroughBed 111 = .ok (.iload 4, 2) := by decide +kernel
theorem dX5_runThroughBed_113 : decode cX5_runThroughBed 113 = .ok (.i2l, 1) := by decide +kernel
theorem dX5_runThroughBed_114 : decode cX5_runThroughBed 114 = .ok (.ladd, 1) := by decide +kernel
theorem dX5_runThroughBed_115 : decode cX5_runThroughBed 115 = .ok (.lastore, 1) := by decide +kernel
theorem dX5_runThroughBed_116 : decode cX5_runThroughBed 116 = .ok (.iload_n 3, 1) := by decide +kernel
theorem dX5_runThroughBed_117 : decode cX5_runThroughBed 117 = .ok (.ifCond .le 15, 3) := by decide +kernel
theorem dX5_runThroughBed_120 : decode cX5_runThroughBed 120 = .ok (.iload 4, 2) := by decide +kernel
theorem dX5_runThroughBed_122 : decode cX5_runThroughBed 122 = .ok (.iload_n 2, 1) := by decide +kernel
theorem dX5_runThroughBed_123 : decode cX5_runThroughBed 123 = .ok (.if_icmp .ne 9, 3) := by decide +kernel
theorem dX5_runThroughBed_126 : decode cX5_runThroughBed 126 = .ok (.aload_n 0, 1) := by decide +kernel
theorem dX5_runThroughBed_127 : decode cX5_runThroughBed 127 = .ok (.bipush 100, 2) := by decide +kernel
theorem dX5_runThroughBed_129 : decode cX5_runThroughBed 129 = .ok (.invokevirtual 222, 3) := by decide +kernel
theorem dX5_runThroughBed_132 : decode cX5_runThroughBed 132 = .ok (.iload 4, 2) := by decide +kernel
theorem dX5_runThroughBed_134 : decode cX5_runThroughBed 134 = .ok (.ineg, 1) := by decide +kernel
theorem dX5_runThroughBed_135 : decode cX5_runThroughBed 135 = .ok (.ireturn, 1) := by decide +kernel
theorem dX5_letSpringsRun_0 : decode cX5_letSpringsRun 0 = .ok (.iconst 0, 1) := by decide +kernel
theorem dX5_letSpringsRun_1 : decode cX5_letSpringsRun 1 = .ok (.istore_n 1, 1) := by decide +kernel
theorem dX5_letSpringsRun_2 : decode cX5_letSpringsRun 2 = .ok (.iload_n 1, 1) := by decide +kernel
theorem dX5_letSpringsRun_3 : decode cX5_letSpringsRun 3 = .ok (.bipush 8, 2) := by decide +kernel
theorem dX5_letSpringsRun_5 : decode cX5_letSpringsRun 5 = .ok (.if_icmp .ge 34, 3) := by decide +kernel
theorem dX5_letSpringsRun_8 : decode cX5_letSpringsRun 8 = .ok (.aload_n 0, 1) := by decide +kernel
theorem dX5_letSpringsRun_9 : decode cX5_letSpringsRun 9 = .ok (.getfield 12, 3) := by decide +kernel
theorem dX5_letSpringsRun_12 : decode cX5_letSpringsRun 12 = .ok (.iload_n 1, 1) := by decide +kernel
theorem dX5_letSpringsRun_13 : decode cX5_letSpringsRun 13 = .ok (.invokevirtual 229, 3) := by decide +kernel
theorem dX5_letSpringsRun_16 : decode cX5_letSpringsRun 16 = .ok (.aload_n 0, 1) := by decide +kernel
theorem dX5_letSpringsRun_17 : decode cX5_letSpringsRun 17 = .ok (.getfield 21, 3) := by decide +kernel
theorem dX5_letSpringsRun_20 : decode cX5_letSpringsRun 20 = .ok (.getfield 102, 3) := by decide +kernel
theorem dX5_letSpringsRun_23 : decode cX5_letSpringsRun 23 = .ok (.iload_n 1, 1) := by decide +kernel
theorem dX5_letSpringsRun_24 : decode cX5_letSpringsRun 24 = .ok (.iaload, 1) := by decide +kernel
theorem dX5_letSpringsRun_25 : decode cX5_letSpringsRun 25 = .ok (.if_icmp .le 8, 3) := by decide +kernel
theorem dX5_letSpringsRun_28 : decode cX5_letSpringsRun 28 = .ok (.aload_n 0, 1) := by decide +kernel
theorem dX5_letSpringsRun_29 : decode cX5_letSpringsRun 29 = .ok (.iload_n 1, 1) := by decide +kernel
theorem dX5_letSpringsRun_30 : decode cX5_letSpringsRun 30 = .ok (.invokevirtual 238, 3) := by decide +kernel
theorem dX5_letSpringsRun_33 : decode cX5_letSpringsRun 33 = .ok (.iinc 1 1, 3) := by decide +kernel
theorem dX5_letSpringsRun_36 : decode cX5_letSpringsRun 36 = .ok (.goto (-34), 3) := by decide +kernel
theorem dX5_letSpringsRun_39 : decode cX5_letSpringsRun 39 = .ok (.return_, 1) := by decide +kernel
theorem dX5_letSpringRun_0 : decode cX5_letSpringRun 0 = .ok (.iconst 0, 1) := by decide +kernel
theorem dX5_letSpringRun_1 : decode cX5_letSpringRun 1 = .ok (.aload_n 0, 1) := by decide +kernel
theorem dX5_letSpringRun_2 : decode cX5_letSpringRun 2 = .ok (.getfield 21, 3) := by decide +kernel
theorem dX5_letSpringRun_5 : decode cX5_letSpringRun 5 = .ok (.getfield 102, 3) := by decide +kernel
theorem dX5_letSpringRun_8 : decode cX5_letSpringRun 8 = .ok (.iload_n 1, 1) := by decide +kernel
theorem dX5_letSpringRun_9 : decode cX5_letSpringRun 9 = .ok (.iaload, 1) := by decide +kernel
theorem dX5_letSpringRun_10 : decode cX5_letSpringRun 10 = .ok (.aload_n 0, 1) := by decide +kernel
theorem dX5_letSpringRun_11 : decode cX5_letSpringRun 11 = .ok (.getfield 12, 3) := by decide +kernel
theorem dX5_letSpringRun_14 : decode cX5_letSpringRun 14 = .ok (.getfield 154, 3) := by decide +kernel
theorem dX5_letSpringRun_17 : decode cX5_letSpringRun 17 = .ok (.iload_n 1, 1) := by decide +kernel
theorem dX5_letSpringRun_18 : decode cX5_letSpringRun 18 = .ok (.iaload, 1) := by decide +kernel
theorem dX5_letSpringRun_19 : decode cX5_letSpringRun 19 = .ok (.isub, 1) := by decide +kernel
theorem dX5_letSpringRun_20 : decode cX5_letSpringRun 20 = .ok (.aload_n 0, 1) := by decide +kernel
theorem dX5_letSpringRun_21 : decode cX5_letSpringRun 21 = .ok (.getfield 12, 3) := by decide +kernel
theorem dX5_letSpringRun_24 : decode cX5_letSpringRun 24 = .ok (.getfield 157, 3) := by decide +kernel
theorem dX5_letSpringRun_27 : decode cX5_letSpringRun 27 = .ok (.iload_n 1, 1) := by decide +kernel
theorem dX5_letSpringRun_28 : decode cX5_letSpringRun 28 = .ok (.iaload, 1) := by decide +kernel
theorem dX5_letSpringRun_29 : decode cX5_letSpringRun 29 = .ok (.imul, 1) := by decide +kernel
theorem dX5_letSpringRun_30 : decode cX5_letSpringRun 30 = .ok (.invokestatic 241, 3) := by decide +kernel
theorem dX5_letSpringRun_33 : decode cX5_letSpringRun 33 = .ok (.istore_n 2, 1) := by decide +kernel
theorem dX5_letSpringRun_34 : decode cX5_letSpringRun 34 = .ok (.iconst 0, 1) := by decide +kernel
theorem dX5_letSpringRun_35 : decode cX5_letSpringRun 35 = .ok (.aload_n 0, 1) := by decide +kernel
theorem dX5_letSpringRun_36 : decode cX5_letSpringRun 36 = .ok (.getfield 12, 3) := by decide +kernel
theorem dX5_letSpringRun_39 : decode cX5_letSpringRun 39 = .ok (.getfield 151, 3) := by decide +kernel
theorem dX5_letSpringRun_42 : decode cX5_letSpringRun 42 = .ok (.iload_n 1, 1) := by decide +kernel
theorem dX5_letSpringRun_43 : decode cX5_letSpringRun 43 = .ok (.iaload, 1) := by decide +kernel
theorem dX5_letSpringRun_44 : decode cX5_letSpringRun 44 = .ok (.iload_n 2, 1) := by decide +kernel
theorem dX5_letSpringRun_45 : decode cX5_letSpringRun 45 = .ok (.isub, 1) := by decide +kernel
theorem dX5_letSpringRun_46 : decode cX5_letSpringRun 46 = .ok (.invokestatic 241, 3) := by decide +kernel
theorem dX5_letSpringRun_49 : decode cX5_letSpringRun 49 = .ok (.istore_n 3, 1) := by decide +kernel
theorem dX5_letSpringRun_50 : decode cX5_letSpringRun 50 = .ok (.aload_n 0, 1) := by decide +kernel
theorem dX5_letSpringRun_51 : decode cX5_letSpringRun 51 = .ok (.getfield 12, 3) := by decide +kernel
theorem dX5_letSpringRun_54 : decode cX5_letSpringRun 54 = .ok (.iload_n 1, 1) := by decide +kernel
theorem dX5_letSpringRun_55 : decode cX5_letSpringRun 55 = .ok (.iload_n 3, 1) := by decide +kernel
theorem dX5_letSpringRun_56 : decode cX5_letSpringRun 56 = .ok (.invokevirtual 213, 3) := by decide +kernel
theorem dX5_letSpringRun_59 : decode cX5_letSpringRun 59 = .ok (.pop, 1) := by decide +kernel
theorem dX5_letSpringRun_60 : decode cX5_letSpringRun 60 = .ok (.aload_n 0, 1) := by decide +kernel
theorem dX5_letSpringRun_61 : decode cX5_letSpringRun 61 = .ok (.getfield 35, 3) := by decide +kernel
theorem dX5_letSpringRun_64 : decode cX5_letSpringRun 64 = .ok (.getfield 147, 3) := by decide +kernel
theorem dX5_letSpringRun_67 : decode cX5_letSpringRun 67 = .ok (.iconst 5, 1) := by decide +kernel
theorem dX5_letSpringRun_68 : decode cX5_letSpringRun 68 = .ok (.dup2, 1) := by decide +kernel
theorem dX5_letSpringRun_69 : decode cX5_letSpringRun 69 = .ok (.laload, 1) := by decide +kernel
theorem dX5_letSpringRun_70 : decode cX5_letSpringRun 70 = .ok (.iload_n 3, 1) := by decide +kernel
theorem dX5_letSpringRun_71 : decode cX5_letSpringRun 71 = .ok (.i2l, 1) := by decide +kernel
theorem dX5_letSpringRun_72 : decode cX5_letSpringRun 72 = .ok (.ladd, 1) := by decide +kernel
theorem dX5_letSpringRun_73 : decode cX5_letSpringRun 73 = .ok (.lastore, 1) := by decide +kernel
theorem dX5_letSpringRun_74 : decode cX5_letSpringRun 74 = .ok (.return_, 1) := by decide +kernel
theorem dX5_meetSea_0 : decode cX5_meetSea 0 = .ok (.iconst 0, 1) := by decide +kernel
theorem dX5_meetSea_1 : decode cX5_meetSea 1 = .ok (.aload_n 0, 1) := by decide +kernel
theorem dX5_meetSea_2 : decode cX5_meetSea 2 = .ok (.getfield 12, 3) := by decide +kernel
theorem dX5_meetSea_5 : decode cX5_meetSea 5 = .ok (.iload_n 1, 1) := by decide +kernel
theorem dX5_meetSea_6 : decode cX5_meetSea 6 = .ok (.invokevirtual 229, 3) := by decide +kernel
theorem dX5_meetSea_9 : decode cX5_meetSea 9 = .ok (.isub, 1) := by decide +kernel
theorem dX5_meetSea_10 : decode cX5_meetSea 10 = .ok (.aload_n 0, 1) := by decide +kernel
theorem dX5_meetSea_11 : decode cX5_meetSea 11 = .ok (.getfield 21, 3) := by decide +kernel
theorem dX5_meetSea_14 : decode cX5_meetSea 14 = .ok (.getfield 123, 3) := by decide +kernel
theorem dX5_meetSea_17 : decode cX5_meetSea 17 = .ok (.imul, 1) := by decide +kernel
theorem dX5_meetSea_18 : decode cX5_meetSea 18 = .ok (.iconst 4, 1) := by decide +kernel
theorem dX5_meetSea_19 : decode cX5_meetSea 19 = .ok (.idiv, 1) := by decide +kernel
theorem dX5_meetSea_20 : decode cX5_meetSea 20 = .ok (.istore_n 2, 1) := by decide +kernel
theorem dX5_meetSea_21 : decode cX5_meetSea 21 = .ok (.iload_n 2, 1) := by decide +kernel
theorem dX5_meetSea_22 : decode cX5_meetSea 22 = .ok (.ifCond .le 50, 3) := by decide +kernel
theorem dX5_meetSea_25 : decode cX5_meetSea 25 = .ok (.aload_n 0, 1) := by decide +kernel
theorem dX5_meetSea_26 : decode cX5_meetSea 26 = .ok (.getfield 12, 3) := by decide +kernel
theorem dX5_meetSea_29 : decode cX5_meetSea 29 = .ok (.getfield 151, 3) := by decide +kernel
theorem dX5_meetSea_32 : decode cX5_meetSea 32 = .ok (.iload_n 1, 1) := by decide +kernel
theorem dX5_meetSea_33 : decode cX5_meetSea 33 = .ok (.dup2, 1) := by decide +kernel
theorem dX5_meetSea_34 : decode cX5_meetSea 34 = .ok (.iaload, 1) := by decide +kernel
theorem dX5_meetSea_35 : decode cX5_meetSea 35 = .ok (.iload_n 2, 1) := by decide +kernel
theorem dX5_meetSea_36 : decode cX5_meetSea 36 = .ok (.iadd, 1) := by decide +kernel
theorem dX5_meetSea_37 : decode cX5_meetSea 37 = .ok (.iastore, 1) := by decide +kernel
theorem dX5_meetSea_38 : decode cX5_meetSea 38 = .ok (.aload_n 0, 1) := by decide +kernel
theorem dX5_meetSea_39 : decode cX5_meetSea 39 = .ok (.getfield 12, 3) := by decide +kernel
theorem dX5_meetSea_42 : decode cX5_meetSea 42 = .ok (.getfield 160, 3) := by decide +kernel
theorem dX5_meetSea_45 : decode cX5_meetSea 45 = .ok (.iload_n 1, 1) := by decide +kernel
theorem dX5_meetSea_46 : decode cX5_meetSea 46 = .ok (.dup2, 1) := by decide +kernel
theorem dX5_meetSea_47 : decode cX5_meetSea 47 = .ok (.iaload, 1) := by decide +kernel
theorem dX5_meetSea_48 : decode cX5_meetSea 48 = .ok (.bipush 35, 2) := by decide +kernel
theorem dX5_meetSea_50 : decode cX5_meetSea 50 = .ok (.iload_n 2, 1) := by decide +kernel
theorem dX5_meetSea_51 : decode cX5_meetSea 51 = .ok (.imul, 1) := by decide +kernel
theorem dX5_meetSea_52 : decode cX5_meetSea 52 = .ok (.iadd, 1) := by decide +kernel
theorem dX5_meetSea_53 : decode cX5_meetSea 53 = .ok (.iastore, 1) := by decide +kernel
theorem dX5_meetSea_54 : decode cX5_meetSea 54 = .ok (.aload_n 0, 1) := by decide +kernel
theorem dX5_meetSea_55 : decode cX5_meetSea 55 = .ok (.getfield 35, 3) := by decide +kernel
theorem dX5_meetSea_58 : decode cX5_meetSea 58 = .ok (.getfield 147, 3) := by decide +kernel
theorem dX5_meetSea_61 : decode cX5_meetSea 61 = .ok (.bipush 6, 2) := by decide +kernel
theorem dX5_meetSea_63 : decode cX5_meetSea 63 = .ok (.dup2, 1) := by decide +kernel
theorem dX5_meetSea_64 : decode cX5_meetSea 64 = .ok (.laload, 1) := by decide +kernel
theorem dX5_meetSea_65 : decode cX5_meetSea 65 = .ok (.iload_n 2, 1) := by decide +kernel
theorem dX5_meetSea_66 : decode cX5_meetSea 66 = .ok (.i2l, 1) := by decide +kernel
theorem dX5_meetSea_67 : decode cX5_meetSea 67 = .ok (.ladd, 1) := by decide +kernel
theorem dX5_meetSea_68 : decode cX5_meetSea 68 = .ok (.lastore, 1) := by decide +kernel
theorem dX5_meetSea_69 : decode cX5_meetSea 69 = .ok (.goto 43, 3) := by decide +kernel
theorem dX5_meetSea_72 : decode cX5_meetSea 72 = .ok (.iload_n 2, 1) := by decide +kernel
theorem dX5_meetSea_73 : decode cX5_meetSea 73 = .ok (.ineg, 1) := by decide +kernel
theorem dX5_meetSea_74 : decode cX5_meetSea 74 = .ok (.aload_n 0, 1) := by decide +kernel
theorem dX5_meetSea_75 : decode cX5_meetSea 75 = .ok (.getfield 12, 3) := by decide +kernel
theorem dX5_meetSea_78 : decode cX5_meetSea 78 = .ok (.getfield 151, 3) := by decide +kernel
theorem dX5_meetSea_81 : decode cX5_meetSea 81 = .ok (.iload_n 1, 1) := by decide +kernel
theorem dX5_meetSea_82 : decode cX5_meetSea 82 = .ok (.iaload, 1) := by decide +kernel
theorem dX5_meetSea_83 : decode cX5_meetSea 83 = .ok (.invokestatic 207, 3) := by decide +kernel
theorem dX5_meetSea_86 : decode cX5_meetSea 86 = .ok (.istore_n 3, 1) := by decide +kernel
theorem dX5_meetSea_87 : decode cX5_meetSea 87 = .ok (.aload_n 0, 1) := by decide +kernel
theorem dX5_meetSea_88 : decode cX5_meetSea 88 = .ok (.getfield 12, 3) := by decide +kernel
theorem dX5_meetSea_91 : decode cX5_meetSea 91 = .ok (.iload_n 1, 1) := by decide +kernel
theorem dX5_meetSea_92 : decode cX5_meetSea 92 = .ok (.iload_n 3, 1) := by decide +kernel
theorem dX5_meetSea_93 : decode cX5_meetSea 93 = .ok (.invokevirtual 213, 3) := by decide +kernel
theorem dX5_meetSea_96 : decode cX5_meetSea 96 = .ok (.pop, 1) := by decide +kernel
theorem dX5_meetSea_97 : decode cX5_meetSea 97 = .ok (.aload_n 0, 1) := by decide +kernel
theorem dX5_meetSea_98 : decode cX5_meetSea 98 = .ok (.getfield 35, 3) := by decide +kernel
theorem dX5_meetSea_101 : decode cX5_meetSea 101 = .ok (.getfield 147, 3) := by decide +kernel
theorem dX5_meetSea_104 : decode cX5_meetSea 104 = .ok (.bipush 7, 2) := by decide +kernel
theorem dX5_meetSea_106 : decode cX5_meetSea 106 = .ok (.dup2, 1) := by decide +kernel
theorem dX5_meetSea_107 : decode cX5_meetSea 107 = .ok (.laload, 1) := by decide +kernel
theorem dX5_meetSea_108 : decode cX5_meetSea 108 = .ok (.iload_n 3, 1) := by decide +kernel
theorem dX5_meetSea_109 : decode cX5_meetSea 109 = .ok (.i2l, 1) := by decide +kernel
theorem dX5_meetSea_110 : decode cX5_meetSea 110 = .ok (.ladd, 1) := by decide +kernel
theorem dX5_meetSea_111 : decode cX5_meetSea 111 = .ok (.lastore, 1) := by decide +kernel
theorem dX5_meetSea_112 : decode cX5_meetSea 112 = .ok (.return_, 1) := by decide +kernel
theorem dX5_endMonth_0 : decode cX5_endMonth 0 = .ok (.aload_n 0, 1) := by decide +kernel
theorem dX5_endMonth_1 : decode cX5_endMonth 1 = .ok (.dup, 1) := by decide +kernel
theorem dX5_endMonth_2 : decode cX5_endMonth 2 = .ok (.getfield 244, 3) := by decide +kernel
theorem dX5_endMonth_5 : decode cX5_endMonth 5 = .ok (.iconst 1, 1) := by decide +kernel
theorem dX5_endMonth_6 : decode cX5_endMonth 6 = .ok (.iadd, 1) := by decide +kernel
theorem dX5_endMonth_7 : decode cX5_endMonth 7 = .ok (.putfield 244, 3) := by decide +kernel
theorem dX5_endMonth_10 : decode cX5_endMonth 10 = .ok (.aload_n 0, 1) := by decide +kernel
theorem dX5_endMonth_11 : decode cX5_endMonth 11 = .ok (.getfield 244, 3) := by decide +kernel
theorem dX5_endMonth_14 : decode cX5_endMonth 14 = .ok (.bipush 12, 2) := by decide +kernel
theorem dX5_endMonth_16 : decode cX5_endMonth 16 = .ok (.irem, 1) := by decide +kernel
theorem dX5_endMonth_17 : decode cX5_endMonth 17 = .ok (.ifCond .ne 7, 3) := by decide +kernel
theorem dX5_endMonth_20 : decode cX5_endMonth 20 = .ok (.aload_n 0, 1) := by decide +kernel
theorem dX5_endMonth_21 : decode cX5_endMonth 21 = .ok (.invokevirtual 247, 3) := by decide +kernel
theorem dX5_endMonth_24 : decode cX5_endMonth 24 = .ok (.return_, 1) := by decide +kernel
theorem dX5_endYear_0 : decode cX5_endYear 0 = .ok (.iconst 0, 1) := by decide +kernel
theorem dX5_endYear_1 : decode cX5_endYear 1 = .ok (.istore_n 1, 1) := by decide +kernel
theorem dX5_endYear_2 : decode cX5_endYear 2 = .ok (.iload_n 1, 1) := by decide +kernel
theorem dX5_endYear_3 : decode cX5_endYear 3 = .ok (.aload_n 0, 1) := by decide +kernel
theorem dX5_endYear_4 : decode cX5_endYear 4 = .ok (.getfield 28, 3) := by decide +kernel
theorem dX5_endYear_7 : decode cX5_endYear 7 = .ok (.getfield 188, 3) := by decide +kernel
theorem dX5_endYear_10 : decode cX5_endYear 10 = .ok (.if_icmp .ge 34, 3) := by decide +kernel
theorem dX5_endYear_13 : decode cX5_endYear 13 = .ok (.aload_n 0, 1) := by decide +kernel
theorem dX5_endYear_14 : decode cX5_endYear 14 = .ok (.getfield 28, 3) := by decide +kernel
theorem dX5_endYear_17 : decode cX5_endYear 17 = .ok (.iload_n 1, 1) := by decide +kernel
theorem dX5_endYear_18 : decode cX5_endYear 18 = .ok (.invokevirtual 250, 3) := by decide +kernel
theorem dX5_endYear_21 : decode cX5_endYear 21 = .ok (.ifCond .eq 9, 3) := by decide +kernel
theorem dX5_endYear_24 : decode cX5_endYear 24 = .ok (.aload_n 0, 1) := by decide +kernel
theorem dX5_endYear_25 : decode cX5_endYear 25 = .ok (.bipush 102, 2) := by decide +kernel
theorem dX5_endYear_27 : decode cX5_endYear 27 = .ok (.invokevirtual 222, 3) := by decide +kernel
theorem dX5_endYear_30 : decode cX5_endYear 30 = .ok (.aload_n 0, 1) := by decide +kernel
theorem dX5_endYear_31 : decode cX5_endYear 31 = .ok (.getfield 28, 3) := by decide +kernel
theorem dX5_endYear_34 : decode cX5_endYear 34 = .ok (.iload_n 1, 1) := by decide +kernel
theorem dX5_endYear_35 : decode cX5_endYear 35 = .ok (.invokevirtual 254, 3) := by decide +kernel
theorem dX5_endYear_38 : decode cX5_endYear 38 = .ok (.iinc 1 1, 3) := by decide +kernel
theorem dX5_endYear_41 : decode cX5_endYear 41 = .ok (.goto (-39), 3) := by decide +kernel
theorem dX5_endYear_44 : decode cX5_endYear 44 = .ok (.return_, 1) := by decide +kernel
theorem dX6_init_0 : decode cX6_init 0 = .ok (.aload_n 0, 1) := by decide +kernel
theorem dX6_init_1 : decode cX6_init 1 = .ok (.invokespecial 1, 3) := by decide +kernel
theorem dX6_init_4 : decode cX6_init 4 = .ok (.aload_n 0, 1) := by decide +kernel
theorem dX6_init_5 : decode cX6_init 5 = .ok (.new 7, 3) := by decide +kernel
theorem dX6_init_8 : decode cX6_init 8 = .ok (.dup, 1) := by decide +kernel
theorem dX6_init_9 : decode cX6_init 9 = .ok (.iconst (-1), 1) := by decide +kernel
theorem dX6_init_10 : decode cX6_init 10 = .ok (.iconst 1, 1) := by decide +kernel
theorem dX6_init_11 : decode cX6_init 11 = .ok (.invokespecial 11, 3) := by decide +kernel
theorem dX6_init_14 : decode cX6_init 14 = .ok (.putfield 14, 3) := by decide +kernel
theorem dX6_init_17 : decode cX6_init 17 = .ok (.aload_n 0, 1) := by decide +kernel
theorem dX6_init_18 : decode cX6_init 18 = .ok (.new 7, 3) := by decide +kernel
theorem dX6_init_21 : decode cX6_init 21 = .ok (.dup, 1) := by decide +kernel
theorem dX6_init_22 : decode cX6_init 22 = .ok (.iconst (-1), 1) := by decide +kernel
theorem dX6_init_23 : decode cX6_init 23 = .ok (.iconst 0, 1) := by decide +kernel
theorem dX6_init_24 : decode cX6_init 24 = .ok (.invokespecial 11, 3) := by decide +kernel
theorem dX6_init_27 : decode cX6_init 27 = .ok (.putfield 18, 3) := by decide +kernel
theorem dX6_init_30 : decode cX6_init 30 = .ok (.aload_n 0, 1) := by decide +kernel
theorem dX6_init_31 : decode cX6_init 31 = .ok (.bipush 6, 2) := by decide +kernel
theorem dX6_init_33 : decode cX6_init 33 = .ok (.anewarray 7, 3) := by decide +kernel
theorem dX6_init_36 : decode cX6_init 36 = .ok (.putfield 21, 3) := by decide +kernel
theorem dX6_init_39 : decode cX6_init 39 = .ok (.aload_n 0, 1) := by decide +kernel
theorem dX6_init_40 : decode cX6_init 40 = .ok (.new 25, 3) := by decide +kernel
theorem dX6_init_43 : decode cX6_init 43 = .ok (.dup, 1) := by decide +kernel
theorem dX6_init_44 : decode cX6_init 44 = .ok (.invokespecial 27, 3) := by decide +kernel
theorem dX6_init_47 : decode cX6_init 47 = .ok (.putfield 28, 3) := by decide +kernel
theorem dX6_init_50 : decode cX6_init 50 = .ok (.return_, 1) := by decide +kernel
theorem dX6_setCell_0 : decode cX6_setCell 0 = .ok (.iload_n 1, 1) := by decide +kernel
theorem dX6_setCell_1 : decode cX6_setCell 1 = .ok (.bipush 16, 2) := by decide +kernel
theorem dX6_setCell_3 : decode cX6_setCell 3 = .ok (.invokestatic 32, 3) := by decide +kernel
theorem dX6_setCell_6 : decode cX6_setCell 6 = .ok (.iload_n 2, 1) := by decide +kernel
theorem dX6_setCell_7 : decode cX6_setCell 7 = .ok (.bipush (-100), 2) := by decide +kernel
theorem dX6_setCell_9 : decode cX6_setCell 9 = .ok (.bipush 100, 2) := by decide +kernel
theorem dX6_setCell_11 : decode cX6_setCell 11 = .ok (.invokestatic 36, 3) := by decide +kernel
theorem dX6_setCell_14 : decode cX6_setCell 14 = .ok (.iload_n 3, 1) := by decide +kernel
theorem dX6_setCell_15 : decode cX6_setCell 15 = .ok (.iconst 1, 1) := by decide +kernel
theorem dX6_setCell_16 : decode cX6_setCell 16 = .ok (.bipush 50, 2) := by decide +kernel
theorem dX6_setCell_18 : decode cX6_setCell 18 = .ok (.invokestatic 36, 3) := by decide +kernel
theorem dX6_setCell_21 : decode cX6_setCell 21 = .ok (.iload 4, 2) := by decide +kernel
theorem dX6_setCell_23 : decode cX6_setCell 23 = .ok (.iconst 0, 1) := by decide +kernel
theorem dX6_setCell_24 : decode cX6_setCell 24 = .ok (.sipush 5000, 3) := by decide +kernel
theorem dX6_setCell_27 : decode cX6_setCell 27 = .ok (.invokestatic 36, 3) := by decide +kernel
theorem dX6_setCell_30 : decode cX6_setCell 30 = .ok (.aload_n 0, 1) := by decide +kernel
theorem dX6_setCell_31 : decode cX6_setCell 31 = .ok (.getfield 14, 3) := by decide +kernel
theorem dX6_setCell_34 : decode cX6_setCell 34 = .ok (.getfield 40, 3) := by decide +kernel
theorem dX6_setCell_37 : decode cX6_setCell 37 = .ok (.getfield 44, 3) := by decide +kernel
theorem dX6_setCell_40 : decode cX6_setCell 40 = .ok (.iload_n 1, 1) := by decide +kernel
theorem dX6_setCell_41 : decode cX6_setCell 41 = .ok (.iaload, 1) := by decide +kernel
theorem dX6_setCell_42 : decode cX6_setCell 42 = .ok (.istore 5, 2) := by decide +kernel
theorem dX6_setCell_44 : decode cX6_setCell 44 = .ok (.aload_n 0, 1) := by decide +kernel
theorem dX6_setCell_45 : decode cX6_setCell 45 = .ok (.new 50, 3) := by decide +kernel
theorem dX6_setCell_48 : decode cX6_setCell 48 = .ok (.dup, 1) := by decide +kernel
theorem dX6_setCell_49 : decode cX6_setCell 49 = .ok (.iconst 0, 1) := by decide +kernel
theorem dX6_setCell_50 : decode cX6_setCell 50 = .ok (.iload_n 1, 1) := by decide +kernel
theorem dX6_setCell_51 : decode cX6_setCell 51 = .ok (.iload_n 2, 1) := by decide +kernel
theorem dX6_setCell_52 : decode cX6_setCell 52 = .ok (.iload_n 3, 1) := by decide +kernel
theorem dX6_setCell_53 : decode cX6_setCell 53 = .ok (.iload 4, 2) := by decide +kernel
theorem dX6_setCell_55 : decode cX6_setCell 55 = .ok (.invokespecial 52, 3) := by decide +kernel
theorem dX6_setCell_58 : decode cX6_setCell 58 = .ok (.invokevirtual 55, 3) := by decide +kernel
theorem dX6_setCell_61 : decode cX6_setCell 61 = .ok (.iload 5, 2) := by decide +kernel
theorem dX6_setCell_63 : decode cX6_setCell 63 = .ok (.ireturn, 1) := by decide +kernel
theorem dX6_setGround_0 : decode cX6_setGround 0 = .ok (.iload_n 1, 1) := by decide +kernel
theorem dX6_setGround_1 : decode cX6_setGround 1 = .ok (.bipush 8, 2) := by decide +kernel
theorem dX6_setGround_3 : decode cX6_setGround 3 = .ok (.invokestatic 32, 3) := by decide +kernel
theorem dX6_setGround_6 : decode cX6_setGround 6 = .ok (.iload_n 2, 1) := by decide +kernel
theorem dX6_setGround_7 : decode cX6_setGround 7 = .ok (.bipush (-100), 2) := by decide +kernel
theorem dX6_setGround_9 : decode cX6_setGround 9 = .ok (.sipush 200, 3) := by decide +kernel
theorem dX6_setGround_12 : decode cX6_setGround 12 = .ok (.invokestatic 36, 3) := by decide +kernel
theorem dX6_setGround_15 : decode cX6_setGround 15 = .ok (.aload_n 0, 1) := by decide +kernel
theorem dX6_setGround_16 : decode cX6_setGround 16 = .ok (.getfield 14, 3) := by decide +kernel
theorem dX6_setGround_19 : decode cX6_setGround 19 = .ok (.getfield 59, 3) := by decide +kernel
theorem dX6_setGround_22 : decode cX6_setGround 22 = .ok (.getfield 63, 3) := by decide +kernel
theorem dX6_setGround_25 : decode cX6_setGround 25 = .ok (.iload_n 1, 1) := by decide +kernel
theorem dX6_setGround_26 : decode cX6_setGround 26 = .ok (.iaload, 1) := by decide +kernel
theorem dX6_setGround_27 : decode cX6_setGround 27 = .ok (.istore_n 3, 1) := by decide +kernel
theorem dX6_setGround_28 : decode cX6_setGround 28 = .ok (.aload_n 0, 1) := by decide +kernel
theorem dX6_setGround_29 : decode cX6_setGround 29 = .ok (.new 50, 3) := by decide +kernel
theorem dX6_setGround_32 : decode cX6_setGround 32 = .ok (.dup, 1) := by decide +kernel
theorem dX6_setGround_33 : decode cX6_setGround 33 = .ok (.iconst 1, 1) := by decide +kernel
theorem dX6_setGround_34 : decode cX6_setGround 34 = .ok (.iload_n 1, 1) := by decide +kernel
theorem dX6_setGround_35 : decode cX6_setGround 35 = .ok (.iload_n 2, 1) := by decide +kernel
theorem dX6_setGround_36 : decode cX6_setGround 36 = .ok (.iconst 0, 1) := by decide +kernel
theorem dX6_setGround_37 : decode cX6_setGround 37 = .ok (.iconst 0, 1) := by decide +kernel
theorem dX6_setGround_38 : decode cX6_setGround 38 = .ok (.invokespecial 52, 3) := by decide +kernel
theorem dX6_setGround_41 : decode cX6_setGround 41 = .ok (.invokevirtual 55, 3) := by decide +kernel
theorem dX6_setGround_44 : decode cX6_setGround 44 = .ok (.iload_n 3, 1) := by decide +kernel
theorem dX6_setGround_45 : decode cX6_setGround 45 = .ok (.ireturn, 1) := by decide +kernel
theorem dX6_setConductance_0 : decode cX6_setConductance 0 = .ok (.iload_n 1, 1) := by decide +kernel
theorem dX6_setConductance_1 : decode cX6_setConductance 1 = .ok (.iconst 2, 1) := by decide +kernel
theorem dX6_setConductance_2 : decode cX6_setConductance 2 = .ok (.invokestatic 32, 3) := by decide +kernel
theorem dX6_setConductance_5 : decode cX6_setConductance 5 = .ok (.iload_n 2, 1) := by decide +kernel
theorem dX6_setConductance_6 : decode cX6_setConductance 6 = .ok (.iconst 0, 1) := by decide +kernel
theorem dX6_setConductance_7 : decode cX6_setConductance 7 = .ok (.bipush 9, 2) := by decide +kernel
theorem dX6_setConductance_9 : decode cX6_setConductance 9 = .ok (.invokestatic 36, 3) := by decide +kernel
theorem dX6_setConductance_12 : decode cX6_setConductance 12 = .ok (.aload_n 0, 1) := by decide +kernel
theorem dX6_setConductance_13 : decode cX6_setConductance 13 = .ok (.getfield 14, 3) := by decide +kernel
theorem dX6_setConductance_16 : decode cX6_setConductance 16 = .ok (.getfield 59, 3) := by decide +kernel
theorem dX6_setConductance_19 : decode cX6_setConductance 19 = .ok (.getfield 68, 3) := by decide +kernel
theorem dX6_setConductance_22 : decode cX6_setConductance 22 = .ok (.iload_n 1, 1) := by decide +kernel
theorem dX6_setConductance_23 : decode cX6_setConductance 23 = .ok (.iaload, 1) := by decide +kernel
theorem dX6_setConductance_24 : decode cX6_setConductance 24 = .ok (.istore_n 3, 1) := by decide +kernel
theorem dX6_setConductance_25 : decode cX6_setConductance 25 = .ok (.aload_n 0, 1) := by decide +kernel
theorem dX6_setConductance_26 : decode cX6_setConductance 26 = .ok (.new 50, 3) := by decide +kernel
theorem dX6_setConductance_29 : decode cX6_setConductance 29 = .ok (.dup, 1) := by decide +kernel
theorem dX6_setConductance_30 : decode cX6_setConductance 30 = .ok (.iconst 2, 1) := by decide +kernel
theorem dX6_setConductance_31 : decode cX6_setConductance 31 = .ok (.iload_n 1, 1) := by decide +kernel
theorem dX6_setConductance_32 : decode cX6_setConductance 32 = .ok (.iload_n 2, 1) := by decide +kernel
theorem dX6_setConductance_33 : decode cX6_setConductance 33 = .ok (.iconst 0, 1) := by decide +kernel
theorem dX6_setConductance_34 : decode cX6_setConductance 34 = .ok (.iconst 0, 1) := by decide +kernel
theorem dX6_setConductance_35 : decode cX6_setConductance 35 = .ok (.invokespecial 52, 3) := by decide +kernel
theorem dX6_setConductance_38 : decode cX6_setConductance 38 = .ok (.invokevirtual 55, 3) := by decide +kernel
theorem dX6_setConductance_41 : decode cX6_setConductance 41 = .ok (.iload_n 3, 1) := by decide +kernel
theorem dX6_setConductance_42 : decode cX6_setConductance 42 = .ok (.ireturn, 1) := by decide +kernel
theorem dX6_setLeakage_0 : decode cX6_setLeakage 0 = .ok (.iload_n 1, 1) := by decide +kernel
theorem dX6_setLeakage_1 : decode cX6_setLeakage 1 = .ok (.bipush 8, 2) := by decide +kernel
theorem dX6_setLeakage_3 : decode cX6_setLeakage 3 = .ok (.invokestatic 32, 3) := by decide +kernel
theorem dX6_setLeakage_6 : decode cX6_setLeakage 6 = .ok (.iload_n 2, 1) := by decide +kernel
theorem dX6_setLeakage_7 : decode cX6_setLeakage 7 = .ok (.iconst 0, 1) := by decide +kernel
theorem dX6_setLeakage_8 : decode cX6_setLeakage 8 = .ok (.bipush 9, 2) := by decide +kernel
theorem dX6_setLeakage_10 : decode cX6_setLeakage 10 = .ok (.invokestatic 36, 3) := by decide +kernel
theorem dX6_setLeakage_13 : decode cX6_setLeakage 13 = .ok (.aload_n 0, 1) := by decide +kernel
theorem dX6_setLeakage_14 : decode cX6_setLeakage 14 = .ok (.getfield 14, 3) := by decide +kernel
theorem dX6_setLeakage_17 : decode cX6_setLeakage 17 = .ok (.getfield 59, 3) := by decide +kernel
theorem dX6_setLeakage_20 : decode cX6_setLeakage 20 = .ok (.getfield 71, 3) := by decide +kernel
theorem dX6_setLeakage_23 : decode cX6_setLeakage 23 = .ok (.iload_n 1, 1) := by decide +kernel
theorem dX6_setLeakage_24 : decode cX6_setLeakage 24 = .ok (.iaload, 1) := by decide +kernel
theorem dX6_setLeakage_25 : decode cX6_setLeakage 25 = .ok (.istore_n 3, 1) := by decide +kernel
theorem dX6_setLeakage_26 : decode cX6_setLeakage 26 = .ok (.aload_n 0, 1) := by decide +kernel
theorem dX6_setLeakage_27 : decode cX6_setLeakage 27 = .ok (.new 50, 3) := by decide +kernel
theorem dX6_setLeakage_30 : decode cX6_setLeakage 30 = .ok (.dup, 1) := by decide +kernel
theorem dX6_setLeakage_31 : decode cX6_setLeakage 31 = .ok (.iconst 3, 1) := by decide +kernel
theorem dX6_setLeakage_32 : decode cX6_setLeakage 32 = .ok (.iload_n 1, 1) := by decide +kernel
theorem dX6_setLeakage_33 : decode cX6_setLeakage 33 = .ok (.iload_n 2, 1) := by decide +kernel
theorem dX6_setLeakage_34 : decode cX6_setLeakage 34 = .ok (.iconst 0, 1) := by decide +kernel
theorem dX6_setLeakage_35 : decode cX6_setLeakage 35 = .ok (.iconst 0, 1) := by decide +kernel
theorem dX6_setLeakage_36 : decode cX6_setLeakage 36 = .ok (.invokespecial 52, 3) := by decide +kernel
theorem dX6_setLeakage_39 : decode cX6_setLeakage 39 = .ok (.invokevirtual 55, 3) := by decide +kernel
theorem dX6_setLeakage_42 : decode cX6_setLeakage 42 = .ok (.iload_n 3, 1) := by decide +kernel
theorem dX6_setLeakage_43 : decode cX6_setLeakage 43 = .ok (.ireturn, 1) := by decide +kernel
theorem dX6_setRain_0 : decode cX6_setRain 0 = .ok (.iload_n 1, 1) := by decide +kernel
theorem dX6_setRain_1 : decode cX6_setRain 1 = .ok (.bipush 8, 2) := by decide +kernel
theorem dX6_setRain_3 : decode cX6_setRain 3 = .ok (.invokestatic 32, 3) := by decide +kernel
theorem dX6_setRain_6 : decode cX6_setRain 6 = .ok (.iload_n 2, 1) := by decide +kernel
theorem dX6_setRain_7 : decode cX6_setRain 7 = .ok (.iconst 0, 1) := by decide +kernel
theorem dX6_setRain_8 : decode cX6_setRain 8 = .ok (.bipush 99, 2) := by decide +kernel
theorem dX6_setRain_10 : decode cX6_setRain 10 = .ok (.invokestatic 36, 3) := by decide +kernel
theorem dX6_setRain_13 : decode cX6_setRain 13 = .ok (.aload_n 0, 1) := by decide +kernel
theorem dX6_setRain_14 : decode cX6_setRain 14 = .ok (.getfield 14, 3) := by decide +kernel
theorem dX6_setRain_17 : decode cX6_setRain 17 = .ok (.getfield 59, 3) := by decide +kernel
theorem dX6_setRain_20 : decode cX6_setRain 20 = .ok (.getfield 74, 3) := by decide +kernel
theorem dX6_setRain_23 : decode cX6_setRain 23 = .ok (.iload_n 1, 1) := by decide +kernel
theorem dX6_setRain_24 : decode cX6_setRain 24 = .ok (.iaload, 1) := by decide +kernel
theorem dX6_setRain_25 : decode cX6_setRain 25 = .ok (.istore_n 3, 1) := by decide +kernel
theorem dX6_setRain_26 : decode cX6_setRain 26 = .ok (.aload_n 0, 1) := by decide +kernel
theorem dX6_setRain_27 : decode cX6_setRain 27 = .ok (.new 50, 3) := by decide +kernel
theorem dX6_setRain_30 : decode cX6_setRain 30 = .ok (.dup, 1) := by decide +kernel
theorem dX6_setRain_31 : decode cX6_setRain 31 = .ok (.iconst 4, 1) := by decide +kernel
theorem dX6_setRain_32 : decode cX6_setRain 32 = .ok (.iload_n 1, 1) := by decide +kernel
theorem dX6_setRain_33 : decode cX6_setRain 33 = .ok (.iload_n 2, 1) := by decide +kernel
theorem dX6_setRain_34 : decode cX6_setRain 34 = .ok (.iconst 0, 1) := by decide +kernel
theorem dX6_setRain_35 : decode cX6_setRain 35 = .ok (.iconst 0, 1) := by decide +kernel
theorem dX6_setRain_36 : decode cX6_setRain 36 = .ok (.invokespecial 52, 3) := by decide +kernel
theorem dX6_setRain_39 : decode cX6_setRain 39 = .ok (.invokevirtual 55, 3) := by decide +kernel
theorem dX6_setRain_42 : decode cX6_setRain 42 = .ok (.iload_n 3, 1) := by decide +kernel
theorem dX6_setRain_43 : decode cX6_setRain 43 = .ok (.ireturn, 1) := by decide +kernel
theorem dX6_setBed_0 : decode cX6_setBed 0 = .ok (.iload_n 1, 1) := by decide +kernel
theorem dX6_setBed_1 : decode cX6_setBed 1 = .ok (.bipush 8, 2) := by decide +kernel
theorem dX6_setBed_3 : decode cX6_setBed 3 = .ok (.invokestatic 32, 3) := by decide +kernel
theorem dX6_setBed_6 : decode cX6_setBed 6 = .ok (.iload_n 2, 1) := by decide +kernel
theorem dX6_setBed_7 : decode cX6_setBed 7 = .ok (.bipush (-100), 2) := by decide +kernel
theorem dX6_setBed_9 : decode cX6_setBed 9 = .ok (.bipush 100, 2) := by decide +kernel
theorem dX6_setBed_11 : decode cX6_setBed 11 = .ok (.invokestatic 36, 3) := by decide +kernel
theorem dX6_setBed_14 : decode cX6_setBed 14 = .ok (.iload_n 3, 1) := by decide +kernel
theorem dX6_setBed_15 : decode cX6_setBed 15 = .ok (.iconst 0, 1) := by decide +kernel
theorem dX6_setBed_16 : decode cX6_setBed 16 = .ok (.bipush 9, 2) := by decide +kernel
theorem dX6_setBed_18 : decode cX6_setBed 18 = .ok (.invokestatic 36, 3) := by decide +kernel
theorem dX6_setBed_21 : decode cX6_setBed 21 = .ok (.aload_n 0, 1) := by decide +kernel
theorem dX6_setBed_22 : decode cX6_setBed 22 = .ok (.getfield 14, 3) := by decide +kernel
theorem dX6_setBed_25 : decode cX6_setBed 25 = .ok (.getfield 59, 3) := by decide +kernel
theorem dX6_setBed_28 : decode cX6_setBed 28 = .ok (.getfield 77, 3) := by decide +kernel
theorem dX6_setBed_31 : decode cX6_setBed 31 = .ok (.iload_n 1, 1) := by decide +kernel
theorem dX6_setBed_32 : decode cX6_setBed 32 = .ok (.iaload, 1) := by decide +kernel
theorem dX6_setBed_33 : decode cX6_setBed 33 = .ok (.istore 4, 2) := by decide +kernel
theorem dX6_setBed_35 : decode cX6_setBed 35 = .ok (.aload_n 0, 1) := by decide +kernel
theorem dX6_setBed_36 : decode cX6_setBed 36 = .ok (.new 50, 3) := by decide +kernel
theorem dX6_setBed_39 : decode cX6_setBed 39 = .ok (.dup, 1) := by decide +kernel
theorem dX6_setBed_40 : decode cX6_setBed 40 = .ok (.iconst 5, 1) := by decide +kernel
theorem dX6_setBed_41 : decode cX6_setBed 41 = .ok (.iload_n 1, 1) := by decide +kernel
theorem dX6_setBed_42 : decode cX6_setBed 42 = .ok (.iload_n 2, 1) := by decide +kernel
theorem dX6_setBed_43 : decode cX6_setBed 43 = .ok (.iload_n 3, 1) := by decide +kernel
theorem dX6_setBed_44 : decode cX6_setBed 44 = .ok (.iconst 0, 1) := by decide +kernel
theorem dX6_setBed_45 : decode cX6_setBed 45 = .ok (.invokespecial 52, 3) := by decide +kernel
theorem dX6_setBed_48 : decode cX6_setBed 48 = .ok (.invokevirtual 55, 3) := by decide +kernel
theorem dX6_setBed_51 : decode cX6_setBed 51 = .ok (.iload 4, 2) := by decide +kernel
theorem dX6_setBed_53 : decode cX6_setBed 53 = .ok (.ireturn, 1) := by decide +kernel
theorem dX6_setRiver_0 : decode cX6_setRiver 0 = .ok (.iload_n 1, 1) := by decide +kernel
theorem dX6_setRiver_1 : decode cX6_setRiver 1 = .ok (.iconst 0, 1) := by decide +kernel
theorem dX6_setRiver_2 : decode cX6_setRiver 2 = .ok (.sipush 999, 3) := by decide +kernel
theorem dX6_setRiver_5 : decode cX6_setRiver 5 = .ok (.invokestatic 36, 3) := by decide +kernel
theorem dX6_setRiver_8 : decode cX6_setRiver 8 = .ok (.aload_n 0, 1) := by decide +kernel
theorem dX6_setRiver_9 : decode cX6_setRiver 9 = .ok (.getfield 14, 3) := by decide +kernel
theorem dX6_setRiver_12 : decode cX6_setRiver 12 = .ok (.getfield 59, 3) := by decide +kernel
theorem dX6_setRiver_15 : decode cX6_setRiver 15 = .ok (.getfield 80, 3) := by decide +kernel
theorem dX6_setRiver_18 : decode cX6_setRiver 18 = .ok (.istore_n 2, 1) := by decide +kernel
theorem dX6_setRiver_19 : decode cX6_setRiver 19 = .ok (.aload_n 0, 1) := by decide +kernel
theorem dX6_setRiver_20 : decode cX6_setRiver 20 = .ok (.new 50, 3) := by decide +kernel
theorem dX6_setRiver_23 : decode cX6_setRiver 23 = .ok (.dup, 1) := by decide +kernel
theorem dX6_setRiver_24 : decode cX6_setRiver 24 = .ok (.bipush 6, 2) := by decide +kernel
theorem dX6_setRiver_26 : decode cX6_setRiver 26 = .ok (.iload_n 1, 1) := by decide +kernel
theorem dX6_setRiver_27 : decode cX6_setRiver 27 = .ok (.iconst 0, 1) := by decide +kernel
theorem dX6_setRiver_28 : decode cX6_setRiver 28 = .ok (.iconst 0, 1) := by decide +kernel
theorem dX6_setRiver_29 : decode cX6_setRiver 29 = .ok (.iconst 0, 1) := by decide +kernel
theorem dX6_setRiver_30 : decode cX6_setRiver 30 = .ok (.invokespecial 52, 3) := by decide +kernel
theorem dX6_setRiver_33 : decode cX6_setRiver 33 = .ok (.invokevirtual 55, 3) := by decide +kernel
theorem dX6_setRiver_36 : decode cX6_setRiver 36 = .ok (.iload_n 2, 1) := by decide +kernel
theorem dX6_setRiver_37 : decode cX6_setRiver 37 = .ok (.ireturn, 1) := by decide +kernel
theorem dX6_setSea_0 : decode cX6_setSea 0 = .ok (.iload_n 1, 1) := by decide +kernel
theorem dX6_setSea_1 : decode cX6_setSea 1 = .ok (.iconst 0, 1) := by decide +kernel
theorem dX6_setSea_2 : decode cX6_setSea 2 = .ok (.bipush 9, 2) := by decide +kernel
theorem dX6_setSea_4 : decode cX6_setSea 4 = .ok (.invokestatic 36, 3) := by decide +kernel
theorem dX6_setSea_7 : decode cX6_setSea 7 = .ok (.aload_n 0, 1) := by decide +kernel
theorem dX6_setSea_8 : decode cX6_setSea 8 = .ok (.getfield 14, 3) := by decide +kernel
theorem dX6_setSea_11 : decode cX6_setSea 11 = .ok (.getfield 59, 3) := by decide +kernel
theorem dX6_setSea_14 : decode cX6_setSea 14 = .ok (.getfield 84, 3) := by decide +kernel
theorem dX6_setSea_17 : decode cX6_setSea 17 = .ok (.istore_n 2, 1) := by decide +kernel
theorem dX6_setSea_18 : decode cX6_setSea 18 = .ok (.aload_n 0, 1) := by decide +kernel
theorem dX6_setSea_19 : decode cX6_setSea 19 = .ok (.new 50, 3) := by decide +kernel
theorem dX6_setSea_22 : decode cX6_setSea 22 = .ok (.dup, 1) := by decide +kernel
theorem dX6_setSea_23 : decode cX6_setSea 23 = .ok (.bipush 7, 2) := by decide +kernel
theorem dX6_setSea_25 : decode cX6_setSea 25 = .ok (.iload_n 1, 1) := by decide +kernel
theorem dX6_setSea_26 : decode cX6_setSea 26 = .ok (.iconst 0, 1) := by decide +kernel
theorem dX6_setSea_27 : decode cX6_setSea 27 = .ok (.iconst 0, 1) := by decide +kernel
theorem dX6_setSea_28 : decode cX6_setSea 28 = .ok (.iconst 0, 1) := by decide +kernel
theorem dX6_setSea_29 : decode cX6_setSea 29 = .ok (.invokespecial 52, 3) := by decide +kernel
theorem dX6_setSea_32 : decode cX6_setSea 32 = .ok (.invokevirtual 55, 3) := by decide +kernel
theorem dX6_setSea_35 : decode cX6_setSea 35 = .ok (.iload_n 2, 1) := by decide +kernel
theorem dX6_setSea_36 : decode cX6_setSea 36 = .ok (.ireturn, 1) := by decide +kernel
theorem dX6_addWell_0 : decode cX6_addWell 0 = .ok (.iload_n 1, 1) := by decide +kernel
theorem dX6_addWell_1 : decode cX6_addWell 1 = .ok (.bipush 16, 2) := by decide +kernel
theorem dX6_addWell_3 : decode cX6_addWell 3 = .ok (.invokestatic 32, 3) := by decide +kernel
theorem dX6_addWell_6 : decode cX6_addWell 6 = .ok (.iload_n 2, 1) := by decide +kernel
theorem dX6_addWell_7 : decode cX6_addWell 7 = .ok (.iconst 0, 1) := by decide +kernel
theorem dX6_addWell_8 : decode cX6_addWell 8 = .ok (.sipush 9999, 3) := by decide +kernel
theorem dX6_addWell_11 : decode cX6_addWell 11 = .ok (.invokestatic 36, 3) := by decide +kernel
theorem dX6_addWell_14 : decode cX6_addWell 14 = .ok (.iload_n 3, 1) := by decide +kernel
theorem dX6_addWell_15 : decode cX6_addWell 15 = .ok (.iconst 0, 1) := by decide +kernel
theorem dX6_addWell_16 : decode cX6_addWell 16 = .ok (.sipush 999, 3) := by decide +kernel
theorem dX6_addWell_19 : decode cX6_addWell 19 = .ok (.invokestatic 36, 3) := by decide +kernel
theorem dX6_addWell_22 : decode cX6_addWell 22 = .ok (.aload_n 0, 1) := by decide +kernel
theorem dX6_addWell_23 : decode cX6_addWell 23 = .ok (.getfield 14, 3) := by decide +kernel
theorem dX6_addWell_26 : decode cX6_addWell 26 = .ok (.getfield 87, 3) := by decide +kernel
theorem dX6_addWell_29 : decode cX6_addWell 29 = .ok (.getfield 91, 3) := by decide +kernel
theorem dX6_addWell_32 : decode cX6_addWell 32 = .ok (.istore 4, 2) := by decide +kernel
theorem dX6_addWell_34 : decode cX6_addWell 34 = .ok (.iload 4, 2) := by decide +kernel
theorem dX6_addWell_36 : decode cX6_addWell 36 = .ok (.bipush 6, 2) := by decide +kernel
theorem dX6_addWell_38 : decode cX6_addWell 38 = .ok (.if_icmp .lt 13, 3) := by decide +kernel
theorem dX6_addWell_41 : decode cX6_addWell 41 = .ok (.new 96, 3) := by decide +kernel
theorem dX6_addWell_44 : decode cX6_addWell 44 = .ok (.dup, 1) := by decide +kernel
theorem dX6_addWell_45 : decode cX6_addWell 45 = .ok (.ldc 98, 2) := by decide +kernel
theorem dX6_addWell_47 : decode cX6_addWell 47 = .ok (.invokespecial 100, 3) := by decide +kernel
theorem dX6_addWell_50 : decode cX6_addWell 50 = .ok (.athrow, 1) := by decide +kernel
theorem dX6_addWell_51 : decode cX6_addWell 51 = .ok (.aload_n 0, 1) := by decide +kernel
theorem dX6_addWell_52 : decode cX6_addWell 52 = .ok (.new 50, 3) := by decide +kernel
theorem dX6_addWell_55 : decode cX6_addWell 55 = .ok (.dup, 1) := by decide +kernel
theorem dX6_addWell_56 : decode cX6_addWell 56 = .ok (.bipush 8, 2) := by decide +kernel
theorem dX6_addWell_58 : decode cX6_addWell 58 = .ok (.iload_n 1, 1) := by decide +kernel
theorem dX6_addWell_59 : decode cX6_addWell 59 = .ok (.iload_n 2, 1) := by decide +kernel
theorem dX6_addWell_60 : decode cX6_addWell 60 = .ok (.iload_n 3, 1) := by decide +kernel
theorem dX6_addWell_61 : decode cX6_addWell 61 = .ok (.iconst 0, 1) := by decide +kernel
theorem dX6_addWell_62 : decode cX6_addWell 62 = .ok (.invokespecial 52, 3) := by decide +kernel
theorem dX6_addWell_65 : decode cX6_addWell 65 = .ok (.invokevirtual 55, 3) := by decide +kernel
theorem dX6_addWell_68 : decode cX6_addWell 68 = .ok (.iload 4, 2) := by decide +kernel
theorem dX6_addWell_70 : decode cX6_addWell 70 = .ok (.ireturn, 1) := by decide +kernel
theorem dX6_setWish_0 : decode cX6_setWish 0 = .ok (.aload_n 0, 1) := by decide +kernel
theorem dX6_setWish_1 : decode cX6_setWish 1 = .ok (.iload_n 1, 1) := by decide +kernel
theorem dX6_setWish_2 : decode cX6_setWish 2 = .ok (.invokevirtual 103, 3) := by decide +kernel
theorem dX6_setWish_5 : decode cX6_setWish 5 = .ok (.iload_n 2, 1) := by decide +kernel
theorem dX6_setWish_6 : decode cX6_setWish 6 = .ok (.iconst 0, 1) := by decide +kernel
theorem dX6_setWish_7 : decode cX6_setWish 7 = .ok (.bipush 99, 2) := by decide +kernel
theorem dX6_setWish_9 : decode cX6_setWish 9 = .ok (.invokestatic 36, 3) := by decide +kernel
theorem dX6_setWish_12 : decode cX6_setWish 12 = .ok (.aload_n 0, 1) := by decide +kernel
theorem dX6_setWish_13 : decode cX6_setWish 13 = .ok (.getfield 14, 3) := by decide +kernel
theorem dX6_setWish_16 : decode cX6_setWish 16 = .ok (.getfield 87, 3) := by decide +kernel
theorem dX6_setWish_19 : decode cX6_setWish 19 = .ok (.getfield 107, 3) := by decide +kernel
theorem dX6_setWish_22 : decode cX6_setWish 22 = .ok (.iload_n 1, 1) := by decide +kernel
theorem dX6_setWish_23 : decode cX6_setWish 23 = .ok (.iaload, 1) := by decide +kernel
theorem dX6_setWish_24 : decode cX6_setWish 24 = .ok (.istore_n 3, 1) := by decide +kernel
theorem dX6_setWish_25 : decode cX6_setWish 25 = .ok (.aload_n 0, 1) := by decide +kernel
theorem dX6_setWish_26 : decode cX6_setWish 26 = .ok (.new 50, 3) := by decide +kernel
theorem dX6_setWish_29 : decode cX6_setWish 29 = .ok (.dup, 1) := by decide +kernel
theorem dX6_setWish_30 : decode cX6_setWish 30 = .ok (.bipush 9, 2) := by decide +kernel
theorem dX6_setWish_32 : decode cX6_setWish 32 = .ok (.iload_n 1, 1) := by decide +kernel
theorem dX6_setWish_33 : decode cX6_setWish 33 = .ok (.iload_n 2, 1) := by decide +kernel
theorem dX6_setWish_34 : decode cX6_setWish 34 = .ok (.iconst 0, 1) := by decide +kernel
theorem dX6_setWish_35 : decode cX6_setWish 35 = .ok (.iconst 0, 1) := by decide +kernel
theorem dX6_setWish_36 : decode cX6_setWish 36 = .ok (.invokespecial 52, 3) := by decide +kernel
theorem dX6_setWish_39 : decode cX6_setWish 39 = .ok (.invokevirtual 55, 3) := by decide +kernel
theorem dX6_setWish_42 : decode cX6_setWish 42 = .ok (.iload_n 3, 1) := by decide +kernel
theorem dX6_setWish_43 : decode cX6_setWish 43 = .ok (.ireturn, 1) := by decide +kernel
theorem dX6_transfer_0 : decode cX6_transfer 0 = .ok (.aload_n 0, 1) := by decide +kernel
theorem dX6_transfer_1 : decode cX6_transfer 1 = .ok (.iload_n 1, 1) := by decide +kernel
theorem dX6_transfer_2 : decode cX6_transfer 2 = .ok (.invokevirtual 103, 3) := by decide +kernel
theorem dX6_transfer_5 : decode cX6_transfer 5 = .ok (.aload_n 0, 1) := by decide +kernel
theorem dX6_transfer_6 : decode cX6_transfer 6 = .ok (.iload_n 2, 1) := by decide +kernel
theorem dX6_transfer_7 : decode cX6_transfer 7 = .ok (.invokevirtual 103, 3) := by decide +kernel
theorem dX6_transfer_10 : decode cX6_transfer 10 = .ok (.iload_n 3, 1) := by decide +kernel
theorem dX6_transfer_11 : decode cX6_transfer 11 = .ok (.iconst 1, 1) := by decide +kernel
theorem dX6_transfer_12 : decode cX6_transfer 12 = .ok (.sipush 999, 3) := by decide +kernel
theorem dX6_transfer_15 : decode cX6_transfer 15 = .ok (.invokestatic 36, 3) := by decide +kernel
theorem dX6_transfer_18 : decode cX6_transfer 18 = .ok (.aload_n 0, 1) := by decide +kernel
theorem dX6_transfer_19 : decode cX6_transfer 19 = .ok (.getfield 14, 3) := by decide +kernel
theorem dX6_transfer_22 : decode cX6_transfer 22 = .ok (.getfield 87, 3) := by decide +kernel
theorem dX6_transfer_25 : decode cX6_transfer 25 = .ok (.iload_n 1, 1) := by decide +kernel
theorem dX6_transfer_26 : decode cX6_transfer 26 = .ok (.iload_n 2, 1) := by decide +kernel
theorem dX6_transfer_27 : decode cX6_transfer 27 = .ok (.iload_n 3, 1) := by decide +kernel
theorem dX6_transfer_28 : decode cX6_transfer 28 = .ok (.invokevirtual 110, 3) := by decide +kernel
theorem dX6_transfer_31 : decode cX6_transfer 31 = .ok (.ifCond .ne 13, 3) := by decide +kernel
theorem dX6_transfer_34 : decode cX6_transfer 34 = .ok (.new 114, 3) := by decide +kernel
theorem dX6_transfer_37 : decode cX6_transfer 37 = .ok (.dup, 1) := by decide +kernel
theorem dX6_transfer_38 : decode cX6_transfer 38 = .ok (.ldc 116, 2) := by decide +kernel
theorem dX6_transfer_40 : decode cX6_transfer 40 = .ok (.invokespecial 118, 3) := by decide +kernel
theorem dX6_transfer_43 : decode cX6_transfer 43 = .ok (.athrow, 1) := by decide +kernel
theorem dX6_transfer_44 : decode cX6_transfer 44 = .ok (.aload_n 0, 1) := by decide +kernel
theorem dX6_transfer_45 : decode cX6_transfer 45 = .ok (.new 50, 3) := by decide +kernel
theorem dX6_transfer_48 : decode cX6_transfer 48 = .ok (.dup, 1) := by decide +kernel
theorem dX6_transfer_49 : decode cX6_transfer 49 = .ok (.bipush 10, 2) := by decide +kernel
theorem dX6_transfer_51 : decode cX6_transfer 51 = .ok (.iload_n 1, 1) := by decide +kernel
theorem dX6_transfer_52 : decode cX6_transfer 52 = .ok (.iload_n 2, 1) := by decide +kernel
theorem dX6_transfer_53 : decode cX6_transfer 53 = .ok (.iload_n 3, 1) := by decide +kernel
theorem dX6_transfer_54 : decode cX6_transfer 54 = .ok (.iconst 0, 1) := by decide +kernel
theorem dX6_transfer_55 : decode cX6_transfer 55 = .ok (.invokespecial 52, 3) := by decide +kernel
theorem dX6_transfer_58 : decode cX6_transfer 58 = .ok (.invokevirtual 55, 3) := by decide +kernel
theorem dX6_transfer_61 : decode cX6_transfer 61 = .ok (.aload_n 0, 1) := by decide +kernel
theorem dX6_transfer_62 : decode cX6_transfer 62 = .ok (.getfield 14, 3) := by decide +kernel
theorem dX6_transfer_65 : decode cX6_transfer 65 = .ok (.getfield 87, 3) := by decide +kernel
theorem dX6_transfer_68 : decode cX6_transfer 68 = .ok (.getfield 119, 3) := by decide +kernel
theorem dX6_transfer_71 : decode cX6_transfer 71 = .ok (.iload_n 1, 1) := by decide +kernel
theorem dX6_transfer_72 : decode cX6_transfer 72 = .ok (.iaload, 1) := by decide +kernel
theorem dX6_transfer_73 : decode cX6_transfer 73 = .ok (.ireturn, 1) := by decide +kernel
theorem dX6_pass_0 : decode cX6_pass 0 = .ok (.iload_n 1, 1) := by decide +kernel
theorem dX6_pass_1 : decode cX6_pass 1 = .ok (.iconst 1, 1) := by decide +kernel
theorem dX6_pass_2 : decode cX6_pass 2 = .ok (.bipush 24, 2) := by decide +kernel
theorem dX6_pass_4 : decode cX6_pass 4 = .ok (.invokestatic 36, 3) := by decide +kernel
theorem dX6_pass_7 : decode cX6_pass 7 = .ok (.aload_n 0, 1) := by decide +kernel
theorem dX6_pass_8 : decode cX6_pass 8 = .ok (.getfield 14, 3) := by decide +kernel
theorem dX6_pass_11 : decode cX6_pass 11 = .ok (.getfield 122, 3) := by decide +kernel
theorem dX6_pass_14 : decode cX6_pass 14 = .ok (.iload_n 1, 1) := by decide +kernel
theorem dX6_pass_15 : decode cX6_pass 15 = .ok (.iadd, 1) := by decide +kernel
theorem dX6_pass_16 : decode cX6_pass 16 = .ok (.sipush 600, 3) := by decide +kernel
theorem dX6_pass_19 : decode cX6_pass 19 = .ok (.if_icmp .le 13, 3) := by decide +kernel
theorem dX6_pass_22 : decode cX6_pass 22 = .ok (.new 125, 3) := by decide +kernel
theorem dX6_pass_25 : decode cX6_pass 25 = .ok (.dup, 1) := by decide +kernel
theorem dX6_pass_26 : decode cX6_pass 26 = .ok (.ldc 127, 2) := by decide +kernel
theorem dX6_pass_28 : decode cX6_pass 28 = .ok (.invokespecial 129, 3) := by decide +kernel
theorem dX6_pass_31 : decode cX6_pass 31 = .ok (.athrow, 1) := by decide +kernel
theorem dX6_pass_32 : decode cX6_pass 32 = .ok (.aload_n 0, 1) := by decide +kernel
theorem dX6_pass_33 : decode cX6_pass 33 = .ok (.new 50, 3) := by decide +kernel
theorem dX6_pass_36 : decode cX6_pass 36 = .ok (.dup, 1) := by decide +kernel
theorem dX6_pass_37 : decode cX6_pass 37 = .ok (.bipush 11, 2) := by decide +kernel
theorem dX6_pass_39 : decode cX6_pass 39 = .ok (.iload_n 1, 1) := by decide +kernel
theorem dX6_pass_40 : decode cX6_pass 40 = .ok (.iconst 0, 1) := by decide +kernel
theorem dX6_pass_41 : decode cX6_pass 41 = .ok (.iconst 0, 1) := by decide +kernel
theorem dX6_pass_42 : decode cX6_pass 42 = .ok (.iconst 0, 1) := by decide +kernel
theorem dX6_pass_43 : decode cX6_pass 43 = .ok (.invokespecial 52, 3) := by decide +kernel
theorem dX6_pass_46 : decode cX6_pass 46 = .ok (.invokevirtual 55, 3) := by decide +kernel
theorem dX6_pass_49 : decode cX6_pass 49 = .ok (.aload_n 0, 1) := by decide +kernel
theorem dX6_pass_50 : decode cX6_pass 50 = .ok (.getfield 14, 3) := by decide +kernel
theorem dX6_pass_53 : decode cX6_pass 53 = .ok (.getfield 122, 3) := by decide +kernel
theorem dX6_pass_56 : decode cX6_pass 56 = .ok (.ireturn, 1) := by decide +kernel
theorem dX6_level_0 : decode cX6_level 0 = .ok (.iload_n 1, 1) := by decide +kernel
theorem dX6_level_1 : decode cX6_level 1 = .ok (.bipush 16, 2) := by decide +kernel
theorem dX6_level_3 : decode cX6_level 3 = .ok (.invokestatic 32, 3) := by decide +kernel
theorem dX6_level_6 : decode cX6_level 6 = .ok (.aload_n 0, 1) := by decide +kernel
theorem dX6_level_7 : decode cX6_level 7 = .ok (.getfield 14, 3) := by decide +kernel
theorem dX6_level_10 : decode cX6_level 10 = .ok (.getfield 40, 3) := by decide +kernel
theorem dX6_level_13 : decode cX6_level 13 = .ok (.iload_n 1, 1) := by decide +kernel
theorem dX6_level_14 : decode cX6_level 14 = .ok (.invokevirtual 130, 3) := by decide +kernel
theorem dX6_level_17 : decode cX6_level 17 = .ok (.ireturn, 1) := by decide +kernel
theorem dX6_water_0 : decode cX6_water 0 = .ok (.iload_n 1, 1) := by decide +kernel
theorem dX6_water_1 : decode cX6_water 1 = .ok (.bipush 16, 2) := by decide +kernel
theorem dX6_water_3 : decode cX6_water 3 = .ok (.invokestatic 32, 3) := by decide +kernel
theorem dX6_water_6 : decode cX6_water 6 = .ok (.aload_n 0, 1) := by decide +kernel
theorem dX6_water_7 : decode cX6_water 7 = .ok (.getfield 14, 3) := by decide +kernel
theorem dX6_water_10 : decode cX6_water 10 = .ok (.getfield 40, 3) := by decide +kernel
theorem dX6_water_13 : decode cX6_water 13 = .ok (.getfield 44, 3) := by decide +kernel
theorem dX6_water_16 : decode cX6_water 16 = .ok (.iload_n 1, 1) := by decide +kernel
theorem dX6_water_17 : decode cX6_water 17 = .ok (.iaload, 1) := by decide +kernel
theorem dX6_water_18 : decode cX6_water 18 = .ok (.ireturn, 1) := by decide +kernel
theorem dX6_salt_0 : decode cX6_salt 0 = .ok (.iload_n 1, 1) := by decide +kernel
theorem dX6_salt_1 : decode cX6_salt 1 = .ok (.bipush 16, 2) := by decide +kernel
theorem dX6_salt_3 : decode cX6_salt 3 = .ok (.invokestatic 32, 3) := by decide +kernel
theorem dX6_salt_6 : decode cX6_salt 6 = .ok (.aload_n 0, 1) := by decide +kernel
theorem dX6_salt_7 : decode cX6_salt 7 = .ok (.getfield 14, 3) := by decide +kernel
theorem dX6_salt_10 : decode cX6_salt 10 = .ok (.getfield 40, 3) := by decide +kernel
theorem dX6_salt_13 : decode cX6_salt 13 = .ok (.getfield 134, 3) := by decide +kernel
theorem dX6_salt_16 : decode cX6_salt 16 = .ok (.iload_n 1, 1) := by decide +kernel
theorem dX6_salt_17 : decode cX6_salt 17 = .ok (.iaload, 1) := by decide +kernel
theorem dX6_salt_18 : decode cX6_salt 18 = .ok (.ireturn, 1) := by decide +kernel
theorem dX6_amount_0 : decode cX6_amount 0 = .ok (.aload_n 0, 1) := by decide +kernel
theorem dX6_amount_1 : decode cX6_amount 1 = .ok (.iload_n 1, 1) := by decide +kernel
theorem dX6_amount_2 : decode cX6_amount 2 = .ok (.invokevirtual 103, 3) := by decide +kernel
theorem dX6_amount_5 : decode cX6_amount 5 = .ok (.aload_n 0, 1) := by decide +kernel
theorem dX6_amount_6 : decode cX6_amount 6 = .ok (.getfield 14, 3) := by decide +kernel
theorem dX6_amount_9 : decode cX6_amount 9 = .ok (.getfield 87, 3) := by decide +kernel
theorem dX6_amount_12 : decode cX6_amount 12 = .ok (.getfield 119, 3) := by decide +kernel
theorem dX6_amount_15 : decode cX6_amount 15 = .ok (.iload_n 1, 1) := by decide +kernel
theorem dX6_amount_16 : decode cX6_amount 16 = .ok (.iaload, 1) := by decide +kernel
theorem dX6_amount_17 : decode cX6_amount 17 = .ok (.ireturn, 1) := by decide +kernel
theorem dX6_yearly_0 : decode cX6_yearly 0 = .ok (.aload_n 0, 1) := by decide +kernel
theorem dX6_yearly_1 : decode cX6_yearly 1 = .ok (.iload_n 1, 1) := by decide +kernel
theorem dX6_yearly_2 : decode cX6_yearly 2 = .ok (.invokevirtual 103, 3) := by decide +kernel
theorem dX6_yearly_5 : decode cX6_yearly 5 = .ok (.aload_n 0, 1) := by decide +kernel
theorem dX6_yearly_6 : decode cX6_yearly 6 = .ok (.getfield 14, 3) := by decide +kernel
theorem dX6_yearly_9 : decode cX6_yearly 9 = .ok (.getfield 87, 3) := by decide +kernel
theorem dX6_yearly_12 : decode cX6_yearly 12 = .ok (.getfield 137, 3) := by decide +kernel
theorem dX6_yearly_15 : decode cX6_yearly 15 = .ok (.iload_n 1, 1) := by decide +kernel
theorem dX6_yearly_16 : decode cX6_yearly 16 = .ok (.iaload, 1) := by decide +kernel
theorem dX6_yearly_17 : decode cX6_yearly 17 = .ok (.ireturn, 1) := by decide +kernel
theorem dX6_pumped_0 : decode cX6_pumped 0 = .ok (.aload_n 0, 1) := by decide +kernel
theorem dX6_pumped_1 : decode cX6_pumped 1 = .ok (.iload_n 1, 1) := by decide +kernel
theorem dX6_pumped_2 : decode cX6_pumped 2 = .ok (.invokevirtual 103, 3) := by decide +kernel
theorem dX6_pumped_5 : decode cX6_pumped 5 = .ok (.aload_n 0, 1) := by decide +kernel
theorem dX6_pumped_6 : decode cX6_pumped 6 = .ok (.getfield 14, 3) := by decide +kernel
theorem dX6_pumped_9 : decode cX6_pumped 9 = .ok (.getfield 87, 3) := by decide +kernel
theorem dX6_pumped_12 : decode cX6_pumped 12 = .ok (.getfield 140, 3) := by decide +kernel
theorem dX6_pumped_15 : decode cX6_pumped 15 = .ok (.iload_n 1, 1) := by decide +kernel
theorem dX6_pumped_16 : decode cX6_pumped 16 = .ok (.laload, 1) := by decide +kernel
theorem dX6_pumped_17 : decode cX6_pumped 17 = .ok (.lreturn, 1) := by decide +kernel
theorem dX6_isShut_0 : decode cX6_isShut 0 = .ok (.aload_n 0, 1) := by decide +kernel
theorem dX6_isShut_1 : decode cX6_isShut 1 = .ok (.iload_n 1, 1) := by decide +kernel
theorem dX6_isShut_2 : decode cX6_isShut 2 = .ok (.invokevirtual 103, 3) := by decide +kernel
theorem dX6_isShut_5 : decode cX6_isShut 5 = .ok (.aload_n 0, 1) := by decide +kernel
theorem dX6_isShut_6 : decode cX6_isShut 6 = .ok (.getfield 14, 3) := by decide +kernel
theorem dX6_isShut_9 : decode cX6_isShut 9 = .ok (.getfield 87, 3) := by decide +kernel
theorem dX6_isShut_12 : decode cX6_isShut 12 = .ok (.getfield 144, 3) := by decide +kernel
theorem dX6_isShut_15 : decode cX6_isShut 15 = .ok (.iload_n 1, 1) := by decide +kernel
theorem dX6_isShut_16 : decode cX6_isShut 16 = .ok (.baload, 1) := by decide +kernel
theorem dX6_isShut_17 : decode cX6_isShut 17 = .ok (.ireturn, 1) := by decide +kernel
theorem dX6_byAge_0 : decode cX6_byAge 0 = .ok (.iload_n 1, 1) := by decide +kernel
theorem dX6_byAge_1 : decode cX6_byAge 1 = .ok (.ifCond .lt 17, 3) := by decide +kernel
theorem dX6_byAge_4 : decode cX6_byAge 4 = .ok (.iload_n 1, 1) := by decide +kernel
theorem dX6_byAge_5 : decode cX6_byAge 5 = .ok (.aload_n 0, 1) := by decide +kernel
theorem dX6_byAge_6 : decode cX6_byAge 6 = .ok (.getfield 14, 3) := by decide +kernel
theorem dX6_byAge_9 : decode cX6_byAge 9 = .ok (.getfield 87, 3) := by decide +kernel
theorem dX6_byAge_12 : decode cX6_byAge 12 = .ok (.getfield 91, 3) := by decide +kernel
theorem dX6_byAge_15 : decode cX6_byAge 15 = .ok (.if_icmp .lt 13, 3) := by decide +kernel
theorem dX6_byAge_18 : decode cX6_byAge 18 = .ok (.new 148, 3) := by decide +kernel
theorem dX6_byAge_21 : decode cX6_byAge 21 = .ok (.dup, 1) := by decide +kernel
theorem dX6_byAge_22 : decode cX6_byAge 22 = .ok (.ldc 150, 2) := by decide +kernel
theorem dX6_byAge_24 : decode cX6_byAge 24 = .ok (.invokespecial 152, 3) := by decide +kernel
theorem dX6_byAge_27 : decode cX6_byAge 27 = .ok (.athrow, 1) := by decide +kernel
theorem dX6_byAge_28 : decode cX6_byAge 28 = .ok (.aload_n 0, 1) := by decide +kernel
theorem dX6_byAge_29 : decode cX6_byAge 29 = .ok (.getfield 14, 3) := by decide +kernel
theorem dX6_byAge_32 : decode cX6_byAge 32 = .ok (.getfield 87, 3) := by decide +kernel
theorem dX6_byAge_35 : decode cX6_byAge 35 = .ok (.getfield 153, 3) := by decide +kernel
theorem dX6_byAge_38 : decode cX6_byAge 38 = .ok (.iload_n 1, 1) := by decide +kernel
theorem dX6_byAge_39 : decode cX6_byAge 39 = .ok (.iaload, 1) := by decide +kernel
theorem dX6_byAge_40 : decode cX6_byAge 40 = .ok (.ireturn, 1) := by decide +kernel
theorem dX6_pumpedWithout_0 : decode cX6_pumpedWithout 0 = .ok (.aload_n 0, 1) := by decide +kernel
theorem dX6_pumpedWithout_1 : decode cX6_pumpedWithout 1 = .ok (.iload_n 1, 1) := by decide +kernel
theorem dX6_pumpedWithout_2 : decode cX6_pumpedWithout 2 = .ok (.invokevirtual 103, 3) := by decide +kernel
theorem dX6_pumpedWithout_5 : decode cX6_pumpedWithout 5 = .ok (.aload_n 0, 1) := by decide +kernel
theorem dX6_pumpedWithout_6 : decode cX6_pumpedWithout 6 = .ok (.iload_n 2, 1) := by decide +kernel
theorem dX6_pumpedWithout_7 : decode cX6_pumpedWithout 7 = .ok (.invokevirtual 103, 3) := by decide +kernel
theorem dX6_pumpedWithout_10 : decode cX6_pumpedWithout 10 = .ok (.iload_n 1, 1) := by decide +kernel
theorem dX6_pumpedWithout_11 : decode cX6_pumpedWithout 11 = .ok (.iload_n 2, 1) := by decide +kernel
theorem dX6_pumpedWithout_12 : decode cX6_pumpedWithout 12 = .ok (.if_icmp .ne 13, 3) := by decide +kernel
theorem dX6_pumpedWithout_15 : decode cX6_pumpedWithout 15 = .ok (.new 114, 3) := by decide +kernel
theorem dX6_pumpedWithout_18 : decode cX6_pumpedWithout 18 = .ok (.dup, 1) := by decide +kernel
theorem dX6_pumpedWithout_19 : decode cX6_pumpedWithout 19 = .ok (.ldc 156, 2) := by decide +kernel
theorem dX6_pumpedWithout_21 : decode cX6_pumpedWithout 21 = .ok (.invokespecial 118, 3) := by decide +kernel
theorem dX6_pumpedWithout_24 : decode cX6_pumpedWithout 24 = .ok (.athrow, 1) := by decide +kernel
theorem dX6_pumpedWithout_25 : decode cX6_pumpedWithout 25 = .ok (.aload_n 0, 1) := by decide +kernel
theorem dX6_pumpedWithout_26 : decode cX6_pumpedWithout 26 = .ok (.iload_n 2, 1) := by decide +kernel
theorem dX6_pumpedWithout_27 : decode cX6_pumpedWithout 27 = .ok (.invokevirtual 158, 3) := by decide +kernel
theorem dX6_pumpedWithout_30 : decode cX6_pumpedWithout 30 = .ok (.astore_n 3, 1) := by decide +kernel
theorem dX6_pumpedWithout_31 : decode cX6_pumpedWithout 31 = .ok (.aload_n 3, 1) := by decide +kernel
theorem dX6_pumpedWithout_32 : decode cX6_pumpedWithout 32 = .ok (.aload_n 0, 1) := by decide +kernel
theorem dX6_pumpedWithout_33 : decode cX6_pumpedWithout 33 = .ok (.getfield 28, 3) := by decide +kernel
theorem dX6_pumpedWithout_36 : decode cX6_pumpedWithout 36 = .ok (.invokevirtual 162, 3) := by decide +kernel
theorem dX6_pumpedWithout_39 : decode cX6_pumpedWithout 39 = .ok (.aload_n 3, 1) := by decide +kernel
theorem dX6_pumpedWithout_40 : decode cX6_pumpedWithout 40 = .ok (.getfield 87, 3) := by decide +kernel
theorem dX6_pumpedWithout_43 : decode cX6_pumpedWithout 43 = .ok (.getfield 140, 3) := by decide +kernel
theorem dX6_pumpedWithout_46 : decode cX6_pumpedWithout 46 = .ok (.iload_n 1, 1) := by decide +kernel
theorem dX6_pumpedWithout_47 : decode cX6_pumpedWithout 47 = .ok (.laload, 1) := by decide +kernel
theorem dX6_pumpedWithout_48 : decode cX6_pumpedWithout 48 = .ok (.lreturn, 1) := by decide +kernel
theorem dX6_events_0 : decode cX6_events 0 = .ok (.aload_n 0, 1) := by decide +kernel
theorem dX6_events_1 : decode cX6_events 1 = .ok (.getfield 14, 3) := by decide +kernel
theorem dX6_events_4 : decode cX6_events 4 = .ok (.getfield 166, 3) := by decide +kernel
theorem dX6_events_7 : decode cX6_events 7 = .ok (.invokevirtual 170, 3) := by decide +kernel
theorem dX6_events_10 : decode cX6_events 10 = .ok (.ireturn, 1) := by decide +kernel
theorem dX6_eventAt_0 : decode cX6_eventAt 0 = .ok (.iload_n 1, 1) := by decide +kernel
theorem dX6_eventAt_1 : decode cX6_eventAt 1 = .ok (.aload_n 0, 1) := by decide +kernel
theorem dX6_eventAt_2 : decode cX6_eventAt 2 = .ok (.getfield 14, 3) := by decide +kernel
theorem dX6_eventAt_5 : decode cX6_eventAt 5 = .ok (.getfield 166, 3) := by decide +kernel
theorem dX6_eventAt_8 : decode cX6_eventAt 8 = .ok (.invokevirtual 170, 3) := by decide +kernel
theorem dX6_eventAt_11 : decode cX6_eventAt 11 = .ok (.invokestatic 32, 3) := by decide +kernel
theorem dX6_eventAt_14 : decode cX6_eventAt 14 = .ok (.aload_n 0, 1) := by decide +kernel
theorem dX6_eventAt_15 : decode cX6_eventAt 15 = .ok (.getfield 14, 3) := by decide +kernel
theorem dX6_eventAt_18 : decode cX6_eventAt 18 = .ok (.getfield 166, 3) := by decide +kernel
theorem dX6_eventAt_21 : decode cX6_eventAt 21 = .ok (.iload_n 1, 1) := by decide +kernel
theorem dX6_eventAt_22 : decode cX6_eventAt 22 = .ok (.invokevirtual 176, 3) := by decide +kernel
theorem dX6_eventAt_25 : decode cX6_eventAt 25 = .ok (.ireturn, 1) := by decide +kernel
theorem dX6_account_0 : decode cX6_account 0 = .ok (.ldc 182, 2) := by decide +kernel
theorem dX6_account_2 : decode cX6_account 2 = .ok (.iload_n 1, 1) := by decide +kernel
theorem dX6_account_3 : decode cX6_account 3 = .ok (.invokevirtual 184, 3) := by decide +kernel
theorem dX6_account_6 : decode cX6_account 6 = .ok (.istore_n 2, 1) := by decide +kernel
theorem dX6_account_7 : decode cX6_account 7 = .ok (.iload_n 2, 1) := by decide +kernel
theorem dX6_account_8 : decode cX6_account 8 = .ok (.ifCond .ge 13, 3) := by decide +kernel
theorem dX6_account_11 : decode cX6_account 11 = .ok (.new 189, 3) := by decide +kernel
theorem dX6_account_14 : decode cX6_account 14 = .ok (.dup, 1) := by decide +kernel
theorem dX6_account_15 : decode cX6_account 15 = .ok (.ldc 191, 2) := by decide +kernel
theorem dX6_account_17 : decode cX6_account 17 = .ok (.invokespecial 193, 3) := by decide +kernel
theorem dX6_account_20 : decode cX6_account 20 = .ok (.athrow, 1) := by decide +kernel
theorem dX6_account_21 : decode cX6_account 21 = .ok (.aload_n 0, 1) := by decide +kernel
theorem dX6_account_22 : decode cX6_account 22 = .ok (.getfield 14, 3) := by decide +kernel
theorem dX6_account_25 : decode cX6_account 25 = .ok (.getfield 194, 3) := by decide +kernel
theorem dX6_account_28 : decode cX6_account 28 = .ok (.getfield 198, 3) := by decide +kernel
theorem dX6_account_31 : decode cX6_account 31 = .ok (.iload_n 2, 1) := by decide +kernel
theorem dX6_account_32 : decode cX6_account 32 = .ok (.laload, 1) := by decide +kernel
theorem dX6_account_33 : decode cX6_account 33 = .ok (.lreturn, 1) := by decide +kernel
theorem dX6_checksum_0 : decode cX6_checksum 0 = .ok (.lconst 0, 1) := by decide +kernel
theorem dX6_checksum_1 : decode cX6_checksum 1 = .ok (.lstore_n 1, 1) := by decide +kernel
theorem dX6_checksum_2 : decode cX6_checksum 2 = .ok (.iconst 0, 1) := by decide +kernel
theorem dX6_checksum_3 : decode cX6_checksum 3 = .ok (.istore_n 3, 1) := by decide +kernel
theorem dX6_checksum_4 : decode cX6_checksum 4 = .ok (.iload_n 3, 1) := by decide +kernel
theorem dX6_checksum_5 : decode cX6_checksum 5 = .ok (.bipush 16, 2) := by decide +kernel
theorem dX6_checksum_7 : decode cX6_checksum 7 = .ok (.if_icmp .ge 47, 3) := by decide +kernel
theorem dX6_checksum_10 : decode cX6_checksum 10 = .ok (.ldc2_w 201, 3) := by decide +kernel
theorem dX6_checksum_13 : decode cX6_checksum 13 = .ok (.lload_n 1, 1) := by decide +kernel
theorem dX6_checksum_14 : decode cX6_checksum 14 = .ok (.lmul, 1) := by decide +kernel
theorem dX6_checksum_15 : decode cX6_checksum 15 = .ok (.aload_n 0, 1) := by decide +kernel
theorem dX6_checksum_16 : decode cX6_checksum 16 = .ok (.getfield 14, 3) := by decide +kernel
theorem dX6_checksum_19 : decode cX6_checksum 19 = .ok (.getfield 40, 3) := by decide +kernel
theorem dX6_checksum_22 : decode cX6_checksum 22 = .ok (.getfield 44, 3) := by decide +kernel
theorem dX6_checksum_25 : decode cX6_checksum 25 = .ok (.iload_n 3, 1) := by decide +kernel
theorem dX6_checksum_26 : decode cX6_checksum 26 = .ok (.iaload, 1) := by decide +kernel
theorem dX6_checksum_27 : decode cX6_checksum 27 = .ok (.i2l, 1) := by decide +kernel
theorem dX6_checksum_28 : decode cX6_checksum 28 = .ok (.ladd, 1) := by decide +kernel
theorem dX6_checksum_29 : decode cX6_checksum 29 = .ok (.ldc2_w 203, 3) := by decide +kernel
theorem dX6_checksum_32 : decode cX6_checksum 32 = .ok (.aload_n 0, 1) := by decide +kernel
theorem dX6_checksum_33 : decode cX6_checksum 33 = .ok (.getfield 14, 3) := by decide +kernel
theorem dX6_checksum_36 : decode cX6_checksum 36 = .ok (.getfield 40, 3) := by decide +kernel
theorem dX6_checksum_39 : decode cX6_checksum 39 = .ok (.getfield 134, 3) := by decide +kernel
theorem dX6_checksum_42 : decode cX6_checksum 42 = .ok (.iload_n 3, 1) := by decide +kernel
theorem dX6_checksum_43 : decode cX6_checksum 43 = .ok (.iaload, 1) := by decide +kernel
theorem dX6_checksum_44 : decode cX6_checksum 44 = .ok (.i2l, 1) := by decide +kernel
theorem dX6_checksum_45 : decode cX6_checksum 45 = .ok (.lmul, 1) := by decide +kernel
theorem dX6_checksum_46 : decode cX6_checksum 46 = .ok (.ladd, 1) := by decide +kernel
theorem dX6_checksum_47 : decode cX6_checksum 47 = .ok (.lstore_n 1, 1) := by decide +kernel
theorem dX6_checksum_48 : decode cX6_checksum 48 = .ok (.iinc 3 1, 3) := by decide +kernel
theorem dX6_checksum_51 : decode cX6_checksum 51 = .ok (.goto (-47), 3) := by decide +kernel
theorem dX6_checksum_54 : decode cX6_checksum 54 = .ok (.lload_n 1, 1) := by decide +kernel
theorem dX6_checksum_55 : decode cX6_checksum 55 = .ok (.lreturn, 1) := by decide +kernel
theorem dX6_dryShare_0 : decode cX6_dryShare 0 = .ok (.iconst 0, 1) := by decide +kernel
theorem dX6_dryShare_1 : decode cX6_dryShare 1 = .ok (.istore_n 1, 1) := by decide +kernel
theorem dX6_dryShare_2 : decode cX6_dryShare 2 = .ok (.iconst 0, 1) := by decide +kernel
theorem dX6_dryShare_3 : decode cX6_dryShare 3 = .ok (.istore_n 2, 1) := by decide +kernel
theorem dX6_dryShare_4 : decode cX6_dryShare 4 = .ok (.iload_n 2, 1) := by decide +kernel
theorem dX6_dryShare_5 : decode cX6_dryShare 5 = .ok (.bipush 16, 2) := by decide +kernel
theorem dX6_dryShare_7 : decode cX6_dryShare 7 = .ok (.if_icmp .ge 27, 3) := by decide +kernel
theorem dX6_dryShare_10 : decode cX6_dryShare 10 = .ok (.aload_n 0, 1) := by decide +kernel
theorem dX6_dryShare_11 : decode cX6_dryShare 11 = .ok (.getfield 14, 3) := by decide +kernel
theorem dX6_dryShare_14 : decode cX6_dryShare 14 = .ok (.getfield 40, 3) := by decide +kernel
theorem dX6_dryShare_17 : decode cX6_dryShare 17 = .ok (.getfield 44, 3) := by decide +kernel
theorem dX6_dryShare_20 : decode cX6_dryShare 20 = .ok (.iload_n 2, 1) := by decide +kernel
theorem dX6_dryShare_21 : decode cX6_dryShare 21 = .ok (.iaload, 1) := by decide +kernel
theorem dX6_dryShare_22 : decode cX6_dryShare 22 = .ok (.ifCond .ne 6, 3) := by decide +kernel
theorem dX6_dryShare_25 : decode cX6_dryShare 25 = .ok (.iinc 1 1, 3) := by decide +kernel
theorem dX6_dryShare_28 : decode cX6_dryShare 28 = .ok (.iinc 2 1, 3) := by decide +kernel
theorem dX6_dryShare_31 : decode cX6_dryShare 31 = .ok (.goto (-27), 3) := by decide +kernel
theorem dX6_dryShare_34 : decode cX6_dryShare 34 = .ok (.iload_n 1, 1) := by decide +kernel
theorem dX6_dryShare_35 : decode cX6_dryShare 35 = .ok (.i2f, 1) := by decide +kernel
theorem dX6_dryShare_36 : decode cX6_dryShare 36 = .ok (.ldc 205, 2) := by decide +kernel
theorem dX6_dryShare_38 : decode cX6_dryShare 38 = .ok (.fdiv, 1) := by decide +kernel
theorem dX6_dryShare_39 : decode cX6_dryShare 39 = .ok (.freturn, 1) := by decide +kernel
theorem dX6_meanLevel_0 : decode cX6_meanLevel 0 = .ok (.iconst 0, 1) := by decide +kernel
theorem dX6_meanLevel_1 : decode cX6_meanLevel 1 = .ok (.istore_n 1, 1) := by decide +kernel
theorem dX6_meanLevel_2 : decode cX6_meanLevel 2 = .ok (.iconst 0, 1) := by decide +kernel
theorem dX6_meanLevel_3 : decode cX6_meanLevel 3 = .ok (.istore_n 2, 1) := by decide +kernel
theorem dX6_meanLevel_4 : decode cX6_meanLevel 4 = .ok (.iload_n 2, 1) := by decide +kernel
theorem dX6_meanLevel_5 : decode cX6_meanLevel 5 = .ok (.bipush 16, 2) := by decide +kernel
theorem dX6_meanLevel_7 : decode cX6_meanLevel 7 = .ok (.if_icmp .ge 23, 3) := by decide +kernel
theorem dX6_meanLevel_10 : decode cX6_meanLevel 10 = .ok (.iload_n 1, 1) := by decide +kernel
theorem dX6_meanLevel_11 : decode cX6_meanLevel 11 = .ok (.aload_n 0, 1) := by decide +kernel
theorem dX6_meanLevel_12 : decode cX6_meanLevel 12 = .ok (.getfield 14, 3) := by decide +kernel
theorem dX6_meanLevel_15 : decode cX6_meanLevel 15 = .ok (.getfield 40, 3) := by decide +kernel
theorem dX6_meanLevel_18 : decode cX6_meanLevel 18 = .ok (.iload_n 2, 1) := by decide +kernel
theorem dX6_meanLevel_19 : decode cX6_meanLevel 19 = .ok (.invokevirtual 130, 3) := by decide +kernel
theorem dX6_meanLevel_22 : decode cX6_meanLevel 22 = .ok (.iadd, 1) := by decide +kernel
theorem dX6_meanLevel_23 : decode cX6_meanLevel 23 = .ok (.istore_n 1, 1) := by decide +kernel
theorem dX6_meanLevel_24 : decode cX6_meanLevel 24 = .ok (.iinc 2 1, 3) := by decide +kernel
theorem dX6_meanLevel_27 : decode cX6_meanLevel 27 = .ok (.goto (-23), 3) := by decide +kernel
theorem dX6_meanLevel_30 : decode cX6_meanLevel 30 = .ok (.iload_n 1, 1) := by decide +kernel
theorem dX6_meanLevel_31 : decode cX6_meanLevel 31 = .ok (.i2d, 1) := by decide +kernel
theorem dX6_meanLevel_32 : decode cX6_meanLevel 32 = .ok (.ldc2_w 206, 3) := by decide +kernel
theorem dX6_meanLevel_35 : decode cX6_meanLevel 35 = .ok (.ddiv, 1) := by decide +kernel
theorem dX6_meanLevel_36 : decode cX6_meanLevel 36 = .ok (.dreturn, 1) := by decide +kernel
theorem dX6_isSound_0 : decode cX6_isSound 0 = .ok (.aload_n 0, 1) := by decide +kernel
theorem dX6_isSound_1 : decode cX6_isSound 1 = .ok (.getfield 18, 3) := by decide +kernel
theorem dX6_isSound_4 : decode cX6_isSound 4 = .ok (.aload_n 0, 1) := by decide +kernel
theorem dX6_isSound_5 : decode cX6_isSound 5 = .ok (.getfield 28, 3) := by decide +kernel
theorem dX6_isSound_8 : decode cX6_isSound 8 = .ok (.invokevirtual 162, 3) := by decide +kernel
theorem dX6_isSound_11 : decode cX6_isSound 11 = .ok (.aload_n 0, 1) := by decide +kernel
theorem dX6_isSound_12 : decode cX6_isSound 12 = .ok (.getfield 14, 3) := by decide +kernel
theorem dX6_isSound_15 : decode cX6_isSound 15 = .ok (.getfield 194, 3) := by decide +kernel
theorem dX6_isSound_18 : decode cX6_isSound 18 = .ok (.aload_n 0, 1) := by decide +kernel
theorem dX6_isSound_19 : decode cX6_isSound 19 = .ok (.getfield 14, 3) := by decide +kernel
theorem dX6_isSound_22 : decode cX6_isSound 22 = .ok (.getfield 40, 3) := by decide +kernel
theorem dX6_isSound_25 : decode cX6_isSound 25 = .ok (.invokevirtual 208, 3) := by decide +kernel
theorem dX6_isSound_28 : decode cX6_isSound 28 = .ok (.invokevirtual 212, 3) := by decide +kernel
theorem dX6_isSound_31 : decode cX6_isSound 31 = .ok (.ifCond .eq 40, 3) := by decide +kernel
theorem dX6_isSound_34 : decode cX6_isSound 34 = .ok (.aload_n 0, 1) := by decide +kernel
theorem dX6_isSound_35 : decode cX6_isSound 35 = .ok (.getfield 14, 3) := by decide +kernel
theorem dX6_isSound_38 : decode cX6_isSound 38 = .ok (.getfield 40, 3) := by decide +kernel
theorem dX6_isSound_41 : decode cX6_isSound 41 = .ok (.aload_n 0, 1) := by decide +kernel
theorem dX6_isSound_42 : decode cX6_isSound 42 = .ok (.getfield 18, 3) := by decide +kernel
theorem dX6_isSound_45 : decode cX6_isSound 45 = .ok (.getfield 40, 3) := by decide +kernel
theorem dX6_isSound_48 : decode cX6_isSound 48 = .ok (.invokevirtual 216, 3) := by decide +kernel
theorem dX6_isSound_51 : decode cX6_isSound 51 = .ok (.ifCond .eq 20, 3) := by decide +kernel
theorem dX6_isSound_54 : decode cX6_isSound 54 = .ok (.aload_n 0, 1) := by decide +kernel
theorem dX6_isSound_55 : decode cX6_isSound 55 = .ok (.getfield 14, 3) := by decide +kernel
theorem dX6_isSound_58 : decode cX6_isSound 58 = .ok (.getfield 87, 3) := by decide +kernel
theorem dX6_isSound_61 : decode cX6_isSound 61 = .ok (.invokevirtual 220, 3) := by decide +kernel
theorem dX6_isSound_64 : decode cX6_isSound 64 = .ok (.ifCond .eq 7, 3) := by decide +kernel
theorem dX6_isSound_67 : decode cX6_isSound 67 = .ok (.iconst 1, 1) := by decide +kernel
theorem dX6_isSound_68 : decode cX6_isSound 68 = .ok (.goto 4, 3) := by decide +kernel
theorem dX6_isSound_71 : decode cX6_isSound 71 = .ok (.iconst 0, 1) := by decide +kernel
theorem dX6_isSound_72 : decode cX6_isSound 72 = .ok (.ireturn, 1) := by decide +kernel
theorem dX6_requireWell_0 : decode cX6_requireWell 0 = .ok (.iload_n 1, 1) := by decide +kernel
theorem dX6_requireWell_1 : decode cX6_requireWell 1 = .ok (.aload_n 0, 1) := by decide +kernel
theorem dX6_requireWell_2 : decode cX6_requireWell 2 = .ok (.getfield 14, 3) := by decide +kernel
theorem dX6_requireWell_5 : decode cX6_requireWell 5 = .ok (.getfield 87, 3) := by decide +kernel
theorem dX6_requireWell_8 : decode cX6_requireWell 8 = .ok (.getfield 91, 3) := by decide +kernel
theorem dX6_requireWell_11 : decode cX6_requireWell 11 = .ok (.invokestatic 32, 3) := by decide +kernel
theorem dX6_requireWell_14 : decode cX6_requireWell 14 = .ok (.return_, 1) := by decide +kernel
theorem dX6_requireIndex_0 : decode cX6_requireIndex 0 = .ok (.iload_n 0, 1) := by decide +kernel
theorem dX6_requireIndex_1 : decode cX6_requireIndex 1 = .ok (.ifCond .lt 8, 3) := by decide +kernel
theorem dX6_requireIndex_4 : decode cX6_requireIndex 4 = .ok (.iload_n 0, 1) := by decide +kernel
theorem dX6_requireIndex_5 : decode cX6_requireIndex 5 = .ok (.iload_n 1, 1) := by decide +kernel
theorem dX6_requireIndex_6 : decode cX6_requireIndex 6 = .ok (.if_icmp .lt 13, 3) := by decide +kernel
theorem dX6_requireIndex_9 : decode cX6_requireIndex 9 = .ok (.new 224, 3) := by decide +kernel
theorem dX6_requireIndex_12 : decode cX6_requireIndex 12 = .ok (.dup, 1) := by decide +kernel
theorem dX6_requireIndex_13 : decode cX6_requireIndex 13 = .ok (.ldc 150, 2) := by decide +kernel
theorem dX6_requireIndex_15 : decode cX6_requireIndex 15 = .ok (.invokespecial 226, 3) := by decide +kernel
theorem dX6_requireIndex_18 : decode cX6_requireIndex 18 = .ok (.athrow, 1) := by decide +kernel
theorem dX6_requireIndex_19 : decode cX6_requireIndex 19 = .ok (.return_, 1) := by decide +kernel
theorem dX6_requireRange_0 : decode cX6_requireRange 0 = .ok (.iload_n 0, 1) := by decide +kernel
theorem dX6_requireRange_1 : decode cX6_requireRange 1 = .ok (.iload_n 1, 1) := by decide +kernel
theorem dX6_requireRange_2 : decode cX6_requireRange 2 = .ok (.if_icmp .lt 8, 3) := by decide +kernel
theorem dX6_requireRange_5 : decode cX6_requireRange 5 = .ok (.iload_n 0, 1) := by decide +kernel
theorem dX6_requireRange_6 : decode cX6_requireRange 6 = .ok (.iload_n 2, 1) := by decide +kernel
theorem dX6_requireRange_7 : decode cX6_requireRange 7 = .ok (.if_icmp .le 13, 3) := by decide +kernel
theorem dX6_requireRange_10 : decode cX6_requireRange 10 = .ok (.new 189, 3) := by decide +kernel
theorem dX6_requireRange_13 : decode cX6_requireRange 13 = .ok (.dup, 1) := by decide +kernel
theorem dX6_requireRange_14 : decode cX6_requireRange 14 = .ok (.ldc 227, 2) := by decide +kernel
theorem dX6_requireRange_16 : decode cX6_requireRange 16 = .ok (.invokespecial 193, 3) := by decide +kernel
theorem dX6_requireRange_19 : decode cX6_requireRange 19 = .ok (.athrow, 1) := by decide +kernel
theorem dX6_requireRange_20 : decode cX6_requireRange 20 = .ok (.return_, 1) := by decide +kernel
theorem dX6_carryOut_0 : decode cX6_carryOut 0 = .ok (.aload_n 0, 1) := by decide +kernel
theorem dX6_carryOut_1 : decode cX6_carryOut 1 = .ok (.getfield 28, 3) := by decide +kernel
theorem dX6_carryOut_4 : decode cX6_carryOut 4 = .ok (.invokevirtual 229, 3) := by decide +kernel
theorem dX6_carryOut_7 : decode cX6_carryOut 7 = .ok (.sipush 512, 3) := by decide +kernel
theorem dX6_carryOut_10 : decode cX6_carryOut 10 = .ok (.if_icmp .ge 12, 3) := by decide +kernel
theorem dX6_carryOut_13 : decode cX6_carryOut 13 = .ok (.aload_n 0, 1) := by decide +kernel
theorem dX6_carryOut_14 : decode cX6_carryOut 14 = .ok (.getfield 28, 3) := by decide +kernel
theorem dX6_carryOut_17 : decode cX6_carryOut 17 = .ok (.aload_n 1, 1) := by decide +kernel
theorem dX6_carryOut_18 : decode cX6_carryOut 18 = .ok (.invokevirtual 232, 3) := by decide +kernel
theorem dX6_carryOut_21 : decode cX6_carryOut 21 = .ok (.pop, 1) := by decide +kernel
theorem dX6_carryOut_22 : decode cX6_carryOut 22 = .ok (.aload_n 0, 1) := by decide +kernel
theorem dX6_carryOut_23 : decode cX6_carryOut 23 = .ok (.getfield 14, 3) := by decide +kernel
theorem dX6_carryOut_26 : decode cX6_carryOut 26 = .ok (.aload_n 1, 1) := by decide +kernel
theorem dX6_carryOut_27 : decode cX6_carryOut 27 = .ok (.invokevirtual 236, 3) := by decide +kernel
theorem dX6_carryOut_30 : decode cX6_carryOut 30 = .ok (.return_, 1) := by decide +kernel
theorem dX6_worldWithout_0 : decode cX6_worldWithout 0 = .ok (.aload_n 0, 1) := by decide +kernel
theorem dX6_worldWithout_1 : decode cX6_worldWithout 1 = .ok (.getfield 21, 3) := by decide +kernel
theorem dX6_worldWithout_4 : decode cX6_worldWithout 4 = .ok (.iload_n 1, 1) := by decide +kernel
theorem dX6_worldWithout_5 : decode cX6_worldWithout 5 = .ok (.aaload, 1) := by decide +kernel
theorem dX6_worldWithout_6 : decode cX6_worldWithout 6 = .ok (.astore_n 2, 1) := by decide +kernel
theorem dX6_worldWithout_7 : decode cX6_worldWithout 7 = .ok (.aload_n 2, 1) := by decide +kernel
theorem dX6_worldWithout_8 : decode cX6_worldWithout 8 = .ok (.ifnonnull 20, 3) := by decide +kernel
theorem dX6_worldWithout_11 : decode cX6_worldWithout 11 = .ok (.new 7, 3) := by decide +kernel
theorem dX6_worldWithout_14 : decode cX6_worldWithout 14 = .ok (.dup, 1) := by decide +kernel
theorem dX6_worldWithout_15 : decode cX6_worldWithout 15 = .ok (.iload_n 1, 1) := by decide +kernel
theorem dX6_worldWithout_16 : decode cX6_worldWithout 16 = .ok (.iconst 0, 1) := by decide +kernel
theorem dX6_worldWithout_17 : decode cX6_worldWithout 17 = .ok (.invokespecial 11, 3) := by decide +kernel
theorem dX6_worldWithout_20 : decode cX6_worldWithout 20 = .ok (.astore_n 2, 1) := by decide +kernel
theorem dX6_worldWithout_21 : decode cX6_worldWithout 21 = .ok (.aload_n 0, 1) := by decide +kernel
theorem dX6_worldWithout_22 : decode cX6_worldWithout 22 = .ok (.getfield 21, 3) := by decide +kernel
theorem dX6_worldWithout_25 : decode cX6_worldWithout 25 = .ok (.iload_n 1, 1) := by decide +kernel
theorem dX6_worldWithout_26 : decode cX6_worldWithout 26 = .ok (.aload_n 2, 1) := by decide +kernel
theorem dX6_worldWithout_27 : decode cX6_worldWithout 27 = .ok (.aastore, 1) := by decide +kernel
theorem dX6_worldWithout_28 : decode cX6_worldWithout 28 = .ok (.aload_n 2, 1) := by decide +kernel
theorem dX6_worldWithout_29 : decode cX6_worldWithout 29 = .ok (.areturn, 1) := by decide +kernel
end
section
/-! THE LAYER: one list of words for every contract; the bundle of facts of a point; contracts that tell how much was made -/
/-- two private methods of a class that is never made itself: they are called on a StringBuilder -/
def lw_xw : List Cond := [.selects RJ4 yJ5_ensureCapacityInternal_d00df yJ5_ensureCapacityInternal_d00df, .selects RJ4 yJ5_newCapacity_0f7a4 yJ5_newCapacity_0f7a4]
def lw_t2 : List Cond := lw_tbl ++ lw_xw
def lw_g : List Cond := lw_t2.filter goodWord
theorem lw_gx {w : Cond} (h : w ∈ lw_xw) (hg : goodWord w = true) : w ∈ lw_g := List.mem_filter.mpr ⟨List.mem_append_right _ h, hg⟩
theorem lw_gi {w : Cond} (i : Nat) (h : lw_tbl[i]? = some w) (hg : goodWord w = true) : w ∈ lw_g := List.mem_filter.mpr ⟨List.mem_append_left _ (List.mem_of_getElem? h), hg⟩
theorem lw_gg : ∀ w ∈ lw_g, goodWord w = true := fun _ h => (List.mem_filter.mp h).2
theorem lw_gt : ∀ w ∈ lw_g, w ∈ lw_t2 := fun _ h => (List.mem_filter.mp h).1
abbrev wsY (y : MethodName) (b : ByteArray) (n : Nat) (r : Option FieldType) : List Cond := Cond.code y b n r :: lw_g
theorem gi_Y {y : MethodName} {b : ByteArray} {n : Nat} {r : Option FieldType} (h : Cond.code y b n r ∈ lw_g) : GoodIn lw_g (wsY y b n r) := by
  intro w hw
  have hm : w ∈ lw_g := (List.mem_cons.mp hw).elim (fun e => e ▸ h) id
  exact ⟨hm, good_of_word (lw_gg w hm)⟩
theorem gi_wsV {own C : String} {idx : Nat} {y : MethodName} {b : ByteArray} {n : Nat} {r : Option FieldType} (h1 : Cond.methodLink own idx y ∈ lw_g) (h2 : Cond.instanceMethod y ∈ lw_g) (h3 : Cond.selects C y y ∈ lw_g) (h4 : Cond.initialized C ∈ lw_g) (h5 : Cond.code y b n r ∈ lw_g) : GoodIn lw_g (wsV own idx C y (wsY y b n r)) := by
  intro w hw
  have hm : w ∈ lw_g := by
    rcases List.mem_append.mp hw with h | h
    · simp only [List.mem_cons, List.not_mem_nil, or_false] at h
      rcases h with rfl | rfl | rfl | rfl <;> assumption
    · exact (gi_Y h5 w h).1
  exact ⟨hm, good_of_word (lw_gg w hm)⟩
theorem gi_wsS {own : String} {idx : Nat} {y : MethodName} {b : ByteArray} {n : Nat} {r : Option FieldType} (h1 : Cond.methodLink own idx y ∈ lw_g) (h2 : Cond.static y ∈ lw_g) (h4 : Cond.initialized own ∈ lw_g) (h5 : Cond.code y b n r ∈ lw_g) : GoodIn lw_g (wsS own idx y (wsY y b n r)) := by
  intro w hw
  have hm : w ∈ lw_g := by
    rcases List.mem_append.mp hw with h | h
    · simp only [List.mem_cons, List.not_mem_nil, or_false] at h
      rcases h with rfl | rfl | rfl <;> assumption
    · exact (gi_Y h5 w h).1
  exact ⟨hm, good_of_word (lw_gg w hm)⟩
abbrev vwC : List vw_C := [(RX0, TX0, 1), (RX1, TX1, 5), (RX2, TX2, 4), (RX3, TX3, 8), (RX4, TX4, 11), (RX5, TX5, 12), (RX6, TX6, 4), (RJ4, TJ4, 4), (RJx4a65c, TJx4a65c, 3)]
abbrev Gm : Type := va_G × (Nat → ClassId) × (Nat → Nat)
abbrev tysG (g : Gm) : List (ClassId × FieldType) := [(g.2.1 0, .int), (g.2.1 1, .long), (g.2.1 2, .boolean), (g.2.1 3, .byte), (g.2.1 4, .object "java/lang/Object"), (g.2.1 5, .object "Aquiferward$World")]
/-- all slots of a heap -/
def tot (H : Heap) : Nat := (H.toList.map (·.slots.size)).sum
theorem tot_split {H0 H : Heap} (h1 : H0.size ≤ H.size) (h2 : ∀ (a : Nat) (c : Cell), H0[a]? = some c → ∃ c' : Cell, H[a]? = some c' ∧ c'.slots.size = c.slots.size) : tot H = tot H0 + ((H.toList.drop H0.size).map (·.slots.size)).sum := by
  have e : (H.toList.take H0.size).map (·.slots.size) = H0.toList.map (·.slots.size) := by
    apply List.ext_getElem?
    intro i
    by_cases hi : i < H0.size
    · have hc : H0[i]? = some H0[i] := Array.getElem?_eq_getElem hi
      obtain ⟨c', h3, h4⟩ := h2 i _ hc
      rw [List.getElem?_map, List.getElem?_take, if_pos hi, Array.getElem?_toList, h3, List.getElem?_map, Array.getElem?_toList, hc]
      simp [h4]
    · rw [List.getElem?_map, List.getElem?_take, if_neg hi, List.getElem?_map, Array.getElem?_toList, Array.getElem?_eq_none (by omega)]
      try rfl
  unfold tot
  conv => lhs; rw [← List.take_append_drop H0.size H.toList]
  rw [List.map_append, List.sum_append, e]
section LAYER
variable {p : Program} {l : Launch} {e : Env} {R : Room} {s : State} {m : MethodId} {args : Array Value} {below : List Frame} {meth : Method} {c : Code} {H : Heap} {locs : List Loc} {cells slots : Nat} {Q : State → Prop}
theorem stand_tot {T : State} (X : Stand p l e R s m args below meth c T locs cells slots) : tot T.heap = tot s.heap + ((T.heap.toList.drop s.heap.size).map (·.slots.size)).sum := by
  obtain ⟨-, h1, -, -, -, h6⟩ := X.same
  refine tot_split h1 (fun a c h => ?_)
  obtain ⟨c', g1, -, g3, -⟩ := h6 a c h
  exact ⟨c', g1, g3⟩
/-- what a point's counters say of its heap -/
theorem W.know {g : JFrame} (k : H.size ≤ s.heap.size + cells → tot H ≤ tot s.heap + slots → s.heap.size ≤ H.size → W p l e R s m args below meth c H locs cells slots Q g) : W p l e R s m args below meth c H locs cells slots Q g := by
  intro T hT X
  have h := stand_tot X
  obtain ⟨-, h1, h2, -, h4, -⟩ := id X.same
  subst hT
  exact k h2 (by rw [h]; exact Nat.add_le_add_left h4 _) h1 T rfl X
/-- lower counters, where the heap is known -/
theorem W.tight {g : JFrame} {k n : Nat} (h1 : H.size ≤ s.heap.size + k) (h2 : tot H ≤ tot s.heap + n) (kk : W p l e R s m args below meth c H locs k n Q g) : W p l e R s m args below meth c H locs cells slots Q g := by
  intro T hT X
  have h := stand_tot X
  obtain ⟨g0, g1, -, g3, -, g5⟩ := id X.same
  have hT' : (T.setVm s.vm).heap = H := hT
  rw [hT'] at g1 g3 g5
  refine kk T hT { X with same := ⟨g0, by rw [hT']; exact g1, by rw [hT']; exact h1, by rw [hT']; exact g3, by rw [hT', ← hT]; rw [← hT, h] at h2; omega, by rw [hT']; exact g5⟩ }
end LAYER
def Ev (g : Gm) (A : Nat → Prop) (H0 H : Heap) (locs : List Loc) (ws : va_W) : Prop := va_P g.1 vwC ws H ∧ va_D A ws ∧ va_S A H0 H locs
/-- statics that nobody writes: String.COMPACT_STRINGS, ArrayList's empty array -/
def Zs (g : Gm) (A : Nat → Prop) (U : State) (H : Heap) : Prop := va_Z "java/lang/String" "COMPACT_STRINGS" "Z" (.int 1) A U H ∧ va_Z "java/util/ArrayList" "DEFAULTCAPACITY_EMPTY_ELEMENTDATA" "[Ljava/lang/Object;" (.ref (g.2.2 0)) A U H ∧ va_T (.object "java/lang/Object") (g.2.2 0) 0 (fun _ => .null) A U H ∧ va_AO "java/lang/Object" U ∧ va_AO "Aquiferward$World" U
theorem Zs.moved {g : Gm} {A : Nat → Prop} {u U : State} {H : Heap} (hvm : u.vm.Alike U.vm) (h : Zs g A u H) : Zs g A U H := ⟨va_Z.moved hvm h.1, va_Z.moved hvm h.2.1, va_T.moved hvm h.2.2.1, va_AO.moved hvm h.2.2.2.1, va_AO.moved hvm h.2.2.2.2⟩
theorem Zs.kept {g : Gm} {A : Nat → Prop} {U : State} {H H1 : Heap} (h : Zs g A U H) (hq : ∀ a : Nat, a < H.size → ¬ A a → H1[a]? = H[a]?) : Zs g A U H1 := ⟨va_Z.kept h.1 hq, va_Z.kept h.2.1 hq, va_T.kept h.2.2.1 hq, h.2.2.2⟩
theorem Zs.narrow {g : Gm} {A B : Nat → Prop} {U : State} {H : Heap} (h : Zs g A U H) (hAB : ∀ q, B q → A q) : Zs g B U H := ⟨va_Z.narrow h.1 hAB, va_Z.narrow h.2.1 hAB, va_T.narrow h.2.2.1 hAB, h.2.2.2⟩
theorem Zs.at {g : Gm} {A : Nat → Prop} {s : State} {H0 H : Heap} {locs : List Loc} {ws : va_W} (h : Zs g A s H0) (E : Ev g A H0 H locs ws) : Zs g A s H := h.kept (fun a h1 h2 => E.2.2.2.1 a h1 h2)
abbrev Sta (p : Program) (c : Code) (cc : ByteArray) (s : State) (args : Array Value) (own : String) (m : MethodId) : Prop := p.tables.exec = Jvm.exec ∧ c.code = cc ∧ (∀ w ∈ lw_g, w.before args s = true) ∧ s.vm.findClass own = some m.cls
/-- a method's start: its world, the size of the heap and of all its slots -/
def PreX (g : Gm) (ws : va_W) (sz tt : Nat) : State → Prop := fun U => U.heap.size = sz ∧ tot U.heap = tt ∧ va_P g.1 vwC ws U.heap ∧ va_K g.1 vwC (tysG g) U ∧ va_D (fun _ => True) ws ∧ Zs g (va_A ws sz) U U.heap
def AtX {S : Type} (g : Gm) (A : Nat → Prop) (wf : S → va_W) (kx : S → Nat × Nat) (sz tt : Nat) : S → State → Prop := fun u t => va_P g.1 vwC (wf u) t.heap ∧ va_K g.1 vwC (tysG g) t ∧ va_D A (wf u) ∧ t.heap.size ≤ sz + (kx u).1 ∧ tot t.heap ≤ tt + (kx u).2
def MXi {S : Type} (l : Launch) (g : Gm) (y : MethodName) (cc : ByteArray) (maxL : Nat) (rt : FieldType) (rm : Room) (As : List Value) (ws : va_W) (post : Int32 → S → Prop) (wf : S → va_W) (kx : S → Nat × Nat) : Prop := ∀ sz tt : Nat, Met l y (wsY y cc maxL (some rt)) rm (va_Pc As (PreX g ws sz tt)) (va_Qi post (AtX g (va_A ws sz) wf kx sz tt) (va_A ws sz)) rm.cells rm.slots (va_A ws sz)
def MXl {S : Type} (l : Launch) (g : Gm) (y : MethodName) (cc : ByteArray) (maxL : Nat) (rm : Room) (As : List Value) (ws : va_W) (post : Int64 → S → Prop) (wf : S → va_W) (kx : S → Nat × Nat) : Prop := ∀ sz tt : Nat, Met l y (wsY y cc maxL (some .long)) rm (va_Pc As (PreX g ws sz tt)) (va_Ql post (AtX g (va_A ws sz) wf kx sz tt) (va_A ws sz)) rm.cells rm.slots (va_A ws sz)
def MXv {S : Type} (l : Launch) (g : Gm) (y : MethodName) (cc : ByteArray) (maxL : Nat) (rm : Room) (As : List Value) (ws : va_W) (post : S → Prop) (wf : S → va_W) (kx : S → Nat × Nat) : Prop := ∀ sz tt : Nat, Met l y (wsY y cc maxL none) rm (va_Pc As (PreX g ws sz tt)) (va_Qv post (AtX g (va_A ws sz) wf kx sz tt) (va_A ws sz)) rm.cells rm.slots (va_A ws sz)
theorem PreX.blind {g : Gm} {ws : va_W} {sz tt : Nat} {As : List Value} : FrameBlind (va_Pc As (PreX g ws sz tt)) := fun a U gf mk q => by
  obtain ⟨q0, q1, q2, qP, qK, qD, qZ⟩ := q
  exact ⟨q0, q1, q2, qP, va_K.moved (u := U) (U := U.calling gf mk a) (Vm.Alike.refl U.vm) qK, qD, Zs.moved (u := U) (U := U.calling gf mk a) (Vm.Alike.refl U.vm) qZ⟩
theorem va_freeAll {A0 : Nat → Prop} {ws : va_W} {H0 H : Heap} {locs : List Loc} (hD : va_D A0 ws) (hS : va_S A0 H0 H locs) (hA : ∀ q, H0.size ≤ q → A0 q) : ∀ q, va_A ws H.size q → A0 q := by
  intro q h
  rcases h with ⟨k, e, h⟩ | h
  · exact hD.2 k (q, e) h
  · exact hA q (Nat.le_trans hS.1 h)
section ENTRY
variable {l : Launch} {g : Gm} {y : MethodName} {cc : ByteArray} {maxL : Nat} {rm : Room} {As : List Value} {ws : va_W}
/-- a method's body, from its start -/
theorem ofX {ret : Option FieldType} {Qc : Array Value → State → Outcome → State → Prop} {sz tt : Nat} {mc ms : Nat} (own : String) (hown : own = y.cls) (hy : plainName y.cls = true) (hn : (lg_sl As).length ≤ maxL)
    (body : ∀ (p : Program) (e : Env) (s : State) (m : MethodId) (args : Array Value) (below : List Frame) (meth : Method) (c : Code), args = As.toArray → Sta p c cc s args own m → c.maxLocals = maxL → meth.sig.returnType = ret → meth.locks = false → meth.name = y.name → s.heap.size = sz → tot s.heap = tt → va_K g.1 vwC (tysG g) s → (∀ q : Nat, s.heap.size ≤ q → va_A ws sz q) → Zs g (va_A ws sz) s s.heap → Ev g (va_A ws sz) s.heap s.heap [] ws → ∀ ls : Array Slot, lv_has ls maxL (lv_args 0 As) →
      W p l e rm s m args below meth c s.heap [] 0 0 (MQ below Qc args s mc ms (va_A ws sz)) (F0 m 0 ls [])) : Met l y (wsY y cc maxL ret) rm (va_Pc As (PreX g ws sz tt)) Qc mc ms (va_A ws sz) := by
  refine Met.ofW (cc := cc) (maxL := maxL) (ret := ret) hy rfl ?_
  intro p e s m args below meth c s₁ B hml hv
  obtain ⟨rfl, hsz, htt, hP, hK, hD0, hZ⟩ := hv
  have hts := atoms_spec (ws := wsY y cc maxL ret) B.pre
  have ho : s.vm.findClass own = some m.cls := by rw [hown]; exact findClass_of_methodNamed B.named
  rw [lg_entry_eq]
  exact body p e s m _ below meth c rfl ⟨B.exec, B.bytes, fun w h => hts w (List.mem_cons_of_mem _ h), ho⟩ hml B.returns B.notSynchronized (name_of_methodNamed B.named B.method).1 hsz htt hK (fun q h => Or.inr (by rw [← hsz]; exact h)) hZ ⟨hP, hD0.self, va_S.rf⟩ _ (lv_entry As hn)
end ENTRY
section ROWS
variable {p : Program} {l : Launch} {e : Env} {R : Room} {s : State} {m : MethodId} {args : Array Value} {below : List Frame} {meth : Method} {c : Code} {H : Heap} {locs : List Loc} {cells slots : Nat} {Q : State → Prop}
variable {cc : ByteArray} {pc : Nat} {ls : Array Slot} {rest : List Value} {g : Gm} {A : Nat → Prop} {H0 : Heap} {ws : va_W} {own : String}
theorem w_get {C ref : String} {T : u_T} {N ci idx a q0 k : Nat} {fs : List Value} {v : Value} (S : Sta p c cc s args own m) (hK : va_K g.1 vwC (tysG g) s) (E : Ev g A H0 H locs ws) (hin : ∀ w ∈ u_ws C T N, w ∈ lw_g) (he : ws[q0]? = some (a, .inr (ci, fs))) (hc : vwC[ci]? = some (C, T, N)) (hk : k < N) (hlink : Cond.fieldLink own idx ref (T k).2.1 (T k).2.2.1 ∈ lw_g) (href : ref = (T k).1) (hv : fs[k]? = some v) (hdg : decode cc pc = .ok (.getfield idx, 3))
    (kk : W p l e R s m args below meth c H locs cells slots Q (F0 m (pc + 3) ls (v :: rest))) : W p l e R s m args below meth c H locs cells slots Q (F0 m pc ls (.ref a :: rest)) := by
  subst href
  exact va_get S.1 S.2.1 S.2.2.1 hin S.2.2.2 hK E.1 q0 he hc k hk (S.2.2.1 _ hlink) (fun _ h => h) hv hdg kk
theorem w_put {C ref : String} {T : u_T} {N ci idx a q0 k : Nat} {fs : List Value} {v : Value} {ty : FieldType} (S : Sta p c cc s args own m) (hK : va_K g.1 vwC (tysG g) s) (E : Ev g A H0 H locs ws) (hin : ∀ w ∈ u_ws C T N, w ∈ lw_g) (ty0 : Nat → FieldType) (hty : ∀ k, k < N → parseFieldDescriptor (T k).2.2.1 = some (ty0 k)) (hnm : ∀ a, a < N → ∀ b, b < N → a ≠ b → (T a).2.1 ≠ (T b).2.1) (he : ws[q0]? = some (a, .inr (ci, fs))) (hc : vwC[ci]? = some (C, T, N)) (hk : k < N) (hlink : Cond.fieldLink own idx ref (T k).2.1 (T k).2.2.1 ∈ lw_g) (href : ref = (T k).1) (hfin : (T k).2.2.2 = false) (hd : ty0 k = ty) (hn : narrow ty v = v) (hfit : fits ty v = true) (hl : k < fs.length) {w' : va_W} (hw : ws.set q0 (a, .inr (ci, fs.set k v)) = w') (hdg : decode cc pc = .ok (.putfield idx, 3))
    (kk : ∀ (H1 : Heap) (locs1 : List Loc), Ev g A H0 H1 locs1 w' → W p l e R s m args below meth c H1 locs1 cells slots Q (F0 m (pc + 3) ls rest)) : W p l e R s m args below meth c H locs cells slots Q (F0 m pc ls (v :: .ref a :: rest)) := by
  subst href
  subst hw
  exact va_put S.1 S.2.1 S.2.2.1 hin ty0 hty hnm S.2.2.2 hK E.1 E.2.1 E.2.2 q0 he hc k hk (S.2.2.1 _ hlink) (fun _ h => h) hfin (by rw [hty k hk, hd]) hn hfit hl hdg (fun H1 l1 hP hD hS => kk H1 l1 ⟨hP, hD, hS⟩)
end ROWS
end
section
/-! CALLS: a callee's world is cut out of the caller's, and what comes back is put beside the rest -/
/-- wc is a part of ws, wr the rest -/
def Cut (g : Gm) (A : Nat → Prop) (H : Heap) (wc wr : va_W) : Prop := va_P g.1 vwC wc H ∧ va_D (fun _ => True) wc ∧ (∀ q, va_A wc H.size q → A q) ∧ ∀ (w1 : va_W) (H1 : Heap), (∀ q : Nat, q < H.size → ¬ va_A wc H.size q → H1[q]? = H[q]?) → va_P g.1 vwC w1 H1 → va_D (va_A wc H.size) w1 → va_P g.1 vwC (wr ++ w1) H1 ∧ va_D A (wr ++ w1)
theorem Cut.full {g : Gm} {A : Nat → Prop} {H0 H : Heap} {locs : List Loc} {ws : va_W} (E : Ev g A H0 H locs ws) (hA : ∀ q, H0.size ≤ q → A q) : Cut g A H ws [] :=
  ⟨E.1, E.2.1.weaken (fun _ _ _ _ => trivial), va_freeAll E.2.1 E.2.2 hA, fun w1 H1 _ hP hD => ⟨hP, hD.weaken (fun _ q _ h => va_freeAll E.2.1 E.2.2 hA q.1 h)⟩⟩
theorem Cut.of {g : Gm} {A : Nat → Prop} {H0 H : Heap} {locs : List Loc} {ws wc wr : va_W} (E : Ev g A H0 H locs ws) (hA : ∀ q, H0.size ≤ q → A q) (isC isR : List Nat) (hC : isC.map (fun i => ws[i]?) = wc.map some) (hR : isR.map (fun i => ws[i]?) = wr.map some) (hnC : va_nd isC = true) (hn : va_nd isR = true) (hdis : ∀ i ∈ isR, i ∉ isC) : Cut g A H wc wr := by
  have hF := va_free (wc := wc) E.2.1 E.2.2 hA isC hC
  have hPc : va_P g.1 vwC wc H := by
    intro k q hk
    have h1 : (isC.map (fun i => ws[i]?))[k]? = some (some q) := by rw [hC, List.getElem?_map, hk]; rfl
    rw [List.getElem?_map] at h1
    cases hi : isC[k]? with
    | none => rw [hi] at h1; cases h1
    | some i => rw [hi] at h1; exact E.1 i q (Option.some.inj h1)
  exact ⟨hPc, (E.2.1.sub isC hnC hC).weaken (fun _ _ _ _ => trivial), hF, fun w1 H1 hk hP hD => va_join E.1 E.2.1 isC isR hC hR hn hdis hk hF hP hD⟩
section CALLS
variable {p : Program} {l : Launch} {e : Env} {R : Room} {s : State} {m : MethodId} {args : Array Value} {below : List Frame} {meth : Method} {c : Code} {H : Heap} {locs : List Loc} {cells slots : Nat} {Q : State → Prop}
variable {cc : ByteArray} {pc : Nat} {ls : Array Slot} {rest st0 : List Value} {g : Gm} {A : Nat → Prop} {H0 : Heap} {ws wc wr : va_W} {own C : String} {nL : Nat}
theorem runV_X {y : MethodName} {cb : ByteArray} {mL n idx b : Nat} {ret : Option FieldType} {rm : Room} {Qc : Array Value → State → Outcome → State → Prop} {As : List Value} {ci q0 : Nat} {fs : List Value} {T : u_T} {N : Nat}
    (S : Sta p c cc s args own m) (hml : c.maxLocals = nL) (hK : va_K g.1 vwC (tysG g) s) (hZ : Zs g A s H) (hc : Cut g A H wc wr)
    (hM : Met l y (wsY y cb mL ret) rm (va_Pc (.ref b :: As) (PreX g wc H.size (tot H))) Qc rm.cells rm.slots (va_A wc H.size))
    (hg : GoodIn lw_g (wsV own idx C y (wsY y cb mL ret))) (hd : y.cls = C ∧ y.cls ≠ "java/lang/invoke/MethodHandle" ∧ y.cls ≠ "java/lang/invoke/VarHandle" ∧ (parseMethodDescriptor y.desc).map (fun d => d.parameters.length) = some n)
    (hR : rm.frames + 1 ≤ R.frames ∧ 8 + (mL + 11) + rm.locals ≤ R.locals) (hr : wc[q0]? = some (b, .inr (ci, fs))) (hci : vwC[ci]? = some (C, T, N)) (hn : As.length = n) (hls : ls.size = nL) (hst : st0 = As.reverse ++ .ref b :: rest) (hw : (rest.map fun v => v.category).sum ≤ 8) (hdg : decode cc pc = .ok (.invokevirtual idx, 3)) (hf : cells + rm.cells ≤ R.cells ∧ slots + rm.slots ≤ R.slots) :
    va_Run p l e R s m args below meth c H locs cells slots rm.cells rm.slots (F0 m pc ls st0) rest (Qc (Value.ref b :: As).toArray) (va_A wc H.size) := by
  subst hst
  exact va_runV (As := As) (rest := rest) ⟨S.1, S.2.1, hml, S.2.2.2, S.2.2.1⟩ hM (cwV n S.2.2.1 hg rfl rfl rfl hd hR) ⟨PreX.blind, va_recv hK hc.1 hci hr, fun U hU hW => ⟨rfl, by rw [hU], by rw [hU], by rw [hU]; exact hc.1, va_K.moved hW.alike hK, hc.2.1, by rw [hU]; exact (hZ.narrow hc.2.2.1).moved hW.alike⟩⟩ rfl hn hls rfl (lv_room hw) hdg hf
theorem runS_X {y : MethodName} {cb : ByteArray} {mL n idx : Nat} {ret : Option FieldType} {rm : Room} {Qc : Array Value → State → Outcome → State → Prop} {As : List Value}
    (S : Sta p c cc s args own m) (hml : c.maxLocals = nL) (hK : va_K g.1 vwC (tysG g) s) (hZ : Zs g A s H) (hc : Cut g A H wc wr)
    (hM : Met l y (wsY y cb mL ret) rm (va_Pc As (PreX g wc H.size (tot H))) Qc rm.cells rm.slots (va_A wc H.size))
    (h1 : Cond.methodLink own idx y ∈ lw_g) (h2 : Cond.static y ∈ lw_g) (h4 : Cond.initialized y.cls ∈ lw_g) (h5 : Cond.code y cb mL ret ∈ lw_g) (hd : y.cls ≠ "java/lang/invoke/MethodHandle" ∧ y.cls ≠ "java/lang/invoke/VarHandle" ∧ (parseMethodDescriptor y.desc).map (fun d => d.parameters.length) = some n)
    (hR : rm.frames + 1 ≤ R.frames ∧ 8 + (mL + 11) + rm.locals ≤ R.locals) (hn : As.length = n) (hls : ls.size = nL) (hst : st0 = As.reverse ++ rest) (hw : (rest.map fun v => v.category).sum ≤ 8) (hdg : decode cc pc = .ok (.invokestatic idx, 3)) (hf : cells + rm.cells ≤ R.cells ∧ slots + rm.slots ≤ R.slots) :
    va_Run p l e R s m args below meth c H locs cells slots rm.cells rm.slots (F0 m pc ls st0) rest (Qc As.toArray) (va_A wc H.size) := by
  subst hst
  exact va_runS (As := As) (rest := rest) ⟨S.1, S.2.1, hml, S.2.2.2, S.2.2.1⟩ hM ⟨callB_of n S.2.2.1 (gi_Y h5) rfl rfl rfl (S.2.2.1 _ h4) (S.2.2.1 _ h1) hd hR, S.2.2.1 _ h2⟩ ⟨PreX.blind, fun U hU hW => ⟨rfl, by rw [hU], by rw [hU], by rw [hU]; exact hc.1, va_K.moved hW.alike hK, hc.2.1, by rw [hU]; exact (hZ.narrow hc.2.2.1).moved hW.alike⟩⟩ rfl hn hls rfl (lv_room hw) hdg hf
theorem runI_X {y : MethodName} {cb : ByteArray} {mL n idx b : Nat} {rm : Room} {Qc : Array Value → State → Outcome → State → Prop} {As : List Value}
    (S : Sta p c cc s args own m) (hml : c.maxLocals = nL) (hK : va_K g.1 vwC (tysG g) s) (hZ : Zs g A s H) (hc : Cut g A H wc wr)
    (hM : Met l y (wsY y cb mL none) rm (va_Pc (.ref b :: As) (PreX g wc H.size (tot H))) Qc rm.cells rm.slots (va_A wc H.size))
    (h1 : Cond.methodLink own idx y ∈ lw_g) (h2 : Cond.instanceMethod y ∈ lw_g) (h4 : Cond.initialized y.cls ∈ lw_g) (h5 : Cond.code y cb mL none ∈ lw_g) (hy : y.name = "<init>") (hd : y.cls ≠ "java/lang/invoke/MethodHandle" ∧ y.cls ≠ "java/lang/invoke/VarHandle" ∧ (parseMethodDescriptor y.desc).map (fun d => d.parameters.length) = some n)
    (hR : rm.frames + 1 ≤ R.frames ∧ 8 + (mL + 11) + rm.locals ≤ R.locals) (hn : As.length = n) (hls : ls.size = nL) (hst : st0 = As.reverse ++ .ref b :: rest) (hw : (rest.map fun v => v.category).sum ≤ 8) (hdg : decode cc pc = .ok (.invokespecial idx, 3)) (hf : cells + rm.cells ≤ R.cells ∧ slots + rm.slots ≤ R.slots) :
    va_Run p l e R s m args below meth c H locs cells slots rm.cells rm.slots (F0 m pc ls st0) rest (Qc (Value.ref b :: As).toArray) (va_A wc H.size) := by
  subst hst
  exact va_runI (As := As) (rest := rest) ⟨S.1, S.2.1, hml, S.2.2.2, S.2.2.1⟩ hM ⟨callB_of n S.2.2.1 (gi_Y h5) rfl rfl rfl (S.2.2.1 _ h4) (S.2.2.1 _ h1) hd hR, hy, S.2.2.1 _ h2⟩ ⟨PreX.blind, fun U hU hW => ⟨rfl, by rw [hU], by rw [hU], by rw [hU]; exact hc.1, va_K.moved hW.alike hK, hc.2.1, by rw [hU]; exact (hZ.narrow hc.2.2.1).moved hW.alike⟩⟩ rfl hn hls rfl (lv_room hw) hdg hf
theorem w_reti {S : Type} {post : Int32 → S → Prop} {wf : S → va_W} {kx : S → Nat × Nat} {a : Array Value} {mc ms : Nat}
    (hr : va_Run p l e R s m args below meth c H locs cells slots mc ms (F0 m pc ls st0) rest (va_Qi post (AtX g (va_A wc H.size) wf kx H.size (tot H)) (va_A wc H.size) a) (va_A wc H.size)) (hc : Cut g A H wc wr) (E : Ev g A H0 H locs ws)
    (kk : ∀ (r : Int32) (u : S) (H1 : Heap) (locs1 : List Loc), post r u → Ev g A H0 H1 locs1 (wr ++ wf u) → W p l e R s m args below meth c H1 locs1 (cells + (kx u).1) (slots + (kx u).2) Q (F0 m (pc + 3) ls (.int r :: rest))) : W p l e R s m args below meth c H locs cells slots Q (F0 m pc ls st0) := by
  refine W.know (fun g1 g2 _ => ?_)
  refine va_calli hr E.2.2 (fun q _ h => hc.2.2.1 q h) hc.2.2.1 (fun r u t H1 locs1 ht hvm hw hB hz1 hk1 hS => ?_)
  obtain ⟨hP1, -, hD1, n1, n2⟩ := hB
  rw [ht] at hP1 n1 n2
  obtain ⟨hP, hD⟩ := hc.2.2.2 _ H1 hk1 hP1 hD1
  exact W.tight (by omega) (by omega) (kk r u H1 locs1 hw ⟨hP, hD, hS⟩)
theorem w_retl {S : Type} {post : Int64 → S → Prop} {wf : S → va_W} {kx : S → Nat × Nat} {a : Array Value} {mc ms : Nat}
    (hr : va_Run p l e R s m args below meth c H locs cells slots mc ms (F0 m pc ls st0) rest (va_Ql post (AtX g (va_A wc H.size) wf kx H.size (tot H)) (va_A wc H.size) a) (va_A wc H.size)) (hc : Cut g A H wc wr) (E : Ev g A H0 H locs ws)
    (kk : ∀ (r : Int64) (u : S) (H1 : Heap) (locs1 : List Loc), post r u → Ev g A H0 H1 locs1 (wr ++ wf u) → W p l e R s m args below meth c H1 locs1 (cells + (kx u).1) (slots + (kx u).2) Q (F0 m (pc + 3) ls (.long r :: rest))) : W p l e R s m args below meth c H locs cells slots Q (F0 m pc ls st0) := by
  refine W.know (fun g1 g2 _ => ?_)
  refine va_calll hr E.2.2 (fun q _ h => hc.2.2.1 q h) hc.2.2.1 (fun r u t H1 locs1 ht hvm hw hB hz1 hk1 hS => ?_)
  obtain ⟨hP1, -, hD1, n1, n2⟩ := hB
  rw [ht] at hP1 n1 n2
  obtain ⟨hP, hD⟩ := hc.2.2.2 _ H1 hk1 hP1 hD1
  exact W.tight (by omega) (by omega) (kk r u H1 locs1 hw ⟨hP, hD, hS⟩)
theorem w_retv {S : Type} {post : S → Prop} {wf : S → va_W} {kx : S → Nat × Nat} {a : Array Value} {mc ms : Nat}
    (hr : va_Run p l e R s m args below meth c H locs cells slots mc ms (F0 m pc ls st0) rest (va_Qv post (AtX g (va_A wc H.size) wf kx H.size (tot H)) (va_A wc H.size) a) (va_A wc H.size)) (hc : Cut g A H wc wr) (E : Ev g A H0 H locs ws)
    (kk : ∀ (u : S) (H1 : Heap) (locs1 : List Loc), post u → Ev g A H0 H1 locs1 (wr ++ wf u) → W p l e R s m args below meth c H1 locs1 (cells + (kx u).1) (slots + (kx u).2) Q (F0 m (pc + 3) ls rest)) : W p l e R s m args below meth c H locs cells slots Q (F0 m pc ls st0) := by
  refine W.know (fun g1 g2 _ => ?_)
  refine va_callv hr E.2.2 (fun q _ h => hc.2.2.1 q h) hc.2.2.1 (fun u t H1 locs1 ht hvm hw hB hz1 hk1 hS => ?_)
  obtain ⟨hP1, -, hD1, n1, n2⟩ := hB
  rw [ht] at hP1 n1 n2
  obtain ⟨hP, hD⟩ := hc.2.2.2 _ H1 hk1 hP1 hD1
  exact W.tight (by omega) (by omega) (kk u H1 locs1 hw ⟨hP, hD, hS⟩)
/-- a method's ends -/
theorem x_iret {S : Type} {post : Int32 → S → Prop} {wf : S → va_W} {kx : S → Nat × Nat} {sz tt mc ms : Nat} {v : Int32} {w0 : va_W} (u : S) (S0 : Sta p c cc s args own m) (hr : meth.sig.returnType = some .int) (hlocks : meth.locks = false) (hsz : s.heap.size = sz) (htt : tot s.heap = tt) (hK : va_K g.1 vwC (tysG g) s) (E : Ev g (va_A w0 sz) s.heap H locs ws) (hdg : decode cc pc = .ok (.ireturn, 1)) (hp : post v u) (hw : ws = wf u) (hk : cells ≤ (kx u).1 ∧ slots ≤ (kx u).2) (hm : cells ≤ mc ∧ slots ≤ ms) :
    W p l e R s m args below meth c H locs cells slots (MQ below (va_Qi post (AtX g (va_A w0 sz) wf kx sz tt) (va_A w0 sz)) args s mc ms (va_A w0 sz)) (F0 m pc ls [.int v]) := by
  subst hw
  refine W.know (fun g1 g2 _ => ?_)
  refine W.widen hm.1 hm.2 ?_
  exact W.iret S0.1 S0.2.1 hr (fun t ht hW => ⟨⟨v, u, rfl, hp, by rw [ht]; exact E.1, va_K.moved hW.alike hK, E.2.1, by rw [ht]; omega, by rw [ht]; omega⟩, E.2.2.F ht⟩) E.2.2.2.2 hdg hlocks
theorem x_zret {S : Type} {post : Int32 → S → Prop} {wf : S → va_W} {kx : S → Nat × Nat} {sz tt mc ms : Nat} {v : Int32} {w0 : va_W} (u : S) (S0 : Sta p c cc s args own m) (hr : meth.sig.returnType = some .boolean) (hlocks : meth.locks = false) (hsz : s.heap.size = sz) (htt : tot s.heap = tt) (hK : va_K g.1 vwC (tysG g) s) (E : Ev g (va_A w0 sz) s.heap H locs ws) (hdg : decode cc pc = .ok (.ireturn, 1)) (hn : narrow .boolean (.int v) = .int v) (hp : post v u) (hw : ws = wf u) (hk : cells ≤ (kx u).1 ∧ slots ≤ (kx u).2) (hm : cells ≤ mc ∧ slots ≤ ms) :
    W p l e R s m args below meth c H locs cells slots (MQ below (va_Qi post (AtX g (va_A w0 sz) wf kx sz tt) (va_A w0 sz)) args s mc ms (va_A w0 sz)) (F0 m pc ls [.int v]) := by
  subst hw
  refine W.know (fun g1 g2 _ => ?_)
  refine W.widen hm.1 hm.2 ?_
  exact W.zret S0.1 S0.2.1 hr hn (fun t ht hW => ⟨⟨v, u, rfl, hp, by rw [ht]; exact E.1, va_K.moved hW.alike hK, E.2.1, by rw [ht]; omega, by rw [ht]; omega⟩, E.2.2.F ht⟩) E.2.2.2.2 hdg hlocks
theorem x_lret {S : Type} {post : Int64 → S → Prop} {wf : S → va_W} {kx : S → Nat × Nat} {sz tt mc ms : Nat} {v : Int64} {w0 : va_W} (u : S) (S0 : Sta p c cc s args own m) (hr : meth.sig.returnType = some .long) (hlocks : meth.locks = false) (hsz : s.heap.size = sz) (htt : tot s.heap = tt) (hK : va_K g.1 vwC (tysG g) s) (E : Ev g (va_A w0 sz) s.heap H locs ws) (hdg : decode cc pc = .ok (.lreturn, 1)) (hp : post v u) (hw : ws = wf u) (hk : cells ≤ (kx u).1 ∧ slots ≤ (kx u).2) (hm : cells ≤ mc ∧ slots ≤ ms) :
    W p l e R s m args below meth c H locs cells slots (MQ below (va_Ql post (AtX g (va_A w0 sz) wf kx sz tt) (va_A w0 sz)) args s mc ms (va_A w0 sz)) (F0 m pc ls [.long v]) := by
  subst hw
  refine W.know (fun g1 g2 _ => ?_)
  refine W.widen hm.1 hm.2 ?_
  exact W.lret S0.1 S0.2.1 hr (fun t ht hW => ⟨⟨v, u, rfl, hp, by rw [ht]; exact E.1, va_K.moved hW.alike hK, E.2.1, by rw [ht]; omega, by rw [ht]; omega⟩, E.2.2.F ht⟩) E.2.2.2.2 hdg hlocks
theorem x_vret {S : Type} {post : S → Prop} {wf : S → va_W} {kx : S → Nat × Nat} {sz tt mc ms : Nat} {w0 : va_W} (u : S) (S0 : Sta p c cc s args own m) (hr : meth.sig.returnType = none) (hlocks : meth.locks = false) (hsz : s.heap.size = sz) (htt : tot s.heap = tt) (hK : va_K g.1 vwC (tysG g) s) (E : Ev g (va_A w0 sz) s.heap H locs ws) (hdg : decode cc pc = .ok (.return_, 1)) (hp : post u) (hw : ws = wf u) (hk : cells ≤ (kx u).1 ∧ slots ≤ (kx u).2) (hm : cells ≤ mc ∧ slots ≤ ms) :
    W p l e R s m args below meth c H locs cells slots (MQ below (va_Qv post (AtX g (va_A w0 sz) wf kx sz tt) (va_A w0 sz)) args s mc ms (va_A w0 sz)) (F0 m pc ls []) := by
  subst hw
  refine W.know (fun g1 g2 _ => ?_)
  refine W.widen hm.1 hm.2 ?_
  exact W.vret S0.1 S0.2.1 hr (fun t ht hW => ⟨⟨u, rfl, hp, by rw [ht]; exact E.1, va_K.moved hW.alike hK, E.2.1, by rw [ht]; omega, by rw [ht]; omega⟩, E.2.2.F ht⟩) E.2.2.2.2 hdg hlocks
end CALLS
end
section
/-! THE WORLD: what its cells are, by one number-valued state. Row k of the state is the array at place k; row 0 holds the single numbers (0 month, 2 river, 3 sea, 4 count of wells, 5 events, 6 room of the text, 7 how often it grew), row 30 the text. -/
abbrev Sg : Type := (Nat → Nat → Int32) × (Nat → Nat → Int64)
def gi (σ : Sg) (k : Nat) (x : Int32) : Int32 := σ.1 k x.toNatClampNeg
def gl (σ : Sg) (k : Nat) (x : Int32) : Int64 := σ.2 k x.toNatClampNeg
def gs (σ : Sg) (j : Nat) : Int32 := σ.1 0 j
def si (σ : Sg) (k : Nat) (x v : Int32) : Sg := (fun a => if a = k then upd (σ.1 a) x.toNatClampNeg v else σ.1 a, σ.2)
def sl (σ : Sg) (k : Nat) (x : Int32) (v : Int64) : Sg := (σ.1, fun a => if a = k then vp_updL (σ.2 a) x.toNatClampNeg v else σ.2 a)
def ss (σ : Sg) (j : Nat) (v : Int32) : Sg := (fun a => if a = 0 then upd (σ.1 a) j v else σ.1 a, σ.2)
def mn (x y : Int32) : Int32 := if y < x then y else x
def mx (x y : Int32) : Int32 := if x < y then y else x
def ab (x : Int32) : Int32 := if 0 ≤ x then x else 0 - x
def it {α : Type} (f : Nat → α → α) : Nat → α → α
  | 0, a => a
  | n + 1, a => f n (it f n a)
def evn (ke : Int32) (σ : Sg) : Int32 := if ke = 1 then gs σ 5 else 0
def evc (ke : Int32) (σ : Sg) : Nat := if ke = 1 then (gs σ 6).toNatClampNeg else 16
def evt (ke : Int32) (σ : Sg) : Nat → Int32 := if ke = 1 then σ.1 30 else fun _ => 0
def wsW (g : Gm) (ad : Nat → Nat) (lo ke fo : Int32) (ea : Nat) (σ : Sg) : va_W := [(ad 0, .inr (5, [.ref (ad 1), .ref (ad 2), .ref (ad 3), .ref (ad 4), .ref (ad 29), .ref (ad 5), .ref (ad 6), .ref (ad 7), .int lo, .int ke, .int (σ.1 0 0), .int fo])),
  (ad 1, .inr (2, [.ref (ad 8), .ref (ad 9), .ref (ad 10), .ref (ad 11)])),
  (ad 2, .inr (3, [.ref (ad 12), .ref (ad 13), .ref (ad 14), .ref (ad 15), .ref (ad 16), .ref (ad 17), .int (σ.1 0 2), .int (σ.1 0 3)])),
  (ad 3, .inr (4, [.ref (ad 18), .ref (ad 19), .ref (ad 20), .ref (ad 21), .ref (ad 22), .ref (ad 23), .ref (ad 24), .ref (ad 25), .ref (ad 26), .ref (ad 27), .int (σ.1 0 4)])),
  (ad 4, .inr (0, [.ref (ad 28)])),
  (ad 5, .inl (g.2.1 0, 16, .inl (σ.1 5))),
  (ad 6, .inl (g.2.1 0, 16, .inl (σ.1 6))),
  (ad 7, .inl (g.2.1 0, 16, .inl (σ.1 7))),
  (ad 8, .inl (g.2.1 0, 16, .inl (σ.1 8))),
  (ad 9, .inl (g.2.1 0, 16, .inl (σ.1 9))),
  (ad 10, .inl (g.2.1 0, 16, .inl (σ.1 10))),
  (ad 11, .inl (g.2.1 0, 16, .inl (σ.1 11))),
  (ad 12, .inl (g.2.1 0, 8, .inl (σ.1 12))),
  (ad 13, .inl (g.2.1 0, 2, .inl (σ.1 13))),
  (ad 14, .inl (g.2.1 0, 8, .inl (σ.1 14))),
  (ad 15, .inl (g.2.1 0, 8, .inl (σ.1 15))),
  (ad 16, .inl (g.2.1 0, 8, .inl (σ.1 16))),
  (ad 17, .inl (g.2.1 0, 8, .inl (σ.1 17))),
  (ad 18, .inl (g.2.1 0, 6, .inl (σ.1 18))),
  (ad 19, .inl (g.2.1 0, 6, .inl (σ.1 19))),
  (ad 20, .inl (g.2.1 0, 6, .inl (σ.1 20))),
  (ad 21, .inl (g.2.1 0, 6, .inl (σ.1 21))),
  (ad 22, .inl (g.2.1 0, 6, .inl (σ.1 22))),
  (ad 23, .inl (g.2.1 1, 6, .inr (.inl (σ.2 23)))),
  (ad 24, .inl (g.2.1 2, 6, .inl (σ.1 24))),
  (ad 25, .inl (g.2.1 0, 6, .inl (σ.1 25))),
  (ad 26, .inl (g.2.1 0, 6, .inl (σ.1 26))),
  (ad 27, .inl (g.2.1 0, 6, .inl (σ.1 27))),
  (ad 28, .inl (g.2.1 1, 9, .inr (.inl (σ.2 28)))),
  (ad 29, .inr (7, [.ref ea, .int 0, .int 0, .int (evn ke σ)])),
  (ea, .inl (g.2.1 3, evc ke σ, .inl (evt ke σ)))]
theorem wset_5 {g : Gm} {ad : Nat → Nat} {lo ke fo : Int32} {ea : Nat} {σ : Sg} {i x : Int32} : (wsW g ad lo ke fo ea σ).set 5 (ad 5, .inl (g.2.1 0, 16, .inl (upd (σ.1 5) i.toNatClampNeg x))) = wsW g ad lo ke fo ea (si σ 5 i x) := rfl
theorem wset_6 {g : Gm} {ad : Nat → Nat} {lo ke fo : Int32} {ea : Nat} {σ : Sg} {i x : Int32} : (wsW g ad lo ke fo ea σ).set 6 (ad 6, .inl (g.2.1 0, 16, .inl (upd (σ.1 6) i.toNatClampNeg x))) = wsW g ad lo ke fo ea (si σ 6 i x) := rfl
theorem wset_7 {g : Gm} {ad : Nat → Nat} {lo ke fo : Int32} {ea : Nat} {σ : Sg} {i x : Int32} : (wsW g ad lo ke fo ea σ).set 7 (ad 7, .inl (g.2.1 0, 16, .inl (upd (σ.1 7) i.toNatClampNeg x))) = wsW g ad lo ke fo ea (si σ 7 i x) := rfl
theorem wset_8 {g : Gm} {ad : Nat → Nat} {lo ke fo : Int32} {ea : Nat} {σ : Sg} {i x : Int32} : (wsW g ad lo ke fo ea σ).set 8 (ad 8, .inl (g.2.1 0, 16, .inl (upd (σ.1 8) i.toNatClampNeg x))) = wsW g ad lo ke fo ea (si σ 8 i x) := rfl
theorem wset_9 {g : Gm} {ad : Nat → Nat} {lo ke fo : Int32} {ea : Nat} {σ : Sg} {i x : Int32} : (wsW g ad lo ke fo ea σ).set 9 (ad 9, .inl (g.2.1 0, 16, .inl (upd (σ.1 9) i.toNatClampNeg x))) = wsW g ad lo ke fo ea (si σ 9 i x) := rfl
theorem wset_10 {g : Gm} {ad : Nat → Nat} {lo ke fo : Int32} {ea : Nat} {σ : Sg} {i x : Int32} : (wsW g ad lo ke fo ea σ).set 10 (ad 10, .inl (g.2.1 0, 16, .inl (upd (σ.1 10) i.toNatClampNeg x))) = wsW g ad lo ke fo ea (si σ 10 i x) := rfl
theorem wset_11 {g : Gm} {ad : Nat → Nat} {lo ke fo : Int32} {ea : Nat} {σ : Sg} {i x : Int32} : (wsW g ad lo ke fo ea σ).set 11 (ad 11, .inl (g.2.1 0, 16, .inl (upd (σ.1 11) i.toNatClampNeg x))) = wsW g ad lo ke fo ea (si σ 11 i x) := rfl
theorem wset_12 {g : Gm} {ad : Nat → Nat} {lo ke fo : Int32} {ea : Nat} {σ : Sg} {i x : Int32} : (wsW g ad lo ke fo ea σ).set 12 (ad 12, .inl (g.2.1 0, 8, .inl (upd (σ.1 12) i.toNatClampNeg x))) = wsW g ad lo ke fo ea (si σ 12 i x) := rfl
theorem wset_13 {g : Gm} {ad : Nat → Nat} {lo ke fo : Int32} {ea : Nat} {σ : Sg} {i x : Int32} : (wsW g ad lo ke fo ea σ).set 13 (ad 13, .inl (g.2.1 0, 2, .inl (upd (σ.1 13) i.toNatClampNeg x))) = wsW g ad lo ke fo ea (si σ 13 i x) := rfl
theorem wset_14 {g : Gm} {ad : Nat → Nat} {lo ke fo : Int32} {ea : Nat} {σ : Sg} {i x : Int32} : (wsW g ad lo ke fo ea σ).set 14 (ad 14, .inl (g.2.1 0, 8, .inl (upd (σ.1 14) i.toNatClampNeg x))) = wsW g ad lo ke fo ea (si σ 14 i x) := rfl
theorem wset_15 {g : Gm} {ad : Nat → Nat} {lo ke fo : Int32} {ea : Nat} {σ : Sg} {i x : Int32} : (wsW g ad lo ke fo ea σ).set 15 (ad 15, .inl (g.2.1 0, 8, .inl (upd (σ.1 15) i.toNatClampNeg x))) = wsW g ad lo ke fo ea (si σ 15 i x) := rfl
theorem wset_16 {g : Gm} {ad : Nat → Nat} {lo ke fo : Int32} {ea : Nat} {σ : Sg} {i x : Int32} : (wsW g ad lo ke fo ea σ).set 16 (ad 16, .inl (g.2.1 0, 8, .inl (upd (σ.1 16) i.toNatClampNeg x))) = wsW g ad lo ke fo ea (si σ 16 i x) := rfl
theorem wset_17 {g : Gm} {ad : Nat → Nat} {lo ke fo : Int32} {ea : Nat} {σ : Sg} {i x : Int32} : (wsW g ad lo ke fo ea σ).set 17 (ad 17, .inl (g.2.1 0, 8, .inl (upd (σ.1 17) i.toNatClampNeg x))) = wsW g ad lo ke fo ea (si σ 17 i x) := rfl
theorem wset_18 {g : Gm} {ad : Nat → Nat} {lo ke fo : Int32} {ea : Nat} {σ : Sg} {i x : Int32} : (wsW g ad lo ke fo ea σ).set 18 (ad 18, .inl (g.2.1 0, 6, .inl (upd (σ.1 18) i.toNatClampNeg x))) = wsW g ad lo ke fo ea (si σ 18 i x) := rfl
theorem wset_19 {g : Gm} {ad : Nat → Nat} {lo ke fo : Int32} {ea : Nat} {σ : Sg} {i x : Int32} : (wsW g ad lo ke fo ea σ).set 19 (ad 19, .inl (g.2.1 0, 6, .inl (upd (σ.1 19) i.toNatClampNeg x))) = wsW g ad lo ke fo ea (si σ 19 i x) := rfl
theorem wset_20 {g : Gm} {ad : Nat → Nat} {lo ke fo : Int32} {ea : Nat} {σ : Sg} {i x : Int32} : (wsW g ad lo ke fo ea σ).set 20 (ad 20, .inl (g.2.1 0, 6, .inl (upd (σ.1 20) i.toNatClampNeg x))) = wsW g ad lo ke fo ea (si σ 20 i x) := rfl
theorem wset_21 {g : Gm} {ad : Nat → Nat} {lo ke fo : Int32} {ea : Nat} {σ : Sg} {i x : Int32} : (wsW g ad lo ke fo ea σ).set 21 (ad 21, .inl (g.2.1 0, 6, .inl (upd (σ.1 21) i.toNatClampNeg x))) = wsW g ad lo ke fo ea (si σ 21 i x) := rfl
theorem wset_22 {g : Gm} {ad : Nat → Nat} {lo ke fo : Int32} {ea : Nat} {σ : Sg} {i x : Int32} : (wsW g ad lo ke fo ea σ).set 22 (ad 22, .inl (g.2.1 0, 6, .inl (upd (σ.1 22) i.toNatClampNeg x))) = wsW g ad lo ke fo ea (si σ 22 i x) := rfl
theorem wset_23 {g : Gm} {ad : Nat → Nat} {lo ke fo : Int32} {ea : Nat} {σ : Sg} {i : Int32} {x : Int64} : (wsW g ad lo ke fo ea σ).set 23 (ad 23, .inl (g.2.1 1, 6, .inr (.inl (vp_updL (σ.2 23) i.toNatClampNeg x)))) = wsW g ad lo ke fo ea (sl σ 23 i x) := rfl
theorem wset_24 {g : Gm} {ad : Nat → Nat} {lo ke fo : Int32} {ea : Nat} {σ : Sg} {i x y : Int32} (h : vp_nar .boolean x = y) : (wsW g ad lo ke fo ea σ).set 24 (ad 24, .inl (g.2.1 2, 6, .inl (upd (σ.1 24) i.toNatClampNeg (vp_nar .boolean x)))) = wsW g ad lo ke fo ea (si σ 24 i y) := by subst h; rfl
theorem wset_25 {g : Gm} {ad : Nat → Nat} {lo ke fo : Int32} {ea : Nat} {σ : Sg} {i x : Int32} : (wsW g ad lo ke fo ea σ).set 25 (ad 25, .inl (g.2.1 0, 6, .inl (upd (σ.1 25) i.toNatClampNeg x))) = wsW g ad lo ke fo ea (si σ 25 i x) := rfl
theorem wset_26 {g : Gm} {ad : Nat → Nat} {lo ke fo : Int32} {ea : Nat} {σ : Sg} {i x : Int32} : (wsW g ad lo ke fo ea σ).set 26 (ad 26, .inl (g.2.1 0, 6, .inl (upd (σ.1 26) i.toNatClampNeg x))) = wsW g ad lo ke fo ea (si σ 26 i x) := rfl
theorem wset_27 {g : Gm} {ad : Nat → Nat} {lo ke fo : Int32} {ea : Nat} {σ : Sg} {i x : Int32} : (wsW g ad lo ke fo ea σ).set 27 (ad 27, .inl (g.2.1 0, 6, .inl (upd (σ.1 27) i.toNatClampNeg x))) = wsW g ad lo ke fo ea (si σ 27 i x) := rfl
theorem wset_28 {g : Gm} {ad : Nat → Nat} {lo ke fo : Int32} {ea : Nat} {σ : Sg} {i : Int32} {x : Int64} : (wsW g ad lo ke fo ea σ).set 28 (ad 28, .inl (g.2.1 1, 9, .inr (.inl (vp_updL (σ.2 28) i.toNatClampNeg x)))) = wsW g ad lo ke fo ea (sl σ 28 i x) := rfl
theorem wset_month {g : Gm} {ad : Nat → Nat} {lo ke fo : Int32} {ea : Nat} {σ : Sg} {v : Int32} : (wsW g ad lo ke fo ea σ).set 0 (ad 0, .inr (5, [.ref (ad 1), .ref (ad 2), .ref (ad 3), .ref (ad 4), .ref (ad 29), .ref (ad 5), .ref (ad 6), .ref (ad 7), .int lo, .int ke, .int v, .int fo])) = wsW g ad lo ke fo ea (ss σ 0 v) := rfl
theorem wset_followed {g : Gm} {ad : Nat → Nat} {lo ke fo : Int32} {ea : Nat} {σ : Sg} {v : Int32} : (wsW g ad lo ke fo ea σ).set 0 (ad 0, .inr (5, [.ref (ad 1), .ref (ad 2), .ref (ad 3), .ref (ad 4), .ref (ad 29), .ref (ad 5), .ref (ad 6), .ref (ad 7), .int lo, .int ke, .int (σ.1 0 0), .int v])) = wsW g ad lo ke v ea σ := rfl
theorem wset_river {g : Gm} {ad : Nat → Nat} {lo ke fo : Int32} {ea : Nat} {σ : Sg} {v : Int32} : (wsW g ad lo ke fo ea σ).set 2 (ad 2, .inr (3, [.ref (ad 12), .ref (ad 13), .ref (ad 14), .ref (ad 15), .ref (ad 16), .ref (ad 17), .int v, .int (σ.1 0 3)])) = wsW g ad lo ke fo ea (ss σ 2 v) := rfl
theorem wset_sea {g : Gm} {ad : Nat → Nat} {lo ke fo : Int32} {ea : Nat} {σ : Sg} {v : Int32} : (wsW g ad lo ke fo ea σ).set 2 (ad 2, .inr (3, [.ref (ad 12), .ref (ad 13), .ref (ad 14), .ref (ad 15), .ref (ad 16), .ref (ad 17), .int (σ.1 0 2), .int v])) = wsW g ad lo ke fo ea (ss σ 3 v) := rfl
theorem wset_count {g : Gm} {ad : Nat → Nat} {lo ke fo : Int32} {ea : Nat} {σ : Sg} {v : Int32} : (wsW g ad lo ke fo ea σ).set 3 (ad 3, .inr (4, [.ref (ad 18), .ref (ad 19), .ref (ad 20), .ref (ad 21), .ref (ad 22), .ref (ad 23), .ref (ad 24), .ref (ad 25), .ref (ad 26), .ref (ad 27), .int v])) = wsW g ad lo ke fo ea (ss σ 4 v) := rfl
section WROWS
variable {p : Program} {l : Launch} {e : Env} {R : Room} {s : State} {m : MethodId} {args : Array Value} {below : List Frame} {meth : Method} {c : Code} {H : Heap} {locs : List Loc} {cells slots : Nat} {Q : State → Prop}
variable {cc : ByteArray} {pc : Nat} {ls : Array Slot} {rest : List Value} {g : Gm} {A : Nat → Prop} {H0 : Heap} {ws : va_W} {own : String}
theorem w_ild {a n : Nat} {cA : ClassId} {f : Nat → Int32} {i v : Int32} (S : Sta p c cc s args own m) (hK : va_K g.1 vwC (tysG g) s) (E : Ev g A H0 H locs ws) (q0 t0 : Nat) (ha : ws[q0]? = some (a, .inl (cA, n, .inl f))) (ht : (tysG g)[t0]? = some (cA, .int)) (hin : vp_in i n) (hv : f i.toNatClampNeg = v) (hdg : decode cc pc = .ok (.iaload, 1))
    (kk : W p l e R s m args below meth c H locs cells slots Q (F0 m (pc + 1) ls (.int v :: rest))) : W p l e R s m args below meth c H locs cells slots Q (F0 m pc ls (.int i :: .ref a :: rest)) := by
  subst hv
  exact va_iald S.1 S.2.1 hK E.1 q0 t0 ha ht hin hdg kk
theorem w_zld {a n : Nat} {cA : ClassId} {f : Nat → Int32} {i v : Int32} (S : Sta p c cc s args own m) (hK : va_K g.1 vwC (tysG g) s) (E : Ev g A H0 H locs ws) (q0 t0 : Nat) (ha : ws[q0]? = some (a, .inl (cA, n, .inl f))) (ht : (tysG g)[t0]? = some (cA, .boolean)) (hin : vp_in i n) (hv : f i.toNatClampNeg = v) (hdg : decode cc pc = .ok (.baload, 1))
    (kk : W p l e R s m args below meth c H locs cells slots Q (F0 m (pc + 1) ls (.int v :: rest))) : W p l e R s m args below meth c H locs cells slots Q (F0 m pc ls (.int i :: .ref a :: rest)) := by
  subst hv
  exact va_zald S.1 S.2.1 hK E.1 q0 t0 ha ht hin hdg kk
theorem w_lld {a n : Nat} {cA : ClassId} {f : Nat → Int64} {i : Int32} {v : Int64} (S : Sta p c cc s args own m) (hK : va_K g.1 vwC (tysG g) s) (E : Ev g A H0 H locs ws) (q0 t0 : Nat) (ha : ws[q0]? = some (a, .inl (cA, n, .inr (.inl f)))) (ht : (tysG g)[t0]? = some (cA, .long)) (hin : vp_in i n) (hv : f i.toNatClampNeg = v) (hdg : decode cc pc = .ok (.laload, 1))
    (kk : W p l e R s m args below meth c H locs cells slots Q (F0 m (pc + 1) ls (.long v :: rest))) : W p l e R s m args below meth c H locs cells slots Q (F0 m pc ls (.int i :: .ref a :: rest)) := by
  subst hv
  exact va_lald S.1 S.2.1 hK E.1 q0 t0 ha ht hin hdg kk
theorem w_ist {a n : Nat} {cA : ClassId} {f : Nat → Int32} {i x : Int32} {w' : va_W} (S : Sta p c cc s args own m) (hK : va_K g.1 vwC (tysG g) s) (E : Ev g A H0 H locs ws) (q0 t0 : Nat) (ha : ws[q0]? = some (a, .inl (cA, n, .inl f))) (ht : (tysG g)[t0]? = some (cA, .int)) (hin : vp_in i n) (hw : ws.set q0 (a, .inl (cA, n, .inl (upd f i.toNatClampNeg x))) = w') (hdg : decode cc pc = .ok (.iastore, 1))
    (kk : ∀ (H1 : Heap) (locs1 : List Loc), Ev g A H0 H1 locs1 w' → W p l e R s m args below meth c H1 locs1 cells slots Q (F0 m (pc + 1) ls rest)) : W p l e R s m args below meth c H locs cells slots Q (F0 m pc ls (.int x :: .int i :: .ref a :: rest)) := by
  subst hw
  exact va_iast S.1 S.2.1 hK E.1 E.2.1 E.2.2 q0 t0 ha ht hin hdg (fun H1 l1 hP hD hS => kk H1 l1 ⟨hP, hD, hS⟩)
theorem w_zst {a n : Nat} {cA : ClassId} {f : Nat → Int32} {i x : Int32} {w' : va_W} (S : Sta p c cc s args own m) (hK : va_K g.1 vwC (tysG g) s) (E : Ev g A H0 H locs ws) (q0 t0 : Nat) (ha : ws[q0]? = some (a, .inl (cA, n, .inl f))) (ht : (tysG g)[t0]? = some (cA, .boolean)) (hin : vp_in i n) (hw : ws.set q0 (a, .inl (cA, n, .inl (upd f i.toNatClampNeg (vp_nar .boolean x)))) = w') (hdg : decode cc pc = .ok (.bastore, 1))
    (kk : ∀ (H1 : Heap) (locs1 : List Loc), Ev g A H0 H1 locs1 w' → W p l e R s m args below meth c H1 locs1 cells slots Q (F0 m (pc + 1) ls rest)) : W p l e R s m args below meth c H locs cells slots Q (F0 m pc ls (.int x :: .int i :: .ref a :: rest)) := by
  subst hw
  exact va_zast S.1 S.2.1 hK E.1 E.2.1 E.2.2 q0 t0 ha ht hin hdg (fun H1 l1 hP hD hS => kk H1 l1 ⟨hP, hD, hS⟩)
theorem w_lst {a n : Nat} {cA : ClassId} {f : Nat → Int64} {i : Int32} {x : Int64} {w' : va_W} (S : Sta p c cc s args own m) (hK : va_K g.1 vwC (tysG g) s) (E : Ev g A H0 H locs ws) (q0 t0 : Nat) (ha : ws[q0]? = some (a, .inl (cA, n, .inr (.inl f)))) (ht : (tysG g)[t0]? = some (cA, .long)) (hin : vp_in i n) (hw : ws.set q0 (a, .inl (cA, n, .inr (.inl (vp_updL f i.toNatClampNeg x)))) = w') (hdg : decode cc pc = .ok (.lastore, 1))
    (kk : ∀ (H1 : Heap) (locs1 : List Loc), Ev g A H0 H1 locs1 w' → W p l e R s m args below meth c H1 locs1 cells slots Q (F0 m (pc + 1) ls rest)) : W p l e R s m args below meth c H locs cells slots Q (F0 m pc ls (.long x :: .int i :: .ref a :: rest)) := by
  subst hw
  exact va_last S.1 S.2.1 hK E.1 E.2.1 E.2.2 q0 t0 ha ht hin hdg (fun H1 l1 hP hD hS => kk H1 l1 ⟨hP, hD, hS⟩)
theorem w_min {index nL : Nat} {x y v : Int32} {lv : List (Nat × Value)} (S : Sta p c cc s args own m) (hml : c.maxLocals = nL) (hl : lv_has ls nL lv) (hlink : Cond.methodLink own index Lib.Math.min.name ∈ lw_g) (h1 : Cond.static Lib.Math.min.name ∈ lw_g) (h2 : Cond.initialized "java/lang/Math" ∈ lw_g) (h3 : Cond.code Lib.Math.min.name Lib.Math.min.code 2 (some .int) ∈ lw_g) (hfr : 1 ≤ R.frames) (hlo : (rest.map fun v => v.category).sum + 13 ≤ R.locals) (hc : cells ≤ R.cells ∧ slots ≤ R.slots) (hv : mn x y = v) (hdg : decode cc pc = .ok (.invokestatic index, 3))
    (kk : W p l e R s m args below meth c H locs cells slots Q (F0 m (pc + 3) ls (.int v :: rest))) : W p l e R s m args below meth c H locs cells slots Q (F0 m pc ls (.int y :: .int x :: rest)) := by
  subst hv
  exact va_mmin S.1 S.2.1 (hml.trans hl.1.symm) S.2.2.2 (S.2.2.1 _ hlink) (S.2.2.1 _ h1) (S.2.2.1 _ h2) (S.2.2.1 _ h3) hfr hlo hc.1 hc.2 hdg kk
theorem w_max {index nL : Nat} {x y v : Int32} {lv : List (Nat × Value)} (S : Sta p c cc s args own m) (hml : c.maxLocals = nL) (hl : lv_has ls nL lv) (hlink : Cond.methodLink own index Lib.Math.max.name ∈ lw_g) (h1 : Cond.static Lib.Math.max.name ∈ lw_g) (h2 : Cond.initialized "java/lang/Math" ∈ lw_g) (h3 : Cond.code Lib.Math.max.name Lib.Math.max.code 2 (some .int) ∈ lw_g) (hfr : 1 ≤ R.frames) (hlo : (rest.map fun v => v.category).sum + 13 ≤ R.locals) (hc : cells ≤ R.cells ∧ slots ≤ R.slots) (hv : mx x y = v) (hdg : decode cc pc = .ok (.invokestatic index, 3))
    (kk : W p l e R s m args below meth c H locs cells slots Q (F0 m (pc + 3) ls (.int v :: rest))) : W p l e R s m args below meth c H locs cells slots Q (F0 m pc ls (.int y :: .int x :: rest)) := by
  subst hv
  exact va_mmax S.1 S.2.1 (hml.trans hl.1.symm) S.2.2.2 (S.2.2.1 _ hlink) (S.2.2.1 _ h1) (S.2.2.1 _ h2) (S.2.2.1 _ h3) hfr hlo hc.1 hc.2 hdg kk
theorem w_abs {index nL : Nat} {x v : Int32} {lv : List (Nat × Value)} (S : Sta p c cc s args own m) (hml : c.maxLocals = nL) (hl : lv_has ls nL lv) (hlink : Cond.methodLink own index Lib.Math.abs.name ∈ lw_g) (h1 : Cond.static Lib.Math.abs.name ∈ lw_g) (h2 : Cond.initialized "java/lang/Math" ∈ lw_g) (h3 : Cond.code Lib.Math.abs.name Lib.Math.abs.code 1 (some .int) ∈ lw_g) (hfr : 1 ≤ R.frames) (hlo : (rest.map fun v => v.category).sum + 13 ≤ R.locals) (hc : cells ≤ R.cells ∧ slots ≤ R.slots) (hv : ab x = v) (hdg : decode cc pc = .ok (.invokestatic index, 3))
    (kk : W p l e R s m args below meth c H locs cells slots Q (F0 m (pc + 3) ls (.int v :: rest))) : W p l e R s m args below meth c H locs cells slots Q (F0 m pc ls (.int x :: rest)) := by
  subst hv
  exact va_mabs S.1 S.2.1 (hml.trans hl.1.symm) S.2.2.2 (S.2.2.1 _ hlink) (S.2.2.1 _ h1) (S.2.2.1 _ h2) (S.2.2.1 _ h3) hfr hlo hc.1 hc.2 hdg kk
end WROWS
theorem nz_1 {x : Int32} (h : 1 ≤ x) : ¬ x = 0 := fun z => by rw [z] at h; exact absurd h (by decide)
theorem nz_l {x : Int32} (h : 1 ≤ x) : ¬ x.toInt64 = 0 := fun z => nz_1 h (by
  have := congrArg Int64.toInt32 z
  simpa using this)
end
section
/-! WHERE THE WORDS STAND (by program out of the tables) -/
theorem in_L : Cond.initialized RL ∈ lw_g := lw_gi 31 (by decide +kernel) (by decide +kernel)
theorem in_X6 : Cond.initialized RX6 ∈ lw_g := lw_gi 32 (by decide +kernel) (by decide +kernel)
theorem in_X5 : Cond.initialized RX5 ∈ lw_g := lw_gi 33 (by decide +kernel) (by decide +kernel)
theorem in_X2 : Cond.initialized RX2 ∈ lw_g := lw_gi 34 (by decide +kernel) (by decide +kernel)
theorem in_J7 : Cond.initialized RJ7 ∈ lw_g := lw_gi 35 (by decide +kernel) (by decide +kernel)
theorem in_X3 : Cond.initialized RX3 ∈ lw_g := lw_gi 36 (by decide +kernel) (by decide +kernel)
theorem in_X4 : Cond.initialized RX4 ∈ lw_g := lw_gi 37 (by decide +kernel) (by decide +kernel)
theorem in_X0 : Cond.initialized RX0 ∈ lw_g := lw_gi 38 (by decide +kernel) (by decide +kernel)
theorem in_J5 : Cond.initialized RJ5 ∈ lw_g := lw_gi 39 (by decide +kernel) (by decide +kernel)
theorem in_J4 : Cond.initialized RJ4 ∈ lw_g := lw_gi 40 (by decide +kernel) (by decide +kernel)
theorem in_J0 : Cond.initialized RJ0 ∈ lw_g := lw_gi 41 (by decide +kernel) (by decide +kernel)
theorem in_J2 : Cond.initialized RJ2 ∈ lw_g := lw_gi 42 (by decide +kernel) (by decide +kernel)
theorem in_Jxa1e45 : Cond.initialized RJxa1e45 ∈ lw_g := lw_gi 43 (by decide +kernel) (by decide +kernel)
theorem in_Jxc12de : Cond.initialized RJxc12de ∈ lw_g := lw_gi 44 (by decide +kernel) (by decide +kernel)
theorem in_Jx4a65c : Cond.initialized RJx4a65c ∈ lw_g := lw_gi 45 (by decide +kernel) (by decide +kernel)
theorem in_X9 : Cond.initialized RX9 ∈ lw_g := lw_gi 46 (by decide +kernel) (by decide +kernel)
theorem in_X7 : Cond.initialized RX7 ∈ lw_g := lw_gi 47 (by decide +kernel) (by decide +kernel)
theorem in__java_lang_Throwable : Cond.initialized "java/lang/Throwable" ∈ lw_g := lw_gi 48 (by decide +kernel) (by decide +kernel)
theorem in__java_lang_Exception : Cond.initialized "java/lang/Exception" ∈ lw_g := lw_gi 49 (by decide +kernel) (by decide +kernel)
theorem in__java_lang_RuntimeException : Cond.initialized "java/lang/RuntimeException" ∈ lw_g := lw_gi 50 (by decide +kernel) (by decide +kernel)
theorem in__java_lang_IndexOutOfBoundsException : Cond.initialized "java/lang/IndexOutOfBoundsException" ∈ lw_g := lw_gi 51 (by decide +kernel) (by decide +kernel)
theorem in_Jx00060 : Cond.initialized RJx00060 ∈ lw_g := lw_gi 52 (by decide +kernel) (by decide +kernel)
theorem in__java_lang_IllegalArgumentException : Cond.initialized "java/lang/IllegalArgumentException" ∈ lw_g := lw_gi 53 (by decide +kernel) (by decide +kernel)
theorem in_X1 : Cond.initialized RX1 ∈ lw_g := lw_gi 54 (by decide +kernel) (by decide +kernel)
theorem in_J8 : Cond.initialized RJ8 ∈ lw_g := lw_gi 55 (by decide +kernel) (by decide +kernel)
theorem in_J9 : Cond.initialized RJ9 ∈ lw_g := lw_gi 56 (by decide +kernel) (by decide +kernel)
theorem in_J10 : Cond.initialized RJ10 ∈ lw_g := lw_gi 57 (by decide +kernel) (by decide +kernel)
theorem in_J1 : Cond.initialized RJ1 ∈ lw_g := lw_gi 58 (by decide +kernel) (by decide +kernel)
theorem in_J3 : Cond.initialized RJ3 ∈ lw_g := lw_gi 59 (by decide +kernel) (by decide +kernel)
theorem in_X8 : Cond.initialized RX8 ∈ lw_g := lw_gi 60 (by decide +kernel) (by decide +kernel)
theorem in_J15 : Cond.initialized RJ15 ∈ lw_g := lw_gi 61 (by decide +kernel) (by decide +kernel)
theorem in_Jxd2413 : Cond.initialized RJxd2413 ∈ lw_g := lw_gi 62 (by decide +kernel) (by decide +kernel)
theorem in_J6 : Cond.initialized RJ6 ∈ lw_g := lw_gi 63 (by decide +kernel) (by decide +kernel)
theorem in_Jxabbfe : Cond.initialized RJxabbfe ∈ lw_g := lw_gi 64 (by decide +kernel) (by decide +kernel)
theorem in_Jx35411 : Cond.initialized RJx35411 ∈ lw_g := lw_gi 65 (by decide +kernel) (by decide +kernel)
theorem in__java_util_NoSuchElementException : Cond.initialized "java/util/NoSuchElementException" ∈ lw_g := lw_gi 66 (by decide +kernel) (by decide +kernel)
theorem in__java_lang_IllegalStateException : Cond.initialized "java/lang/IllegalStateException" ∈ lw_g := lw_gi 67 (by decide +kernel) (by decide +kernel)
theorem in__java_lang_UnsupportedOperationException : Cond.initialized "java/lang/UnsupportedOperationException" ∈ lw_g := lw_gi 68 (by decide +kernel) (by decide +kernel)
theorem in__java_lang_ArithmeticException : Cond.initialized "java/lang/ArithmeticException" ∈ lw_g := lw_gi 69 (by decide +kernel) (by decide +kernel)
theorem in_J11 : Cond.initialized RJ11 ∈ lw_g := lw_gi 70 (by decide +kernel) (by decide +kernel)
theorem ib_X6 : Cond.instantiable RX6 4 ∈ lw_g := lw_gi 72 (by decide +kernel) (by decide +kernel)
theorem im_X6_init : Cond.instanceMethod yX6_init ∈ lw_g := lw_gi 74 (by decide +kernel) (by decide +kernel)
theorem co_X6_init : Cond.code yX6_init cX6_init 1 none ∈ lw_g := lw_gi 75 (by decide +kernel) (by decide +kernel)
theorem ml_X6_1 : Cond.methodLink RX6 1 objectInit ∈ lw_g := lw_gi 76 (by decide +kernel) (by decide +kernel)
theorem im_objinit : Cond.instanceMethod objectInit ∈ lw_g := lw_gi 77 (by decide +kernel) (by decide +kernel)
theorem co_objinit : Cond.code objectInit ⟨#[0xb1]⟩ 1 none ∈ lw_g := lw_gi 78 (by decide +kernel) (by decide +kernel)
theorem cl_X6_7 : Cond.classLink RX6 7 RX5 ∈ lw_g := lw_gi 79 (by decide +kernel) (by decide +kernel)
theorem ib_X5 : Cond.instantiable RX5 12 ∈ lw_g := lw_gi 80 (by decide +kernel) (by decide +kernel)
theorem ml_X6_11 : Cond.methodLink RX6 11 yX5_init ∈ lw_g := lw_gi 81 (by decide +kernel) (by decide +kernel)
theorem im_X5_init : Cond.instanceMethod yX5_init ∈ lw_g := lw_gi 82 (by decide +kernel) (by decide +kernel)
theorem co_X5_init : Cond.code yX5_init cX5_init 3 none ∈ lw_g := lw_gi 83 (by decide +kernel) (by decide +kernel)
theorem ml_X5_3 : Cond.methodLink RX5 3 objectInit ∈ lw_g := lw_gi 84 (by decide +kernel) (by decide +kernel)
theorem cl_X5_9 : Cond.classLink RX5 9 RX2 ∈ lw_g := lw_gi 85 (by decide +kernel) (by decide +kernel)
theorem ib_X2 : Cond.instantiable RX2 4 ∈ lw_g := lw_gi 86 (by decide +kernel) (by decide +kernel)
theorem ml_X5_11 : Cond.methodLink RX5 11 yX2_init ∈ lw_g := lw_gi 87 (by decide +kernel) (by decide +kernel)
theorem im_X2_init : Cond.instanceMethod yX2_init ∈ lw_g := lw_gi 88 (by decide +kernel) (by decide +kernel)
theorem co_X2_init : Cond.code yX2_init cX2_init 1 none ∈ lw_g := lw_gi 89 (by decide +kernel) (by decide +kernel)
theorem ml_X2_3 : Cond.methodLink RX2 3 objectInit ∈ lw_g := lw_gi 90 (by decide +kernel) (by decide +kernel)
theorem ml_X2_24 : Cond.methodLink RX2 24 yJ7_fill_53178 ∈ lw_g := lw_gi 91 (by decide +kernel) (by decide +kernel)
theorem fl_X2_9 : Cond.fieldLink RX2 9 "Aquiferward$Cells" "bases" "[I" ∈ lw_g := lw_gi 94 (by decide +kernel) (by decide +kernel)
theorem fl_X5_154 : Cond.fieldLink RX5 154 "Aquiferward$Cells" "bases" "[I" ∈ lw_g := lw_gi 95 (by decide +kernel) (by decide +kernel)
theorem fl_X2_15 : Cond.fieldLink RX2 15 "Aquiferward$Cells" "storages" "[I" ∈ lw_g := lw_gi 96 (by decide +kernel) (by decide +kernel)
theorem fl_X5_157 : Cond.fieldLink RX5 157 "Aquiferward$Cells" "storages" "[I" ∈ lw_g := lw_gi 97 (by decide +kernel) (by decide +kernel)
theorem fl_X2_18 : Cond.fieldLink RX2 18 "Aquiferward$Cells" "water" "[I" ∈ lw_g := lw_gi 98 (by decide +kernel) (by decide +kernel)
theorem fl_X6_44 : Cond.fieldLink RX6 44 "Aquiferward$Cells" "water" "[I" ∈ lw_g := lw_gi 99 (by decide +kernel) (by decide +kernel)
theorem fl_X5_151 : Cond.fieldLink RX5 151 "Aquiferward$Cells" "water" "[I" ∈ lw_g := lw_gi 100 (by decide +kernel) (by decide +kernel)
theorem fl_X2_21 : Cond.fieldLink RX2 21 "Aquiferward$Cells" "salt" "[I" ∈ lw_g := lw_gi 101 (by decide +kernel) (by decide +kernel)
theorem fl_X5_160 : Cond.fieldLink RX5 160 "Aquiferward$Cells" "salt" "[I" ∈ lw_g := lw_gi 102 (by decide +kernel) (by decide +kernel)
theorem fl_X6_134 : Cond.fieldLink RX6 134 "Aquiferward$Cells" "salt" "[I" ∈ lw_g := lw_gi 103 (by decide +kernel) (by decide +kernel)
theorem ac_int : Cond.arrayClass .int ∈ lw_g := lw_gi 113 (by decide +kernel) (by decide +kernel)
theorem cl_X5_18 : Cond.classLink RX5 18 RX3 ∈ lw_g := lw_gi 114 (by decide +kernel) (by decide +kernel)
theorem ib_X3 : Cond.instantiable RX3 8 ∈ lw_g := lw_gi 115 (by decide +kernel) (by decide +kernel)
theorem ml_X5_20 : Cond.methodLink RX5 20 yX3_init ∈ lw_g := lw_gi 116 (by decide +kernel) (by decide +kernel)
theorem im_X3_init : Cond.instanceMethod yX3_init ∈ lw_g := lw_gi 117 (by decide +kernel) (by decide +kernel)
theorem co_X3_init : Cond.code yX3_init cX3_init 1 none ∈ lw_g := lw_gi 118 (by decide +kernel) (by decide +kernel)
theorem ml_X3_3 : Cond.methodLink RX3 3 objectInit ∈ lw_g := lw_gi 119 (by decide +kernel) (by decide +kernel)
theorem ml_X3_30 : Cond.methodLink RX3 30 yJ7_fill_53178 ∈ lw_g := lw_gi 120 (by decide +kernel) (by decide +kernel)
theorem fl_X3_9 : Cond.fieldLink RX3 9 "Aquiferward$Land" "grounds" "[I" ∈ lw_g := lw_gi 121 (by decide +kernel) (by decide +kernel)
theorem fl_X6_63 : Cond.fieldLink RX6 63 "Aquiferward$Land" "grounds" "[I" ∈ lw_g := lw_gi 122 (by decide +kernel) (by decide +kernel)
theorem fl_X5_102 : Cond.fieldLink RX5 102 "Aquiferward$Land" "grounds" "[I" ∈ lw_g := lw_gi 123 (by decide +kernel) (by decide +kernel)
theorem fl_X3_15 : Cond.fieldLink RX3 15 "Aquiferward$Land" "conductances" "[I" ∈ lw_g := lw_gi 124 (by decide +kernel) (by decide +kernel)
theorem fl_X5_105 : Cond.fieldLink RX5 105 "Aquiferward$Land" "conductances" "[I" ∈ lw_g := lw_gi 125 (by decide +kernel) (by decide +kernel)
theorem fl_X6_68 : Cond.fieldLink RX6 68 "Aquiferward$Land" "conductances" "[I" ∈ lw_g := lw_gi 126 (by decide +kernel) (by decide +kernel)
theorem fl_X3_18 : Cond.fieldLink RX3 18 "Aquiferward$Land" "leakages" "[I" ∈ lw_g := lw_gi 127 (by decide +kernel) (by decide +kernel)
theorem fl_X5_108 : Cond.fieldLink RX5 108 "Aquiferward$Land" "leakages" "[I" ∈ lw_g := lw_gi 128 (by decide +kernel) (by decide +kernel)
theorem fl_X6_71 : Cond.fieldLink RX6 71 "Aquiferward$Land" "leakages" "[I" ∈ lw_g := lw_gi 129 (by decide +kernel) (by decide +kernel)
theorem fl_X3_21 : Cond.fieldLink RX3 21 "Aquiferward$Land" "rains" "[I" ∈ lw_g := lw_gi 130 (by decide +kernel) (by decide +kernel)
theorem fl_X5_111 : Cond.fieldLink RX5 111 "Aquiferward$Land" "rains" "[I" ∈ lw_g := lw_gi 131 (by decide +kernel) (by decide +kernel)
theorem fl_X6_74 : Cond.fieldLink RX6 74 "Aquiferward$Land" "rains" "[I" ∈ lw_g := lw_gi 132 (by decide +kernel) (by decide +kernel)
theorem fl_X3_24 : Cond.fieldLink RX3 24 "Aquiferward$Land" "bedStages" "[I" ∈ lw_g := lw_gi 133 (by decide +kernel) (by decide +kernel)
theorem fl_X5_114 : Cond.fieldLink RX5 114 "Aquiferward$Land" "bedStages" "[I" ∈ lw_g := lw_gi 134 (by decide +kernel) (by decide +kernel)
theorem fl_X3_27 : Cond.fieldLink RX3 27 "Aquiferward$Land" "bedStrengths" "[I" ∈ lw_g := lw_gi 135 (by decide +kernel) (by decide +kernel)
theorem fl_X5_117 : Cond.fieldLink RX5 117 "Aquiferward$Land" "bedStrengths" "[I" ∈ lw_g := lw_gi 136 (by decide +kernel) (by decide +kernel)
theorem fl_X6_77 : Cond.fieldLink RX6 77 "Aquiferward$Land" "bedStrengths" "[I" ∈ lw_g := lw_gi 137 (by decide +kernel) (by decide +kernel)
theorem fl_X5_120 : Cond.fieldLink RX5 120 "Aquiferward$Land" "river" "I" ∈ lw_g := lw_gi 138 (by decide +kernel) (by decide +kernel)
theorem fl_X6_80 : Cond.fieldLink RX6 80 "Aquiferward$Land" "river" "I" ∈ lw_g := lw_gi 139 (by decide +kernel) (by decide +kernel)
theorem fl_X5_123 : Cond.fieldLink RX5 123 "Aquiferward$Land" "sea" "I" ∈ lw_g := lw_gi 140 (by decide +kernel) (by decide +kernel)
theorem fl_X6_84 : Cond.fieldLink RX6 84 "Aquiferward$Land" "sea" "I" ∈ lw_g := lw_gi 141 (by decide +kernel) (by decide +kernel)
theorem cl_X5_25 : Cond.classLink RX5 25 RX4 ∈ lw_g := lw_gi 159 (by decide +kernel) (by decide +kernel)
theorem ib_X4 : Cond.instantiable RX4 11 ∈ lw_g := lw_gi 160 (by decide +kernel) (by decide +kernel)
theorem im_X4_init : Cond.instanceMethod yX4_init ∈ lw_g := lw_gi 162 (by decide +kernel) (by decide +kernel)
theorem co_X4_init : Cond.code yX4_init cX4_init 1 none ∈ lw_g := lw_gi 163 (by decide +kernel) (by decide +kernel)
theorem ml_X4_3 : Cond.methodLink RX4 3 objectInit ∈ lw_g := lw_gi 164 (by decide +kernel) (by decide +kernel)
theorem fl_X4_9 : Cond.fieldLink RX4 9 "Aquiferward$Wells" "cells" "[I" ∈ lw_g := lw_gi 165 (by decide +kernel) (by decide +kernel)
theorem fl_X5_201 : Cond.fieldLink RX5 201 "Aquiferward$Wells" "cells" "[I" ∈ lw_g := lw_gi 166 (by decide +kernel) (by decide +kernel)
theorem fl_X4_15 : Cond.fieldLink RX4 15 "Aquiferward$Wells" "years" "[I" ∈ lw_g := lw_gi 167 (by decide +kernel) (by decide +kernel)
theorem fl_X4_18 : Cond.fieldLink RX4 18 "Aquiferward$Wells" "amounts" "[I" ∈ lw_g := lw_gi 168 (by decide +kernel) (by decide +kernel)
theorem fl_X6_119 : Cond.fieldLink RX6 119 "Aquiferward$Wells" "amounts" "[I" ∈ lw_g := lw_gi 169 (by decide +kernel) (by decide +kernel)
theorem fl_X4_21 : Cond.fieldLink RX4 21 "Aquiferward$Wells" "wishes" "[I" ∈ lw_g := lw_gi 170 (by decide +kernel) (by decide +kernel)
theorem fl_X5_130 : Cond.fieldLink RX5 130 "Aquiferward$Wells" "wishes" "[I" ∈ lw_g := lw_gi 171 (by decide +kernel) (by decide +kernel)
theorem fl_X6_107 : Cond.fieldLink RX6 107 "Aquiferward$Wells" "wishes" "[I" ∈ lw_g := lw_gi 172 (by decide +kernel) (by decide +kernel)
theorem fl_X4_24 : Cond.fieldLink RX4 24 "Aquiferward$Wells" "thisYear" "[I" ∈ lw_g := lw_gi 173 (by decide +kernel) (by decide +kernel)
theorem fl_X5_216 : Cond.fieldLink RX5 216 "Aquiferward$Wells" "thisYear" "[I" ∈ lw_g := lw_gi 174 (by decide +kernel) (by decide +kernel)
theorem fl_X6_137 : Cond.fieldLink RX6 137 "Aquiferward$Wells" "thisYear" "[I" ∈ lw_g := lw_gi 175 (by decide +kernel) (by decide +kernel)
theorem fl_X4_27 : Cond.fieldLink RX4 27 "Aquiferward$Wells" "inAll" "[J" ∈ lw_g := lw_gi 176 (by decide +kernel) (by decide +kernel)
theorem fl_X5_219 : Cond.fieldLink RX5 219 "Aquiferward$Wells" "inAll" "[J" ∈ lw_g := lw_gi 177 (by decide +kernel) (by decide +kernel)
theorem fl_X6_140 : Cond.fieldLink RX6 140 "Aquiferward$Wells" "inAll" "[J" ∈ lw_g := lw_gi 178 (by decide +kernel) (by decide +kernel)
theorem fl_X4_31 : Cond.fieldLink RX4 31 "Aquiferward$Wells" "shut" "[Z" ∈ lw_g := lw_gi 179 (by decide +kernel) (by decide +kernel)
theorem fl_X5_191 : Cond.fieldLink RX5 191 "Aquiferward$Wells" "shut" "[Z" ∈ lw_g := lw_gi 180 (by decide +kernel) (by decide +kernel)
theorem fl_X6_144 : Cond.fieldLink RX6 144 "Aquiferward$Wells" "shut" "[Z" ∈ lw_g := lw_gi 181 (by decide +kernel) (by decide +kernel)
theorem fl_X4_35 : Cond.fieldLink RX4 35 "Aquiferward$Wells" "idleYears" "[I" ∈ lw_g := lw_gi 182 (by decide +kernel) (by decide +kernel)
theorem fl_X4_38 : Cond.fieldLink RX4 38 "Aquiferward$Wells" "givenThisYear" "[I" ∈ lw_g := lw_gi 183 (by decide +kernel) (by decide +kernel)
theorem fl_X4_41 : Cond.fieldLink RX4 41 "Aquiferward$Wells" "oldestFirst" "[I" ∈ lw_g := lw_gi 184 (by decide +kernel) (by decide +kernel)
theorem fl_X5_195 : Cond.fieldLink RX5 195 "Aquiferward$Wells" "oldestFirst" "[I" ∈ lw_g := lw_gi 185 (by decide +kernel) (by decide +kernel)
theorem fl_X6_153 : Cond.fieldLink RX6 153 "Aquiferward$Wells" "oldestFirst" "[I" ∈ lw_g := lw_gi 186 (by decide +kernel) (by decide +kernel)
theorem fl_X4_44 : Cond.fieldLink RX4 44 "Aquiferward$Wells" "count" "I" ∈ lw_g := lw_gi 187 (by decide +kernel) (by decide +kernel)
theorem fl_X5_188 : Cond.fieldLink RX5 188 "Aquiferward$Wells" "count" "I" ∈ lw_g := lw_gi 188 (by decide +kernel) (by decide +kernel)
theorem fl_X6_91 : Cond.fieldLink RX6 91 "Aquiferward$Wells" "count" "I" ∈ lw_g := lw_gi 189 (by decide +kernel) (by decide +kernel)
theorem ac_long : Cond.arrayClass .long ∈ lw_g := lw_gi 213 (by decide +kernel) (by decide +kernel)
theorem ac_boolean : Cond.arrayClass .boolean ∈ lw_g := lw_gi 214 (by decide +kernel) (by decide +kernel)
theorem cl_X5_32 : Cond.classLink RX5 32 RX0 ∈ lw_g := lw_gi 215 (by decide +kernel) (by decide +kernel)
theorem ib_X0 : Cond.instantiable RX0 1 ∈ lw_g := lw_gi 216 (by decide +kernel) (by decide +kernel)
theorem im_X0_init : Cond.instanceMethod yX0_init ∈ lw_g := lw_gi 218 (by decide +kernel) (by decide +kernel)
theorem co_X0_init : Cond.code yX0_init cX0_init 1 none ∈ lw_g := lw_gi 219 (by decide +kernel) (by decide +kernel)
theorem ml_X0_1 : Cond.methodLink RX0 1 objectInit ∈ lw_g := lw_gi 220 (by decide +kernel) (by decide +kernel)
theorem fl_X0_7 : Cond.fieldLink RX0 7 "Aquiferward$Books" "sums" "[J" ∈ lw_g := lw_gi 221 (by decide +kernel) (by decide +kernel)
theorem fl_X5_147 : Cond.fieldLink RX5 147 "Aquiferward$Books" "sums" "[J" ∈ lw_g := lw_gi 222 (by decide +kernel) (by decide +kernel)
theorem fl_X6_198 : Cond.fieldLink RX6 198 "Aquiferward$Books" "sums" "[J" ∈ lw_g := lw_gi 223 (by decide +kernel) (by decide +kernel)
theorem cl_X5_39 : Cond.classLink RX5 39 RJ4 ∈ lw_g := lw_gi 227 (by decide +kernel) (by decide +kernel)
theorem ib_J4 : Cond.instantiable RJ4 4 ∈ lw_g := lw_gi 228 (by decide +kernel) (by decide +kernel)
theorem ml_X5_41 : Cond.methodLink RX5 41 yJ4_init_da8c8 ∈ lw_g := lw_gi 229 (by decide +kernel) (by decide +kernel)
theorem im_J4_init_da8c8 : Cond.instanceMethod yJ4_init_da8c8 ∈ lw_g := lw_gi 230 (by decide +kernel) (by decide +kernel)
theorem co_J4_init_da8c8 : Cond.code yJ4_init_da8c8 cJ4_init_da8c8 1 none ∈ lw_g := lw_gi 231 (by decide +kernel) (by decide +kernel)
theorem ml_J4_1 : Cond.methodLink RJ4 1 yJ5_init_d00df ∈ lw_g := lw_gi 232 (by decide +kernel) (by decide +kernel)
theorem su_J4 : Cond.superclass RJ4 RJ5 ∈ lw_g := lw_gi 257 (by decide +kernel) (by decide +kernel)
theorem ac_byte : Cond.arrayClass .byte ∈ lw_g := lw_gi 258 (by decide +kernel) (by decide +kernel)
theorem fl_X5_12 : Cond.fieldLink RX5 12 "Aquiferward$World" "cells" "LAquiferward$Cells;" ∈ lw_g := lw_gi 259 (by decide +kernel) (by decide +kernel)
theorem fl_X6_40 : Cond.fieldLink RX6 40 "Aquiferward$World" "cells" "LAquiferward$Cells;" ∈ lw_g := lw_gi 260 (by decide +kernel) (by decide +kernel)
theorem fl_X5_21 : Cond.fieldLink RX5 21 "Aquiferward$World" "land" "LAquiferward$Land;" ∈ lw_g := lw_gi 261 (by decide +kernel) (by decide +kernel)
theorem fl_X6_59 : Cond.fieldLink RX6 59 "Aquiferward$World" "land" "LAquiferward$Land;" ∈ lw_g := lw_gi 262 (by decide +kernel) (by decide +kernel)
theorem fl_X5_28 : Cond.fieldLink RX5 28 "Aquiferward$World" "wells" "LAquiferward$Wells;" ∈ lw_g := lw_gi 263 (by decide +kernel) (by decide +kernel)
theorem fl_X6_87 : Cond.fieldLink RX6 87 "Aquiferward$World" "wells" "LAquiferward$Wells;" ∈ lw_g := lw_gi 264 (by decide +kernel) (by decide +kernel)
theorem fl_X5_35 : Cond.fieldLink RX5 35 "Aquiferward$World" "books" "LAquiferward$Books;" ∈ lw_g := lw_gi 265 (by decide +kernel) (by decide +kernel)
theorem fl_X6_194 : Cond.fieldLink RX6 194 "Aquiferward$World" "books" "LAquiferward$Books;" ∈ lw_g := lw_gi 266 (by decide +kernel) (by decide +kernel)
theorem fl_X5_42 : Cond.fieldLink RX5 42 "Aquiferward$World" "events" "Ljava/lang/StringBuilder;" ∈ lw_g := lw_gi 267 (by decide +kernel) (by decide +kernel)
theorem fl_X6_166 : Cond.fieldLink RX6 166 "Aquiferward$World" "events" "Ljava/lang/StringBuilder;" ∈ lw_g := lw_gi 268 (by decide +kernel) (by decide +kernel)
theorem fl_X5_46 : Cond.fieldLink RX5 46 "Aquiferward$World" "heights" "[I" ∈ lw_g := lw_gi 269 (by decide +kernel) (by decide +kernel)
theorem fl_X5_50 : Cond.fieldLink RX5 50 "Aquiferward$World" "waterIn" "[I" ∈ lw_g := lw_gi 270 (by decide +kernel) (by decide +kernel)
theorem fl_X5_53 : Cond.fieldLink RX5 53 "Aquiferward$World" "saltIn" "[I" ∈ lw_g := lw_gi 271 (by decide +kernel) (by decide +kernel)
theorem fl_X5_56 : Cond.fieldLink RX5 56 "Aquiferward$World" "leftOut" "I" ∈ lw_g := lw_gi 272 (by decide +kernel) (by decide +kernel)
theorem fl_X5_60 : Cond.fieldLink RX5 60 "Aquiferward$World" "keepsEvents" "Z" ∈ lw_g := lw_gi 273 (by decide +kernel) (by decide +kernel)
theorem fl_X6_122 : Cond.fieldLink RX6 122 "Aquiferward$World" "month" "I" ∈ lw_g := lw_gi 274 (by decide +kernel) (by decide +kernel)
theorem fl_X5_244 : Cond.fieldLink RX5 244 "Aquiferward$World" "month" "I" ∈ lw_g := lw_gi 275 (by decide +kernel) (by decide +kernel)
theorem fl_X5_64 : Cond.fieldLink RX5 64 "Aquiferward$World" "followed" "I" ∈ lw_g := lw_gi 276 (by decide +kernel) (by decide +kernel)
theorem cl_X6_25 : Cond.classLink RX6 25 RJx4a65c ∈ lw_g := lw_gi 303 (by decide +kernel) (by decide +kernel)
theorem ib_Jx4a65c : Cond.instantiable RJx4a65c 3 ∈ lw_g := lw_gi 304 (by decide +kernel) (by decide +kernel)
theorem ml_X6_27 : Cond.methodLink RX6 27 yJx4a65c_init_da8c8 ∈ lw_g := lw_gi 305 (by decide +kernel) (by decide +kernel)
theorem im_Jx4a65c_init_da8c8 : Cond.instanceMethod yJx4a65c_init_da8c8 ∈ lw_g := lw_gi 306 (by decide +kernel) (by decide +kernel)
theorem co_Jx4a65c_init_da8c8 : Cond.code yJx4a65c_init_da8c8 cJx4a65c_init_da8c8 1 none ∈ lw_g := lw_gi 307 (by decide +kernel) (by decide +kernel)
theorem ml_Jx4a65c_1 : Cond.methodLink RJx4a65c 1 yJxc12de_init_da8c8 ∈ lw_g := lw_gi 308 (by decide +kernel) (by decide +kernel)
theorem fl_Jx4a65c_39 : Cond.fieldLink RJx4a65c 39 "java/util/ArrayList" "DEFAULTCAPACITY_EMPTY_ELEMENTDATA" "[Ljava/lang/Object;" ∈ lw_g := lw_gi 315 (by decide +kernel) (by decide +kernel)
theorem fl_Jx4a65c_9 : Cond.fieldLink RJx4a65c 9 "java/util/ArrayList" "elementData" "[Ljava/lang/Object;" ∈ lw_g := lw_gi 317 (by decide +kernel) (by decide +kernel)
theorem fl_Jx4a65c_48 : Cond.fieldLink RJx4a65c 48 "java/util/ArrayList" "size" "I" ∈ lw_g := lw_gi 320 (by decide +kernel) (by decide +kernel)
theorem fl_Jx4a65c_63 : Cond.fieldLink RJx4a65c 63 "java/util/ArrayList" "modCount" "I" ∈ lw_g := lw_gi 324 (by decide +kernel) (by decide +kernel)
theorem su_Jx4a65c : Cond.superclass RJx4a65c RJxc12de ∈ lw_g := lw_gi 331 (by decide +kernel) (by decide +kernel)
theorem fl_X6_14 : Cond.fieldLink RX6 14 "Aquiferward" "world" "LAquiferward$World;" ∈ lw_g := lw_gi 332 (by decide +kernel) (by decide +kernel)
theorem fl_X6_18 : Cond.fieldLink RX6 18 "Aquiferward" "again" "LAquiferward$World;" ∈ lw_g := lw_gi 333 (by decide +kernel) (by decide +kernel)
theorem fl_X6_21 : Cond.fieldLink RX6 21 "Aquiferward" "without" "[LAquiferward$World;" ∈ lw_g := lw_gi 334 (by decide +kernel) (by decide +kernel)
theorem fl_X6_28 : Cond.fieldLink RX6 28 "Aquiferward" "diary" "Ljava/util/ArrayList;" ∈ lw_g := lw_gi 335 (by decide +kernel) (by decide +kernel)
theorem im_X6_events : Cond.instanceMethod yX6_events ∈ lw_g := lw_gi 346 (by decide +kernel) (by decide +kernel)
theorem sl_X6_events : Cond.selects RX6 yX6_events yX6_events ∈ lw_g := lw_gi 347 (by decide +kernel) (by decide +kernel)
theorem co_X6_events : Cond.code yX6_events cX6_events 1 (some .int) ∈ lw_g := lw_gi 348 (by decide +kernel) (by decide +kernel)
theorem ml_X6_170 : Cond.methodLink RX6 170 yJ4_length_8abf5 ∈ lw_g := lw_gi 349 (by decide +kernel) (by decide +kernel)
theorem im_J4_length_8abf5 : Cond.instanceMethod yJ4_length_8abf5 ∈ lw_g := lw_gi 350 (by decide +kernel) (by decide +kernel)
theorem sl_J4_length_8abf5 : Cond.selects RJ4 yJ4_length_8abf5 yJ4_length_8abf5 ∈ lw_g := lw_gi 351 (by decide +kernel) (by decide +kernel)
theorem co_J4_length_8abf5 : Cond.code yJ4_length_8abf5 cJ4_length_8abf5 1 (some .int) ∈ lw_g := lw_gi 352 (by decide +kernel) (by decide +kernel)
theorem ml_J4_343 : Cond.methodLink RJ4 343 yJ5_length_8abf5 ∈ lw_g := lw_gi 353 (by decide +kernel) (by decide +kernel)
theorem im_X6_checksum : Cond.instanceMethod yX6_checksum ∈ lw_g := lw_gi 357 (by decide +kernel) (by decide +kernel)
theorem sl_X6_checksum : Cond.selects RX6 yX6_checksum yX6_checksum ∈ lw_g := lw_gi 358 (by decide +kernel) (by decide +kernel)
theorem co_X6_checksum : Cond.code yX6_checksum cX6_checksum 4 (some .long) ∈ lw_g := lw_gi 359 (by decide +kernel) (by decide +kernel)
theorem cn_X6_201 : Cond.constantLong RX6 201 31 ∈ lw_g := lw_gi 360 (by decide +kernel) (by decide +kernel)
theorem cn_X6_203 : Cond.constantLong RX6 203 7 ∈ lw_g := lw_gi 361 (by decide +kernel) (by decide +kernel)
theorem im_X6_dryShare : Cond.instanceMethod yX6_dryShare ∈ lw_g := lw_gi 363 (by decide +kernel) (by decide +kernel)
theorem sl_X6_dryShare : Cond.selects RX6 yX6_dryShare yX6_dryShare ∈ lw_g := lw_gi 364 (by decide +kernel) (by decide +kernel)
theorem co_X6_dryShare : Cond.code yX6_dryShare cX6_dryShare 3 (some .float) ∈ lw_g := lw_gi 365 (by decide +kernel) (by decide +kernel)
theorem im_X6_meanLevel : Cond.instanceMethod yX6_meanLevel ∈ lw_g := lw_gi 368 (by decide +kernel) (by decide +kernel)
theorem sl_X6_meanLevel : Cond.selects RX6 yX6_meanLevel yX6_meanLevel ∈ lw_g := lw_gi 369 (by decide +kernel) (by decide +kernel)
theorem co_X6_meanLevel : Cond.code yX6_meanLevel cX6_meanLevel 3 (some .double) ∈ lw_g := lw_gi 370 (by decide +kernel) (by decide +kernel)
theorem ml_X6_130 : Cond.methodLink RX6 130 yX2_height ∈ lw_g := lw_gi 371 (by decide +kernel) (by decide +kernel)
theorem im_X2_height : Cond.instanceMethod yX2_height ∈ lw_g := lw_gi 372 (by decide +kernel) (by decide +kernel)
theorem sl_X2_height : Cond.selects RX2 yX2_height yX2_height ∈ lw_g := lw_gi 373 (by decide +kernel) (by decide +kernel)
theorem co_X2_height : Cond.code yX2_height cX2_height 3 (some .int) ∈ lw_g := lw_gi 374 (by decide +kernel) (by decide +kernel)
theorem im_X6_isSound : Cond.instanceMethod yX6_isSound ∈ lw_g := lw_gi 377 (by decide +kernel) (by decide +kernel)
theorem sl_X6_isSound : Cond.selects RX6 yX6_isSound yX6_isSound ∈ lw_g := lw_gi 378 (by decide +kernel) (by decide +kernel)
theorem co_X6_isSound : Cond.code yX6_isSound cX6_isSound 1 (some .boolean) ∈ lw_g := lw_gi 379 (by decide +kernel) (by decide +kernel)
theorem ml_X6_162 : Cond.methodLink RX6 162 yX5_followDiary ∈ lw_g := lw_gi 380 (by decide +kernel) (by decide +kernel)
theorem im_X5_followDiary : Cond.instanceMethod yX5_followDiary ∈ lw_g := lw_gi 381 (by decide +kernel) (by decide +kernel)
theorem sl_X5_followDiary : Cond.selects RX5 yX5_followDiary yX5_followDiary ∈ lw_g := lw_gi 382 (by decide +kernel) (by decide +kernel)
theorem co_X5_followDiary : Cond.code yX5_followDiary cX5_followDiary 3 none ∈ lw_g := lw_gi 383 (by decide +kernel) (by decide +kernel)
theorem ml_X5_67 : Cond.methodLink RX5 67 yJx4a65c_size_8abf5 ∈ lw_g := lw_gi 384 (by decide +kernel) (by decide +kernel)
theorem im_Jx4a65c_size_8abf5 : Cond.instanceMethod yJx4a65c_size_8abf5 ∈ lw_g := lw_gi 385 (by decide +kernel) (by decide +kernel)
theorem sl_Jx4a65c_size_8abf5 : Cond.selects RJx4a65c yJx4a65c_size_8abf5 yJx4a65c_size_8abf5 ∈ lw_g := lw_gi 386 (by decide +kernel) (by decide +kernel)
theorem co_Jx4a65c_size_8abf5 : Cond.code yJx4a65c_size_8abf5 cJx4a65c_size_8abf5 1 (some .int) ∈ lw_g := lw_gi 387 (by decide +kernel) (by decide +kernel)
theorem ml_X5_73 : Cond.methodLink RX5 73 yJx4a65c_get_915e3 ∈ lw_g := lw_gi 388 (by decide +kernel) (by decide +kernel)
theorem im_Jx4a65c_get_915e3 : Cond.instanceMethod yJx4a65c_get_915e3 ∈ lw_g := lw_gi 389 (by decide +kernel) (by decide +kernel)
theorem sl_Jx4a65c_get_915e3 : Cond.selects RJx4a65c yJx4a65c_get_915e3 yJx4a65c_get_915e3 ∈ lw_g := lw_gi 390 (by decide +kernel) (by decide +kernel)
theorem co_Jx4a65c_get_915e3 : Cond.code yJx4a65c_get_915e3 cJx4a65c_get_915e3 2 (some (.object "java/lang/Object")) ∈ lw_g := lw_gi 391 (by decide +kernel) (by decide +kernel)
theorem ml_Jx4a65c_118 : Cond.methodLink RJx4a65c 118 yJ15_checkIndex_7cf53 ∈ lw_g := lw_gi 392 (by decide +kernel) (by decide +kernel)
theorem ml_Jx4a65c_123 : Cond.methodLink RJx4a65c 123 yJx4a65c_elementData_915e3 ∈ lw_g := lw_gi 398 (by decide +kernel) (by decide +kernel)
theorem im_Jx4a65c_elementData_915e3 : Cond.instanceMethod yJx4a65c_elementData_915e3 ∈ lw_g := lw_gi 399 (by decide +kernel) (by decide +kernel)
theorem sl_Jx4a65c_elementData_915e3 : Cond.selects RJx4a65c yJx4a65c_elementData_915e3 yJx4a65c_elementData_915e3 ∈ lw_g := lw_gi 400 (by decide +kernel) (by decide +kernel)
theorem co_Jx4a65c_elementData_915e3 : Cond.code yJx4a65c_elementData_915e3 cJx4a65c_elementData_915e3 2 (some (.object "java/lang/Object")) ∈ lw_g := lw_gi 401 (by decide +kernel) (by decide +kernel)
theorem cl_X5_77 : Cond.classLink RX5 77 RX1 ∈ lw_g := lw_gi 402 (by decide +kernel) (by decide +kernel)
theorem ml_X5_79 : Cond.methodLink RX5 79 yX5_follow ∈ lw_g := lw_gi 403 (by decide +kernel) (by decide +kernel)
theorem im_X5_follow : Cond.instanceMethod yX5_follow ∈ lw_g := lw_gi 404 (by decide +kernel) (by decide +kernel)
theorem sl_X5_follow : Cond.selects RX5 yX5_follow yX5_follow ∈ lw_g := lw_gi 405 (by decide +kernel) (by decide +kernel)
theorem co_X5_follow : Cond.code yX5_follow cX5_follow 2 none ∈ lw_g := lw_gi 406 (by decide +kernel) (by decide +kernel)
theorem ml_X5_98 : Cond.methodLink RX5 98 yX5_fillCell ∈ lw_g := lw_gi 407 (by decide +kernel) (by decide +kernel)
theorem im_X5_fillCell : Cond.instanceMethod yX5_fillCell ∈ lw_g := lw_gi 409 (by decide +kernel) (by decide +kernel)
theorem co_X5_fillCell : Cond.code yX5_fillCell cX5_fillCell 5 none ∈ lw_g := lw_gi 410 (by decide +kernel) (by decide +kernel)
theorem ml_X5_126 : Cond.methodLink RX5 126 yX4_add ∈ lw_g := lw_gi 411 (by decide +kernel) (by decide +kernel)
theorem im_X4_add : Cond.instanceMethod yX4_add ∈ lw_g := lw_gi 412 (by decide +kernel) (by decide +kernel)
theorem sl_X4_add : Cond.selects RX4 yX4_add yX4_add ∈ lw_g := lw_gi 413 (by decide +kernel) (by decide +kernel)
theorem co_X4_add : Cond.code yX4_add cX4_add 5 none ∈ lw_g := lw_gi 414 (by decide +kernel) (by decide +kernel)
theorem ml_X5_133 : Cond.methodLink RX5 133 yX5_followTransfer ∈ lw_g := lw_gi 415 (by decide +kernel) (by decide +kernel)
theorem im_X5_followTransfer : Cond.instanceMethod yX5_followTransfer ∈ lw_g := lw_gi 417 (by decide +kernel) (by decide +kernel)
theorem co_X5_followTransfer : Cond.code yX5_followTransfer cX5_followTransfer 4 none ∈ lw_g := lw_gi 418 (by decide +kernel) (by decide +kernel)
theorem ml_X5_140 : Cond.methodLink RX5 140 yX4_canGive ∈ lw_g := lw_gi 419 (by decide +kernel) (by decide +kernel)
theorem im_X4_canGive : Cond.instanceMethod yX4_canGive ∈ lw_g := lw_gi 420 (by decide +kernel) (by decide +kernel)
theorem sl_X4_canGive : Cond.selects RX4 yX4_canGive yX4_canGive ∈ lw_g := lw_gi 421 (by decide +kernel) (by decide +kernel)
theorem co_X4_canGive : Cond.code yX4_canGive cX4_canGive 4 (some .boolean) ∈ lw_g := lw_gi 422 (by decide +kernel) (by decide +kernel)
theorem ml_X5_144 : Cond.methodLink RX5 144 yX4_give ∈ lw_g := lw_gi 423 (by decide +kernel) (by decide +kernel)
theorem im_X4_give : Cond.instanceMethod yX4_give ∈ lw_g := lw_gi 424 (by decide +kernel) (by decide +kernel)
theorem sl_X4_give : Cond.selects RX4 yX4_give yX4_give ∈ lw_g := lw_gi 425 (by decide +kernel) (by decide +kernel)
theorem co_X4_give : Cond.code yX4_give cX4_give 4 none ∈ lw_g := lw_gi 426 (by decide +kernel) (by decide +kernel)
theorem ml_X5_136 : Cond.methodLink RX5 136 yX5_letMonthsPass ∈ lw_g := lw_gi 427 (by decide +kernel) (by decide +kernel)
theorem im_X5_letMonthsPass : Cond.instanceMethod yX5_letMonthsPass ∈ lw_g := lw_gi 429 (by decide +kernel) (by decide +kernel)
theorem co_X5_letMonthsPass : Cond.code yX5_letMonthsPass cX5_letMonthsPass 3 none ∈ lw_g := lw_gi 430 (by decide +kernel) (by decide +kernel)
theorem ml_X5_163 : Cond.methodLink RX5 163 yX5_letRainFall ∈ lw_g := lw_gi 431 (by decide +kernel) (by decide +kernel)
theorem im_X5_letRainFall : Cond.instanceMethod yX5_letRainFall ∈ lw_g := lw_gi 433 (by decide +kernel) (by decide +kernel)
theorem co_X5_letRainFall : Cond.code yX5_letRainFall cX5_letRainFall 2 none ∈ lw_g := lw_gi 434 (by decide +kernel) (by decide +kernel)
theorem ml_X5_166 : Cond.methodLink RX5 166 yX5_pumpWells ∈ lw_g := lw_gi 435 (by decide +kernel) (by decide +kernel)
theorem im_X5_pumpWells : Cond.instanceMethod yX5_pumpWells ∈ lw_g := lw_gi 437 (by decide +kernel) (by decide +kernel)
theorem co_X5_pumpWells : Cond.code yX5_pumpWells cX5_pumpWells 2 none ∈ lw_g := lw_gi 438 (by decide +kernel) (by decide +kernel)
theorem ml_X5_198 : Cond.methodLink RX5 198 yX5_pumpWell ∈ lw_g := lw_gi 439 (by decide +kernel) (by decide +kernel)
theorem im_X5_pumpWell : Cond.instanceMethod yX5_pumpWell ∈ lw_g := lw_gi 441 (by decide +kernel) (by decide +kernel)
theorem co_X5_pumpWell : Cond.code yX5_pumpWell cX5_pumpWell 6 none ∈ lw_g := lw_gi 442 (by decide +kernel) (by decide +kernel)
theorem ml_X5_203 : Cond.methodLink RX5 203 yX4_wanted ∈ lw_g := lw_gi 443 (by decide +kernel) (by decide +kernel)
theorem im_X4_wanted : Cond.instanceMethod yX4_wanted ∈ lw_g := lw_gi 444 (by decide +kernel) (by decide +kernel)
theorem sl_X4_wanted : Cond.selects RX4 yX4_wanted yX4_wanted ∈ lw_g := lw_gi 445 (by decide +kernel) (by decide +kernel)
theorem co_X4_wanted : Cond.code yX4_wanted cX4_wanted 3 (some .int) ∈ lw_g := lw_gi 446 (by decide +kernel) (by decide +kernel)
theorem ml_X4_48 : Cond.methodLink RX4 48 Lib.Math.min.name ∈ lw_g := lw_gi 447 (by decide +kernel) (by decide +kernel)
theorem st_min : Cond.static Lib.Math.min.name ∈ lw_g := lw_gi 448 (by decide +kernel) (by decide +kernel)
theorem co_min : Cond.code Lib.Math.min.name Lib.Math.min.code 2 (some .int) ∈ lw_g := lw_gi 449 (by decide +kernel) (by decide +kernel)
theorem ml_X4_54 : Cond.methodLink RX4 54 Lib.Math.max.name ∈ lw_g := lw_gi 450 (by decide +kernel) (by decide +kernel)
theorem st_max : Cond.static Lib.Math.max.name ∈ lw_g := lw_gi 451 (by decide +kernel) (by decide +kernel)
theorem co_max : Cond.code Lib.Math.max.name Lib.Math.max.code 2 (some .int) ∈ lw_g := lw_gi 452 (by decide +kernel) (by decide +kernel)
theorem ml_X5_207 : Cond.methodLink RX5 207 Lib.Math.min.name ∈ lw_g := lw_gi 453 (by decide +kernel) (by decide +kernel)
theorem ml_X5_213 : Cond.methodLink RX5 213 yX2_takeOut ∈ lw_g := lw_gi 454 (by decide +kernel) (by decide +kernel)
theorem im_X2_takeOut : Cond.instanceMethod yX2_takeOut ∈ lw_g := lw_gi 455 (by decide +kernel) (by decide +kernel)
theorem sl_X2_takeOut : Cond.selects RX2 yX2_takeOut yX2_takeOut ∈ lw_g := lw_gi 456 (by decide +kernel) (by decide +kernel)
theorem co_X2_takeOut : Cond.code yX2_takeOut cX2_takeOut 5 (some .int) ∈ lw_g := lw_gi 457 (by decide +kernel) (by decide +kernel)
theorem ml_X5_222 : Cond.methodLink RX5 222 yX5_note ∈ lw_g := lw_gi 458 (by decide +kernel) (by decide +kernel)
theorem im_X5_note : Cond.instanceMethod yX5_note ∈ lw_g := lw_gi 460 (by decide +kernel) (by decide +kernel)
theorem co_X5_note : Cond.code yX5_note cX5_note 2 none ∈ lw_g := lw_gi 461 (by decide +kernel) (by decide +kernel)
theorem ml_X5_184 : Cond.methodLink RX5 184 yJ4_append_cf468 ∈ lw_g := lw_gi 462 (by decide +kernel) (by decide +kernel)
theorem im_J4_append_cf468 : Cond.instanceMethod yJ4_append_cf468 ∈ lw_g := lw_gi 463 (by decide +kernel) (by decide +kernel)
theorem sl_J4_append_cf468 : Cond.selects RJ4 yJ4_append_cf468 yJ4_append_cf468 ∈ lw_g := lw_gi 464 (by decide +kernel) (by decide +kernel)
theorem co_J4_append_cf468 : Cond.code yJ4_append_cf468 cJ4_append_cf468 2 (some (.object "java/lang/StringBuilder")) ∈ lw_g := lw_gi 465 (by decide +kernel) (by decide +kernel)
theorem ml_J4_50 : Cond.methodLink RJ4 50 yJ5_append_3fe6f ∈ lw_g := lw_gi 466 (by decide +kernel) (by decide +kernel)
theorem nt_arraycopy : Cond.native arraycopyName ∈ lw_g := lw_gi 499 (by decide +kernel) (by decide +kernel)
theorem sm_J5_isLatin1 : Cond.sameMethod RJ5 RJ5 "isLatin1" "()Z" ∈ lw_g := lw_gi 502 (by decide +kernel) (by decide +kernel)
theorem sl_J4_J5_isLatin1_aae02 : Cond.selects RJ4 yJ5_isLatin1_aae02 yJ5_isLatin1_aae02 ∈ lw_g := lw_gi 503 (by decide +kernel) (by decide +kernel)
theorem ml_X5_226 : Cond.methodLink RX5 226 yX4_shutYounger ∈ lw_g := lw_gi 551 (by decide +kernel) (by decide +kernel)
theorem im_X4_shutYounger : Cond.instanceMethod yX4_shutYounger ∈ lw_g := lw_gi 552 (by decide +kernel) (by decide +kernel)
theorem sl_X4_shutYounger : Cond.selects RX4 yX4_shutYounger yX4_shutYounger ∈ lw_g := lw_gi 553 (by decide +kernel) (by decide +kernel)
theorem co_X4_shutYounger : Cond.code yX4_shutYounger cX4_shutYounger 6 none ∈ lw_g := lw_gi 554 (by decide +kernel) (by decide +kernel)
theorem ml_X4_57 : Cond.methodLink RX4 57 Lib.Math.abs.name ∈ lw_g := lw_gi 555 (by decide +kernel) (by decide +kernel)
theorem st_abs : Cond.static Lib.Math.abs.name ∈ lw_g := lw_gi 556 (by decide +kernel) (by decide +kernel)
theorem co_abs : Cond.code Lib.Math.abs.name Lib.Math.abs.code 1 (some .int) ∈ lw_g := lw_gi 557 (by decide +kernel) (by decide +kernel)
theorem ml_X5_169 : Cond.methodLink RX5 169 yX5_letWaterFlow ∈ lw_g := lw_gi 558 (by decide +kernel) (by decide +kernel)
theorem im_X5_letWaterFlow : Cond.instanceMethod yX5_letWaterFlow ∈ lw_g := lw_gi 560 (by decide +kernel) (by decide +kernel)
theorem co_X5_letWaterFlow : Cond.code yX5_letWaterFlow cX5_letWaterFlow 4 none ∈ lw_g := lw_gi 561 (by decide +kernel) (by decide +kernel)
theorem ml_X5_229 : Cond.methodLink RX5 229 yX2_height ∈ lw_g := lw_gi 562 (by decide +kernel) (by decide +kernel)
theorem ml_X5_232 : Cond.methodLink RX5 232 yX5_flow ∈ lw_g := lw_gi 563 (by decide +kernel) (by decide +kernel)
theorem im_X5_flow : Cond.instanceMethod yX5_flow ∈ lw_g := lw_gi 565 (by decide +kernel) (by decide +kernel)
theorem co_X5_flow : Cond.code yX5_flow cX5_flow 6 none ∈ lw_g := lw_gi 566 (by decide +kernel) (by decide +kernel)
theorem ml_X5_172 : Cond.methodLink RX5 172 yX5_letRiverRun ∈ lw_g := lw_gi 567 (by decide +kernel) (by decide +kernel)
theorem im_X5_letRiverRun : Cond.instanceMethod yX5_letRiverRun ∈ lw_g := lw_gi 569 (by decide +kernel) (by decide +kernel)
theorem co_X5_letRiverRun : Cond.code yX5_letRiverRun cX5_letRiverRun 3 none ∈ lw_g := lw_gi 570 (by decide +kernel) (by decide +kernel)
theorem ml_X5_235 : Cond.methodLink RX5 235 yX5_runThroughBed ∈ lw_g := lw_gi 571 (by decide +kernel) (by decide +kernel)
theorem im_X5_runThroughBed : Cond.instanceMethod yX5_runThroughBed ∈ lw_g := lw_gi 573 (by decide +kernel) (by decide +kernel)
theorem co_X5_runThroughBed : Cond.code yX5_runThroughBed cX5_runThroughBed 5 (some .int) ∈ lw_g := lw_gi 574 (by decide +kernel) (by decide +kernel)
theorem ml_X5_175 : Cond.methodLink RX5 175 yX5_letSpringsRun ∈ lw_g := lw_gi 575 (by decide +kernel) (by decide +kernel)
theorem im_X5_letSpringsRun : Cond.instanceMethod yX5_letSpringsRun ∈ lw_g := lw_gi 577 (by decide +kernel) (by decide +kernel)
theorem co_X5_letSpringsRun : Cond.code yX5_letSpringsRun cX5_letSpringsRun 2 none ∈ lw_g := lw_gi 578 (by decide +kernel) (by decide +kernel)
theorem ml_X5_238 : Cond.methodLink RX5 238 yX5_letSpringRun ∈ lw_g := lw_gi 579 (by decide +kernel) (by decide +kernel)
theorem im_X5_letSpringRun : Cond.instanceMethod yX5_letSpringRun ∈ lw_g := lw_gi 581 (by decide +kernel) (by decide +kernel)
theorem co_X5_letSpringRun : Cond.code yX5_letSpringRun cX5_letSpringRun 4 none ∈ lw_g := lw_gi 582 (by decide +kernel) (by decide +kernel)
theorem ml_X5_241 : Cond.methodLink RX5 241 Lib.Math.max.name ∈ lw_g := lw_gi 583 (by decide +kernel) (by decide +kernel)
theorem ml_X5_178 : Cond.methodLink RX5 178 yX5_meetSea ∈ lw_g := lw_gi 584 (by decide +kernel) (by decide +kernel)
theorem im_X5_meetSea : Cond.instanceMethod yX5_meetSea ∈ lw_g := lw_gi 586 (by decide +kernel) (by decide +kernel)
theorem co_X5_meetSea : Cond.code yX5_meetSea cX5_meetSea 4 none ∈ lw_g := lw_gi 587 (by decide +kernel) (by decide +kernel)
theorem ml_X5_181 : Cond.methodLink RX5 181 yX5_endMonth ∈ lw_g := lw_gi 588 (by decide +kernel) (by decide +kernel)
theorem im_X5_endMonth : Cond.instanceMethod yX5_endMonth ∈ lw_g := lw_gi 590 (by decide +kernel) (by decide +kernel)
theorem co_X5_endMonth : Cond.code yX5_endMonth cX5_endMonth 1 none ∈ lw_g := lw_gi 591 (by decide +kernel) (by decide +kernel)
theorem ml_X5_247 : Cond.methodLink RX5 247 yX5_endYear ∈ lw_g := lw_gi 592 (by decide +kernel) (by decide +kernel)
theorem im_X5_endYear : Cond.instanceMethod yX5_endYear ∈ lw_g := lw_gi 594 (by decide +kernel) (by decide +kernel)
theorem co_X5_endYear : Cond.code yX5_endYear cX5_endYear 2 none ∈ lw_g := lw_gi 595 (by decide +kernel) (by decide +kernel)
theorem ml_X5_250 : Cond.methodLink RX5 250 yX4_forfeits ∈ lw_g := lw_gi 596 (by decide +kernel) (by decide +kernel)
theorem im_X4_forfeits : Cond.instanceMethod yX4_forfeits ∈ lw_g := lw_gi 597 (by decide +kernel) (by decide +kernel)
theorem sl_X4_forfeits : Cond.selects RX4 yX4_forfeits yX4_forfeits ∈ lw_g := lw_gi 598 (by decide +kernel) (by decide +kernel)
theorem co_X4_forfeits : Cond.code yX4_forfeits cX4_forfeits 3 (some .boolean) ∈ lw_g := lw_gi 599 (by decide +kernel) (by decide +kernel)
theorem ml_X5_254 : Cond.methodLink RX5 254 yX4_startYear ∈ lw_g := lw_gi 600 (by decide +kernel) (by decide +kernel)
theorem im_X4_startYear : Cond.instanceMethod yX4_startYear ∈ lw_g := lw_gi 601 (by decide +kernel) (by decide +kernel)
theorem sl_X4_startYear : Cond.selects RX4 yX4_startYear yX4_startYear ∈ lw_g := lw_gi 602 (by decide +kernel) (by decide +kernel)
theorem co_X4_startYear : Cond.code yX4_startYear cX4_startYear 2 none ∈ lw_g := lw_gi 603 (by decide +kernel) (by decide +kernel)
theorem ml_X6_208 : Cond.methodLink RX6 208 yX2_waterInAll ∈ lw_g := lw_gi 604 (by decide +kernel) (by decide +kernel)
theorem im_X2_waterInAll : Cond.instanceMethod yX2_waterInAll ∈ lw_g := lw_gi 605 (by decide +kernel) (by decide +kernel)
theorem sl_X2_waterInAll : Cond.selects RX2 yX2_waterInAll yX2_waterInAll ∈ lw_g := lw_gi 606 (by decide +kernel) (by decide +kernel)
theorem co_X2_waterInAll : Cond.code yX2_waterInAll cX2_waterInAll 4 (some .long) ∈ lw_g := lw_gi 607 (by decide +kernel) (by decide +kernel)
theorem ml_X6_212 : Cond.methodLink RX6 212 yX0_balanceWith ∈ lw_g := lw_gi 608 (by decide +kernel) (by decide +kernel)
theorem im_X0_balanceWith : Cond.instanceMethod yX0_balanceWith ∈ lw_g := lw_gi 609 (by decide +kernel) (by decide +kernel)
theorem sl_X0_balanceWith : Cond.selects RX0 yX0_balanceWith yX0_balanceWith ∈ lw_g := lw_gi 610 (by decide +kernel) (by decide +kernel)
theorem co_X0_balanceWith : Cond.code yX0_balanceWith cX0_balanceWith 7 (some .boolean) ∈ lw_g := lw_gi 611 (by decide +kernel) (by decide +kernel)
theorem ml_X6_216 : Cond.methodLink RX6 216 yX2_sameWater ∈ lw_g := lw_gi 612 (by decide +kernel) (by decide +kernel)
theorem im_X2_sameWater : Cond.instanceMethod yX2_sameWater ∈ lw_g := lw_gi 613 (by decide +kernel) (by decide +kernel)
theorem sl_X2_sameWater : Cond.selects RX2 yX2_sameWater yX2_sameWater ∈ lw_g := lw_gi 614 (by decide +kernel) (by decide +kernel)
theorem co_X2_sameWater : Cond.code yX2_sameWater cX2_sameWater 3 (some .boolean) ∈ lw_g := lw_gi 615 (by decide +kernel) (by decide +kernel)
theorem ml_X6_220 : Cond.methodLink RX6 220 yX4_keptToAmounts ∈ lw_g := lw_gi 616 (by decide +kernel) (by decide +kernel)
theorem im_X4_keptToAmounts : Cond.instanceMethod yX4_keptToAmounts ∈ lw_g := lw_gi 617 (by decide +kernel) (by decide +kernel)
theorem sl_X4_keptToAmounts : Cond.selects RX4 yX4_keptToAmounts yX4_keptToAmounts ∈ lw_g := lw_gi 618 (by decide +kernel) (by decide +kernel)
theorem co_X4_keptToAmounts : Cond.code yX4_keptToAmounts cX4_keptToAmounts 2 (some .boolean) ∈ lw_g := lw_gi 619 (by decide +kernel) (by decide +kernel)
theorem im_X6_setCell : Cond.instanceMethod yX6_setCell ∈ lw_g := lw_gi 704 (by decide +kernel) (by decide +kernel)
theorem sl_X6_setCell : Cond.selects RX6 yX6_setCell yX6_setCell ∈ lw_g := lw_gi 705 (by decide +kernel) (by decide +kernel)
theorem co_X6_setCell : Cond.code yX6_setCell cX6_setCell 6 (some .int) ∈ lw_g := lw_gi 706 (by decide +kernel) (by decide +kernel)
theorem ml_X6_32 : Cond.methodLink RX6 32 yX6_requireIndex ∈ lw_g := lw_gi 707 (by decide +kernel) (by decide +kernel)
theorem st_X6_requireIndex : Cond.static yX6_requireIndex ∈ lw_g := lw_gi 708 (by decide +kernel) (by decide +kernel)
theorem co_X6_requireIndex : Cond.code yX6_requireIndex cX6_requireIndex 2 none ∈ lw_g := lw_gi 709 (by decide +kernel) (by decide +kernel)
theorem cl_X6_224 : Cond.classLink RX6 224 "java/lang/IndexOutOfBoundsException" ∈ lw_g := lw_gi 710 (by decide +kernel) (by decide +kernel)
theorem ml_X6_36 : Cond.methodLink RX6 36 yX6_requireRange ∈ lw_g := lw_gi 723 (by decide +kernel) (by decide +kernel)
theorem st_X6_requireRange : Cond.static yX6_requireRange ∈ lw_g := lw_gi 724 (by decide +kernel) (by decide +kernel)
theorem co_X6_requireRange : Cond.code yX6_requireRange cX6_requireRange 3 none ∈ lw_g := lw_gi 725 (by decide +kernel) (by decide +kernel)
theorem cl_X6_189 : Cond.classLink RX6 189 "java/lang/IllegalArgumentException" ∈ lw_g := lw_gi 726 (by decide +kernel) (by decide +kernel)
theorem cl_X6_50 : Cond.classLink RX6 50 RX1 ∈ lw_g := lw_gi 742 (by decide +kernel) (by decide +kernel)
theorem ib_X1 : Cond.instantiable RX1 5 ∈ lw_g := lw_gi 743 (by decide +kernel) (by decide +kernel)
theorem ml_X6_52 : Cond.methodLink RX6 52 yX1_init ∈ lw_g := lw_gi 744 (by decide +kernel) (by decide +kernel)
theorem im_X1_init : Cond.instanceMethod yX1_init ∈ lw_g := lw_gi 745 (by decide +kernel) (by decide +kernel)
theorem co_X1_init : Cond.code yX1_init cX1_init 6 none ∈ lw_g := lw_gi 746 (by decide +kernel) (by decide +kernel)
theorem ml_X1_1 : Cond.methodLink RX1 1 objectInit ∈ lw_g := lw_gi 747 (by decide +kernel) (by decide +kernel)
theorem fl_X1_7 : Cond.fieldLink RX1 7 "Aquiferward$Call" "kind" "I" ∈ lw_g := lw_gi 748 (by decide +kernel) (by decide +kernel)
theorem fl_X5_83 : Cond.fieldLink RX5 83 "Aquiferward$Call" "kind" "I" ∈ lw_g := lw_gi 749 (by decide +kernel) (by decide +kernel)
theorem fl_X1_13 : Cond.fieldLink RX1 13 "Aquiferward$Call" "first" "I" ∈ lw_g := lw_gi 750 (by decide +kernel) (by decide +kernel)
theorem fl_X5_86 : Cond.fieldLink RX5 86 "Aquiferward$Call" "first" "I" ∈ lw_g := lw_gi 751 (by decide +kernel) (by decide +kernel)
theorem fl_X1_16 : Cond.fieldLink RX1 16 "Aquiferward$Call" "second" "I" ∈ lw_g := lw_gi 752 (by decide +kernel) (by decide +kernel)
theorem fl_X5_89 : Cond.fieldLink RX5 89 "Aquiferward$Call" "second" "I" ∈ lw_g := lw_gi 753 (by decide +kernel) (by decide +kernel)
theorem fl_X1_19 : Cond.fieldLink RX1 19 "Aquiferward$Call" "third" "I" ∈ lw_g := lw_gi 754 (by decide +kernel) (by decide +kernel)
theorem fl_X5_92 : Cond.fieldLink RX5 92 "Aquiferward$Call" "third" "I" ∈ lw_g := lw_gi 755 (by decide +kernel) (by decide +kernel)
theorem fl_X1_22 : Cond.fieldLink RX1 22 "Aquiferward$Call" "fourth" "I" ∈ lw_g := lw_gi 756 (by decide +kernel) (by decide +kernel)
theorem fl_X5_95 : Cond.fieldLink RX5 95 "Aquiferward$Call" "fourth" "I" ∈ lw_g := lw_gi 757 (by decide +kernel) (by decide +kernel)
theorem ml_X6_55 : Cond.methodLink RX6 55 yX6_carryOut ∈ lw_g := lw_gi 769 (by decide +kernel) (by decide +kernel)
theorem im_X6_carryOut : Cond.instanceMethod yX6_carryOut ∈ lw_g := lw_gi 771 (by decide +kernel) (by decide +kernel)
theorem co_X6_carryOut : Cond.code yX6_carryOut cX6_carryOut 2 none ∈ lw_g := lw_gi 772 (by decide +kernel) (by decide +kernel)
theorem ml_X6_229 : Cond.methodLink RX6 229 yJx4a65c_size_8abf5 ∈ lw_g := lw_gi 773 (by decide +kernel) (by decide +kernel)
theorem ml_X6_232 : Cond.methodLink RX6 232 yJx4a65c_add_9ea2d ∈ lw_g := lw_gi 774 (by decide +kernel) (by decide +kernel)
theorem im_Jx4a65c_add_9ea2d : Cond.instanceMethod yJx4a65c_add_9ea2d ∈ lw_g := lw_gi 775 (by decide +kernel) (by decide +kernel)
theorem sl_Jx4a65c_add_9ea2d : Cond.selects RJx4a65c yJx4a65c_add_9ea2d yJx4a65c_add_9ea2d ∈ lw_g := lw_gi 776 (by decide +kernel) (by decide +kernel)
theorem co_Jx4a65c_add_9ea2d : Cond.code yJx4a65c_add_9ea2d cJx4a65c_add_9ea2d 2 (some .boolean) ∈ lw_g := lw_gi 777 (by decide +kernel) (by decide +kernel)
theorem ml_Jx4a65c_131 : Cond.methodLink RJx4a65c 131 yJx4a65c_add_72be8 ∈ lw_g := lw_gi 778 (by decide +kernel) (by decide +kernel)
theorem im_Jx4a65c_add_72be8 : Cond.instanceMethod yJx4a65c_add_72be8 ∈ lw_g := lw_gi 780 (by decide +kernel) (by decide +kernel)
theorem co_Jx4a65c_add_72be8 : Cond.code yJx4a65c_add_72be8 cJx4a65c_add_72be8 4 none ∈ lw_g := lw_gi 781 (by decide +kernel) (by decide +kernel)
theorem ml_Jx4a65c_129 : Cond.methodLink RJx4a65c 129 yJx4a65c_grow_d5877 ∈ lw_g := lw_gi 782 (by decide +kernel) (by decide +kernel)
theorem im_Jx4a65c_grow_d5877 : Cond.instanceMethod yJx4a65c_grow_d5877 ∈ lw_g := lw_gi 784 (by decide +kernel) (by decide +kernel)
theorem co_Jx4a65c_grow_d5877 : Cond.code yJx4a65c_grow_d5877 cJx4a65c_grow_d5877 1 (some (.array (.object "java/lang/Object"))) ∈ lw_g := lw_gi 785 (by decide +kernel) (by decide +kernel)
theorem ml_Jx4a65c_69 : Cond.methodLink RJx4a65c 69 yJx4a65c_grow_92f84 ∈ lw_g := lw_gi 786 (by decide +kernel) (by decide +kernel)
theorem im_Jx4a65c_grow_92f84 : Cond.instanceMethod yJx4a65c_grow_92f84 ∈ lw_g := lw_gi 788 (by decide +kernel) (by decide +kernel)
theorem co_Jx4a65c_grow_92f84 : Cond.code yJx4a65c_grow_92f84 cJx4a65c_grow_92f84 4 (some (.array (.object "java/lang/Object"))) ∈ lw_g := lw_gi 789 (by decide +kernel) (by decide +kernel)
theorem ml_Jx4a65c_73 : Cond.methodLink RJx4a65c 73 yJ8_newLength_cabcc ∈ lw_g := lw_gi 790 (by decide +kernel) (by decide +kernel)
theorem ml_Jx4a65c_66 : Cond.methodLink RJx4a65c 66 yJ7_copyOf_1904c ∈ lw_g := lw_gi 791 (by decide +kernel) (by decide +kernel)
theorem ml_Jx4a65c_79 : Cond.methodLink RJx4a65c 79 Lib.Math.max.name ∈ lw_g := lw_gi 826 (by decide +kernel) (by decide +kernel)
theorem cl_Jx4a65c_7 : Cond.classLink RJx4a65c 7 "java/lang/Object" ∈ lw_g := lw_gi 827 (by decide +kernel) (by decide +kernel)
theorem ml_X6_236 : Cond.methodLink RX6 236 yX5_follow ∈ lw_g := lw_gi 828 (by decide +kernel) (by decide +kernel)
theorem im_X6_setGround : Cond.instanceMethod yX6_setGround ∈ lw_g := lw_gi 833 (by decide +kernel) (by decide +kernel)
theorem sl_X6_setGround : Cond.selects RX6 yX6_setGround yX6_setGround ∈ lw_g := lw_gi 834 (by decide +kernel) (by decide +kernel)
theorem co_X6_setGround : Cond.code yX6_setGround cX6_setGround 4 (some .int) ∈ lw_g := lw_gi 835 (by decide +kernel) (by decide +kernel)
theorem im_X6_setConductance : Cond.instanceMethod yX6_setConductance ∈ lw_g := lw_gi 840 (by decide +kernel) (by decide +kernel)
theorem sl_X6_setConductance : Cond.selects RX6 yX6_setConductance yX6_setConductance ∈ lw_g := lw_gi 841 (by decide +kernel) (by decide +kernel)
theorem co_X6_setConductance : Cond.code yX6_setConductance cX6_setConductance 4 (some .int) ∈ lw_g := lw_gi 842 (by decide +kernel) (by decide +kernel)
theorem im_X6_setLeakage : Cond.instanceMethod yX6_setLeakage ∈ lw_g := lw_gi 847 (by decide +kernel) (by decide +kernel)
theorem sl_X6_setLeakage : Cond.selects RX6 yX6_setLeakage yX6_setLeakage ∈ lw_g := lw_gi 848 (by decide +kernel) (by decide +kernel)
theorem co_X6_setLeakage : Cond.code yX6_setLeakage cX6_setLeakage 4 (some .int) ∈ lw_g := lw_gi 849 (by decide +kernel) (by decide +kernel)
theorem im_X6_setRain : Cond.instanceMethod yX6_setRain ∈ lw_g := lw_gi 854 (by decide +kernel) (by decide +kernel)
theorem sl_X6_setRain : Cond.selects RX6 yX6_setRain yX6_setRain ∈ lw_g := lw_gi 855 (by decide +kernel) (by decide +kernel)
theorem co_X6_setRain : Cond.code yX6_setRain cX6_setRain 4 (some .int) ∈ lw_g := lw_gi 856 (by decide +kernel) (by decide +kernel)
theorem im_X6_setBed : Cond.instanceMethod yX6_setBed ∈ lw_g := lw_gi 861 (by decide +kernel) (by decide +kernel)
theorem sl_X6_setBed : Cond.selects RX6 yX6_setBed yX6_setBed ∈ lw_g := lw_gi 862 (by decide +kernel) (by decide +kernel)
theorem co_X6_setBed : Cond.code yX6_setBed cX6_setBed 5 (some .int) ∈ lw_g := lw_gi 863 (by decide +kernel) (by decide +kernel)
theorem im_X6_setRiver : Cond.instanceMethod yX6_setRiver ∈ lw_g := lw_gi 868 (by decide +kernel) (by decide +kernel)
theorem sl_X6_setRiver : Cond.selects RX6 yX6_setRiver yX6_setRiver ∈ lw_g := lw_gi 869 (by decide +kernel) (by decide +kernel)
theorem co_X6_setRiver : Cond.code yX6_setRiver cX6_setRiver 3 (some .int) ∈ lw_g := lw_gi 870 (by decide +kernel) (by decide +kernel)
theorem im_X6_setSea : Cond.instanceMethod yX6_setSea ∈ lw_g := lw_gi 875 (by decide +kernel) (by decide +kernel)
theorem sl_X6_setSea : Cond.selects RX6 yX6_setSea yX6_setSea ∈ lw_g := lw_gi 876 (by decide +kernel) (by decide +kernel)
theorem co_X6_setSea : Cond.code yX6_setSea cX6_setSea 3 (some .int) ∈ lw_g := lw_gi 877 (by decide +kernel) (by decide +kernel)
theorem im_X6_addWell : Cond.instanceMethod yX6_addWell ∈ lw_g := lw_gi 883 (by decide +kernel) (by decide +kernel)
theorem sl_X6_addWell : Cond.selects RX6 yX6_addWell yX6_addWell ∈ lw_g := lw_gi 884 (by decide +kernel) (by decide +kernel)
theorem co_X6_addWell : Cond.code yX6_addWell cX6_addWell 5 (some .int) ∈ lw_g := lw_gi 885 (by decide +kernel) (by decide +kernel)
theorem cl_X6_96 : Cond.classLink RX6 96 "java/lang/IllegalStateException" ∈ lw_g := lw_gi 886 (by decide +kernel) (by decide +kernel)
theorem im_X6_setWish : Cond.instanceMethod yX6_setWish ∈ lw_g := lw_gi 906 (by decide +kernel) (by decide +kernel)
theorem sl_X6_setWish : Cond.selects RX6 yX6_setWish yX6_setWish ∈ lw_g := lw_gi 907 (by decide +kernel) (by decide +kernel)
theorem co_X6_setWish : Cond.code yX6_setWish cX6_setWish 4 (some .int) ∈ lw_g := lw_gi 908 (by decide +kernel) (by decide +kernel)
theorem ml_X6_103 : Cond.methodLink RX6 103 yX6_requireWell ∈ lw_g := lw_gi 909 (by decide +kernel) (by decide +kernel)
theorem im_X6_requireWell : Cond.instanceMethod yX6_requireWell ∈ lw_g := lw_gi 911 (by decide +kernel) (by decide +kernel)
theorem co_X6_requireWell : Cond.code yX6_requireWell cX6_requireWell 2 none ∈ lw_g := lw_gi 912 (by decide +kernel) (by decide +kernel)
theorem im_X6_transfer : Cond.instanceMethod yX6_transfer ∈ lw_g := lw_gi 918 (by decide +kernel) (by decide +kernel)
theorem sl_X6_transfer : Cond.selects RX6 yX6_transfer yX6_transfer ∈ lw_g := lw_gi 919 (by decide +kernel) (by decide +kernel)
theorem co_X6_transfer : Cond.code yX6_transfer cX6_transfer 4 (some .int) ∈ lw_g := lw_gi 920 (by decide +kernel) (by decide +kernel)
theorem ml_X6_110 : Cond.methodLink RX6 110 yX4_canGive ∈ lw_g := lw_gi 921 (by decide +kernel) (by decide +kernel)
theorem cl_X6_114 : Cond.classLink RX6 114 "java/lang/UnsupportedOperationException" ∈ lw_g := lw_gi 922 (by decide +kernel) (by decide +kernel)
theorem im_X6_pass : Cond.instanceMethod yX6_pass ∈ lw_g := lw_gi 956 (by decide +kernel) (by decide +kernel)
theorem sl_X6_pass : Cond.selects RX6 yX6_pass yX6_pass ∈ lw_g := lw_gi 957 (by decide +kernel) (by decide +kernel)
theorem co_X6_pass : Cond.code yX6_pass cX6_pass 2 (some .int) ∈ lw_g := lw_gi 958 (by decide +kernel) (by decide +kernel)
theorem cl_X6_125 : Cond.classLink RX6 125 "java/lang/ArithmeticException" ∈ lw_g := lw_gi 959 (by decide +kernel) (by decide +kernel)
theorem im_X6_level : Cond.instanceMethod yX6_level ∈ lw_g := lw_gi 966 (by decide +kernel) (by decide +kernel)
theorem sl_X6_level : Cond.selects RX6 yX6_level yX6_level ∈ lw_g := lw_gi 967 (by decide +kernel) (by decide +kernel)
theorem co_X6_level : Cond.code yX6_level cX6_level 2 (some .int) ∈ lw_g := lw_gi 968 (by decide +kernel) (by decide +kernel)
theorem im_X6_water : Cond.instanceMethod yX6_water ∈ lw_g := lw_gi 973 (by decide +kernel) (by decide +kernel)
theorem sl_X6_water : Cond.selects RX6 yX6_water yX6_water ∈ lw_g := lw_gi 974 (by decide +kernel) (by decide +kernel)
theorem co_X6_water : Cond.code yX6_water cX6_water 2 (some .int) ∈ lw_g := lw_gi 975 (by decide +kernel) (by decide +kernel)
theorem im_X6_salt : Cond.instanceMethod yX6_salt ∈ lw_g := lw_gi 980 (by decide +kernel) (by decide +kernel)
theorem sl_X6_salt : Cond.selects RX6 yX6_salt yX6_salt ∈ lw_g := lw_gi 981 (by decide +kernel) (by decide +kernel)
theorem co_X6_salt : Cond.code yX6_salt cX6_salt 2 (some .int) ∈ lw_g := lw_gi 982 (by decide +kernel) (by decide +kernel)
theorem im_X6_amount : Cond.instanceMethod yX6_amount ∈ lw_g := lw_gi 987 (by decide +kernel) (by decide +kernel)
theorem sl_X6_amount : Cond.selects RX6 yX6_amount yX6_amount ∈ lw_g := lw_gi 988 (by decide +kernel) (by decide +kernel)
theorem co_X6_amount : Cond.code yX6_amount cX6_amount 2 (some .int) ∈ lw_g := lw_gi 989 (by decide +kernel) (by decide +kernel)
theorem im_X6_yearly : Cond.instanceMethod yX6_yearly ∈ lw_g := lw_gi 994 (by decide +kernel) (by decide +kernel)
theorem sl_X6_yearly : Cond.selects RX6 yX6_yearly yX6_yearly ∈ lw_g := lw_gi 995 (by decide +kernel) (by decide +kernel)
theorem co_X6_yearly : Cond.code yX6_yearly cX6_yearly 2 (some .int) ∈ lw_g := lw_gi 996 (by decide +kernel) (by decide +kernel)
theorem im_X6_pumped : Cond.instanceMethod yX6_pumped ∈ lw_g := lw_gi 1001 (by decide +kernel) (by decide +kernel)
theorem sl_X6_pumped : Cond.selects RX6 yX6_pumped yX6_pumped ∈ lw_g := lw_gi 1002 (by decide +kernel) (by decide +kernel)
theorem co_X6_pumped : Cond.code yX6_pumped cX6_pumped 2 (some .long) ∈ lw_g := lw_gi 1003 (by decide +kernel) (by decide +kernel)
theorem im_X6_isShut : Cond.instanceMethod yX6_isShut ∈ lw_g := lw_gi 1008 (by decide +kernel) (by decide +kernel)
theorem sl_X6_isShut : Cond.selects RX6 yX6_isShut yX6_isShut ∈ lw_g := lw_gi 1009 (by decide +kernel) (by decide +kernel)
theorem co_X6_isShut : Cond.code yX6_isShut cX6_isShut 2 (some .boolean) ∈ lw_g := lw_gi 1010 (by decide +kernel) (by decide +kernel)
theorem im_X6_byAge : Cond.instanceMethod yX6_byAge ∈ lw_g := lw_gi 1016 (by decide +kernel) (by decide +kernel)
theorem sl_X6_byAge : Cond.selects RX6 yX6_byAge yX6_byAge ∈ lw_g := lw_gi 1017 (by decide +kernel) (by decide +kernel)
theorem co_X6_byAge : Cond.code yX6_byAge cX6_byAge 2 (some .int) ∈ lw_g := lw_gi 1018 (by decide +kernel) (by decide +kernel)
theorem cl_X6_148 : Cond.classLink RX6 148 "java/util/NoSuchElementException" ∈ lw_g := lw_gi 1019 (by decide +kernel) (by decide +kernel)
theorem im_X6_pumpedWithout : Cond.instanceMethod yX6_pumpedWithout ∈ lw_g := lw_gi 1038 (by decide +kernel) (by decide +kernel)
theorem sl_X6_pumpedWithout : Cond.selects RX6 yX6_pumpedWithout yX6_pumpedWithout ∈ lw_g := lw_gi 1039 (by decide +kernel) (by decide +kernel)
theorem co_X6_pumpedWithout : Cond.code yX6_pumpedWithout cX6_pumpedWithout 4 (some .long) ∈ lw_g := lw_gi 1040 (by decide +kernel) (by decide +kernel)
theorem ml_X6_158 : Cond.methodLink RX6 158 yX6_worldWithout ∈ lw_g := lw_gi 1042 (by decide +kernel) (by decide +kernel)
theorem im_X6_worldWithout : Cond.instanceMethod yX6_worldWithout ∈ lw_g := lw_gi 1044 (by decide +kernel) (by decide +kernel)
theorem co_X6_worldWithout : Cond.code yX6_worldWithout cX6_worldWithout 3 (some (.object "Aquiferward$World")) ∈ lw_g := lw_gi 1045 (by decide +kernel) (by decide +kernel)
theorem im_X6_eventAt : Cond.instanceMethod yX6_eventAt ∈ lw_g := lw_gi 1050 (by decide +kernel) (by decide +kernel)
theorem sl_X6_eventAt : Cond.selects RX6 yX6_eventAt yX6_eventAt ∈ lw_g := lw_gi 1051 (by decide +kernel) (by decide +kernel)
theorem co_X6_eventAt : Cond.code yX6_eventAt cX6_eventAt 2 (some .char) ∈ lw_g := lw_gi 1052 (by decide +kernel) (by decide +kernel)
theorem ml_X6_176 : Cond.methodLink RX6 176 yJ4_charAt_5068e ∈ lw_g := lw_gi 1053 (by decide +kernel) (by decide +kernel)
theorem im_J4_charAt_5068e : Cond.instanceMethod yJ4_charAt_5068e ∈ lw_g := lw_gi 1054 (by decide +kernel) (by decide +kernel)
theorem sl_J4_charAt_5068e : Cond.selects RJ4 yJ4_charAt_5068e yJ4_charAt_5068e ∈ lw_g := lw_gi 1055 (by decide +kernel) (by decide +kernel)
theorem co_J4_charAt_5068e : Cond.code yJ4_charAt_5068e cJ4_charAt_5068e 2 (some .char) ∈ lw_g := lw_gi 1056 (by decide +kernel) (by decide +kernel)
theorem ml_J4_329 : Cond.methodLink RJ4 329 yJ5_charAt_5068e ∈ lw_g := lw_gi 1057 (by decide +kernel) (by decide +kernel)
theorem im_X6_account : Cond.instanceMethod yX6_account ∈ lw_g := lw_gi 1069 (by decide +kernel) (by decide +kernel)
theorem sl_X6_account : Cond.selects RX6 yX6_account yX6_account ∈ lw_g := lw_gi 1070 (by decide +kernel) (by decide +kernel)
theorem co_X6_account : Cond.code yX6_account cX6_account 3 (some .long) ∈ lw_g := lw_gi 1071 (by decide +kernel) (by decide +kernel)
theorem ml_X6_184 : Cond.methodLink RX6 184 yJ0_indexOf_0f7a4 ∈ lw_g := lw_gi 1073 (by decide +kernel) (by decide +kernel)
theorem su_J6 : Cond.superclass RJ6 RJxd2413 ∈ lw_g := lw_gi 1348 (by decide +kernel) (by decide +kernel)
theorem im_Jx4a65c_add_7a177 : Cond.instanceMethod yJx4a65c_add_7a177 ∈ lw_g := lw_gi 1350 (by decide +kernel) (by decide +kernel)
theorem sl_Jx4a65c_add_7a177 : Cond.selects RJx4a65c yJx4a65c_add_7a177 yJx4a65c_add_7a177 ∈ lw_g := lw_gi 1351 (by decide +kernel) (by decide +kernel)
theorem co_Jx4a65c_add_7a177 : Cond.code yJx4a65c_add_7a177 cJx4a65c_add_7a177 5 none ∈ lw_g := lw_gi 1352 (by decide +kernel) (by decide +kernel)
theorem ml_Jx4a65c_135 : Cond.methodLink RJx4a65c 135 yJx4a65c_rangeCheckForAdd_d00df ∈ lw_g := lw_gi 1353 (by decide +kernel) (by decide +kernel)
theorem im_Jx4a65c_rangeCheckForAdd_d00df : Cond.instanceMethod yJx4a65c_rangeCheckForAdd_d00df ∈ lw_g := lw_gi 1355 (by decide +kernel) (by decide +kernel)
theorem co_Jx4a65c_rangeCheckForAdd_d00df : Cond.code yJx4a65c_rangeCheckForAdd_d00df cJx4a65c_rangeCheckForAdd_d00df 2 none ∈ lw_g := lw_gi 1356 (by decide +kernel) (by decide +kernel)
theorem cl_Jx4a65c_187 : Cond.classLink RJx4a65c 187 "java/lang/IndexOutOfBoundsException" ∈ lw_g := lw_gi 1357 (by decide +kernel) (by decide +kernel)
theorem ml_Jx4a65c_198 : Cond.methodLink RJx4a65c 198 yJx4a65c_outOfBoundsMsg_b52d3 ∈ lw_g := lw_gi 1358 (by decide +kernel) (by decide +kernel)
theorem im_Jx4a65c_outOfBoundsMsg_b52d3 : Cond.instanceMethod yJx4a65c_outOfBoundsMsg_b52d3 ∈ lw_g := lw_gi 1360 (by decide +kernel) (by decide +kernel)
theorem co_Jx4a65c_outOfBoundsMsg_b52d3 : Cond.code yJx4a65c_outOfBoundsMsg_b52d3 cJx4a65c_outOfBoundsMsg_b52d3 2 (some (.object "java/lang/String")) ∈ lw_g := lw_gi 1361 (by decide +kernel) (by decide +kernel)
theorem cl_Jx4a65c_20 : Cond.classLink RJx4a65c 20 RJ4 ∈ lw_g := lw_gi 1362 (by decide +kernel) (by decide +kernel)
theorem ml_Jx4a65c_22 : Cond.methodLink RJx4a65c 22 yJ4_init_da8c8 ∈ lw_g := lw_gi 1363 (by decide +kernel) (by decide +kernel)
theorem ml_Jx4a65c_25 : Cond.methodLink RJx4a65c 25 yJ4_append_15ec4 ∈ lw_g := lw_gi 1365 (by decide +kernel) (by decide +kernel)
theorem im_J4_append_15ec4 : Cond.instanceMethod yJ4_append_15ec4 ∈ lw_g := lw_gi 1366 (by decide +kernel) (by decide +kernel)
theorem sl_J4_append_15ec4 : Cond.selects RJ4 yJ4_append_15ec4 yJ4_append_15ec4 ∈ lw_g := lw_gi 1367 (by decide +kernel) (by decide +kernel)
theorem co_J4_append_15ec4 : Cond.code yJ4_append_15ec4 cJ4_append_15ec4 2 (some (.object "java/lang/StringBuilder")) ∈ lw_g := lw_gi 1368 (by decide +kernel) (by decide +kernel)
theorem ml_J4_29 : Cond.methodLink RJ4 29 yJ5_append_cf1ce ∈ lw_g := lw_gi 1369 (by decide +kernel) (by decide +kernel)
theorem ml_Jx4a65c_29 : Cond.methodLink RJx4a65c 29 yJ4_append_bf812 ∈ lw_g := lw_gi 1395 (by decide +kernel) (by decide +kernel)
theorem im_J4_append_bf812 : Cond.instanceMethod yJ4_append_bf812 ∈ lw_g := lw_gi 1396 (by decide +kernel) (by decide +kernel)
theorem sl_J4_append_bf812 : Cond.selects RJ4 yJ4_append_bf812 yJ4_append_bf812 ∈ lw_g := lw_gi 1397 (by decide +kernel) (by decide +kernel)
theorem co_J4_append_bf812 : Cond.code yJ4_append_bf812 cJ4_append_bf812 2 (some (.object "java/lang/StringBuilder")) ∈ lw_g := lw_gi 1398 (by decide +kernel) (by decide +kernel)
theorem ml_J4_53 : Cond.methodLink RJ4 53 yJ5_append_c97b9 ∈ lw_g := lw_gi 1399 (by decide +kernel) (by decide +kernel)
theorem ml_Jx4a65c_32 : Cond.methodLink RJx4a65c 32 yJ4_toString_0e30d ∈ lw_g := lw_gi 1421 (by decide +kernel) (by decide +kernel)
theorem im_J4_toString_0e30d : Cond.instanceMethod yJ4_toString_0e30d ∈ lw_g := lw_gi 1422 (by decide +kernel) (by decide +kernel)
theorem sl_J4_toString_0e30d : Cond.selects RJ4 yJ4_toString_0e30d yJ4_toString_0e30d ∈ lw_g := lw_gi 1423 (by decide +kernel) (by decide +kernel)
theorem co_J4_toString_0e30d : Cond.code yJ4_toString_0e30d cJ4_toString_0e30d 1 (some (.object "java/lang/String")) ∈ lw_g := lw_gi 1424 (by decide +kernel) (by decide +kernel)
theorem cl_J4_18 : Cond.classLink RJ4 18 RJ0 ∈ lw_g := lw_gi 1425 (by decide +kernel) (by decide +kernel)
theorem ml_J4_137 : Cond.methodLink RJ4 137 yJ0_init_81219 ∈ lw_g := lw_gi 1426 (by decide +kernel) (by decide +kernel)
theorem sm_J5_getValue : Cond.sameMethod RJ5 RJ5 "getValue" "()[B" ∈ lw_g := lw_gi 1435 (by decide +kernel) (by decide +kernel)
theorem sl_J4_J5_getValue_6d5f1 : Cond.selects RJ4 yJ5_getValue_6d5f1 yJ5_getValue_6d5f1 ∈ lw_g := lw_gi 1436 (by decide +kernel) (by decide +kernel)
theorem ml_Jx4a65c_112 : Cond.methodLink RJx4a65c 112 arraycopyName ∈ lw_g := lw_gi 1475 (by decide +kernel) (by decide +kernel)
theorem im_Jx4a65c_iterator_32c93 : Cond.instanceMethod yJx4a65c_iterator_32c93 ∈ lw_g := lw_gi 1517 (by decide +kernel) (by decide +kernel)
theorem sl_Jx4a65c_iterator_32c93 : Cond.selects RJx4a65c yJx4a65c_iterator_32c93 yJx4a65c_iterator_32c93 ∈ lw_g := lw_gi 1518 (by decide +kernel) (by decide +kernel)
theorem co_Jx4a65c_iterator_32c93 : Cond.code yJx4a65c_iterator_32c93 cJx4a65c_iterator_32c93 1 (some (.object "java/util/Iterator")) ∈ lw_g := lw_gi 1519 (by decide +kernel) (by decide +kernel)
theorem cl_Jx4a65c_267 : Cond.classLink RJx4a65c 267 RJx35411 ∈ lw_g := lw_gi 1520 (by decide +kernel) (by decide +kernel)
theorem ml_Jx4a65c_269 : Cond.methodLink RJx4a65c 269 yJx35411_init_45d68 ∈ lw_g := lw_gi 1522 (by decide +kernel) (by decide +kernel)
theorem sm_J5_length : Cond.sameMethod RJ5 RJ5 "length" "()I" ∈ lw_g := lw_gi 1722 (by decide +kernel) (by decide +kernel)
theorem sm_J5_append : Cond.sameMethod RJ5 RJ5 "append" "(C)Ljava/lang/AbstractStringBuilder;" ∈ lw_g := lw_gi 1723 (by decide +kernel) (by decide +kernel)
theorem sm_J5_ensureCapacityInternal : Cond.sameMethod RJ5 RJ5 "ensureCapacityInternal" "(I)V" ∈ lw_g := lw_gi 1724 (by decide +kernel) (by decide +kernel)
theorem sm_J5_newCapacity : Cond.sameMethod RJ5 RJ5 "newCapacity" "(I)I" ∈ lw_g := lw_gi 1725 (by decide +kernel) (by decide +kernel)
theorem sm_J5_inflate : Cond.sameMethod RJ5 RJ5 "inflate" "()V" ∈ lw_g := lw_gi 1726 (by decide +kernel) (by decide +kernel)
theorem sm_J5_charAt : Cond.sameMethod RJ5 RJ5 "charAt" "(I)C" ∈ lw_g := lw_gi 1728 (by decide +kernel) (by decide +kernel)
theorem sm_J5_appendNull : Cond.sameMethod RJ5 RJ5 "appendNull" "()Ljava/lang/AbstractStringBuilder;" ∈ lw_g := lw_gi 1730 (by decide +kernel) (by decide +kernel)
theorem sm_J5_putStringAt : Cond.sameMethod RJ5 RJ5 "putStringAt" "(ILjava/lang/String;)V" ∈ lw_g := lw_gi 1731 (by decide +kernel) (by decide +kernel)
theorem sm_J5_inflateIfNeededFor : Cond.sameMethod RJ5 RJ5 "inflateIfNeededFor" "(Ljava/lang/String;)V" ∈ lw_g := lw_gi 1732 (by decide +kernel) (by decide +kernel)
theorem sl_X5_fillCell : Cond.selects RX5 yX5_fillCell yX5_fillCell ∈ lw_g := lw_gi 0 (by decide +kernel) (by decide +kernel)
theorem sl_X5_followTransfer : Cond.selects RX5 yX5_followTransfer yX5_followTransfer ∈ lw_g := lw_gi 1 (by decide +kernel) (by decide +kernel)
theorem sl_X5_letMonthsPass : Cond.selects RX5 yX5_letMonthsPass yX5_letMonthsPass ∈ lw_g := lw_gi 2 (by decide +kernel) (by decide +kernel)
theorem sl_X5_letRainFall : Cond.selects RX5 yX5_letRainFall yX5_letRainFall ∈ lw_g := lw_gi 3 (by decide +kernel) (by decide +kernel)
theorem sl_X5_pumpWells : Cond.selects RX5 yX5_pumpWells yX5_pumpWells ∈ lw_g := lw_gi 4 (by decide +kernel) (by decide +kernel)
theorem sl_X5_pumpWell : Cond.selects RX5 yX5_pumpWell yX5_pumpWell ∈ lw_g := lw_gi 5 (by decide +kernel) (by decide +kernel)
theorem sl_X5_note : Cond.selects RX5 yX5_note yX5_note ∈ lw_g := lw_gi 6 (by decide +kernel) (by decide +kernel)
theorem sl_X5_letWaterFlow : Cond.selects RX5 yX5_letWaterFlow yX5_letWaterFlow ∈ lw_g := lw_gi 7 (by decide +kernel) (by decide +kernel)
theorem sl_X5_flow : Cond.selects RX5 yX5_flow yX5_flow ∈ lw_g := lw_gi 8 (by decide +kernel) (by decide +kernel)
theorem sl_X5_letRiverRun : Cond.selects RX5 yX5_letRiverRun yX5_letRiverRun ∈ lw_g := lw_gi 9 (by decide +kernel) (by decide +kernel)
theorem sl_X5_runThroughBed : Cond.selects RX5 yX5_runThroughBed yX5_runThroughBed ∈ lw_g := lw_gi 10 (by decide +kernel) (by decide +kernel)
theorem sl_X5_letSpringsRun : Cond.selects RX5 yX5_letSpringsRun yX5_letSpringsRun ∈ lw_g := lw_gi 11 (by decide +kernel) (by decide +kernel)
theorem sl_X5_letSpringRun : Cond.selects RX5 yX5_letSpringRun yX5_letSpringRun ∈ lw_g := lw_gi 12 (by decide +kernel) (by decide +kernel)
theorem sl_X5_meetSea : Cond.selects RX5 yX5_meetSea yX5_meetSea ∈ lw_g := lw_gi 13 (by decide +kernel) (by decide +kernel)
theorem sl_X5_endMonth : Cond.selects RX5 yX5_endMonth yX5_endMonth ∈ lw_g := lw_gi 14 (by decide +kernel) (by decide +kernel)
theorem sl_X5_endYear : Cond.selects RX5 yX5_endYear yX5_endYear ∈ lw_g := lw_gi 15 (by decide +kernel) (by decide +kernel)
theorem sl_X6_carryOut : Cond.selects RX6 yX6_carryOut yX6_carryOut ∈ lw_g := lw_gi 17 (by decide +kernel) (by decide +kernel)
theorem sl_Jx4a65c_add_72be8 : Cond.selects RJx4a65c yJx4a65c_add_72be8 yJx4a65c_add_72be8 ∈ lw_g := lw_gi 18 (by decide +kernel) (by decide +kernel)
theorem sl_Jx4a65c_grow_d5877 : Cond.selects RJx4a65c yJx4a65c_grow_d5877 yJx4a65c_grow_d5877 ∈ lw_g := lw_gi 19 (by decide +kernel) (by decide +kernel)
theorem sl_Jx4a65c_grow_92f84 : Cond.selects RJx4a65c yJx4a65c_grow_92f84 yJx4a65c_grow_92f84 ∈ lw_g := lw_gi 20 (by decide +kernel) (by decide +kernel)
theorem sl_X6_requireWell : Cond.selects RX6 yX6_requireWell yX6_requireWell ∈ lw_g := lw_gi 21 (by decide +kernel) (by decide +kernel)
theorem sl_X6_worldWithout : Cond.selects RX6 yX6_worldWithout yX6_worldWithout ∈ lw_g := lw_gi 22 (by decide +kernel) (by decide +kernel)
theorem sl_Jx4a65c_rangeCheckForAdd_d00df : Cond.selects RJx4a65c yJx4a65c_rangeCheckForAdd_d00df yJx4a65c_rangeCheckForAdd_d00df ∈ lw_g := lw_gi 25 (by decide +kernel) (by decide +kernel)
theorem sl_Jx4a65c_outOfBoundsMsg_b52d3 : Cond.selects RJx4a65c yJx4a65c_outOfBoundsMsg_b52d3 yJx4a65c_outOfBoundsMsg_b52d3 ∈ lw_g := lw_gi 26 (by decide +kernel) (by decide +kernel)
theorem fw_X0 : ∀ w ∈ u_ws RX0 TX0 1, w ∈ lw_g := fun w h => List.mem_filter.mpr ⟨List.mem_append_left _ ((show ∀ w ∈ u_ws RX0 TX0 1, w ∈ lw_tbl by decide +kernel) w h), (show ∀ w ∈ u_ws RX0 TX0 1, goodWord w = true by decide +kernel) w h⟩
theorem fw_X1 : ∀ w ∈ u_ws RX1 TX1 5, w ∈ lw_g := fun w h => List.mem_filter.mpr ⟨List.mem_append_left _ ((show ∀ w ∈ u_ws RX1 TX1 5, w ∈ lw_tbl by decide +kernel) w h), (show ∀ w ∈ u_ws RX1 TX1 5, goodWord w = true by decide +kernel) w h⟩
theorem fw_X2 : ∀ w ∈ u_ws RX2 TX2 4, w ∈ lw_g := fun w h => List.mem_filter.mpr ⟨List.mem_append_left _ ((show ∀ w ∈ u_ws RX2 TX2 4, w ∈ lw_tbl by decide +kernel) w h), (show ∀ w ∈ u_ws RX2 TX2 4, goodWord w = true by decide +kernel) w h⟩
theorem fw_X3 : ∀ w ∈ u_ws RX3 TX3 8, w ∈ lw_g := fun w h => List.mem_filter.mpr ⟨List.mem_append_left _ ((show ∀ w ∈ u_ws RX3 TX3 8, w ∈ lw_tbl by decide +kernel) w h), (show ∀ w ∈ u_ws RX3 TX3 8, goodWord w = true by decide +kernel) w h⟩
theorem fw_X4 : ∀ w ∈ u_ws RX4 TX4 11, w ∈ lw_g := fun w h => List.mem_filter.mpr ⟨List.mem_append_left _ ((show ∀ w ∈ u_ws RX4 TX4 11, w ∈ lw_tbl by decide +kernel) w h), (show ∀ w ∈ u_ws RX4 TX4 11, goodWord w = true by decide +kernel) w h⟩
theorem fw_X5 : ∀ w ∈ u_ws RX5 TX5 12, w ∈ lw_g := fun w h => List.mem_filter.mpr ⟨List.mem_append_left _ ((show ∀ w ∈ u_ws RX5 TX5 12, w ∈ lw_tbl by decide +kernel) w h), (show ∀ w ∈ u_ws RX5 TX5 12, goodWord w = true by decide +kernel) w h⟩
theorem fw_X6 : ∀ w ∈ u_ws RX6 TX6 4, w ∈ lw_g := fun w h => List.mem_filter.mpr ⟨List.mem_append_left _ ((show ∀ w ∈ u_ws RX6 TX6 4, w ∈ lw_tbl by decide +kernel) w h), (show ∀ w ∈ u_ws RX6 TX6 4, goodWord w = true by decide +kernel) w h⟩
theorem fw_J4 : ∀ w ∈ u_ws RJ4 TJ4 4, w ∈ lw_g := fun w h => List.mem_filter.mpr ⟨List.mem_append_left _ ((show ∀ w ∈ u_ws RJ4 TJ4 4, w ∈ lw_tbl by decide +kernel) w h), (show ∀ w ∈ u_ws RJ4 TJ4 4, goodWord w = true by decide +kernel) w h⟩
theorem fw_Jx4a65c : ∀ w ∈ u_ws RJx4a65c TJx4a65c 3, w ∈ lw_g := fun w h => List.mem_filter.mpr ⟨List.mem_append_left _ ((show ∀ w ∈ u_ws RJx4a65c TJx4a65c 3, w ∈ lw_tbl by decide +kernel) w h), (show ∀ w ∈ u_ws RJx4a65c TJx4a65c 3, goodWord w = true by decide +kernel) w h⟩
section FROWS
variable {p : Program} {l : Launch} {e : Env} {R : Room} {s : State} {m : MethodId} {args : Array Value} {below : List Frame} {meth : Method} {c : Code} {H : Heap} {locs : List Loc} {cells slots : Nat} {Q : State → Prop}
variable {cc : ByteArray} {pc : Nat} {ls : Array Slot} {rest : List Value} {g : Gm} {A : Nat → Prop} {H0 : Heap} {ws : va_W}
theorem wg_X2_9 {a : Nat} {fs : List Value} {v : Value} (S : Sta p c cc s args RX2 m) (hK : va_K g.1 vwC (tysG g) s) (E : Ev g A H0 H locs ws) (q0 : Nat) (he : ws[q0]? = some (a, .inr (2, fs))) (hv : fs[0]? = some v) (hdg : decode cc pc = .ok (.getfield 9, 3)) (kk : W p l e R s m args below meth c H locs cells slots Q (F0 m (pc + 3) ls (v :: rest))) : W p l e R s m args below meth c H locs cells slots Q (F0 m pc ls (.ref a :: rest)) := w_get (T := TX2) (N := 4) S hK E fw_X2 he rfl (by decide) fl_X2_9 rfl hv hdg kk
theorem wg_X5_154 {a : Nat} {fs : List Value} {v : Value} (S : Sta p c cc s args RX5 m) (hK : va_K g.1 vwC (tysG g) s) (E : Ev g A H0 H locs ws) (q0 : Nat) (he : ws[q0]? = some (a, .inr (2, fs))) (hv : fs[0]? = some v) (hdg : decode cc pc = .ok (.getfield 154, 3)) (kk : W p l e R s m args below meth c H locs cells slots Q (F0 m (pc + 3) ls (v :: rest))) : W p l e R s m args below meth c H locs cells slots Q (F0 m pc ls (.ref a :: rest)) := w_get (T := TX2) (N := 4) S hK E fw_X2 he rfl (by decide) fl_X5_154 rfl hv hdg kk
theorem wg_X2_15 {a : Nat} {fs : List Value} {v : Value} (S : Sta p c cc s args RX2 m) (hK : va_K g.1 vwC (tysG g) s) (E : Ev g A H0 H locs ws) (q0 : Nat) (he : ws[q0]? = some (a, .inr (2, fs))) (hv : fs[1]? = some v) (hdg : decode cc pc = .ok (.getfield 15, 3)) (kk : W p l e R s m args below meth c H locs cells slots Q (F0 m (pc + 3) ls (v :: rest))) : W p l e R s m args below meth c H locs cells slots Q (F0 m pc ls (.ref a :: rest)) := w_get (T := TX2) (N := 4) S hK E fw_X2 he rfl (by decide) fl_X2_15 rfl hv hdg kk
theorem wg_X5_157 {a : Nat} {fs : List Value} {v : Value} (S : Sta p c cc s args RX5 m) (hK : va_K g.1 vwC (tysG g) s) (E : Ev g A H0 H locs ws) (q0 : Nat) (he : ws[q0]? = some (a, .inr (2, fs))) (hv : fs[1]? = some v) (hdg : decode cc pc = .ok (.getfield 157, 3)) (kk : W p l e R s m args below meth c H locs cells slots Q (F0 m (pc + 3) ls (v :: rest))) : W p l e R s m args below meth c H locs cells slots Q (F0 m pc ls (.ref a :: rest)) := w_get (T := TX2) (N := 4) S hK E fw_X2 he rfl (by decide) fl_X5_157 rfl hv hdg kk
theorem wg_X2_18 {a : Nat} {fs : List Value} {v : Value} (S : Sta p c cc s args RX2 m) (hK : va_K g.1 vwC (tysG g) s) (E : Ev g A H0 H locs ws) (q0 : Nat) (he : ws[q0]? = some (a, .inr (2, fs))) (hv : fs[2]? = some v) (hdg : decode cc pc = .ok (.getfield 18, 3)) (kk : W p l e R s m args below meth c H locs cells slots Q (F0 m (pc + 3) ls (v :: rest))) : W p l e R s m args below meth c H locs cells slots Q (F0 m pc ls (.ref a :: rest)) := w_get (T := TX2) (N := 4) S hK E fw_X2 he rfl (by decide) fl_X2_18 rfl hv hdg kk
theorem wg_X6_44 {a : Nat} {fs : List Value} {v : Value} (S : Sta p c cc s args RX6 m) (hK : va_K g.1 vwC (tysG g) s) (E : Ev g A H0 H locs ws) (q0 : Nat) (he : ws[q0]? = some (a, .inr (2, fs))) (hv : fs[2]? = some v) (hdg : decode cc pc = .ok (.getfield 44, 3)) (kk : W p l e R s m args below meth c H locs cells slots Q (F0 m (pc + 3) ls (v :: rest))) : W p l e R s m args below meth c H locs cells slots Q (F0 m pc ls (.ref a :: rest)) := w_get (T := TX2) (N := 4) S hK E fw_X2 he rfl (by decide) fl_X6_44 rfl hv hdg kk
theorem wg_X5_151 {a : Nat} {fs : List Value} {v : Value} (S : Sta p c cc s args RX5 m) (hK : va_K g.1 vwC (tysG g) s) (E : Ev g A H0 H locs ws) (q0 : Nat) (he : ws[q0]? = some (a, .inr (2, fs))) (hv : fs[2]? = some v) (hdg : decode cc pc = .ok (.getfield 151, 3)) (kk : W p l e R s m args below meth c H locs cells slots Q (F0 m (pc + 3) ls (v :: rest))) : W p l e R s m args below meth c H locs cells slots Q (F0 m pc ls (.ref a :: rest)) := w_get (T := TX2) (N := 4) S hK E fw_X2 he rfl (by decide) fl_X5_151 rfl hv hdg kk
theorem wg_X2_21 {a : Nat} {fs : List Value} {v : Value} (S : Sta p c cc s args RX2 m) (hK : va_K g.1 vwC (tysG g) s) (E : Ev g A H0 H locs ws) (q0 : Nat) (he : ws[q0]? = some (a, .inr (2, fs))) (hv : fs[3]? = some v) (hdg : decode cc pc = .ok (.getfield 21, 3)) (kk : W p l e R s m args below meth c H locs cells slots Q (F0 m (pc + 3) ls (v :: rest))) : W p l e R s m args below meth c H locs cells slots Q (F0 m pc ls (.ref a :: rest)) := w_get (T := TX2) (N := 4) S hK E fw_X2 he rfl (by decide) fl_X2_21 rfl hv hdg kk
theorem wg_X5_160 {a : Nat} {fs : List Value} {v : Value} (S : Sta p c cc s args RX5 m) (hK : va_K g.1 vwC (tysG g) s) (E : Ev g A H0 H locs ws) (q0 : Nat) (he : ws[q0]? = some (a, .inr (2, fs))) (hv : fs[3]? = some v) (hdg : decode cc pc = .ok (.getfield 160, 3)) (kk : W p l e R s m args below meth c H locs cells slots Q (F0 m (pc + 3) ls (v :: rest))) : W p l e R s m args below meth c H locs cells slots Q (F0 m pc ls (.ref a :: rest)) := w_get (T := TX2) (N := 4) S hK E fw_X2 he rfl (by decide) fl_X5_160 rfl hv hdg kk
theorem wg_X6_134 {a : Nat} {fs : List Value} {v : Value} (S : Sta p c cc s args RX6 m) (hK : va_K g.1 vwC (tysG g) s) (E : Ev g A H0 H locs ws) (q0 : Nat) (he : ws[q0]? = some (a, .inr (2, fs))) (hv : fs[3]? = some v) (hdg : decode cc pc = .ok (.getfield 134, 3)) (kk : W p l e R s m args below meth c H locs cells slots Q (F0 m (pc + 3) ls (v :: rest))) : W p l e R s m args below meth c H locs cells slots Q (F0 m pc ls (.ref a :: rest)) := w_get (T := TX2) (N := 4) S hK E fw_X2 he rfl (by decide) fl_X6_134 rfl hv hdg kk
theorem wg_X3_9 {a : Nat} {fs : List Value} {v : Value} (S : Sta p c cc s args RX3 m) (hK : va_K g.1 vwC (tysG g) s) (E : Ev g A H0 H locs ws) (q0 : Nat) (he : ws[q0]? = some (a, .inr (3, fs))) (hv : fs[0]? = some v) (hdg : decode cc pc = .ok (.getfield 9, 3)) (kk : W p l e R s m args below meth c H locs cells slots Q (F0 m (pc + 3) ls (v :: rest))) : W p l e R s m args below meth c H locs cells slots Q (F0 m pc ls (.ref a :: rest)) := w_get (T := TX3) (N := 8) S hK E fw_X3 he rfl (by decide) fl_X3_9 rfl hv hdg kk
theorem wg_X6_63 {a : Nat} {fs : List Value} {v : Value} (S : Sta p c cc s args RX6 m) (hK : va_K g.1 vwC (tysG g) s) (E : Ev g A H0 H locs ws) (q0 : Nat) (he : ws[q0]? = some (a, .inr (3, fs))) (hv : fs[0]? = some v) (hdg : decode cc pc = .ok (.getfield 63, 3)) (kk : W p l e R s m args below meth c H locs cells slots Q (F0 m (pc + 3) ls (v :: rest))) : W p l e R s m args below meth c H locs cells slots Q (F0 m pc ls (.ref a :: rest)) := w_get (T := TX3) (N := 8) S hK E fw_X3 he rfl (by decide) fl_X6_63 rfl hv hdg kk
theorem wg_X5_102 {a : Nat} {fs : List Value} {v : Value} (S : Sta p c cc s args RX5 m) (hK : va_K g.1 vwC (tysG g) s) (E : Ev g A H0 H locs ws) (q0 : Nat) (he : ws[q0]? = some (a, .inr (3, fs))) (hv : fs[0]? = some v) (hdg : decode cc pc = .ok (.getfield 102, 3)) (kk : W p l e R s m args below meth c H locs cells slots Q (F0 m (pc + 3) ls (v :: rest))) : W p l e R s m args below meth c H locs cells slots Q (F0 m pc ls (.ref a :: rest)) := w_get (T := TX3) (N := 8) S hK E fw_X3 he rfl (by decide) fl_X5_102 rfl hv hdg kk
theorem wg_X3_15 {a : Nat} {fs : List Value} {v : Value} (S : Sta p c cc s args RX3 m) (hK : va_K g.1 vwC (tysG g) s) (E : Ev g A H0 H locs ws) (q0 : Nat) (he : ws[q0]? = some (a, .inr (3, fs))) (hv : fs[1]? = some v) (hdg : decode cc pc = .ok (.getfield 15, 3)) (kk : W p l e R s m args below meth c H locs cells slots Q (F0 m (pc + 3) ls (v :: rest))) : W p l e R s m args below meth c H locs cells slots Q (F0 m pc ls (.ref a :: rest)) := w_get (T := TX3) (N := 8) S hK E fw_X3 he rfl (by decide) fl_X3_15 rfl hv hdg kk
theorem wg_X5_105 {a : Nat} {fs : List Value} {v : Value} (S : Sta p c cc s args RX5 m) (hK : va_K g.1 vwC (tysG g) s) (E : Ev g A H0 H locs ws) (q0 : Nat) (he : ws[q0]? = some (a, .inr (3, fs))) (hv : fs[1]? = some v) (hdg : decode cc pc = .ok (.getfield 105, 3)) (kk : W p l e R s m args below meth c H locs cells slots Q (F0 m (pc + 3) ls (v :: rest))) : W p l e R s m args below meth c H locs cells slots Q (F0 m pc ls (.ref a :: rest)) := w_get (T := TX3) (N := 8) S hK E fw_X3 he rfl (by decide) fl_X5_105 rfl hv hdg kk
theorem wg_X6_68 {a : Nat} {fs : List Value} {v : Value} (S : Sta p c cc s args RX6 m) (hK : va_K g.1 vwC (tysG g) s) (E : Ev g A H0 H locs ws) (q0 : Nat) (he : ws[q0]? = some (a, .inr (3, fs))) (hv : fs[1]? = some v) (hdg : decode cc pc = .ok (.getfield 68, 3)) (kk : W p l e R s m args below meth c H locs cells slots Q (F0 m (pc + 3) ls (v :: rest))) : W p l e R s m args below meth c H locs cells slots Q (F0 m pc ls (.ref a :: rest)) := w_get (T := TX3) (N := 8) S hK E fw_X3 he rfl (by decide) fl_X6_68 rfl hv hdg kk
theorem wg_X3_18 {a : Nat} {fs : List Value} {v : Value} (S : Sta p c cc s args RX3 m) (hK : va_K g.1 vwC (tysG g) s) (E : Ev g A H0 H locs ws) (q0 : Nat) (he : ws[q0]? = some (a, .inr (3, fs))) (hv : fs[2]? = some v) (hdg : decode cc pc = .ok (.getfield 18, 3)) (kk : W p l e R s m args below meth c H locs cells slots Q (F0 m (pc + 3) ls (v :: rest))) : W p l e R s m args below meth c H locs cells slots Q (F0 m pc ls (.ref a :: rest)) := w_get (T := TX3) (N := 8) S hK E fw_X3 he rfl (by decide) fl_X3_18 rfl hv hdg kk
theorem wg_X5_108 {a : Nat} {fs : List Value} {v : Value} (S : Sta p c cc s args RX5 m) (hK : va_K g.1 vwC (tysG g) s) (E : Ev g A H0 H locs ws) (q0 : Nat) (he : ws[q0]? = some (a, .inr (3, fs))) (hv : fs[2]? = some v) (hdg : decode cc pc = .ok (.getfield 108, 3)) (kk : W p l e R s m args below meth c H locs cells slots Q (F0 m (pc + 3) ls (v :: rest))) : W p l e R s m args below meth c H locs cells slots Q (F0 m pc ls (.ref a :: rest)) := w_get (T := TX3) (N := 8) S hK E fw_X3 he rfl (by decide) fl_X5_108 rfl hv hdg kk
theorem wg_X6_71 {a : Nat} {fs : List Value} {v : Value} (S : Sta p c cc s args RX6 m) (hK : va_K g.1 vwC (tysG g) s) (E : Ev g A H0 H locs ws) (q0 : Nat) (he : ws[q0]? = some (a, .inr (3, fs))) (hv : fs[2]? = some v) (hdg : decode cc pc = .ok (.getfield 71, 3)) (kk : W p l e R s m args below meth c H locs cells slots Q (F0 m (pc + 3) ls (v :: rest))) : W p l e R s m args below meth c H locs cells slots Q (F0 m pc ls (.ref a :: rest)) := w_get (T := TX3) (N := 8) S hK E fw_X3 he rfl (by decide) fl_X6_71 rfl hv hdg kk
theorem wg_X3_21 {a : Nat} {fs : List Value} {v : Value} (S : Sta p c cc s args RX3 m) (hK : va_K g.1 vwC (tysG g) s) (E : Ev g A H0 H locs ws) (q0 : Nat) (he : ws[q0]? = some (a, .inr (3, fs))) (hv : fs[3]? = some v) (hdg : decode cc pc = .ok (.getfield 21, 3)) (kk : W p l e R s m args below meth c H locs cells slots Q (F0 m (pc + 3) ls (v :: rest))) : W p l e R s m args below meth c H locs cells slots Q (F0 m pc ls (.ref a :: rest)) := w_get (T := TX3) (N := 8) S hK E fw_X3 he rfl (by decide) fl_X3_21 rfl hv hdg kk
theorem wg_X5_111 {a : Nat} {fs : List Value} {v : Value} (S : Sta p c cc s args RX5 m) (hK : va_K g.1 vwC (tysG g) s) (E : Ev g A H0 H locs ws) (q0 : Nat) (he : ws[q0]? = some (a, .inr (3, fs))) (hv : fs[3]? = some v) (hdg : decode cc pc = .ok (.getfield 111, 3)) (kk : W p l e R s m args below meth c H locs cells slots Q (F0 m (pc + 3) ls (v :: rest))) : W p l e R s m args below meth c H locs cells slots Q (F0 m pc ls (.ref a :: rest)) := w_get (T := TX3) (N := 8) S hK E fw_X3 he rfl (by decide) fl_X5_111 rfl hv hdg kk
theorem wg_X6_74 {a : Nat} {fs : List Value} {v : Value} (S : Sta p c cc s args RX6 m) (hK : va_K g.1 vwC (tysG g) s) (E : Ev g A H0 H locs ws) (q0 : Nat) (he : ws[q0]? = some (a, .inr (3, fs))) (hv : fs[3]? = some v) (hdg : decode cc pc = .ok (.getfield 74, 3)) (kk : W p l e R s m args below meth c H locs cells slots Q (F0 m (pc + 3) ls (v :: rest))) : W p l e R s m args below meth c H locs cells slots Q (F0 m pc ls (.ref a :: rest)) := w_get (T := TX3) (N := 8) S hK E fw_X3 he rfl (by decide) fl_X6_74 rfl hv hdg kk
theorem wg_X3_24 {a : Nat} {fs : List Value} {v : Value} (S : Sta p c cc s args RX3 m) (hK : va_K g.1 vwC (tysG g) s) (E : Ev g A H0 H locs ws) (q0 : Nat) (he : ws[q0]? = some (a, .inr (3, fs))) (hv : fs[4]? = some v) (hdg : decode cc pc = .ok (.getfield 24, 3)) (kk : W p l e R s m args below meth c H locs cells slots Q (F0 m (pc + 3) ls (v :: rest))) : W p l e R s m args below meth c H locs cells slots Q (F0 m pc ls (.ref a :: rest)) := w_get (T := TX3) (N := 8) S hK E fw_X3 he rfl (by decide) fl_X3_24 rfl hv hdg kk
theorem wg_X5_114 {a : Nat} {fs : List Value} {v : Value} (S : Sta p c cc s args RX5 m) (hK : va_K g.1 vwC (tysG g) s) (E : Ev g A H0 H locs ws) (q0 : Nat) (he : ws[q0]? = some (a, .inr (3, fs))) (hv : fs[4]? = some v) (hdg : decode cc pc = .ok (.getfield 114, 3)) (kk : W p l e R s m args below meth c H locs cells slots Q (F0 m (pc + 3) ls (v :: rest))) : W p l e R s m args below meth c H locs cells slots Q (F0 m pc ls (.ref a :: rest)) := w_get (T := TX3) (N := 8) S hK E fw_X3 he rfl (by decide) fl_X5_114 rfl hv hdg kk
theorem wg_X3_27 {a : Nat} {fs : List Value} {v : Value} (S : Sta p c cc s args RX3 m) (hK : va_K g.1 vwC (tysG g) s) (E : Ev g A H0 H locs ws) (q0 : Nat) (he : ws[q0]? = some (a, .inr (3, fs))) (hv : fs[5]? = some v) (hdg : decode cc pc = .ok (.getfield 27, 3)) (kk : W p l e R s m args below meth c H locs cells slots Q (F0 m (pc + 3) ls (v :: rest))) : W p l e R s m args below meth c H locs cells slots Q (F0 m pc ls (.ref a :: rest)) := w_get (T := TX3) (N := 8) S hK E fw_X3 he rfl (by decide) fl_X3_27 rfl hv hdg kk
theorem wg_X5_117 {a : Nat} {fs : List Value} {v : Value} (S : Sta p c cc s args RX5 m) (hK : va_K g.1 vwC (tysG g) s) (E : Ev g A H0 H locs ws) (q0 : Nat) (he : ws[q0]? = some (a, .inr (3, fs))) (hv : fs[5]? = some v) (hdg : decode cc pc = .ok (.getfield 117, 3)) (kk : W p l e R s m args below meth c H locs cells slots Q (F0 m (pc + 3) ls (v :: rest))) : W p l e R s m args below meth c H locs cells slots Q (F0 m pc ls (.ref a :: rest)) := w_get (T := TX3) (N := 8) S hK E fw_X3 he rfl (by decide) fl_X5_117 rfl hv hdg kk
theorem wg_X6_77 {a : Nat} {fs : List Value} {v : Value} (S : Sta p c cc s args RX6 m) (hK : va_K g.1 vwC (tysG g) s) (E : Ev g A H0 H locs ws) (q0 : Nat) (he : ws[q0]? = some (a, .inr (3, fs))) (hv : fs[5]? = some v) (hdg : decode cc pc = .ok (.getfield 77, 3)) (kk : W p l e R s m args below meth c H locs cells slots Q (F0 m (pc + 3) ls (v :: rest))) : W p l e R s m args below meth c H locs cells slots Q (F0 m pc ls (.ref a :: rest)) := w_get (T := TX3) (N := 8) S hK E fw_X3 he rfl (by decide) fl_X6_77 rfl hv hdg kk
theorem wg_X5_120 {a : Nat} {fs : List Value} {v : Value} (S : Sta p c cc s args RX5 m) (hK : va_K g.1 vwC (tysG g) s) (E : Ev g A H0 H locs ws) (q0 : Nat) (he : ws[q0]? = some (a, .inr (3, fs))) (hv : fs[6]? = some v) (hdg : decode cc pc = .ok (.getfield 120, 3)) (kk : W p l e R s m args below meth c H locs cells slots Q (F0 m (pc + 3) ls (v :: rest))) : W p l e R s m args below meth c H locs cells slots Q (F0 m pc ls (.ref a :: rest)) := w_get (T := TX3) (N := 8) S hK E fw_X3 he rfl (by decide) fl_X5_120 rfl hv hdg kk
theorem wp_X5_120 {a : Nat} {fs : List Value} {v : Value} {w' : va_W} (S : Sta p c cc s args RX5 m) (hK : va_K g.1 vwC (tysG g) s) (E : Ev g A H0 H locs ws) (q0 : Nat) (he : ws[q0]? = some (a, .inr (3, fs))) (hn : narrow (tyX3 6) v = v) (hfit : fits (tyX3 6) v = true) (hl : 6 < fs.length) (hw : ws.set q0 (a, .inr (3, fs.set 6 v)) = w') (hdg : decode cc pc = .ok (.putfield 120, 3)) (kk : ∀ (H1 : Heap) (locs1 : List Loc), Ev g A H0 H1 locs1 w' → W p l e R s m args below meth c H1 locs1 cells slots Q (F0 m (pc + 3) ls rest)) : W p l e R s m args below meth c H locs cells slots Q (F0 m pc ls (v :: .ref a :: rest)) := w_put (T := TX3) (N := 8) S hK E fw_X3 tyX3 tyX3_ok nmX3 he rfl (by decide) fl_X5_120 rfl rfl rfl hn hfit hl hw hdg kk
theorem wg_X6_80 {a : Nat} {fs : List Value} {v : Value} (S : Sta p c cc s args RX6 m) (hK : va_K g.1 vwC (tysG g) s) (E : Ev g A H0 H locs ws) (q0 : Nat) (he : ws[q0]? = some (a, .inr (3, fs))) (hv : fs[6]? = some v) (hdg : decode cc pc = .ok (.getfield 80, 3)) (kk : W p l e R s m args below meth c H locs cells slots Q (F0 m (pc + 3) ls (v :: rest))) : W p l e R s m args below meth c H locs cells slots Q (F0 m pc ls (.ref a :: rest)) := w_get (T := TX3) (N := 8) S hK E fw_X3 he rfl (by decide) fl_X6_80 rfl hv hdg kk
theorem wp_X6_80 {a : Nat} {fs : List Value} {v : Value} {w' : va_W} (S : Sta p c cc s args RX6 m) (hK : va_K g.1 vwC (tysG g) s) (E : Ev g A H0 H locs ws) (q0 : Nat) (he : ws[q0]? = some (a, .inr (3, fs))) (hn : narrow (tyX3 6) v = v) (hfit : fits (tyX3 6) v = true) (hl : 6 < fs.length) (hw : ws.set q0 (a, .inr (3, fs.set 6 v)) = w') (hdg : decode cc pc = .ok (.putfield 80, 3)) (kk : ∀ (H1 : Heap) (locs1 : List Loc), Ev g A H0 H1 locs1 w' → W p l e R s m args below meth c H1 locs1 cells slots Q (F0 m (pc + 3) ls rest)) : W p l e R s m args below meth c H locs cells slots Q (F0 m pc ls (v :: .ref a :: rest)) := w_put (T := TX3) (N := 8) S hK E fw_X3 tyX3 tyX3_ok nmX3 he rfl (by decide) fl_X6_80 rfl rfl rfl hn hfit hl hw hdg kk
theorem wg_X5_123 {a : Nat} {fs : List Value} {v : Value} (S : Sta p c cc s args RX5 m) (hK : va_K g.1 vwC (tysG g) s) (E : Ev g A H0 H locs ws) (q0 : Nat) (he : ws[q0]? = some (a, .inr (3, fs))) (hv : fs[7]? = some v) (hdg : decode cc pc = .ok (.getfield 123, 3)) (kk : W p l e R s m args below meth c H locs cells slots Q (F0 m (pc + 3) ls (v :: rest))) : W p l e R s m args below meth c H locs cells slots Q (F0 m pc ls (.ref a :: rest)) := w_get (T := TX3) (N := 8) S hK E fw_X3 he rfl (by decide) fl_X5_123 rfl hv hdg kk
theorem wp_X5_123 {a : Nat} {fs : List Value} {v : Value} {w' : va_W} (S : Sta p c cc s args RX5 m) (hK : va_K g.1 vwC (tysG g) s) (E : Ev g A H0 H locs ws) (q0 : Nat) (he : ws[q0]? = some (a, .inr (3, fs))) (hn : narrow (tyX3 7) v = v) (hfit : fits (tyX3 7) v = true) (hl : 7 < fs.length) (hw : ws.set q0 (a, .inr (3, fs.set 7 v)) = w') (hdg : decode cc pc = .ok (.putfield 123, 3)) (kk : ∀ (H1 : Heap) (locs1 : List Loc), Ev g A H0 H1 locs1 w' → W p l e R s m args below meth c H1 locs1 cells slots Q (F0 m (pc + 3) ls rest)) : W p l e R s m args below meth c H locs cells slots Q (F0 m pc ls (v :: .ref a :: rest)) := w_put (T := TX3) (N := 8) S hK E fw_X3 tyX3 tyX3_ok nmX3 he rfl (by decide) fl_X5_123 rfl rfl rfl hn hfit hl hw hdg kk
theorem wg_X6_84 {a : Nat} {fs : List Value} {v : Value} (S : Sta p c cc s args RX6 m) (hK : va_K g.1 vwC (tysG g) s) (E : Ev g A H0 H locs ws) (q0 : Nat) (he : ws[q0]? = some (a, .inr (3, fs))) (hv : fs[7]? = some v) (hdg : decode cc pc = .ok (.getfield 84, 3)) (kk : W p l e R s m args below meth c H locs cells slots Q (F0 m (pc + 3) ls (v :: rest))) : W p l e R s m args below meth c H locs cells slots Q (F0 m pc ls (.ref a :: rest)) := w_get (T := TX3) (N := 8) S hK E fw_X3 he rfl (by decide) fl_X6_84 rfl hv hdg kk
theorem wp_X6_84 {a : Nat} {fs : List Value} {v : Value} {w' : va_W} (S : Sta p c cc s args RX6 m) (hK : va_K g.1 vwC (tysG g) s) (E : Ev g A H0 H locs ws) (q0 : Nat) (he : ws[q0]? = some (a, .inr (3, fs))) (hn : narrow (tyX3 7) v = v) (hfit : fits (tyX3 7) v = true) (hl : 7 < fs.length) (hw : ws.set q0 (a, .inr (3, fs.set 7 v)) = w') (hdg : decode cc pc = .ok (.putfield 84, 3)) (kk : ∀ (H1 : Heap) (locs1 : List Loc), Ev g A H0 H1 locs1 w' → W p l e R s m args below meth c H1 locs1 cells slots Q (F0 m (pc + 3) ls rest)) : W p l e R s m args below meth c H locs cells slots Q (F0 m pc ls (v :: .ref a :: rest)) := w_put (T := TX3) (N := 8) S hK E fw_X3 tyX3 tyX3_ok nmX3 he rfl (by decide) fl_X6_84 rfl rfl rfl hn hfit hl hw hdg kk
theorem wg_X4_9 {a : Nat} {fs : List Value} {v : Value} (S : Sta p c cc s args RX4 m) (hK : va_K g.1 vwC (tysG g) s) (E : Ev g A H0 H locs ws) (q0 : Nat) (he : ws[q0]? = some (a, .inr (4, fs))) (hv : fs[0]? = some v) (hdg : decode cc pc = .ok (.getfield 9, 3)) (kk : W p l e R s m args below meth c H locs cells slots Q (F0 m (pc + 3) ls (v :: rest))) : W p l e R s m args below meth c H locs cells slots Q (F0 m pc ls (.ref a :: rest)) := w_get (T := TX4) (N := 11) S hK E fw_X4 he rfl (by decide) fl_X4_9 rfl hv hdg kk
theorem wg_X5_201 {a : Nat} {fs : List Value} {v : Value} (S : Sta p c cc s args RX5 m) (hK : va_K g.1 vwC (tysG g) s) (E : Ev g A H0 H locs ws) (q0 : Nat) (he : ws[q0]? = some (a, .inr (4, fs))) (hv : fs[0]? = some v) (hdg : decode cc pc = .ok (.getfield 201, 3)) (kk : W p l e R s m args below meth c H locs cells slots Q (F0 m (pc + 3) ls (v :: rest))) : W p l e R s m args below meth c H locs cells slots Q (F0 m pc ls (.ref a :: rest)) := w_get (T := TX4) (N := 11) S hK E fw_X4 he rfl (by decide) fl_X5_201 rfl hv hdg kk
theorem wg_X4_15 {a : Nat} {fs : List Value} {v : Value} (S : Sta p c cc s args RX4 m) (hK : va_K g.1 vwC (tysG g) s) (E : Ev g A H0 H locs ws) (q0 : Nat) (he : ws[q0]? = some (a, .inr (4, fs))) (hv : fs[1]? = some v) (hdg : decode cc pc = .ok (.getfield 15, 3)) (kk : W p l e R s m args below meth c H locs cells slots Q (F0 m (pc + 3) ls (v :: rest))) : W p l e R s m args below meth c H locs cells slots Q (F0 m pc ls (.ref a :: rest)) := w_get (T := TX4) (N := 11) S hK E fw_X4 he rfl (by decide) fl_X4_15 rfl hv hdg kk
theorem wg_X4_18 {a : Nat} {fs : List Value} {v : Value} (S : Sta p c cc s args RX4 m) (hK : va_K g.1 vwC (tysG g) s) (E : Ev g A H0 H locs ws) (q0 : Nat) (he : ws[q0]? = some (a, .inr (4, fs))) (hv : fs[2]? = some v) (hdg : decode cc pc = .ok (.getfield 18, 3)) (kk : W p l e R s m args below meth c H locs cells slots Q (F0 m (pc + 3) ls (v :: rest))) : W p l e R s m args below meth c H locs cells slots Q (F0 m pc ls (.ref a :: rest)) := w_get (T := TX4) (N := 11) S hK E fw_X4 he rfl (by decide) fl_X4_18 rfl hv hdg kk
theorem wg_X6_119 {a : Nat} {fs : List Value} {v : Value} (S : Sta p c cc s args RX6 m) (hK : va_K g.1 vwC (tysG g) s) (E : Ev g A H0 H locs ws) (q0 : Nat) (he : ws[q0]? = some (a, .inr (4, fs))) (hv : fs[2]? = some v) (hdg : decode cc pc = .ok (.getfield 119, 3)) (kk : W p l e R s m args below meth c H locs cells slots Q (F0 m (pc + 3) ls (v :: rest))) : W p l e R s m args below meth c H locs cells slots Q (F0 m pc ls (.ref a :: rest)) := w_get (T := TX4) (N := 11) S hK E fw_X4 he rfl (by decide) fl_X6_119 rfl hv hdg kk
theorem wg_X4_21 {a : Nat} {fs : List Value} {v : Value} (S : Sta p c cc s args RX4 m) (hK : va_K g.1 vwC (tysG g) s) (E : Ev g A H0 H locs ws) (q0 : Nat) (he : ws[q0]? = some (a, .inr (4, fs))) (hv : fs[3]? = some v) (hdg : decode cc pc = .ok (.getfield 21, 3)) (kk : W p l e R s m args below meth c H locs cells slots Q (F0 m (pc + 3) ls (v :: rest))) : W p l e R s m args below meth c H locs cells slots Q (F0 m pc ls (.ref a :: rest)) := w_get (T := TX4) (N := 11) S hK E fw_X4 he rfl (by decide) fl_X4_21 rfl hv hdg kk
theorem wg_X5_130 {a : Nat} {fs : List Value} {v : Value} (S : Sta p c cc s args RX5 m) (hK : va_K g.1 vwC (tysG g) s) (E : Ev g A H0 H locs ws) (q0 : Nat) (he : ws[q0]? = some (a, .inr (4, fs))) (hv : fs[3]? = some v) (hdg : decode cc pc = .ok (.getfield 130, 3)) (kk : W p l e R s m args below meth c H locs cells slots Q (F0 m (pc + 3) ls (v :: rest))) : W p l e R s m args below meth c H locs cells slots Q (F0 m pc ls (.ref a :: rest)) := w_get (T := TX4) (N := 11) S hK E fw_X4 he rfl (by decide) fl_X5_130 rfl hv hdg kk
theorem wg_X6_107 {a : Nat} {fs : List Value} {v : Value} (S : Sta p c cc s args RX6 m) (hK : va_K g.1 vwC (tysG g) s) (E : Ev g A H0 H locs ws) (q0 : Nat) (he : ws[q0]? = some (a, .inr (4, fs))) (hv : fs[3]? = some v) (hdg : decode cc pc = .ok (.getfield 107, 3)) (kk : W p l e R s m args below meth c H locs cells slots Q (F0 m (pc + 3) ls (v :: rest))) : W p l e R s m args below meth c H locs cells slots Q (F0 m pc ls (.ref a :: rest)) := w_get (T := TX4) (N := 11) S hK E fw_X4 he rfl (by decide) fl_X6_107 rfl hv hdg kk
theorem wg_X4_24 {a : Nat} {fs : List Value} {v : Value} (S : Sta p c cc s args RX4 m) (hK : va_K g.1 vwC (tysG g) s) (E : Ev g A H0 H locs ws) (q0 : Nat) (he : ws[q0]? = some (a, .inr (4, fs))) (hv : fs[4]? = some v) (hdg : decode cc pc = .ok (.getfield 24, 3)) (kk : W p l e R s m args below meth c H locs cells slots Q (F0 m (pc + 3) ls (v :: rest))) : W p l e R s m args below meth c H locs cells slots Q (F0 m pc ls (.ref a :: rest)) := w_get (T := TX4) (N := 11) S hK E fw_X4 he rfl (by decide) fl_X4_24 rfl hv hdg kk
theorem wg_X5_216 {a : Nat} {fs : List Value} {v : Value} (S : Sta p c cc s args RX5 m) (hK : va_K g.1 vwC (tysG g) s) (E : Ev g A H0 H locs ws) (q0 : Nat) (he : ws[q0]? = some (a, .inr (4, fs))) (hv : fs[4]? = some v) (hdg : decode cc pc = .ok (.getfield 216, 3)) (kk : W p l e R s m args below meth c H locs cells slots Q (F0 m (pc + 3) ls (v :: rest))) : W p l e R s m args below meth c H locs cells slots Q (F0 m pc ls (.ref a :: rest)) := w_get (T := TX4) (N := 11) S hK E fw_X4 he rfl (by decide) fl_X5_216 rfl hv hdg kk
theorem wg_X6_137 {a : Nat} {fs : List Value} {v : Value} (S : Sta p c cc s args RX6 m) (hK : va_K g.1 vwC (tysG g) s) (E : Ev g A H0 H locs ws) (q0 : Nat) (he : ws[q0]? = some (a, .inr (4, fs))) (hv : fs[4]? = some v) (hdg : decode cc pc = .ok (.getfield 137, 3)) (kk : W p l e R s m args below meth c H locs cells slots Q (F0 m (pc + 3) ls (v :: rest))) : W p l e R s m args below meth c H locs cells slots Q (F0 m pc ls (.ref a :: rest)) := w_get (T := TX4) (N := 11) S hK E fw_X4 he rfl (by decide) fl_X6_137 rfl hv hdg kk
theorem wg_X4_27 {a : Nat} {fs : List Value} {v : Value} (S : Sta p c cc s args RX4 m) (hK : va_K g.1 vwC (tysG g) s) (E : Ev g A H0 H locs ws) (q0 : Nat) (he : ws[q0]? = some (a, .inr (4, fs))) (hv : fs[5]? = some v) (hdg : decode cc pc = .ok (.getfield 27, 3)) (kk : W p l e R s m args below meth c H locs cells slots Q (F0 m (pc + 3) ls (v :: rest))) : W p l e R s m args below meth c H locs cells slots Q (F0 m pc ls (.ref a :: rest)) := w_get (T := TX4) (N := 11) S hK E fw_X4 he rfl (by decide) fl_X4_27 rfl hv hdg kk
theorem wg_X5_219 {a : Nat} {fs : List Value} {v : Value} (S : Sta p c cc s args RX5 m) (hK : va_K g.1 vwC (tysG g) s) (E : Ev g A H0 H locs ws) (q0 : Nat) (he : ws[q0]? = some (a, .inr (4, fs))) (hv : fs[5]? = some v) (hdg : decode cc pc = .ok (.getfield 219, 3)) (kk : W p l e R s m args below meth c H locs cells slots Q (F0 m (pc + 3) ls (v :: rest))) : W p l e R s m args below meth c H locs cells slots Q (F0 m pc ls (.ref a :: rest)) := w_get (T := TX4) (N := 11) S hK E fw_X4 he rfl (by decide) fl_X5_219 rfl hv hdg kk
theorem wg_X6_140 {a : Nat} {fs : List Value} {v : Value} (S : Sta p c cc s args RX6 m) (hK : va_K g.1 vwC (tysG g) s) (E : Ev g A H0 H locs ws) (q0 : Nat) (he : ws[q0]? = some (a, .inr (4, fs))) (hv : fs[5]? = some v) (hdg : decode cc pc = .ok (.getfield 140, 3)) (kk : W p l e R s m args below meth c H locs cells slots Q (F0 m (pc + 3) ls (v :: rest))) : W p l e R s m args below meth c H locs cells slots Q (F0 m pc ls (.ref a :: rest)) := w_get (T := TX4) (N := 11) S hK E fw_X4 he rfl (by decide) fl_X6_140 rfl hv hdg kk
theorem wg_X4_31 {a : Nat} {fs : List Value} {v : Value} (S : Sta p c cc s args RX4 m) (hK : va_K g.1 vwC (tysG g) s) (E : Ev g A H0 H locs ws) (q0 : Nat) (he : ws[q0]? = some (a, .inr (4, fs))) (hv : fs[6]? = some v) (hdg : decode cc pc = .ok (.getfield 31, 3)) (kk : W p l e R s m args below meth c H locs cells slots Q (F0 m (pc + 3) ls (v :: rest))) : W p l e R s m args below meth c H locs cells slots Q (F0 m pc ls (.ref a :: rest)) := w_get (T := TX4) (N := 11) S hK E fw_X4 he rfl (by decide) fl_X4_31 rfl hv hdg kk
theorem wg_X5_191 {a : Nat} {fs : List Value} {v : Value} (S : Sta p c cc s args RX5 m) (hK : va_K g.1 vwC (tysG g) s) (E : Ev g A H0 H locs ws) (q0 : Nat) (he : ws[q0]? = some (a, .inr (4, fs))) (hv : fs[6]? = some v) (hdg : decode cc pc = .ok (.getfield 191, 3)) (kk : W p l e R s m args below meth c H locs cells slots Q (F0 m (pc + 3) ls (v :: rest))) : W p l e R s m args below meth c H locs cells slots Q (F0 m pc ls (.ref a :: rest)) := w_get (T := TX4) (N := 11) S hK E fw_X4 he rfl (by decide) fl_X5_191 rfl hv hdg kk
theorem wg_X6_144 {a : Nat} {fs : List Value} {v : Value} (S : Sta p c cc s args RX6 m) (hK : va_K g.1 vwC (tysG g) s) (E : Ev g A H0 H locs ws) (q0 : Nat) (he : ws[q0]? = some (a, .inr (4, fs))) (hv : fs[6]? = some v) (hdg : decode cc pc = .ok (.getfield 144, 3)) (kk : W p l e R s m args below meth c H locs cells slots Q (F0 m (pc + 3) ls (v :: rest))) : W p l e R s m args below meth c H locs cells slots Q (F0 m pc ls (.ref a :: rest)) := w_get (T := TX4) (N := 11) S hK E fw_X4 he rfl (by decide) fl_X6_144 rfl hv hdg kk
theorem wg_X4_35 {a : Nat} {fs : List Value} {v : Value} (S : Sta p c cc s args RX4 m) (hK : va_K g.1 vwC (tysG g) s) (E : Ev g A H0 H locs ws) (q0 : Nat) (he : ws[q0]? = some (a, .inr (4, fs))) (hv : fs[7]? = some v) (hdg : decode cc pc = .ok (.getfield 35, 3)) (kk : W p l e R s m args below meth c H locs cells slots Q (F0 m (pc + 3) ls (v :: rest))) : W p l e R s m args below meth c H locs cells slots Q (F0 m pc ls (.ref a :: rest)) := w_get (T := TX4) (N := 11) S hK E fw_X4 he rfl (by decide) fl_X4_35 rfl hv hdg kk
theorem wg_X4_38 {a : Nat} {fs : List Value} {v : Value} (S : Sta p c cc s args RX4 m) (hK : va_K g.1 vwC (tysG g) s) (E : Ev g A H0 H locs ws) (q0 : Nat) (he : ws[q0]? = some (a, .inr (4, fs))) (hv : fs[8]? = some v) (hdg : decode cc pc = .ok (.getfield 38, 3)) (kk : W p l e R s m args below meth c H locs cells slots Q (F0 m (pc + 3) ls (v :: rest))) : W p l e R s m args below meth c H locs cells slots Q (F0 m pc ls (.ref a :: rest)) := w_get (T := TX4) (N := 11) S hK E fw_X4 he rfl (by decide) fl_X4_38 rfl hv hdg kk
theorem wg_X4_41 {a : Nat} {fs : List Value} {v : Value} (S : Sta p c cc s args RX4 m) (hK : va_K g.1 vwC (tysG g) s) (E : Ev g A H0 H locs ws) (q0 : Nat) (he : ws[q0]? = some (a, .inr (4, fs))) (hv : fs[9]? = some v) (hdg : decode cc pc = .ok (.getfield 41, 3)) (kk : W p l e R s m args below meth c H locs cells slots Q (F0 m (pc + 3) ls (v :: rest))) : W p l e R s m args below meth c H locs cells slots Q (F0 m pc ls (.ref a :: rest)) := w_get (T := TX4) (N := 11) S hK E fw_X4 he rfl (by decide) fl_X4_41 rfl hv hdg kk
theorem wg_X5_195 {a : Nat} {fs : List Value} {v : Value} (S : Sta p c cc s args RX5 m) (hK : va_K g.1 vwC (tysG g) s) (E : Ev g A H0 H locs ws) (q0 : Nat) (he : ws[q0]? = some (a, .inr (4, fs))) (hv : fs[9]? = some v) (hdg : decode cc pc = .ok (.getfield 195, 3)) (kk : W p l e R s m args below meth c H locs cells slots Q (F0 m (pc + 3) ls (v :: rest))) : W p l e R s m args below meth c H locs cells slots Q (F0 m pc ls (.ref a :: rest)) := w_get (T := TX4) (N := 11) S hK E fw_X4 he rfl (by decide) fl_X5_195 rfl hv hdg kk
theorem wg_X6_153 {a : Nat} {fs : List Value} {v : Value} (S : Sta p c cc s args RX6 m) (hK : va_K g.1 vwC (tysG g) s) (E : Ev g A H0 H locs ws) (q0 : Nat) (he : ws[q0]? = some (a, .inr (4, fs))) (hv : fs[9]? = some v) (hdg : decode cc pc = .ok (.getfield 153, 3)) (kk : W p l e R s m args below meth c H locs cells slots Q (F0 m (pc + 3) ls (v :: rest))) : W p l e R s m args below meth c H locs cells slots Q (F0 m pc ls (.ref a :: rest)) := w_get (T := TX4) (N := 11) S hK E fw_X4 he rfl (by decide) fl_X6_153 rfl hv hdg kk
theorem wg_X4_44 {a : Nat} {fs : List Value} {v : Value} (S : Sta p c cc s args RX4 m) (hK : va_K g.1 vwC (tysG g) s) (E : Ev g A H0 H locs ws) (q0 : Nat) (he : ws[q0]? = some (a, .inr (4, fs))) (hv : fs[10]? = some v) (hdg : decode cc pc = .ok (.getfield 44, 3)) (kk : W p l e R s m args below meth c H locs cells slots Q (F0 m (pc + 3) ls (v :: rest))) : W p l e R s m args below meth c H locs cells slots Q (F0 m pc ls (.ref a :: rest)) := w_get (T := TX4) (N := 11) S hK E fw_X4 he rfl (by decide) fl_X4_44 rfl hv hdg kk
theorem wp_X4_44 {a : Nat} {fs : List Value} {v : Value} {w' : va_W} (S : Sta p c cc s args RX4 m) (hK : va_K g.1 vwC (tysG g) s) (E : Ev g A H0 H locs ws) (q0 : Nat) (he : ws[q0]? = some (a, .inr (4, fs))) (hn : narrow (tyX4 10) v = v) (hfit : fits (tyX4 10) v = true) (hl : 10 < fs.length) (hw : ws.set q0 (a, .inr (4, fs.set 10 v)) = w') (hdg : decode cc pc = .ok (.putfield 44, 3)) (kk : ∀ (H1 : Heap) (locs1 : List Loc), Ev g A H0 H1 locs1 w' → W p l e R s m args below meth c H1 locs1 cells slots Q (F0 m (pc + 3) ls rest)) : W p l e R s m args below meth c H locs cells slots Q (F0 m pc ls (v :: .ref a :: rest)) := w_put (T := TX4) (N := 11) S hK E fw_X4 tyX4 tyX4_ok nmX4 he rfl (by decide) fl_X4_44 rfl rfl rfl hn hfit hl hw hdg kk
theorem wg_X5_188 {a : Nat} {fs : List Value} {v : Value} (S : Sta p c cc s args RX5 m) (hK : va_K g.1 vwC (tysG g) s) (E : Ev g A H0 H locs ws) (q0 : Nat) (he : ws[q0]? = some (a, .inr (4, fs))) (hv : fs[10]? = some v) (hdg : decode cc pc = .ok (.getfield 188, 3)) (kk : W p l e R s m args below meth c H locs cells slots Q (F0 m (pc + 3) ls (v :: rest))) : W p l e R s m args below meth c H locs cells slots Q (F0 m pc ls (.ref a :: rest)) := w_get (T := TX4) (N := 11) S hK E fw_X4 he rfl (by decide) fl_X5_188 rfl hv hdg kk
theorem wp_X5_188 {a : Nat} {fs : List Value} {v : Value} {w' : va_W} (S : Sta p c cc s args RX5 m) (hK : va_K g.1 vwC (tysG g) s) (E : Ev g A H0 H locs ws) (q0 : Nat) (he : ws[q0]? = some (a, .inr (4, fs))) (hn : narrow (tyX4 10) v = v) (hfit : fits (tyX4 10) v = true) (hl : 10 < fs.length) (hw : ws.set q0 (a, .inr (4, fs.set 10 v)) = w') (hdg : decode cc pc = .ok (.putfield 188, 3)) (kk : ∀ (H1 : Heap) (locs1 : List Loc), Ev g A H0 H1 locs1 w' → W p l e R s m args below meth c H1 locs1 cells slots Q (F0 m (pc + 3) ls rest)) : W p l e R s m args below meth c H locs cells slots Q (F0 m pc ls (v :: .ref a :: rest)) := w_put (T := TX4) (N := 11) S hK E fw_X4 tyX4 tyX4_ok nmX4 he rfl (by decide) fl_X5_188 rfl rfl rfl hn hfit hl hw hdg kk
theorem wg_X6_91 {a : Nat} {fs : List Value} {v : Value} (S : Sta p c cc s args RX6 m) (hK : va_K g.1 vwC (tysG g) s) (E : Ev g A H0 H locs ws) (q0 : Nat) (he : ws[q0]? = some (a, .inr (4, fs))) (hv : fs[10]? = some v) (hdg : decode cc pc = .ok (.getfield 91, 3)) (kk : W p l e R s m args below meth c H locs cells slots Q (F0 m (pc + 3) ls (v :: rest))) : W p l e R s m args below meth c H locs cells slots Q (F0 m pc ls (.ref a :: rest)) := w_get (T := TX4) (N := 11) S hK E fw_X4 he rfl (by decide) fl_X6_91 rfl hv hdg kk
theorem wp_X6_91 {a : Nat} {fs : List Value} {v : Value} {w' : va_W} (S : Sta p c cc s args RX6 m) (hK : va_K g.1 vwC (tysG g) s) (E : Ev g A H0 H locs ws) (q0 : Nat) (he : ws[q0]? = some (a, .inr (4, fs))) (hn : narrow (tyX4 10) v = v) (hfit : fits (tyX4 10) v = true) (hl : 10 < fs.length) (hw : ws.set q0 (a, .inr (4, fs.set 10 v)) = w') (hdg : decode cc pc = .ok (.putfield 91, 3)) (kk : ∀ (H1 : Heap) (locs1 : List Loc), Ev g A H0 H1 locs1 w' → W p l e R s m args below meth c H1 locs1 cells slots Q (F0 m (pc + 3) ls rest)) : W p l e R s m args below meth c H locs cells slots Q (F0 m pc ls (v :: .ref a :: rest)) := w_put (T := TX4) (N := 11) S hK E fw_X4 tyX4 tyX4_ok nmX4 he rfl (by decide) fl_X6_91 rfl rfl rfl hn hfit hl hw hdg kk
theorem wg_X0_7 {a : Nat} {fs : List Value} {v : Value} (S : Sta p c cc s args RX0 m) (hK : va_K g.1 vwC (tysG g) s) (E : Ev g A H0 H locs ws) (q0 : Nat) (he : ws[q0]? = some (a, .inr (0, fs))) (hv : fs[0]? = some v) (hdg : decode cc pc = .ok (.getfield 7, 3)) (kk : W p l e R s m args below meth c H locs cells slots Q (F0 m (pc + 3) ls (v :: rest))) : W p l e R s m args below meth c H locs cells slots Q (F0 m pc ls (.ref a :: rest)) := w_get (T := TX0) (N := 1) S hK E fw_X0 he rfl (by decide) fl_X0_7 rfl hv hdg kk
theorem wg_X5_147 {a : Nat} {fs : List Value} {v : Value} (S : Sta p c cc s args RX5 m) (hK : va_K g.1 vwC (tysG g) s) (E : Ev g A H0 H locs ws) (q0 : Nat) (he : ws[q0]? = some (a, .inr (0, fs))) (hv : fs[0]? = some v) (hdg : decode cc pc = .ok (.getfield 147, 3)) (kk : W p l e R s m args below meth c H locs cells slots Q (F0 m (pc + 3) ls (v :: rest))) : W p l e R s m args below meth c H locs cells slots Q (F0 m pc ls (.ref a :: rest)) := w_get (T := TX0) (N := 1) S hK E fw_X0 he rfl (by decide) fl_X5_147 rfl hv hdg kk
theorem wg_X6_198 {a : Nat} {fs : List Value} {v : Value} (S : Sta p c cc s args RX6 m) (hK : va_K g.1 vwC (tysG g) s) (E : Ev g A H0 H locs ws) (q0 : Nat) (he : ws[q0]? = some (a, .inr (0, fs))) (hv : fs[0]? = some v) (hdg : decode cc pc = .ok (.getfield 198, 3)) (kk : W p l e R s m args below meth c H locs cells slots Q (F0 m (pc + 3) ls (v :: rest))) : W p l e R s m args below meth c H locs cells slots Q (F0 m pc ls (.ref a :: rest)) := w_get (T := TX0) (N := 1) S hK E fw_X0 he rfl (by decide) fl_X6_198 rfl hv hdg kk
theorem wg_X5_12 {a : Nat} {fs : List Value} {v : Value} (S : Sta p c cc s args RX5 m) (hK : va_K g.1 vwC (tysG g) s) (E : Ev g A H0 H locs ws) (q0 : Nat) (he : ws[q0]? = some (a, .inr (5, fs))) (hv : fs[0]? = some v) (hdg : decode cc pc = .ok (.getfield 12, 3)) (kk : W p l e R s m args below meth c H locs cells slots Q (F0 m (pc + 3) ls (v :: rest))) : W p l e R s m args below meth c H locs cells slots Q (F0 m pc ls (.ref a :: rest)) := w_get (T := TX5) (N := 12) S hK E fw_X5 he rfl (by decide) fl_X5_12 rfl hv hdg kk
theorem wg_X6_40 {a : Nat} {fs : List Value} {v : Value} (S : Sta p c cc s args RX6 m) (hK : va_K g.1 vwC (tysG g) s) (E : Ev g A H0 H locs ws) (q0 : Nat) (he : ws[q0]? = some (a, .inr (5, fs))) (hv : fs[0]? = some v) (hdg : decode cc pc = .ok (.getfield 40, 3)) (kk : W p l e R s m args below meth c H locs cells slots Q (F0 m (pc + 3) ls (v :: rest))) : W p l e R s m args below meth c H locs cells slots Q (F0 m pc ls (.ref a :: rest)) := w_get (T := TX5) (N := 12) S hK E fw_X5 he rfl (by decide) fl_X6_40 rfl hv hdg kk
theorem wg_X5_21 {a : Nat} {fs : List Value} {v : Value} (S : Sta p c cc s args RX5 m) (hK : va_K g.1 vwC (tysG g) s) (E : Ev g A H0 H locs ws) (q0 : Nat) (he : ws[q0]? = some (a, .inr (5, fs))) (hv : fs[1]? = some v) (hdg : decode cc pc = .ok (.getfield 21, 3)) (kk : W p l e R s m args below meth c H locs cells slots Q (F0 m (pc + 3) ls (v :: rest))) : W p l e R s m args below meth c H locs cells slots Q (F0 m pc ls (.ref a :: rest)) := w_get (T := TX5) (N := 12) S hK E fw_X5 he rfl (by decide) fl_X5_21 rfl hv hdg kk
theorem wg_X6_59 {a : Nat} {fs : List Value} {v : Value} (S : Sta p c cc s args RX6 m) (hK : va_K g.1 vwC (tysG g) s) (E : Ev g A H0 H locs ws) (q0 : Nat) (he : ws[q0]? = some (a, .inr (5, fs))) (hv : fs[1]? = some v) (hdg : decode cc pc = .ok (.getfield 59, 3)) (kk : W p l e R s m args below meth c H locs cells slots Q (F0 m (pc + 3) ls (v :: rest))) : W p l e R s m args below meth c H locs cells slots Q (F0 m pc ls (.ref a :: rest)) := w_get (T := TX5) (N := 12) S hK E fw_X5 he rfl (by decide) fl_X6_59 rfl hv hdg kk
theorem wg_X5_28 {a : Nat} {fs : List Value} {v : Value} (S : Sta p c cc s args RX5 m) (hK : va_K g.1 vwC (tysG g) s) (E : Ev g A H0 H locs ws) (q0 : Nat) (he : ws[q0]? = some (a, .inr (5, fs))) (hv : fs[2]? = some v) (hdg : decode cc pc = .ok (.getfield 28, 3)) (kk : W p l e R s m args below meth c H locs cells slots Q (F0 m (pc + 3) ls (v :: rest))) : W p l e R s m args below meth c H locs cells slots Q (F0 m pc ls (.ref a :: rest)) := w_get (T := TX5) (N := 12) S hK E fw_X5 he rfl (by decide) fl_X5_28 rfl hv hdg kk
theorem wg_X6_87 {a : Nat} {fs : List Value} {v : Value} (S : Sta p c cc s args RX6 m) (hK : va_K g.1 vwC (tysG g) s) (E : Ev g A H0 H locs ws) (q0 : Nat) (he : ws[q0]? = some (a, .inr (5, fs))) (hv : fs[2]? = some v) (hdg : decode cc pc = .ok (.getfield 87, 3)) (kk : W p l e R s m args below meth c H locs cells slots Q (F0 m (pc + 3) ls (v :: rest))) : W p l e R s m args below meth c H locs cells slots Q (F0 m pc ls (.ref a :: rest)) := w_get (T := TX5) (N := 12) S hK E fw_X5 he rfl (by decide) fl_X6_87 rfl hv hdg kk
theorem wg_X5_35 {a : Nat} {fs : List Value} {v : Value} (S : Sta p c cc s args RX5 m) (hK : va_K g.1 vwC (tysG g) s) (E : Ev g A H0 H locs ws) (q0 : Nat) (he : ws[q0]? = some (a, .inr (5, fs))) (hv : fs[3]? = some v) (hdg : decode cc pc = .ok (.getfield 35, 3)) (kk : W p l e R s m args below meth c H locs cells slots Q (F0 m (pc + 3) ls (v :: rest))) : W p l e R s m args below meth c H locs cells slots Q (F0 m pc ls (.ref a :: rest)) := w_get (T := TX5) (N := 12) S hK E fw_X5 he rfl (by decide) fl_X5_35 rfl hv hdg kk
theorem wg_X6_194 {a : Nat} {fs : List Value} {v : Value} (S : Sta p c cc s args RX6 m) (hK : va_K g.1 vwC (tysG g) s) (E : Ev g A H0 H locs ws) (q0 : Nat) (he : ws[q0]? = some (a, .inr (5, fs))) (hv : fs[3]? = some v) (hdg : decode cc pc = .ok (.getfield 194, 3)) (kk : W p l e R s m args below meth c H locs cells slots Q (F0 m (pc + 3) ls (v :: rest))) : W p l e R s m args below meth c H locs cells slots Q (F0 m pc ls (.ref a :: rest)) := w_get (T := TX5) (N := 12) S hK E fw_X5 he rfl (by decide) fl_X6_194 rfl hv hdg kk
theorem wg_X5_42 {a : Nat} {fs : List Value} {v : Value} (S : Sta p c cc s args RX5 m) (hK : va_K g.1 vwC (tysG g) s) (E : Ev g A H0 H locs ws) (q0 : Nat) (he : ws[q0]? = some (a, .inr (5, fs))) (hv : fs[4]? = some v) (hdg : decode cc pc = .ok (.getfield 42, 3)) (kk : W p l e R s m args below meth c H locs cells slots Q (F0 m (pc + 3) ls (v :: rest))) : W p l e R s m args below meth c H locs cells slots Q (F0 m pc ls (.ref a :: rest)) := w_get (T := TX5) (N := 12) S hK E fw_X5 he rfl (by decide) fl_X5_42 rfl hv hdg kk
theorem wg_X6_166 {a : Nat} {fs : List Value} {v : Value} (S : Sta p c cc s args RX6 m) (hK : va_K g.1 vwC (tysG g) s) (E : Ev g A H0 H locs ws) (q0 : Nat) (he : ws[q0]? = some (a, .inr (5, fs))) (hv : fs[4]? = some v) (hdg : decode cc pc = .ok (.getfield 166, 3)) (kk : W p l e R s m args below meth c H locs cells slots Q (F0 m (pc + 3) ls (v :: rest))) : W p l e R s m args below meth c H locs cells slots Q (F0 m pc ls (.ref a :: rest)) := w_get (T := TX5) (N := 12) S hK E fw_X5 he rfl (by decide) fl_X6_166 rfl hv hdg kk
theorem wg_X5_46 {a : Nat} {fs : List Value} {v : Value} (S : Sta p c cc s args RX5 m) (hK : va_K g.1 vwC (tysG g) s) (E : Ev g A H0 H locs ws) (q0 : Nat) (he : ws[q0]? = some (a, .inr (5, fs))) (hv : fs[5]? = some v) (hdg : decode cc pc = .ok (.getfield 46, 3)) (kk : W p l e R s m args below meth c H locs cells slots Q (F0 m (pc + 3) ls (v :: rest))) : W p l e R s m args below meth c H locs cells slots Q (F0 m pc ls (.ref a :: rest)) := w_get (T := TX5) (N := 12) S hK E fw_X5 he rfl (by decide) fl_X5_46 rfl hv hdg kk
theorem wg_X5_50 {a : Nat} {fs : List Value} {v : Value} (S : Sta p c cc s args RX5 m) (hK : va_K g.1 vwC (tysG g) s) (E : Ev g A H0 H locs ws) (q0 : Nat) (he : ws[q0]? = some (a, .inr (5, fs))) (hv : fs[6]? = some v) (hdg : decode cc pc = .ok (.getfield 50, 3)) (kk : W p l e R s m args below meth c H locs cells slots Q (F0 m (pc + 3) ls (v :: rest))) : W p l e R s m args below meth c H locs cells slots Q (F0 m pc ls (.ref a :: rest)) := w_get (T := TX5) (N := 12) S hK E fw_X5 he rfl (by decide) fl_X5_50 rfl hv hdg kk
theorem wg_X5_53 {a : Nat} {fs : List Value} {v : Value} (S : Sta p c cc s args RX5 m) (hK : va_K g.1 vwC (tysG g) s) (E : Ev g A H0 H locs ws) (q0 : Nat) (he : ws[q0]? = some (a, .inr (5, fs))) (hv : fs[7]? = some v) (hdg : decode cc pc = .ok (.getfield 53, 3)) (kk : W p l e R s m args below meth c H locs cells slots Q (F0 m (pc + 3) ls (v :: rest))) : W p l e R s m args below meth c H locs cells slots Q (F0 m pc ls (.ref a :: rest)) := w_get (T := TX5) (N := 12) S hK E fw_X5 he rfl (by decide) fl_X5_53 rfl hv hdg kk
theorem wg_X5_56 {a : Nat} {fs : List Value} {v : Value} (S : Sta p c cc s args RX5 m) (hK : va_K g.1 vwC (tysG g) s) (E : Ev g A H0 H locs ws) (q0 : Nat) (he : ws[q0]? = some (a, .inr (5, fs))) (hv : fs[8]? = some v) (hdg : decode cc pc = .ok (.getfield 56, 3)) (kk : W p l e R s m args below meth c H locs cells slots Q (F0 m (pc + 3) ls (v :: rest))) : W p l e R s m args below meth c H locs cells slots Q (F0 m pc ls (.ref a :: rest)) := w_get (T := TX5) (N := 12) S hK E fw_X5 he rfl (by decide) fl_X5_56 rfl hv hdg kk
theorem wg_X5_60 {a : Nat} {fs : List Value} {v : Value} (S : Sta p c cc s args RX5 m) (hK : va_K g.1 vwC (tysG g) s) (E : Ev g A H0 H locs ws) (q0 : Nat) (he : ws[q0]? = some (a, .inr (5, fs))) (hv : fs[9]? = some v) (hdg : decode cc pc = .ok (.getfield 60, 3)) (kk : W p l e R s m args below meth c H locs cells slots Q (F0 m (pc + 3) ls (v :: rest))) : W p l e R s m args below meth c H locs cells slots Q (F0 m pc ls (.ref a :: rest)) := w_get (T := TX5) (N := 12) S hK E fw_X5 he rfl (by decide) fl_X5_60 rfl hv hdg kk
theorem wg_X6_122 {a : Nat} {fs : List Value} {v : Value} (S : Sta p c cc s args RX6 m) (hK : va_K g.1 vwC (tysG g) s) (E : Ev g A H0 H locs ws) (q0 : Nat) (he : ws[q0]? = some (a, .inr (5, fs))) (hv : fs[10]? = some v) (hdg : decode cc pc = .ok (.getfield 122, 3)) (kk : W p l e R s m args below meth c H locs cells slots Q (F0 m (pc + 3) ls (v :: rest))) : W p l e R s m args below meth c H locs cells slots Q (F0 m pc ls (.ref a :: rest)) := w_get (T := TX5) (N := 12) S hK E fw_X5 he rfl (by decide) fl_X6_122 rfl hv hdg kk
theorem wp_X6_122 {a : Nat} {fs : List Value} {v : Value} {w' : va_W} (S : Sta p c cc s args RX6 m) (hK : va_K g.1 vwC (tysG g) s) (E : Ev g A H0 H locs ws) (q0 : Nat) (he : ws[q0]? = some (a, .inr (5, fs))) (hn : narrow (tyX5 10) v = v) (hfit : fits (tyX5 10) v = true) (hl : 10 < fs.length) (hw : ws.set q0 (a, .inr (5, fs.set 10 v)) = w') (hdg : decode cc pc = .ok (.putfield 122, 3)) (kk : ∀ (H1 : Heap) (locs1 : List Loc), Ev g A H0 H1 locs1 w' → W p l e R s m args below meth c H1 locs1 cells slots Q (F0 m (pc + 3) ls rest)) : W p l e R s m args below meth c H locs cells slots Q (F0 m pc ls (v :: .ref a :: rest)) := w_put (T := TX5) (N := 12) S hK E fw_X5 tyX5 tyX5_ok nmX5 he rfl (by decide) fl_X6_122 rfl rfl rfl hn hfit hl hw hdg kk
theorem wg_X5_244 {a : Nat} {fs : List Value} {v : Value} (S : Sta p c cc s args RX5 m) (hK : va_K g.1 vwC (tysG g) s) (E : Ev g A H0 H locs ws) (q0 : Nat) (he : ws[q0]? = some (a, .inr (5, fs))) (hv : fs[10]? = some v) (hdg : decode cc pc = .ok (.getfield 244, 3)) (kk : W p l e R s m args below meth c H locs cells slots Q (F0 m (pc + 3) ls (v :: rest))) : W p l e R s m args below meth c H locs cells slots Q (F0 m pc ls (.ref a :: rest)) := w_get (T := TX5) (N := 12) S hK E fw_X5 he rfl (by decide) fl_X5_244 rfl hv hdg kk
theorem wp_X5_244 {a : Nat} {fs : List Value} {v : Value} {w' : va_W} (S : Sta p c cc s args RX5 m) (hK : va_K g.1 vwC (tysG g) s) (E : Ev g A H0 H locs ws) (q0 : Nat) (he : ws[q0]? = some (a, .inr (5, fs))) (hn : narrow (tyX5 10) v = v) (hfit : fits (tyX5 10) v = true) (hl : 10 < fs.length) (hw : ws.set q0 (a, .inr (5, fs.set 10 v)) = w') (hdg : decode cc pc = .ok (.putfield 244, 3)) (kk : ∀ (H1 : Heap) (locs1 : List Loc), Ev g A H0 H1 locs1 w' → W p l e R s m args below meth c H1 locs1 cells slots Q (F0 m (pc + 3) ls rest)) : W p l e R s m args below meth c H locs cells slots Q (F0 m pc ls (v :: .ref a :: rest)) := w_put (T := TX5) (N := 12) S hK E fw_X5 tyX5 tyX5_ok nmX5 he rfl (by decide) fl_X5_244 rfl rfl rfl hn hfit hl hw hdg kk
theorem wg_X5_64 {a : Nat} {fs : List Value} {v : Value} (S : Sta p c cc s args RX5 m) (hK : va_K g.1 vwC (tysG g) s) (E : Ev g A H0 H locs ws) (q0 : Nat) (he : ws[q0]? = some (a, .inr (5, fs))) (hv : fs[11]? = some v) (hdg : decode cc pc = .ok (.getfield 64, 3)) (kk : W p l e R s m args below meth c H locs cells slots Q (F0 m (pc + 3) ls (v :: rest))) : W p l e R s m args below meth c H locs cells slots Q (F0 m pc ls (.ref a :: rest)) := w_get (T := TX5) (N := 12) S hK E fw_X5 he rfl (by decide) fl_X5_64 rfl hv hdg kk
theorem wp_X5_64 {a : Nat} {fs : List Value} {v : Value} {w' : va_W} (S : Sta p c cc s args RX5 m) (hK : va_K g.1 vwC (tysG g) s) (E : Ev g A H0 H locs ws) (q0 : Nat) (he : ws[q0]? = some (a, .inr (5, fs))) (hn : narrow (tyX5 11) v = v) (hfit : fits (tyX5 11) v = true) (hl : 11 < fs.length) (hw : ws.set q0 (a, .inr (5, fs.set 11 v)) = w') (hdg : decode cc pc = .ok (.putfield 64, 3)) (kk : ∀ (H1 : Heap) (locs1 : List Loc), Ev g A H0 H1 locs1 w' → W p l e R s m args below meth c H1 locs1 cells slots Q (F0 m (pc + 3) ls rest)) : W p l e R s m args below meth c H locs cells slots Q (F0 m pc ls (v :: .ref a :: rest)) := w_put (T := TX5) (N := 12) S hK E fw_X5 tyX5 tyX5_ok nmX5 he rfl (by decide) fl_X5_64 rfl rfl rfl hn hfit hl hw hdg kk
theorem wg_Jx4a65c_9 {a : Nat} {fs : List Value} {v : Value} (S : Sta p c cc s args RJx4a65c m) (hK : va_K g.1 vwC (tysG g) s) (E : Ev g A H0 H locs ws) (q0 : Nat) (he : ws[q0]? = some (a, .inr (8, fs))) (hv : fs[1]? = some v) (hdg : decode cc pc = .ok (.getfield 9, 3)) (kk : W p l e R s m args below meth c H locs cells slots Q (F0 m (pc + 3) ls (v :: rest))) : W p l e R s m args below meth c H locs cells slots Q (F0 m pc ls (.ref a :: rest)) := w_get (T := TJx4a65c) (N := 3) S hK E fw_Jx4a65c he rfl (by decide) fl_Jx4a65c_9 rfl hv hdg kk
theorem wp_Jx4a65c_9 {a : Nat} {fs : List Value} {v : Value} {w' : va_W} (S : Sta p c cc s args RJx4a65c m) (hK : va_K g.1 vwC (tysG g) s) (E : Ev g A H0 H locs ws) (q0 : Nat) (he : ws[q0]? = some (a, .inr (8, fs))) (hn : narrow (tyJx4a65c 1) v = v) (hfit : fits (tyJx4a65c 1) v = true) (hl : 1 < fs.length) (hw : ws.set q0 (a, .inr (8, fs.set 1 v)) = w') (hdg : decode cc pc = .ok (.putfield 9, 3)) (kk : ∀ (H1 : Heap) (locs1 : List Loc), Ev g A H0 H1 locs1 w' → W p l e R s m args below meth c H1 locs1 cells slots Q (F0 m (pc + 3) ls rest)) : W p l e R s m args below meth c H locs cells slots Q (F0 m pc ls (v :: .ref a :: rest)) := w_put (T := TJx4a65c) (N := 3) S hK E fw_Jx4a65c tyJx4a65c tyJx4a65c_ok nmJx4a65c he rfl (by decide) fl_Jx4a65c_9 rfl rfl rfl hn hfit hl hw hdg kk
theorem wg_Jx4a65c_48 {a : Nat} {fs : List Value} {v : Value} (S : Sta p c cc s args RJx4a65c m) (hK : va_K g.1 vwC (tysG g) s) (E : Ev g A H0 H locs ws) (q0 : Nat) (he : ws[q0]? = some (a, .inr (8, fs))) (hv : fs[2]? = some v) (hdg : decode cc pc = .ok (.getfield 48, 3)) (kk : W p l e R s m args below meth c H locs cells slots Q (F0 m (pc + 3) ls (v :: rest))) : W p l e R s m args below meth c H locs cells slots Q (F0 m pc ls (.ref a :: rest)) := w_get (T := TJx4a65c) (N := 3) S hK E fw_Jx4a65c he rfl (by decide) fl_Jx4a65c_48 rfl hv hdg kk
theorem wp_Jx4a65c_48 {a : Nat} {fs : List Value} {v : Value} {w' : va_W} (S : Sta p c cc s args RJx4a65c m) (hK : va_K g.1 vwC (tysG g) s) (E : Ev g A H0 H locs ws) (q0 : Nat) (he : ws[q0]? = some (a, .inr (8, fs))) (hn : narrow (tyJx4a65c 2) v = v) (hfit : fits (tyJx4a65c 2) v = true) (hl : 2 < fs.length) (hw : ws.set q0 (a, .inr (8, fs.set 2 v)) = w') (hdg : decode cc pc = .ok (.putfield 48, 3)) (kk : ∀ (H1 : Heap) (locs1 : List Loc), Ev g A H0 H1 locs1 w' → W p l e R s m args below meth c H1 locs1 cells slots Q (F0 m (pc + 3) ls rest)) : W p l e R s m args below meth c H locs cells slots Q (F0 m pc ls (v :: .ref a :: rest)) := w_put (T := TJx4a65c) (N := 3) S hK E fw_Jx4a65c tyJx4a65c tyJx4a65c_ok nmJx4a65c he rfl (by decide) fl_Jx4a65c_48 rfl rfl rfl hn hfit hl hw hdg kk
theorem wg_X6_14 {a : Nat} {fs : List Value} {v : Value} (S : Sta p c cc s args RX6 m) (hK : va_K g.1 vwC (tysG g) s) (E : Ev g A H0 H locs ws) (q0 : Nat) (he : ws[q0]? = some (a, .inr (6, fs))) (hv : fs[0]? = some v) (hdg : decode cc pc = .ok (.getfield 14, 3)) (kk : W p l e R s m args below meth c H locs cells slots Q (F0 m (pc + 3) ls (v :: rest))) : W p l e R s m args below meth c H locs cells slots Q (F0 m pc ls (.ref a :: rest)) := w_get (T := TX6) (N := 4) S hK E fw_X6 he rfl (by decide) fl_X6_14 rfl hv hdg kk
theorem wg_X6_18 {a : Nat} {fs : List Value} {v : Value} (S : Sta p c cc s args RX6 m) (hK : va_K g.1 vwC (tysG g) s) (E : Ev g A H0 H locs ws) (q0 : Nat) (he : ws[q0]? = some (a, .inr (6, fs))) (hv : fs[1]? = some v) (hdg : decode cc pc = .ok (.getfield 18, 3)) (kk : W p l e R s m args below meth c H locs cells slots Q (F0 m (pc + 3) ls (v :: rest))) : W p l e R s m args below meth c H locs cells slots Q (F0 m pc ls (.ref a :: rest)) := w_get (T := TX6) (N := 4) S hK E fw_X6 he rfl (by decide) fl_X6_18 rfl hv hdg kk
theorem wg_X6_21 {a : Nat} {fs : List Value} {v : Value} (S : Sta p c cc s args RX6 m) (hK : va_K g.1 vwC (tysG g) s) (E : Ev g A H0 H locs ws) (q0 : Nat) (he : ws[q0]? = some (a, .inr (6, fs))) (hv : fs[2]? = some v) (hdg : decode cc pc = .ok (.getfield 21, 3)) (kk : W p l e R s m args below meth c H locs cells slots Q (F0 m (pc + 3) ls (v :: rest))) : W p l e R s m args below meth c H locs cells slots Q (F0 m pc ls (.ref a :: rest)) := w_get (T := TX6) (N := 4) S hK E fw_X6 he rfl (by decide) fl_X6_21 rfl hv hdg kk
theorem wg_X6_28 {a : Nat} {fs : List Value} {v : Value} (S : Sta p c cc s args RX6 m) (hK : va_K g.1 vwC (tysG g) s) (E : Ev g A H0 H locs ws) (q0 : Nat) (he : ws[q0]? = some (a, .inr (6, fs))) (hv : fs[3]? = some v) (hdg : decode cc pc = .ok (.getfield 28, 3)) (kk : W p l e R s m args below meth c H locs cells slots Q (F0 m (pc + 3) ls (v :: rest))) : W p l e R s m args below meth c H locs cells slots Q (F0 m pc ls (.ref a :: rest)) := w_get (T := TX6) (N := 4) S hK E fw_X6 he rfl (by decide) fl_X6_28 rfl hv hdg kk
theorem wg_X1_7 {a : Nat} {fs : List Value} {v : Value} (S : Sta p c cc s args RX1 m) (hK : va_K g.1 vwC (tysG g) s) (E : Ev g A H0 H locs ws) (q0 : Nat) (he : ws[q0]? = some (a, .inr (1, fs))) (hv : fs[0]? = some v) (hdg : decode cc pc = .ok (.getfield 7, 3)) (kk : W p l e R s m args below meth c H locs cells slots Q (F0 m (pc + 3) ls (v :: rest))) : W p l e R s m args below meth c H locs cells slots Q (F0 m pc ls (.ref a :: rest)) := w_get (T := TX1) (N := 5) S hK E fw_X1 he rfl (by decide) fl_X1_7 rfl hv hdg kk
theorem wg_X5_83 {a : Nat} {fs : List Value} {v : Value} (S : Sta p c cc s args RX5 m) (hK : va_K g.1 vwC (tysG g) s) (E : Ev g A H0 H locs ws) (q0 : Nat) (he : ws[q0]? = some (a, .inr (1, fs))) (hv : fs[0]? = some v) (hdg : decode cc pc = .ok (.getfield 83, 3)) (kk : W p l e R s m args below meth c H locs cells slots Q (F0 m (pc + 3) ls (v :: rest))) : W p l e R s m args below meth c H locs cells slots Q (F0 m pc ls (.ref a :: rest)) := w_get (T := TX1) (N := 5) S hK E fw_X1 he rfl (by decide) fl_X5_83 rfl hv hdg kk
theorem wg_X1_13 {a : Nat} {fs : List Value} {v : Value} (S : Sta p c cc s args RX1 m) (hK : va_K g.1 vwC (tysG g) s) (E : Ev g A H0 H locs ws) (q0 : Nat) (he : ws[q0]? = some (a, .inr (1, fs))) (hv : fs[1]? = some v) (hdg : decode cc pc = .ok (.getfield 13, 3)) (kk : W p l e R s m args below meth c H locs cells slots Q (F0 m (pc + 3) ls (v :: rest))) : W p l e R s m args below meth c H locs cells slots Q (F0 m pc ls (.ref a :: rest)) := w_get (T := TX1) (N := 5) S hK E fw_X1 he rfl (by decide) fl_X1_13 rfl hv hdg kk
theorem wg_X5_86 {a : Nat} {fs : List Value} {v : Value} (S : Sta p c cc s args RX5 m) (hK : va_K g.1 vwC (tysG g) s) (E : Ev g A H0 H locs ws) (q0 : Nat) (he : ws[q0]? = some (a, .inr (1, fs))) (hv : fs[1]? = some v) (hdg : decode cc pc = .ok (.getfield 86, 3)) (kk : W p l e R s m args below meth c H locs cells slots Q (F0 m (pc + 3) ls (v :: rest))) : W p l e R s m args below meth c H locs cells slots Q (F0 m pc ls (.ref a :: rest)) := w_get (T := TX1) (N := 5) S hK E fw_X1 he rfl (by decide) fl_X5_86 rfl hv hdg kk
theorem wg_X1_16 {a : Nat} {fs : List Value} {v : Value} (S : Sta p c cc s args RX1 m) (hK : va_K g.1 vwC (tysG g) s) (E : Ev g A H0 H locs ws) (q0 : Nat) (he : ws[q0]? = some (a, .inr (1, fs))) (hv : fs[2]? = some v) (hdg : decode cc pc = .ok (.getfield 16, 3)) (kk : W p l e R s m args below meth c H locs cells slots Q (F0 m (pc + 3) ls (v :: rest))) : W p l e R s m args below meth c H locs cells slots Q (F0 m pc ls (.ref a :: rest)) := w_get (T := TX1) (N := 5) S hK E fw_X1 he rfl (by decide) fl_X1_16 rfl hv hdg kk
theorem wg_X5_89 {a : Nat} {fs : List Value} {v : Value} (S : Sta p c cc s args RX5 m) (hK : va_K g.1 vwC (tysG g) s) (E : Ev g A H0 H locs ws) (q0 : Nat) (he : ws[q0]? = some (a, .inr (1, fs))) (hv : fs[2]? = some v) (hdg : decode cc pc = .ok (.getfield 89, 3)) (kk : W p l e R s m args below meth c H locs cells slots Q (F0 m (pc + 3) ls (v :: rest))) : W p l e R s m args below meth c H locs cells slots Q (F0 m pc ls (.ref a :: rest)) := w_get (T := TX1) (N := 5) S hK E fw_X1 he rfl (by decide) fl_X5_89 rfl hv hdg kk
theorem wg_X1_19 {a : Nat} {fs : List Value} {v : Value} (S : Sta p c cc s args RX1 m) (hK : va_K g.1 vwC (tysG g) s) (E : Ev g A H0 H locs ws) (q0 : Nat) (he : ws[q0]? = some (a, .inr (1, fs))) (hv : fs[3]? = some v) (hdg : decode cc pc = .ok (.getfield 19, 3)) (kk : W p l e R s m args below meth c H locs cells slots Q (F0 m (pc + 3) ls (v :: rest))) : W p l e R s m args below meth c H locs cells slots Q (F0 m pc ls (.ref a :: rest)) := w_get (T := TX1) (N := 5) S hK E fw_X1 he rfl (by decide) fl_X1_19 rfl hv hdg kk
theorem wg_X5_92 {a : Nat} {fs : List Value} {v : Value} (S : Sta p c cc s args RX5 m) (hK : va_K g.1 vwC (tysG g) s) (E : Ev g A H0 H locs ws) (q0 : Nat) (he : ws[q0]? = some (a, .inr (1, fs))) (hv : fs[3]? = some v) (hdg : decode cc pc = .ok (.getfield 92, 3)) (kk : W p l e R s m args below meth c H locs cells slots Q (F0 m (pc + 3) ls (v :: rest))) : W p l e R s m args below meth c H locs cells slots Q (F0 m pc ls (.ref a :: rest)) := w_get (T := TX1) (N := 5) S hK E fw_X1 he rfl (by decide) fl_X5_92 rfl hv hdg kk
theorem wg_X1_22 {a : Nat} {fs : List Value} {v : Value} (S : Sta p c cc s args RX1 m) (hK : va_K g.1 vwC (tysG g) s) (E : Ev g A H0 H locs ws) (q0 : Nat) (he : ws[q0]? = some (a, .inr (1, fs))) (hv : fs[4]? = some v) (hdg : decode cc pc = .ok (.getfield 22, 3)) (kk : W p l e R s m args below meth c H locs cells slots Q (F0 m (pc + 3) ls (v :: rest))) : W p l e R s m args below meth c H locs cells slots Q (F0 m pc ls (.ref a :: rest)) := w_get (T := TX1) (N := 5) S hK E fw_X1 he rfl (by decide) fl_X1_22 rfl hv hdg kk
theorem wg_X5_95 {a : Nat} {fs : List Value} {v : Value} (S : Sta p c cc s args RX5 m) (hK : va_K g.1 vwC (tysG g) s) (E : Ev g A H0 H locs ws) (q0 : Nat) (he : ws[q0]? = some (a, .inr (1, fs))) (hv : fs[4]? = some v) (hdg : decode cc pc = .ok (.getfield 95, 3)) (kk : W p l e R s m args below meth c H locs cells slots Q (F0 m (pc + 3) ls (v :: rest))) : W p l e R s m args below meth c H locs cells slots Q (F0 m pc ls (.ref a :: rest)) := w_get (T := TX1) (N := 5) S hK E fw_X1 he rfl (by decide) fl_X5_95 rfl hv hdg kk
end FROWS
end
section
/-! WHAT STAYS: Kp says what no method but addWell and the notes changes; WF says that places are places -/
theorem vp_mono {x : Int32} {a b : Nat} (h : vp_in x a) (hab : a ≤ b) : vp_in x b := fun z => h (z.elim Or.inl (fun q => Or.inr (Nat.le_trans hab q)))
theorem g_no {x y : Int32} {a b : Nat} (hx : x = nI a) (hy : y = nI b) (h : a < b) (hb : b < 2 ^ 31) : ¬ y ≤ x := by rw [hx, hy]; exact nI_ge h hb
theorem g_yes {x y : Int32} {a b : Nat} (hx : x = nI a) (hy : y = nI b) (h : b ≤ a) (ha : a < 2 ^ 31) : y ≤ x := by rw [hx, hy]; exact nI_le h ha
def cnt (σ : Sg) : Nat := (gs σ 4).toNatClampNeg
def Kp (τ σ : Sg) : Prop := τ.1 18 = σ.1 18 ∧ τ.1 19 = σ.1 19 ∧ τ.1 27 = σ.1 27 ∧ τ.1 30 = σ.1 30 ∧ gs τ 4 = gs σ 4 ∧ gs τ 5 = gs σ 5 ∧ gs τ 6 = gs σ 6 ∧ gs τ 7 = gs σ 7
theorem Kp.rf {σ : Sg} : Kp σ σ := ⟨rfl, rfl, rfl, rfl, rfl, rfl, rfl, rfl⟩
theorem Kp.tr {a b c : Sg} (h : Kp a b) (k : Kp b c) : Kp a c := ⟨h.1.trans k.1, h.2.1.trans k.2.1, h.2.2.1.trans k.2.2.1, h.2.2.2.1.trans k.2.2.2.1, h.2.2.2.2.1.trans k.2.2.2.2.1, h.2.2.2.2.2.1.trans k.2.2.2.2.2.1, h.2.2.2.2.2.2.1.trans k.2.2.2.2.2.2.1, h.2.2.2.2.2.2.2.trans k.2.2.2.2.2.2.2⟩
theorem si_ne {σ : Sg} {k j : Nat} {x v : Int32} (h : j ≠ k) : (si σ k x v).1 j = σ.1 j := if_neg h
theorem Kp_si {τ σ : Sg} {k : Nat} {x v : Int32} (h : Kp τ σ) (hk : k ≠ 18 ∧ k ≠ 19 ∧ k ≠ 27 ∧ k ≠ 30 ∧ k ≠ 0) : Kp (si τ k x v) σ := by
  obtain ⟨h1, h2, h3, h4, h5⟩ := hk
  refine Kp.tr ⟨si_ne (Ne.symm h1), si_ne (Ne.symm h2), si_ne (Ne.symm h3), si_ne (Ne.symm h4), ?_, ?_, ?_, ?_⟩ h <;> (unfold gs; rw [si_ne (Ne.symm h5)])
theorem Kp_sl {τ σ : Sg} {k : Nat} {x : Int32} {v : Int64} (h : Kp τ σ) : Kp (sl τ k x v) σ := h
theorem Kp_ss {τ σ : Sg} {j : Nat} {v : Int32} (h : Kp τ σ) (hj : j ≠ 4 ∧ j ≠ 5 ∧ j ≠ 6 ∧ j ≠ 7) : Kp (ss τ j v) σ := by
  obtain ⟨h1, h2, h3, h4⟩ := hj
  have e : ∀ i, i ≠ j → gs (ss τ j v) i = gs τ i := fun i hi => pk_un hi
  exact Kp.tr (b := τ) ⟨rfl, rfl, rfl, rfl, e 4 (Ne.symm h1), e 5 (Ne.symm h2), e 6 (Ne.symm h3), e 7 (Ne.symm h4)⟩ h
theorem Kp.cnt {τ σ : Sg} (h : Kp τ σ) : cnt τ = cnt σ := congrArg Int32.toNatClampNeg h.2.2.2.2.1
def WF (σ : Sg) : Prop := (gs σ 4 = nI (cnt σ) ∧ cnt σ ≤ 6) ∧ (∀ w : Nat, w < 6 → vp_in (σ.1 18 w) 16) ∧ ∀ w : Nat, w < 6 → vp_in (σ.1 27 w) 6
theorem Kp.wf {τ σ : Sg} (h : Kp τ σ) (w : WF σ) : WF τ := by
  obtain ⟨⟨a, b⟩, c, d⟩ := w
  refine ⟨⟨?_, ?_⟩, ?_, ?_⟩
  · rw [h.2.2.2.2.1, h.cnt]; exact a
  · rw [h.cnt]; exact b
  · rw [h.1]; exact c
  · rw [h.2.2.1]; exact d
theorem WF.n {σ : Sg} (h : WF σ) : gs σ 4 = nI (cnt σ) := h.1.1
theorem WF.le {σ : Sg} (h : WF σ) : cnt σ ≤ 6 := h.1.2
theorem vp_lt {x : Int32} {n : Nat} (h : vp_in x n) : x.toNatClampNeg < n := Nat.not_le.mp fun q => h (Or.inr q)
theorem WF.c {σ : Sg} {x : Int32} (h : WF σ) (hx : vp_in x 6) : vp_in (gi σ 18 x) 16 := h.2.1 _ (vp_lt hx)
theorem WF.o {σ : Sg} {x : Int32} (h : WF σ) (hx : vp_in x 6) : vp_in (gi σ 27 x) 6 := h.2.2 _ (vp_lt hx)
/-! CELLS, and small ones: by program out of the bytecode; f_.. is what a method makes of the state -/
def f_X2_height (σ : Sg) (x : Int32) : Int32 := if 1 ≤ (gi σ 9 x) then ((gi σ 8 x) + ((gi σ 10 x) / (gi σ 9 x))) else (gi σ 8 x)
set_option maxHeartbeats 4000000 in
set_option maxRecDepth 100000 in
/-- Cells.height -/
theorem c_X2_height (l : Launch) (g : Gm) (ad : Nat → Nat) (lo ke fo : Int32) (ea : Nat) (σ : Sg) (x : Int32) (q_x : vp_in x 16) : MXi l g yX2_height cX2_height 3 .int ({ frames := 0, cells := 0, slots := 0, locals := 0 } : Room) [.ref (ad 1), .int x] (wsW g ad lo ke fo ea σ) (fun (r : Int32) (u : Sg) => r = f_X2_height σ x ∧ u = σ) (wsW g ad lo ke fo ea) (fun _ => (0, 0)) := by
  intro sz tt
  refine ofX RX2 rfl (by decide +kernel) (Nat.le_of_ble_eq_true rfl) (fun p e s m args below meth c hargs S hml hr hlk hnm hsz htt hK hA hZ E ls hl => ?_)
  have hx := S.1
  have hb := S.2.1
  have hl : lv_has ls 3 [(0, .ref (ad 1)), (1, .int x)] := hl
  refine lv_aload_n hx hb dX2_height_0 rfl (lv_at hl 0 rfl) ?_
  refine wg_X2_15 (v := .ref (ad 9)) S hK E 1 rfl rfl dX2_height_1 ?_
  refine lv_iload_n hx hb dX2_height_4 rfl (lv_at hl 1 rfl) ?_
  refine w_ild (v := gi σ 9 x) S hK E 9 0 rfl rfl q_x rfl dX2_height_5 ?_
  refine lv_istore_n (lv' := [(2, .int (gi σ 9 x)), (0, .ref (ad 1)), (1, .int x)]) hx hb dX2_height_6 rfl hl (by decide) rfl (fun ls hl => ?_)
  refine lv_iload_n hx hb dX2_height_7 rfl (lv_at hl 0 rfl) ?_
  refine lv_iconst (v := 1) hx hb dX2_height_8 (by decide) ?_
  refine lv_icmp_ge (tgt := 21) hx hb dX2_height_9 (by decide) (fun c1 => ?_) (fun c1 => ?_)
  · have c1 : 1 ≤ (gi σ 9 x) := c1
    refine lv_aload_n hx hb dX2_height_21 rfl (lv_at hl 1 rfl) ?_
    refine wg_X2_9 (v := .ref (ad 8)) S hK E 1 rfl rfl dX2_height_22 ?_
    refine lv_iload_n hx hb dX2_height_25 rfl (lv_at hl 2 rfl) ?_
    refine w_ild (v := gi σ 8 x) S hK E 8 0 rfl rfl q_x rfl dX2_height_26 ?_
    refine lv_aload_n hx hb dX2_height_27 rfl (lv_at hl 1 rfl) ?_
    refine wg_X2_18 (v := .ref (ad 10)) S hK E 1 rfl rfl dX2_height_28 ?_
    refine lv_iload_n hx hb dX2_height_31 rfl (lv_at hl 2 rfl) ?_
    refine w_ild (v := gi σ 10 x) S hK E 10 0 rfl rfl q_x rfl dX2_height_32 ?_
    refine lv_iload_n hx hb dX2_height_33 rfl (lv_at hl 0 rfl) ?_
    refine lv_idiv hx hb dX2_height_34 (nz_1 c1) ?_
    refine lv_iadd hx hb dX2_height_35 ?_
    have hQ : f_X2_height σ x = ((gi σ 8 x) + ((gi σ 10 x) / (gi σ 9 x))) := by
      unfold f_X2_height; rw [if_pos c1]
    exact x_iret σ S hr hlk hsz htt hK E dX2_height_36 ⟨hQ.symm, rfl⟩ rfl ⟨Nat.le_of_ble_eq_true rfl, Nat.le_of_ble_eq_true rfl⟩ ⟨Nat.le_of_ble_eq_true rfl, Nat.le_of_ble_eq_true rfl⟩
  · have c1 : ¬ (1 ≤ (gi σ 9 x)) := c1
    refine lv_aload_n hx hb dX2_height_12 rfl (lv_at hl 1 rfl) ?_
    refine wg_X2_9 (v := .ref (ad 8)) S hK E 1 rfl rfl dX2_height_13 ?_
    refine lv_iload_n hx hb dX2_height_16 rfl (lv_at hl 2 rfl) ?_
    refine w_ild (v := gi σ 8 x) S hK E 8 0 rfl rfl q_x rfl dX2_height_17 ?_
    refine lv_goto (tgt := 36) hx hb dX2_height_18 (by decide) ?_
    have hQ : f_X2_height σ x = (gi σ 8 x) := by
      unfold f_X2_height; rw [if_neg c1]
    exact x_iret σ S hr hlk hsz htt hK E dX2_height_36 ⟨hQ.symm, rfl⟩ rfl ⟨Nat.le_of_ble_eq_true rfl, Nat.le_of_ble_eq_true rfl⟩ ⟨Nat.le_of_ble_eq_true rfl, Nat.le_of_ble_eq_true rfl⟩

def f_X2_takeOut (σ : Sg) (x : Int32) (y : Int32) : Int32 × Sg := if 1 ≤ (gi σ 10 x) then (((((((gi σ 11 x)).toInt64) * ((y).toInt64)) / (((gi σ 10 x)).toInt64))).toInt32, (si (si σ 10 x ((gi σ 10 x) - y)) 11 x ((gi σ 11 x) - (((((((gi σ 11 x)).toInt64) * ((y).toInt64)) / (((gi σ 10 x)).toInt64))).toInt32)))) else (0, σ)
theorem KP_X2_takeOut {σ : Sg} {x : Int32} {y : Int32} : Kp (f_X2_takeOut σ x y).2 σ := by
  unfold f_X2_takeOut
  split
  · exact (Kp_si (k := 11) (Kp_si (k := 10) Kp.rf (by decide)) (by decide))
  · exact Kp.rf
set_option maxHeartbeats 4000000 in
set_option maxRecDepth 100000 in
/-- Cells.takeOut -/
theorem c_X2_takeOut (l : Launch) (g : Gm) (ad : Nat → Nat) (lo ke fo : Int32) (ea : Nat) (σ : Sg) (x : Int32) (y : Int32) (q_x : vp_in x 16) : MXi l g yX2_takeOut cX2_takeOut 5 .int ({ frames := 0, cells := 0, slots := 0, locals := 0 } : Room) [.ref (ad 1), .int x, .int y] (wsW g ad lo ke fo ea σ) (fun (r : Int32) (u : Sg) => r = (f_X2_takeOut σ x y).1 ∧ u = (f_X2_takeOut σ x y).2) (wsW g ad lo ke fo ea) (fun _ => (0, 0)) := by
  intro sz tt
  refine ofX RX2 rfl (by decide +kernel) (Nat.le_of_ble_eq_true rfl) (fun p e s m args below meth c hargs S hml hr hlk hnm hsz htt hK hA hZ E ls hl => ?_)
  have hx := S.1
  have hb := S.2.1
  have hl : lv_has ls 5 [(0, .ref (ad 1)), (1, .int x), (2, .int y)] := hl
  refine lv_aload_n hx hb dX2_takeOut_0 rfl (lv_at hl 0 rfl) ?_
  refine wg_X2_18 (v := .ref (ad 10)) S hK E 1 rfl rfl dX2_takeOut_1 ?_
  refine lv_iload_n hx hb dX2_takeOut_4 rfl (lv_at hl 1 rfl) ?_
  refine w_ild (v := gi σ 10 x) S hK E 10 0 rfl rfl q_x rfl dX2_takeOut_5 ?_
  refine lv_istore_n (lv' := [(3, .int (gi σ 10 x)), (0, .ref (ad 1)), (1, .int x), (2, .int y)]) hx hb dX2_takeOut_6 rfl hl (by decide) rfl (fun ls hl => ?_)
  refine lv_iload_n hx hb dX2_takeOut_7 rfl (lv_at hl 0 rfl) ?_
  refine lv_iconst (v := 1) hx hb dX2_takeOut_8 (by decide) ?_
  refine lv_icmp_ge (tgt := 14) hx hb dX2_takeOut_9 (by decide) (fun c1 => ?_) (fun c1 => ?_)
  · have c1 : 1 ≤ (gi σ 10 x) := c1
    refine lv_aload_n hx hb dX2_takeOut_14 rfl (lv_at hl 1 rfl) ?_
    refine wg_X2_21 (v := .ref (ad 11)) S hK E 1 rfl rfl dX2_takeOut_15 ?_
    refine lv_iload_n hx hb dX2_takeOut_18 rfl (lv_at hl 2 rfl) ?_
    refine w_ild (v := gi σ 11 x) S hK E 11 0 rfl rfl q_x rfl dX2_takeOut_19 ?_
    refine lv_i2l (v := ((gi σ 11 x)).toInt64) hx hb dX2_takeOut_20 rfl ?_
    refine lv_iload_n hx hb dX2_takeOut_21 rfl (lv_at hl 3 rfl) ?_
    refine lv_i2l (v := (y).toInt64) hx hb dX2_takeOut_22 rfl ?_
    refine lv_lmul hx hb dX2_takeOut_23 ?_
    refine lv_iload_n hx hb dX2_takeOut_24 rfl (lv_at hl 0 rfl) ?_
    refine lv_i2l (v := ((gi σ 10 x)).toInt64) hx hb dX2_takeOut_25 rfl ?_
    refine lv_ldiv hx hb dX2_takeOut_26 (nz_l c1) ?_
    refine lv_l2i (v := ((((((gi σ 11 x)).toInt64) * ((y).toInt64)) / (((gi σ 10 x)).toInt64))).toInt32) hx hb dX2_takeOut_27 rfl ?_
    refine lv_istore (lv' := [(4, .int (((((((gi σ 11 x)).toInt64) * ((y).toInt64)) / (((gi σ 10 x)).toInt64))).toInt32)), (3, .int (gi σ 10 x)), (0, .ref (ad 1)), (1, .int x), (2, .int y)]) hx hb dX2_takeOut_28 hl (by decide) rfl (fun ls hl => ?_)
    refine lv_aload_n hx hb dX2_takeOut_30 rfl (lv_at hl 2 rfl) ?_
    refine wg_X2_18 (v := .ref (ad 10)) S hK E 1 rfl rfl dX2_takeOut_31 ?_
    refine lv_iload_n hx hb dX2_takeOut_34 rfl (lv_at hl 3 rfl) ?_
    refine lv_iload_n hx hb dX2_takeOut_35 rfl (lv_at hl 1 rfl) ?_
    refine lv_iload_n hx hb dX2_takeOut_36 rfl (lv_at hl 4 rfl) ?_
    refine lv_isub hx hb dX2_takeOut_37 ?_
    refine w_ist (w' := wsW g ad lo ke fo ea (si σ 10 x ((gi σ 10 x) - y))) S hK E 10 0 rfl rfl q_x wset_10 dX2_takeOut_38 (fun H locs E => ?_)
    refine lv_aload_n hx hb dX2_takeOut_39 rfl (lv_at hl 2 rfl) ?_
    refine wg_X2_21 (v := .ref (ad 11)) S hK E 1 rfl rfl dX2_takeOut_40 ?_
    refine lv_iload_n hx hb dX2_takeOut_43 rfl (lv_at hl 3 rfl) ?_
    refine lv_dup2_11 hx hb dX2_takeOut_44 rfl rfl ?_
    refine w_ild (v := gi σ 11 x) S hK E 11 0 rfl rfl q_x rfl dX2_takeOut_45 ?_
    refine lv_iload hx hb dX2_takeOut_46 (lv_at hl 0 rfl) ?_
    refine lv_isub hx hb dX2_takeOut_48 ?_
    refine w_ist (w' := wsW g ad lo ke fo ea (si (si σ 10 x ((gi σ 10 x) - y)) 11 x ((gi σ 11 x) - (((((((gi σ 11 x)).toInt64) * ((y).toInt64)) / (((gi σ 10 x)).toInt64))).toInt32)))) S hK E 11 0 rfl rfl q_x wset_11 dX2_takeOut_49 (fun H locs E => ?_)
    refine lv_iload hx hb dX2_takeOut_50 (lv_at hl 0 rfl) ?_
    have hQ : f_X2_takeOut σ x y = (((((((gi σ 11 x)).toInt64) * ((y).toInt64)) / (((gi σ 10 x)).toInt64))).toInt32, (si (si σ 10 x ((gi σ 10 x) - y)) 11 x ((gi σ 11 x) - (((((((gi σ 11 x)).toInt64) * ((y).toInt64)) / (((gi σ 10 x)).toInt64))).toInt32)))) := by
      unfold f_X2_takeOut; rw [if_pos c1]
    exact x_iret (si (si σ 10 x ((gi σ 10 x) - y)) 11 x ((gi σ 11 x) - (((((((gi σ 11 x)).toInt64) * ((y).toInt64)) / (((gi σ 10 x)).toInt64))).toInt32))) S hr hlk hsz htt hK E dX2_takeOut_52 ⟨(congrArg Prod.fst hQ).symm, (congrArg Prod.snd hQ).symm⟩ rfl ⟨Nat.le_of_ble_eq_true rfl, Nat.le_of_ble_eq_true rfl⟩ ⟨Nat.le_of_ble_eq_true rfl, Nat.le_of_ble_eq_true rfl⟩
  · have c1 : ¬ (1 ≤ (gi σ 10 x)) := c1
    refine lv_iconst (v := 0) hx hb dX2_takeOut_12 (by decide) ?_
    have hQ : f_X2_takeOut σ x y = (0, σ) := by
      unfold f_X2_takeOut; rw [if_neg c1]
    exact x_iret σ S hr hlk hsz htt hK E dX2_takeOut_13 ⟨(congrArg Prod.fst hQ).symm, (congrArg Prod.snd hQ).symm⟩ rfl ⟨Nat.le_of_ble_eq_true rfl, Nat.le_of_ble_eq_true rfl⟩ ⟨Nat.le_of_ble_eq_true rfl, Nat.le_of_ble_eq_true rfl⟩

def f_X2_waterInAll_L4 (σ : Sg)  : Nat → Nat → Int64 → Int64
  | 0, i, a => a
  | k + 1, i, a => f_X2_waterInAll_L4 σ k (i + 1) (a + (((gi σ 10 (nI i))).toInt64))
def f_X2_waterInAll (σ : Sg)  : Int64 := f_X2_waterInAll_L4 σ 16 0 0
set_option maxHeartbeats 4000000 in
set_option maxRecDepth 100000 in
/-- Cells.waterInAll -/
theorem c_X2_waterInAll (l : Launch) (g : Gm) (ad : Nat → Nat) (lo ke fo : Int32) (ea : Nat) (σ : Sg) : MXl l g yX2_waterInAll cX2_waterInAll 4 ({ frames := 0, cells := 0, slots := 0, locals := 0 } : Room) [.ref (ad 1)] (wsW g ad lo ke fo ea σ) (fun (r : Int64) (u : Sg) => r = f_X2_waterInAll σ ∧ u = σ) (wsW g ad lo ke fo ea) (fun _ => (0, 0)) := by
  intro sz tt
  refine ofX RX2 rfl (by decide +kernel) (Nat.le_of_ble_eq_true rfl) (fun p e s m args below meth c hargs S hml hr hlk hnm hsz htt hK hA hZ E ls hl => ?_)
  have hx := S.1
  have hb := S.2.1
  have hl : lv_has ls 4 [(0, .ref (ad 1))] := hl
  have L4 : ∀ (k i : Nat), i + k = 16 → ∀  (a : Int64)   (H : Heap) (locs : List Loc), f_X2_waterInAll σ = f_X2_waterInAll_L4 σ k i a → Ev g (va_A (wsW g ad lo ke fo ea σ) sz) s.heap H locs (wsW g ad lo ke fo ea σ) → ∀ ls : Array Slot, lv_has ls 4 [(0, .ref (ad 1)), (1, .long a), (3, .int (nI i))] → W p l e ({ frames := 0, cells := 0, slots := 0, locals := 0 } : Room) s m args below meth c H locs 0 0 (MQ below (va_Ql (fun (r : Int64) (u : Sg) => r = f_X2_waterInAll σ ∧ u = σ) (AtX g (va_A (wsW g ad lo ke fo ea σ) sz) (wsW g ad lo ke fo ea) (fun _ => (0, 0)) sz tt) (va_A (wsW g ad lo ke fo ea σ) sz)) args s 0 0 (va_A (wsW g ad lo ke fo ea σ) sz)) (F0 m 4 ls []) := by
    intro k
    induction k with
    | zero =>
      intro i hi  a   H locs hF E ls hl
      have hk : Kp σ σ := Kp.rf
      have hl : lv_has ls 4 [(0, .ref (ad 1)), (1, .long a), (3, .int (nI i))] := hl
      refine lv_iload_n hx hb dX2_waterInAll_4 rfl (lv_at hl 2 rfl) ?_
      refine lv_bipush (v := 16) hx hb dX2_waterInAll_5 (by decide) ?_
      refine lv_icmp_ge (tgt := 26) hx hb dX2_waterInAll_7 (by decide) (fun _ => ?_) (fun c_ => absurd (g_yes (b := 16) rfl rfl (by omega) (by omega)) c_)
      refine lv_lload_n hx hb dX2_waterInAll_26 rfl (lv_at hl 1 rfl) ?_
      have hQ : f_X2_waterInAll σ = a := by
        rw [hF]; rw [f_X2_waterInAll_L4]
      exact x_lret σ S hr hlk hsz htt hK E dX2_waterInAll_27 ⟨hQ.symm, rfl⟩ rfl ⟨Nat.le_of_ble_eq_true rfl, Nat.le_of_ble_eq_true rfl⟩ ⟨Nat.le_of_ble_eq_true rfl, Nat.le_of_ble_eq_true rfl⟩
    | succ k ih =>
      intro i hi  a   H locs hF E ls hl
      have hk : Kp σ σ := Kp.rf
      have hl : lv_has ls 4 [(0, .ref (ad 1)), (1, .long a), (3, .int (nI i))] := hl
      refine lv_iload_n hx hb dX2_waterInAll_4 rfl (lv_at hl 2 rfl) ?_
      refine lv_bipush (v := 16) hx hb dX2_waterInAll_5 (by decide) ?_
      refine lv_icmp_ge (tgt := 26) hx hb dX2_waterInAll_7 (by decide) (fun c_ => absurd c_ (g_no (b := 16) rfl rfl (by omega) (by decide))) (fun _ => ?_)
      refine lv_lload_n hx hb dX2_waterInAll_10 rfl (lv_at hl 1 rfl) ?_
      refine lv_aload_n hx hb dX2_waterInAll_11 rfl (lv_at hl 0 rfl) ?_
      refine wg_X2_18 (v := .ref (ad 10)) S hK E 1 rfl rfl dX2_waterInAll_12 ?_
      refine lv_iload_n hx hb dX2_waterInAll_15 rfl (lv_at hl 2 rfl) ?_
      refine w_ild (v := gi σ 10 (nI i)) S hK E 10 0 rfl rfl (vp_in_nI (n := i) (by omega) (by decide)) rfl dX2_waterInAll_16 ?_
      refine lv_i2l (v := ((gi σ 10 (nI i))).toInt64) hx hb dX2_waterInAll_17 rfl ?_
      refine lv_ladd hx hb dX2_waterInAll_18 ?_
      refine lv_lstore_n (lv' := [(1, .long (a + (((gi σ 10 (nI i))).toInt64))), (0, .ref (ad 1)), (3, .int (nI i))]) hx hb dX2_waterInAll_19 rfl hl (by decide) rfl (fun ls hl => ?_)
      refine lv_iinc (v := (nI (i + 1))) (lv' := [(3, .int (nI (i + 1))), (1, .long (a + (((gi σ 10 (nI i))).toInt64))), (0, .ref (ad 1))]) hx hb dX2_waterInAll_20 hl (k := 2) rfl (nI_1 i) (by decide) rfl (fun ls hl => ?_)
      refine lv_goto (tgt := 4) hx hb dX2_waterInAll_23 (by decide) ?_
      have hF : f_X2_waterInAll σ = f_X2_waterInAll_L4 σ k (i + 1) (a + (((gi σ 10 (nI i))).toInt64)) := by
        rw [hF]; rw [f_X2_waterInAll_L4]
      exact ih (i + 1) (by omega)  (a + (((gi σ 10 (nI i))).toInt64))   _ _ hF E ls (lv_sub hl [2, 1, 0] rfl)
  refine lv_lconst (v := 0) hx hb dX2_waterInAll_0 (by decide) ?_
  refine lv_lstore_n (lv' := [(1, .long 0), (0, .ref (ad 1))]) hx hb dX2_waterInAll_1 rfl hl (by decide) rfl (fun ls hl => ?_)
  refine lv_iconst (v := 0) hx hb dX2_waterInAll_2 (by decide) ?_
  refine lv_istore_n (lv' := [(3, .int 0), (1, .long 0), (0, .ref (ad 1))]) hx hb dX2_waterInAll_3 rfl hl (by decide) rfl (fun ls hl => ?_)
  have hF : f_X2_waterInAll σ = f_X2_waterInAll_L4 σ 16 0 0 := by
    rfl
  exact L4 16 0 (by omega)  0   _ _ hF E ls (lv_sub hl [2, 1, 0] rfl)

def f_X0_balanceWith (σ : Sg) (x : Int64) : Int32 := if (lg_cmp ((((gl σ 28 0) + (gl σ 28 1)) + (gl σ 28 3)) + (gl σ 28 6)) (((((gl σ 28 2) + (gl σ 28 4)) + (gl σ 28 5)) + (gl σ 28 7)) + x)) = 0 then 1 else 0
set_option maxHeartbeats 4000000 in
set_option maxRecDepth 100000 in
/-- Books.balanceWith -/
theorem c_X0_balanceWith (l : Launch) (g : Gm) (ad : Nat → Nat) (lo ke fo : Int32) (ea : Nat) (σ : Sg) (x : Int64) : MXi l g yX0_balanceWith cX0_balanceWith 7 .boolean ({ frames := 0, cells := 0, slots := 0, locals := 0 } : Room) [.ref (ad 4), .long x] (wsW g ad lo ke fo ea σ) (fun (r : Int32) (u : Sg) => r = f_X0_balanceWith σ x ∧ u = σ) (wsW g ad lo ke fo ea) (fun _ => (0, 0)) := by
  intro sz tt
  refine ofX RX0 rfl (by decide +kernel) (Nat.le_of_ble_eq_true rfl) (fun p e s m args below meth c hargs S hml hr hlk hnm hsz htt hK hA hZ E ls hl => ?_)
  have hx := S.1
  have hb := S.2.1
  have hl : lv_has ls 7 [(0, .ref (ad 4)), (1, .long x)] := hl
  refine lv_aload_n hx hb dX0_balanceWith_0 rfl (lv_at hl 0 rfl) ?_
  refine wg_X0_7 (v := .ref (ad 28)) S hK E 4 rfl rfl dX0_balanceWith_1 ?_
  refine lv_iconst (v := 0) hx hb dX0_balanceWith_4 (by decide) ?_
  refine w_lld (v := gl σ 28 0) S hK E 28 1 rfl rfl (show vp_in 0 9 by unfold vp_in; decide) rfl dX0_balanceWith_5 ?_
  refine lv_aload_n hx hb dX0_balanceWith_6 rfl (lv_at hl 0 rfl) ?_
  refine wg_X0_7 (v := .ref (ad 28)) S hK E 4 rfl rfl dX0_balanceWith_7 ?_
  refine lv_iconst (v := 1) hx hb dX0_balanceWith_10 (by decide) ?_
  refine w_lld (v := gl σ 28 1) S hK E 28 1 rfl rfl (show vp_in 1 9 by unfold vp_in; decide) rfl dX0_balanceWith_11 ?_
  refine lv_ladd hx hb dX0_balanceWith_12 ?_
  refine lv_aload_n hx hb dX0_balanceWith_13 rfl (lv_at hl 0 rfl) ?_
  refine wg_X0_7 (v := .ref (ad 28)) S hK E 4 rfl rfl dX0_balanceWith_14 ?_
  refine lv_iconst (v := 3) hx hb dX0_balanceWith_17 (by decide) ?_
  refine w_lld (v := gl σ 28 3) S hK E 28 1 rfl rfl (show vp_in 3 9 by unfold vp_in; decide) rfl dX0_balanceWith_18 ?_
  refine lv_ladd hx hb dX0_balanceWith_19 ?_
  refine lv_aload_n hx hb dX0_balanceWith_20 rfl (lv_at hl 0 rfl) ?_
  refine wg_X0_7 (v := .ref (ad 28)) S hK E 4 rfl rfl dX0_balanceWith_21 ?_
  refine lv_bipush (v := 6) hx hb dX0_balanceWith_24 (by decide) ?_
  refine w_lld (v := gl σ 28 6) S hK E 28 1 rfl rfl (show vp_in 6 9 by unfold vp_in; decide) rfl dX0_balanceWith_26 ?_
  refine lv_ladd hx hb dX0_balanceWith_27 ?_
  refine lv_lstore_n (lv' := [(3, .long ((((gl σ 28 0) + (gl σ 28 1)) + (gl σ 28 3)) + (gl σ 28 6))), (0, .ref (ad 4)), (1, .long x)]) hx hb dX0_balanceWith_28 rfl hl (by decide) rfl (fun ls hl => ?_)
  refine lv_aload_n hx hb dX0_balanceWith_29 rfl (lv_at hl 1 rfl) ?_
  refine wg_X0_7 (v := .ref (ad 28)) S hK E 4 rfl rfl dX0_balanceWith_30 ?_
  refine lv_iconst (v := 2) hx hb dX0_balanceWith_33 (by decide) ?_
  refine w_lld (v := gl σ 28 2) S hK E 28 1 rfl rfl (show vp_in 2 9 by unfold vp_in; decide) rfl dX0_balanceWith_34 ?_
  refine lv_aload_n hx hb dX0_balanceWith_35 rfl (lv_at hl 1 rfl) ?_
  refine wg_X0_7 (v := .ref (ad 28)) S hK E 4 rfl rfl dX0_balanceWith_36 ?_
  refine lv_iconst (v := 4) hx hb dX0_balanceWith_39 (by decide) ?_
  refine w_lld (v := gl σ 28 4) S hK E 28 1 rfl rfl (show vp_in 4 9 by unfold vp_in; decide) rfl dX0_balanceWith_40 ?_
  refine lv_ladd hx hb dX0_balanceWith_41 ?_
  refine lv_aload_n hx hb dX0_balanceWith_42 rfl (lv_at hl 1 rfl) ?_
  refine wg_X0_7 (v := .ref (ad 28)) S hK E 4 rfl rfl dX0_balanceWith_43 ?_
  refine lv_iconst (v := 5) hx hb dX0_balanceWith_46 (by decide) ?_
  refine w_lld (v := gl σ 28 5) S hK E 28 1 rfl rfl (show vp_in 5 9 by unfold vp_in; decide) rfl dX0_balanceWith_47 ?_
  refine lv_ladd hx hb dX0_balanceWith_48 ?_
  refine lv_aload_n hx hb dX0_balanceWith_49 rfl (lv_at hl 1 rfl) ?_
  refine wg_X0_7 (v := .ref (ad 28)) S hK E 4 rfl rfl dX0_balanceWith_50 ?_
  refine lv_bipush (v := 7) hx hb dX0_balanceWith_53 (by decide) ?_
  refine w_lld (v := gl σ 28 7) S hK E 28 1 rfl rfl (show vp_in 7 9 by unfold vp_in; decide) rfl dX0_balanceWith_55 ?_
  refine lv_ladd hx hb dX0_balanceWith_56 ?_
  refine lv_lstore (lv' := [(5, .long ((((gl σ 28 2) + (gl σ 28 4)) + (gl σ 28 5)) + (gl σ 28 7))), (3, .long ((((gl σ 28 0) + (gl σ 28 1)) + (gl σ 28 3)) + (gl σ 28 6))), (0, .ref (ad 4)), (1, .long x)]) hx hb dX0_balanceWith_57 hl (by decide) rfl (fun ls hl => ?_)
  refine lv_lload_n hx hb dX0_balanceWith_59 rfl (lv_at hl 1 rfl) ?_
  refine lv_lload hx hb dX0_balanceWith_60 (lv_at hl 0 rfl) ?_
  refine lv_lload_n hx hb dX0_balanceWith_62 rfl (lv_at hl 3 rfl) ?_
  refine lv_ladd hx hb dX0_balanceWith_63 ?_
  refine W.lcmp hx hb dX0_balanceWith_64 ?_
  refine lv_if_ne (tgt := 72) hx hb dX0_balanceWith_65 (by decide) (fun c1 => ?_) (fun c1 => ?_)
  · have c1 : ¬ ((lg_cmp ((((gl σ 28 0) + (gl σ 28 1)) + (gl σ 28 3)) + (gl σ 28 6)) (((((gl σ 28 2) + (gl σ 28 4)) + (gl σ 28 5)) + (gl σ 28 7)) + x)) = 0) := c1
    refine lv_iconst (v := 0) hx hb dX0_balanceWith_72 (by decide) ?_
    have hQ : f_X0_balanceWith σ x = 0 := by
      unfold f_X0_balanceWith; rw [if_neg c1]
    exact x_zret σ S hr hlk hsz htt hK E dX0_balanceWith_73 rfl ⟨hQ.symm, rfl⟩ rfl ⟨Nat.le_of_ble_eq_true rfl, Nat.le_of_ble_eq_true rfl⟩ ⟨Nat.le_of_ble_eq_true rfl, Nat.le_of_ble_eq_true rfl⟩
  · have c1 : (lg_cmp ((((gl σ 28 0) + (gl σ 28 1)) + (gl σ 28 3)) + (gl σ 28 6)) (((((gl σ 28 2) + (gl σ 28 4)) + (gl σ 28 5)) + (gl σ 28 7)) + x)) = 0 := c1
    refine lv_iconst (v := 1) hx hb dX0_balanceWith_68 (by decide) ?_
    refine lv_goto (tgt := 73) hx hb dX0_balanceWith_69 (by decide) ?_
    have hQ : f_X0_balanceWith σ x = 1 := by
      unfold f_X0_balanceWith; rw [if_pos c1]
    exact x_zret σ S hr hlk hsz htt hK E dX0_balanceWith_73 rfl ⟨hQ.symm, rfl⟩ rfl ⟨Nat.le_of_ble_eq_true rfl, Nat.le_of_ble_eq_true rfl⟩ ⟨Nat.le_of_ble_eq_true rfl, Nat.le_of_ble_eq_true rfl⟩

def f_X4_canGive (σ : Sg) (x : Int32) (y : Int32) (z : Int32) : Int32 := if x = y then 0 else (if (gi σ 20 x) < z then 0 else (if 999 < ((gi σ 20 y) + z) then 0 else 1))
set_option maxHeartbeats 4000000 in
set_option maxRecDepth 100000 in
/-- Wells.canGive -/
theorem c_X4_canGive (l : Launch) (g : Gm) (ad : Nat → Nat) (lo ke fo : Int32) (ea : Nat) (σ : Sg) (x : Int32) (y : Int32) (z : Int32) (q_x : vp_in x 6) (q_y : vp_in y 6) : MXi l g yX4_canGive cX4_canGive 4 .boolean ({ frames := 0, cells := 0, slots := 0, locals := 0 } : Room) [.ref (ad 3), .int x, .int y, .int z] (wsW g ad lo ke fo ea σ) (fun (r : Int32) (u : Sg) => r = f_X4_canGive σ x y z ∧ u = σ) (wsW g ad lo ke fo ea) (fun _ => (0, 0)) := by
  intro sz tt
  refine ofX RX4 rfl (by decide +kernel) (Nat.le_of_ble_eq_true rfl) (fun p e s m args below meth c hargs S hml hr hlk hnm hsz htt hK hA hZ E ls hl => ?_)
  have hx := S.1
  have hb := S.2.1
  have hl : lv_has ls 4 [(0, .ref (ad 3)), (1, .int x), (2, .int y), (3, .int z)] := hl
  refine lv_iload_n hx hb dX4_canGive_0 rfl (lv_at hl 1 rfl) ?_
  refine lv_iload_n hx hb dX4_canGive_1 rfl (lv_at hl 2 rfl) ?_
  refine lv_icmp_eq (tgt := 33) hx hb dX4_canGive_2 (by decide) (fun c1 => ?_) (fun c1 => ?_)
  · have c1 : x = y := c1
    refine lv_iconst (v := 0) hx hb dX4_canGive_33 (by decide) ?_
    have hQ : f_X4_canGive σ x y z = 0 := by
      unfold f_X4_canGive; rw [if_pos c1]
    exact x_zret σ S hr hlk hsz htt hK E dX4_canGive_34 rfl ⟨hQ.symm, rfl⟩ rfl ⟨Nat.le_of_ble_eq_true rfl, Nat.le_of_ble_eq_true rfl⟩ ⟨Nat.le_of_ble_eq_true rfl, Nat.le_of_ble_eq_true rfl⟩
  · have c1 : ¬ (x = y) := c1
    refine lv_aload_n hx hb dX4_canGive_5 rfl (lv_at hl 0 rfl) ?_
    refine wg_X4_18 (v := .ref (ad 20)) S hK E 3 rfl rfl dX4_canGive_6 ?_
    refine lv_iload_n hx hb dX4_canGive_9 rfl (lv_at hl 1 rfl) ?_
    refine w_ild (v := gi σ 20 x) S hK E 20 0 rfl rfl q_x rfl dX4_canGive_10 ?_
    refine lv_iload_n hx hb dX4_canGive_11 rfl (lv_at hl 3 rfl) ?_
    refine lv_icmp_lt (tgt := 33) hx hb dX4_canGive_12 (by decide) (fun c2 => ?_) (fun c2 => ?_)
    · have c2 : (gi σ 20 x) < z := c2
      refine lv_iconst (v := 0) hx hb dX4_canGive_33 (by decide) ?_
      have hQ : f_X4_canGive σ x y z = 0 := by
        unfold f_X4_canGive; rw [if_neg c1, if_pos c2]
      exact x_zret σ S hr hlk hsz htt hK E dX4_canGive_34 rfl ⟨hQ.symm, rfl⟩ rfl ⟨Nat.le_of_ble_eq_true rfl, Nat.le_of_ble_eq_true rfl⟩ ⟨Nat.le_of_ble_eq_true rfl, Nat.le_of_ble_eq_true rfl⟩
    · have c2 : ¬ ((gi σ 20 x) < z) := c2
      refine lv_aload_n hx hb dX4_canGive_15 rfl (lv_at hl 0 rfl) ?_
      refine wg_X4_18 (v := .ref (ad 20)) S hK E 3 rfl rfl dX4_canGive_16 ?_
      refine lv_iload_n hx hb dX4_canGive_19 rfl (lv_at hl 2 rfl) ?_
      refine w_ild (v := gi σ 20 y) S hK E 20 0 rfl rfl q_y rfl dX4_canGive_20 ?_
      refine lv_iload_n hx hb dX4_canGive_21 rfl (lv_at hl 3 rfl) ?_
      refine lv_iadd hx hb dX4_canGive_22 ?_
      refine lv_sipush (v := 999) hx hb dX4_canGive_23 (by decide) ?_
      refine lv_icmp_gt (tgt := 33) hx hb dX4_canGive_26 (by decide) (fun c3 => ?_) (fun c3 => ?_)
      · have c3 : 999 < ((gi σ 20 y) + z) := c3
        refine lv_iconst (v := 0) hx hb dX4_canGive_33 (by decide) ?_
        have hQ : f_X4_canGive σ x y z = 0 := by
          unfold f_X4_canGive; rw [if_neg c1, if_neg c2, if_pos c3]
        exact x_zret σ S hr hlk hsz htt hK E dX4_canGive_34 rfl ⟨hQ.symm, rfl⟩ rfl ⟨Nat.le_of_ble_eq_true rfl, Nat.le_of_ble_eq_true rfl⟩ ⟨Nat.le_of_ble_eq_true rfl, Nat.le_of_ble_eq_true rfl⟩
      · have c3 : ¬ (999 < ((gi σ 20 y) + z)) := c3
        refine lv_iconst (v := 1) hx hb dX4_canGive_29 (by decide) ?_
        refine lv_goto (tgt := 34) hx hb dX4_canGive_30 (by decide) ?_
        have hQ : f_X4_canGive σ x y z = 1 := by
          unfold f_X4_canGive; rw [if_neg c1, if_neg c2, if_neg c3]
        exact x_zret σ S hr hlk hsz htt hK E dX4_canGive_34 rfl ⟨hQ.symm, rfl⟩ rfl ⟨Nat.le_of_ble_eq_true rfl, Nat.le_of_ble_eq_true rfl⟩ ⟨Nat.le_of_ble_eq_true rfl, Nat.le_of_ble_eq_true rfl⟩

def f_X4_give (σ : Sg) (x : Int32) (y : Int32) (z : Int32) : Sg := (si (si (si σ 20 x ((gi σ 20 x) - z)) 20 y ((gi (si σ 20 x ((gi σ 20 x) - z)) 20 y) + z)) 26 x ((gi σ 26 x) + z))
theorem KP_X4_give {σ : Sg} {x : Int32} {y : Int32} {z : Int32} : Kp (f_X4_give σ x y z) σ := by
  unfold f_X4_give
  exact (Kp_si (k := 26) (Kp_si (k := 20) (Kp_si (k := 20) Kp.rf (by decide)) (by decide)) (by decide))
set_option maxHeartbeats 4000000 in
set_option maxRecDepth 100000 in
/-- Wells.give -/
theorem c_X4_give (l : Launch) (g : Gm) (ad : Nat → Nat) (lo ke fo : Int32) (ea : Nat) (σ : Sg) (x : Int32) (y : Int32) (z : Int32) (q_x : vp_in x 6) (q_y : vp_in y 6) : MXv l g yX4_give cX4_give 4 ({ frames := 0, cells := 0, slots := 0, locals := 0 } : Room) [.ref (ad 3), .int x, .int y, .int z] (wsW g ad lo ke fo ea σ) (fun u : Sg => u = f_X4_give σ x y z) (wsW g ad lo ke fo ea) (fun _ => (0, 0)) := by
  intro sz tt
  refine ofX RX4 rfl (by decide +kernel) (Nat.le_of_ble_eq_true rfl) (fun p e s m args below meth c hargs S hml hr hlk hnm hsz htt hK hA hZ E ls hl => ?_)
  have hx := S.1
  have hb := S.2.1
  have hl : lv_has ls 4 [(0, .ref (ad 3)), (1, .int x), (2, .int y), (3, .int z)] := hl
  refine lv_aload_n hx hb dX4_give_0 rfl (lv_at hl 0 rfl) ?_
  refine wg_X4_18 (v := .ref (ad 20)) S hK E 3 rfl rfl dX4_give_1 ?_
  refine lv_iload_n hx hb dX4_give_4 rfl (lv_at hl 1 rfl) ?_
  refine lv_dup2_11 hx hb dX4_give_5 rfl rfl ?_
  refine w_ild (v := gi σ 20 x) S hK E 20 0 rfl rfl q_x rfl dX4_give_6 ?_
  refine lv_iload_n hx hb dX4_give_7 rfl (lv_at hl 3 rfl) ?_
  refine lv_isub hx hb dX4_give_8 ?_
  refine w_ist (w' := wsW g ad lo ke fo ea (si σ 20 x ((gi σ 20 x) - z))) S hK E 20 0 rfl rfl q_x wset_20 dX4_give_9 (fun H locs E => ?_)
  refine lv_aload_n hx hb dX4_give_10 rfl (lv_at hl 0 rfl) ?_
  refine wg_X4_18 (v := .ref (ad 20)) S hK E 3 rfl rfl dX4_give_11 ?_
  refine lv_iload_n hx hb dX4_give_14 rfl (lv_at hl 2 rfl) ?_
  refine lv_dup2_11 hx hb dX4_give_15 rfl rfl ?_
  refine w_ild (v := gi (si σ 20 x ((gi σ 20 x) - z)) 20 y) S hK E 20 0 rfl rfl q_y rfl dX4_give_16 ?_
  refine lv_iload_n hx hb dX4_give_17 rfl (lv_at hl 3 rfl) ?_
  refine lv_iadd hx hb dX4_give_18 ?_
  refine w_ist (w' := wsW g ad lo ke fo ea (si (si σ 20 x ((gi σ 20 x) - z)) 20 y ((gi (si σ 20 x ((gi σ 20 x) - z)) 20 y) + z))) S hK E 20 0 rfl rfl q_y wset_20 dX4_give_19 (fun H locs E => ?_)
  refine lv_aload_n hx hb dX4_give_20 rfl (lv_at hl 0 rfl) ?_
  refine wg_X4_38 (v := .ref (ad 26)) S hK E 3 rfl rfl dX4_give_21 ?_
  refine lv_iload_n hx hb dX4_give_24 rfl (lv_at hl 1 rfl) ?_
  refine lv_dup2_11 hx hb dX4_give_25 rfl rfl ?_
  refine w_ild (v := gi σ 26 x) S hK E 26 0 rfl rfl q_x rfl dX4_give_26 ?_
  refine lv_iload_n hx hb dX4_give_27 rfl (lv_at hl 3 rfl) ?_
  refine lv_iadd hx hb dX4_give_28 ?_
  refine w_ist (w' := wsW g ad lo ke fo ea (si (si (si σ 20 x ((gi σ 20 x) - z)) 20 y ((gi (si σ 20 x ((gi σ 20 x) - z)) 20 y) + z)) 26 x ((gi σ 26 x) + z))) S hK E 26 0 rfl rfl q_x wset_26 dX4_give_29 (fun H locs E => ?_)
  have hQ : f_X4_give σ x y z = (si (si (si σ 20 x ((gi σ 20 x) - z)) 20 y ((gi (si σ 20 x ((gi σ 20 x) - z)) 20 y) + z)) 26 x ((gi σ 26 x) + z)) := by
    rfl
  exact x_vret (si (si (si σ 20 x ((gi σ 20 x) - z)) 20 y ((gi (si σ 20 x ((gi σ 20 x) - z)) 20 y) + z)) 26 x ((gi σ 26 x) + z)) S hr hlk hsz htt hK E dX4_give_30 hQ.symm rfl ⟨Nat.le_of_ble_eq_true rfl, Nat.le_of_ble_eq_true rfl⟩ ⟨Nat.le_of_ble_eq_true rfl, Nat.le_of_ble_eq_true rfl⟩

def f_X4_wanted (σ : Sg) (x : Int32) : Int32 := (mx 0 (mn (gi σ 21 x) ((gi σ 20 x) - (gi σ 22 x))))
set_option maxHeartbeats 4000000 in
set_option maxRecDepth 100000 in
/-- Wells.wanted -/
theorem c_X4_wanted (l : Launch) (g : Gm) (ad : Nat → Nat) (lo ke fo : Int32) (ea : Nat) (σ : Sg) (x : Int32) (q_x : vp_in x 6) : MXi l g yX4_wanted cX4_wanted 3 .int ({ frames := 1, cells := 0, slots := 0, locals := 14 } : Room) [.ref (ad 3), .int x] (wsW g ad lo ke fo ea σ) (fun (r : Int32) (u : Sg) => r = f_X4_wanted σ x ∧ u = σ) (wsW g ad lo ke fo ea) (fun _ => (0, 0)) := by
  intro sz tt
  refine ofX RX4 rfl (by decide +kernel) (Nat.le_of_ble_eq_true rfl) (fun p e s m args below meth c hargs S hml hr hlk hnm hsz htt hK hA hZ E ls hl => ?_)
  have hx := S.1
  have hb := S.2.1
  have hl : lv_has ls 3 [(0, .ref (ad 3)), (1, .int x)] := hl
  refine lv_aload_n hx hb dX4_wanted_0 rfl (lv_at hl 0 rfl) ?_
  refine wg_X4_18 (v := .ref (ad 20)) S hK E 3 rfl rfl dX4_wanted_1 ?_
  refine lv_iload_n hx hb dX4_wanted_4 rfl (lv_at hl 1 rfl) ?_
  refine w_ild (v := gi σ 20 x) S hK E 20 0 rfl rfl q_x rfl dX4_wanted_5 ?_
  refine lv_aload_n hx hb dX4_wanted_6 rfl (lv_at hl 0 rfl) ?_
  refine wg_X4_24 (v := .ref (ad 22)) S hK E 3 rfl rfl dX4_wanted_7 ?_
  refine lv_iload_n hx hb dX4_wanted_10 rfl (lv_at hl 1 rfl) ?_
  refine w_ild (v := gi σ 22 x) S hK E 22 0 rfl rfl q_x rfl dX4_wanted_11 ?_
  refine lv_isub hx hb dX4_wanted_12 ?_
  refine lv_istore_n (lv' := [(2, .int ((gi σ 20 x) - (gi σ 22 x))), (0, .ref (ad 3)), (1, .int x)]) hx hb dX4_wanted_13 rfl hl (by decide) rfl (fun ls hl => ?_)
  refine lv_iconst (v := 0) hx hb dX4_wanted_14 (by decide) ?_
  refine lv_aload_n hx hb dX4_wanted_15 rfl (lv_at hl 1 rfl) ?_
  refine wg_X4_21 (v := .ref (ad 21)) S hK E 3 rfl rfl dX4_wanted_16 ?_
  refine lv_iload_n hx hb dX4_wanted_19 rfl (lv_at hl 2 rfl) ?_
  refine w_ild (v := gi σ 21 x) S hK E 21 0 rfl rfl q_x rfl dX4_wanted_20 ?_
  refine lv_iload_n hx hb dX4_wanted_21 rfl (lv_at hl 0 rfl) ?_
  refine w_min (v := (mn (gi σ 21 x) ((gi σ 20 x) - (gi σ 22 x)))) S hml hl ml_X4_48 st_min in_J9 co_min (Nat.le_of_ble_eq_true rfl) (Nat.le_of_ble_eq_true rfl) ⟨Nat.le_of_ble_eq_true rfl, Nat.le_of_ble_eq_true rfl⟩ rfl dX4_wanted_22 ?_
  refine w_max (v := (mx 0 (mn (gi σ 21 x) ((gi σ 20 x) - (gi σ 22 x))))) S hml hl ml_X4_54 st_max in_J9 co_max (Nat.le_of_ble_eq_true rfl) (Nat.le_of_ble_eq_true rfl) ⟨Nat.le_of_ble_eq_true rfl, Nat.le_of_ble_eq_true rfl⟩ rfl dX4_wanted_25 ?_
  have hQ : f_X4_wanted σ x = (mx 0 (mn (gi σ 21 x) ((gi σ 20 x) - (gi σ 22 x)))) := by
    rfl
  exact x_iret σ S hr hlk hsz htt hK E dX4_wanted_28 ⟨hQ.symm, rfl⟩ rfl ⟨Nat.le_of_ble_eq_true rfl, Nat.le_of_ble_eq_true rfl⟩ ⟨Nat.le_of_ble_eq_true rfl, Nat.le_of_ble_eq_true rfl⟩

def f_X4_startYear (σ : Sg) (x : Int32) : Sg := (si (si (si σ 22 x 0) 26 x 0) 24 x 0)
theorem KP_X4_startYear {σ : Sg} {x : Int32} : Kp (f_X4_startYear σ x) σ := by
  unfold f_X4_startYear
  exact (Kp_si (k := 24) (Kp_si (k := 26) (Kp_si (k := 22) Kp.rf (by decide)) (by decide)) (by decide))
set_option maxHeartbeats 4000000 in
set_option maxRecDepth 100000 in
/-- Wells.startYear -/
theorem c_X4_startYear (l : Launch) (g : Gm) (ad : Nat → Nat) (lo ke fo : Int32) (ea : Nat) (σ : Sg) (x : Int32) (q_x : vp_in x 6) : MXv l g yX4_startYear cX4_startYear 2 ({ frames := 0, cells := 0, slots := 0, locals := 0 } : Room) [.ref (ad 3), .int x] (wsW g ad lo ke fo ea σ) (fun u : Sg => u = f_X4_startYear σ x) (wsW g ad lo ke fo ea) (fun _ => (0, 0)) := by
  intro sz tt
  refine ofX RX4 rfl (by decide +kernel) (Nat.le_of_ble_eq_true rfl) (fun p e s m args below meth c hargs S hml hr hlk hnm hsz htt hK hA hZ E ls hl => ?_)
  have hx := S.1
  have hb := S.2.1
  have hl : lv_has ls 2 [(0, .ref (ad 3)), (1, .int x)] := hl
  refine lv_aload_n hx hb dX4_startYear_0 rfl (lv_at hl 0 rfl) ?_
  refine wg_X4_24 (v := .ref (ad 22)) S hK E 3 rfl rfl dX4_startYear_1 ?_
  refine lv_iload_n hx hb dX4_startYear_4 rfl (lv_at hl 1 rfl) ?_
  refine lv_iconst (v := 0) hx hb dX4_startYear_5 (by decide) ?_
  refine w_ist (w' := wsW g ad lo ke fo ea (si σ 22 x 0)) S hK E 22 0 rfl rfl q_x wset_22 dX4_startYear_6 (fun H locs E => ?_)
  refine lv_aload_n hx hb dX4_startYear_7 rfl (lv_at hl 0 rfl) ?_
  refine wg_X4_38 (v := .ref (ad 26)) S hK E 3 rfl rfl dX4_startYear_8 ?_
  refine lv_iload_n hx hb dX4_startYear_11 rfl (lv_at hl 1 rfl) ?_
  refine lv_iconst (v := 0) hx hb dX4_startYear_12 (by decide) ?_
  refine w_ist (w' := wsW g ad lo ke fo ea (si (si σ 22 x 0) 26 x 0)) S hK E 26 0 rfl rfl q_x wset_26 dX4_startYear_13 (fun H locs E => ?_)
  refine lv_aload_n hx hb dX4_startYear_14 rfl (lv_at hl 0 rfl) ?_
  refine wg_X4_31 (v := .ref (ad 24)) S hK E 3 rfl rfl dX4_startYear_15 ?_
  refine lv_iload_n hx hb dX4_startYear_18 rfl (lv_at hl 1 rfl) ?_
  refine lv_iconst (v := 0) hx hb dX4_startYear_19 (by decide) ?_
  refine w_zst (w' := wsW g ad lo ke fo ea (si (si (si σ 22 x 0) 26 x 0) 24 x 0)) S hK E 24 2 rfl rfl q_x (wset_24 (by decide)) dX4_startYear_20 (fun H locs E => ?_)
  have hQ : f_X4_startYear σ x = (si (si (si σ 22 x 0) 26 x 0) 24 x 0) := by
    rfl
  exact x_vret (si (si (si σ 22 x 0) 26 x 0) 24 x 0) S hr hlk hsz htt hK E dX4_startYear_21 hQ.symm rfl ⟨Nat.le_of_ble_eq_true rfl, Nat.le_of_ble_eq_true rfl⟩ ⟨Nat.le_of_ble_eq_true rfl, Nat.le_of_ble_eq_true rfl⟩

def f_X4_forfeits (σ : Sg) (x : Int32) : Int32 × Sg := if (gi σ 22 x) = 0 then (if (gi σ 21 x) ≤ 0 then (if (gi (si σ 25 x 0) 25 x) < 3 then (0, (si σ 25 x 0)) else (if (gi σ 20 x) = 0 then (0, (si σ 25 x 0)) else (1, (si (si (si σ 25 x 0) 20 x 0) 25 x 0)))) else (if (gi (si σ 25 x ((gi σ 25 x) + 1)) 25 x) < 3 then (0, (si σ 25 x ((gi σ 25 x) + 1))) else (if (gi σ 20 x) = 0 then (0, (si σ 25 x ((gi σ 25 x) + 1))) else (1, (si (si (si σ 25 x ((gi σ 25 x) + 1)) 20 x 0) 25 x 0))))) else (if (gi (si σ 25 x 0) 25 x) < 3 then (0, (si σ 25 x 0)) else (if (gi σ 20 x) = 0 then (0, (si σ 25 x 0)) else (1, (si (si (si σ 25 x 0) 20 x 0) 25 x 0))))
theorem KP_X4_forfeits {σ : Sg} {x : Int32} : Kp (f_X4_forfeits σ x).2 σ := by
  unfold f_X4_forfeits
  split
  · split
    · split
      · exact (Kp_si (k := 25) Kp.rf (by decide))
      · split
        · exact (Kp_si (k := 25) Kp.rf (by decide))
        · exact (Kp_si (k := 25) (Kp_si (k := 20) (Kp_si (k := 25) Kp.rf (by decide)) (by decide)) (by decide))
    · split
      · exact (Kp_si (k := 25) Kp.rf (by decide))
      · split
        · exact (Kp_si (k := 25) Kp.rf (by decide))
        · exact (Kp_si (k := 25) (Kp_si (k := 20) (Kp_si (k := 25) Kp.rf (by decide)) (by decide)) (by decide))
  · split
    · exact (Kp_si (k := 25) Kp.rf (by decide))
    · split
      · exact (Kp_si (k := 25) Kp.rf (by decide))
      · exact (Kp_si (k := 25) (Kp_si (k := 20) (Kp_si (k := 25) Kp.rf (by decide)) (by decide)) (by decide))
set_option maxHeartbeats 4000000 in
set_option maxRecDepth 100000 in
/-- Wells.forfeits -/
theorem c_X4_forfeits (l : Launch) (g : Gm) (ad : Nat → Nat) (lo ke fo : Int32) (ea : Nat) (σ : Sg) (x : Int32) (q_x : vp_in x 6) : MXi l g yX4_forfeits cX4_forfeits 3 .boolean ({ frames := 0, cells := 0, slots := 0, locals := 0 } : Room) [.ref (ad 3), .int x] (wsW g ad lo ke fo ea σ) (fun (r : Int32) (u : Sg) => r = (f_X4_forfeits σ x).1 ∧ u = (f_X4_forfeits σ x).2) (wsW g ad lo ke fo ea) (fun _ => (0, 0)) := by
  intro sz tt
  refine ofX RX4 rfl (by decide +kernel) (Nat.le_of_ble_eq_true rfl) (fun p e s m args below meth c hargs S hml hr hlk hnm hsz htt hK hA hZ E ls hl => ?_)
  have hx := S.1
  have hb := S.2.1
  have hl : lv_has ls 3 [(0, .ref (ad 3)), (1, .int x)] := hl
  refine lv_aload_n hx hb dX4_forfeits_0 rfl (lv_at hl 0 rfl) ?_
  refine wg_X4_24 (v := .ref (ad 22)) S hK E 3 rfl rfl dX4_forfeits_1 ?_
  refine lv_iload_n hx hb dX4_forfeits_4 rfl (lv_at hl 1 rfl) ?_
  refine w_ild (v := gi σ 22 x) S hK E 22 0 rfl rfl q_x rfl dX4_forfeits_5 ?_
  refine lv_if_ne (tgt := 22) hx hb dX4_forfeits_6 (by decide) (fun c1 => ?_) (fun c1 => ?_)
  · have c1 : ¬ ((gi σ 22 x) = 0) := c1
    refine lv_iconst (v := 0) hx hb dX4_forfeits_22 (by decide) ?_
    refine lv_istore_n (lv' := [(2, .int 0), (0, .ref (ad 3)), (1, .int x)]) hx hb dX4_forfeits_23 rfl hl (by decide) rfl (fun ls hl => ?_)
    refine lv_aload_n hx hb dX4_forfeits_24 rfl (lv_at hl 1 rfl) ?_
    refine wg_X4_35 (v := .ref (ad 25)) S hK E 3 rfl rfl dX4_forfeits_25 ?_
    refine lv_iload_n hx hb dX4_forfeits_28 rfl (lv_at hl 2 rfl) ?_
    refine lv_iload_n hx hb dX4_forfeits_29 rfl (lv_at hl 0 rfl) ?_
    refine lv_if_eq (tgt := 44) hx hb dX4_forfeits_30 (by decide) (fun _ => ?_) (fun c_ => absurd (by decide) c_)
    refine lv_iconst (v := 0) hx hb dX4_forfeits_44 (by decide) ?_
    refine w_ist (w' := wsW g ad lo ke fo ea (si σ 25 x 0)) S hK E 25 0 rfl rfl q_x wset_25 dX4_forfeits_45 (fun H locs E => ?_)
    refine lv_aload_n hx hb dX4_forfeits_46 rfl (lv_at hl 1 rfl) ?_
    refine wg_X4_35 (v := .ref (ad 25)) S hK E 3 rfl rfl dX4_forfeits_47 ?_
    refine lv_iload_n hx hb dX4_forfeits_50 rfl (lv_at hl 2 rfl) ?_
    refine w_ild (v := gi (si σ 25 x 0) 25 x) S hK E 25 0 rfl rfl q_x rfl dX4_forfeits_51 ?_
    refine lv_iconst (v := 3) hx hb dX4_forfeits_52 (by decide) ?_
    refine lv_icmp_lt (tgt := 65) hx hb dX4_forfeits_53 (by decide) (fun c2 => ?_) (fun c2 => ?_)
    · have c2 : (gi (si σ 25 x 0) 25 x) < 3 := c2
      refine lv_iconst (v := 0) hx hb dX4_forfeits_65 (by decide) ?_
      have hQ : f_X4_forfeits σ x = (0, (si σ 25 x 0)) := by
        unfold f_X4_forfeits; rw [if_neg c1, if_pos c2]
      exact x_zret (si σ 25 x 0) S hr hlk hsz htt hK E dX4_forfeits_66 rfl ⟨(congrArg Prod.fst hQ).symm, (congrArg Prod.snd hQ).symm⟩ rfl ⟨Nat.le_of_ble_eq_true rfl, Nat.le_of_ble_eq_true rfl⟩ ⟨Nat.le_of_ble_eq_true rfl, Nat.le_of_ble_eq_true rfl⟩
    · have c2 : ¬ ((gi (si σ 25 x 0) 25 x) < 3) := c2
      refine lv_aload_n hx hb dX4_forfeits_56 rfl (lv_at hl 1 rfl) ?_
      refine wg_X4_18 (v := .ref (ad 20)) S hK E 3 rfl rfl dX4_forfeits_57 ?_
      refine lv_iload_n hx hb dX4_forfeits_60 rfl (lv_at hl 2 rfl) ?_
      refine w_ild (v := gi σ 20 x) S hK E 20 0 rfl rfl q_x rfl dX4_forfeits_61 ?_
      refine lv_if_ne (tgt := 67) hx hb dX4_forfeits_62 (by decide) (fun c3 => ?_) (fun c3 => ?_)
      · have c3 : ¬ ((gi σ 20 x) = 0) := c3
        refine lv_aload_n hx hb dX4_forfeits_67 rfl (lv_at hl 1 rfl) ?_
        refine wg_X4_18 (v := .ref (ad 20)) S hK E 3 rfl rfl dX4_forfeits_68 ?_
        refine lv_iload_n hx hb dX4_forfeits_71 rfl (lv_at hl 2 rfl) ?_
        refine lv_iconst (v := 0) hx hb dX4_forfeits_72 (by decide) ?_
        refine w_ist (w' := wsW g ad lo ke fo ea (si (si σ 25 x 0) 20 x 0)) S hK E 20 0 rfl rfl q_x wset_20 dX4_forfeits_73 (fun H locs E => ?_)
        refine lv_aload_n hx hb dX4_forfeits_74 rfl (lv_at hl 1 rfl) ?_
        refine wg_X4_35 (v := .ref (ad 25)) S hK E 3 rfl rfl dX4_forfeits_75 ?_
        refine lv_iload_n hx hb dX4_forfeits_78 rfl (lv_at hl 2 rfl) ?_
        refine lv_iconst (v := 0) hx hb dX4_forfeits_79 (by decide) ?_
        refine w_ist (w' := wsW g ad lo ke fo ea (si (si (si σ 25 x 0) 20 x 0) 25 x 0)) S hK E 25 0 rfl rfl q_x wset_25 dX4_forfeits_80 (fun H locs E => ?_)
        refine lv_iconst (v := 1) hx hb dX4_forfeits_81 (by decide) ?_
        have hQ : f_X4_forfeits σ x = (1, (si (si (si σ 25 x 0) 20 x 0) 25 x 0)) := by
          unfold f_X4_forfeits; rw [if_neg c1, if_neg c2, if_neg c3]
        exact x_zret (si (si (si σ 25 x 0) 20 x 0) 25 x 0) S hr hlk hsz htt hK E dX4_forfeits_82 rfl ⟨(congrArg Prod.fst hQ).symm, (congrArg Prod.snd hQ).symm⟩ rfl ⟨Nat.le_of_ble_eq_true rfl, Nat.le_of_ble_eq_true rfl⟩ ⟨Nat.le_of_ble_eq_true rfl, Nat.le_of_ble_eq_true rfl⟩
      · have c3 : (gi σ 20 x) = 0 := c3
        refine lv_iconst (v := 0) hx hb dX4_forfeits_65 (by decide) ?_
        have hQ : f_X4_forfeits σ x = (0, (si σ 25 x 0)) := by
          unfold f_X4_forfeits; rw [if_neg c1, if_neg c2, if_pos c3]
        exact x_zret (si σ 25 x 0) S hr hlk hsz htt hK E dX4_forfeits_66 rfl ⟨(congrArg Prod.fst hQ).symm, (congrArg Prod.snd hQ).symm⟩ rfl ⟨Nat.le_of_ble_eq_true rfl, Nat.le_of_ble_eq_true rfl⟩ ⟨Nat.le_of_ble_eq_true rfl, Nat.le_of_ble_eq_true rfl⟩
  · have c1 : (gi σ 22 x) = 0 := c1
    refine lv_aload_n hx hb dX4_forfeits_9 rfl (lv_at hl 0 rfl) ?_
    refine wg_X4_21 (v := .ref (ad 21)) S hK E 3 rfl rfl dX4_forfeits_10 ?_
    refine lv_iload_n hx hb dX4_forfeits_13 rfl (lv_at hl 1 rfl) ?_
    refine w_ild (v := gi σ 21 x) S hK E 21 0 rfl rfl q_x rfl dX4_forfeits_14 ?_
    refine lv_if_le (tgt := 22) hx hb dX4_forfeits_15 (by decide) (fun c4 => ?_) (fun c4 => ?_)
    · have c4 : (gi σ 21 x) ≤ 0 := c4
      refine lv_iconst (v := 0) hx hb dX4_forfeits_22 (by decide) ?_
      refine lv_istore_n (lv' := [(2, .int 0), (0, .ref (ad 3)), (1, .int x)]) hx hb dX4_forfeits_23 rfl hl (by decide) rfl (fun ls hl => ?_)
      refine lv_aload_n hx hb dX4_forfeits_24 rfl (lv_at hl 1 rfl) ?_
      refine wg_X4_35 (v := .ref (ad 25)) S hK E 3 rfl rfl dX4_forfeits_25 ?_
      refine lv_iload_n hx hb dX4_forfeits_28 rfl (lv_at hl 2 rfl) ?_
      refine lv_iload_n hx hb dX4_forfeits_29 rfl (lv_at hl 0 rfl) ?_
      refine lv_if_eq (tgt := 44) hx hb dX4_forfeits_30 (by decide) (fun _ => ?_) (fun c_ => absurd (by decide) c_)
      refine lv_iconst (v := 0) hx hb dX4_forfeits_44 (by decide) ?_
      refine w_ist (w' := wsW g ad lo ke fo ea (si σ 25 x 0)) S hK E 25 0 rfl rfl q_x wset_25 dX4_forfeits_45 (fun H locs E => ?_)
      refine lv_aload_n hx hb dX4_forfeits_46 rfl (lv_at hl 1 rfl) ?_
      refine wg_X4_35 (v := .ref (ad 25)) S hK E 3 rfl rfl dX4_forfeits_47 ?_
      refine lv_iload_n hx hb dX4_forfeits_50 rfl (lv_at hl 2 rfl) ?_
      refine w_ild (v := gi (si σ 25 x 0) 25 x) S hK E 25 0 rfl rfl q_x rfl dX4_forfeits_51 ?_
      refine lv_iconst (v := 3) hx hb dX4_forfeits_52 (by decide) ?_
      refine lv_icmp_lt (tgt := 65) hx hb dX4_forfeits_53 (by decide) (fun c5 => ?_) (fun c5 => ?_)
      · have c5 : (gi (si σ 25 x 0) 25 x) < 3 := c5
        refine lv_iconst (v := 0) hx hb dX4_forfeits_65 (by decide) ?_
        have hQ : f_X4_forfeits σ x = (0, (si σ 25 x 0)) := by
          unfold f_X4_forfeits; rw [if_pos c1, if_pos c4, if_pos c5]
        exact x_zret (si σ 25 x 0) S hr hlk hsz htt hK E dX4_forfeits_66 rfl ⟨(congrArg Prod.fst hQ).symm, (congrArg Prod.snd hQ).symm⟩ rfl ⟨Nat.le_of_ble_eq_true rfl, Nat.le_of_ble_eq_true rfl⟩ ⟨Nat.le_of_ble_eq_true rfl, Nat.le_of_ble_eq_true rfl⟩
      · have c5 : ¬ ((gi (si σ 25 x 0) 25 x) < 3) := c5
        refine lv_aload_n hx hb dX4_forfeits_56 rfl (lv_at hl 1 rfl) ?_
        refine wg_X4_18 (v := .ref (ad 20)) S hK E 3 rfl rfl dX4_forfeits_57 ?_
        refine lv_iload_n hx hb dX4_forfeits_60 rfl (lv_at hl 2 rfl) ?_
        refine w_ild (v := gi σ 20 x) S hK E 20 0 rfl rfl q_x rfl dX4_forfeits_61 ?_
        refine lv_if_ne (tgt := 67) hx hb dX4_forfeits_62 (by decide) (fun c6 => ?_) (fun c6 => ?_)
        · have c6 : ¬ ((gi σ 20 x) = 0) := c6
          refine lv_aload_n hx hb dX4_forfeits_67 rfl (lv_at hl 1 rfl) ?_
          refine wg_X4_18 (v := .ref (ad 20)) S hK E 3 rfl rfl dX4_forfeits_68 ?_
          refine lv_iload_n hx hb dX4_forfeits_71 rfl (lv_at hl 2 rfl) ?_
          refine lv_iconst (v := 0) hx hb dX4_forfeits_72 (by decide) ?_
          refine w_ist (w' := wsW g ad lo ke fo ea (si (si σ 25 x 0) 20 x 0)) S hK E 20 0 rfl rfl q_x wset_20 dX4_forfeits_73 (fun H locs E => ?_)
          refine lv_aload_n hx hb dX4_forfeits_74 rfl (lv_at hl 1 rfl) ?_
          refine wg_X4_35 (v := .ref (ad 25)) S hK E 3 rfl rfl dX4_forfeits_75 ?_
          refine lv_iload_n hx hb dX4_forfeits_78 rfl (lv_at hl 2 rfl) ?_
          refine lv_iconst (v := 0) hx hb dX4_forfeits_79 (by decide) ?_
          refine w_ist (w' := wsW g ad lo ke fo ea (si (si (si σ 25 x 0) 20 x 0) 25 x 0)) S hK E 25 0 rfl rfl q_x wset_25 dX4_forfeits_80 (fun H locs E => ?_)
          refine lv_iconst (v := 1) hx hb dX4_forfeits_81 (by decide) ?_
          have hQ : f_X4_forfeits σ x = (1, (si (si (si σ 25 x 0) 20 x 0) 25 x 0)) := by
            unfold f_X4_forfeits; rw [if_pos c1, if_pos c4, if_neg c5, if_neg c6]
          exact x_zret (si (si (si σ 25 x 0) 20 x 0) 25 x 0) S hr hlk hsz htt hK E dX4_forfeits_82 rfl ⟨(congrArg Prod.fst hQ).symm, (congrArg Prod.snd hQ).symm⟩ rfl ⟨Nat.le_of_ble_eq_true rfl, Nat.le_of_ble_eq_true rfl⟩ ⟨Nat.le_of_ble_eq_true rfl, Nat.le_of_ble_eq_true rfl⟩
        · have c6 : (gi σ 20 x) = 0 := c6
          refine lv_iconst (v := 0) hx hb dX4_forfeits_65 (by decide) ?_
          have hQ : f_X4_forfeits σ x = (0, (si σ 25 x 0)) := by
            unfold f_X4_forfeits; rw [if_pos c1, if_pos c4, if_neg c5, if_pos c6]
          exact x_zret (si σ 25 x 0) S hr hlk hsz htt hK E dX4_forfeits_66 rfl ⟨(congrArg Prod.fst hQ).symm, (congrArg Prod.snd hQ).symm⟩ rfl ⟨Nat.le_of_ble_eq_true rfl, Nat.le_of_ble_eq_true rfl⟩ ⟨Nat.le_of_ble_eq_true rfl, Nat.le_of_ble_eq_true rfl⟩
    · have c4 : ¬ ((gi σ 21 x) ≤ 0) := c4
      refine lv_iconst (v := 1) hx hb dX4_forfeits_18 (by decide) ?_
      refine lv_goto (tgt := 23) hx hb dX4_forfeits_19 (by decide) ?_
      refine lv_istore_n (lv' := [(2, .int 1), (0, .ref (ad 3)), (1, .int x)]) hx hb dX4_forfeits_23 rfl hl (by decide) rfl (fun ls hl => ?_)
      refine lv_aload_n hx hb dX4_forfeits_24 rfl (lv_at hl 1 rfl) ?_
      refine wg_X4_35 (v := .ref (ad 25)) S hK E 3 rfl rfl dX4_forfeits_25 ?_
      refine lv_iload_n hx hb dX4_forfeits_28 rfl (lv_at hl 2 rfl) ?_
      refine lv_iload_n hx hb dX4_forfeits_29 rfl (lv_at hl 0 rfl) ?_
      refine lv_if_eq (tgt := 44) hx hb dX4_forfeits_30 (by decide) (fun c_ => absurd c_ (by decide)) (fun _ => ?_)
      refine lv_aload_n hx hb dX4_forfeits_33 rfl (lv_at hl 1 rfl) ?_
      refine wg_X4_35 (v := .ref (ad 25)) S hK E 3 rfl rfl dX4_forfeits_34 ?_
      refine lv_iload_n hx hb dX4_forfeits_37 rfl (lv_at hl 2 rfl) ?_
      refine w_ild (v := gi σ 25 x) S hK E 25 0 rfl rfl q_x rfl dX4_forfeits_38 ?_
      refine lv_iconst (v := 1) hx hb dX4_forfeits_39 (by decide) ?_
      refine lv_iadd hx hb dX4_forfeits_40 ?_
      refine lv_goto (tgt := 45) hx hb dX4_forfeits_41 (by decide) ?_
      refine w_ist (w' := wsW g ad lo ke fo ea (si σ 25 x ((gi σ 25 x) + 1))) S hK E 25 0 rfl rfl q_x wset_25 dX4_forfeits_45 (fun H locs E => ?_)
      refine lv_aload_n hx hb dX4_forfeits_46 rfl (lv_at hl 1 rfl) ?_
      refine wg_X4_35 (v := .ref (ad 25)) S hK E 3 rfl rfl dX4_forfeits_47 ?_
      refine lv_iload_n hx hb dX4_forfeits_50 rfl (lv_at hl 2 rfl) ?_
      refine w_ild (v := gi (si σ 25 x ((gi σ 25 x) + 1)) 25 x) S hK E 25 0 rfl rfl q_x rfl dX4_forfeits_51 ?_
      refine lv_iconst (v := 3) hx hb dX4_forfeits_52 (by decide) ?_
      refine lv_icmp_lt (tgt := 65) hx hb dX4_forfeits_53 (by decide) (fun c7 => ?_) (fun c7 => ?_)
      · have c7 : (gi (si σ 25 x ((gi σ 25 x) + 1)) 25 x) < 3 := c7
        refine lv_iconst (v := 0) hx hb dX4_forfeits_65 (by decide) ?_
        have hQ : f_X4_forfeits σ x = (0, (si σ 25 x ((gi σ 25 x) + 1))) := by
          unfold f_X4_forfeits; rw [if_pos c1, if_neg c4, if_pos c7]
        exact x_zret (si σ 25 x ((gi σ 25 x) + 1)) S hr hlk hsz htt hK E dX4_forfeits_66 rfl ⟨(congrArg Prod.fst hQ).symm, (congrArg Prod.snd hQ).symm⟩ rfl ⟨Nat.le_of_ble_eq_true rfl, Nat.le_of_ble_eq_true rfl⟩ ⟨Nat.le_of_ble_eq_true rfl, Nat.le_of_ble_eq_true rfl⟩
      · have c7 : ¬ ((gi (si σ 25 x ((gi σ 25 x) + 1)) 25 x) < 3) := c7
        refine lv_aload_n hx hb dX4_forfeits_56 rfl (lv_at hl 1 rfl) ?_
        refine wg_X4_18 (v := .ref (ad 20)) S hK E 3 rfl rfl dX4_forfeits_57 ?_
        refine lv_iload_n hx hb dX4_forfeits_60 rfl (lv_at hl 2 rfl) ?_
        refine w_ild (v := gi σ 20 x) S hK E 20 0 rfl rfl q_x rfl dX4_forfeits_61 ?_
        refine lv_if_ne (tgt := 67) hx hb dX4_forfeits_62 (by decide) (fun c8 => ?_) (fun c8 => ?_)
        · have c8 : ¬ ((gi σ 20 x) = 0) := c8
          refine lv_aload_n hx hb dX4_forfeits_67 rfl (lv_at hl 1 rfl) ?_
          refine wg_X4_18 (v := .ref (ad 20)) S hK E 3 rfl rfl dX4_forfeits_68 ?_
          refine lv_iload_n hx hb dX4_forfeits_71 rfl (lv_at hl 2 rfl) ?_
          refine lv_iconst (v := 0) hx hb dX4_forfeits_72 (by decide) ?_
          refine w_ist (w' := wsW g ad lo ke fo ea (si (si σ 25 x ((gi σ 25 x) + 1)) 20 x 0)) S hK E 20 0 rfl rfl q_x wset_20 dX4_forfeits_73 (fun H locs E => ?_)
          refine lv_aload_n hx hb dX4_forfeits_74 rfl (lv_at hl 1 rfl) ?_
          refine wg_X4_35 (v := .ref (ad 25)) S hK E 3 rfl rfl dX4_forfeits_75 ?_
          refine lv_iload_n hx hb dX4_forfeits_78 rfl (lv_at hl 2 rfl) ?_
          refine lv_iconst (v := 0) hx hb dX4_forfeits_79 (by decide) ?_
          refine w_ist (w' := wsW g ad lo ke fo ea (si (si (si σ 25 x ((gi σ 25 x) + 1)) 20 x 0) 25 x 0)) S hK E 25 0 rfl rfl q_x wset_25 dX4_forfeits_80 (fun H locs E => ?_)
          refine lv_iconst (v := 1) hx hb dX4_forfeits_81 (by decide) ?_
          have hQ : f_X4_forfeits σ x = (1, (si (si (si σ 25 x ((gi σ 25 x) + 1)) 20 x 0) 25 x 0)) := by
            unfold f_X4_forfeits; rw [if_pos c1, if_neg c4, if_neg c7, if_neg c8]
          exact x_zret (si (si (si σ 25 x ((gi σ 25 x) + 1)) 20 x 0) 25 x 0) S hr hlk hsz htt hK E dX4_forfeits_82 rfl ⟨(congrArg Prod.fst hQ).symm, (congrArg Prod.snd hQ).symm⟩ rfl ⟨Nat.le_of_ble_eq_true rfl, Nat.le_of_ble_eq_true rfl⟩ ⟨Nat.le_of_ble_eq_true rfl, Nat.le_of_ble_eq_true rfl⟩
        · have c8 : (gi σ 20 x) = 0 := c8
          refine lv_iconst (v := 0) hx hb dX4_forfeits_65 (by decide) ?_
          have hQ : f_X4_forfeits σ x = (0, (si σ 25 x ((gi σ 25 x) + 1))) := by
            unfold f_X4_forfeits; rw [if_pos c1, if_neg c4, if_neg c7, if_pos c8]
          exact x_zret (si σ 25 x ((gi σ 25 x) + 1)) S hr hlk hsz htt hK E dX4_forfeits_66 rfl ⟨(congrArg Prod.fst hQ).symm, (congrArg Prod.snd hQ).symm⟩ rfl ⟨Nat.le_of_ble_eq_true rfl, Nat.le_of_ble_eq_true rfl⟩ ⟨Nat.le_of_ble_eq_true rfl, Nat.le_of_ble_eq_true rfl⟩
end
section
/-! WELLS and the LAND's months, but for the notes -/
theorem cnt_lt {n : Nat} (h : nI n < 6) (hn : n ≤ 6) : n < 6 := (nI_ltI (by omega) (by decide)).mp (show nI n < nI 6 from h)
theorem cnt_in {n : Nat} (h : nI n < 6) (hn : n ≤ 6) : vp_in (nI n) 6 := vp_in_nI (cnt_lt h hn) (by decide)
theorem gi_in27 {τ : Sg} {x : Int32} (h : ∀ w : Nat, w < 6 → vp_in (τ.1 27 w) 6) (hx : vp_in x 6) : vp_in (gi τ 27 x) 6 := h _ (vp_lt hx)
theorem up_in27 {τ : Sg} {x v : Int32} (h : ∀ w : Nat, w < 6 → vp_in (τ.1 27 w) 6) (hv : vp_in v 6) : ∀ w : Nat, w < 6 → vp_in ((si τ 27 x v).1 27 w) 6 := by
  intro w hw
  show vp_in (upd (τ.1 27) x.toNatClampNeg v w) 6
  unfold upd
  split
  · exact hv
  · exact h w hw
theorem col_lo {i : Nat} (h : ¬ nI (i % 8) ≤ 0) (hi : i < 16) : vp_in (nI i - 1) 16 := by
  have h2 : i % 8 ≠ 0 := fun z => h (by rw [z]; decide)
  obtain ⟨j, rfl⟩ : ∃ j, i = j + 1 := ⟨i - 1, by omega⟩
  rw [nI_pred]
  exact vp_in_nI (by omega) (by decide)
theorem col_hi {i : Nat} (h : ¬ (7 : Int32) ≤ nI (i % 8)) (hi : i < 16) : vp_in (nI (i + 1)) 16 := by
  have h2 : i % 8 < 7 := by
    rcases Nat.lt_or_ge (i % 8) 7 with q | q
    · exact q
    · exact absurd (show nI 7 ≤ nI (i % 8) from nI_le q (by omega)) h
  exact vp_in_nI (by omega) (by decide)
def f_X4_shutYounger_L16 (j : Nat) : Nat → Nat → Sg → Int32 → Sg
  | 0, i, τ, z => τ
  | k + 1, i, τ, z => if ((gi τ 18 (gi τ 27 (nI i))) / 8) = (z / 8) then (if 2 < (ab ((gi τ 18 (gi τ 27 (nI i))) - z)) then (f_X4_shutYounger_L16 j k (i + 1) τ z) else (f_X4_shutYounger_L16 j k (i + 1) (si τ 24 (gi τ 27 (nI i)) 1) z)) else (f_X4_shutYounger_L16 j k (i + 1) τ z)
theorem KP_X4_shutYounger_L16 {σ : Sg} {j : Nat} : ∀ (k i : Nat) (τ : Sg) (z : Int32), Kp τ σ → Kp (f_X4_shutYounger_L16 j k i τ z) σ := by
  intro k
  induction k with
  | zero =>
    intro i τ z hk
    rw [f_X4_shutYounger_L16]
    exact hk
  | succ k ih =>
    intro i τ z hk
    rw [f_X4_shutYounger_L16]
    split
    · split
      · exact ih _ _ _ hk
      · exact ih _ _ _ (Kp_si (k := 24) hk (by decide))
    · exact ih _ _ _ hk
def f_X4_shutYounger (σ : Sg) (j : Nat) : Sg := f_X4_shutYounger_L16 j (cnt σ - (j + 1)) (j + 1) σ (gi σ 18 (gi σ 27 (nI j)))
theorem KP_X4_shutYounger {σ : Sg} {j : Nat} : Kp (f_X4_shutYounger σ j) σ := by
  unfold f_X4_shutYounger
  exact KP_X4_shutYounger_L16 _ _ _ _ Kp.rf
set_option maxHeartbeats 4000000 in
set_option maxRecDepth 100000 in
/-- Wells.shutYounger -/
theorem c_X4_shutYounger (l : Launch) (g : Gm) (ad : Nat → Nat) (lo ke fo : Int32) (ea : Nat) (σ : Sg) (j : Nat) (q_j : j < 6) (hW : WF σ) (hj : j < cnt σ) : MXv l g yX4_shutYounger cX4_shutYounger 6 ({ frames := 1, cells := 0, slots := 0, locals := 13 } : Room) [.ref (ad 3), .int (nI j)] (wsW g ad lo ke fo ea σ) (fun u : Sg => u = f_X4_shutYounger σ j) (wsW g ad lo ke fo ea) (fun _ => (0, 0)) := by
  intro sz tt
  refine ofX RX4 rfl (by decide +kernel) (Nat.le_of_ble_eq_true rfl) (fun p e s m args below meth c hargs S hml hr hlk hnm hsz htt hK hA hZ E ls hl => ?_)
  have hx := S.1
  have hb := S.2.1
  have hl : lv_has ls 6 [(0, .ref (ad 3)), (1, .int (nI j))] := hl
  have L16 : ∀ (k i : Nat), i + k = cnt σ → ∀ (τ : Sg) (z : Int32) (hk : Kp τ σ)  (H : Heap) (locs : List Loc), f_X4_shutYounger σ j = f_X4_shutYounger_L16 j k i τ z → Ev g (va_A (wsW g ad lo ke fo ea σ) sz) s.heap H locs (wsW g ad lo ke fo ea τ) → ∀ ls : Array Slot, lv_has ls 6 [(0, .ref (ad 3)), (2, .int z), (3, .int (nI i))] → W p l e ({ frames := 1, cells := 0, slots := 0, locals := 13 } : Room) s m args below meth c H locs 0 0 (MQ below (va_Qv (fun u : Sg => u = f_X4_shutYounger σ j) (AtX g (va_A (wsW g ad lo ke fo ea σ) sz) (wsW g ad lo ke fo ea) (fun _ => (0, 0)) sz tt) (va_A (wsW g ad lo ke fo ea σ) sz)) args s 0 0 (va_A (wsW g ad lo ke fo ea σ) sz)) (F0 m 16 ls []) := by
    intro k
    induction k with
    | zero =>
      intro i hi τ z hk  H locs hF E ls hl
      have hl : lv_has ls 6 [(0, .ref (ad 3)), (2, .int z), (3, .int (nI i))] := hl
      have hcn := Kp.cnt hk
      have hle := WF.le hW
      refine lv_iload_n hx hb dX4_shutYounger_16 rfl (lv_at hl 2 rfl) ?_
      refine lv_aload_n hx hb dX4_shutYounger_17 rfl (lv_at hl 0 rfl) ?_
      refine wg_X4_44 (v := .int (nI (cnt τ))) S hK E 3 rfl (congrArg (fun z => some (Value.int z)) (WF.n (σ := τ) (Kp.wf hk hW))) dX4_shutYounger_18 ?_
      refine lv_icmp_ge (tgt := 91) hx hb dX4_shutYounger_21 (by decide) (fun _ => ?_) (fun c_ => absurd (g_yes rfl rfl (by have := Kp.cnt hk; have := WF.le hW; omega) (by have := WF.le hW; have := Kp.cnt hk; omega)) c_)
      have hQ : f_X4_shutYounger σ j = τ := by
        rw [hF]; rw [f_X4_shutYounger_L16]
      exact x_vret τ S hr hlk hsz htt hK E dX4_shutYounger_91 hQ.symm rfl ⟨Nat.le_of_ble_eq_true rfl, Nat.le_of_ble_eq_true rfl⟩ ⟨Nat.le_of_ble_eq_true rfl, Nat.le_of_ble_eq_true rfl⟩
    | succ k ih =>
      intro i hi τ z hk  H locs hF E ls hl
      have hl : lv_has ls 6 [(0, .ref (ad 3)), (2, .int z), (3, .int (nI i))] := hl
      have hcn := Kp.cnt hk
      have hle := WF.le hW
      refine lv_iload_n hx hb dX4_shutYounger_16 rfl (lv_at hl 2 rfl) ?_
      refine lv_aload_n hx hb dX4_shutYounger_17 rfl (lv_at hl 0 rfl) ?_
      refine wg_X4_44 (v := .int (nI (cnt τ))) S hK E 3 rfl (congrArg (fun z => some (Value.int z)) (WF.n (σ := τ) (Kp.wf hk hW))) dX4_shutYounger_18 ?_
      refine lv_icmp_ge (tgt := 91) hx hb dX4_shutYounger_21 (by decide) (fun c_ => absurd c_ (g_no rfl rfl (by have := Kp.cnt hk; omega) (by have := WF.le hW; have := Kp.cnt hk; omega))) (fun _ => ?_)
      refine lv_aload_n hx hb dX4_shutYounger_24 rfl (lv_at hl 0 rfl) ?_
      refine wg_X4_41 (v := .ref (ad 27)) S hK E 3 rfl rfl dX4_shutYounger_25 ?_
      refine lv_iload_n hx hb dX4_shutYounger_28 rfl (lv_at hl 2 rfl) ?_
      refine w_ild (v := gi τ 27 (nI i)) S hK E 27 0 rfl rfl (vp_in_nI (n := i) (by omega) (by decide)) rfl dX4_shutYounger_29 ?_
      refine lv_istore (lv' := [(4, .int (gi τ 27 (nI i))), (0, .ref (ad 3)), (2, .int z), (3, .int (nI i))]) hx hb dX4_shutYounger_30 hl (by decide) rfl (fun ls hl => ?_)
      refine lv_aload_n hx hb dX4_shutYounger_32 rfl (lv_at hl 1 rfl) ?_
      refine wg_X4_9 (v := .ref (ad 18)) S hK E 3 rfl rfl dX4_shutYounger_33 ?_
      refine lv_iload hx hb dX4_shutYounger_36 (lv_at hl 0 rfl) ?_
      refine w_ild (v := gi τ 18 (gi τ 27 (nI i))) S hK E 18 0 rfl rfl (WF.o (Kp.wf hk hW) (vp_in_nI (n := i) (by omega) (by decide))) rfl dX4_shutYounger_38 ?_
      refine lv_bipush (v := 8) hx hb dX4_shutYounger_39 (by decide) ?_
      refine lv_idiv hx hb dX4_shutYounger_41 (by decide) ?_
      refine lv_iload_n hx hb dX4_shutYounger_42 rfl (lv_at hl 2 rfl) ?_
      refine lv_bipush (v := 8) hx hb dX4_shutYounger_43 (by decide) ?_
      refine lv_idiv hx hb dX4_shutYounger_45 (by decide) ?_
      refine lv_icmp_ne (tgt := 53) hx hb dX4_shutYounger_46 (by decide) (fun c1 => ?_) (fun c1 => ?_)
      · have c1 : ¬ (((gi τ 18 (gi τ 27 (nI i))) / 8) = (z / 8)) := c1
        refine lv_iconst (v := 0) hx hb dX4_shutYounger_53 (by decide) ?_
        refine lv_istore (lv' := [(5, .int 0), (4, .int (gi τ 27 (nI i))), (0, .ref (ad 3)), (2, .int z), (3, .int (nI i))]) hx hb dX4_shutYounger_54 hl (by decide) rfl (fun ls hl => ?_)
        refine lv_iload hx hb dX4_shutYounger_56 (lv_at hl 0 rfl) ?_
        refine lv_if_eq (tgt := 85) hx hb dX4_shutYounger_58 (by decide) (fun _ => ?_) (fun c_ => absurd (by decide) c_)
        refine lv_iinc (v := (nI (i + 1))) (lv' := [(3, .int (nI (i + 1))), (5, .int 0), (4, .int (gi τ 27 (nI i))), (0, .ref (ad 3)), (2, .int z)]) hx hb dX4_shutYounger_85 hl (k := 4) rfl (nI_1 i) (by decide) rfl (fun ls hl => ?_)
        refine lv_goto (tgt := 16) hx hb dX4_shutYounger_88 (by decide) ?_
        have hF : f_X4_shutYounger σ j = f_X4_shutYounger_L16 j k (i + 1) τ z := by
          rw [hF]; rw [f_X4_shutYounger_L16]; rw [if_neg c1]
        exact ih (i + 1) (by omega) τ z hk  _ _ hF E ls (lv_sub hl [3, 4, 0] rfl)
      · have c1 : ((gi τ 18 (gi τ 27 (nI i))) / 8) = (z / 8) := c1
        refine lv_iconst (v := 1) hx hb dX4_shutYounger_49 (by decide) ?_
        refine lv_goto (tgt := 54) hx hb dX4_shutYounger_50 (by decide) ?_
        refine lv_istore (lv' := [(5, .int 1), (4, .int (gi τ 27 (nI i))), (0, .ref (ad 3)), (2, .int z), (3, .int (nI i))]) hx hb dX4_shutYounger_54 hl (by decide) rfl (fun ls hl => ?_)
        refine lv_iload hx hb dX4_shutYounger_56 (lv_at hl 0 rfl) ?_
        refine lv_if_eq (tgt := 85) hx hb dX4_shutYounger_58 (by decide) (fun c_ => absurd c_ (by decide)) (fun _ => ?_)
        refine lv_aload_n hx hb dX4_shutYounger_61 rfl (lv_at hl 2 rfl) ?_
        refine wg_X4_9 (v := .ref (ad 18)) S hK E 3 rfl rfl dX4_shutYounger_62 ?_
        refine lv_iload hx hb dX4_shutYounger_65 (lv_at hl 1 rfl) ?_
        refine w_ild (v := gi τ 18 (gi τ 27 (nI i))) S hK E 18 0 rfl rfl (WF.o (Kp.wf hk hW) (vp_in_nI (n := i) (by omega) (by decide))) rfl dX4_shutYounger_67 ?_
        refine lv_iload_n hx hb dX4_shutYounger_68 rfl (lv_at hl 3 rfl) ?_
        refine lv_isub hx hb dX4_shutYounger_69 ?_
        refine w_abs (v := (ab ((gi τ 18 (gi τ 27 (nI i))) - z))) S hml hl ml_X4_57 st_abs in_J9 co_abs (Nat.le_of_ble_eq_true rfl) (Nat.le_of_ble_eq_true rfl) ⟨Nat.le_of_ble_eq_true rfl, Nat.le_of_ble_eq_true rfl⟩ rfl dX4_shutYounger_70 ?_
        refine lv_iconst (v := 2) hx hb dX4_shutYounger_73 (by decide) ?_
        refine lv_icmp_gt (tgt := 85) hx hb dX4_shutYounger_74 (by decide) (fun c2 => ?_) (fun c2 => ?_)
        · have c2 : 2 < (ab ((gi τ 18 (gi τ 27 (nI i))) - z)) := c2
          refine lv_iinc (v := (nI (i + 1))) (lv' := [(3, .int (nI (i + 1))), (5, .int 1), (4, .int (gi τ 27 (nI i))), (0, .ref (ad 3)), (2, .int z)]) hx hb dX4_shutYounger_85 hl (k := 4) rfl (nI_1 i) (by decide) rfl (fun ls hl => ?_)
          refine lv_goto (tgt := 16) hx hb dX4_shutYounger_88 (by decide) ?_
          have hF : f_X4_shutYounger σ j = f_X4_shutYounger_L16 j k (i + 1) τ z := by
            rw [hF]; rw [f_X4_shutYounger_L16]; rw [if_pos c1, if_pos c2]
          exact ih (i + 1) (by omega) τ z hk  _ _ hF E ls (lv_sub hl [3, 4, 0] rfl)
        · have c2 : ¬ (2 < (ab ((gi τ 18 (gi τ 27 (nI i))) - z))) := c2
          refine lv_aload_n hx hb dX4_shutYounger_77 rfl (lv_at hl 2 rfl) ?_
          refine wg_X4_31 (v := .ref (ad 24)) S hK E 3 rfl rfl dX4_shutYounger_78 ?_
          refine lv_iload hx hb dX4_shutYounger_81 (lv_at hl 1 rfl) ?_
          refine lv_iconst (v := 1) hx hb dX4_shutYounger_83 (by decide) ?_
          refine w_zst (w' := wsW g ad lo ke fo ea (si τ 24 (gi τ 27 (nI i)) 1)) S hK E 24 2 rfl rfl (WF.o (Kp.wf hk hW) (vp_in_nI (n := i) (by omega) (by decide))) (wset_24 (by decide)) dX4_shutYounger_84 (fun H locs E => ?_)
          refine lv_iinc (v := (nI (i + 1))) (lv' := [(3, .int (nI (i + 1))), (5, .int 1), (4, .int (gi τ 27 (nI i))), (0, .ref (ad 3)), (2, .int z)]) hx hb dX4_shutYounger_85 hl (k := 4) rfl (nI_1 i) (by decide) rfl (fun ls hl => ?_)
          refine lv_goto (tgt := 16) hx hb dX4_shutYounger_88 (by decide) ?_
          have hF : f_X4_shutYounger σ j = f_X4_shutYounger_L16 j k (i + 1) (si τ 24 (gi τ 27 (nI i)) 1) z := by
            rw [hF]; rw [f_X4_shutYounger_L16]; rw [if_pos c1, if_neg c2]
          exact ih (i + 1) (by omega) (si τ 24 (gi τ 27 (nI i)) 1) z (Kp_si (k := 24) hk (by decide))  _ _ hF E ls (lv_sub hl [3, 4, 0] rfl)
  refine lv_aload_n hx hb dX4_shutYounger_0 rfl (lv_at hl 0 rfl) ?_
  refine wg_X4_9 (v := .ref (ad 18)) S hK E 3 rfl rfl dX4_shutYounger_1 ?_
  refine lv_aload_n hx hb dX4_shutYounger_4 rfl (lv_at hl 0 rfl) ?_
  refine wg_X4_41 (v := .ref (ad 27)) S hK E 3 rfl rfl dX4_shutYounger_5 ?_
  refine lv_iload_n hx hb dX4_shutYounger_8 rfl (lv_at hl 1 rfl) ?_
  refine w_ild (v := gi σ 27 (nI j)) S hK E 27 0 rfl rfl (vp_in_nI (n := j) (by omega) (by decide)) rfl dX4_shutYounger_9 ?_
  refine w_ild (v := gi σ 18 (gi σ 27 (nI j))) S hK E 18 0 rfl rfl (WF.o (Kp.wf Kp.rf hW) (vp_in_nI (n := j) (by omega) (by decide))) rfl dX4_shutYounger_10 ?_
  refine lv_istore_n (lv' := [(2, .int (gi σ 18 (gi σ 27 (nI j)))), (0, .ref (ad 3)), (1, .int (nI j))]) hx hb dX4_shutYounger_11 rfl hl (by decide) rfl (fun ls hl => ?_)
  refine lv_iload_n hx hb dX4_shutYounger_12 rfl (lv_at hl 2 rfl) ?_
  refine lv_iconst (v := 1) hx hb dX4_shutYounger_13 (by decide) ?_
  refine lv_iadd hx hb dX4_shutYounger_14 ?_
  rw [nI_1]
  refine lv_istore_n (lv' := [(3, .int (nI (j + 1))), (2, .int (gi σ 18 (gi σ 27 (nI j)))), (0, .ref (ad 3)), (1, .int (nI j))]) hx hb dX4_shutYounger_15 rfl hl (by decide) rfl (fun ls hl => ?_)
  have hF : f_X4_shutYounger σ j = f_X4_shutYounger_L16 j (cnt σ - (j + 1)) (j + 1) σ (gi σ 18 (gi σ 27 (nI j))) := by
    rfl
  exact L16 (cnt σ - (j + 1)) (j + 1) (by omega) σ (gi σ 18 (gi σ 27 (nI j))) Kp.rf  _ _ hF E ls (lv_sub hl [2, 1, 0] rfl)

def f_X4_keptToAmounts_L2 (σ : Sg)  : Nat → Nat → Int32
  | 0, i => 1
  | k + 1, i => if (gi σ 22 (nI i)) ≤ ((gi σ 20 (nI i)) + (gi σ 26 (nI i))) then (f_X4_keptToAmounts_L2 σ k (i + 1)) else 0
def f_X4_keptToAmounts (σ : Sg)  : Int32 := f_X4_keptToAmounts_L2 σ (cnt σ) 0
set_option maxHeartbeats 4000000 in
set_option maxRecDepth 100000 in
/-- Wells.keptToAmounts -/
theorem c_X4_keptToAmounts (l : Launch) (g : Gm) (ad : Nat → Nat) (lo ke fo : Int32) (ea : Nat) (σ : Sg) (hW : WF σ) : MXi l g yX4_keptToAmounts cX4_keptToAmounts 2 .boolean ({ frames := 0, cells := 0, slots := 0, locals := 0 } : Room) [.ref (ad 3)] (wsW g ad lo ke fo ea σ) (fun (r : Int32) (u : Sg) => r = f_X4_keptToAmounts σ ∧ u = σ) (wsW g ad lo ke fo ea) (fun _ => (0, 0)) := by
  intro sz tt
  refine ofX RX4 rfl (by decide +kernel) (Nat.le_of_ble_eq_true rfl) (fun p e s m args below meth c hargs S hml hr hlk hnm hsz htt hK hA hZ E ls hl => ?_)
  have hx := S.1
  have hb := S.2.1
  have hl : lv_has ls 2 [(0, .ref (ad 3))] := hl
  have L2 : ∀ (k i : Nat), i + k = cnt σ → ∀     (H : Heap) (locs : List Loc), f_X4_keptToAmounts σ = f_X4_keptToAmounts_L2 σ k i → Ev g (va_A (wsW g ad lo ke fo ea σ) sz) s.heap H locs (wsW g ad lo ke fo ea σ) → ∀ ls : Array Slot, lv_has ls 2 [(0, .ref (ad 3)), (1, .int (nI i))] → W p l e ({ frames := 0, cells := 0, slots := 0, locals := 0 } : Room) s m args below meth c H locs 0 0 (MQ below (va_Qi (fun (r : Int32) (u : Sg) => r = f_X4_keptToAmounts σ ∧ u = σ) (AtX g (va_A (wsW g ad lo ke fo ea σ) sz) (wsW g ad lo ke fo ea) (fun _ => (0, 0)) sz tt) (va_A (wsW g ad lo ke fo ea σ) sz)) args s 0 0 (va_A (wsW g ad lo ke fo ea σ) sz)) (F0 m 2 ls []) := by
    intro k
    induction k with
    | zero =>
      intro i hi     H locs hF E ls hl
      have hk : Kp σ σ := Kp.rf
      have hl : lv_has ls 2 [(0, .ref (ad 3)), (1, .int (nI i))] := hl
      have hcn := Kp.cnt hk
      have hle := WF.le hW
      refine lv_iload_n hx hb dX4_keptToAmounts_2 rfl (lv_at hl 1 rfl) ?_
      refine lv_aload_n hx hb dX4_keptToAmounts_3 rfl (lv_at hl 0 rfl) ?_
      refine wg_X4_44 (v := .int (nI (cnt σ))) S hK E 3 rfl (congrArg (fun z => some (Value.int z)) (WF.n (σ := σ) (Kp.wf hk hW))) dX4_keptToAmounts_4 ?_
      refine lv_icmp_ge (tgt := 40) hx hb dX4_keptToAmounts_7 (by decide) (fun _ => ?_) (fun c_ => absurd (g_yes rfl rfl (by have := Kp.cnt hk; have := WF.le hW; omega) (by have := WF.le hW; have := Kp.cnt hk; omega)) c_)
      refine lv_iconst (v := 1) hx hb dX4_keptToAmounts_40 (by decide) ?_
      have hQ : f_X4_keptToAmounts σ = 1 := by
        rw [hF]; rw [f_X4_keptToAmounts_L2]
      exact x_zret σ S hr hlk hsz htt hK E dX4_keptToAmounts_41 rfl ⟨hQ.symm, rfl⟩ rfl ⟨Nat.le_of_ble_eq_true rfl, Nat.le_of_ble_eq_true rfl⟩ ⟨Nat.le_of_ble_eq_true rfl, Nat.le_of_ble_eq_true rfl⟩
    | succ k ih =>
      intro i hi     H locs hF E ls hl
      have hk : Kp σ σ := Kp.rf
      have hl : lv_has ls 2 [(0, .ref (ad 3)), (1, .int (nI i))] := hl
      have hcn := Kp.cnt hk
      have hle := WF.le hW
      refine lv_iload_n hx hb dX4_keptToAmounts_2 rfl (lv_at hl 1 rfl) ?_
      refine lv_aload_n hx hb dX4_keptToAmounts_3 rfl (lv_at hl 0 rfl) ?_
      refine wg_X4_44 (v := .int (nI (cnt σ))) S hK E 3 rfl (congrArg (fun z => some (Value.int z)) (WF.n (σ := σ) (Kp.wf hk hW))) dX4_keptToAmounts_4 ?_
      refine lv_icmp_ge (tgt := 40) hx hb dX4_keptToAmounts_7 (by decide) (fun c_ => absurd c_ (g_no rfl rfl (by have := Kp.cnt hk; omega) (by have := WF.le hW; have := Kp.cnt hk; omega))) (fun _ => ?_)
      refine lv_aload_n hx hb dX4_keptToAmounts_10 rfl (lv_at hl 0 rfl) ?_
      refine wg_X4_24 (v := .ref (ad 22)) S hK E 3 rfl rfl dX4_keptToAmounts_11 ?_
      refine lv_iload_n hx hb dX4_keptToAmounts_14 rfl (lv_at hl 1 rfl) ?_
      refine w_ild (v := gi σ 22 (nI i)) S hK E 22 0 rfl rfl (vp_in_nI (n := i) (by omega) (by decide)) rfl dX4_keptToAmounts_15 ?_
      refine lv_aload_n hx hb dX4_keptToAmounts_16 rfl (lv_at hl 0 rfl) ?_
      refine wg_X4_18 (v := .ref (ad 20)) S hK E 3 rfl rfl dX4_keptToAmounts_17 ?_
      refine lv_iload_n hx hb dX4_keptToAmounts_20 rfl (lv_at hl 1 rfl) ?_
      refine w_ild (v := gi σ 20 (nI i)) S hK E 20 0 rfl rfl (vp_in_nI (n := i) (by omega) (by decide)) rfl dX4_keptToAmounts_21 ?_
      refine lv_aload_n hx hb dX4_keptToAmounts_22 rfl (lv_at hl 0 rfl) ?_
      refine wg_X4_38 (v := .ref (ad 26)) S hK E 3 rfl rfl dX4_keptToAmounts_23 ?_
      refine lv_iload_n hx hb dX4_keptToAmounts_26 rfl (lv_at hl 1 rfl) ?_
      refine w_ild (v := gi σ 26 (nI i)) S hK E 26 0 rfl rfl (vp_in_nI (n := i) (by omega) (by decide)) rfl dX4_keptToAmounts_27 ?_
      refine lv_iadd hx hb dX4_keptToAmounts_28 ?_
      refine lv_icmp_le (tgt := 34) hx hb dX4_keptToAmounts_29 (by decide) (fun c1 => ?_) (fun c1 => ?_)
      · have c1 : (gi σ 22 (nI i)) ≤ ((gi σ 20 (nI i)) + (gi σ 26 (nI i))) := c1
        refine lv_iinc (v := (nI (i + 1))) (lv' := [(1, .int (nI (i + 1))), (0, .ref (ad 3))]) hx hb dX4_keptToAmounts_34 hl (k := 1) rfl (nI_1 i) (by decide) rfl (fun ls hl => ?_)
        refine lv_goto (tgt := 2) hx hb dX4_keptToAmounts_37 (by decide) ?_
        have hF : f_X4_keptToAmounts σ = f_X4_keptToAmounts_L2 σ k (i + 1) := by
          rw [hF]; rw [f_X4_keptToAmounts_L2]; rw [if_pos c1]
        exact ih (i + 1) (by omega)     _ _ hF E ls (lv_sub hl [1, 0] rfl)
      · have c1 : ¬ ((gi σ 22 (nI i)) ≤ ((gi σ 20 (nI i)) + (gi σ 26 (nI i)))) := c1
        refine lv_iconst (v := 0) hx hb dX4_keptToAmounts_32 (by decide) ?_
        have hQ : f_X4_keptToAmounts σ = 0 := by
          rw [hF]; rw [f_X4_keptToAmounts_L2]; rw [if_neg c1]
        exact x_zret σ S hr hlk hsz htt hK E dX4_keptToAmounts_33 rfl ⟨hQ.symm, rfl⟩ rfl ⟨Nat.le_of_ble_eq_true rfl, Nat.le_of_ble_eq_true rfl⟩ ⟨Nat.le_of_ble_eq_true rfl, Nat.le_of_ble_eq_true rfl⟩
  refine lv_iconst (v := 0) hx hb dX4_keptToAmounts_0 (by decide) ?_
  refine lv_istore_n (lv' := [(1, .int 0), (0, .ref (ad 3))]) hx hb dX4_keptToAmounts_1 rfl hl (by decide) rfl (fun ls hl => ?_)
  have hF : f_X4_keptToAmounts σ = f_X4_keptToAmounts_L2 σ (cnt σ) 0 := by
    rfl
  exact L2 (cnt σ) 0 (by omega)     _ _ hF E ls (lv_sub hl [1, 0] rfl)

def f_X4_add_L46 (x : Int32) (y : Int32) (z : Int32) : Nat → Nat → Sg → Sg
  | 0, i, τ => (ss (si τ 27 (nI 0) (gs τ 4)) 4 ((gs τ 4) + 1))
  | k + 1, i, τ => if (gi τ 19 (gi τ 27 (nI k))) ≤ y then (ss (si τ 27 (nI (k + 1)) (gs τ 4)) 4 ((gs τ 4) + 1)) else (f_X4_add_L46 x y z k (i + 1) (si τ 27 (nI (k + 1)) (gi τ 27 (nI k))))
def f_X4_add (σ : Sg) (x : Int32) (y : Int32) (z : Int32) : Sg := if (nI (cnt σ)) < 6 then (f_X4_add_L46 x y z (cnt σ) 0 (si (si (si σ 18 (nI (cnt σ)) x) 19 (nI (cnt σ)) y) 20 (nI (cnt σ)) z)) else σ
set_option maxHeartbeats 4000000 in
set_option maxRecDepth 100000 in
/-- Wells.add -/
theorem c_X4_add (l : Launch) (g : Gm) (ad : Nat → Nat) (lo ke fo : Int32) (ea : Nat) (σ : Sg) (x : Int32) (y : Int32) (z : Int32) (q_x : vp_in x 16) (hW : WF σ) : MXv l g yX4_add cX4_add 5 ({ frames := 0, cells := 0, slots := 0, locals := 0 } : Room) [.ref (ad 3), .int x, .int y, .int z] (wsW g ad lo ke fo ea σ) (fun u : Sg => u = f_X4_add σ x y z) (wsW g ad lo ke fo ea) (fun _ => (0, 0)) := by
  intro sz tt
  refine ofX RX4 rfl (by decide +kernel) (Nat.le_of_ble_eq_true rfl) (fun p e s m args below meth c hargs S hml hr hlk hnm hsz htt hK hA hZ E ls hl => ?_)
  have hx := S.1
  have hb := S.2.1
  have hl : lv_has ls 5 [(0, .ref (ad 3)), (1, .int x), (2, .int y), (3, .int z)] := hl
  have L46 : ∀ (k i : Nat), i + k = cnt σ ∧ cnt σ < 6 → ∀ (τ : Sg)   (h27 : ∀ w : Nat, w < 6 → vp_in (τ.1 27 w) 6) (H : Heap) (locs : List Loc), f_X4_add σ x y z = f_X4_add_L46 x y z k i τ → Ev g (va_A (wsW g ad lo ke fo ea σ) sz) s.heap H locs (wsW g ad lo ke fo ea τ) → ∀ ls : Array Slot, lv_has ls 5 [(0, .ref (ad 3)), (1, .int x), (2, .int y), (3, .int z), (4, .int (nI k))] → W p l e ({ frames := 0, cells := 0, slots := 0, locals := 0 } : Room) s m args below meth c H locs 0 0 (MQ below (va_Qv (fun u : Sg => u = f_X4_add σ x y z) (AtX g (va_A (wsW g ad lo ke fo ea σ) sz) (wsW g ad lo ke fo ea) (fun _ => (0, 0)) sz tt) (va_A (wsW g ad lo ke fo ea σ) sz)) args s 0 0 (va_A (wsW g ad lo ke fo ea σ) sz)) (F0 m 46 ls []) := by
    intro k
    induction k with
    | zero =>
      intro i hi τ   h27 H locs hF E ls hl
      have hl : lv_has ls 5 [(0, .ref (ad 3)), (1, .int x), (2, .int y), (3, .int z), (4, .int (nI 0))] := hl
      obtain ⟨hi, hi6⟩ := hi
      refine lv_iload hx hb dX4_add_46 (lv_at hl 4 rfl) ?_
      refine lv_if_le (tgt := 91) hx hb dX4_add_48 (by decide) (fun _ => ?_) (fun c_ => absurd (by decide) c_)
      refine lv_aload_n hx hb dX4_add_91 rfl (lv_at hl 0 rfl) ?_
      refine wg_X4_41 (v := .ref (ad 27)) S hK E 3 rfl rfl dX4_add_92 ?_
      refine lv_iload hx hb dX4_add_95 (lv_at hl 4 rfl) ?_
      refine lv_aload_n hx hb dX4_add_97 rfl (lv_at hl 0 rfl) ?_
      refine wg_X4_44 (v := .int (gs τ 4)) S hK E 3 rfl rfl dX4_add_98 ?_
      refine w_ist (w' := wsW g ad lo ke fo ea (si τ 27 (nI 0) (gs τ 4))) S hK E 27 0 rfl rfl (vp_in_nI (n := 0) (by omega) (by decide)) wset_27 dX4_add_101 (fun H locs E => ?_)
      refine lv_aload_n hx hb dX4_add_102 rfl (lv_at hl 0 rfl) ?_
      refine lv_dup hx hb dX4_add_103 rfl ?_
      refine wg_X4_44 (v := .int (gs τ 4)) S hK E 3 rfl rfl dX4_add_104 ?_
      refine lv_iconst (v := 1) hx hb dX4_add_107 (by decide) ?_
      refine lv_iadd hx hb dX4_add_108 ?_
      refine wp_X4_44 (w' := wsW g ad lo ke fo ea (ss (si τ 27 (nI 0) (gs τ 4)) 4 ((gs τ 4) + 1))) S hK E 3 rfl rfl rfl (Nat.le_of_ble_eq_true rfl) wset_count dX4_add_109 (fun H locs E => ?_)
      have hQ : f_X4_add σ x y z = (ss (si τ 27 (nI 0) (gs τ 4)) 4 ((gs τ 4) + 1)) := by
        rw [hF]; rw [f_X4_add_L46]
      exact x_vret (ss (si τ 27 (nI 0) (gs τ 4)) 4 ((gs τ 4) + 1)) S hr hlk hsz htt hK E dX4_add_112 hQ.symm rfl ⟨Nat.le_of_ble_eq_true rfl, Nat.le_of_ble_eq_true rfl⟩ ⟨Nat.le_of_ble_eq_true rfl, Nat.le_of_ble_eq_true rfl⟩
    | succ k ih =>
      intro i hi τ   h27 H locs hF E ls hl
      have hl : lv_has ls 5 [(0, .ref (ad 3)), (1, .int x), (2, .int y), (3, .int z), (4, .int (nI (k + 1)))] := hl
      have hi0 := hi.1
      have hi6 := hi.2
      refine lv_iload hx hb dX4_add_46 (lv_at hl 4 rfl) ?_
      refine lv_if_le (tgt := 91) hx hb dX4_add_48 (by decide) (fun c_ => absurd c_ (nI_nle (by omega) (by omega))) (fun _ => ?_)
      refine lv_aload_n hx hb dX4_add_51 rfl (lv_at hl 0 rfl) ?_
      refine wg_X4_15 (v := .ref (ad 19)) S hK E 3 rfl rfl dX4_add_52 ?_
      refine lv_aload_n hx hb dX4_add_55 rfl (lv_at hl 0 rfl) ?_
      refine wg_X4_41 (v := .ref (ad 27)) S hK E 3 rfl rfl dX4_add_56 ?_
      refine lv_iload hx hb dX4_add_59 (lv_at hl 4 rfl) ?_
      refine lv_iconst (v := 1) hx hb dX4_add_61 (by decide) ?_
      refine lv_isub hx hb dX4_add_62 ?_
      rw [show ((nI (k + 1)) - 1) = nI k from nI_pred k]
      refine w_ild (v := gi τ 27 (nI k)) S hK E 27 0 rfl rfl (vp_in_nI (n := k) (by omega) (by decide)) rfl dX4_add_63 ?_
      refine w_ild (v := gi τ 19 (gi τ 27 (nI k))) S hK E 19 0 rfl rfl (gi_in27 h27 (vp_in_nI (by omega) (by decide))) rfl dX4_add_64 ?_
      refine lv_iload_n hx hb dX4_add_65 rfl (lv_at hl 2 rfl) ?_
      refine lv_icmp_le (tgt := 91) hx hb dX4_add_66 (by decide) (fun c1 => ?_) (fun c1 => ?_)
      · have c1 : (gi τ 19 (gi τ 27 (nI k))) ≤ y := c1
        refine lv_aload_n hx hb dX4_add_91 rfl (lv_at hl 0 rfl) ?_
        refine wg_X4_41 (v := .ref (ad 27)) S hK E 3 rfl rfl dX4_add_92 ?_
        refine lv_iload hx hb dX4_add_95 (lv_at hl 4 rfl) ?_
        refine lv_aload_n hx hb dX4_add_97 rfl (lv_at hl 0 rfl) ?_
        refine wg_X4_44 (v := .int (gs τ 4)) S hK E 3 rfl rfl dX4_add_98 ?_
        refine w_ist (w' := wsW g ad lo ke fo ea (si τ 27 (nI (k + 1)) (gs τ 4))) S hK E 27 0 rfl rfl (vp_in_nI (n := (k + 1)) (by omega) (by decide)) wset_27 dX4_add_101 (fun H locs E => ?_)
        refine lv_aload_n hx hb dX4_add_102 rfl (lv_at hl 0 rfl) ?_
        refine lv_dup hx hb dX4_add_103 rfl ?_
        refine wg_X4_44 (v := .int (gs τ 4)) S hK E 3 rfl rfl dX4_add_104 ?_
        refine lv_iconst (v := 1) hx hb dX4_add_107 (by decide) ?_
        refine lv_iadd hx hb dX4_add_108 ?_
        refine wp_X4_44 (w' := wsW g ad lo ke fo ea (ss (si τ 27 (nI (k + 1)) (gs τ 4)) 4 ((gs τ 4) + 1))) S hK E 3 rfl rfl rfl (Nat.le_of_ble_eq_true rfl) wset_count dX4_add_109 (fun H locs E => ?_)
        have hQ : f_X4_add σ x y z = (ss (si τ 27 (nI (k + 1)) (gs τ 4)) 4 ((gs τ 4) + 1)) := by
          rw [hF]; rw [f_X4_add_L46]; rw [if_pos c1]
        exact x_vret (ss (si τ 27 (nI (k + 1)) (gs τ 4)) 4 ((gs τ 4) + 1)) S hr hlk hsz htt hK E dX4_add_112 hQ.symm rfl ⟨Nat.le_of_ble_eq_true rfl, Nat.le_of_ble_eq_true rfl⟩ ⟨Nat.le_of_ble_eq_true rfl, Nat.le_of_ble_eq_true rfl⟩
      · have c1 : ¬ ((gi τ 19 (gi τ 27 (nI k))) ≤ y) := c1
        refine lv_aload_n hx hb dX4_add_69 rfl (lv_at hl 0 rfl) ?_
        refine wg_X4_41 (v := .ref (ad 27)) S hK E 3 rfl rfl dX4_add_70 ?_
        refine lv_iload hx hb dX4_add_73 (lv_at hl 4 rfl) ?_
        refine lv_aload_n hx hb dX4_add_75 rfl (lv_at hl 0 rfl) ?_
        refine wg_X4_41 (v := .ref (ad 27)) S hK E 3 rfl rfl dX4_add_76 ?_
        refine lv_iload hx hb dX4_add_79 (lv_at hl 4 rfl) ?_
        refine lv_iconst (v := 1) hx hb dX4_add_81 (by decide) ?_
        refine lv_isub hx hb dX4_add_82 ?_
        rw [show ((nI (k + 1)) - 1) = nI k from nI_pred k]
        refine w_ild (v := gi τ 27 (nI k)) S hK E 27 0 rfl rfl (vp_in_nI (n := k) (by omega) (by decide)) rfl dX4_add_83 ?_
        refine w_ist (w' := wsW g ad lo ke fo ea (si τ 27 (nI (k + 1)) (gi τ 27 (nI k)))) S hK E 27 0 rfl rfl (vp_in_nI (n := (k + 1)) (by omega) (by decide)) wset_27 dX4_add_84 (fun H locs E => ?_)
        refine lv_iinc (v := (nI k)) (lv' := [(4, .int (nI k)), (0, .ref (ad 3)), (1, .int x), (2, .int y), (3, .int z)]) hx hb dX4_add_85 hl (k := 4) rfl (pk_m1 k) (by decide) rfl (fun ls hl => ?_)
        refine lv_goto (tgt := 46) hx hb dX4_add_88 (by decide) ?_
        have hF : f_X4_add σ x y z = f_X4_add_L46 x y z k (i + 1) (si τ 27 (nI (k + 1)) (gi τ 27 (nI k))) := by
          rw [hF]; rw [f_X4_add_L46]; rw [if_neg c1]
        exact ih (i + 1) ⟨by omega, hi.2⟩ (si τ 27 (nI (k + 1)) (gi τ 27 (nI k)))   (up_in27 h27 (gi_in27 h27 (vp_in_nI (by omega) (by decide)))) _ _ hF E ls (lv_sub hl [1, 2, 3, 4, 0] rfl)
  refine lv_aload_n hx hb dX4_add_0 rfl (lv_at hl 0 rfl) ?_
  refine wg_X4_44 (v := .int (nI (cnt σ))) S hK E 3 rfl (congrArg (fun z => some (Value.int z)) (WF.n (σ := σ) (Kp.wf Kp.rf hW))) dX4_add_1 ?_
  refine lv_bipush (v := 6) hx hb dX4_add_4 (by decide) ?_
  refine lv_icmp_lt (tgt := 10) hx hb dX4_add_6 (by decide) (fun c2 => ?_) (fun c2 => ?_)
  · have c2 : (nI (cnt σ)) < 6 := c2
    refine lv_aload_n hx hb dX4_add_10 rfl (lv_at hl 0 rfl) ?_
    refine wg_X4_9 (v := .ref (ad 18)) S hK E 3 rfl rfl dX4_add_11 ?_
    refine lv_aload_n hx hb dX4_add_14 rfl (lv_at hl 0 rfl) ?_
    refine wg_X4_44 (v := .int (nI (cnt σ))) S hK E 3 rfl (congrArg (fun z => some (Value.int z)) (WF.n (σ := σ) (Kp.wf Kp.rf hW))) dX4_add_15 ?_
    refine lv_iload_n hx hb dX4_add_18 rfl (lv_at hl 1 rfl) ?_
    refine w_ist (w' := wsW g ad lo ke fo ea (si σ 18 (nI (cnt σ)) x)) S hK E 18 0 rfl rfl (cnt_in c2 (WF.le hW)) wset_18 dX4_add_19 (fun H locs E => ?_)
    refine lv_aload_n hx hb dX4_add_20 rfl (lv_at hl 0 rfl) ?_
    refine wg_X4_15 (v := .ref (ad 19)) S hK E 3 rfl rfl dX4_add_21 ?_
    refine lv_aload_n hx hb dX4_add_24 rfl (lv_at hl 0 rfl) ?_
    refine wg_X4_44 (v := .int (nI (cnt σ))) S hK E 3 rfl (congrArg (fun z => some (Value.int z)) (WF.n (σ := σ) (Kp.wf Kp.rf hW))) dX4_add_25 ?_
    refine lv_iload_n hx hb dX4_add_28 rfl (lv_at hl 2 rfl) ?_
    refine w_ist (w' := wsW g ad lo ke fo ea (si (si σ 18 (nI (cnt σ)) x) 19 (nI (cnt σ)) y)) S hK E 19 0 rfl rfl (cnt_in c2 (WF.le hW)) wset_19 dX4_add_29 (fun H locs E => ?_)
    refine lv_aload_n hx hb dX4_add_30 rfl (lv_at hl 0 rfl) ?_
    refine wg_X4_18 (v := .ref (ad 20)) S hK E 3 rfl rfl dX4_add_31 ?_
    refine lv_aload_n hx hb dX4_add_34 rfl (lv_at hl 0 rfl) ?_
    refine wg_X4_44 (v := .int (nI (cnt σ))) S hK E 3 rfl (congrArg (fun z => some (Value.int z)) (WF.n (σ := σ) (Kp.wf Kp.rf hW))) dX4_add_35 ?_
    refine lv_iload_n hx hb dX4_add_38 rfl (lv_at hl 3 rfl) ?_
    refine w_ist (w' := wsW g ad lo ke fo ea (si (si (si σ 18 (nI (cnt σ)) x) 19 (nI (cnt σ)) y) 20 (nI (cnt σ)) z)) S hK E 20 0 rfl rfl (cnt_in c2 (WF.le hW)) wset_20 dX4_add_39 (fun H locs E => ?_)
    refine lv_aload_n hx hb dX4_add_40 rfl (lv_at hl 0 rfl) ?_
    refine wg_X4_44 (v := .int (nI (cnt σ))) S hK E 3 rfl (congrArg (fun z => some (Value.int z)) (WF.n (σ := σ) (Kp.wf Kp.rf hW))) dX4_add_41 ?_
    refine lv_istore (lv' := [(4, .int (nI (cnt σ))), (0, .ref (ad 3)), (1, .int x), (2, .int y), (3, .int z)]) hx hb dX4_add_44 hl (by decide) rfl (fun ls hl => ?_)
    have hF : f_X4_add σ x y z = f_X4_add_L46 x y z (cnt σ) 0 (si (si (si σ 18 (nI (cnt σ)) x) 19 (nI (cnt σ)) y) 20 (nI (cnt σ)) z) := by
      unfold f_X4_add; rw [if_pos c2]
    exact L46 (cnt σ) 0 ⟨by omega, cnt_lt c2 (WF.le hW)⟩ (si (si (si σ 18 (nI (cnt σ)) x) 19 (nI (cnt σ)) y) 20 (nI (cnt σ)) z)   hW.2.2 _ _ hF E ls (lv_sub hl [1, 2, 3, 4, 0] rfl)
  · have c2 : ¬ ((nI (cnt σ)) < 6) := c2
    have hQ : f_X4_add σ x y z = σ := by
      unfold f_X4_add; rw [if_neg c2]
    exact x_vret σ S hr hlk hsz htt hK E dX4_add_9 hQ.symm rfl ⟨Nat.le_of_ble_eq_true rfl, Nat.le_of_ble_eq_true rfl⟩ ⟨Nat.le_of_ble_eq_true rfl, Nat.le_of_ble_eq_true rfl⟩

def f_X5_fillCell (σ : Sg) (x : Int32) (y : Int32) (z : Int32) (w : Int32) : Sg := (si (si (si (si (sl σ 28 0 ((gl σ 28 0) + (((w - (gi σ 10 x))).toInt64))) 8 x y) 9 x z) 10 x w) 11 x 0)
theorem KP_X5_fillCell {σ : Sg} {x : Int32} {y : Int32} {z : Int32} {w : Int32} : Kp (f_X5_fillCell σ x y z w) σ := by
  unfold f_X5_fillCell
  exact (Kp_si (k := 11) (Kp_si (k := 10) (Kp_si (k := 9) (Kp_si (k := 8) (Kp_sl Kp.rf) (by decide)) (by decide)) (by decide)) (by decide))
set_option maxHeartbeats 4000000 in
set_option maxRecDepth 100000 in
/-- World.fillCell -/
theorem c_X5_fillCell (l : Launch) (g : Gm) (ad : Nat → Nat) (lo ke fo : Int32) (ea : Nat) (σ : Sg) (x : Int32) (y : Int32) (z : Int32) (w : Int32) (q_x : vp_in x 16) : MXv l g yX5_fillCell cX5_fillCell 5 ({ frames := 0, cells := 0, slots := 0, locals := 0 } : Room) [.ref (ad 0), .int x, .int y, .int z, .int w] (wsW g ad lo ke fo ea σ) (fun u : Sg => u = f_X5_fillCell σ x y z w) (wsW g ad lo ke fo ea) (fun _ => (0, 0)) := by
  intro sz tt
  refine ofX RX5 rfl (by decide +kernel) (Nat.le_of_ble_eq_true rfl) (fun p e s m args below meth c hargs S hml hr hlk hnm hsz htt hK hA hZ E ls hl => ?_)
  have hx := S.1
  have hb := S.2.1
  have hl : lv_has ls 5 [(0, .ref (ad 0)), (1, .int x), (2, .int y), (3, .int z), (4, .int w)] := hl
  refine lv_aload_n hx hb dX5_fillCell_0 rfl (lv_at hl 0 rfl) ?_
  refine wg_X5_35 (v := .ref (ad 4)) S hK E 0 rfl rfl dX5_fillCell_1 ?_
  refine wg_X5_147 (v := .ref (ad 28)) S hK E 4 rfl rfl dX5_fillCell_4 ?_
  refine lv_iconst (v := 0) hx hb dX5_fillCell_7 (by decide) ?_
  refine lv_dup2_11 hx hb dX5_fillCell_8 rfl rfl ?_
  refine w_lld (v := gl σ 28 0) S hK E 28 1 rfl rfl (show vp_in 0 9 by unfold vp_in; decide) rfl dX5_fillCell_9 ?_
  refine lv_iload hx hb dX5_fillCell_10 (lv_at hl 4 rfl) ?_
  refine lv_aload_n hx hb dX5_fillCell_12 rfl (lv_at hl 0 rfl) ?_
  refine wg_X5_12 (v := .ref (ad 1)) S hK E 0 rfl rfl dX5_fillCell_13 ?_
  refine wg_X5_151 (v := .ref (ad 10)) S hK E 1 rfl rfl dX5_fillCell_16 ?_
  refine lv_iload_n hx hb dX5_fillCell_19 rfl (lv_at hl 1 rfl) ?_
  refine w_ild (v := gi σ 10 x) S hK E 10 0 rfl rfl q_x rfl dX5_fillCell_20 ?_
  refine lv_isub hx hb dX5_fillCell_21 ?_
  refine lv_i2l (v := ((w - (gi σ 10 x))).toInt64) hx hb dX5_fillCell_22 rfl ?_
  refine lv_ladd hx hb dX5_fillCell_23 ?_
  refine w_lst (w' := wsW g ad lo ke fo ea (sl σ 28 0 ((gl σ 28 0) + (((w - (gi σ 10 x))).toInt64)))) S hK E 28 1 rfl rfl (show vp_in 0 9 by unfold vp_in; decide) wset_28 dX5_fillCell_24 (fun H locs E => ?_)
  refine lv_aload_n hx hb dX5_fillCell_25 rfl (lv_at hl 0 rfl) ?_
  refine wg_X5_12 (v := .ref (ad 1)) S hK E 0 rfl rfl dX5_fillCell_26 ?_
  refine wg_X5_154 (v := .ref (ad 8)) S hK E 1 rfl rfl dX5_fillCell_29 ?_
  refine lv_iload_n hx hb dX5_fillCell_32 rfl (lv_at hl 1 rfl) ?_
  refine lv_iload_n hx hb dX5_fillCell_33 rfl (lv_at hl 2 rfl) ?_
  refine w_ist (w' := wsW g ad lo ke fo ea (si (sl σ 28 0 ((gl σ 28 0) + (((w - (gi σ 10 x))).toInt64))) 8 x y)) S hK E 8 0 rfl rfl q_x wset_8 dX5_fillCell_34 (fun H locs E => ?_)
  refine lv_aload_n hx hb dX5_fillCell_35 rfl (lv_at hl 0 rfl) ?_
  refine wg_X5_12 (v := .ref (ad 1)) S hK E 0 rfl rfl dX5_fillCell_36 ?_
  refine wg_X5_157 (v := .ref (ad 9)) S hK E 1 rfl rfl dX5_fillCell_39 ?_
  refine lv_iload_n hx hb dX5_fillCell_42 rfl (lv_at hl 1 rfl) ?_
  refine lv_iload_n hx hb dX5_fillCell_43 rfl (lv_at hl 3 rfl) ?_
  refine w_ist (w' := wsW g ad lo ke fo ea (si (si (sl σ 28 0 ((gl σ 28 0) + (((w - (gi σ 10 x))).toInt64))) 8 x y) 9 x z)) S hK E 9 0 rfl rfl q_x wset_9 dX5_fillCell_44 (fun H locs E => ?_)
  refine lv_aload_n hx hb dX5_fillCell_45 rfl (lv_at hl 0 rfl) ?_
  refine wg_X5_12 (v := .ref (ad 1)) S hK E 0 rfl rfl dX5_fillCell_46 ?_
  refine wg_X5_151 (v := .ref (ad 10)) S hK E 1 rfl rfl dX5_fillCell_49 ?_
  refine lv_iload_n hx hb dX5_fillCell_52 rfl (lv_at hl 1 rfl) ?_
  refine lv_iload hx hb dX5_fillCell_53 (lv_at hl 4 rfl) ?_
  refine w_ist (w' := wsW g ad lo ke fo ea (si (si (si (sl σ 28 0 ((gl σ 28 0) + (((w - (gi σ 10 x))).toInt64))) 8 x y) 9 x z) 10 x w)) S hK E 10 0 rfl rfl q_x wset_10 dX5_fillCell_55 (fun H locs E => ?_)
  refine lv_aload_n hx hb dX5_fillCell_56 rfl (lv_at hl 0 rfl) ?_
  refine wg_X5_12 (v := .ref (ad 1)) S hK E 0 rfl rfl dX5_fillCell_57 ?_
  refine wg_X5_160 (v := .ref (ad 11)) S hK E 1 rfl rfl dX5_fillCell_60 ?_
  refine lv_iload_n hx hb dX5_fillCell_63 rfl (lv_at hl 1 rfl) ?_
  refine lv_iconst (v := 0) hx hb dX5_fillCell_64 (by decide) ?_
  refine w_ist (w' := wsW g ad lo ke fo ea (si (si (si (si (sl σ 28 0 ((gl σ 28 0) + (((w - (gi σ 10 x))).toInt64))) 8 x y) 9 x z) 10 x w) 11 x 0)) S hK E 11 0 rfl rfl q_x wset_11 dX5_fillCell_65 (fun H locs E => ?_)
  have hQ : f_X5_fillCell σ x y z w = (si (si (si (si (sl σ 28 0 ((gl σ 28 0) + (((w - (gi σ 10 x))).toInt64))) 8 x y) 9 x z) 10 x w) 11 x 0) := by
    rfl
  exact x_vret (si (si (si (si (sl σ 28 0 ((gl σ 28 0) + (((w - (gi σ 10 x))).toInt64))) 8 x y) 9 x z) 10 x w) 11 x 0) S hr hlk hsz htt hK E dX5_fillCell_66 hQ.symm rfl ⟨Nat.le_of_ble_eq_true rfl, Nat.le_of_ble_eq_true rfl⟩ ⟨Nat.le_of_ble_eq_true rfl, Nat.le_of_ble_eq_true rfl⟩

def f_X5_followTransfer (σ : Sg) (lo : Int32) (x : Int32) (y : Int32) (z : Int32) : Sg := if x = lo then σ else (if y = lo then σ else (if (f_X4_canGive σ x y z) = 0 then σ else (f_X4_give σ x y z)))
theorem KP_X5_followTransfer {σ : Sg} {lo : Int32} {x : Int32} {y : Int32} {z : Int32} : Kp (f_X5_followTransfer σ lo x y z) σ := by
  unfold f_X5_followTransfer
  split
  · exact Kp.rf
  · split
    · exact Kp.rf
    · split
      · exact Kp.rf
      · exact (Kp.tr KP_X4_give Kp.rf)
set_option maxHeartbeats 4000000 in
set_option maxRecDepth 100000 in
/-- World.followTransfer -/
theorem c_X5_followTransfer (l : Launch) (g : Gm) (ad : Nat → Nat) (lo ke fo : Int32) (ea : Nat) (σ : Sg) (x : Int32) (y : Int32) (z : Int32) (q_x : vp_in x 6) (q_y : vp_in y 6) : MXv l g yX5_followTransfer cX5_followTransfer 4 ({ frames := 1, cells := 0, slots := 0, locals := 23 } : Room) [.ref (ad 0), .int x, .int y, .int z] (wsW g ad lo ke fo ea σ) (fun u : Sg => u = f_X5_followTransfer σ lo x y z) (wsW g ad lo ke fo ea) (fun _ => (0, 0)) := by
  intro sz tt
  refine ofX RX5 rfl (by decide +kernel) (Nat.le_of_ble_eq_true rfl) (fun p e s m args below meth c hargs S hml hr hlk hnm hsz htt hK hA hZ E ls hl => ?_)
  have hx := S.1
  have hb := S.2.1
  have hl : lv_has ls 4 [(0, .ref (ad 0)), (1, .int x), (2, .int y), (3, .int z)] := hl
  refine lv_iload_n hx hb dX5_followTransfer_0 rfl (lv_at hl 1 rfl) ?_
  refine lv_aload_n hx hb dX5_followTransfer_1 rfl (lv_at hl 0 rfl) ?_
  refine wg_X5_56 (v := .int lo) S hK E 0 rfl rfl dX5_followTransfer_2 ?_
  refine lv_icmp_eq (tgt := 39) hx hb dX5_followTransfer_5 (by decide) (fun c1 => ?_) (fun c1 => ?_)
  · have c1 : x = lo := c1
    have hQ : f_X5_followTransfer σ lo x y z = σ := by
      unfold f_X5_followTransfer; rw [if_pos c1]
    exact x_vret σ S hr hlk hsz htt hK E dX5_followTransfer_39 hQ.symm rfl ⟨Nat.le_of_ble_eq_true rfl, Nat.le_of_ble_eq_true rfl⟩ ⟨Nat.le_of_ble_eq_true rfl, Nat.le_of_ble_eq_true rfl⟩
  · have c1 : ¬ (x = lo) := c1
    refine lv_iload_n hx hb dX5_followTransfer_8 rfl (lv_at hl 2 rfl) ?_
    refine lv_aload_n hx hb dX5_followTransfer_9 rfl (lv_at hl 0 rfl) ?_
    refine wg_X5_56 (v := .int lo) S hK E 0 rfl rfl dX5_followTransfer_10 ?_
    refine lv_icmp_eq (tgt := 39) hx hb dX5_followTransfer_13 (by decide) (fun c2 => ?_) (fun c2 => ?_)
    · have c2 : y = lo := c2
      have hQ : f_X5_followTransfer σ lo x y z = σ := by
        unfold f_X5_followTransfer; rw [if_neg c1, if_pos c2]
      exact x_vret σ S hr hlk hsz htt hK E dX5_followTransfer_39 hQ.symm rfl ⟨Nat.le_of_ble_eq_true rfl, Nat.le_of_ble_eq_true rfl⟩ ⟨Nat.le_of_ble_eq_true rfl, Nat.le_of_ble_eq_true rfl⟩
    · have c2 : ¬ (y = lo) := c2
      refine lv_aload_n hx hb dX5_followTransfer_16 rfl (lv_at hl 0 rfl) ?_
      refine wg_X5_28 (v := .ref (ad 3)) S hK E 0 rfl rfl dX5_followTransfer_17 ?_
      refine lv_iload_n hx hb dX5_followTransfer_20 rfl (lv_at hl 1 rfl) ?_
      refine lv_iload_n hx hb dX5_followTransfer_21 rfl (lv_at hl 2 rfl) ?_
      refine lv_iload_n hx hb dX5_followTransfer_22 rfl (lv_at hl 3 rfl) ?_
      refine w_reti (runV_X (As := [.int x, .int y, .int z]) (rest := []) (q0 := 3) (n := 3) S hml hK (hZ.at E) (Cut.full E hA) (c_X4_canGive l g ad lo ke fo ea σ x y z q_x q_y _ _) (gi_wsV ml_X5_140 im_X4_canGive sl_X4_canGive in_X4 co_X4_canGive) ⟨rfl, by decide +kernel, by decide +kernel, by decide +kernel⟩ ⟨Nat.le_of_ble_eq_true rfl, Nat.le_of_ble_eq_true rfl⟩ rfl rfl rfl hl.1 rfl (Nat.le_of_ble_eq_true rfl) dX5_followTransfer_23 ⟨Nat.le_of_ble_eq_true rfl, Nat.le_of_ble_eq_true rfl⟩) (Cut.full E hA) E (fun r u H locs hp E => ?_)
      obtain ⟨hp, hu⟩ := hp
      subst hp
      rw [hu] at E
      have E : Ev g _ s.heap H locs (wsW g ad lo ke fo ea σ) := E
      refine lv_if_eq (tgt := 39) hx hb dX5_followTransfer_26 (by decide) (fun c3 => ?_) (fun c3 => ?_)
      · have c3 : (f_X4_canGive σ x y z) = 0 := c3
        have hQ : f_X5_followTransfer σ lo x y z = σ := by
          unfold f_X5_followTransfer; rw [if_neg c1, if_neg c2, if_pos c3]
        exact x_vret σ S hr hlk hsz htt hK E dX5_followTransfer_39 hQ.symm rfl ⟨Nat.le_of_ble_eq_true rfl, Nat.le_of_ble_eq_true rfl⟩ ⟨Nat.le_of_ble_eq_true rfl, Nat.le_of_ble_eq_true rfl⟩
      · have c3 : ¬ ((f_X4_canGive σ x y z) = 0) := c3
        refine lv_aload_n hx hb dX5_followTransfer_29 rfl (lv_at hl 0 rfl) ?_
        refine wg_X5_28 (v := .ref (ad 3)) S hK E 0 rfl rfl dX5_followTransfer_30 ?_
        refine lv_iload_n hx hb dX5_followTransfer_33 rfl (lv_at hl 1 rfl) ?_
        refine lv_iload_n hx hb dX5_followTransfer_34 rfl (lv_at hl 2 rfl) ?_
        refine lv_iload_n hx hb dX5_followTransfer_35 rfl (lv_at hl 3 rfl) ?_
        refine w_retv (runV_X (As := [.int x, .int y, .int z]) (rest := []) (q0 := 3) (n := 3) S hml hK (hZ.at E) (Cut.full E hA) (c_X4_give l g ad lo ke fo ea σ x y z q_x q_y _ _) (gi_wsV ml_X5_144 im_X4_give sl_X4_give in_X4 co_X4_give) ⟨rfl, by decide +kernel, by decide +kernel, by decide +kernel⟩ ⟨Nat.le_of_ble_eq_true rfl, Nat.le_of_ble_eq_true rfl⟩ rfl rfl rfl hl.1 rfl (Nat.le_of_ble_eq_true rfl) dX5_followTransfer_36 ⟨Nat.le_of_ble_eq_true rfl, Nat.le_of_ble_eq_true rfl⟩) (Cut.full E hA) E (fun u H locs hp E => ?_)
        subst hp
        have E : Ev g _ s.heap H locs (wsW g ad lo ke fo ea (f_X4_give σ x y z)) := E
        have hQ : f_X5_followTransfer σ lo x y z = (f_X4_give σ x y z) := by
          unfold f_X5_followTransfer; rw [if_neg c1, if_neg c2, if_neg c3]
        exact x_vret (f_X4_give σ x y z) S hr hlk hsz htt hK E dX5_followTransfer_39 hQ.symm rfl ⟨Nat.le_of_ble_eq_true rfl, Nat.le_of_ble_eq_true rfl⟩ ⟨Nat.le_of_ble_eq_true rfl, Nat.le_of_ble_eq_true rfl⟩

def f_X5_letRainFall_L2  : Nat → Nat → Sg → Sg
  | 0, i, τ => τ
  | k + 1, i, τ => f_X5_letRainFall_L2 k (i + 1) (sl (si τ 10 (nI i) ((gi τ 10 (nI i)) + (gi τ 15 (nI i)))) 28 1 ((gl τ 28 1) + (((gi τ 15 (nI i))).toInt64)))
theorem KP_X5_letRainFall_L2 {σ : Sg}  : ∀ (k i : Nat) (τ : Sg) , Kp τ σ → Kp (f_X5_letRainFall_L2 k i τ) σ := by
  intro k
  induction k with
  | zero =>
    intro i τ  hk
    rw [f_X5_letRainFall_L2]
    exact hk
  | succ k ih =>
    intro i τ  hk
    rw [f_X5_letRainFall_L2]
    exact ih _ _ (Kp_sl (Kp_si (k := 10) hk (by decide)))
def f_X5_letRainFall (σ : Sg)  : Sg := f_X5_letRainFall_L2 8 0 σ
theorem KP_X5_letRainFall {σ : Sg}  : Kp (f_X5_letRainFall σ) σ := by
  unfold f_X5_letRainFall
  exact KP_X5_letRainFall_L2 _ _ _ Kp.rf
set_option maxHeartbeats 4000000 in
set_option maxRecDepth 100000 in
/-- World.letRainFall -/
theorem c_X5_letRainFall (l : Launch) (g : Gm) (ad : Nat → Nat) (lo ke fo : Int32) (ea : Nat) (σ : Sg) : MXv l g yX5_letRainFall cX5_letRainFall 2 ({ frames := 0, cells := 0, slots := 0, locals := 0 } : Room) [.ref (ad 0)] (wsW g ad lo ke fo ea σ) (fun u : Sg => u = f_X5_letRainFall σ) (wsW g ad lo ke fo ea) (fun _ => (0, 0)) := by
  intro sz tt
  refine ofX RX5 rfl (by decide +kernel) (Nat.le_of_ble_eq_true rfl) (fun p e s m args below meth c hargs S hml hr hlk hnm hsz htt hK hA hZ E ls hl => ?_)
  have hx := S.1
  have hb := S.2.1
  have hl : lv_has ls 2 [(0, .ref (ad 0))] := hl
  have L2 : ∀ (k i : Nat), i + k = 8 → ∀ (τ : Sg)  (hk : Kp τ σ)  (H : Heap) (locs : List Loc), f_X5_letRainFall σ = f_X5_letRainFall_L2 k i τ → Ev g (va_A (wsW g ad lo ke fo ea σ) sz) s.heap H locs (wsW g ad lo ke fo ea τ) → ∀ ls : Array Slot, lv_has ls 2 [(0, .ref (ad 0)), (1, .int (nI i))] → W p l e ({ frames := 0, cells := 0, slots := 0, locals := 0 } : Room) s m args below meth c H locs 0 0 (MQ below (va_Qv (fun u : Sg => u = f_X5_letRainFall σ) (AtX g (va_A (wsW g ad lo ke fo ea σ) sz) (wsW g ad lo ke fo ea) (fun _ => (0, 0)) sz tt) (va_A (wsW g ad lo ke fo ea σ) sz)) args s 0 0 (va_A (wsW g ad lo ke fo ea σ) sz)) (F0 m 2 ls []) := by
    intro k
    induction k with
    | zero =>
      intro i hi τ  hk  H locs hF E ls hl
      have hl : lv_has ls 2 [(0, .ref (ad 0)), (1, .int (nI i))] := hl
      refine lv_iload_n hx hb dX5_letRainFall_2 rfl (lv_at hl 1 rfl) ?_
      refine lv_bipush (v := 8) hx hb dX5_letRainFall_3 (by decide) ?_
      refine lv_icmp_ge (tgt := 57) hx hb dX5_letRainFall_5 (by decide) (fun _ => ?_) (fun c_ => absurd (g_yes (b := 8) rfl rfl (by omega) (by omega)) c_)
      have hQ : f_X5_letRainFall σ = τ := by
        rw [hF]; rw [f_X5_letRainFall_L2]
      exact x_vret τ S hr hlk hsz htt hK E dX5_letRainFall_57 hQ.symm rfl ⟨Nat.le_of_ble_eq_true rfl, Nat.le_of_ble_eq_true rfl⟩ ⟨Nat.le_of_ble_eq_true rfl, Nat.le_of_ble_eq_true rfl⟩
    | succ k ih =>
      intro i hi τ  hk  H locs hF E ls hl
      have hl : lv_has ls 2 [(0, .ref (ad 0)), (1, .int (nI i))] := hl
      refine lv_iload_n hx hb dX5_letRainFall_2 rfl (lv_at hl 1 rfl) ?_
      refine lv_bipush (v := 8) hx hb dX5_letRainFall_3 (by decide) ?_
      refine lv_icmp_ge (tgt := 57) hx hb dX5_letRainFall_5 (by decide) (fun c_ => absurd c_ (g_no (b := 8) rfl rfl (by omega) (by decide))) (fun _ => ?_)
      refine lv_aload_n hx hb dX5_letRainFall_8 rfl (lv_at hl 0 rfl) ?_
      refine wg_X5_12 (v := .ref (ad 1)) S hK E 0 rfl rfl dX5_letRainFall_9 ?_
      refine wg_X5_151 (v := .ref (ad 10)) S hK E 1 rfl rfl dX5_letRainFall_12 ?_
      refine lv_iload_n hx hb dX5_letRainFall_15 rfl (lv_at hl 1 rfl) ?_
      refine lv_dup2_11 hx hb dX5_letRainFall_16 rfl rfl ?_
      refine w_ild (v := gi τ 10 (nI i)) S hK E 10 0 rfl rfl (vp_in_nI (n := i) (by omega) (by decide)) rfl dX5_letRainFall_17 ?_
      refine lv_aload_n hx hb dX5_letRainFall_18 rfl (lv_at hl 0 rfl) ?_
      refine wg_X5_21 (v := .ref (ad 2)) S hK E 0 rfl rfl dX5_letRainFall_19 ?_
      refine wg_X5_111 (v := .ref (ad 15)) S hK E 2 rfl rfl dX5_letRainFall_22 ?_
      refine lv_iload_n hx hb dX5_letRainFall_25 rfl (lv_at hl 1 rfl) ?_
      refine w_ild (v := gi τ 15 (nI i)) S hK E 15 0 rfl rfl (vp_in_nI (n := i) (by omega) (by decide)) rfl dX5_letRainFall_26 ?_
      refine lv_iadd hx hb dX5_letRainFall_27 ?_
      refine w_ist (w' := wsW g ad lo ke fo ea (si τ 10 (nI i) ((gi τ 10 (nI i)) + (gi τ 15 (nI i))))) S hK E 10 0 rfl rfl (vp_in_nI (n := i) (by omega) (by decide)) wset_10 dX5_letRainFall_28 (fun H locs E => ?_)
      refine lv_aload_n hx hb dX5_letRainFall_29 rfl (lv_at hl 0 rfl) ?_
      refine wg_X5_35 (v := .ref (ad 4)) S hK E 0 rfl rfl dX5_letRainFall_30 ?_
      refine wg_X5_147 (v := .ref (ad 28)) S hK E 4 rfl rfl dX5_letRainFall_33 ?_
      refine lv_iconst (v := 1) hx hb dX5_letRainFall_36 (by decide) ?_
      refine lv_dup2_11 hx hb dX5_letRainFall_37 rfl rfl ?_
      refine w_lld (v := gl τ 28 1) S hK E 28 1 rfl rfl (show vp_in 1 9 by unfold vp_in; decide) rfl dX5_letRainFall_38 ?_
      refine lv_aload_n hx hb dX5_letRainFall_39 rfl (lv_at hl 0 rfl) ?_
      refine wg_X5_21 (v := .ref (ad 2)) S hK E 0 rfl rfl dX5_letRainFall_40 ?_
      refine wg_X5_111 (v := .ref (ad 15)) S hK E 2 rfl rfl dX5_letRainFall_43 ?_
      refine lv_iload_n hx hb dX5_letRainFall_46 rfl (lv_at hl 1 rfl) ?_
      refine w_ild (v := gi τ 15 (nI i)) S hK E 15 0 rfl rfl (vp_in_nI (n := i) (by omega) (by decide)) rfl dX5_letRainFall_47 ?_
      refine lv_i2l (v := ((gi τ 15 (nI i))).toInt64) hx hb dX5_letRainFall_48 rfl ?_
      refine lv_ladd hx hb dX5_letRainFall_49 ?_
      refine w_lst (w' := wsW g ad lo ke fo ea (sl (si τ 10 (nI i) ((gi τ 10 (nI i)) + (gi τ 15 (nI i)))) 28 1 ((gl τ 28 1) + (((gi τ 15 (nI i))).toInt64)))) S hK E 28 1 rfl rfl (show vp_in 1 9 by unfold vp_in; decide) wset_28 dX5_letRainFall_50 (fun H locs E => ?_)
      refine lv_iinc (v := (nI (i + 1))) (lv' := [(1, .int (nI (i + 1))), (0, .ref (ad 0))]) hx hb dX5_letRainFall_51 hl (k := 1) rfl (nI_1 i) (by decide) rfl (fun ls hl => ?_)
      refine lv_goto (tgt := 2) hx hb dX5_letRainFall_54 (by decide) ?_
      have hF : f_X5_letRainFall σ = f_X5_letRainFall_L2 k (i + 1) (sl (si τ 10 (nI i) ((gi τ 10 (nI i)) + (gi τ 15 (nI i)))) 28 1 ((gl τ 28 1) + (((gi τ 15 (nI i))).toInt64))) := by
        rw [hF]; rw [f_X5_letRainFall_L2]
      exact ih (i + 1) (by omega) (sl (si τ 10 (nI i) ((gi τ 10 (nI i)) + (gi τ 15 (nI i)))) 28 1 ((gl τ 28 1) + (((gi τ 15 (nI i))).toInt64)))  (Kp_sl (Kp_si (k := 10) hk (by decide)))  _ _ hF E ls (lv_sub hl [1, 0] rfl)
  refine lv_iconst (v := 0) hx hb dX5_letRainFall_0 (by decide) ?_
  refine lv_istore_n (lv' := [(1, .int 0), (0, .ref (ad 0))]) hx hb dX5_letRainFall_1 rfl hl (by decide) rfl (fun ls hl => ?_)
  have hF : f_X5_letRainFall σ = f_X5_letRainFall_L2 8 0 σ := by
    rfl
  exact L2 8 0 (by omega) σ  Kp.rf  _ _ hF E ls (lv_sub hl [1, 0] rfl)

def f_X5_flow (σ : Sg) (x : Int32) (y : Int32) (z : Int32) : Sg := if (mn ((((gi σ 5 x) - (gi σ 5 y)) * z) / 4) (gi σ 10 x)) ≤ 0 then σ else (si (si (f_X2_takeOut σ x (mn ((((gi σ 5 x) - (gi σ 5 y)) * z) / 4) (gi σ 10 x))).2 7 y ((gi σ 7 y) + ((f_X2_takeOut σ x (mn ((((gi σ 5 x) - (gi σ 5 y)) * z) / 4) (gi σ 10 x))).1))) 6 y ((gi (f_X2_takeOut σ x (mn ((((gi σ 5 x) - (gi σ 5 y)) * z) / 4) (gi σ 10 x))).2 6 y) + (mn ((((gi σ 5 x) - (gi σ 5 y)) * z) / 4) (gi σ 10 x))))
theorem KP_X5_flow {σ : Sg} {x : Int32} {y : Int32} {z : Int32} : Kp (f_X5_flow σ x y z) σ := by
  unfold f_X5_flow
  split
  · exact Kp.rf
  · exact (Kp_si (k := 6) (Kp_si (k := 7) (Kp.tr KP_X2_takeOut Kp.rf) (by decide)) (by decide))
set_option maxHeartbeats 4000000 in
set_option maxRecDepth 100000 in
/-- World.flow -/
theorem c_X5_flow (l : Launch) (g : Gm) (ad : Nat → Nat) (lo ke fo : Int32) (ea : Nat) (σ : Sg) (x : Int32) (y : Int32) (z : Int32) (q_x : vp_in x 16) (q_y : vp_in y 16) : MXv l g yX5_flow cX5_flow 6 ({ frames := 1, cells := 0, slots := 0, locals := 24 } : Room) [.ref (ad 0), .int x, .int y, .int z] (wsW g ad lo ke fo ea σ) (fun u : Sg => u = f_X5_flow σ x y z) (wsW g ad lo ke fo ea) (fun _ => (0, 0)) := by
  intro sz tt
  refine ofX RX5 rfl (by decide +kernel) (Nat.le_of_ble_eq_true rfl) (fun p e s m args below meth c hargs S hml hr hlk hnm hsz htt hK hA hZ E ls hl => ?_)
  have hx := S.1
  have hb := S.2.1
  have hl : lv_has ls 6 [(0, .ref (ad 0)), (1, .int x), (2, .int y), (3, .int z)] := hl
  refine lv_aload_n hx hb dX5_flow_0 rfl (lv_at hl 0 rfl) ?_
  refine wg_X5_46 (v := .ref (ad 5)) S hK E 0 rfl rfl dX5_flow_1 ?_
  refine lv_iload_n hx hb dX5_flow_4 rfl (lv_at hl 1 rfl) ?_
  refine w_ild (v := gi σ 5 x) S hK E 5 0 rfl rfl q_x rfl dX5_flow_5 ?_
  refine lv_aload_n hx hb dX5_flow_6 rfl (lv_at hl 0 rfl) ?_
  refine wg_X5_46 (v := .ref (ad 5)) S hK E 0 rfl rfl dX5_flow_7 ?_
  refine lv_iload_n hx hb dX5_flow_10 rfl (lv_at hl 2 rfl) ?_
  refine w_ild (v := gi σ 5 y) S hK E 5 0 rfl rfl q_y rfl dX5_flow_11 ?_
  refine lv_isub hx hb dX5_flow_12 ?_
  refine lv_iload_n hx hb dX5_flow_13 rfl (lv_at hl 3 rfl) ?_
  refine lv_imul hx hb dX5_flow_14 ?_
  refine lv_iconst (v := 4) hx hb dX5_flow_15 (by decide) ?_
  refine lv_idiv hx hb dX5_flow_16 (by decide) ?_
  refine lv_istore (lv' := [(4, .int ((((gi σ 5 x) - (gi σ 5 y)) * z) / 4)), (0, .ref (ad 0)), (1, .int x), (2, .int y), (3, .int z)]) hx hb dX5_flow_17 hl (by decide) rfl (fun ls hl => ?_)
  refine lv_iload hx hb dX5_flow_19 (lv_at hl 0 rfl) ?_
  refine lv_aload_n hx hb dX5_flow_21 rfl (lv_at hl 1 rfl) ?_
  refine wg_X5_12 (v := .ref (ad 1)) S hK E 0 rfl rfl dX5_flow_22 ?_
  refine wg_X5_151 (v := .ref (ad 10)) S hK E 1 rfl rfl dX5_flow_25 ?_
  refine lv_iload_n hx hb dX5_flow_28 rfl (lv_at hl 2 rfl) ?_
  refine w_ild (v := gi σ 10 x) S hK E 10 0 rfl rfl q_x rfl dX5_flow_29 ?_
  refine w_min (v := (mn ((((gi σ 5 x) - (gi σ 5 y)) * z) / 4) (gi σ 10 x))) S hml hl ml_X5_207 st_min in_J9 co_min (Nat.le_of_ble_eq_true rfl) (Nat.le_of_ble_eq_true rfl) ⟨Nat.le_of_ble_eq_true rfl, Nat.le_of_ble_eq_true rfl⟩ rfl dX5_flow_30 ?_
  refine lv_istore (lv' := [(5, .int (mn ((((gi σ 5 x) - (gi σ 5 y)) * z) / 4) (gi σ 10 x))), (4, .int ((((gi σ 5 x) - (gi σ 5 y)) * z) / 4)), (0, .ref (ad 0)), (1, .int x), (2, .int y), (3, .int z)]) hx hb dX5_flow_33 hl (by decide) rfl (fun ls hl => ?_)
  refine lv_iload hx hb dX5_flow_35 (lv_at hl 0 rfl) ?_
  refine lv_if_le (tgt := 70) hx hb dX5_flow_37 (by decide) (fun c1 => ?_) (fun c1 => ?_)
  · have c1 : (mn ((((gi σ 5 x) - (gi σ 5 y)) * z) / 4) (gi σ 10 x)) ≤ 0 := c1
    have hQ : f_X5_flow σ x y z = σ := by
      unfold f_X5_flow; rw [if_pos c1]
    exact x_vret σ S hr hlk hsz htt hK E dX5_flow_70 hQ.symm rfl ⟨Nat.le_of_ble_eq_true rfl, Nat.le_of_ble_eq_true rfl⟩ ⟨Nat.le_of_ble_eq_true rfl, Nat.le_of_ble_eq_true rfl⟩
  · have c1 : ¬ ((mn ((((gi σ 5 x) - (gi σ 5 y)) * z) / 4) (gi σ 10 x)) ≤ 0) := c1
    refine lv_aload_n hx hb dX5_flow_40 rfl (lv_at hl 2 rfl) ?_
    refine wg_X5_53 (v := .ref (ad 7)) S hK E 0 rfl rfl dX5_flow_41 ?_
    refine lv_iload_n hx hb dX5_flow_44 rfl (lv_at hl 4 rfl) ?_
    refine lv_dup2_11 hx hb dX5_flow_45 rfl rfl ?_
    refine w_ild (v := gi σ 7 y) S hK E 7 0 rfl rfl q_y rfl dX5_flow_46 ?_
    refine lv_aload_n hx hb dX5_flow_47 rfl (lv_at hl 2 rfl) ?_
    refine wg_X5_12 (v := .ref (ad 1)) S hK E 0 rfl rfl dX5_flow_48 ?_
    refine lv_iload_n hx hb dX5_flow_51 rfl (lv_at hl 3 rfl) ?_
    refine lv_iload hx hb dX5_flow_52 (lv_at hl 0 rfl) ?_
    refine w_reti (runV_X (As := [.int x, .int (mn ((((gi σ 5 x) - (gi σ 5 y)) * z) / 4) (gi σ 10 x))]) (rest := [.int (gi σ 7 y), .int y, .ref (ad 7)]) (q0 := 1) (n := 2) S hml hK (hZ.at E) (Cut.full E hA) (c_X2_takeOut l g ad lo ke fo ea σ x (mn ((((gi σ 5 x) - (gi σ 5 y)) * z) / 4) (gi σ 10 x)) q_x _ _) (gi_wsV ml_X5_213 im_X2_takeOut sl_X2_takeOut in_X2 co_X2_takeOut) ⟨rfl, by decide +kernel, by decide +kernel, by decide +kernel⟩ ⟨Nat.le_of_ble_eq_true rfl, Nat.le_of_ble_eq_true rfl⟩ rfl rfl rfl hl.1 rfl (Nat.le_of_ble_eq_true rfl) dX5_flow_54 ⟨Nat.le_of_ble_eq_true rfl, Nat.le_of_ble_eq_true rfl⟩) (Cut.full E hA) E (fun r u H locs hp E => ?_)
    obtain ⟨rfl, rfl⟩ := hp
    have E : Ev g _ s.heap H locs (wsW g ad lo ke fo ea (f_X2_takeOut σ x (mn ((((gi σ 5 x) - (gi σ 5 y)) * z) / 4) (gi σ 10 x))).2) := E
    refine lv_iadd hx hb dX5_flow_57 ?_
    refine w_ist (w' := wsW g ad lo ke fo ea (si (f_X2_takeOut σ x (mn ((((gi σ 5 x) - (gi σ 5 y)) * z) / 4) (gi σ 10 x))).2 7 y ((gi σ 7 y) + ((f_X2_takeOut σ x (mn ((((gi σ 5 x) - (gi σ 5 y)) * z) / 4) (gi σ 10 x))).1)))) S hK E 7 0 rfl rfl q_y wset_7 dX5_flow_58 (fun H locs E => ?_)
    refine lv_aload_n hx hb dX5_flow_59 rfl (lv_at hl 2 rfl) ?_
    refine wg_X5_50 (v := .ref (ad 6)) S hK E 0 rfl rfl dX5_flow_60 ?_
    refine lv_iload_n hx hb dX5_flow_63 rfl (lv_at hl 4 rfl) ?_
    refine lv_dup2_11 hx hb dX5_flow_64 rfl rfl ?_
    refine w_ild (v := gi (f_X2_takeOut σ x (mn ((((gi σ 5 x) - (gi σ 5 y)) * z) / 4) (gi σ 10 x))).2 6 y) S hK E 6 0 rfl rfl q_y rfl dX5_flow_65 ?_
    refine lv_iload hx hb dX5_flow_66 (lv_at hl 0 rfl) ?_
    refine lv_iadd hx hb dX5_flow_68 ?_
    refine w_ist (w' := wsW g ad lo ke fo ea (si (si (f_X2_takeOut σ x (mn ((((gi σ 5 x) - (gi σ 5 y)) * z) / 4) (gi σ 10 x))).2 7 y ((gi σ 7 y) + ((f_X2_takeOut σ x (mn ((((gi σ 5 x) - (gi σ 5 y)) * z) / 4) (gi σ 10 x))).1))) 6 y ((gi (f_X2_takeOut σ x (mn ((((gi σ 5 x) - (gi σ 5 y)) * z) / 4) (gi σ 10 x))).2 6 y) + (mn ((((gi σ 5 x) - (gi σ 5 y)) * z) / 4) (gi σ 10 x))))) S hK E 6 0 rfl rfl q_y wset_6 dX5_flow_69 (fun H locs E => ?_)
    have hQ : f_X5_flow σ x y z = (si (si (f_X2_takeOut σ x (mn ((((gi σ 5 x) - (gi σ 5 y)) * z) / 4) (gi σ 10 x))).2 7 y ((gi σ 7 y) + ((f_X2_takeOut σ x (mn ((((gi σ 5 x) - (gi σ 5 y)) * z) / 4) (gi σ 10 x))).1))) 6 y ((gi (f_X2_takeOut σ x (mn ((((gi σ 5 x) - (gi σ 5 y)) * z) / 4) (gi σ 10 x))).2 6 y) + (mn ((((gi σ 5 x) - (gi σ 5 y)) * z) / 4) (gi σ 10 x)))) := by
      unfold f_X5_flow; rw [if_neg c1]
    exact x_vret (si (si (f_X2_takeOut σ x (mn ((((gi σ 5 x) - (gi σ 5 y)) * z) / 4) (gi σ 10 x))).2 7 y ((gi σ 7 y) + ((f_X2_takeOut σ x (mn ((((gi σ 5 x) - (gi σ 5 y)) * z) / 4) (gi σ 10 x))).1))) 6 y ((gi (f_X2_takeOut σ x (mn ((((gi σ 5 x) - (gi σ 5 y)) * z) / 4) (gi σ 10 x))).2 6 y) + (mn ((((gi σ 5 x) - (gi σ 5 y)) * z) / 4) (gi σ 10 x)))) S hr hlk hsz htt hK E dX5_flow_70 hQ.symm rfl ⟨Nat.le_of_ble_eq_true rfl, Nat.le_of_ble_eq_true rfl⟩ ⟨Nat.le_of_ble_eq_true rfl, Nat.le_of_ble_eq_true rfl⟩

def f_X5_letWaterFlow_L125  : Nat → Nat → Sg → Sg
  | 0, i, τ => τ
  | k + 1, i, τ => f_X5_letWaterFlow_L125 k (i + 1) (si (si τ 10 (nI i) ((gi τ 10 (nI i)) + (gi τ 6 (nI i)))) 11 (nI i) ((gi τ 11 (nI i)) + (gi τ 7 (nI i))))
theorem KP_X5_letWaterFlow_L125 {σ : Sg}  : ∀ (k i : Nat) (τ : Sg) , Kp τ σ → Kp (f_X5_letWaterFlow_L125 k i τ) σ := by
  intro k
  induction k with
  | zero =>
    intro i τ  hk
    rw [f_X5_letWaterFlow_L125]
    exact hk
  | succ k ih =>
    intro i τ  hk
    rw [f_X5_letWaterFlow_L125]
    exact ih _ _ (Kp_si (k := 11) (Kp_si (k := 10) hk (by decide)) (by decide))
def f_X5_letWaterFlow_L44  : Nat → Nat → Sg → Sg
  | 0, i, τ => f_X5_letWaterFlow_L125 16 0 τ
  | k + 1, i, τ => if (nI (i % 8)) ≤ 0 then (if 7 ≤ (nI (i % 8)) then (f_X5_letWaterFlow_L44 k (i + 1) (f_X5_flow τ (nI i) (nI ((i + 8) % 16)) (gi τ 14 (nI (i % 8))))) else (f_X5_letWaterFlow_L44 k (i + 1) (f_X5_flow (f_X5_flow τ (nI i) (nI (i + 1)) (gi τ 13 (nI (i / 8)))) (nI i) (nI ((i + 8) % 16)) (gi (f_X5_flow τ (nI i) (nI (i + 1)) (gi τ 13 (nI (i / 8)))) 14 (nI (i % 8)))))) else (if 7 ≤ (nI (i % 8)) then (f_X5_letWaterFlow_L44 k (i + 1) (f_X5_flow (f_X5_flow τ (nI i) ((nI i) - 1) (gi τ 13 (nI (i / 8)))) (nI i) (nI ((i + 8) % 16)) (gi (f_X5_flow τ (nI i) ((nI i) - 1) (gi τ 13 (nI (i / 8)))) 14 (nI (i % 8))))) else (f_X5_letWaterFlow_L44 k (i + 1) (f_X5_flow (f_X5_flow (f_X5_flow τ (nI i) ((nI i) - 1) (gi τ 13 (nI (i / 8)))) (nI i) (nI (i + 1)) (gi τ 13 (nI (i / 8)))) (nI i) (nI ((i + 8) % 16)) (gi (f_X5_flow (f_X5_flow τ (nI i) ((nI i) - 1) (gi τ 13 (nI (i / 8)))) (nI i) (nI (i + 1)) (gi τ 13 (nI (i / 8)))) 14 (nI (i % 8))))))
theorem KP_X5_letWaterFlow_L44 {σ : Sg}  : ∀ (k i : Nat) (τ : Sg) , Kp τ σ → Kp (f_X5_letWaterFlow_L44 k i τ) σ := by
  intro k
  induction k with
  | zero =>
    intro i τ  hk
    rw [f_X5_letWaterFlow_L44]
    exact KP_X5_letWaterFlow_L125 _ _ _ hk
  | succ k ih =>
    intro i τ  hk
    rw [f_X5_letWaterFlow_L44]
    split
    · split
      · exact ih _ _ (Kp.tr KP_X5_flow hk)
      · exact ih _ _ (Kp.tr KP_X5_flow (Kp.tr KP_X5_flow hk))
    · split
      · exact ih _ _ (Kp.tr KP_X5_flow (Kp.tr KP_X5_flow hk))
      · exact ih _ _ (Kp.tr KP_X5_flow (Kp.tr KP_X5_flow (Kp.tr KP_X5_flow hk)))
def f_X5_letWaterFlow_L2  : Nat → Nat → Sg → Sg
  | 0, i, τ => f_X5_letWaterFlow_L44 16 0 τ
  | k + 1, i, τ => f_X5_letWaterFlow_L2 k (i + 1) (si (si (si τ 5 (nI i) (f_X2_height τ (nI i))) 6 (nI i) 0) 7 (nI i) 0)
theorem KP_X5_letWaterFlow_L2 {σ : Sg}  : ∀ (k i : Nat) (τ : Sg) , Kp τ σ → Kp (f_X5_letWaterFlow_L2 k i τ) σ := by
  intro k
  induction k with
  | zero =>
    intro i τ  hk
    rw [f_X5_letWaterFlow_L2]
    exact KP_X5_letWaterFlow_L44 _ _ _ hk
  | succ k ih =>
    intro i τ  hk
    rw [f_X5_letWaterFlow_L2]
    exact ih _ _ (Kp_si (k := 7) (Kp_si (k := 6) (Kp_si (k := 5) hk (by decide)) (by decide)) (by decide))
def f_X5_letWaterFlow (σ : Sg)  : Sg := f_X5_letWaterFlow_L2 16 0 σ
theorem KP_X5_letWaterFlow {σ : Sg}  : Kp (f_X5_letWaterFlow σ) σ := by
  unfold f_X5_letWaterFlow
  exact KP_X5_letWaterFlow_L2 _ _ _ Kp.rf
set_option maxHeartbeats 4000000 in
set_option maxRecDepth 100000 in
/-- World.letWaterFlow -/
theorem c_X5_letWaterFlow (l : Launch) (g : Gm) (ad : Nat → Nat) (lo ke fo : Int32) (ea : Nat) (σ : Sg) : MXv l g yX5_letWaterFlow cX5_letWaterFlow 4 ({ frames := 2, cells := 0, slots := 0, locals := 49 } : Room) [.ref (ad 0)] (wsW g ad lo ke fo ea σ) (fun u : Sg => u = f_X5_letWaterFlow σ) (wsW g ad lo ke fo ea) (fun _ => (0, 0)) := by
  intro sz tt
  refine ofX RX5 rfl (by decide +kernel) (Nat.le_of_ble_eq_true rfl) (fun p e s m args below meth c hargs S hml hr hlk hnm hsz htt hK hA hZ E ls hl => ?_)
  have hx := S.1
  have hb := S.2.1
  have hl : lv_has ls 4 [(0, .ref (ad 0))] := hl
  have L125 : ∀ (k i : Nat), i + k = 16 → ∀ (τ : Sg)  (hk : Kp τ σ)  (H : Heap) (locs : List Loc), f_X5_letWaterFlow σ = f_X5_letWaterFlow_L125 k i τ → Ev g (va_A (wsW g ad lo ke fo ea σ) sz) s.heap H locs (wsW g ad lo ke fo ea τ) → ∀ ls : Array Slot, lv_has ls 4 [(0, .ref (ad 0)), (1, .int (nI i))] → W p l e ({ frames := 2, cells := 0, slots := 0, locals := 49 } : Room) s m args below meth c H locs 0 0 (MQ below (va_Qv (fun u : Sg => u = f_X5_letWaterFlow σ) (AtX g (va_A (wsW g ad lo ke fo ea σ) sz) (wsW g ad lo ke fo ea) (fun _ => (0, 0)) sz tt) (va_A (wsW g ad lo ke fo ea σ) sz)) args s 0 0 (va_A (wsW g ad lo ke fo ea σ) sz)) (F0 m 125 ls []) := by
    intro k
    induction k with
    | zero =>
      intro i hi τ  hk  H locs hF E ls hl
      have hl : lv_has ls 4 [(0, .ref (ad 0)), (1, .int (nI i))] := hl
      refine lv_iload_n hx hb dX5_letWaterFlow_125 rfl (lv_at hl 1 rfl) ?_
      refine lv_bipush (v := 16) hx hb dX5_letWaterFlow_126 (by decide) ?_
      refine lv_icmp_ge (tgt := 173) hx hb dX5_letWaterFlow_128 (by decide) (fun _ => ?_) (fun c_ => absurd (g_yes (b := 16) rfl rfl (by omega) (by omega)) c_)
      have hQ : f_X5_letWaterFlow σ = τ := by
        rw [hF]; rw [f_X5_letWaterFlow_L125]
      exact x_vret τ S hr hlk hsz htt hK E dX5_letWaterFlow_173 hQ.symm rfl ⟨Nat.le_of_ble_eq_true rfl, Nat.le_of_ble_eq_true rfl⟩ ⟨Nat.le_of_ble_eq_true rfl, Nat.le_of_ble_eq_true rfl⟩
    | succ k ih =>
      intro i hi τ  hk  H locs hF E ls hl
      have hl : lv_has ls 4 [(0, .ref (ad 0)), (1, .int (nI i))] := hl
      refine lv_iload_n hx hb dX5_letWaterFlow_125 rfl (lv_at hl 1 rfl) ?_
      refine lv_bipush (v := 16) hx hb dX5_letWaterFlow_126 (by decide) ?_
      refine lv_icmp_ge (tgt := 173) hx hb dX5_letWaterFlow_128 (by decide) (fun c_ => absurd c_ (g_no (b := 16) rfl rfl (by omega) (by decide))) (fun _ => ?_)
      refine lv_aload_n hx hb dX5_letWaterFlow_131 rfl (lv_at hl 0 rfl) ?_
      refine wg_X5_12 (v := .ref (ad 1)) S hK E 0 rfl rfl dX5_letWaterFlow_132 ?_
      refine wg_X5_151 (v := .ref (ad 10)) S hK E 1 rfl rfl dX5_letWaterFlow_135 ?_
      refine lv_iload_n hx hb dX5_letWaterFlow_138 rfl (lv_at hl 1 rfl) ?_
      refine lv_dup2_11 hx hb dX5_letWaterFlow_139 rfl rfl ?_
      refine w_ild (v := gi τ 10 (nI i)) S hK E 10 0 rfl rfl (vp_in_nI (n := i) (by omega) (by decide)) rfl dX5_letWaterFlow_140 ?_
      refine lv_aload_n hx hb dX5_letWaterFlow_141 rfl (lv_at hl 0 rfl) ?_
      refine wg_X5_50 (v := .ref (ad 6)) S hK E 0 rfl rfl dX5_letWaterFlow_142 ?_
      refine lv_iload_n hx hb dX5_letWaterFlow_145 rfl (lv_at hl 1 rfl) ?_
      refine w_ild (v := gi τ 6 (nI i)) S hK E 6 0 rfl rfl (vp_in_nI (n := i) (by omega) (by decide)) rfl dX5_letWaterFlow_146 ?_
      refine lv_iadd hx hb dX5_letWaterFlow_147 ?_
      refine w_ist (w' := wsW g ad lo ke fo ea (si τ 10 (nI i) ((gi τ 10 (nI i)) + (gi τ 6 (nI i))))) S hK E 10 0 rfl rfl (vp_in_nI (n := i) (by omega) (by decide)) wset_10 dX5_letWaterFlow_148 (fun H locs E => ?_)
      refine lv_aload_n hx hb dX5_letWaterFlow_149 rfl (lv_at hl 0 rfl) ?_
      refine wg_X5_12 (v := .ref (ad 1)) S hK E 0 rfl rfl dX5_letWaterFlow_150 ?_
      refine wg_X5_160 (v := .ref (ad 11)) S hK E 1 rfl rfl dX5_letWaterFlow_153 ?_
      refine lv_iload_n hx hb dX5_letWaterFlow_156 rfl (lv_at hl 1 rfl) ?_
      refine lv_dup2_11 hx hb dX5_letWaterFlow_157 rfl rfl ?_
      refine w_ild (v := gi τ 11 (nI i)) S hK E 11 0 rfl rfl (vp_in_nI (n := i) (by omega) (by decide)) rfl dX5_letWaterFlow_158 ?_
      refine lv_aload_n hx hb dX5_letWaterFlow_159 rfl (lv_at hl 0 rfl) ?_
      refine wg_X5_53 (v := .ref (ad 7)) S hK E 0 rfl rfl dX5_letWaterFlow_160 ?_
      refine lv_iload_n hx hb dX5_letWaterFlow_163 rfl (lv_at hl 1 rfl) ?_
      refine w_ild (v := gi τ 7 (nI i)) S hK E 7 0 rfl rfl (vp_in_nI (n := i) (by omega) (by decide)) rfl dX5_letWaterFlow_164 ?_
      refine lv_iadd hx hb dX5_letWaterFlow_165 ?_
      refine w_ist (w' := wsW g ad lo ke fo ea (si (si τ 10 (nI i) ((gi τ 10 (nI i)) + (gi τ 6 (nI i)))) 11 (nI i) ((gi τ 11 (nI i)) + (gi τ 7 (nI i))))) S hK E 11 0 rfl rfl (vp_in_nI (n := i) (by omega) (by decide)) wset_11 dX5_letWaterFlow_166 (fun H locs E => ?_)
      refine lv_iinc (v := (nI (i + 1))) (lv' := [(1, .int (nI (i + 1))), (0, .ref (ad 0))]) hx hb dX5_letWaterFlow_167 hl (k := 1) rfl (nI_1 i) (by decide) rfl (fun ls hl => ?_)
      refine lv_goto (tgt := 125) hx hb dX5_letWaterFlow_170 (by decide) ?_
      have hF : f_X5_letWaterFlow σ = f_X5_letWaterFlow_L125 k (i + 1) (si (si τ 10 (nI i) ((gi τ 10 (nI i)) + (gi τ 6 (nI i)))) 11 (nI i) ((gi τ 11 (nI i)) + (gi τ 7 (nI i)))) := by
        rw [hF]; rw [f_X5_letWaterFlow_L125]
      exact ih (i + 1) (by omega) (si (si τ 10 (nI i) ((gi τ 10 (nI i)) + (gi τ 6 (nI i)))) 11 (nI i) ((gi τ 11 (nI i)) + (gi τ 7 (nI i))))  (Kp_si (k := 11) (Kp_si (k := 10) hk (by decide)) (by decide))  _ _ hF E ls (lv_sub hl [1, 0] rfl)
  have L44 : ∀ (k i : Nat), i + k = 16 → ∀ (τ : Sg)  (hk : Kp τ σ)  (H : Heap) (locs : List Loc), f_X5_letWaterFlow σ = f_X5_letWaterFlow_L44 k i τ → Ev g (va_A (wsW g ad lo ke fo ea σ) sz) s.heap H locs (wsW g ad lo ke fo ea τ) → ∀ ls : Array Slot, lv_has ls 4 [(0, .ref (ad 0)), (1, .int (nI i))] → W p l e ({ frames := 2, cells := 0, slots := 0, locals := 49 } : Room) s m args below meth c H locs 0 0 (MQ below (va_Qv (fun u : Sg => u = f_X5_letWaterFlow σ) (AtX g (va_A (wsW g ad lo ke fo ea σ) sz) (wsW g ad lo ke fo ea) (fun _ => (0, 0)) sz tt) (va_A (wsW g ad lo ke fo ea σ) sz)) args s 0 0 (va_A (wsW g ad lo ke fo ea σ) sz)) (F0 m 44 ls []) := by
    intro k
    induction k with
    | zero =>
      intro i hi τ  hk  H locs hF E ls hl
      have hl : lv_has ls 4 [(0, .ref (ad 0)), (1, .int (nI i))] := hl
      refine lv_iload_n hx hb dX5_letWaterFlow_44 rfl (lv_at hl 1 rfl) ?_
      refine lv_bipush (v := 16) hx hb dX5_letWaterFlow_45 (by decide) ?_
      refine lv_icmp_ge (tgt := 123) hx hb dX5_letWaterFlow_47 (by decide) (fun _ => ?_) (fun c_ => absurd (g_yes (b := 16) rfl rfl (by omega) (by omega)) c_)
      refine lv_iconst (v := 0) hx hb dX5_letWaterFlow_123 (by decide) ?_
      refine lv_istore_n (lv' := [(1, .int 0), (0, .ref (ad 0))]) hx hb dX5_letWaterFlow_124 rfl hl (by decide) rfl (fun ls hl => ?_)
      have hF : f_X5_letWaterFlow σ = f_X5_letWaterFlow_L125 16 0 τ := by
        rw [hF]; rw [f_X5_letWaterFlow_L44]
      exact L125 16 0 (by omega) τ  hk  _ _ hF E ls (lv_sub hl [1, 0] rfl)
    | succ k ih =>
      intro i hi τ  hk  H locs hF E ls hl
      have hl : lv_has ls 4 [(0, .ref (ad 0)), (1, .int (nI i))] := hl
      refine lv_iload_n hx hb dX5_letWaterFlow_44 rfl (lv_at hl 1 rfl) ?_
      refine lv_bipush (v := 16) hx hb dX5_letWaterFlow_45 (by decide) ?_
      refine lv_icmp_ge (tgt := 123) hx hb dX5_letWaterFlow_47 (by decide) (fun c_ => absurd c_ (g_no (b := 16) rfl rfl (by omega) (by decide))) (fun _ => ?_)
      refine lv_iload_n hx hb dX5_letWaterFlow_50 rfl (lv_at hl 1 rfl) ?_
      refine lv_bipush (v := 8) hx hb dX5_letWaterFlow_51 (by decide) ?_
      refine lv_irem hx hb dX5_letWaterFlow_53 (by decide) ?_
      rw [show ((nI i) - (nI i) / 8 * 8) = nI (i % 8) from pk_rem (a := i) (d := 8) (by omega) (by decide) (by decide)]
      refine lv_istore_n (lv' := [(2, .int (nI (i % 8))), (0, .ref (ad 0)), (1, .int (nI i))]) hx hb dX5_letWaterFlow_54 rfl hl (by decide) rfl (fun ls hl => ?_)
      refine lv_aload_n hx hb dX5_letWaterFlow_55 rfl (lv_at hl 1 rfl) ?_
      refine wg_X5_21 (v := .ref (ad 2)) S hK E 0 rfl rfl dX5_letWaterFlow_56 ?_
      refine wg_X5_105 (v := .ref (ad 13)) S hK E 2 rfl rfl dX5_letWaterFlow_59 ?_
      refine lv_iload_n hx hb dX5_letWaterFlow_62 rfl (lv_at hl 2 rfl) ?_
      refine lv_bipush (v := 8) hx hb dX5_letWaterFlow_63 (by decide) ?_
      refine lv_idiv hx hb dX5_letWaterFlow_65 (by decide) ?_
      rw [show ((nI i) / 8) = nI (i / 8) from pk_div (a := i) (d := 8) (by omega) (by decide) (by decide)]
      refine w_ild (v := gi τ 13 (nI (i / 8))) S hK E 13 0 rfl rfl (vp_in_nI (n := (i / 8)) (by omega) (by decide)) rfl dX5_letWaterFlow_66 ?_
      refine lv_istore_n (lv' := [(3, .int (gi τ 13 (nI (i / 8)))), (2, .int (nI (i % 8))), (0, .ref (ad 0)), (1, .int (nI i))]) hx hb dX5_letWaterFlow_67 rfl hl (by decide) rfl (fun ls hl => ?_)
      refine lv_iload_n hx hb dX5_letWaterFlow_68 rfl (lv_at hl 1 rfl) ?_
      refine lv_if_le (tgt := 81) hx hb dX5_letWaterFlow_69 (by decide) (fun c1 => ?_) (fun c1 => ?_)
      · have c1 : (nI (i % 8)) ≤ 0 := c1
        refine lv_iload_n hx hb dX5_letWaterFlow_81 rfl (lv_at hl 1 rfl) ?_
        refine lv_bipush (v := 7) hx hb dX5_letWaterFlow_82 (by decide) ?_
        refine lv_icmp_ge (tgt := 96) hx hb dX5_letWaterFlow_84 (by decide) (fun c2 => ?_) (fun c2 => ?_)
        · have c2 : 7 ≤ (nI (i % 8)) := c2
          refine lv_aload_n hx hb dX5_letWaterFlow_96 rfl (lv_at hl 2 rfl) ?_
          refine lv_iload_n hx hb dX5_letWaterFlow_97 rfl (lv_at hl 3 rfl) ?_
          refine lv_iload_n hx hb dX5_letWaterFlow_98 rfl (lv_at hl 3 rfl) ?_
          refine lv_bipush (v := 8) hx hb dX5_letWaterFlow_99 (by decide) ?_
          refine lv_iadd hx hb dX5_letWaterFlow_101 ?_
          rw [show ((nI i) + 8) = nI (i + 8) from nI_add i 8]
          refine lv_bipush (v := 16) hx hb dX5_letWaterFlow_102 (by decide) ?_
          refine lv_irem hx hb dX5_letWaterFlow_104 (by decide) ?_
          rw [show ((nI (i + 8)) - (nI (i + 8)) / 16 * 16) = nI ((i + 8) % 16) from pk_rem (a := (i + 8)) (d := 16) (by omega) (by decide) (by decide)]
          refine lv_aload_n hx hb dX5_letWaterFlow_105 rfl (lv_at hl 2 rfl) ?_
          refine wg_X5_21 (v := .ref (ad 2)) S hK E 0 rfl rfl dX5_letWaterFlow_106 ?_
          refine wg_X5_108 (v := .ref (ad 14)) S hK E 2 rfl rfl dX5_letWaterFlow_109 ?_
          refine lv_iload_n hx hb dX5_letWaterFlow_112 rfl (lv_at hl 1 rfl) ?_
          refine w_ild (v := gi τ 14 (nI (i % 8))) S hK E 14 0 rfl rfl (vp_in_nI (n := (i % 8)) (by omega) (by decide)) rfl dX5_letWaterFlow_113 ?_
          refine w_retv (runV_X (As := [.int (nI i), .int (nI ((i + 8) % 16)), .int (gi τ 14 (nI (i % 8)))]) (rest := []) (q0 := 0) (n := 3) S hml hK (hZ.at E) (Cut.full E hA) (c_X5_flow l g ad lo ke fo ea τ (nI i) (nI ((i + 8) % 16)) (gi τ 14 (nI (i % 8))) (vp_in_nI (n := i) (by omega) (by decide)) (vp_in_nI (n := ((i + 8) % 16)) (by omega) (by decide)) _ _) (gi_wsV ml_X5_232 im_X5_flow sl_X5_flow in_X5 co_X5_flow) ⟨rfl, by decide +kernel, by decide +kernel, by decide +kernel⟩ ⟨Nat.le_of_ble_eq_true rfl, Nat.le_of_ble_eq_true rfl⟩ rfl rfl rfl hl.1 rfl (Nat.le_of_ble_eq_true rfl) dX5_letWaterFlow_114 ⟨Nat.le_of_ble_eq_true rfl, Nat.le_of_ble_eq_true rfl⟩) (Cut.full E hA) E (fun u H locs hp E => ?_)
          subst hp
          have E : Ev g _ s.heap H locs (wsW g ad lo ke fo ea (f_X5_flow τ (nI i) (nI ((i + 8) % 16)) (gi τ 14 (nI (i % 8))))) := E
          refine lv_iinc (v := (nI (i + 1))) (lv' := [(1, .int (nI (i + 1))), (3, .int (gi τ 13 (nI (i / 8)))), (2, .int (nI (i % 8))), (0, .ref (ad 0))]) hx hb dX5_letWaterFlow_117 hl (k := 3) rfl (nI_1 i) (by decide) rfl (fun ls hl => ?_)
          refine lv_goto (tgt := 44) hx hb dX5_letWaterFlow_120 (by decide) ?_
          have hF : f_X5_letWaterFlow σ = f_X5_letWaterFlow_L44 k (i + 1) (f_X5_flow τ (nI i) (nI ((i + 8) % 16)) (gi τ 14 (nI (i % 8)))) := by
            rw [hF]; rw [f_X5_letWaterFlow_L44]; rw [if_pos c1, if_pos c2]
          exact ih (i + 1) (by omega) (f_X5_flow τ (nI i) (nI ((i + 8) % 16)) (gi τ 14 (nI (i % 8))))  (Kp.tr KP_X5_flow hk)  _ _ hF E ls (lv_sub hl [3, 0] rfl)
        · have c2 : ¬ (7 ≤ (nI (i % 8))) := c2
          refine lv_aload_n hx hb dX5_letWaterFlow_87 rfl (lv_at hl 2 rfl) ?_
          refine lv_iload_n hx hb dX5_letWaterFlow_88 rfl (lv_at hl 3 rfl) ?_
          refine lv_iload_n hx hb dX5_letWaterFlow_89 rfl (lv_at hl 3 rfl) ?_
          refine lv_iconst (v := 1) hx hb dX5_letWaterFlow_90 (by decide) ?_
          refine lv_iadd hx hb dX5_letWaterFlow_91 ?_
          rw [nI_1]
          refine lv_iload_n hx hb dX5_letWaterFlow_92 rfl (lv_at hl 0 rfl) ?_
          refine w_retv (runV_X (As := [.int (nI i), .int (nI (i + 1)), .int (gi τ 13 (nI (i / 8)))]) (rest := []) (q0 := 0) (n := 3) S hml hK (hZ.at E) (Cut.full E hA) (c_X5_flow l g ad lo ke fo ea τ (nI i) (nI (i + 1)) (gi τ 13 (nI (i / 8))) (vp_in_nI (n := i) (by omega) (by decide)) (col_hi c2 (by omega)) _ _) (gi_wsV ml_X5_232 im_X5_flow sl_X5_flow in_X5 co_X5_flow) ⟨rfl, by decide +kernel, by decide +kernel, by decide +kernel⟩ ⟨Nat.le_of_ble_eq_true rfl, Nat.le_of_ble_eq_true rfl⟩ rfl rfl rfl hl.1 rfl (Nat.le_of_ble_eq_true rfl) dX5_letWaterFlow_93 ⟨Nat.le_of_ble_eq_true rfl, Nat.le_of_ble_eq_true rfl⟩) (Cut.full E hA) E (fun u H locs hp E => ?_)
          subst hp
          have E : Ev g _ s.heap H locs (wsW g ad lo ke fo ea (f_X5_flow τ (nI i) (nI (i + 1)) (gi τ 13 (nI (i / 8))))) := E
          refine lv_aload_n hx hb dX5_letWaterFlow_96 rfl (lv_at hl 2 rfl) ?_
          refine lv_iload_n hx hb dX5_letWaterFlow_97 rfl (lv_at hl 3 rfl) ?_
          refine lv_iload_n hx hb dX5_letWaterFlow_98 rfl (lv_at hl 3 rfl) ?_
          refine lv_bipush (v := 8) hx hb dX5_letWaterFlow_99 (by decide) ?_
          refine lv_iadd hx hb dX5_letWaterFlow_101 ?_
          rw [show ((nI i) + 8) = nI (i + 8) from nI_add i 8]
          refine lv_bipush (v := 16) hx hb dX5_letWaterFlow_102 (by decide) ?_
          refine lv_irem hx hb dX5_letWaterFlow_104 (by decide) ?_
          rw [show ((nI (i + 8)) - (nI (i + 8)) / 16 * 16) = nI ((i + 8) % 16) from pk_rem (a := (i + 8)) (d := 16) (by omega) (by decide) (by decide)]
          refine lv_aload_n hx hb dX5_letWaterFlow_105 rfl (lv_at hl 2 rfl) ?_
          refine wg_X5_21 (v := .ref (ad 2)) S hK E 0 rfl rfl dX5_letWaterFlow_106 ?_
          refine wg_X5_108 (v := .ref (ad 14)) S hK E 2 rfl rfl dX5_letWaterFlow_109 ?_
          refine lv_iload_n hx hb dX5_letWaterFlow_112 rfl (lv_at hl 1 rfl) ?_
          refine w_ild (v := gi (f_X5_flow τ (nI i) (nI (i + 1)) (gi τ 13 (nI (i / 8)))) 14 (nI (i % 8))) S hK E 14 0 rfl rfl (vp_in_nI (n := (i % 8)) (by omega) (by decide)) rfl dX5_letWaterFlow_113 ?_
          refine w_retv (runV_X (As := [.int (nI i), .int (nI ((i + 8) % 16)), .int (gi (f_X5_flow τ (nI i) (nI (i + 1)) (gi τ 13 (nI (i / 8)))) 14 (nI (i % 8)))]) (rest := []) (q0 := 0) (n := 3) S hml hK (hZ.at E) (Cut.full E hA) (c_X5_flow l g ad lo ke fo ea (f_X5_flow τ (nI i) (nI (i + 1)) (gi τ 13 (nI (i / 8)))) (nI i) (nI ((i + 8) % 16)) (gi (f_X5_flow τ (nI i) (nI (i + 1)) (gi τ 13 (nI (i / 8)))) 14 (nI (i % 8))) (vp_in_nI (n := i) (by omega) (by decide)) (vp_in_nI (n := ((i + 8) % 16)) (by omega) (by decide)) _ _) (gi_wsV ml_X5_232 im_X5_flow sl_X5_flow in_X5 co_X5_flow) ⟨rfl, by decide +kernel, by decide +kernel, by decide +kernel⟩ ⟨Nat.le_of_ble_eq_true rfl, Nat.le_of_ble_eq_true rfl⟩ rfl rfl rfl hl.1 rfl (Nat.le_of_ble_eq_true rfl) dX5_letWaterFlow_114 ⟨Nat.le_of_ble_eq_true rfl, Nat.le_of_ble_eq_true rfl⟩) (Cut.full E hA) E (fun u H locs hp E => ?_)
          subst hp
          have E : Ev g _ s.heap H locs (wsW g ad lo ke fo ea (f_X5_flow (f_X5_flow τ (nI i) (nI (i + 1)) (gi τ 13 (nI (i / 8)))) (nI i) (nI ((i + 8) % 16)) (gi (f_X5_flow τ (nI i) (nI (i + 1)) (gi τ 13 (nI (i / 8)))) 14 (nI (i % 8))))) := E
          refine lv_iinc (v := (nI (i + 1))) (lv' := [(1, .int (nI (i + 1))), (3, .int (gi τ 13 (nI (i / 8)))), (2, .int (nI (i % 8))), (0, .ref (ad 0))]) hx hb dX5_letWaterFlow_117 hl (k := 3) rfl (nI_1 i) (by decide) rfl (fun ls hl => ?_)
          refine lv_goto (tgt := 44) hx hb dX5_letWaterFlow_120 (by decide) ?_
          have hF : f_X5_letWaterFlow σ = f_X5_letWaterFlow_L44 k (i + 1) (f_X5_flow (f_X5_flow τ (nI i) (nI (i + 1)) (gi τ 13 (nI (i / 8)))) (nI i) (nI ((i + 8) % 16)) (gi (f_X5_flow τ (nI i) (nI (i + 1)) (gi τ 13 (nI (i / 8)))) 14 (nI (i % 8)))) := by
            rw [hF]; rw [f_X5_letWaterFlow_L44]; rw [if_pos c1, if_neg c2]
          exact ih (i + 1) (by omega) (f_X5_flow (f_X5_flow τ (nI i) (nI (i + 1)) (gi τ 13 (nI (i / 8)))) (nI i) (nI ((i + 8) % 16)) (gi (f_X5_flow τ (nI i) (nI (i + 1)) (gi τ 13 (nI (i / 8)))) 14 (nI (i % 8))))  (Kp.tr KP_X5_flow (Kp.tr KP_X5_flow hk))  _ _ hF E ls (lv_sub hl [3, 0] rfl)
      · have c1 : ¬ ((nI (i % 8)) ≤ 0) := c1
        refine lv_aload_n hx hb dX5_letWaterFlow_72 rfl (lv_at hl 2 rfl) ?_
        refine lv_iload_n hx hb dX5_letWaterFlow_73 rfl (lv_at hl 3 rfl) ?_
        refine lv_iload_n hx hb dX5_letWaterFlow_74 rfl (lv_at hl 3 rfl) ?_
        refine lv_iconst (v := 1) hx hb dX5_letWaterFlow_75 (by decide) ?_
        refine lv_isub hx hb dX5_letWaterFlow_76 ?_
        refine lv_iload_n hx hb dX5_letWaterFlow_77 rfl (lv_at hl 0 rfl) ?_
        refine w_retv (runV_X (As := [.int (nI i), .int ((nI i) - 1), .int (gi τ 13 (nI (i / 8)))]) (rest := []) (q0 := 0) (n := 3) S hml hK (hZ.at E) (Cut.full E hA) (c_X5_flow l g ad lo ke fo ea τ (nI i) ((nI i) - 1) (gi τ 13 (nI (i / 8))) (vp_in_nI (n := i) (by omega) (by decide)) (col_lo c1 (by omega)) _ _) (gi_wsV ml_X5_232 im_X5_flow sl_X5_flow in_X5 co_X5_flow) ⟨rfl, by decide +kernel, by decide +kernel, by decide +kernel⟩ ⟨Nat.le_of_ble_eq_true rfl, Nat.le_of_ble_eq_true rfl⟩ rfl rfl rfl hl.1 rfl (Nat.le_of_ble_eq_true rfl) dX5_letWaterFlow_78 ⟨Nat.le_of_ble_eq_true rfl, Nat.le_of_ble_eq_true rfl⟩) (Cut.full E hA) E (fun u H locs hp E => ?_)
        subst hp
        have E : Ev g _ s.heap H locs (wsW g ad lo ke fo ea (f_X5_flow τ (nI i) ((nI i) - 1) (gi τ 13 (nI (i / 8))))) := E
        refine lv_iload_n hx hb dX5_letWaterFlow_81 rfl (lv_at hl 1 rfl) ?_
        refine lv_bipush (v := 7) hx hb dX5_letWaterFlow_82 (by decide) ?_
        refine lv_icmp_ge (tgt := 96) hx hb dX5_letWaterFlow_84 (by decide) (fun c3 => ?_) (fun c3 => ?_)
        · have c3 : 7 ≤ (nI (i % 8)) := c3
          refine lv_aload_n hx hb dX5_letWaterFlow_96 rfl (lv_at hl 2 rfl) ?_
          refine lv_iload_n hx hb dX5_letWaterFlow_97 rfl (lv_at hl 3 rfl) ?_
          refine lv_iload_n hx hb dX5_letWaterFlow_98 rfl (lv_at hl 3 rfl) ?_
          refine lv_bipush (v := 8) hx hb dX5_letWaterFlow_99 (by decide) ?_
          refine lv_iadd hx hb dX5_letWaterFlow_101 ?_
          rw [show ((nI i) + 8) = nI (i + 8) from nI_add i 8]
          refine lv_bipush (v := 16) hx hb dX5_letWaterFlow_102 (by decide) ?_
          refine lv_irem hx hb dX5_letWaterFlow_104 (by decide) ?_
          rw [show ((nI (i + 8)) - (nI (i + 8)) / 16 * 16) = nI ((i + 8) % 16) from pk_rem (a := (i + 8)) (d := 16) (by omega) (by decide) (by decide)]
          refine lv_aload_n hx hb dX5_letWaterFlow_105 rfl (lv_at hl 2 rfl) ?_
          refine wg_X5_21 (v := .ref (ad 2)) S hK E 0 rfl rfl dX5_letWaterFlow_106 ?_
          refine wg_X5_108 (v := .ref (ad 14)) S hK E 2 rfl rfl dX5_letWaterFlow_109 ?_
          refine lv_iload_n hx hb dX5_letWaterFlow_112 rfl (lv_at hl 1 rfl) ?_
          refine w_ild (v := gi (f_X5_flow τ (nI i) ((nI i) - 1) (gi τ 13 (nI (i / 8)))) 14 (nI (i % 8))) S hK E 14 0 rfl rfl (vp_in_nI (n := (i % 8)) (by omega) (by decide)) rfl dX5_letWaterFlow_113 ?_
          refine w_retv (runV_X (As := [.int (nI i), .int (nI ((i + 8) % 16)), .int (gi (f_X5_flow τ (nI i) ((nI i) - 1) (gi τ 13 (nI (i / 8)))) 14 (nI (i % 8)))]) (rest := []) (q0 := 0) (n := 3) S hml hK (hZ.at E) (Cut.full E hA) (c_X5_flow l g ad lo ke fo ea (f_X5_flow τ (nI i) ((nI i) - 1) (gi τ 13 (nI (i / 8)))) (nI i) (nI ((i + 8) % 16)) (gi (f_X5_flow τ (nI i) ((nI i) - 1) (gi τ 13 (nI (i / 8)))) 14 (nI (i % 8))) (vp_in_nI (n := i) (by omega) (by decide)) (vp_in_nI (n := ((i + 8) % 16)) (by omega) (by decide)) _ _) (gi_wsV ml_X5_232 im_X5_flow sl_X5_flow in_X5 co_X5_flow) ⟨rfl, by decide +kernel, by decide +kernel, by decide +kernel⟩ ⟨Nat.le_of_ble_eq_true rfl, Nat.le_of_ble_eq_true rfl⟩ rfl rfl rfl hl.1 rfl (Nat.le_of_ble_eq_true rfl) dX5_letWaterFlow_114 ⟨Nat.le_of_ble_eq_true rfl, Nat.le_of_ble_eq_true rfl⟩) (Cut.full E hA) E (fun u H locs hp E => ?_)
          subst hp
          have E : Ev g _ s.heap H locs (wsW g ad lo ke fo ea (f_X5_flow (f_X5_flow τ (nI i) ((nI i) - 1) (gi τ 13 (nI (i / 8)))) (nI i) (nI ((i + 8) % 16)) (gi (f_X5_flow τ (nI i) ((nI i) - 1) (gi τ 13 (nI (i / 8)))) 14 (nI (i % 8))))) := E
          refine lv_iinc (v := (nI (i + 1))) (lv' := [(1, .int (nI (i + 1))), (3, .int (gi τ 13 (nI (i / 8)))), (2, .int (nI (i % 8))), (0, .ref (ad 0))]) hx hb dX5_letWaterFlow_117 hl (k := 3) rfl (nI_1 i) (by decide) rfl (fun ls hl => ?_)
          refine lv_goto (tgt := 44) hx hb dX5_letWaterFlow_120 (by decide) ?_
          have hF : f_X5_letWaterFlow σ = f_X5_letWaterFlow_L44 k (i + 1) (f_X5_flow (f_X5_flow τ (nI i) ((nI i) - 1) (gi τ 13 (nI (i / 8)))) (nI i) (nI ((i + 8) % 16)) (gi (f_X5_flow τ (nI i) ((nI i) - 1) (gi τ 13 (nI (i / 8)))) 14 (nI (i % 8)))) := by
            rw [hF]; rw [f_X5_letWaterFlow_L44]; rw [if_neg c1, if_pos c3]
          exact ih (i + 1) (by omega) (f_X5_flow (f_X5_flow τ (nI i) ((nI i) - 1) (gi τ 13 (nI (i / 8)))) (nI i) (nI ((i + 8) % 16)) (gi (f_X5_flow τ (nI i) ((nI i) - 1) (gi τ 13 (nI (i / 8)))) 14 (nI (i % 8))))  (Kp.tr KP_X5_flow (Kp.tr KP_X5_flow hk))  _ _ hF E ls (lv_sub hl [3, 0] rfl)
        · have c3 : ¬ (7 ≤ (nI (i % 8))) := c3
          refine lv_aload_n hx hb dX5_letWaterFlow_87 rfl (lv_at hl 2 rfl) ?_
          refine lv_iload_n hx hb dX5_letWaterFlow_88 rfl (lv_at hl 3 rfl) ?_
          refine lv_iload_n hx hb dX5_letWaterFlow_89 rfl (lv_at hl 3 rfl) ?_
          refine lv_iconst (v := 1) hx hb dX5_letWaterFlow_90 (by decide) ?_
          refine lv_iadd hx hb dX5_letWaterFlow_91 ?_
          rw [nI_1]
          refine lv_iload_n hx hb dX5_letWaterFlow_92 rfl (lv_at hl 0 rfl) ?_
          refine w_retv (runV_X (As := [.int (nI i), .int (nI (i + 1)), .int (gi τ 13 (nI (i / 8)))]) (rest := []) (q0 := 0) (n := 3) S hml hK (hZ.at E) (Cut.full E hA) (c_X5_flow l g ad lo ke fo ea (f_X5_flow τ (nI i) ((nI i) - 1) (gi τ 13 (nI (i / 8)))) (nI i) (nI (i + 1)) (gi τ 13 (nI (i / 8))) (vp_in_nI (n := i) (by omega) (by decide)) (col_hi c3 (by omega)) _ _) (gi_wsV ml_X5_232 im_X5_flow sl_X5_flow in_X5 co_X5_flow) ⟨rfl, by decide +kernel, by decide +kernel, by decide +kernel⟩ ⟨Nat.le_of_ble_eq_true rfl, Nat.le_of_ble_eq_true rfl⟩ rfl rfl rfl hl.1 rfl (Nat.le_of_ble_eq_true rfl) dX5_letWaterFlow_93 ⟨Nat.le_of_ble_eq_true rfl, Nat.le_of_ble_eq_true rfl⟩) (Cut.full E hA) E (fun u H locs hp E => ?_)
          subst hp
          have E : Ev g _ s.heap H locs (wsW g ad lo ke fo ea (f_X5_flow (f_X5_flow τ (nI i) ((nI i) - 1) (gi τ 13 (nI (i / 8)))) (nI i) (nI (i + 1)) (gi τ 13 (nI (i / 8))))) := E
          refine lv_aload_n hx hb dX5_letWaterFlow_96 rfl (lv_at hl 2 rfl) ?_
          refine lv_iload_n hx hb dX5_letWaterFlow_97 rfl (lv_at hl 3 rfl) ?_
          refine lv_iload_n hx hb dX5_letWaterFlow_98 rfl (lv_at hl 3 rfl) ?_
          refine lv_bipush (v := 8) hx hb dX5_letWaterFlow_99 (by decide) ?_
          refine lv_iadd hx hb dX5_letWaterFlow_101 ?_
          rw [show ((nI i) + 8) = nI (i + 8) from nI_add i 8]
          refine lv_bipush (v := 16) hx hb dX5_letWaterFlow_102 (by decide) ?_
          refine lv_irem hx hb dX5_letWaterFlow_104 (by decide) ?_
          rw [show ((nI (i + 8)) - (nI (i + 8)) / 16 * 16) = nI ((i + 8) % 16) from pk_rem (a := (i + 8)) (d := 16) (by omega) (by decide) (by decide)]
          refine lv_aload_n hx hb dX5_letWaterFlow_105 rfl (lv_at hl 2 rfl) ?_
          refine wg_X5_21 (v := .ref (ad 2)) S hK E 0 rfl rfl dX5_letWaterFlow_106 ?_
          refine wg_X5_108 (v := .ref (ad 14)) S hK E 2 rfl rfl dX5_letWaterFlow_109 ?_
          refine lv_iload_n hx hb dX5_letWaterFlow_112 rfl (lv_at hl 1 rfl) ?_
          refine w_ild (v := gi (f_X5_flow (f_X5_flow τ (nI i) ((nI i) - 1) (gi τ 13 (nI (i / 8)))) (nI i) (nI (i + 1)) (gi τ 13 (nI (i / 8)))) 14 (nI (i % 8))) S hK E 14 0 rfl rfl (vp_in_nI (n := (i % 8)) (by omega) (by decide)) rfl dX5_letWaterFlow_113 ?_
          refine w_retv (runV_X (As := [.int (nI i), .int (nI ((i + 8) % 16)), .int (gi (f_X5_flow (f_X5_flow τ (nI i) ((nI i) - 1) (gi τ 13 (nI (i / 8)))) (nI i) (nI (i + 1)) (gi τ 13 (nI (i / 8)))) 14 (nI (i % 8)))]) (rest := []) (q0 := 0) (n := 3) S hml hK (hZ.at E) (Cut.full E hA) (c_X5_flow l g ad lo ke fo ea (f_X5_flow (f_X5_flow τ (nI i) ((nI i) - 1) (gi τ 13 (nI (i / 8)))) (nI i) (nI (i + 1)) (gi τ 13 (nI (i / 8)))) (nI i) (nI ((i + 8) % 16)) (gi (f_X5_flow (f_X5_flow τ (nI i) ((nI i) - 1) (gi τ 13 (nI (i / 8)))) (nI i) (nI (i + 1)) (gi τ 13 (nI (i / 8)))) 14 (nI (i % 8))) (vp_in_nI (n := i) (by omega) (by decide)) (vp_in_nI (n := ((i + 8) % 16)) (by omega) (by decide)) _ _) (gi_wsV ml_X5_232 im_X5_flow sl_X5_flow in_X5 co_X5_flow) ⟨rfl, by decide +kernel, by decide +kernel, by decide +kernel⟩ ⟨Nat.le_of_ble_eq_true rfl, Nat.le_of_ble_eq_true rfl⟩ rfl rfl rfl hl.1 rfl (Nat.le_of_ble_eq_true rfl) dX5_letWaterFlow_114 ⟨Nat.le_of_ble_eq_true rfl, Nat.le_of_ble_eq_true rfl⟩) (Cut.full E hA) E (fun u H locs hp E => ?_)
          subst hp
          have E : Ev g _ s.heap H locs (wsW g ad lo ke fo ea (f_X5_flow (f_X5_flow (f_X5_flow τ (nI i) ((nI i) - 1) (gi τ 13 (nI (i / 8)))) (nI i) (nI (i + 1)) (gi τ 13 (nI (i / 8)))) (nI i) (nI ((i + 8) % 16)) (gi (f_X5_flow (f_X5_flow τ (nI i) ((nI i) - 1) (gi τ 13 (nI (i / 8)))) (nI i) (nI (i + 1)) (gi τ 13 (nI (i / 8)))) 14 (nI (i % 8))))) := E
          refine lv_iinc (v := (nI (i + 1))) (lv' := [(1, .int (nI (i + 1))), (3, .int (gi τ 13 (nI (i / 8)))), (2, .int (nI (i % 8))), (0, .ref (ad 0))]) hx hb dX5_letWaterFlow_117 hl (k := 3) rfl (nI_1 i) (by decide) rfl (fun ls hl => ?_)
          refine lv_goto (tgt := 44) hx hb dX5_letWaterFlow_120 (by decide) ?_
          have hF : f_X5_letWaterFlow σ = f_X5_letWaterFlow_L44 k (i + 1) (f_X5_flow (f_X5_flow (f_X5_flow τ (nI i) ((nI i) - 1) (gi τ 13 (nI (i / 8)))) (nI i) (nI (i + 1)) (gi τ 13 (nI (i / 8)))) (nI i) (nI ((i + 8) % 16)) (gi (f_X5_flow (f_X5_flow τ (nI i) ((nI i) - 1) (gi τ 13 (nI (i / 8)))) (nI i) (nI (i + 1)) (gi τ 13 (nI (i / 8)))) 14 (nI (i % 8)))) := by
            rw [hF]; rw [f_X5_letWaterFlow_L44]; rw [if_neg c1, if_neg c3]
          exact ih (i + 1) (by omega) (f_X5_flow (f_X5_flow (f_X5_flow τ (nI i) ((nI i) - 1) (gi τ 13 (nI (i / 8)))) (nI i) (nI (i + 1)) (gi τ 13 (nI (i / 8)))) (nI i) (nI ((i + 8) % 16)) (gi (f_X5_flow (f_X5_flow τ (nI i) ((nI i) - 1) (gi τ 13 (nI (i / 8)))) (nI i) (nI (i + 1)) (gi τ 13 (nI (i / 8)))) 14 (nI (i % 8))))  (Kp.tr KP_X5_flow (Kp.tr KP_X5_flow (Kp.tr KP_X5_flow hk)))  _ _ hF E ls (lv_sub hl [3, 0] rfl)
  have L2 : ∀ (k i : Nat), i + k = 16 → ∀ (τ : Sg)  (hk : Kp τ σ)  (H : Heap) (locs : List Loc), f_X5_letWaterFlow σ = f_X5_letWaterFlow_L2 k i τ → Ev g (va_A (wsW g ad lo ke fo ea σ) sz) s.heap H locs (wsW g ad lo ke fo ea τ) → ∀ ls : Array Slot, lv_has ls 4 [(0, .ref (ad 0)), (1, .int (nI i))] → W p l e ({ frames := 2, cells := 0, slots := 0, locals := 49 } : Room) s m args below meth c H locs 0 0 (MQ below (va_Qv (fun u : Sg => u = f_X5_letWaterFlow σ) (AtX g (va_A (wsW g ad lo ke fo ea σ) sz) (wsW g ad lo ke fo ea) (fun _ => (0, 0)) sz tt) (va_A (wsW g ad lo ke fo ea σ) sz)) args s 0 0 (va_A (wsW g ad lo ke fo ea σ) sz)) (F0 m 2 ls []) := by
    intro k
    induction k with
    | zero =>
      intro i hi τ  hk  H locs hF E ls hl
      have hl : lv_has ls 4 [(0, .ref (ad 0)), (1, .int (nI i))] := hl
      refine lv_iload_n hx hb dX5_letWaterFlow_2 rfl (lv_at hl 1 rfl) ?_
      refine lv_bipush (v := 16) hx hb dX5_letWaterFlow_3 (by decide) ?_
      refine lv_icmp_ge (tgt := 42) hx hb dX5_letWaterFlow_5 (by decide) (fun _ => ?_) (fun c_ => absurd (g_yes (b := 16) rfl rfl (by omega) (by omega)) c_)
      refine lv_iconst (v := 0) hx hb dX5_letWaterFlow_42 (by decide) ?_
      refine lv_istore_n (lv' := [(1, .int 0), (0, .ref (ad 0))]) hx hb dX5_letWaterFlow_43 rfl hl (by decide) rfl (fun ls hl => ?_)
      have hF : f_X5_letWaterFlow σ = f_X5_letWaterFlow_L44 16 0 τ := by
        rw [hF]; rw [f_X5_letWaterFlow_L2]
      exact L44 16 0 (by omega) τ  hk  _ _ hF E ls (lv_sub hl [1, 0] rfl)
    | succ k ih =>
      intro i hi τ  hk  H locs hF E ls hl
      have hl : lv_has ls 4 [(0, .ref (ad 0)), (1, .int (nI i))] := hl
      refine lv_iload_n hx hb dX5_letWaterFlow_2 rfl (lv_at hl 1 rfl) ?_
      refine lv_bipush (v := 16) hx hb dX5_letWaterFlow_3 (by decide) ?_
      refine lv_icmp_ge (tgt := 42) hx hb dX5_letWaterFlow_5 (by decide) (fun c_ => absurd c_ (g_no (b := 16) rfl rfl (by omega) (by decide))) (fun _ => ?_)
      refine lv_aload_n hx hb dX5_letWaterFlow_8 rfl (lv_at hl 0 rfl) ?_
      refine wg_X5_46 (v := .ref (ad 5)) S hK E 0 rfl rfl dX5_letWaterFlow_9 ?_
      refine lv_iload_n hx hb dX5_letWaterFlow_12 rfl (lv_at hl 1 rfl) ?_
      refine lv_aload_n hx hb dX5_letWaterFlow_13 rfl (lv_at hl 0 rfl) ?_
      refine wg_X5_12 (v := .ref (ad 1)) S hK E 0 rfl rfl dX5_letWaterFlow_14 ?_
      refine lv_iload_n hx hb dX5_letWaterFlow_17 rfl (lv_at hl 1 rfl) ?_
      refine w_reti (runV_X (As := [.int (nI i)]) (rest := [.int (nI i), .ref (ad 5)]) (q0 := 1) (n := 1) S hml hK (hZ.at E) (Cut.full E hA) (c_X2_height l g ad lo ke fo ea τ (nI i) (vp_in_nI (n := i) (by omega) (by decide)) _ _) (gi_wsV ml_X5_229 im_X2_height sl_X2_height in_X2 co_X2_height) ⟨rfl, by decide +kernel, by decide +kernel, by decide +kernel⟩ ⟨Nat.le_of_ble_eq_true rfl, Nat.le_of_ble_eq_true rfl⟩ rfl rfl rfl hl.1 rfl (Nat.le_of_ble_eq_true rfl) dX5_letWaterFlow_18 ⟨Nat.le_of_ble_eq_true rfl, Nat.le_of_ble_eq_true rfl⟩) (Cut.full E hA) E (fun r u H locs hp E => ?_)
      obtain ⟨hp, hu⟩ := hp
      subst hp
      rw [hu] at E
      have E : Ev g _ s.heap H locs (wsW g ad lo ke fo ea τ) := E
      refine w_ist (w' := wsW g ad lo ke fo ea (si τ 5 (nI i) (f_X2_height τ (nI i)))) S hK E 5 0 rfl rfl (vp_in_nI (n := i) (by omega) (by decide)) wset_5 dX5_letWaterFlow_21 (fun H locs E => ?_)
      refine lv_aload_n hx hb dX5_letWaterFlow_22 rfl (lv_at hl 0 rfl) ?_
      refine wg_X5_50 (v := .ref (ad 6)) S hK E 0 rfl rfl dX5_letWaterFlow_23 ?_
      refine lv_iload_n hx hb dX5_letWaterFlow_26 rfl (lv_at hl 1 rfl) ?_
      refine lv_iconst (v := 0) hx hb dX5_letWaterFlow_27 (by decide) ?_
      refine w_ist (w' := wsW g ad lo ke fo ea (si (si τ 5 (nI i) (f_X2_height τ (nI i))) 6 (nI i) 0)) S hK E 6 0 rfl rfl (vp_in_nI (n := i) (by omega) (by decide)) wset_6 dX5_letWaterFlow_28 (fun H locs E => ?_)
      refine lv_aload_n hx hb dX5_letWaterFlow_29 rfl (lv_at hl 0 rfl) ?_
      refine wg_X5_53 (v := .ref (ad 7)) S hK E 0 rfl rfl dX5_letWaterFlow_30 ?_
      refine lv_iload_n hx hb dX5_letWaterFlow_33 rfl (lv_at hl 1 rfl) ?_
      refine lv_iconst (v := 0) hx hb dX5_letWaterFlow_34 (by decide) ?_
      refine w_ist (w' := wsW g ad lo ke fo ea (si (si (si τ 5 (nI i) (f_X2_height τ (nI i))) 6 (nI i) 0) 7 (nI i) 0)) S hK E 7 0 rfl rfl (vp_in_nI (n := i) (by omega) (by decide)) wset_7 dX5_letWaterFlow_35 (fun H locs E => ?_)
      refine lv_iinc (v := (nI (i + 1))) (lv' := [(1, .int (nI (i + 1))), (0, .ref (ad 0))]) hx hb dX5_letWaterFlow_36 hl (k := 1) rfl (nI_1 i) (by decide) rfl (fun ls hl => ?_)
      refine lv_goto (tgt := 2) hx hb dX5_letWaterFlow_39 (by decide) ?_
      have hF : f_X5_letWaterFlow σ = f_X5_letWaterFlow_L2 k (i + 1) (si (si (si τ 5 (nI i) (f_X2_height τ (nI i))) 6 (nI i) 0) 7 (nI i) 0) := by
        rw [hF]; rw [f_X5_letWaterFlow_L2]
      exact ih (i + 1) (by omega) (si (si (si τ 5 (nI i) (f_X2_height τ (nI i))) 6 (nI i) 0) 7 (nI i) 0)  (Kp_si (k := 7) (Kp_si (k := 6) (Kp_si (k := 5) hk (by decide)) (by decide)) (by decide))  _ _ hF E ls (lv_sub hl [1, 0] rfl)
  refine lv_iconst (v := 0) hx hb dX5_letWaterFlow_0 (by decide) ?_
  refine lv_istore_n (lv' := [(1, .int 0), (0, .ref (ad 0))]) hx hb dX5_letWaterFlow_1 rfl hl (by decide) rfl (fun ls hl => ?_)
  have hF : f_X5_letWaterFlow σ = f_X5_letWaterFlow_L2 16 0 σ := by
    rfl
  exact L2 16 0 (by omega) σ  Kp.rf  _ _ hF E ls (lv_sub hl [1, 0] rfl)

def f_X5_letSpringRun (σ : Sg) (x : Int32) : Sg := (sl (f_X2_takeOut σ x (mx 0 ((gi σ 10 x) - (mx 0 (((gi σ 12 x) - (gi σ 8 x)) * (gi σ 9 x)))))).2 28 5 ((gl (f_X2_takeOut σ x (mx 0 ((gi σ 10 x) - (mx 0 (((gi σ 12 x) - (gi σ 8 x)) * (gi σ 9 x)))))).2 28 5) + (((mx 0 ((gi σ 10 x) - (mx 0 (((gi σ 12 x) - (gi σ 8 x)) * (gi σ 9 x)))))).toInt64)))
theorem KP_X5_letSpringRun {σ : Sg} {x : Int32} : Kp (f_X5_letSpringRun σ x) σ := by
  unfold f_X5_letSpringRun
  exact (Kp_sl (Kp.tr KP_X2_takeOut Kp.rf))
set_option maxHeartbeats 4000000 in
set_option maxRecDepth 100000 in
/-- World.letSpringRun -/
theorem c_X5_letSpringRun (l : Launch) (g : Gm) (ad : Nat → Nat) (lo ke fo : Int32) (ea : Nat) (σ : Sg) (x : Int32) (q_x : vp_in x 8) : MXv l g yX5_letSpringRun cX5_letSpringRun 4 ({ frames := 1, cells := 0, slots := 0, locals := 24 } : Room) [.ref (ad 0), .int x] (wsW g ad lo ke fo ea σ) (fun u : Sg => u = f_X5_letSpringRun σ x) (wsW g ad lo ke fo ea) (fun _ => (0, 0)) := by
  intro sz tt
  refine ofX RX5 rfl (by decide +kernel) (Nat.le_of_ble_eq_true rfl) (fun p e s m args below meth c hargs S hml hr hlk hnm hsz htt hK hA hZ E ls hl => ?_)
  have hx := S.1
  have hb := S.2.1
  have hl : lv_has ls 4 [(0, .ref (ad 0)), (1, .int x)] := hl
  refine lv_iconst (v := 0) hx hb dX5_letSpringRun_0 (by decide) ?_
  refine lv_aload_n hx hb dX5_letSpringRun_1 rfl (lv_at hl 0 rfl) ?_
  refine wg_X5_21 (v := .ref (ad 2)) S hK E 0 rfl rfl dX5_letSpringRun_2 ?_
  refine wg_X5_102 (v := .ref (ad 12)) S hK E 2 rfl rfl dX5_letSpringRun_5 ?_
  refine lv_iload_n hx hb dX5_letSpringRun_8 rfl (lv_at hl 1 rfl) ?_
  refine w_ild (v := gi σ 12 x) S hK E 12 0 rfl rfl q_x rfl dX5_letSpringRun_9 ?_
  refine lv_aload_n hx hb dX5_letSpringRun_10 rfl (lv_at hl 0 rfl) ?_
  refine wg_X5_12 (v := .ref (ad 1)) S hK E 0 rfl rfl dX5_letSpringRun_11 ?_
  refine wg_X5_154 (v := .ref (ad 8)) S hK E 1 rfl rfl dX5_letSpringRun_14 ?_
  refine lv_iload_n hx hb dX5_letSpringRun_17 rfl (lv_at hl 1 rfl) ?_
  refine w_ild (v := gi σ 8 x) S hK E 8 0 rfl rfl (vp_mono q_x (by decide)) rfl dX5_letSpringRun_18 ?_
  refine lv_isub hx hb dX5_letSpringRun_19 ?_
  refine lv_aload_n hx hb dX5_letSpringRun_20 rfl (lv_at hl 0 rfl) ?_
  refine wg_X5_12 (v := .ref (ad 1)) S hK E 0 rfl rfl dX5_letSpringRun_21 ?_
  refine wg_X5_157 (v := .ref (ad 9)) S hK E 1 rfl rfl dX5_letSpringRun_24 ?_
  refine lv_iload_n hx hb dX5_letSpringRun_27 rfl (lv_at hl 1 rfl) ?_
  refine w_ild (v := gi σ 9 x) S hK E 9 0 rfl rfl (vp_mono q_x (by decide)) rfl dX5_letSpringRun_28 ?_
  refine lv_imul hx hb dX5_letSpringRun_29 ?_
  refine w_max (v := (mx 0 (((gi σ 12 x) - (gi σ 8 x)) * (gi σ 9 x)))) S hml hl ml_X5_241 st_max in_J9 co_max (Nat.le_of_ble_eq_true rfl) (Nat.le_of_ble_eq_true rfl) ⟨Nat.le_of_ble_eq_true rfl, Nat.le_of_ble_eq_true rfl⟩ rfl dX5_letSpringRun_30 ?_
  refine lv_istore_n (lv' := [(2, .int (mx 0 (((gi σ 12 x) - (gi σ 8 x)) * (gi σ 9 x)))), (0, .ref (ad 0)), (1, .int x)]) hx hb dX5_letSpringRun_33 rfl hl (by decide) rfl (fun ls hl => ?_)
  refine lv_iconst (v := 0) hx hb dX5_letSpringRun_34 (by decide) ?_
  refine lv_aload_n hx hb dX5_letSpringRun_35 rfl (lv_at hl 1 rfl) ?_
  refine wg_X5_12 (v := .ref (ad 1)) S hK E 0 rfl rfl dX5_letSpringRun_36 ?_
  refine wg_X5_151 (v := .ref (ad 10)) S hK E 1 rfl rfl dX5_letSpringRun_39 ?_
  refine lv_iload_n hx hb dX5_letSpringRun_42 rfl (lv_at hl 2 rfl) ?_
  refine w_ild (v := gi σ 10 x) S hK E 10 0 rfl rfl (vp_mono q_x (by decide)) rfl dX5_letSpringRun_43 ?_
  refine lv_iload_n hx hb dX5_letSpringRun_44 rfl (lv_at hl 0 rfl) ?_
  refine lv_isub hx hb dX5_letSpringRun_45 ?_
  refine w_max (v := (mx 0 ((gi σ 10 x) - (mx 0 (((gi σ 12 x) - (gi σ 8 x)) * (gi σ 9 x)))))) S hml hl ml_X5_241 st_max in_J9 co_max (Nat.le_of_ble_eq_true rfl) (Nat.le_of_ble_eq_true rfl) ⟨Nat.le_of_ble_eq_true rfl, Nat.le_of_ble_eq_true rfl⟩ rfl dX5_letSpringRun_46 ?_
  refine lv_istore_n (lv' := [(3, .int (mx 0 ((gi σ 10 x) - (mx 0 (((gi σ 12 x) - (gi σ 8 x)) * (gi σ 9 x)))))), (2, .int (mx 0 (((gi σ 12 x) - (gi σ 8 x)) * (gi σ 9 x)))), (0, .ref (ad 0)), (1, .int x)]) hx hb dX5_letSpringRun_49 rfl hl (by decide) rfl (fun ls hl => ?_)
  refine lv_aload_n hx hb dX5_letSpringRun_50 rfl (lv_at hl 2 rfl) ?_
  refine wg_X5_12 (v := .ref (ad 1)) S hK E 0 rfl rfl dX5_letSpringRun_51 ?_
  refine lv_iload_n hx hb dX5_letSpringRun_54 rfl (lv_at hl 3 rfl) ?_
  refine lv_iload_n hx hb dX5_letSpringRun_55 rfl (lv_at hl 0 rfl) ?_
  refine w_reti (runV_X (As := [.int x, .int (mx 0 ((gi σ 10 x) - (mx 0 (((gi σ 12 x) - (gi σ 8 x)) * (gi σ 9 x)))))]) (rest := []) (q0 := 1) (n := 2) S hml hK (hZ.at E) (Cut.full E hA) (c_X2_takeOut l g ad lo ke fo ea σ x (mx 0 ((gi σ 10 x) - (mx 0 (((gi σ 12 x) - (gi σ 8 x)) * (gi σ 9 x))))) (vp_mono q_x (by decide)) _ _) (gi_wsV ml_X5_213 im_X2_takeOut sl_X2_takeOut in_X2 co_X2_takeOut) ⟨rfl, by decide +kernel, by decide +kernel, by decide +kernel⟩ ⟨Nat.le_of_ble_eq_true rfl, Nat.le_of_ble_eq_true rfl⟩ rfl rfl rfl hl.1 rfl (Nat.le_of_ble_eq_true rfl) dX5_letSpringRun_56 ⟨Nat.le_of_ble_eq_true rfl, Nat.le_of_ble_eq_true rfl⟩) (Cut.full E hA) E (fun r u H locs hp E => ?_)
  obtain ⟨rfl, rfl⟩ := hp
  have E : Ev g _ s.heap H locs (wsW g ad lo ke fo ea (f_X2_takeOut σ x (mx 0 ((gi σ 10 x) - (mx 0 (((gi σ 12 x) - (gi σ 8 x)) * (gi σ 9 x)))))).2) := E
  refine lv_pop hx hb dX5_letSpringRun_59 rfl ?_
  refine lv_aload_n hx hb dX5_letSpringRun_60 rfl (lv_at hl 2 rfl) ?_
  refine wg_X5_35 (v := .ref (ad 4)) S hK E 0 rfl rfl dX5_letSpringRun_61 ?_
  refine wg_X5_147 (v := .ref (ad 28)) S hK E 4 rfl rfl dX5_letSpringRun_64 ?_
  refine lv_iconst (v := 5) hx hb dX5_letSpringRun_67 (by decide) ?_
  refine lv_dup2_11 hx hb dX5_letSpringRun_68 rfl rfl ?_
  refine w_lld (v := gl (f_X2_takeOut σ x (mx 0 ((gi σ 10 x) - (mx 0 (((gi σ 12 x) - (gi σ 8 x)) * (gi σ 9 x)))))).2 28 5) S hK E 28 1 rfl rfl (show vp_in 5 9 by unfold vp_in; decide) rfl dX5_letSpringRun_69 ?_
  refine lv_iload_n hx hb dX5_letSpringRun_70 rfl (lv_at hl 0 rfl) ?_
  refine lv_i2l (v := ((mx 0 ((gi σ 10 x) - (mx 0 (((gi σ 12 x) - (gi σ 8 x)) * (gi σ 9 x)))))).toInt64) hx hb dX5_letSpringRun_71 rfl ?_
  refine lv_ladd hx hb dX5_letSpringRun_72 ?_
  refine w_lst (w' := wsW g ad lo ke fo ea (sl (f_X2_takeOut σ x (mx 0 ((gi σ 10 x) - (mx 0 (((gi σ 12 x) - (gi σ 8 x)) * (gi σ 9 x)))))).2 28 5 ((gl (f_X2_takeOut σ x (mx 0 ((gi σ 10 x) - (mx 0 (((gi σ 12 x) - (gi σ 8 x)) * (gi σ 9 x)))))).2 28 5) + (((mx 0 ((gi σ 10 x) - (mx 0 (((gi σ 12 x) - (gi σ 8 x)) * (gi σ 9 x)))))).toInt64)))) S hK E 28 1 rfl rfl (show vp_in 5 9 by unfold vp_in; decide) wset_28 dX5_letSpringRun_73 (fun H locs E => ?_)
  have hQ : f_X5_letSpringRun σ x = (sl (f_X2_takeOut σ x (mx 0 ((gi σ 10 x) - (mx 0 (((gi σ 12 x) - (gi σ 8 x)) * (gi σ 9 x)))))).2 28 5 ((gl (f_X2_takeOut σ x (mx 0 ((gi σ 10 x) - (mx 0 (((gi σ 12 x) - (gi σ 8 x)) * (gi σ 9 x)))))).2 28 5) + (((mx 0 ((gi σ 10 x) - (mx 0 (((gi σ 12 x) - (gi σ 8 x)) * (gi σ 9 x)))))).toInt64))) := by
    rfl
  exact x_vret (sl (f_X2_takeOut σ x (mx 0 ((gi σ 10 x) - (mx 0 (((gi σ 12 x) - (gi σ 8 x)) * (gi σ 9 x)))))).2 28 5 ((gl (f_X2_takeOut σ x (mx 0 ((gi σ 10 x) - (mx 0 (((gi σ 12 x) - (gi σ 8 x)) * (gi σ 9 x)))))).2 28 5) + (((mx 0 ((gi σ 10 x) - (mx 0 (((gi σ 12 x) - (gi σ 8 x)) * (gi σ 9 x)))))).toInt64))) S hr hlk hsz htt hK E dX5_letSpringRun_74 hQ.symm rfl ⟨Nat.le_of_ble_eq_true rfl, Nat.le_of_ble_eq_true rfl⟩ ⟨Nat.le_of_ble_eq_true rfl, Nat.le_of_ble_eq_true rfl⟩

def f_X5_letSpringsRun_L2  : Nat → Nat → Sg → Sg
  | 0, i, τ => τ
  | k + 1, i, τ => if (f_X2_height τ (nI i)) ≤ (gi τ 12 (nI i)) then (f_X5_letSpringsRun_L2 k (i + 1) τ) else (f_X5_letSpringsRun_L2 k (i + 1) (f_X5_letSpringRun τ (nI i)))
theorem KP_X5_letSpringsRun_L2 {σ : Sg}  : ∀ (k i : Nat) (τ : Sg) , Kp τ σ → Kp (f_X5_letSpringsRun_L2 k i τ) σ := by
  intro k
  induction k with
  | zero =>
    intro i τ  hk
    rw [f_X5_letSpringsRun_L2]
    exact hk
  | succ k ih =>
    intro i τ  hk
    rw [f_X5_letSpringsRun_L2]
    split
    · exact ih _ _ hk
    · exact ih _ _ (Kp.tr KP_X5_letSpringRun hk)
def f_X5_letSpringsRun (σ : Sg)  : Sg := f_X5_letSpringsRun_L2 8 0 σ
theorem KP_X5_letSpringsRun {σ : Sg}  : Kp (f_X5_letSpringsRun σ) σ := by
  unfold f_X5_letSpringsRun
  exact KP_X5_letSpringsRun_L2 _ _ _ Kp.rf
set_option maxHeartbeats 4000000 in
set_option maxRecDepth 100000 in
/-- World.letSpringsRun -/
theorem c_X5_letSpringsRun (l : Launch) (g : Gm) (ad : Nat → Nat) (lo ke fo : Int32) (ea : Nat) (σ : Sg) : MXv l g yX5_letSpringsRun cX5_letSpringsRun 2 ({ frames := 2, cells := 0, slots := 0, locals := 47 } : Room) [.ref (ad 0)] (wsW g ad lo ke fo ea σ) (fun u : Sg => u = f_X5_letSpringsRun σ) (wsW g ad lo ke fo ea) (fun _ => (0, 0)) := by
  intro sz tt
  refine ofX RX5 rfl (by decide +kernel) (Nat.le_of_ble_eq_true rfl) (fun p e s m args below meth c hargs S hml hr hlk hnm hsz htt hK hA hZ E ls hl => ?_)
  have hx := S.1
  have hb := S.2.1
  have hl : lv_has ls 2 [(0, .ref (ad 0))] := hl
  have L2 : ∀ (k i : Nat), i + k = 8 → ∀ (τ : Sg)  (hk : Kp τ σ)  (H : Heap) (locs : List Loc), f_X5_letSpringsRun σ = f_X5_letSpringsRun_L2 k i τ → Ev g (va_A (wsW g ad lo ke fo ea σ) sz) s.heap H locs (wsW g ad lo ke fo ea τ) → ∀ ls : Array Slot, lv_has ls 2 [(0, .ref (ad 0)), (1, .int (nI i))] → W p l e ({ frames := 2, cells := 0, slots := 0, locals := 47 } : Room) s m args below meth c H locs 0 0 (MQ below (va_Qv (fun u : Sg => u = f_X5_letSpringsRun σ) (AtX g (va_A (wsW g ad lo ke fo ea σ) sz) (wsW g ad lo ke fo ea) (fun _ => (0, 0)) sz tt) (va_A (wsW g ad lo ke fo ea σ) sz)) args s 0 0 (va_A (wsW g ad lo ke fo ea σ) sz)) (F0 m 2 ls []) := by
    intro k
    induction k with
    | zero =>
      intro i hi τ  hk  H locs hF E ls hl
      have hl : lv_has ls 2 [(0, .ref (ad 0)), (1, .int (nI i))] := hl
      refine lv_iload_n hx hb dX5_letSpringsRun_2 rfl (lv_at hl 1 rfl) ?_
      refine lv_bipush (v := 8) hx hb dX5_letSpringsRun_3 (by decide) ?_
      refine lv_icmp_ge (tgt := 39) hx hb dX5_letSpringsRun_5 (by decide) (fun _ => ?_) (fun c_ => absurd (g_yes (b := 8) rfl rfl (by omega) (by omega)) c_)
      have hQ : f_X5_letSpringsRun σ = τ := by
        rw [hF]; rw [f_X5_letSpringsRun_L2]
      exact x_vret τ S hr hlk hsz htt hK E dX5_letSpringsRun_39 hQ.symm rfl ⟨Nat.le_of_ble_eq_true rfl, Nat.le_of_ble_eq_true rfl⟩ ⟨Nat.le_of_ble_eq_true rfl, Nat.le_of_ble_eq_true rfl⟩
    | succ k ih =>
      intro i hi τ  hk  H locs hF E ls hl
      have hl : lv_has ls 2 [(0, .ref (ad 0)), (1, .int (nI i))] := hl
      refine lv_iload_n hx hb dX5_letSpringsRun_2 rfl (lv_at hl 1 rfl) ?_
      refine lv_bipush (v := 8) hx hb dX5_letSpringsRun_3 (by decide) ?_
      refine lv_icmp_ge (tgt := 39) hx hb dX5_letSpringsRun_5 (by decide) (fun c_ => absurd c_ (g_no (b := 8) rfl rfl (by omega) (by decide))) (fun _ => ?_)
      refine lv_aload_n hx hb dX5_letSpringsRun_8 rfl (lv_at hl 0 rfl) ?_
      refine wg_X5_12 (v := .ref (ad 1)) S hK E 0 rfl rfl dX5_letSpringsRun_9 ?_
      refine lv_iload_n hx hb dX5_letSpringsRun_12 rfl (lv_at hl 1 rfl) ?_
      refine w_reti (runV_X (As := [.int (nI i)]) (rest := []) (q0 := 1) (n := 1) S hml hK (hZ.at E) (Cut.full E hA) (c_X2_height l g ad lo ke fo ea τ (nI i) (vp_in_nI (n := i) (by omega) (by decide)) _ _) (gi_wsV ml_X5_229 im_X2_height sl_X2_height in_X2 co_X2_height) ⟨rfl, by decide +kernel, by decide +kernel, by decide +kernel⟩ ⟨Nat.le_of_ble_eq_true rfl, Nat.le_of_ble_eq_true rfl⟩ rfl rfl rfl hl.1 rfl (Nat.le_of_ble_eq_true rfl) dX5_letSpringsRun_13 ⟨Nat.le_of_ble_eq_true rfl, Nat.le_of_ble_eq_true rfl⟩) (Cut.full E hA) E (fun r u H locs hp E => ?_)
      obtain ⟨hp, hu⟩ := hp
      subst hp
      rw [hu] at E
      have E : Ev g _ s.heap H locs (wsW g ad lo ke fo ea τ) := E
      refine lv_aload_n hx hb dX5_letSpringsRun_16 rfl (lv_at hl 0 rfl) ?_
      refine wg_X5_21 (v := .ref (ad 2)) S hK E 0 rfl rfl dX5_letSpringsRun_17 ?_
      refine wg_X5_102 (v := .ref (ad 12)) S hK E 2 rfl rfl dX5_letSpringsRun_20 ?_
      refine lv_iload_n hx hb dX5_letSpringsRun_23 rfl (lv_at hl 1 rfl) ?_
      refine w_ild (v := gi τ 12 (nI i)) S hK E 12 0 rfl rfl (vp_in_nI (n := i) (by omega) (by decide)) rfl dX5_letSpringsRun_24 ?_
      refine lv_icmp_le (tgt := 33) hx hb dX5_letSpringsRun_25 (by decide) (fun c1 => ?_) (fun c1 => ?_)
      · have c1 : (f_X2_height τ (nI i)) ≤ (gi τ 12 (nI i)) := c1
        refine lv_iinc (v := (nI (i + 1))) (lv' := [(1, .int (nI (i + 1))), (0, .ref (ad 0))]) hx hb dX5_letSpringsRun_33 hl (k := 1) rfl (nI_1 i) (by decide) rfl (fun ls hl => ?_)
        refine lv_goto (tgt := 2) hx hb dX5_letSpringsRun_36 (by decide) ?_
        have hF : f_X5_letSpringsRun σ = f_X5_letSpringsRun_L2 k (i + 1) τ := by
          rw [hF]; rw [f_X5_letSpringsRun_L2]; rw [if_pos c1]
        exact ih (i + 1) (by omega) τ  hk  _ _ hF E ls (lv_sub hl [1, 0] rfl)
      · have c1 : ¬ ((f_X2_height τ (nI i)) ≤ (gi τ 12 (nI i))) := c1
        refine lv_aload_n hx hb dX5_letSpringsRun_28 rfl (lv_at hl 0 rfl) ?_
        refine lv_iload_n hx hb dX5_letSpringsRun_29 rfl (lv_at hl 1 rfl) ?_
        refine w_retv (runV_X (As := [.int (nI i)]) (rest := []) (q0 := 0) (n := 1) S hml hK (hZ.at E) (Cut.full E hA) (c_X5_letSpringRun l g ad lo ke fo ea τ (nI i) (vp_in_nI (n := i) (by omega) (by decide)) _ _) (gi_wsV ml_X5_238 im_X5_letSpringRun sl_X5_letSpringRun in_X5 co_X5_letSpringRun) ⟨rfl, by decide +kernel, by decide +kernel, by decide +kernel⟩ ⟨Nat.le_of_ble_eq_true rfl, Nat.le_of_ble_eq_true rfl⟩ rfl rfl rfl hl.1 rfl (Nat.le_of_ble_eq_true rfl) dX5_letSpringsRun_30 ⟨Nat.le_of_ble_eq_true rfl, Nat.le_of_ble_eq_true rfl⟩) (Cut.full E hA) E (fun u H locs hp E => ?_)
        subst hp
        have E : Ev g _ s.heap H locs (wsW g ad lo ke fo ea (f_X5_letSpringRun τ (nI i))) := E
        refine lv_iinc (v := (nI (i + 1))) (lv' := [(1, .int (nI (i + 1))), (0, .ref (ad 0))]) hx hb dX5_letSpringsRun_33 hl (k := 1) rfl (nI_1 i) (by decide) rfl (fun ls hl => ?_)
        refine lv_goto (tgt := 2) hx hb dX5_letSpringsRun_36 (by decide) ?_
        have hF : f_X5_letSpringsRun σ = f_X5_letSpringsRun_L2 k (i + 1) (f_X5_letSpringRun τ (nI i)) := by
          rw [hF]; rw [f_X5_letSpringsRun_L2]; rw [if_neg c1]
        exact ih (i + 1) (by omega) (f_X5_letSpringRun τ (nI i))  (Kp.tr KP_X5_letSpringRun hk)  _ _ hF E ls (lv_sub hl [1, 0] rfl)
  refine lv_iconst (v := 0) hx hb dX5_letSpringsRun_0 (by decide) ?_
  refine lv_istore_n (lv' := [(1, .int 0), (0, .ref (ad 0))]) hx hb dX5_letSpringsRun_1 rfl hl (by decide) rfl (fun ls hl => ?_)
  have hF : f_X5_letSpringsRun σ = f_X5_letSpringsRun_L2 8 0 σ := by
    rfl
  exact L2 8 0 (by omega) σ  Kp.rf  _ _ hF E ls (lv_sub hl [1, 0] rfl)

def f_X5_meetSea (σ : Sg) (x : Int32) : Sg := if (((0 - (f_X2_height σ x)) * (gs σ 3)) / 4) ≤ 0 then (sl (f_X2_takeOut σ x (mn (-(((0 - (f_X2_height σ x)) * (gs σ 3)) / 4)) (gi σ 10 x))).2 28 7 ((gl (f_X2_takeOut σ x (mn (-(((0 - (f_X2_height σ x)) * (gs σ 3)) / 4)) (gi σ 10 x))).2 28 7) + (((mn (-(((0 - (f_X2_height σ x)) * (gs σ 3)) / 4)) (gi σ 10 x))).toInt64))) else (sl (si (si σ 10 x ((gi σ 10 x) + (((0 - (f_X2_height σ x)) * (gs σ 3)) / 4))) 11 x ((gi σ 11 x) + (35 * (((0 - (f_X2_height σ x)) * (gs σ 3)) / 4)))) 28 6 ((gl σ 28 6) + (((((0 - (f_X2_height σ x)) * (gs σ 3)) / 4)).toInt64)))
theorem KP_X5_meetSea {σ : Sg} {x : Int32} : Kp (f_X5_meetSea σ x) σ := by
  unfold f_X5_meetSea
  split
  · exact (Kp_sl (Kp.tr KP_X2_takeOut Kp.rf))
  · exact (Kp_sl (Kp_si (k := 11) (Kp_si (k := 10) Kp.rf (by decide)) (by decide)))
set_option maxHeartbeats 4000000 in
set_option maxRecDepth 100000 in
/-- World.meetSea -/
theorem c_X5_meetSea (l : Launch) (g : Gm) (ad : Nat → Nat) (lo ke fo : Int32) (ea : Nat) (σ : Sg) (x : Int32) (q_x : vp_in x 16) : MXv l g yX5_meetSea cX5_meetSea 4 ({ frames := 1, cells := 0, slots := 0, locals := 24 } : Room) [.ref (ad 0), .int x] (wsW g ad lo ke fo ea σ) (fun u : Sg => u = f_X5_meetSea σ x) (wsW g ad lo ke fo ea) (fun _ => (0, 0)) := by
  intro sz tt
  refine ofX RX5 rfl (by decide +kernel) (Nat.le_of_ble_eq_true rfl) (fun p e s m args below meth c hargs S hml hr hlk hnm hsz htt hK hA hZ E ls hl => ?_)
  have hx := S.1
  have hb := S.2.1
  have hl : lv_has ls 4 [(0, .ref (ad 0)), (1, .int x)] := hl
  refine lv_iconst (v := 0) hx hb dX5_meetSea_0 (by decide) ?_
  refine lv_aload_n hx hb dX5_meetSea_1 rfl (lv_at hl 0 rfl) ?_
  refine wg_X5_12 (v := .ref (ad 1)) S hK E 0 rfl rfl dX5_meetSea_2 ?_
  refine lv_iload_n hx hb dX5_meetSea_5 rfl (lv_at hl 1 rfl) ?_
  refine w_reti (runV_X (As := [.int x]) (rest := [.int 0]) (q0 := 1) (n := 1) S hml hK (hZ.at E) (Cut.full E hA) (c_X2_height l g ad lo ke fo ea σ x q_x _ _) (gi_wsV ml_X5_229 im_X2_height sl_X2_height in_X2 co_X2_height) ⟨rfl, by decide +kernel, by decide +kernel, by decide +kernel⟩ ⟨Nat.le_of_ble_eq_true rfl, Nat.le_of_ble_eq_true rfl⟩ rfl rfl rfl hl.1 rfl (Nat.le_of_ble_eq_true rfl) dX5_meetSea_6 ⟨Nat.le_of_ble_eq_true rfl, Nat.le_of_ble_eq_true rfl⟩) (Cut.full E hA) E (fun r u H locs hp E => ?_)
  obtain ⟨hp, hu⟩ := hp
  subst hp
  rw [hu] at E
  have E : Ev g _ s.heap H locs (wsW g ad lo ke fo ea σ) := E
  refine lv_isub hx hb dX5_meetSea_9 ?_
  refine lv_aload_n hx hb dX5_meetSea_10 rfl (lv_at hl 0 rfl) ?_
  refine wg_X5_21 (v := .ref (ad 2)) S hK E 0 rfl rfl dX5_meetSea_11 ?_
  refine wg_X5_123 (v := .int (gs σ 3)) S hK E 2 rfl rfl dX5_meetSea_14 ?_
  refine lv_imul hx hb dX5_meetSea_17 ?_
  refine lv_iconst (v := 4) hx hb dX5_meetSea_18 (by decide) ?_
  refine lv_idiv hx hb dX5_meetSea_19 (by decide) ?_
  refine lv_istore_n (lv' := [(2, .int (((0 - (f_X2_height σ x)) * (gs σ 3)) / 4)), (0, .ref (ad 0)), (1, .int x)]) hx hb dX5_meetSea_20 rfl hl (by decide) rfl (fun ls hl => ?_)
  refine lv_iload_n hx hb dX5_meetSea_21 rfl (lv_at hl 0 rfl) ?_
  refine lv_if_le (tgt := 72) hx hb dX5_meetSea_22 (by decide) (fun c1 => ?_) (fun c1 => ?_)
  · have c1 : (((0 - (f_X2_height σ x)) * (gs σ 3)) / 4) ≤ 0 := c1
    refine lv_iload_n hx hb dX5_meetSea_72 rfl (lv_at hl 0 rfl) ?_
    refine lv_ineg hx hb dX5_meetSea_73 ?_
    refine lv_aload_n hx hb dX5_meetSea_74 rfl (lv_at hl 1 rfl) ?_
    refine wg_X5_12 (v := .ref (ad 1)) S hK E 0 rfl rfl dX5_meetSea_75 ?_
    refine wg_X5_151 (v := .ref (ad 10)) S hK E 1 rfl rfl dX5_meetSea_78 ?_
    refine lv_iload_n hx hb dX5_meetSea_81 rfl (lv_at hl 2 rfl) ?_
    refine w_ild (v := gi σ 10 x) S hK E 10 0 rfl rfl q_x rfl dX5_meetSea_82 ?_
    refine w_min (v := (mn (-(((0 - (f_X2_height σ x)) * (gs σ 3)) / 4)) (gi σ 10 x))) S hml hl ml_X5_207 st_min in_J9 co_min (Nat.le_of_ble_eq_true rfl) (Nat.le_of_ble_eq_true rfl) ⟨Nat.le_of_ble_eq_true rfl, Nat.le_of_ble_eq_true rfl⟩ rfl dX5_meetSea_83 ?_
    refine lv_istore_n (lv' := [(3, .int (mn (-(((0 - (f_X2_height σ x)) * (gs σ 3)) / 4)) (gi σ 10 x))), (2, .int (((0 - (f_X2_height σ x)) * (gs σ 3)) / 4)), (0, .ref (ad 0)), (1, .int x)]) hx hb dX5_meetSea_86 rfl hl (by decide) rfl (fun ls hl => ?_)
    refine lv_aload_n hx hb dX5_meetSea_87 rfl (lv_at hl 2 rfl) ?_
    refine wg_X5_12 (v := .ref (ad 1)) S hK E 0 rfl rfl dX5_meetSea_88 ?_
    refine lv_iload_n hx hb dX5_meetSea_91 rfl (lv_at hl 3 rfl) ?_
    refine lv_iload_n hx hb dX5_meetSea_92 rfl (lv_at hl 0 rfl) ?_
    refine w_reti (runV_X (As := [.int x, .int (mn (-(((0 - (f_X2_height σ x)) * (gs σ 3)) / 4)) (gi σ 10 x))]) (rest := []) (q0 := 1) (n := 2) S hml hK (hZ.at E) (Cut.full E hA) (c_X2_takeOut l g ad lo ke fo ea σ x (mn (-(((0 - (f_X2_height σ x)) * (gs σ 3)) / 4)) (gi σ 10 x)) q_x _ _) (gi_wsV ml_X5_213 im_X2_takeOut sl_X2_takeOut in_X2 co_X2_takeOut) ⟨rfl, by decide +kernel, by decide +kernel, by decide +kernel⟩ ⟨Nat.le_of_ble_eq_true rfl, Nat.le_of_ble_eq_true rfl⟩ rfl rfl rfl hl.1 rfl (Nat.le_of_ble_eq_true rfl) dX5_meetSea_93 ⟨Nat.le_of_ble_eq_true rfl, Nat.le_of_ble_eq_true rfl⟩) (Cut.full E hA) E (fun r u H locs hp E => ?_)
    obtain ⟨rfl, rfl⟩ := hp
    have E : Ev g _ s.heap H locs (wsW g ad lo ke fo ea (f_X2_takeOut σ x (mn (-(((0 - (f_X2_height σ x)) * (gs σ 3)) / 4)) (gi σ 10 x))).2) := E
    refine lv_pop hx hb dX5_meetSea_96 rfl ?_
    refine lv_aload_n hx hb dX5_meetSea_97 rfl (lv_at hl 2 rfl) ?_
    refine wg_X5_35 (v := .ref (ad 4)) S hK E 0 rfl rfl dX5_meetSea_98 ?_
    refine wg_X5_147 (v := .ref (ad 28)) S hK E 4 rfl rfl dX5_meetSea_101 ?_
    refine lv_bipush (v := 7) hx hb dX5_meetSea_104 (by decide) ?_
    refine lv_dup2_11 hx hb dX5_meetSea_106 rfl rfl ?_
    refine w_lld (v := gl (f_X2_takeOut σ x (mn (-(((0 - (f_X2_height σ x)) * (gs σ 3)) / 4)) (gi σ 10 x))).2 28 7) S hK E 28 1 rfl rfl (show vp_in 7 9 by unfold vp_in; decide) rfl dX5_meetSea_107 ?_
    refine lv_iload_n hx hb dX5_meetSea_108 rfl (lv_at hl 0 rfl) ?_
    refine lv_i2l (v := ((mn (-(((0 - (f_X2_height σ x)) * (gs σ 3)) / 4)) (gi σ 10 x))).toInt64) hx hb dX5_meetSea_109 rfl ?_
    refine lv_ladd hx hb dX5_meetSea_110 ?_
    refine w_lst (w' := wsW g ad lo ke fo ea (sl (f_X2_takeOut σ x (mn (-(((0 - (f_X2_height σ x)) * (gs σ 3)) / 4)) (gi σ 10 x))).2 28 7 ((gl (f_X2_takeOut σ x (mn (-(((0 - (f_X2_height σ x)) * (gs σ 3)) / 4)) (gi σ 10 x))).2 28 7) + (((mn (-(((0 - (f_X2_height σ x)) * (gs σ 3)) / 4)) (gi σ 10 x))).toInt64)))) S hK E 28 1 rfl rfl (show vp_in 7 9 by unfold vp_in; decide) wset_28 dX5_meetSea_111 (fun H locs E => ?_)
    have hQ : f_X5_meetSea σ x = (sl (f_X2_takeOut σ x (mn (-(((0 - (f_X2_height σ x)) * (gs σ 3)) / 4)) (gi σ 10 x))).2 28 7 ((gl (f_X2_takeOut σ x (mn (-(((0 - (f_X2_height σ x)) * (gs σ 3)) / 4)) (gi σ 10 x))).2 28 7) + (((mn (-(((0 - (f_X2_height σ x)) * (gs σ 3)) / 4)) (gi σ 10 x))).toInt64))) := by
      unfold f_X5_meetSea; rw [if_pos c1]
    exact x_vret (sl (f_X2_takeOut σ x (mn (-(((0 - (f_X2_height σ x)) * (gs σ 3)) / 4)) (gi σ 10 x))).2 28 7 ((gl (f_X2_takeOut σ x (mn (-(((0 - (f_X2_height σ x)) * (gs σ 3)) / 4)) (gi σ 10 x))).2 28 7) + (((mn (-(((0 - (f_X2_height σ x)) * (gs σ 3)) / 4)) (gi σ 10 x))).toInt64))) S hr hlk hsz htt hK E dX5_meetSea_112 hQ.symm rfl ⟨Nat.le_of_ble_eq_true rfl, Nat.le_of_ble_eq_true rfl⟩ ⟨Nat.le_of_ble_eq_true rfl, Nat.le_of_ble_eq_true rfl⟩
  · have c1 : ¬ ((((0 - (f_X2_height σ x)) * (gs σ 3)) / 4) ≤ 0) := c1
    refine lv_aload_n hx hb dX5_meetSea_25 rfl (lv_at hl 1 rfl) ?_
    refine wg_X5_12 (v := .ref (ad 1)) S hK E 0 rfl rfl dX5_meetSea_26 ?_
    refine wg_X5_151 (v := .ref (ad 10)) S hK E 1 rfl rfl dX5_meetSea_29 ?_
    refine lv_iload_n hx hb dX5_meetSea_32 rfl (lv_at hl 2 rfl) ?_
    refine lv_dup2_11 hx hb dX5_meetSea_33 rfl rfl ?_
    refine w_ild (v := gi σ 10 x) S hK E 10 0 rfl rfl q_x rfl dX5_meetSea_34 ?_
    refine lv_iload_n hx hb dX5_meetSea_35 rfl (lv_at hl 0 rfl) ?_
    refine lv_iadd hx hb dX5_meetSea_36 ?_
    refine w_ist (w' := wsW g ad lo ke fo ea (si σ 10 x ((gi σ 10 x) + (((0 - (f_X2_height σ x)) * (gs σ 3)) / 4)))) S hK E 10 0 rfl rfl q_x wset_10 dX5_meetSea_37 (fun H locs E => ?_)
    refine lv_aload_n hx hb dX5_meetSea_38 rfl (lv_at hl 1 rfl) ?_
    refine wg_X5_12 (v := .ref (ad 1)) S hK E 0 rfl rfl dX5_meetSea_39 ?_
    refine wg_X5_160 (v := .ref (ad 11)) S hK E 1 rfl rfl dX5_meetSea_42 ?_
    refine lv_iload_n hx hb dX5_meetSea_45 rfl (lv_at hl 2 rfl) ?_
    refine lv_dup2_11 hx hb dX5_meetSea_46 rfl rfl ?_
    refine w_ild (v := gi σ 11 x) S hK E 11 0 rfl rfl q_x rfl dX5_meetSea_47 ?_
    refine lv_bipush (v := 35) hx hb dX5_meetSea_48 (by decide) ?_
    refine lv_iload_n hx hb dX5_meetSea_50 rfl (lv_at hl 0 rfl) ?_
    refine lv_imul hx hb dX5_meetSea_51 ?_
    refine lv_iadd hx hb dX5_meetSea_52 ?_
    refine w_ist (w' := wsW g ad lo ke fo ea (si (si σ 10 x ((gi σ 10 x) + (((0 - (f_X2_height σ x)) * (gs σ 3)) / 4))) 11 x ((gi σ 11 x) + (35 * (((0 - (f_X2_height σ x)) * (gs σ 3)) / 4))))) S hK E 11 0 rfl rfl q_x wset_11 dX5_meetSea_53 (fun H locs E => ?_)
    refine lv_aload_n hx hb dX5_meetSea_54 rfl (lv_at hl 1 rfl) ?_
    refine wg_X5_35 (v := .ref (ad 4)) S hK E 0 rfl rfl dX5_meetSea_55 ?_
    refine wg_X5_147 (v := .ref (ad 28)) S hK E 4 rfl rfl dX5_meetSea_58 ?_
    refine lv_bipush (v := 6) hx hb dX5_meetSea_61 (by decide) ?_
    refine lv_dup2_11 hx hb dX5_meetSea_63 rfl rfl ?_
    refine w_lld (v := gl σ 28 6) S hK E 28 1 rfl rfl (show vp_in 6 9 by unfold vp_in; decide) rfl dX5_meetSea_64 ?_
    refine lv_iload_n hx hb dX5_meetSea_65 rfl (lv_at hl 0 rfl) ?_
    refine lv_i2l (v := ((((0 - (f_X2_height σ x)) * (gs σ 3)) / 4)).toInt64) hx hb dX5_meetSea_66 rfl ?_
    refine lv_ladd hx hb dX5_meetSea_67 ?_
    refine w_lst (w' := wsW g ad lo ke fo ea (sl (si (si σ 10 x ((gi σ 10 x) + (((0 - (f_X2_height σ x)) * (gs σ 3)) / 4))) 11 x ((gi σ 11 x) + (35 * (((0 - (f_X2_height σ x)) * (gs σ 3)) / 4)))) 28 6 ((gl σ 28 6) + (((((0 - (f_X2_height σ x)) * (gs σ 3)) / 4)).toInt64)))) S hK E 28 1 rfl rfl (show vp_in 6 9 by unfold vp_in; decide) wset_28 dX5_meetSea_68 (fun H locs E => ?_)
    refine lv_goto (tgt := 112) hx hb dX5_meetSea_69 (by decide) ?_
    have hQ : f_X5_meetSea σ x = (sl (si (si σ 10 x ((gi σ 10 x) + (((0 - (f_X2_height σ x)) * (gs σ 3)) / 4))) 11 x ((gi σ 11 x) + (35 * (((0 - (f_X2_height σ x)) * (gs σ 3)) / 4)))) 28 6 ((gl σ 28 6) + (((((0 - (f_X2_height σ x)) * (gs σ 3)) / 4)).toInt64))) := by
      unfold f_X5_meetSea; rw [if_neg c1]
    exact x_vret (sl (si (si σ 10 x ((gi σ 10 x) + (((0 - (f_X2_height σ x)) * (gs σ 3)) / 4))) 11 x ((gi σ 11 x) + (35 * (((0 - (f_X2_height σ x)) * (gs σ 3)) / 4)))) 28 6 ((gl σ 28 6) + (((((0 - (f_X2_height σ x)) * (gs σ 3)) / 4)).toInt64))) S hr hlk hsz htt hK E dX5_meetSea_112 hQ.symm rfl ⟨Nat.le_of_ble_eq_true rfl, Nat.le_of_ble_eq_true rfl⟩ ⟨Nat.le_of_ble_eq_true rfl, Nat.le_of_ble_eq_true rfl⟩
end
section
/-! WHERE THE WORDS STAND (by program out of the tables) -/
theorem st_J7_fill_53178 : Cond.static yJ7_fill_53178 ∈ lw_g := lw_gi 92 (by decide +kernel) (by decide +kernel)
theorem co_J7_fill_53178 : Cond.code yJ7_fill_53178 cJ7_fill_53178 4 none ∈ lw_g := lw_gi 93 (by decide +kernel) (by decide +kernel)
theorem im_J5_init_d00df : Cond.instanceMethod yJ5_init_d00df ∈ lw_g := lw_gi 233 (by decide +kernel) (by decide +kernel)
theorem co_J5_init_d00df : Cond.code yJ5_init_d00df cJ5_init_d00df 2 none ∈ lw_g := lw_gi 234 (by decide +kernel) (by decide +kernel)
theorem ml_J5_3 : Cond.methodLink RJ5 3 objectInit ∈ lw_g := lw_gi 235 (by decide +kernel) (by decide +kernel)
theorem fl_J5_18 : Cond.fieldLink RJ5 18 "java/lang/String" "COMPACT_STRINGS" "Z" ∈ lw_g := lw_gi 236 (by decide +kernel) (by decide +kernel)
theorem ml_J5_26 : Cond.methodLink RJ5 26 yJ2_newBytesFor_77867 ∈ lw_g := lw_gi 238 (by decide +kernel) (by decide +kernel)
theorem fl_J5_15 : Cond.fieldLink RJ5 15 "java/lang/AbstractStringBuilder" "value" "[B" ∈ lw_g := lw_gi 245 (by decide +kernel) (by decide +kernel)
theorem fl_J5_22 : Cond.fieldLink RJ5 22 "java/lang/AbstractStringBuilder" "coder" "B" ∈ lw_g := lw_gi 246 (by decide +kernel) (by decide +kernel)
theorem fl_J0_1048 : Cond.fieldLink RJ0 1048 "java/lang/AbstractStringBuilder" "maybeLatin1" "Z" ∈ lw_g := lw_gi 247 (by decide +kernel) (by decide +kernel)
theorem fl_J5_79 : Cond.fieldLink RJ5 79 "java/lang/AbstractStringBuilder" "count" "I" ∈ lw_g := lw_gi 248 (by decide +kernel) (by decide +kernel)
theorem im_Jxc12de_init_da8c8 : Cond.instanceMethod yJxc12de_init_da8c8 ∈ lw_g := lw_gi 309 (by decide +kernel) (by decide +kernel)
theorem co_Jxc12de_init_da8c8 : Cond.code yJxc12de_init_da8c8 cJxc12de_init_da8c8 1 none ∈ lw_g := lw_gi 310 (by decide +kernel) (by decide +kernel)
theorem ml_Jxc12de_1 : Cond.methodLink RJxc12de 1 yJxa1e45_init_da8c8 ∈ lw_g := lw_gi 311 (by decide +kernel) (by decide +kernel)
theorem im_Jxa1e45_init_da8c8 : Cond.instanceMethod yJxa1e45_init_da8c8 ∈ lw_g := lw_gi 312 (by decide +kernel) (by decide +kernel)
theorem co_Jxa1e45_init_da8c8 : Cond.code yJxa1e45_init_da8c8 cJxa1e45_init_da8c8 1 none ∈ lw_g := lw_gi 313 (by decide +kernel) (by decide +kernel)
theorem ml_Jxa1e45_1 : Cond.methodLink RJxa1e45 1 objectInit ∈ lw_g := lw_gi 314 (by decide +kernel) (by decide +kernel)
theorem fl_Jxc12de_7 : Cond.fieldLink RJxc12de 7 "java/util/AbstractList" "modCount" "I" ∈ lw_g := lw_gi 321 (by decide +kernel) (by decide +kernel)
theorem im_J5_length_8abf5 : Cond.instanceMethod yJ5_length_8abf5 ∈ lw_g := lw_gi 354 (by decide +kernel) (by decide +kernel)
theorem co_J5_length_8abf5 : Cond.code yJ5_length_8abf5 cJ5_length_8abf5 1 (some .int) ∈ lw_g := lw_gi 355 (by decide +kernel) (by decide +kernel)
theorem st_J15_checkIndex_7cf53 : Cond.static yJ15_checkIndex_7cf53 ∈ lw_g := lw_gi 393 (by decide +kernel) (by decide +kernel)
theorem co_J15_checkIndex_7cf53 : Cond.code yJ15_checkIndex_7cf53 cJ15_checkIndex_7cf53 2 (some .int) ∈ lw_g := lw_gi 394 (by decide +kernel) (by decide +kernel)
theorem ml_J15_105 : Cond.methodLink RJ15 105 yJ3_checkIndex_8e157 ∈ lw_g := lw_gi 395 (by decide +kernel) (by decide +kernel)
theorem st_J3_checkIndex_8e157 : Cond.static yJ3_checkIndex_8e157 ∈ lw_g := lw_gi 396 (by decide +kernel) (by decide +kernel)
theorem co_J3_checkIndex_8e157 : Cond.code yJ3_checkIndex_8e157 cJ3_checkIndex_8e157 3 (some .int) ∈ lw_g := lw_gi 397 (by decide +kernel) (by decide +kernel)
theorem im_J5_append_3fe6f : Cond.instanceMethod yJ5_append_3fe6f ∈ lw_g := lw_gi 467 (by decide +kernel) (by decide +kernel)
theorem co_J5_append_3fe6f : Cond.code yJ5_append_3fe6f cJ5_append_3fe6f 2 (some (.object "java/lang/AbstractStringBuilder")) ∈ lw_g := lw_gi 468 (by decide +kernel) (by decide +kernel)
theorem ml_J5_100 : Cond.methodLink RJ5 100 yJ5_ensureCapacityInternal_d00df ∈ lw_g := lw_gi 469 (by decide +kernel) (by decide +kernel)
theorem im_J5_ensureCapacityInternal_d00df : Cond.instanceMethod yJ5_ensureCapacityInternal_d00df ∈ lw_g := lw_gi 471 (by decide +kernel) (by decide +kernel)
theorem co_J5_ensureCapacityInternal_d00df : Cond.code yJ5_ensureCapacityInternal_d00df cJ5_ensureCapacityInternal_d00df 3 none ∈ lw_g := lw_gi 472 (by decide +kernel) (by decide +kernel)
theorem ml_J5_104 : Cond.methodLink RJ5 104 yJ5_newCapacity_0f7a4 ∈ lw_g := lw_gi 473 (by decide +kernel) (by decide +kernel)
theorem im_J5_newCapacity_0f7a4 : Cond.instanceMethod yJ5_newCapacity_0f7a4 ∈ lw_g := lw_gi 475 (by decide +kernel) (by decide +kernel)
theorem co_J5_newCapacity_0f7a4 : Cond.code yJ5_newCapacity_0f7a4 cJ5_newCapacity_0f7a4 6 (some .int) ∈ lw_g := lw_gi 476 (by decide +kernel) (by decide +kernel)
theorem ml_J5_114 : Cond.methodLink RJ5 114 yJ8_newLength_cabcc ∈ lw_g := lw_gi 477 (by decide +kernel) (by decide +kernel)
theorem st_J8_newLength_cabcc : Cond.static yJ8_newLength_cabcc ∈ lw_g := lw_gi 478 (by decide +kernel) (by decide +kernel)
theorem co_J8_newLength_cabcc : Cond.code yJ8_newLength_cabcc cJ8_newLength_cabcc 4 (some .int) ∈ lw_g := lw_gi 479 (by decide +kernel) (by decide +kernel)
theorem ml_J8_194 : Cond.methodLink RJ8 194 Lib.Math.max.name ∈ lw_g := lw_gi 480 (by decide +kernel) (by decide +kernel)
theorem cn_J8_200 : Cond.constant RJ8 200 2147483639 ∈ lw_g := lw_gi 481 (by decide +kernel) (by decide +kernel)
theorem ml_J8_201 : Cond.methodLink RJ8 201 yJ8_hugeLength_7cf53 ∈ lw_g := lw_gi 482 (by decide +kernel) (by decide +kernel)
theorem st_J8_hugeLength_7cf53 : Cond.static yJ8_hugeLength_7cf53 ∈ lw_g := lw_gi 483 (by decide +kernel) (by decide +kernel)
theorem co_J8_hugeLength_7cf53 : Cond.code yJ8_hugeLength_7cf53 cJ8_hugeLength_7cf53 3 (some .int) ∈ lw_g := lw_gi 484 (by decide +kernel) (by decide +kernel)
theorem cn_J5_39 : Cond.constant RJ5 39 2147483647 ∈ lw_g := lw_gi 485 (by decide +kernel) (by decide +kernel)
theorem ml_J5_108 : Cond.methodLink RJ5 108 yJ7_copyOf_9075b ∈ lw_g := lw_gi 486 (by decide +kernel) (by decide +kernel)
theorem st_J7_copyOf_9075b : Cond.static yJ7_copyOf_9075b ∈ lw_g := lw_gi 487 (by decide +kernel) (by decide +kernel)
theorem co_J7_copyOf_9075b : Cond.code yJ7_copyOf_9075b cJ7_copyOf_9075b 3 (some (.array .byte)) ∈ lw_g := lw_gi 488 (by decide +kernel) (by decide +kernel)
theorem cl_J7_311 : Cond.classLink RJ7 311 "[B" ∈ lw_g := lw_gi 495 (by decide +kernel) (by decide +kernel)
theorem ml_J7_304 : Cond.methodLink RJ7 304 Lib.Math.min.name ∈ lw_g := lw_gi 496 (by decide +kernel) (by decide +kernel)
theorem ml_J7_150 : Cond.methodLink RJ7 150 arraycopyName ∈ lw_g := lw_gi 497 (by decide +kernel) (by decide +kernel)
theorem ml_J5_83 : Cond.methodLink RJ5 83 yJ5_isLatin1_aae02 ∈ lw_g := lw_gi 500 (by decide +kernel) (by decide +kernel)
theorem im_J5_isLatin1_aae02 : Cond.instanceMethod yJ5_isLatin1_aae02 ∈ lw_g := lw_gi 501 (by decide +kernel) (by decide +kernel)
theorem co_J5_isLatin1_aae02 : Cond.code yJ5_isLatin1_aae02 cJ5_isLatin1_aae02 1 (some .boolean) ∈ lw_g := lw_gi 504 (by decide +kernel) (by decide +kernel)
theorem ml_J5_191 : Cond.methodLink RJ5 191 yJ1_canEncode_fc78d ∈ lw_g := lw_gi 505 (by decide +kernel) (by decide +kernel)
theorem st_J1_canEncode_fc78d : Cond.static yJ1_canEncode_fc78d ∈ lw_g := lw_gi 506 (by decide +kernel) (by decide +kernel)
theorem co_J1_canEncode_fc78d : Cond.code yJ1_canEncode_fc78d cJ1_canEncode_fc78d 1 (some .boolean) ∈ lw_g := lw_gi 507 (by decide +kernel) (by decide +kernel)
theorem ml_J5_195 : Cond.methodLink RJ5 195 yJ5_inflate_da8c8 ∈ lw_g := lw_gi 508 (by decide +kernel) (by decide +kernel)
theorem im_J5_inflate_da8c8 : Cond.instanceMethod yJ5_inflate_da8c8 ∈ lw_g := lw_gi 510 (by decide +kernel) (by decide +kernel)
theorem co_J5_inflate_da8c8 : Cond.code yJ5_inflate_da8c8 cJ5_inflate_da8c8 2 none ∈ lw_g := lw_gi 511 (by decide +kernel) (by decide +kernel)
theorem ml_J5_125 : Cond.methodLink RJ5 125 yJ1_inflate_0e8fd ∈ lw_g := lw_gi 512 (by decide +kernel) (by decide +kernel)
theorem st_J1_inflate_0e8fd : Cond.static yJ1_inflate_0e8fd ∈ lw_g := lw_gi 513 (by decide +kernel) (by decide +kernel)
theorem co_J1_inflate_0e8fd : Cond.code yJ1_inflate_0e8fd cJ1_inflate_0e8fd 5 none ∈ lw_g := lw_gi 514 (by decide +kernel) (by decide +kernel)
theorem ml_J1_240 : Cond.methodLink RJ1 240 yJ2_inflate_0e8fd ∈ lw_g := lw_gi 515 (by decide +kernel) (by decide +kernel)
theorem st_J0_checkBoundsOffCount_cabcc : Cond.static yJ0_checkBoundsOffCount_cabcc ∈ lw_g := lw_gi 525 (by decide +kernel) (by decide +kernel)
theorem co_J0_checkBoundsOffCount_cabcc : Cond.code yJ0_checkBoundsOffCount_cabcc cJ0_checkBoundsOffCount_cabcc 3 (some .int) ∈ lw_g := lw_gi 526 (by decide +kernel) (by decide +kernel)
theorem fl_J0_1053 : Cond.fieldLink RJ0 1053 "jdk/internal/util/Preconditions" "SIOOBE_FORMATTER" "Ljava/util/function/BiFunction;" ∈ lw_g := lw_gi 527 (by decide +kernel) (by decide +kernel)
theorem ml_J0_1065 : Cond.methodLink RJ0 1065 yJ3_checkFromIndexSize_8c36e ∈ lw_g := lw_gi 529 (by decide +kernel) (by decide +kernel)
theorem st_J3_checkFromIndexSize_8c36e : Cond.static yJ3_checkFromIndexSize_8c36e ∈ lw_g := lw_gi 530 (by decide +kernel) (by decide +kernel)
theorem co_J3_checkFromIndexSize_8c36e : Cond.code yJ3_checkFromIndexSize_8c36e cJ3_checkFromIndexSize_8c36e 4 (some .int) ∈ lw_g := lw_gi 531 (by decide +kernel) (by decide +kernel)
theorem ml_J5_197 : Cond.methodLink RJ5 197 yJ2_putCharSB_b72d1 ∈ lw_g := lw_gi 541 (by decide +kernel) (by decide +kernel)
theorem st_J0_checkIndex_df160 : Cond.static yJ0_checkIndex_df160 ∈ lw_g := lw_gi 548 (by decide +kernel) (by decide +kernel)
theorem co_J0_checkIndex_df160 : Cond.code yJ0_checkIndex_df160 cJ0_checkIndex_df160 2 none ∈ lw_g := lw_gi 549 (by decide +kernel) (by decide +kernel)
theorem ml_J0_1059 : Cond.methodLink RJ0 1059 yJ3_checkIndex_8e157 ∈ lw_g := lw_gi 550 (by decide +kernel) (by decide +kernel)
theorem ib_J0 : Cond.instantiable RJ0 4 ∈ lw_g := lw_gi 697 (by decide +kernel) (by decide +kernel)
theorem st_J7_copyOf_1904c : Cond.static yJ7_copyOf_1904c ∈ lw_g := lw_gi 792 (by decide +kernel) (by decide +kernel)
theorem co_J7_copyOf_1904c : Cond.code yJ7_copyOf_1904c cJ7_copyOf_1904c 2 (some (.array (.object "java/lang/Object"))) ∈ lw_g := lw_gi 793 (by decide +kernel) (by decide +kernel)
theorem ml_J7_300 : Cond.methodLink RJ7 300 yJ7_copyOf_6403c ∈ lw_g := lw_gi 820 (by decide +kernel) (by decide +kernel)
theorem st_J7_copyOf_6403c : Cond.static yJ7_copyOf_6403c ∈ lw_g := lw_gi 821 (by decide +kernel) (by decide +kernel)
theorem co_J7_copyOf_6403c : Cond.code yJ7_copyOf_6403c cJ7_copyOf_6403c 4 (some (.array (.object "java/lang/Object"))) ∈ lw_g := lw_gi 822 (by decide +kernel) (by decide +kernel)
theorem cl_J7_110 : Cond.classLink RJ7 110 "[Ljava/lang/Object;" ∈ lw_g := lw_gi 823 (by decide +kernel) (by decide +kernel)
theorem cl_J7_2 : Cond.classLink RJ7 2 "java/lang/Object" ∈ lw_g := lw_gi 825 (by decide +kernel) (by decide +kernel)
theorem im_J5_charAt_5068e : Cond.instanceMethod yJ5_charAt_5068e ∈ lw_g := lw_gi 1058 (by decide +kernel) (by decide +kernel)
theorem co_J5_charAt_5068e : Cond.code yJ5_charAt_5068e cJ5_charAt_5068e 5 (some .char) ∈ lw_g := lw_gi 1059 (by decide +kernel) (by decide +kernel)
theorem ml_J5_138 : Cond.methodLink RJ5 138 Lib.Math.min.name ∈ lw_g := lw_gi 1060 (by decide +kernel) (by decide +kernel)
theorem ml_J5_144 : Cond.methodLink RJ5 144 yJ0_checkIndex_df160 ∈ lw_g := lw_gi 1061 (by decide +kernel) (by decide +kernel)
theorem ml_J5_148 : Cond.methodLink RJ5 148 yJ2_getChar_3b067 ∈ lw_g := lw_gi 1062 (by decide +kernel) (by decide +kernel)
theorem im_J0_indexOf_0f7a4 : Cond.instanceMethod yJ0_indexOf_0f7a4 ∈ lw_g := lw_gi 1074 (by decide +kernel) (by decide +kernel)
theorem sl_J0_indexOf_0f7a4 : Cond.selects RJ0 yJ0_indexOf_0f7a4 yJ0_indexOf_0f7a4 ∈ lw_g := lw_gi 1075 (by decide +kernel) (by decide +kernel)
theorem co_J0_indexOf_0f7a4 : Cond.code yJ0_indexOf_0f7a4 cJ0_indexOf_0f7a4 2 (some .int) ∈ lw_g := lw_gi 1076 (by decide +kernel) (by decide +kernel)
theorem ml_J0_633 : Cond.methodLink RJ0 633 yJ0_indexOf_7cf53 ∈ lw_g := lw_gi 1077 (by decide +kernel) (by decide +kernel)
theorem im_J0_indexOf_7cf53 : Cond.instanceMethod yJ0_indexOf_7cf53 ∈ lw_g := lw_gi 1078 (by decide +kernel) (by decide +kernel)
theorem sl_J0_indexOf_7cf53 : Cond.selects RJ0 yJ0_indexOf_7cf53 yJ0_indexOf_7cf53 ∈ lw_g := lw_gi 1079 (by decide +kernel) (by decide +kernel)
theorem co_J0_indexOf_7cf53 : Cond.code yJ0_indexOf_7cf53 cJ0_indexOf_7cf53 3 (some .int) ∈ lw_g := lw_gi 1080 (by decide +kernel) (by decide +kernel)
theorem ml_J0_492 : Cond.methodLink RJ0 492 yJ0_isLatin1_aae02 ∈ lw_g := lw_gi 1081 (by decide +kernel) (by decide +kernel)
theorem im_J0_isLatin1_aae02 : Cond.instanceMethod yJ0_isLatin1_aae02 ∈ lw_g := lw_gi 1082 (by decide +kernel) (by decide +kernel)
theorem sl_J0_isLatin1_aae02 : Cond.selects RJ0 yJ0_isLatin1_aae02 yJ0_isLatin1_aae02 ∈ lw_g := lw_gi 1083 (by decide +kernel) (by decide +kernel)
theorem co_J0_isLatin1_aae02 : Cond.code yJ0_isLatin1_aae02 cJ0_isLatin1_aae02 1 (some .boolean) ∈ lw_g := lw_gi 1084 (by decide +kernel) (by decide +kernel)
theorem fl_J0_38 : Cond.fieldLink RJ0 38 "java/lang/String" "COMPACT_STRINGS" "Z" ∈ lw_g := lw_gi 1085 (by decide +kernel) (by decide +kernel)
theorem ml_J0_505 : Cond.methodLink RJ0 505 yJ0_length_8abf5 ∈ lw_g := lw_gi 1086 (by decide +kernel) (by decide +kernel)
theorem im_J0_length_8abf5 : Cond.instanceMethod yJ0_length_8abf5 ∈ lw_g := lw_gi 1087 (by decide +kernel) (by decide +kernel)
theorem sl_J0_length_8abf5 : Cond.selects RJ0 yJ0_length_8abf5 yJ0_length_8abf5 ∈ lw_g := lw_gi 1088 (by decide +kernel) (by decide +kernel)
theorem co_J0_length_8abf5 : Cond.code yJ0_length_8abf5 cJ0_length_8abf5 1 (some .int) ∈ lw_g := lw_gi 1089 (by decide +kernel) (by decide +kernel)
theorem ml_J0_335 : Cond.methodLink RJ0 335 yJ0_coder_7d493 ∈ lw_g := lw_gi 1090 (by decide +kernel) (by decide +kernel)
theorem im_J0_coder_7d493 : Cond.instanceMethod yJ0_coder_7d493 ∈ lw_g := lw_gi 1091 (by decide +kernel) (by decide +kernel)
theorem sl_J0_coder_7d493 : Cond.selects RJ0 yJ0_coder_7d493 yJ0_coder_7d493 ∈ lw_g := lw_gi 1092 (by decide +kernel) (by decide +kernel)
theorem co_J0_coder_7d493 : Cond.code yJ0_coder_7d493 cJ0_coder_7d493 1 (some .byte) ∈ lw_g := lw_gi 1093 (by decide +kernel) (by decide +kernel)
theorem ml_J0_637 : Cond.methodLink RJ0 637 yJ1_indexOf_4cfef ∈ lw_g := lw_gi 1094 (by decide +kernel) (by decide +kernel)
theorem st_J1_indexOf_4cfef : Cond.static yJ1_indexOf_4cfef ∈ lw_g := lw_gi 1095 (by decide +kernel) (by decide +kernel)
theorem co_J1_indexOf_4cfef : Cond.code yJ1_indexOf_4cfef cJ1_indexOf_4cfef 4 (some .int) ∈ lw_g := lw_gi 1096 (by decide +kernel) (by decide +kernel)
theorem ml_J1_88 : Cond.methodLink RJ1 88 yJ1_canEncode_9a6ad ∈ lw_g := lw_gi 1097 (by decide +kernel) (by decide +kernel)
theorem st_J1_canEncode_9a6ad : Cond.static yJ1_canEncode_9a6ad ∈ lw_g := lw_gi 1098 (by decide +kernel) (by decide +kernel)
theorem co_J1_canEncode_9a6ad : Cond.code yJ1_canEncode_9a6ad cJ1_canEncode_9a6ad 1 (some .boolean) ∈ lw_g := lw_gi 1099 (by decide +kernel) (by decide +kernel)
theorem ml_J1_92 : Cond.methodLink RJ1 92 Lib.Math.max.name ∈ lw_g := lw_gi 1100 (by decide +kernel) (by decide +kernel)
theorem ml_J1_38 : Cond.methodLink RJ1 38 Lib.Math.min.name ∈ lw_g := lw_gi 1101 (by decide +kernel) (by decide +kernel)
theorem ml_J1_95 : Cond.methodLink RJ1 95 yJ1_indexOfChar_4cfef ∈ lw_g := lw_gi 1102 (by decide +kernel) (by decide +kernel)
theorem st_J1_indexOfChar_4cfef : Cond.static yJ1_indexOfChar_4cfef ∈ lw_g := lw_gi 1103 (by decide +kernel) (by decide +kernel)
theorem co_J1_indexOfChar_4cfef : Cond.code yJ1_indexOfChar_4cfef cJ1_indexOfChar_4cfef 6 (some .int) ∈ lw_g := lw_gi 1104 (by decide +kernel) (by decide +kernel)
theorem ml_J0_640 : Cond.methodLink RJ0 640 yJ2_indexOf_4cfef ∈ lw_g := lw_gi 1105 (by decide +kernel) (by decide +kernel)
theorem st_J0_checkBoundsBeginEnd_23922 : Cond.static yJ0_checkBoundsBeginEnd_23922 ∈ lw_g := lw_gi 1118 (by decide +kernel) (by decide +kernel)
theorem co_J0_checkBoundsBeginEnd_23922 : Cond.code yJ0_checkBoundsBeginEnd_23922 cJ0_checkBoundsBeginEnd_23922 3 none ∈ lw_g := lw_gi 1119 (by decide +kernel) (by decide +kernel)
theorem ml_J0_1062 : Cond.methodLink RJ0 1062 yJ3_checkFromToIndex_8c36e ∈ lw_g := lw_gi 1120 (by decide +kernel) (by decide +kernel)
theorem st_J3_checkFromToIndex_8c36e : Cond.static yJ3_checkFromToIndex_8c36e ∈ lw_g := lw_gi 1121 (by decide +kernel) (by decide +kernel)
theorem co_J3_checkFromToIndex_8c36e : Cond.code yJ3_checkFromToIndex_8c36e cJ3_checkFromToIndex_8c36e 4 (some .int) ∈ lw_g := lw_gi 1122 (by decide +kernel) (by decide +kernel)
theorem im_J5_append_cf1ce : Cond.instanceMethod yJ5_append_cf1ce ∈ lw_g := lw_gi 1370 (by decide +kernel) (by decide +kernel)
theorem co_J5_append_cf1ce : Cond.code yJ5_append_cf1ce cJ5_append_cf1ce 3 (some (.object "java/lang/AbstractStringBuilder")) ∈ lw_g := lw_gi 1371 (by decide +kernel) (by decide +kernel)
theorem ml_J5_204 : Cond.methodLink RJ5 204 yJ5_appendNull_278bc ∈ lw_g := lw_gi 1372 (by decide +kernel) (by decide +kernel)
theorem im_J5_appendNull_278bc : Cond.instanceMethod yJ5_appendNull_278bc ∈ lw_g := lw_gi 1374 (by decide +kernel) (by decide +kernel)
theorem co_J5_appendNull_278bc : Cond.code yJ5_appendNull_278bc cJ5_appendNull_278bc 3 (some (.object "java/lang/AbstractStringBuilder")) ∈ lw_g := lw_gi 1375 (by decide +kernel) (by decide +kernel)
theorem ml_J5_226 : Cond.methodLink RJ5 226 yJ2_putCharsAt_cd4e5 ∈ lw_g := lw_gi 1376 (by decide +kernel) (by decide +kernel)
theorem ml_J5_32 : Cond.methodLink RJ5 32 yJ0_length_8abf5 ∈ lw_g := lw_gi 1379 (by decide +kernel) (by decide +kernel)
theorem ml_J5_208 : Cond.methodLink RJ5 208 yJ5_putStringAt_47b60 ∈ lw_g := lw_gi 1380 (by decide +kernel) (by decide +kernel)
theorem im_J5_putStringAt_47b60 : Cond.instanceMethod yJ5_putStringAt_47b60 ∈ lw_g := lw_gi 1382 (by decide +kernel) (by decide +kernel)
theorem co_J5_putStringAt_47b60 : Cond.code yJ5_putStringAt_47b60 cJ5_putStringAt_47b60 3 none ∈ lw_g := lw_gi 1383 (by decide +kernel) (by decide +kernel)
theorem ml_J5_397 : Cond.methodLink RJ5 397 yJ5_inflateIfNeededFor_a7421 ∈ lw_g := lw_gi 1384 (by decide +kernel) (by decide +kernel)
theorem im_J5_inflateIfNeededFor_a7421 : Cond.instanceMethod yJ5_inflateIfNeededFor_a7421 ∈ lw_g := lw_gi 1386 (by decide +kernel) (by decide +kernel)
theorem co_J5_inflateIfNeededFor_a7421 : Cond.code yJ5_inflateIfNeededFor_a7421 cJ5_inflateIfNeededFor_a7421 2 none ∈ lw_g := lw_gi 1387 (by decide +kernel) (by decide +kernel)
theorem ml_J5_40 : Cond.methodLink RJ5 40 yJ0_coder_7d493 ∈ lw_g := lw_gi 1388 (by decide +kernel) (by decide +kernel)
theorem ml_J5_399 : Cond.methodLink RJ5 399 yJ0_getBytes_840e7 ∈ lw_g := lw_gi 1389 (by decide +kernel) (by decide +kernel)
theorem im_J0_getBytes_840e7 : Cond.instanceMethod yJ0_getBytes_840e7 ∈ lw_g := lw_gi 1390 (by decide +kernel) (by decide +kernel)
theorem sl_J0_getBytes_840e7 : Cond.selects RJ0 yJ0_getBytes_840e7 yJ0_getBytes_840e7 ∈ lw_g := lw_gi 1391 (by decide +kernel) (by decide +kernel)
theorem co_J0_getBytes_840e7 : Cond.code yJ0_getBytes_840e7 cJ0_getBytes_840e7 4 none ∈ lw_g := lw_gi 1392 (by decide +kernel) (by decide +kernel)
theorem ml_J0_212 : Cond.methodLink RJ0 212 arraycopyName ∈ lw_g := lw_gi 1393 (by decide +kernel) (by decide +kernel)
theorem ml_J0_106 : Cond.methodLink RJ0 106 yJ1_inflate_0e8fd ∈ lw_g := lw_gi 1394 (by decide +kernel) (by decide +kernel)
theorem im_J5_append_c97b9 : Cond.instanceMethod yJ5_append_c97b9 ∈ lw_g := lw_gi 1400 (by decide +kernel) (by decide +kernel)
theorem co_J5_append_c97b9 : Cond.code yJ5_append_c97b9 cJ5_append_c97b9 4 (some (.object "java/lang/AbstractStringBuilder")) ∈ lw_g := lw_gi 1401 (by decide +kernel) (by decide +kernel)
theorem ml_J5_245 : Cond.methodLink RJ5 245 yJ6_stringSize_0f7a4 ∈ lw_g := lw_gi 1402 (by decide +kernel) (by decide +kernel)
theorem ml_J5_248 : Cond.methodLink RJ5 248 yJ6_getChars_ba4f3 ∈ lw_g := lw_gi 1405 (by decide +kernel) (by decide +kernel)
theorem ml_J5_251 : Cond.methodLink RJ5 251 yJ2_getChars_46870 ∈ lw_g := lw_gi 1412 (by decide +kernel) (by decide +kernel)
theorem im_J0_init_81219 : Cond.instanceMethod yJ0_init_81219 ∈ lw_g := lw_gi 1427 (by decide +kernel) (by decide +kernel)
theorem co_J0_init_81219 : Cond.code yJ0_init_81219 cJ0_init_81219 2 none ∈ lw_g := lw_gi 1428 (by decide +kernel) (by decide +kernel)
theorem ml_J0_489 : Cond.methodLink RJ0 489 yJ0_init_db425 ∈ lw_g := lw_gi 1429 (by decide +kernel) (by decide +kernel)
theorem im_J0_init_db425 : Cond.instanceMethod yJ0_init_db425 ∈ lw_g := lw_gi 1430 (by decide +kernel) (by decide +kernel)
theorem co_J0_init_db425 : Cond.code yJ0_init_db425 cJ0_init_db425 5 none ∈ lw_g := lw_gi 1431 (by decide +kernel) (by decide +kernel)
theorem ml_J0_1 : Cond.methodLink RJ0 1 objectInit ∈ lw_g := lw_gi 1432 (by decide +kernel) (by decide +kernel)
theorem ml_J0_552 : Cond.methodLink RJ0 552 yJ5_getValue_6d5f1 ∈ lw_g := lw_gi 1433 (by decide +kernel) (by decide +kernel)
theorem im_J5_getValue_6d5f1 : Cond.instanceMethod yJ5_getValue_6d5f1 ∈ lw_g := lw_gi 1434 (by decide +kernel) (by decide +kernel)
theorem co_J5_getValue_6d5f1 : Cond.code yJ5_getValue_6d5f1 cJ5_getValue_6d5f1 1 (some (.array .byte)) ∈ lw_g := lw_gi 1437 (by decide +kernel) (by decide +kernel)
theorem ml_J0_549 : Cond.methodLink RJ0 549 yJ5_length_8abf5 ∈ lw_g := lw_gi 1438 (by decide +kernel) (by decide +kernel)
theorem ml_J0_1047 : Cond.methodLink RJ0 1047 yJ5_isLatin1_aae02 ∈ lw_g := lw_gi 1439 (by decide +kernel) (by decide +kernel)
theorem ml_J0_54 : Cond.methodLink RJ0 54 yJ7_copyOfRange_39247 ∈ lw_g := lw_gi 1440 (by decide +kernel) (by decide +kernel)
theorem st_J7_copyOfRange_39247 : Cond.static yJ7_copyOfRange_39247 ∈ lw_g := lw_gi 1441 (by decide +kernel) (by decide +kernel)
theorem co_J7_copyOfRange_39247 : Cond.code yJ7_copyOfRange_39247 cJ7_copyOfRange_39247 3 (some (.array .byte)) ∈ lw_g := lw_gi 1442 (by decide +kernel) (by decide +kernel)
theorem ml_J7_339 : Cond.methodLink RJ7 339 yJ7_copyOfRangeByte_39247 ∈ lw_g := lw_gi 1443 (by decide +kernel) (by decide +kernel)
theorem st_J7_copyOfRangeByte_39247 : Cond.static yJ7_copyOfRangeByte_39247 ∈ lw_g := lw_gi 1444 (by decide +kernel) (by decide +kernel)
theorem co_J7_copyOfRangeByte_39247 : Cond.code yJ7_copyOfRangeByte_39247 cJ7_copyOfRangeByte_39247 5 (some (.array .byte)) ∈ lw_g := lw_gi 1445 (by decide +kernel) (by decide +kernel)
theorem ml_J7_343 : Cond.methodLink RJ7 343 yJ7_checkLength_df160 ∈ lw_g := lw_gi 1446 (by decide +kernel) (by decide +kernel)
theorem st_J7_checkLength_df160 : Cond.static yJ7_checkLength_df160 ∈ lw_g := lw_gi 1447 (by decide +kernel) (by decide +kernel)
theorem co_J7_checkLength_df160 : Cond.code yJ7_checkLength_df160 cJ7_checkLength_df160 2 none ∈ lw_g := lw_gi 1448 (by decide +kernel) (by decide +kernel)
theorem cl_J7_43 : Cond.classLink RJ7 43 "java/lang/IllegalArgumentException" ∈ lw_g := lw_gi 1449 (by decide +kernel) (by decide +kernel)
theorem cl_J7_45 : Cond.classLink RJ7 45 RJ4 ∈ lw_g := lw_gi 1450 (by decide +kernel) (by decide +kernel)
theorem ml_J7_47 : Cond.methodLink RJ7 47 yJ4_init_da8c8 ∈ lw_g := lw_gi 1451 (by decide +kernel) (by decide +kernel)
theorem ml_J7_54 : Cond.methodLink RJ7 54 yJ4_append_bf812 ∈ lw_g := lw_gi 1452 (by decide +kernel) (by decide +kernel)
theorem ml_J7_50 : Cond.methodLink RJ7 50 yJ4_append_15ec4 ∈ lw_g := lw_gi 1454 (by decide +kernel) (by decide +kernel)
theorem ml_J7_61 : Cond.methodLink RJ7 61 yJ4_toString_0e30d ∈ lw_g := lw_gi 1455 (by decide +kernel) (by decide +kernel)
theorem ml_J0_1051 : Cond.methodLink RJ0 1051 yJ2_compress_39247 ∈ lw_g := lw_gi 1457 (by decide +kernel) (by decide +kernel)
theorem ml_J0_47 : Cond.methodLink RJ0 47 yJ2_coderFromArrayLen_85cad ∈ lw_g := lw_gi 1464 (by decide +kernel) (by decide +kernel)
theorem fl_J0_9 : Cond.fieldLink RJ0 9 "java/lang/String" "value" "[B" ∈ lw_g := lw_gi 1467 (by decide +kernel) (by decide +kernel)
theorem fl_J0_15 : Cond.fieldLink RJ0 15 "java/lang/String" "coder" "B" ∈ lw_g := lw_gi 1468 (by decide +kernel) (by decide +kernel)
section FROWS
variable {p : Program} {l : Launch} {e : Env} {R : Room} {s : State} {m : MethodId} {args : Array Value} {below : List Frame} {meth : Method} {c : Code} {H : Heap} {locs : List Loc} {cells slots : Nat} {Q : State → Prop}
variable {cc : ByteArray} {pc : Nat} {ls : Array Slot} {rest : List Value} {g : Gm} {A : Nat → Prop} {H0 : Heap} {ws : va_W}
theorem wg_J5_15 {a : Nat} {fs : List Value} {v : Value} (S : Sta p c cc s args RJ5 m) (hK : va_K g.1 vwC (tysG g) s) (E : Ev g A H0 H locs ws) (q0 : Nat) (he : ws[q0]? = some (a, .inr (7, fs))) (hv : fs[0]? = some v) (hdg : decode cc pc = .ok (.getfield 15, 3)) (kk : W p l e R s m args below meth c H locs cells slots Q (F0 m (pc + 3) ls (v :: rest))) : W p l e R s m args below meth c H locs cells slots Q (F0 m pc ls (.ref a :: rest)) := w_get (T := TJ4) (N := 4) S hK E fw_J4 he rfl (by decide) fl_J5_15 rfl hv hdg kk
theorem wp_J5_15 {a : Nat} {fs : List Value} {v : Value} {w' : va_W} (S : Sta p c cc s args RJ5 m) (hK : va_K g.1 vwC (tysG g) s) (E : Ev g A H0 H locs ws) (q0 : Nat) (he : ws[q0]? = some (a, .inr (7, fs))) (hn : narrow (tyJ4 0) v = v) (hfit : fits (tyJ4 0) v = true) (hl : 0 < fs.length) (hw : ws.set q0 (a, .inr (7, fs.set 0 v)) = w') (hdg : decode cc pc = .ok (.putfield 15, 3)) (kk : ∀ (H1 : Heap) (locs1 : List Loc), Ev g A H0 H1 locs1 w' → W p l e R s m args below meth c H1 locs1 cells slots Q (F0 m (pc + 3) ls rest)) : W p l e R s m args below meth c H locs cells slots Q (F0 m pc ls (v :: .ref a :: rest)) := w_put (T := TJ4) (N := 4) S hK E fw_J4 tyJ4 tyJ4_ok nmJ4 he rfl (by decide) fl_J5_15 rfl rfl rfl hn hfit hl hw hdg kk
theorem wg_J5_22 {a : Nat} {fs : List Value} {v : Value} (S : Sta p c cc s args RJ5 m) (hK : va_K g.1 vwC (tysG g) s) (E : Ev g A H0 H locs ws) (q0 : Nat) (he : ws[q0]? = some (a, .inr (7, fs))) (hv : fs[1]? = some v) (hdg : decode cc pc = .ok (.getfield 22, 3)) (kk : W p l e R s m args below meth c H locs cells slots Q (F0 m (pc + 3) ls (v :: rest))) : W p l e R s m args below meth c H locs cells slots Q (F0 m pc ls (.ref a :: rest)) := w_get (T := TJ4) (N := 4) S hK E fw_J4 he rfl (by decide) fl_J5_22 rfl hv hdg kk
theorem wp_J5_22 {a : Nat} {fs : List Value} {v : Value} {w' : va_W} (S : Sta p c cc s args RJ5 m) (hK : va_K g.1 vwC (tysG g) s) (E : Ev g A H0 H locs ws) (q0 : Nat) (he : ws[q0]? = some (a, .inr (7, fs))) (hn : narrow (tyJ4 1) v = v) (hfit : fits (tyJ4 1) v = true) (hl : 1 < fs.length) (hw : ws.set q0 (a, .inr (7, fs.set 1 v)) = w') (hdg : decode cc pc = .ok (.putfield 22, 3)) (kk : ∀ (H1 : Heap) (locs1 : List Loc), Ev g A H0 H1 locs1 w' → W p l e R s m args below meth c H1 locs1 cells slots Q (F0 m (pc + 3) ls rest)) : W p l e R s m args below meth c H locs cells slots Q (F0 m pc ls (v :: .ref a :: rest)) := w_put (T := TJ4) (N := 4) S hK E fw_J4 tyJ4 tyJ4_ok nmJ4 he rfl (by decide) fl_J5_22 rfl rfl rfl hn hfit hl hw hdg kk
theorem wg_J0_1048 {a : Nat} {fs : List Value} {v : Value} (S : Sta p c cc s args RJ0 m) (hK : va_K g.1 vwC (tysG g) s) (E : Ev g A H0 H locs ws) (q0 : Nat) (he : ws[q0]? = some (a, .inr (7, fs))) (hv : fs[2]? = some v) (hdg : decode cc pc = .ok (.getfield 1048, 3)) (kk : W p l e R s m args below meth c H locs cells slots Q (F0 m (pc + 3) ls (v :: rest))) : W p l e R s m args below meth c H locs cells slots Q (F0 m pc ls (.ref a :: rest)) := w_get (T := TJ4) (N := 4) S hK E fw_J4 he rfl (by decide) fl_J0_1048 rfl hv hdg kk
theorem wp_J0_1048 {a : Nat} {fs : List Value} {v : Value} {w' : va_W} (S : Sta p c cc s args RJ0 m) (hK : va_K g.1 vwC (tysG g) s) (E : Ev g A H0 H locs ws) (q0 : Nat) (he : ws[q0]? = some (a, .inr (7, fs))) (hn : narrow (tyJ4 2) v = v) (hfit : fits (tyJ4 2) v = true) (hl : 2 < fs.length) (hw : ws.set q0 (a, .inr (7, fs.set 2 v)) = w') (hdg : decode cc pc = .ok (.putfield 1048, 3)) (kk : ∀ (H1 : Heap) (locs1 : List Loc), Ev g A H0 H1 locs1 w' → W p l e R s m args below meth c H1 locs1 cells slots Q (F0 m (pc + 3) ls rest)) : W p l e R s m args below meth c H locs cells slots Q (F0 m pc ls (v :: .ref a :: rest)) := w_put (T := TJ4) (N := 4) S hK E fw_J4 tyJ4 tyJ4_ok nmJ4 he rfl (by decide) fl_J0_1048 rfl rfl rfl hn hfit hl hw hdg kk
theorem wg_J5_79 {a : Nat} {fs : List Value} {v : Value} (S : Sta p c cc s args RJ5 m) (hK : va_K g.1 vwC (tysG g) s) (E : Ev g A H0 H locs ws) (q0 : Nat) (he : ws[q0]? = some (a, .inr (7, fs))) (hv : fs[3]? = some v) (hdg : decode cc pc = .ok (.getfield 79, 3)) (kk : W p l e R s m args below meth c H locs cells slots Q (F0 m (pc + 3) ls (v :: rest))) : W p l e R s m args below meth c H locs cells slots Q (F0 m pc ls (.ref a :: rest)) := w_get (T := TJ4) (N := 4) S hK E fw_J4 he rfl (by decide) fl_J5_79 rfl hv hdg kk
theorem wp_J5_79 {a : Nat} {fs : List Value} {v : Value} {w' : va_W} (S : Sta p c cc s args RJ5 m) (hK : va_K g.1 vwC (tysG g) s) (E : Ev g A H0 H locs ws) (q0 : Nat) (he : ws[q0]? = some (a, .inr (7, fs))) (hn : narrow (tyJ4 3) v = v) (hfit : fits (tyJ4 3) v = true) (hl : 3 < fs.length) (hw : ws.set q0 (a, .inr (7, fs.set 3 v)) = w') (hdg : decode cc pc = .ok (.putfield 79, 3)) (kk : ∀ (H1 : Heap) (locs1 : List Loc), Ev g A H0 H1 locs1 w' → W p l e R s m args below meth c H1 locs1 cells slots Q (F0 m (pc + 3) ls rest)) : W p l e R s m args below meth c H locs cells slots Q (F0 m pc ls (v :: .ref a :: rest)) := w_put (T := TJ4) (N := 4) S hK E fw_J4 tyJ4 tyJ4_ok nmJ4 he rfl (by decide) fl_J5_79 rfl rfl rfl hn hfit hl hw hdg kk
theorem wg_Jxc12de_7 {a : Nat} {fs : List Value} {v : Value} (S : Sta p c cc s args RJxc12de m) (hK : va_K g.1 vwC (tysG g) s) (E : Ev g A H0 H locs ws) (q0 : Nat) (he : ws[q0]? = some (a, .inr (8, fs))) (hv : fs[0]? = some v) (hdg : decode cc pc = .ok (.getfield 7, 3)) (kk : W p l e R s m args below meth c H locs cells slots Q (F0 m (pc + 3) ls (v :: rest))) : W p l e R s m args below meth c H locs cells slots Q (F0 m pc ls (.ref a :: rest)) := w_get (T := TJx4a65c) (N := 3) S hK E fw_Jx4a65c he rfl (by decide) fl_Jxc12de_7 rfl hv hdg kk
theorem wp_Jxc12de_7 {a : Nat} {fs : List Value} {v : Value} {w' : va_W} (S : Sta p c cc s args RJxc12de m) (hK : va_K g.1 vwC (tysG g) s) (E : Ev g A H0 H locs ws) (q0 : Nat) (he : ws[q0]? = some (a, .inr (8, fs))) (hn : narrow (tyJx4a65c 0) v = v) (hfit : fits (tyJx4a65c 0) v = true) (hl : 0 < fs.length) (hw : ws.set q0 (a, .inr (8, fs.set 0 v)) = w') (hdg : decode cc pc = .ok (.putfield 7, 3)) (kk : ∀ (H1 : Heap) (locs1 : List Loc), Ev g A H0 H1 locs1 w' → W p l e R s m args below meth c H1 locs1 cells slots Q (F0 m (pc + 3) ls rest)) : W p l e R s m args below meth c H locs cells slots Q (F0 m pc ls (v :: .ref a :: rest)) := w_put (T := TJx4a65c) (N := 3) S hK E fw_Jx4a65c tyJx4a65c tyJx4a65c_ok nmJx4a65c he rfl (by decide) fl_Jxc12de_7 rfl rfl rfl hn hfit hl hw hdg kk
end FROWS
end
section
/-! CALLS, further: inherited methods, a superclass's own, answers that are references; rows of bytes -/
def MXr {S : Type} (l : Launch) (g : Gm) (y : MethodName) (cc : ByteArray) (maxL : Nat) (rt : FieldType) (rm : Room) (As : List Value) (ws : va_W) (post : S → Prop) (adr : S → Nat) (wf : S → va_W) (kx : S → Nat × Nat) : Prop := ∀ sz tt : Nat, Met l y (wsY y cc maxL (some rt)) rm (va_Pc As (PreX g ws sz tt)) (va_Qr post (fun u a t => a = adr u ∧ AtX g (va_A ws sz) wf kx sz tt u t) (va_A ws sz)) rm.cells rm.slots (va_A ws sz)
section CALLS2
variable {p : Program} {l : Launch} {e : Env} {R : Room} {s : State} {m : MethodId} {args : Array Value} {below : List Frame} {meth : Method} {c : Code} {H : Heap} {locs : List Loc} {cells slots : Nat} {Q : State → Prop}
variable {cc : ByteArray} {pc : Nat} {ls : Array Slot} {rest st0 : List Value} {g : Gm} {A : Nat → Prop} {H0 : Heap} {ws wc wr : va_W} {own C : String} {nL : Nat}
theorem runU_X {x y : MethodName} {owner : String} {cb : ByteArray} {mL n idx b : Nat} {ret : Option FieldType} {rm : Room} {Qc : Array Value → State → Outcome → State → Prop} {As : List Value} {ci q0 : Nat} {fs : List Value} {T : u_T} {N : Nat}
    (S : Sta p c cc s args own m) (hml : c.maxLocals = nL) (hK : va_K g.1 vwC (tysG g) s) (hZ : Zs g A s H) (hc : Cut g A H wc wr)
    (hM : Met l y (wsY y cb mL ret) rm (va_Pc (.ref b :: As) (PreX g wc H.size (tot H))) Qc rm.cells rm.slots (va_A wc H.size))
    (h1 : Cond.methodLink own idx x ∈ lw_g) (h2 : Cond.sameMethod x.cls owner x.name x.desc ∈ lw_g) (h3 : Cond.selects C x y ∈ lw_g) (h4 : Cond.instanceMethod y ∈ lw_g) (h5 : Cond.initialized y.cls ∈ lw_g) (h6 : Cond.code y cb mL ret ∈ lw_g)
    (hyx : y = ⟨owner, x.name, x.desc⟩) (hd : owner ≠ "java/lang/invoke/MethodHandle" ∧ owner ≠ "java/lang/invoke/VarHandle" ∧ (parseMethodDescriptor x.desc).map (fun d => d.parameters.length) = some n)
    (hR : rm.frames + 1 ≤ R.frames ∧ 8 + (mL + 11) + rm.locals ≤ R.locals) (hr : wc[q0]? = some (b, .inr (ci, fs))) (hci : vwC[ci]? = some (C, T, N)) (hn : As.length = n) (hls : ls.size = nL) (hst : st0 = As.reverse ++ .ref b :: rest) (hw : (rest.map fun v => v.category).sum ≤ 8) (hdg : decode cc pc = .ok (.invokevirtual idx, 3)) (hf : cells + rm.cells ≤ R.cells ∧ slots + rm.slots ≤ R.slots) :
    va_Run p l e R s m args below meth c H locs cells slots rm.cells rm.slots (F0 m pc ls st0) rest (Qc (Value.ref b :: As).toArray) (va_A wc H.size) := by
  subst hst
  have hg : GoodIn lw_g (va_wsU own idx C owner x y (wsY y cb mL ret)) := by
    intro w hw
    have hm : w ∈ lw_g := by
      rcases List.mem_append.mp hw with h | h
      · simp only [List.mem_cons, List.not_mem_nil, or_false] at h
        rcases h with rfl | rfl | rfl | rfl | rfl <;> assumption
      · exact (gi_Y h6 w h).1
    exact ⟨hm, good_of_word (lw_gg w hm)⟩
  exact va_runU (As := As) (rest := rest) ⟨S.1, S.2.1, hml, S.2.2.2, S.2.2.1⟩ hM (va_cwU n S.2.2.1 hg rfl rfl rfl hyx hd hR) ⟨PreX.blind, va_recv hK hc.1 hci hr, fun U hU hW => ⟨rfl, by rw [hU], by rw [hU], by rw [hU]; exact hc.1, va_K.moved hW.alike hK, hc.2.1, by rw [hU]; exact (hZ.narrow hc.2.2.1).moved hW.alike⟩⟩ rfl hn hls rfl (lv_room hw) hdg hf
theorem runSU_X {y : MethodName} {cb : ByteArray} {mL n idx b : Nat} {ret : Option FieldType} {rm : Room} {Qc : Array Value → State → Outcome → State → Prop} {As : List Value} {ci q0 : Nat} {fs : List Value} {T : u_T} {N : Nat}
    (S : Sta p c cc s args own m) (hml : c.maxLocals = nL) (hK : va_K g.1 vwC (tysG g) s) (hZ : Zs g A s H) (hc : Cut g A H wc wr)
    (hM : Met l y (wsY y cb mL ret) rm (va_Pc (.ref b :: As) (PreX g wc H.size (tot H))) Qc rm.cells rm.slots (va_A wc H.size))
    (h1 : Cond.methodLink own idx y ∈ lw_g) (h2 : Cond.sameMethod y.cls y.cls y.name y.desc ∈ lw_g) (h3 : Cond.superclass own y.cls ∈ lw_g) (h4 : Cond.instanceMethod y ∈ lw_g) (h5 : Cond.initialized y.cls ∈ lw_g) (h6 : Cond.code y cb mL ret ∈ lw_g)
    (hd : y.name ≠ "<init>" ∧ (parseMethodDescriptor y.desc).map (fun d => d.parameters.length) = some n)
    (hR : rm.frames + 1 ≤ R.frames ∧ 8 + (mL + 11) + rm.locals ≤ R.locals) (hr : wc[q0]? = some (b, .inr (ci, fs))) (hci : vwC[ci]? = some (C, T, N)) (hn : As.length = n) (hls : ls.size = nL) (hst : st0 = As.reverse ++ .ref b :: rest) (hw : (rest.map fun v => v.category).sum ≤ 8) (hdg : decode cc pc = .ok (.invokespecial idx, 3)) (hf : cells + rm.cells ≤ R.cells ∧ slots + rm.slots ≤ R.slots) :
    va_Run p l e R s m args below meth c H locs cells slots rm.cells rm.slots (F0 m pc ls st0) rest (Qc (Value.ref b :: As).toArray) (va_A wc H.size) := by
  subst hst
  have hg : GoodIn lw_g (va_wsSU own idx y (wsY y cb mL ret)) := by
    intro w hw
    have hm : w ∈ lw_g := by
      rcases List.mem_append.mp hw with h | h
      · simp only [List.mem_cons, List.not_mem_nil, or_false] at h
        rcases h with rfl | rfl | rfl | rfl | rfl <;> assumption
      · exact (gi_Y h6 w h).1
    exact ⟨hm, good_of_word (lw_gg w hm)⟩
  exact va_runSU (As := As) (rest := rest) (hK.1 ci _ hci).2 ⟨S.1, S.2.1, hml, S.2.2.2, S.2.2.1⟩ hM (va_cwSU n S.2.2.1 hg rfl rfl rfl hd hR) ⟨PreX.blind, va_recv hK hc.1 hci hr, fun U hU hW => ⟨rfl, by rw [hU], by rw [hU], by rw [hU]; exact hc.1, va_K.moved hW.alike hK, hc.2.1, by rw [hU]; exact (hZ.narrow hc.2.2.1).moved hW.alike⟩⟩ rfl hn hls rfl (lv_room hw) hdg hf
theorem w_retr {S : Type} {post : S → Prop} {adr : S → Nat} {wf : S → va_W} {kx : S → Nat × Nat} {a : Array Value} {mc ms : Nat}
    (hr : va_Run p l e R s m args below meth c H locs cells slots mc ms (F0 m pc ls st0) rest (va_Qr post (fun u a t => a = adr u ∧ AtX g (va_A wc H.size) wf kx H.size (tot H) u t) (va_A wc H.size) a) (va_A wc H.size)) (hc : Cut g A H wc wr) (E : Ev g A H0 H locs ws)
    (kk : ∀ (u : S) (H1 : Heap) (locs1 : List Loc), post u → Ev g A H0 H1 locs1 (wr ++ wf u) → W p l e R s m args below meth c H1 locs1 (cells + (kx u).1) (slots + (kx u).2) Q (F0 m (pc + 3) ls (.ref (adr u) :: rest))) : W p l e R s m args below meth c H locs cells slots Q (F0 m pc ls st0) := by
  refine W.know (fun g1 g2 _ => ?_)
  refine va_callr hr E.2.2 (fun q _ h => hc.2.2.1 q h) hc.2.2.1 (fun u ra t H1 locs1 ht hvm hw hB hz1 hk1 hS => ?_)
  obtain ⟨rfl, hP1, -, hD1, n1, n2⟩ := hB
  rw [ht] at hP1 n1 n2
  obtain ⟨hP, hD⟩ := hc.2.2.2 _ H1 hk1 hP1 hD1
  exact W.tight (by omega) (by omega) (kk u H1 locs1 hw ⟨hP, hD, hS⟩)
theorem x_aret {S : Type} {post : S → Prop} {adr : S → Nat} {wf : S → va_W} {kx : S → Nat × Nat} {sz tt mc ms a : Nat} {rt : FieldType} {w0 : va_W} (u : S) (S0 : Sta p c cc s args own m) (hr : meth.sig.returnType = some rt) (hrt : (∃ n, rt = .object n) ∨ ∃ t, rt = .array t) (hlocks : meth.locks = false) (hsz : s.heap.size = sz) (htt : tot s.heap = tt) (hK : va_K g.1 vwC (tysG g) s) (E : Ev g (va_A w0 sz) s.heap H locs ws) (hdg : decode cc pc = .ok (.areturn, 1)) (hp : post u) (ha : a = adr u) (hw : ws = wf u) (hk : cells ≤ (kx u).1 ∧ slots ≤ (kx u).2) (hm : cells ≤ mc ∧ slots ≤ ms) :
    W p l e R s m args below meth c H locs cells slots (MQ below (va_Qr post (fun u a t => a = adr u ∧ AtX g (va_A w0 sz) wf kx sz tt u t) (va_A w0 sz)) args s mc ms (va_A w0 sz)) (F0 m pc ls [.ref a]) := by
  subst hw
  refine W.know (fun g1 g2 _ => ?_)
  refine W.widen hm.1 hm.2 ?_
  exact W.aret S0.1 S0.2.1 hr hrt (Or.inr ⟨a, rfl⟩) (fun t ht hW => ⟨⟨u, a, rfl, hp, ha, by rw [ht]; exact E.1, va_K.moved hW.alike hK, E.2.1, by rw [ht]; omega, by rw [ht]; omega⟩, E.2.2.F ht⟩) E.2.2.2.2 hdg hlocks
theorem w_bld {a n : Nat} {cA : ClassId} {f : Nat → Int32} {i v : Int32} (S : Sta p c cc s args own m) (hK : va_K g.1 vwC (tysG g) s) (E : Ev g A H0 H locs ws) (q0 t0 : Nat) (ha : ws[q0]? = some (a, .inl (cA, n, .inl f))) (ht : (tysG g)[t0]? = some (cA, .byte)) (hin : vp_in i n) (hv : f i.toNatClampNeg = v) (hdg : decode cc pc = .ok (.baload, 1))
    (kk : W p l e R s m args below meth c H locs cells slots Q (F0 m (pc + 1) ls (.int v :: rest))) : W p l e R s m args below meth c H locs cells slots Q (F0 m pc ls (.int i :: .ref a :: rest)) := by
  subst hv
  exact va_bald S.1 S.2.1 hK E.1 q0 t0 ha ht hin hdg kk
theorem w_bst {a n : Nat} {cA : ClassId} {f : Nat → Int32} {i x : Int32} {w' : va_W} (S : Sta p c cc s args own m) (hK : va_K g.1 vwC (tysG g) s) (E : Ev g A H0 H locs ws) (q0 t0 : Nat) (ha : ws[q0]? = some (a, .inl (cA, n, .inl f))) (ht : (tysG g)[t0]? = some (cA, .byte)) (hin : vp_in i n) (hw : ws.set q0 (a, .inl (cA, n, .inl (upd f i.toNatClampNeg (vp_nar .byte x)))) = w') (hdg : decode cc pc = .ok (.bastore, 1))
    (kk : ∀ (H1 : Heap) (locs1 : List Loc), Ev g A H0 H1 locs1 w' → W p l e R s m args below meth c H1 locs1 cells slots Q (F0 m (pc + 1) ls rest)) : W p l e R s m args below meth c H locs cells slots Q (F0 m pc ls (.int x :: .int i :: .ref a :: rest)) := by
  subst hw
  exact va_bast S.1 S.2.1 hK E.1 E.2.1 E.2.2 q0 t0 ha ht hin hdg (fun H1 l1 hP hD hS => kk H1 l1 ⟨hP, hD, hS⟩)
theorem w_alen {a : Nat} {cA : ClassId} {x : vp_A} {ty : FieldType} {v : Int32} (S : Sta p c cc s args own m) (hK : va_K g.1 vwC (tysG g) s) (E : Ev g A H0 H locs ws) (q0 t0 : Nat) (ha : ws[q0]? = some (a, .inl (cA, x))) (ht : (tysG g)[t0]? = some (cA, ty)) (hv : Int32.ofNat x.1 = v) (hdg : decode cc pc = .ok (.arraylength, 1))
    (kk : W p l e R s m args below meth c H locs cells slots Q (F0 m (pc + 1) ls (.int v :: rest))) : W p l e R s m args below meth c H locs cells slots Q (F0 m pc ls (.ref a :: rest)) := va_alen S.1 S.2.1 hK E.1 q0 t0 ha ht hv hdg kk
/-- a new array of a class that the list knows already -/
theorem w_newa {atype : ArrayType} {ty : FieldType} {n : Int32} {N' : Nat} {a0 : vp_A} (t0 : Nat) {cA0 : ClassId} (S : Sta p c cc s args own m) (hK : va_K g.1 vwC (tysG g) s) (E : Ev g A H0 H locs ws) (hA : ∀ q, H0.size ≤ q → A q) (harr : Cond.arrayClass (newarray.typeOf atype) ∈ lw_g) (hty : newarray.typeOf atype = ty) (ht : (tysG g)[t0]? = some (cA0, ty)) (hob : ∀ C, ty ≠ .object C)
    (ha : ∀ cA : ClassId, vp_cell cA a0 = arrV cA N' (fun _ => defaultValue ty)) (hn : ¬ n < 0) (hN : n.toNatClampNeg = N') (hbytes : N' * componentBytes ty ≤ 536870912) (hcells : cells + 1 ≤ R.cells) (hslots : slots + N' ≤ R.slots) (hdg : decode cc pc = .ok (.newarray atype, 2))
    (kk : ∀ (q : Nat) (H1 : Heap), Ev g A H0 H1 locs (ws ++ [(q, .inl (cA0, a0))]) → W p l e R s m args below meth c H1 locs (cells + 1) (slots + N') Q (F0 m (pc + 2) ls (.ref q :: rest))) : W p l e R s m args below meth c H locs cells slots Q (F0 m pc ls (.int n :: rest)) := by
  refine va_newa S.1 S.2.1 (S.2.2.1 _ harr) hty hK E.1 E.2.1 E.2.2 hA ha hn hN hbytes hcells hslots hdg (fun q cA H1 hK1 hP hD hS => ?_)
  have h1 : va_RA s cA ty := (hK1.2 6 (cA, ty) rfl).2
  have h2 : va_RA s cA0 ty := (hK.2 t0 (cA0, ty) ht).2
  have e : cA = cA0 := by
    cases ty with
    | object C => exact absurd rfl (hob C)
    | _ => exact Option.some.inj ((show s.vm.findClass _ = some cA from h1).symm.trans (show s.vm.findClass _ = some cA0 from h2))
  subst e
  exact kk q H1 ⟨hP, hD, hS⟩
theorem w_gets {C n d : String} {v : Value} {index : Nat} (S : Sta p c cc s args own m) (hZ : va_Z C n d v A s s.heap) (E : Ev g A s.heap H locs ws) (hlink : Cond.fieldLink own index C n d ∈ lw_g) (hdg : decode cc pc = .ok (.getstatic index, 3))
    (kk : W p l e R s m args below meth c H locs cells slots Q (F0 m (pc + 3) ls (v :: rest))) : W p l e R s m args below meth c H locs cells slots Q (F0 m pc ls rest) := va_gets S.1 S.2.1 hZ E.2.2 S.2.2.2 (S.2.2.1 _ hlink) (fun _ h => h) hdg kk
end CALLS2
end
section
/-! THE JDK: StringBuilder of one-byte letters, by program out of the bytecode -/
theorem st_arraycopy : Cond.static arraycopyName ∈ lw_g := lw_gi 498 (by decide +kernel) (by decide +kernel)
theorem sb_s0 (x : Int32) : x <<< ((0 : Int32) &&& 31) = x := sb_shl0 x
theorem mx_r {a b : Nat} (h : a ≤ b) (hb : b < 2 ^ 31) : mx (nI a) (nI b) = nI b := by
  unfold mx
  by_cases q : a = b
  · subst q; rw [if_neg (nI_nlt (Nat.le_refl _) hb)]
  · rw [if_pos (nI_lt (by omega) hb)]
theorem mn_l {a b : Nat} (h : a ≤ b) (hb : b < 2 ^ 31) : mn (nI a) (nI b) = nI a := by
  unfold mn
  rw [if_neg (nI_nlt h hb)]
theorem dJ1_canEncode_fc78d_0 : decode cJ1_canEncode_fc78d 0 = .ok (.iload_n 0, 1) := by decide +kernel
theorem dJ1_canEncode_fc78d_1 : decode cJ1_canEncode_fc78d 1 = .ok (.sipush 255, 3) := by decide +kernel
theorem dJ1_canEncode_fc78d_4 : decode cJ1_canEncode_fc78d 4 = .ok (.if_icmp .gt 7, 3) := by decide +kernel
theorem dJ1_canEncode_fc78d_7 : decode cJ1_canEncode_fc78d 7 = .ok (.iconst 1, 1) := by decide +kernel
theorem dJ1_canEncode_fc78d_8 : decode cJ1_canEncode_fc78d 8 = .ok (.goto 4, 3) := by decide +kernel
theorem dJ1_canEncode_fc78d_11 : decode cJ1_canEncode_fc78d 11 = .ok (.iconst 0, 1) := by decide +kernel
theorem dJ1_canEncode_fc78d_12 : decode cJ1_canEncode_fc78d 12 = .ok (.ireturn, 1) := by decide +kernel
set_option maxHeartbeats 4000000 in
set_option maxRecDepth 100000 in
/-- StringLatin1.canEncode of a one-byte letter -/
theorem c_J1_canEncode_fc78d (l : Launch) (g : Gm) (c0 : Nat) (hc : c0 < 256) : MXi (S := Unit) l g yJ1_canEncode_fc78d cJ1_canEncode_fc78d 1 .boolean ({ frames := 0, cells := 0, slots := 0, locals := 0 } : Room) [.int (nI c0)] [] (fun r _ => r = 1) ((fun _ => [])) (fun _ => (0, 0)) := by
  intro sz tt
  refine ofX RJ1 rfl (by decide +kernel) (Nat.le_of_ble_eq_true rfl) (fun p e s m args below meth c hargs S hml hr hlk hnm hsz htt hK hA hZ E ls hl => ?_)
  have hx := S.1
  have hb := S.2.1
  have hl : lv_has ls 1 [(0, .int (nI c0))] := hl
  refine lv_iload_n hx hb dJ1_canEncode_fc78d_0 rfl (lv_at hl 0 rfl) ?_
  refine lv_sipush (v := 255) hx hb dJ1_canEncode_fc78d_1 (by decide) ?_
  refine lv_icmp_gt (tgt := 11) hx hb dJ1_canEncode_fc78d_4 (by decide) (fun c_ => absurd c_ (show ¬ nI 255 < nI c0 from nI_nlt (by omega) (by decide))) (fun _ => ?_)
  refine lv_iconst (v := 1) hx hb dJ1_canEncode_fc78d_7 (by decide) ?_
  refine lv_goto (tgt := 12) hx hb dJ1_canEncode_fc78d_8 (by decide) ?_
  exact x_zret () S hr hlk hsz htt hK E dJ1_canEncode_fc78d_12 rfl rfl rfl ⟨Nat.le_of_ble_eq_true rfl, Nat.le_of_ble_eq_true rfl⟩ ⟨Nat.le_of_ble_eq_true rfl, Nat.le_of_ble_eq_true rfl⟩

theorem dJ5_isLatin1_aae02_0 : decode cJ5_isLatin1_aae02 0 = .ok (.getstatic 18, 3) := by decide +kernel
theorem dJ5_isLatin1_aae02_3 : decode cJ5_isLatin1_aae02 3 = .ok (.ifCond .eq 14, 3) := by decide +kernel
theorem dJ5_isLatin1_aae02_6 : decode cJ5_isLatin1_aae02 6 = .ok (.aload_n 0, 1) := by decide +kernel
theorem dJ5_isLatin1_aae02_7 : decode cJ5_isLatin1_aae02 7 = .ok (.getfield 22, 3) := by decide +kernel
theorem dJ5_isLatin1_aae02_10 : decode cJ5_isLatin1_aae02 10 = .ok (.ifCond .ne 7, 3) := by decide +kernel
theorem dJ5_isLatin1_aae02_13 : decode cJ5_isLatin1_aae02 13 = .ok (.iconst 1, 1) := by decide +kernel
theorem dJ5_isLatin1_aae02_14 : decode cJ5_isLatin1_aae02 14 = .ok (.goto 4, 3) := by decide +kernel
theorem dJ5_isLatin1_aae02_17 : decode cJ5_isLatin1_aae02 17 = .ok (.iconst 0, 1) := by decide +kernel
theorem dJ5_isLatin1_aae02_18 : decode cJ5_isLatin1_aae02 18 = .ok (.ireturn, 1) := by decide +kernel
set_option maxHeartbeats 4000000 in
set_option maxRecDepth 100000 in
/-- isLatin1 -/
theorem c_J5_isLatin1_aae02 (l : Launch) (g : Gm) (a ea cap : Nat) (n : Int32) (t : Nat → Int32) : MXi (S := Unit) l g yJ5_isLatin1_aae02 cJ5_isLatin1_aae02 1 .boolean ({ frames := 0, cells := 0, slots := 0, locals := 0 } : Room) [.ref a] [(a, .inr (7, [.ref ea, .int 0, .int 0, .int n])), (ea, .inl (g.2.1 3, cap, .inl t))] (fun r _ => r = 1) ((fun _ => [(a, .inr (7, [.ref ea, .int 0, .int 0, .int n])), (ea, .inl (g.2.1 3, cap, .inl t))])) (fun _ => (0, 0)) := by
  intro sz tt
  refine ofX RJ5 rfl (by decide +kernel) (Nat.le_of_ble_eq_true rfl) (fun p e s m args below meth c hargs S hml hr hlk hnm hsz htt hK hA hZ E ls hl => ?_)
  have hx := S.1
  have hb := S.2.1
  have hl : lv_has ls 1 [(0, .ref a)] := hl
  refine w_gets S hZ.1 E fl_J5_18 dJ5_isLatin1_aae02_0 ?_
  refine lv_if_eq (tgt := 17) hx hb dJ5_isLatin1_aae02_3 (by decide) (fun c_ => absurd c_ (by decide)) (fun _ => ?_)
  refine lv_aload_n hx hb dJ5_isLatin1_aae02_6 rfl (lv_at hl 0 rfl) ?_
  refine wg_J5_22 (v := .int 0) S hK E 0 rfl rfl dJ5_isLatin1_aae02_7 ?_
  refine lv_if_ne (tgt := 17) hx hb dJ5_isLatin1_aae02_10 (by decide) (fun c_ => absurd (by decide) c_) (fun _ => ?_)
  refine lv_iconst (v := 1) hx hb dJ5_isLatin1_aae02_13 (by decide) ?_
  refine lv_goto (tgt := 18) hx hb dJ5_isLatin1_aae02_14 (by decide) ?_
  exact x_zret () S hr hlk hsz htt hK E dJ5_isLatin1_aae02_18 rfl rfl rfl ⟨Nat.le_of_ble_eq_true rfl, Nat.le_of_ble_eq_true rfl⟩ ⟨Nat.le_of_ble_eq_true rfl, Nat.le_of_ble_eq_true rfl⟩

theorem dJ8_newLength_cabcc_0 : decode cJ8_newLength_cabcc 0 = .ok (.iload_n 0, 1) := by decide +kernel
theorem dJ8_newLength_cabcc_1 : decode cJ8_newLength_cabcc 1 = .ok (.iload_n 1, 1) := by decide +kernel
theorem dJ8_newLength_cabcc_2 : decode cJ8_newLength_cabcc 2 = .ok (.iload_n 2, 1) := by decide +kernel
theorem dJ8_newLength_cabcc_3 : decode cJ8_newLength_cabcc 3 = .ok (.invokestatic 194, 3) := by decide +kernel
theorem dJ8_newLength_cabcc_6 : decode cJ8_newLength_cabcc 6 = .ok (.iadd, 1) := by decide +kernel
theorem dJ8_newLength_cabcc_7 : decode cJ8_newLength_cabcc 7 = .ok (.istore_n 3, 1) := by decide +kernel
theorem dJ8_newLength_cabcc_8 : decode cJ8_newLength_cabcc 8 = .ok (.iconst 0, 1) := by decide +kernel
theorem dJ8_newLength_cabcc_9 : decode cJ8_newLength_cabcc 9 = .ok (.iload_n 3, 1) := by decide +kernel
theorem dJ8_newLength_cabcc_10 : decode cJ8_newLength_cabcc 10 = .ok (.if_icmp .ge 11, 3) := by decide +kernel
theorem dJ8_newLength_cabcc_13 : decode cJ8_newLength_cabcc 13 = .ok (.iload_n 3, 1) := by decide +kernel
theorem dJ8_newLength_cabcc_14 : decode cJ8_newLength_cabcc 14 = .ok (.ldc 200, 2) := by decide +kernel
theorem dJ8_newLength_cabcc_16 : decode cJ8_newLength_cabcc 16 = .ok (.if_icmp .gt 5, 3) := by decide +kernel
theorem dJ8_newLength_cabcc_19 : decode cJ8_newLength_cabcc 19 = .ok (.iload_n 3, 1) := by decide +kernel
theorem dJ8_newLength_cabcc_20 : decode cJ8_newLength_cabcc 20 = .ok (.ireturn, 1) := by decide +kernel
theorem dJ8_newLength_cabcc_21 : decode cJ8_newLength_cabcc 21 = .ok (.iload_n 0, 1) := by decide +kernel
theorem dJ8_newLength_cabcc_22 : decode cJ8_newLength_cabcc 22 = .ok (.iload_n 1, 1) := by decide +kernel
theorem dJ8_newLength_cabcc_23 : decode cJ8_newLength_cabcc 23 = .ok (.invokestatic 201, 3) := by decide +kernel
theorem dJ8_newLength_cabcc_26 : decode cJ8_newLength_cabcc 26 = .ok (.ireturn, 1) := by decide +kernel
set_option maxHeartbeats 4000000 in
set_option maxRecDepth 100000 in
/-- ArraysSupport.newLength -/
theorem c_J8_newLength_cabcc (l : Launch) (g : Gm) (x y z : Nat) (h1 : y ≤ z) (h2 : 0 < x + z) (h3 : x + z < 1000000) : MXi (S := Unit) l g yJ8_newLength_cabcc cJ8_newLength_cabcc 4 .int ({ frames := 1, cells := 0, slots := 0, locals := 14 } : Room) [.int (nI x), .int (nI y), .int (nI z)] [] (fun r _ => r = nI (x + z)) ((fun _ => [])) (fun _ => (0, 0)) := by
  intro sz tt
  refine ofX RJ8 rfl (by decide +kernel) (Nat.le_of_ble_eq_true rfl) (fun p e s m args below meth c hargs S hml hr hlk hnm hsz htt hK hA hZ E ls hl => ?_)
  have hx := S.1
  have hb := S.2.1
  have hl : lv_has ls 4 [(0, .int (nI x)), (1, .int (nI y)), (2, .int (nI z))] := hl
  refine lv_iload_n hx hb dJ8_newLength_cabcc_0 rfl (lv_at hl 0 rfl) ?_
  refine lv_iload_n hx hb dJ8_newLength_cabcc_1 rfl (lv_at hl 1 rfl) ?_
  refine lv_iload_n hx hb dJ8_newLength_cabcc_2 rfl (lv_at hl 2 rfl) ?_
  refine w_max (v := (mx (nI y) (nI z))) S hml hl ml_J8_194 st_max in_J9 co_max (Nat.le_of_ble_eq_true rfl) (Nat.le_of_ble_eq_true rfl) ⟨Nat.le_of_ble_eq_true rfl, Nat.le_of_ble_eq_true rfl⟩ rfl dJ8_newLength_cabcc_3 ?_
  rw [show ((mx (nI y) (nI z)) : Int32) = (nI z) from mx_r h1 (by omega)]
  refine lv_iadd hx hb dJ8_newLength_cabcc_6 ?_
  rw [show (((nI x) + (nI z)) : Int32) = (nI (x + z)) from nI_add x z]
  refine lv_istore_n (lv' := [(3, .int (nI (x + z))), (0, .int (nI x)), (1, .int (nI y)), (2, .int (nI z))]) hx hb dJ8_newLength_cabcc_7 rfl hl (by decide) rfl (fun ls hl => ?_)
  refine lv_iconst (v := 0) hx hb dJ8_newLength_cabcc_8 (by decide) ?_
  refine lv_iload_n hx hb dJ8_newLength_cabcc_9 rfl (lv_at hl 0 rfl) ?_
  refine lv_icmp_ge (tgt := 21) hx hb dJ8_newLength_cabcc_10 (by decide) (fun c_ => absurd c_ (nI_nle h2 (by omega))) (fun _ => ?_)
  refine lv_iload_n hx hb dJ8_newLength_cabcc_13 rfl (lv_at hl 0 rfl) ?_
  refine lv_ldc (v := 2147483639) hx hb S.2.2.2 (S.2.2.1 _ cn_J8_200) dJ8_newLength_cabcc_14 ?_
  refine lv_icmp_gt (tgt := 21) hx hb dJ8_newLength_cabcc_16 (by decide) (fun c_ => absurd c_ (show ¬ nI 2147483639 < nI (x + z) from nI_nlt (by omega) (by decide))) (fun _ => ?_)
  refine lv_iload_n hx hb dJ8_newLength_cabcc_19 rfl (lv_at hl 0 rfl) ?_
  exact x_iret () S hr hlk hsz htt hK E dJ8_newLength_cabcc_20 rfl rfl ⟨Nat.le_of_ble_eq_true rfl, Nat.le_of_ble_eq_true rfl⟩ ⟨Nat.le_of_ble_eq_true rfl, Nat.le_of_ble_eq_true rfl⟩

theorem dJ5_newCapacity_0f7a4_0 : decode cJ5_newCapacity_0f7a4 0 = .ok (.aload_n 0, 1) := by decide +kernel
theorem dJ5_newCapacity_0f7a4_1 : decode cJ5_newCapacity_0f7a4 1 = .ok (.getfield 15, 3) := by decide +kernel
theorem dJ5_newCapacity_0f7a4_4 : decode cJ5_newCapacity_0f7a4 4 = .ok (.arraylength, 1) := by decide +kernel
theorem dJ5_newCapacity_0f7a4_5 : decode cJ5_newCapacity_0f7a4 5 = .ok (.istore_n 2, 1) := by decide +kernel
theorem dJ5_newCapacity_0f7a4_6 : decode cJ5_newCapacity_0f7a4 6 = .ok (.iload_n 1, 1) := by decide +kernel
theorem dJ5_newCapacity_0f7a4_7 : decode cJ5_newCapacity_0f7a4 7 = .ok (.aload_n 0, 1) := by decide +kernel
theorem dJ5_newCapacity_0f7a4_8 : decode cJ5_newCapacity_0f7a4 8 = .ok (.getfield 22, 3) := by decide +kernel
theorem dJ5_newCapacity_0f7a4_11 : decode cJ5_newCapacity_0f7a4 11 = .ok (.ishl, 1) := by decide +kernel
theorem dJ5_newCapacity_0f7a4_12 : decode cJ5_newCapacity_0f7a4 12 = .ok (.istore_n 3, 1) := by decide +kernel
theorem dJ5_newCapacity_0f7a4_13 : decode cJ5_newCapacity_0f7a4 13 = .ok (.iload_n 3, 1) := by decide +kernel
theorem dJ5_newCapacity_0f7a4_14 : decode cJ5_newCapacity_0f7a4 14 = .ok (.iload_n 2, 1) := by decide +kernel
theorem dJ5_newCapacity_0f7a4_15 : decode cJ5_newCapacity_0f7a4 15 = .ok (.isub, 1) := by decide +kernel
theorem dJ5_newCapacity_0f7a4_16 : decode cJ5_newCapacity_0f7a4 16 = .ok (.istore 4, 2) := by decide +kernel
theorem dJ5_newCapacity_0f7a4_18 : decode cJ5_newCapacity_0f7a4 18 = .ok (.iload_n 2, 1) := by decide +kernel
theorem dJ5_newCapacity_0f7a4_19 : decode cJ5_newCapacity_0f7a4 19 = .ok (.iload 4, 2) := by decide +kernel
theorem dJ5_newCapacity_0f7a4_21 : decode cJ5_newCapacity_0f7a4 21 = .ok (.iload_n 2, 1) := by decide +kernel
theorem dJ5_newCapacity_0f7a4_22 : decode cJ5_newCapacity_0f7a4 22 = .ok (.iconst 2, 1) := by decide +kernel
theorem dJ5_newCapacity_0f7a4_23 : decode cJ5_newCapacity_0f7a4 23 = .ok (.aload_n 0, 1) := by decide +kernel
theorem dJ5_newCapacity_0f7a4_24 : decode cJ5_newCapacity_0f7a4 24 = .ok (.getfield 22, 3) := by decide +kernel
theorem dJ5_newCapacity_0f7a4_27 : decode cJ5_newCapacity_0f7a4 27 = .ok (.ishl, 1) := by decide +kernel
theorem dJ5_newCapacity_0f7a4_28 : decode cJ5_newCapacity_0f7a4 28 = .ok (.iadd, 1) := by decide +kernel
theorem dJ5_newCapacity_0f7a4_29 : decode cJ5_newCapacity_0f7a4 29 = .ok (.invokestatic 114, 3) := by decide +kernel
theorem dJ5_newCapacity_0f7a4_32 : decode cJ5_newCapacity_0f7a4 32 = .ok (.istore 5, 2) := by decide +kernel
theorem dJ5_newCapacity_0f7a4_34 : decode cJ5_newCapacity_0f7a4 34 = .ok (.iload 5, 2) := by decide +kernel
theorem dJ5_newCapacity_0f7a4_36 : decode cJ5_newCapacity_0f7a4 36 = .ok (.ldc 39, 2) := by decide +kernel
theorem dJ5_newCapacity_0f7a4_38 : decode cJ5_newCapacity_0f7a4 38 = .ok (.if_icmp .ne 13, 3) := by decide +kernel
theorem dJ5_newCapacity_0f7a4_41 : decode cJ5_newCapacity_0f7a4 41 = .ok (.new 120, 3) := by decide +kernel
theorem dJ5_newCapacity_0f7a4_44 : decode cJ5_newCapacity_0f7a4 44 = .ok (.dup, 1) := by decide +kernel
theorem dJ5_newCapacity_0f7a4_45 : decode cJ5_newCapacity_0f7a4 45 = .ok (.ldc 122, 2) := by decide +kernel
theorem dJ5_newCapacity_0f7a4_47 : decode cJ5_newCapacity_0f7a4 47 = .ok (.invokespecial 124, 3) := by decide +kernel
theorem dJ5_newCapacity_0f7a4_50 : decode cJ5_newCapacity_0f7a4 50 = .ok (.athrow, 1) := by decide +kernel
theorem dJ5_newCapacity_0f7a4_51 : decode cJ5_newCapacity_0f7a4 51 = .ok (.iload 5, 2) := by decide +kernel
theorem dJ5_newCapacity_0f7a4_53 : decode cJ5_newCapacity_0f7a4 53 = .ok (.aload_n 0, 1) := by decide +kernel
theorem dJ5_newCapacity_0f7a4_54 : decode cJ5_newCapacity_0f7a4 54 = .ok (.getfield 22, 3) := by decide +kernel
theorem dJ5_newCapacity_0f7a4_57 : decode cJ5_newCapacity_0f7a4 57 = .ok (.ishr, 1) := by decide +kernel
theorem dJ5_newCapacity_0f7a4_58 : decode cJ5_newCapacity_0f7a4 58 = .ok (.ireturn, 1) := by decide +kernel
set_option maxHeartbeats 4000000 in
set_option maxRecDepth 100000 in
/-- newCapacity, of one letter more than there is room for -/
theorem c_J5_newCapacity_0f7a4 (l : Launch) (g : Gm) (a ea cap w : Nat) (n : Int32) (t : Nat → Int32) (hc : cap < 100000) (hw : w = cap + 1) : MXi (S := Unit) l g yJ5_newCapacity_0f7a4 cJ5_newCapacity_0f7a4 6 .int ({ frames := 2, cells := 0, slots := 0, locals := 37 } : Room) [.ref a, .int (nI w)] [(a, .inr (7, [.ref ea, .int 0, .int 0, .int n])), (ea, .inl (g.2.1 3, cap, .inl t))] (fun r _ => r = nI (cap + (cap + 2))) ((fun _ => [(a, .inr (7, [.ref ea, .int 0, .int 0, .int n])), (ea, .inl (g.2.1 3, cap, .inl t))])) (fun _ => (0, 0)) := by
  intro sz tt
  refine ofX RJ5 rfl (by decide +kernel) (Nat.le_of_ble_eq_true rfl) (fun p e s m args below meth c hargs S hml hr hlk hnm hsz htt hK hA hZ E ls hl => ?_)
  have hx := S.1
  have hb := S.2.1
  have hl : lv_has ls 6 [(0, .ref a), (1, .int (nI w))] := hl
  refine lv_aload_n hx hb dJ5_newCapacity_0f7a4_0 rfl (lv_at hl 0 rfl) ?_
  refine wg_J5_15 (v := .ref ea) S hK E 0 rfl rfl dJ5_newCapacity_0f7a4_1 ?_
  refine w_alen (v := nI cap) S hK E 1 3 rfl rfl rfl dJ5_newCapacity_0f7a4_4 ?_
  refine lv_istore_n (lv' := [(2, .int (nI cap)), (0, .ref a), (1, .int (nI w))]) hx hb dJ5_newCapacity_0f7a4_5 rfl hl (by decide) rfl (fun ls hl => ?_)
  refine lv_iload_n hx hb dJ5_newCapacity_0f7a4_6 rfl (lv_at hl 2 rfl) ?_
  refine lv_aload_n hx hb dJ5_newCapacity_0f7a4_7 rfl (lv_at hl 1 rfl) ?_
  refine wg_J5_22 (v := .int 0) S hK E 0 rfl rfl dJ5_newCapacity_0f7a4_8 ?_
  refine lv_ishl hx hb dJ5_newCapacity_0f7a4_11 ?_
  rw [show (((nI w) <<< (0 &&& 31)) : Int32) = (nI w) from sb_shl0 _]
  refine lv_istore_n (lv' := [(3, .int (nI w)), (2, .int (nI cap)), (0, .ref a), (1, .int (nI w))]) hx hb dJ5_newCapacity_0f7a4_12 rfl hl (by decide) rfl (fun ls hl => ?_)
  refine lv_iload_n hx hb dJ5_newCapacity_0f7a4_13 rfl (lv_at hl 0 rfl) ?_
  refine lv_iload_n hx hb dJ5_newCapacity_0f7a4_14 rfl (lv_at hl 1 rfl) ?_
  refine lv_isub hx hb dJ5_newCapacity_0f7a4_15 ?_
  rw [show (((nI w) - (nI cap)) : Int32) = (nI 1) from (by rw [hw, pk_sub (by omega), Nat.add_sub_cancel_left])]
  refine lv_istore (lv' := [(4, .int (nI 1)), (3, .int (nI w)), (2, .int (nI cap)), (0, .ref a), (1, .int (nI w))]) hx hb dJ5_newCapacity_0f7a4_16 hl (by decide) rfl (fun ls hl => ?_)
  refine lv_iload_n hx hb dJ5_newCapacity_0f7a4_18 rfl (lv_at hl 2 rfl) ?_
  refine lv_iload hx hb dJ5_newCapacity_0f7a4_19 (lv_at hl 0 rfl) ?_
  refine lv_iload_n hx hb dJ5_newCapacity_0f7a4_21 rfl (lv_at hl 2 rfl) ?_
  refine lv_iconst (v := 2) hx hb dJ5_newCapacity_0f7a4_22 (by decide) ?_
  refine lv_aload_n hx hb dJ5_newCapacity_0f7a4_23 rfl (lv_at hl 3 rfl) ?_
  refine wg_J5_22 (v := .int 0) S hK E 0 rfl rfl dJ5_newCapacity_0f7a4_24 ?_
  refine lv_ishl hx hb dJ5_newCapacity_0f7a4_27 ?_
  rw [show (((2 : Int32) <<< (0 &&& 31)) : Int32) = 2 from sb_shl0 _]
  refine lv_iadd hx hb dJ5_newCapacity_0f7a4_28 ?_
  rw [show (((nI cap) + 2) : Int32) = (nI (cap + 2)) from nI_add cap 2]
  refine w_reti (runS_X (As := [.int (nI cap), .int (nI 1), .int (nI (cap + 2))]) (rest := []) (n := 3) S hml hK (hZ.at E) (Cut.of (wc := []) (wr := [(a, .inr (7, [.ref ea, .int 0, .int 0, .int n])), (ea, .inl (g.2.1 3, cap, .inl t))]) E hA [] [0, 1] rfl rfl rfl rfl (by decide)) (c_J8_newLength_cabcc l g cap 1 (cap + 2) (by omega) (by omega) (by omega) _ _) ml_J5_114 st_J8_newLength_cabcc in_J8 co_J8_newLength_cabcc ⟨by decide +kernel, by decide +kernel, by decide +kernel⟩ ⟨Nat.le_of_ble_eq_true rfl, Nat.le_of_ble_eq_true rfl⟩ rfl hl.1 rfl (Nat.le_of_ble_eq_true rfl) dJ5_newCapacity_0f7a4_29 ⟨Nat.le_of_ble_eq_true rfl, Nat.le_of_ble_eq_true rfl⟩) (Cut.of (wc := []) (wr := [(a, .inr (7, [.ref ea, .int 0, .int 0, .int n])), (ea, .inl (g.2.1 3, cap, .inl t))]) E hA [] [0, 1] rfl rfl rfl rfl (by decide)) E (fun r u0 H locs hp E => ?_)
  subst hp
  have E : Ev g _ s.heap H locs [(a, .inr (7, [.ref ea, .int 0, .int 0, .int n])), (ea, .inl (g.2.1 3, cap, .inl t))] := E
  refine lv_istore (lv' := [(5, .int (nI (cap + (cap + 2)))), (4, .int (nI 1)), (3, .int (nI w)), (2, .int (nI cap)), (0, .ref a), (1, .int (nI w))]) hx hb dJ5_newCapacity_0f7a4_32 hl (by decide) rfl (fun ls hl => ?_)
  refine lv_iload hx hb dJ5_newCapacity_0f7a4_34 (lv_at hl 0 rfl) ?_
  refine lv_ldc (v := 2147483647) hx hb S.2.2.2 (S.2.2.1 _ cn_J5_39) dJ5_newCapacity_0f7a4_36 ?_
  refine lv_icmp_ne (tgt := 51) hx hb dJ5_newCapacity_0f7a4_38 (by decide) (fun _ => ?_) (fun c_ => absurd c_ (fun z => by have := (nI_eq (by omega) (by decide)).mp (show nI (cap + (cap + 2)) = nI 2147483647 from z); omega))
  refine lv_iload hx hb dJ5_newCapacity_0f7a4_51 (lv_at hl 0 rfl) ?_
  refine lv_aload_n hx hb dJ5_newCapacity_0f7a4_53 rfl (lv_at hl 4 rfl) ?_
  refine wg_J5_22 (v := .int 0) S hK E 0 rfl rfl dJ5_newCapacity_0f7a4_54 ?_
  refine lv_ishr hx hb dJ5_newCapacity_0f7a4_57 ?_
  rw [show (((nI (cap + (cap + 2))) >>> (0 &&& 31)) : Int32) = (nI (cap + (cap + 2))) from sb_shr0 _]
  exact x_iret () S hr hlk hsz htt hK E dJ5_newCapacity_0f7a4_58 rfl rfl ⟨Nat.le_of_ble_eq_true rfl, Nat.le_of_ble_eq_true rfl⟩ ⟨Nat.le_of_ble_eq_true rfl, Nat.le_of_ble_eq_true rfl⟩

theorem Ev.sub {g : Gm} {A : Nat → Prop} {H0 H : Heap} {locs : List Loc} {ws ws' : va_W} (E : Ev g A H0 H locs ws) (is : List Nat) (hs : is.map (fun i => ws[i]?) = ws'.map some) (hn : va_nd is = true) : Ev g A H0 H locs ws' := by
  refine ⟨fun k q hk => ?_, E.2.1.sub is hn hs, E.2.2⟩
  have h1 : (is.map (fun i => ws[i]?))[k]? = some (some q) := by rw [hs, List.getElem?_map, hk]; rfl
  rw [List.getElem?_map] at h1
  cases hi : is[k]? with
  | none => rw [hi] at h1; cases h1
  | some i => rw [hi] at h1; exact E.1 i q (Option.some.inj h1)
theorem cpy_all {t : Nat → Int32} {cap : Nat} (hc : cap < 2 ^ 31) (hz : ∀ j, cap ≤ j → t j = 0) : va_cpy t (fun _ => 0) (0 : Int32).toNatClampNeg (0 : Int32).toNatClampNeg (nI cap).toNatClampNeg = t := by
  funext j
  have e0 : (0 : Int32).toNatClampNeg = 0 := by decide
  rw [e0, nI_clamp hc]
  unfold va_cpy
  by_cases h : j < cap
  · rw [if_pos ⟨Nat.zero_le _, by omega⟩]; congr 1; omega
  · rw [if_neg (fun q => h (by omega)), hz j (by omega)]
def capf (w cap : Nat) : Nat := if w ≤ cap then cap else cap + (cap + 2)
theorem dw_le {w cap : Nat} (h : nI w - nI cap ≤ 0) (hw : w < 2 ^ 30) (hc : cap < 2 ^ 30) : w ≤ cap := by
  rw [Int32.le_iff_toInt_le, pk_sub_toInt hw hc, Int32.toInt_zero] at h; omega
theorem dw_gt {w cap : Nat} (h : ¬ nI w - nI cap ≤ 0) (hw : w < 2 ^ 30) (hc : cap < 2 ^ 30) : cap < w := by
  rw [Int32.le_iff_toInt_le, pk_sub_toInt hw hc, Int32.toInt_zero] at h; omega
theorem i2b_l : ∀ c, c < 128 → (nI c).toInt8.toInt32 = nI c := by decide +kernel
theorem nar_l : ∀ c, c < 128 → vp_nar .byte (nI c) = nI c := by decide +kernel
theorem capf_lt {n cap : Nat} (h : n ≤ cap) : n < capf (n + 1) cap := by unfold capf; split <;> omega
theorem capf_le {n cap : Nat} : capf (n + 1) cap ≤ cap + (cap + 2) := by unfold capf; split <;> omega
theorem dJ7_copyOf_9075b_0 : decode cJ7_copyOf_9075b 0 = .ok (.iload_n 1, 1) := by decide +kernel
theorem dJ7_copyOf_9075b_1 : decode cJ7_copyOf_9075b 1 = .ok (.aload_n 0, 1) := by decide +kernel
theorem dJ7_copyOf_9075b_2 : decode cJ7_copyOf_9075b 2 = .ok (.arraylength, 1) := by decide +kernel
theorem dJ7_copyOf_9075b_3 : decode cJ7_copyOf_9075b 3 = .ok (.if_icmp .ne 11, 3) := by decide +kernel
theorem dJ7_copyOf_9075b_6 : decode cJ7_copyOf_9075b 6 = .ok (.aload_n 0, 1) := by decide +kernel
theorem dJ7_copyOf_9075b_7 : decode cJ7_copyOf_9075b 7 = .ok (.invokevirtual 310, 3) := by decide +kernel
theorem dJ7_copyOf_9075b_10 : decode cJ7_copyOf_9075b 10 = .ok (.checkcast 311, 3) := by decide +kernel
theorem dJ7_copyOf_9075b_13 : decode cJ7_copyOf_9075b 13 = .ok (.areturn, 1) := by decide +kernel
theorem dJ7_copyOf_9075b_14 : decode cJ7_copyOf_9075b 14 = .ok (.iload_n 1, 1) := by decide +kernel
theorem dJ7_copyOf_9075b_15 : decode cJ7_copyOf_9075b 15 = .ok (.newarray .byte, 2) := by decide +kernel
theorem dJ7_copyOf_9075b_17 : decode cJ7_copyOf_9075b 17 = .ok (.astore_n 2, 1) := by decide +kernel
theorem dJ7_copyOf_9075b_18 : decode cJ7_copyOf_9075b 18 = .ok (.aload_n 0, 1) := by decide +kernel
theorem dJ7_copyOf_9075b_19 : decode cJ7_copyOf_9075b 19 = .ok (.iconst 0, 1) := by decide +kernel
theorem dJ7_copyOf_9075b_20 : decode cJ7_copyOf_9075b 20 = .ok (.aload_n 2, 1) := by decide +kernel
theorem dJ7_copyOf_9075b_21 : decode cJ7_copyOf_9075b 21 = .ok (.iconst 0, 1) := by decide +kernel
theorem dJ7_copyOf_9075b_22 : decode cJ7_copyOf_9075b 22 = .ok (.aload_n 0, 1) := by decide +kernel
theorem dJ7_copyOf_9075b_23 : decode cJ7_copyOf_9075b 23 = .ok (.arraylength, 1) := by decide +kernel
theorem dJ7_copyOf_9075b_24 : decode cJ7_copyOf_9075b 24 = .ok (.iload_n 1, 1) := by decide +kernel
theorem dJ7_copyOf_9075b_25 : decode cJ7_copyOf_9075b 25 = .ok (.invokestatic 304, 3) := by decide +kernel
theorem dJ7_copyOf_9075b_28 : decode cJ7_copyOf_9075b 28 = .ok (.invokestatic 150, 3) := by decide +kernel
theorem dJ7_copyOf_9075b_31 : decode cJ7_copyOf_9075b 31 = .ok (.aload_n 2, 1) := by decide +kernel
theorem dJ7_copyOf_9075b_32 : decode cJ7_copyOf_9075b 32 = .ok (.areturn, 1) := by decide +kernel
set_option maxHeartbeats 4000000 in
set_option maxRecDepth 100000 in
/-- Arrays.copyOf(byte[], N), N more than there are -/
theorem c_J7_copyOf_9075b (l : Launch) (g : Gm) (ea cap N : Nat) (t : Nat → Int32) (h : cap < N) (hN : N < 1000000) (hf : ∀ j, fits .byte (.int (t j)) = true) (hz : ∀ j, cap ≤ j → t j = 0) : MXr (S := Nat) l g yJ7_copyOf_9075b cJ7_copyOf_9075b 3 (.array .byte) ({ frames := 1, cells := 1, slots := N, locals := 600 } : Room) [.ref ea, .int (nI N)] [(ea, .inl (g.2.1 3, cap, .inl t))] (fun _ => True) (fun u => u) (fun u => [(ea, .inl (g.2.1 3, cap, .inl t)), (u, .inl (g.2.1 3, N, .inl t))]) (fun _ => (1, N)) := by
  intro sz tt
  refine ofX RJ7 rfl (by decide +kernel) (Nat.le_of_ble_eq_true rfl) (fun p e s m args below meth c hargs S hml hr hlk hnm hsz htt hK hA hZ E ls hl => ?_)
  have hx := S.1
  have hb := S.2.1
  have hl : lv_has ls 3 [(0, .ref ea), (1, .int (nI N))] := hl
  refine lv_iload_n hx hb dJ7_copyOf_9075b_0 rfl (lv_at hl 1 rfl) ?_
  refine lv_aload_n hx hb dJ7_copyOf_9075b_1 rfl (lv_at hl 0 rfl) ?_
  refine w_alen (v := nI cap) S hK E 0 3 rfl rfl rfl dJ7_copyOf_9075b_2 ?_
  refine lv_icmp_ne (tgt := 14) hx hb dJ7_copyOf_9075b_3 (by decide) (fun _ => ?_) (fun c_ => absurd c_ (fun z => by have := (nI_eq (by omega) (by omega)).mp z; omega))
  refine lv_iload_n hx hb dJ7_copyOf_9075b_14 rfl (lv_at hl 1 rfl) ?_
  refine w_newa (atype := .byte) (ty := .byte) (a0 := (N, .inl (fun _ => 0))) (N' := N) 3 S hK E hA ac_byte rfl rfl (fun C h => by cases h) (fun cA => by first | rfl | (rw [vp_cell_i]; rfl)) (nI_pos (by omega)) (nI_clamp (by omega)) (by rw [show componentBytes .byte = 1 from rfl]; omega) (Nat.le_of_ble_eq_true rfl) (by show 0 + N ≤ N; omega) dJ7_copyOf_9075b_15 (fun q1 H E => ?_)
  have E : Ev g _ s.heap H _ [(ea, .inl (g.2.1 3, cap, .inl t)), (q1, .inl (g.2.1 3, N, .inl (fun _ => 0)))] := E
  refine lv_astore_n (lv' := [(2, .ref q1), (0, .ref ea), (1, .int (nI N))]) hx hb dJ7_copyOf_9075b_17 rfl hl (by decide) rfl (fun ls hl => ?_)
  refine lv_aload_n hx hb dJ7_copyOf_9075b_18 rfl (lv_at hl 1 rfl) ?_
  refine lv_iconst (v := 0) hx hb dJ7_copyOf_9075b_19 (by decide) ?_
  refine lv_aload_n hx hb dJ7_copyOf_9075b_20 rfl (lv_at hl 0 rfl) ?_
  refine lv_iconst (v := 0) hx hb dJ7_copyOf_9075b_21 (by decide) ?_
  refine lv_aload_n hx hb dJ7_copyOf_9075b_22 rfl (lv_at hl 1 rfl) ?_
  refine w_alen (v := nI cap) S hK E 0 3 rfl rfl rfl dJ7_copyOf_9075b_23 ?_
  refine lv_iload_n hx hb dJ7_copyOf_9075b_24 rfl (lv_at hl 2 rfl) ?_
  refine w_min (v := (mn (nI cap) (nI N))) S hml hl ml_J7_304 st_min in_J9 co_min (Nat.le_of_ble_eq_true rfl) (Nat.le_of_ble_eq_true rfl) ⟨Nat.le_of_ble_eq_true rfl, (by show 0 + N ≤ N; omega)⟩ rfl dJ7_copyOf_9075b_25 ?_
  rw [show ((mn (nI cap) (nI N)) : Int32) = (nI cap) from mn_l (by omega) (by omega)]
  refine va_copyi hx hb (hml.trans hl.1.symm) S.2.2.2 (S.2.2.1 _ ml_J7_150) (S.2.2.1 _ nt_arraycopy) (S.2.2.1 _ st_arraycopy) (S.2.2.1 _ in_J10) hK E.1 E.2.1 E.2.2 0 1 3 3 rfl rfl rfl rfl rfl (by decide) (by decide) (nI_pos (by omega)) (by rw [nI_clamp (by omega)]; show 0 + cap ≤ cap; omega) (by rw [nI_clamp (by omega)]; show 0 + cap ≤ N; omega) (fun i _ => hf _) (Nat.le_of_ble_eq_true rfl) (Nat.le_of_ble_eq_true rfl) dJ7_copyOf_9075b_28 (fun H locs hP hD hS => ?_)
  have E : Ev g _ s.heap H locs [(ea, .inl (g.2.1 3, cap, .inl t)), (q1, .inl (g.2.1 3, N, .inl (va_cpy t (fun _ => 0) (0 : Int32).toNatClampNeg (0 : Int32).toNatClampNeg (nI cap).toNatClampNeg)))] := ⟨hP, hD, hS⟩
  refine lv_aload_n hx hb dJ7_copyOf_9075b_31 rfl (lv_at hl 0 rfl) ?_
  exact x_aret q1 S hr (by first | exact Or.inl ⟨_, rfl⟩ | exact Or.inr ⟨_, rfl⟩) hlk hsz htt hK E dJ7_copyOf_9075b_32 trivial rfl (by rw [cpy_all (by omega) hz]) ⟨Nat.le_of_ble_eq_true rfl, (by show 0 + N ≤ N; omega)⟩ ⟨Nat.le_of_ble_eq_true rfl, (by show 0 + N ≤ N; omega)⟩

theorem dJ5_ensureCapacityInternal_d00df_0 : decode cJ5_ensureCapacityInternal_d00df 0 = .ok (.aload_n 0, 1) := by decide +kernel
theorem dJ5_ensureCapacityInternal_d00df_1 : decode cJ5_ensureCapacityInternal_d00df 1 = .ok (.getfield 15, 3) := by decide +kernel
theorem dJ5_ensureCapacityInternal_d00df_4 : decode cJ5_ensureCapacityInternal_d00df 4 = .ok (.arraylength, 1) := by decide +kernel
theorem dJ5_ensureCapacityInternal_d00df_5 : decode cJ5_ensureCapacityInternal_d00df 5 = .ok (.aload_n 0, 1) := by decide +kernel
theorem dJ5_ensureCapacityInternal_d00df_6 : decode cJ5_ensureCapacityInternal_d00df 6 = .ok (.getfield 22, 3) := by decide +kernel
theorem dJ5_ensureCapacityInternal_d00df_9 : decode cJ5_ensureCapacityInternal_d00df 9 = .ok (.ishr, 1) := by decide +kernel
theorem dJ5_ensureCapacityInternal_d00df_10 : decode cJ5_ensureCapacityInternal_d00df 10 = .ok (.istore_n 2, 1) := by decide +kernel
theorem dJ5_ensureCapacityInternal_d00df_11 : decode cJ5_ensureCapacityInternal_d00df 11 = .ok (.iload_n 1, 1) := by decide +kernel
theorem dJ5_ensureCapacityInternal_d00df_12 : decode cJ5_ensureCapacityInternal_d00df 12 = .ok (.iload_n 2, 1) := by decide +kernel
theorem dJ5_ensureCapacityInternal_d00df_13 : decode cJ5_ensureCapacityInternal_d00df 13 = .ok (.isub, 1) := by decide +kernel
theorem dJ5_ensureCapacityInternal_d00df_14 : decode cJ5_ensureCapacityInternal_d00df 14 = .ok (.ifCond .le 24, 3) := by decide +kernel
theorem dJ5_ensureCapacityInternal_d00df_17 : decode cJ5_ensureCapacityInternal_d00df 17 = .ok (.aload_n 0, 1) := by decide +kernel
theorem dJ5_ensureCapacityInternal_d00df_18 : decode cJ5_ensureCapacityInternal_d00df 18 = .ok (.aload_n 0, 1) := by decide +kernel
theorem dJ5_ensureCapacityInternal_d00df_19 : decode cJ5_ensureCapacityInternal_d00df 19 = .ok (.getfield 15, 3) := by decide +kernel
theorem dJ5_ensureCapacityInternal_d00df_22 : decode cJ5_ensureCapacityInternal_d00df 22 = .ok (.aload_n 0, 1) := by decide +kernel
theorem dJ5_ensureCapacityInternal_d00df_23 : decode cJ5_ensureCapacityInternal_d00df 23 = .ok (.iload_n 1, 1) := by decide +kernel
theorem dJ5_ensureCapacityInternal_d00df_24 : decode cJ5_ensureCapacityInternal_d00df 24 = .ok (.invokevirtual 104, 3) := by decide +kernel
theorem dJ5_ensureCapacityInternal_d00df_27 : decode cJ5_ensureCapacityInternal_d00df 27 = .ok (.aload_n 0, 1) := by decide +kernel
theorem dJ5_ensureCapacityInternal_d00df_28 : decode cJ5_ensureCapacityInternal_d00df 28 = .ok (.getfield 22, 3) := by decide +kernel
theorem dJ5_ensureCapacityInternal_d00df_31 : decode cJ5_ensureCapacityInternal_d00df 31 = .ok (.ishl, 1) := by decide +kernel
theorem dJ5_ensureCapacityInternal_d00df_32 : decode cJ5_ensureCapacityInternal_d00df 32 = .ok (.invokestatic 108, 3) := by decide +kernel
theorem dJ5_ensureCapacityInternal_d00df_35 : decode cJ5_ensureCapacityInternal_d00df 35 = .ok (.putfield 15, 3) := by decide +kernel
theorem dJ5_ensureCapacityInternal_d00df_38 : decode cJ5_ensureCapacityInternal_d00df 38 = .ok (.return_, 1) := by decide +kernel
set_option maxHeartbeats 4000000 in
set_option maxRecDepth 100000 in
/-- ensureCapacityInternal(w), w at most one more than there is room for -/
theorem c_J5_ensureCapacityInternal_d00df (l : Launch) (g : Gm) (a ea cap w : Nat) (n : Int32) (t : Nat → Int32) (hc : cap < 100000) (hw : w ≤ cap + 1) (hf : ∀ j, fits .byte (.int (t j)) = true) (hz : ∀ j, cap ≤ j → t j = 0) : MXv (S := Nat) l g yJ5_ensureCapacityInternal_d00df cJ5_ensureCapacityInternal_d00df 3 ({ frames := 3, cells := 1, slots := cap + (cap + 2), locals := 622 } : Room) [.ref a, .int (nI w)] [(a, .inr (7, [.ref ea, .int 0, .int 0, .int n])), (ea, .inl (g.2.1 3, cap, .inl t))] (fun u => w ≤ cap → u = ea) (fun u => [(a, .inr (7, [.ref u, .int 0, .int 0, .int n])), (u, .inl (g.2.1 3, capf w cap, .inl t))]) (fun _ => (if w ≤ cap then 0 else 1, if w ≤ cap then 0 else cap + (cap + 2))) := by
  intro sz tt
  refine ofX RJ5 rfl (by decide +kernel) (Nat.le_of_ble_eq_true rfl) (fun p e s m args below meth c hargs S hml hr hlk hnm hsz htt hK hA hZ E ls hl => ?_)
  have hx := S.1
  have hb := S.2.1
  have hl : lv_has ls 3 [(0, .ref a), (1, .int (nI w))] := hl
  refine lv_aload_n hx hb dJ5_ensureCapacityInternal_d00df_0 rfl (lv_at hl 0 rfl) ?_
  refine wg_J5_15 (v := .ref ea) S hK E 0 rfl rfl dJ5_ensureCapacityInternal_d00df_1 ?_
  refine w_alen (v := nI cap) S hK E 1 3 rfl rfl rfl dJ5_ensureCapacityInternal_d00df_4 ?_
  refine lv_aload_n hx hb dJ5_ensureCapacityInternal_d00df_5 rfl (lv_at hl 0 rfl) ?_
  refine wg_J5_22 (v := .int 0) S hK E 0 rfl rfl dJ5_ensureCapacityInternal_d00df_6 ?_
  refine lv_ishr hx hb dJ5_ensureCapacityInternal_d00df_9 ?_
  rw [show (((nI cap) >>> (0 &&& 31)) : Int32) = (nI cap) from sb_shr0 _]
  refine lv_istore_n (lv' := [(2, .int (nI cap)), (0, .ref a), (1, .int (nI w))]) hx hb dJ5_ensureCapacityInternal_d00df_10 rfl hl (by decide) rfl (fun ls hl => ?_)
  refine lv_iload_n hx hb dJ5_ensureCapacityInternal_d00df_11 rfl (lv_at hl 2 rfl) ?_
  refine lv_iload_n hx hb dJ5_ensureCapacityInternal_d00df_12 rfl (lv_at hl 0 rfl) ?_
  refine lv_isub hx hb dJ5_ensureCapacityInternal_d00df_13 ?_
  refine lv_if_le (tgt := 38) hx hb dJ5_ensureCapacityInternal_d00df_14 (by decide) (fun c1 => ?_) (fun c1 => ?_)
  · have c1 : ((nI w) - (nI cap)) ≤ 0 := c1
    have hle : w ≤ cap := dw_le c1 (by omega) (by omega)
    exact x_vret ea S hr hlk hsz htt hK E dJ5_ensureCapacityInternal_d00df_38 (fun _ => rfl) (by unfold capf; rw [if_pos hle]) ⟨Nat.zero_le _, Nat.zero_le _⟩ ⟨Nat.zero_le _, Nat.zero_le _⟩
  · have c1 : ¬ (((nI w) - (nI cap)) ≤ 0) := c1
    refine lv_aload_n hx hb dJ5_ensureCapacityInternal_d00df_17 rfl (lv_at hl 1 rfl) ?_
    refine lv_aload_n hx hb dJ5_ensureCapacityInternal_d00df_18 rfl (lv_at hl 1 rfl) ?_
    refine wg_J5_15 (v := .ref ea) S hK E 0 rfl rfl dJ5_ensureCapacityInternal_d00df_19 ?_
    refine lv_aload_n hx hb dJ5_ensureCapacityInternal_d00df_22 rfl (lv_at hl 1 rfl) ?_
    refine lv_iload_n hx hb dJ5_ensureCapacityInternal_d00df_23 rfl (lv_at hl 2 rfl) ?_
    refine w_reti (runU_X (owner := RJ5) (C := RJ4) (As := [.int (nI w)]) (rest := [.ref ea, .ref a]) (q0 := 0) (n := 1) S hml hK (hZ.at E) (Cut.full E hA) (c_J5_newCapacity_0f7a4 l g a ea cap w n t hc (Nat.le_antisymm hw (dw_gt c1 (by omega) (by omega))) _ _) ml_J5_104 sm_J5_newCapacity (lw_gx (List.mem_of_getElem? (i := 1) rfl) rfl) im_J5_newCapacity_0f7a4 in_J5 co_J5_newCapacity_0f7a4 rfl ⟨by decide +kernel, by decide +kernel, by decide +kernel⟩ ⟨Nat.le_of_ble_eq_true rfl, Nat.le_of_ble_eq_true rfl⟩ rfl rfl rfl hl.1 rfl (Nat.le_of_ble_eq_true rfl) dJ5_ensureCapacityInternal_d00df_24 ⟨Nat.zero_le _, Nat.zero_le _⟩) (Cut.full E hA) E (fun r u0 H locs hp E => ?_)
    subst hp
    have hgt : cap < w := dw_gt c1 (by omega) (by omega)
    have E : Ev g _ s.heap H locs [(a, .inr (7, [.ref ea, .int 0, .int 0, .int n])), (ea, .inl (g.2.1 3, cap, .inl t))] := E
    refine lv_aload_n hx hb dJ5_ensureCapacityInternal_d00df_27 rfl (lv_at hl 1 rfl) ?_
    refine wg_J5_22 (v := .int 0) S hK E 0 rfl rfl dJ5_ensureCapacityInternal_d00df_28 ?_
    refine lv_ishl hx hb dJ5_ensureCapacityInternal_d00df_31 ?_
    rw [show (((nI (cap + (cap + 2))) <<< (0 &&& 31)) : Int32) = (nI (cap + (cap + 2))) from sb_shl0 _]
    refine w_retr (runS_X (As := [.ref ea, .int (nI (cap + (cap + 2)))]) (rest := [.ref a]) (n := 2) S hml hK (hZ.at E) (Cut.of (wc := [(ea, .inl (g.2.1 3, cap, .inl t))]) (wr := [(a, .inr (7, [.ref ea, .int 0, .int 0, .int n]))]) E hA [1] [0] rfl rfl rfl rfl (by decide)) (c_J7_copyOf_9075b l g ea cap (cap + (cap + 2)) t (by omega) (by omega) hf hz _ _) ml_J5_108 st_J7_copyOf_9075b in_J7 co_J7_copyOf_9075b ⟨by decide +kernel, by decide +kernel, by decide +kernel⟩ ⟨Nat.le_of_ble_eq_true rfl, Nat.le_of_ble_eq_true rfl⟩ rfl hl.1 rfl (Nat.le_of_ble_eq_true rfl) dJ5_ensureCapacityInternal_d00df_32 ⟨Nat.le_of_ble_eq_true rfl, (by show 0 + 0 + (cap + (cap + 2)) ≤ cap + (cap + 2); omega)⟩) (Cut.of (wc := [(ea, .inl (g.2.1 3, cap, .inl t))]) (wr := [(a, .inr (7, [.ref ea, .int 0, .int 0, .int n]))]) E hA [1] [0] rfl rfl rfl rfl (by decide)) E (fun u H locs hp E => ?_)
    have E : Ev g _ s.heap H locs [(a, .inr (7, [.ref ea, .int 0, .int 0, .int n])), (ea, .inl (g.2.1 3, cap, .inl t)), (u, .inl (g.2.1 3, cap + (cap + 2), .inl t))] := E
    refine wp_J5_15 (w' := [(a, .inr (7, [.ref u, .int 0, .int 0, .int n])), (ea, .inl (g.2.1 3, cap, .inl t)), (u, .inl (g.2.1 3, cap + (cap + 2), .inl t))]) S hK E 0 rfl rfl rfl (Nat.le_of_ble_eq_true rfl) rfl dJ5_ensureCapacityInternal_d00df_35 (fun H locs E => ?_)
    have E := Ev.sub (ws' := [(a, .inr (7, [.ref u, .int 0, .int 0, .int n])), (u, .inl (g.2.1 3, cap + (cap + 2), .inl t))]) E [0, 2] rfl rfl
    exact x_vret u S hr hlk hsz htt hK E dJ5_ensureCapacityInternal_d00df_38 (fun q => absurd q (Nat.not_le.mpr hgt)) (by unfold capf; rw [if_neg (Nat.not_le.mpr hgt)]) ⟨(by show _ ≤ (if w ≤ cap then 0 else 1); rw [if_neg (Nat.not_le.mpr hgt)]; exact Nat.le_of_ble_eq_true rfl), (by show 0 + 0 + (cap + (cap + 2)) ≤ (if w ≤ cap then 0 else cap + (cap + 2)); rw [if_neg (Nat.not_le.mpr hgt)]; omega)⟩ ⟨Nat.le_of_ble_eq_true rfl, (by show 0 + 0 + (cap + (cap + 2)) ≤ cap + (cap + 2); omega)⟩

theorem dJ5_append_3fe6f_0 : decode cJ5_append_3fe6f 0 = .ok (.aload_n 0, 1) := by decide +kernel
theorem dJ5_append_3fe6f_1 : decode cJ5_append_3fe6f 1 = .ok (.aload_n 0, 1) := by decide +kernel
theorem dJ5_append_3fe6f_2 : decode cJ5_append_3fe6f 2 = .ok (.getfield 79, 3) := by decide +kernel
theorem dJ5_append_3fe6f_5 : decode cJ5_append_3fe6f 5 = .ok (.iconst 1, 1) := by decide +kernel
theorem dJ5_append_3fe6f_6 : decode cJ5_append_3fe6f 6 = .ok (.iadd, 1) := by decide +kernel
theorem dJ5_append_3fe6f_7 : decode cJ5_append_3fe6f 7 = .ok (.invokevirtual 100, 3) := by decide +kernel
theorem dJ5_append_3fe6f_10 : decode cJ5_append_3fe6f 10 = .ok (.aload_n 0, 1) := by decide +kernel
theorem dJ5_append_3fe6f_11 : decode cJ5_append_3fe6f 11 = .ok (.invokevirtual 83, 3) := by decide +kernel
theorem dJ5_append_3fe6f_14 : decode cJ5_append_3fe6f 14 = .ok (.ifCond .eq 31, 3) := by decide +kernel
theorem dJ5_append_3fe6f_17 : decode cJ5_append_3fe6f 17 = .ok (.iload_n 1, 1) := by decide +kernel
theorem dJ5_append_3fe6f_18 : decode cJ5_append_3fe6f 18 = .ok (.invokestatic 191, 3) := by decide +kernel
theorem dJ5_append_3fe6f_21 : decode cJ5_append_3fe6f 21 = .ok (.ifCond .eq 24, 3) := by decide +kernel
theorem dJ5_append_3fe6f_24 : decode cJ5_append_3fe6f 24 = .ok (.aload_n 0, 1) := by decide +kernel
theorem dJ5_append_3fe6f_25 : decode cJ5_append_3fe6f 25 = .ok (.getfield 15, 3) := by decide +kernel
theorem dJ5_append_3fe6f_28 : decode cJ5_append_3fe6f 28 = .ok (.aload_n 0, 1) := by decide +kernel
theorem dJ5_append_3fe6f_29 : decode cJ5_append_3fe6f 29 = .ok (.dup, 1) := by decide +kernel
theorem dJ5_append_3fe6f_30 : decode cJ5_append_3fe6f 30 = .ok (.getfield 79, 3) := by decide +kernel
theorem dJ5_append_3fe6f_33 : decode cJ5_append_3fe6f 33 = .ok (.dup_x1, 1) := by decide +kernel
theorem dJ5_append_3fe6f_34 : decode cJ5_append_3fe6f 34 = .ok (.iconst 1, 1) := by decide +kernel
theorem dJ5_append_3fe6f_35 : decode cJ5_append_3fe6f 35 = .ok (.iadd, 1) := by decide +kernel
theorem dJ5_append_3fe6f_36 : decode cJ5_append_3fe6f 36 = .ok (.putfield 79, 3) := by decide +kernel
theorem dJ5_append_3fe6f_39 : decode cJ5_append_3fe6f 39 = .ok (.iload_n 1, 1) := by decide +kernel
theorem dJ5_append_3fe6f_40 : decode cJ5_append_3fe6f 40 = .ok (.i2b, 1) := by decide +kernel
theorem dJ5_append_3fe6f_41 : decode cJ5_append_3fe6f 41 = .ok (.bastore, 1) := by decide +kernel
theorem dJ5_append_3fe6f_42 : decode cJ5_append_3fe6f 42 = .ok (.goto 33, 3) := by decide +kernel
theorem dJ5_append_3fe6f_45 : decode cJ5_append_3fe6f 45 = .ok (.aload_n 0, 1) := by decide +kernel
theorem dJ5_append_3fe6f_46 : decode cJ5_append_3fe6f 46 = .ok (.invokevirtual 83, 3) := by decide +kernel
theorem dJ5_append_3fe6f_49 : decode cJ5_append_3fe6f 49 = .ok (.ifCond .eq 7, 3) := by decide +kernel
theorem dJ5_append_3fe6f_52 : decode cJ5_append_3fe6f 52 = .ok (.aload_n 0, 1) := by decide +kernel
theorem dJ5_append_3fe6f_53 : decode cJ5_append_3fe6f 53 = .ok (.invokevirtual 195, 3) := by decide +kernel
theorem dJ5_append_3fe6f_56 : decode cJ5_append_3fe6f 56 = .ok (.aload_n 0, 1) := by decide +kernel
theorem dJ5_append_3fe6f_57 : decode cJ5_append_3fe6f 57 = .ok (.getfield 15, 3) := by decide +kernel
theorem dJ5_append_3fe6f_60 : decode cJ5_append_3fe6f 60 = .ok (.aload_n 0, 1) := by decide +kernel
theorem dJ5_append_3fe6f_61 : decode cJ5_append_3fe6f 61 = .ok (.dup, 1) := by decide +kernel
theorem dJ5_append_3fe6f_62 : decode cJ5_append_3fe6f 62 = .ok (.getfield 79, 3) := by decide +kernel
theorem dJ5_append_3fe6f_65 : decode cJ5_append_3fe6f 65 = .ok (.dup_x1, 1) := by decide +kernel
theorem dJ5_append_3fe6f_66 : decode cJ5_append_3fe6f 66 = .ok (.iconst 1, 1) := by decide +kernel
theorem dJ5_append_3fe6f_67 : decode cJ5_append_3fe6f 67 = .ok (.iadd, 1) := by decide +kernel
theorem dJ5_append_3fe6f_68 : decode cJ5_append_3fe6f 68 = .ok (.putfield 79, 3) := by decide +kernel
theorem dJ5_append_3fe6f_71 : decode cJ5_append_3fe6f 71 = .ok (.iload_n 1, 1) := by decide +kernel
theorem dJ5_append_3fe6f_72 : decode cJ5_append_3fe6f 72 = .ok (.invokestatic 197, 3) := by decide +kernel
theorem dJ5_append_3fe6f_75 : decode cJ5_append_3fe6f 75 = .ok (.aload_n 0, 1) := by decide +kernel
theorem dJ5_append_3fe6f_76 : decode cJ5_append_3fe6f 76 = .ok (.areturn, 1) := by decide +kernel
set_option maxHeartbeats 4000000 in
set_option maxRecDepth 100000 in
/-- AbstractStringBuilder.append of a letter -/
theorem c_J5_append_3fe6f (l : Launch) (g : Gm) (a ea cap n c0 : Nat) (t : Nat → Int32) (hc : cap < 50000) (hn : n ≤ cap) (h0 : c0 < 128) (hf : ∀ j, fits .byte (.int (t j)) = true) (hz : ∀ j, cap ≤ j → t j = 0) : MXr (S := Nat) l g yJ5_append_3fe6f cJ5_append_3fe6f 2 (.object "java/lang/AbstractStringBuilder") ({ frames := 4, cells := 1, slots := cap + (cap + 2), locals := 644 } : Room) [.ref a, .int (nI c0)] [(a, .inr (7, [.ref ea, .int 0, .int 0, .int (nI n)])), (ea, .inl (g.2.1 3, cap, .inl t))] (fun _ => True) (fun _ => a) (fun u => [(a, .inr (7, [.ref u, .int 0, .int 0, .int (nI (n + 1))])), (u, .inl (g.2.1 3, capf (n + 1) cap, .inl (upd t n (nI c0))))]) (fun _ => (if n + 1 ≤ cap then 0 else 1, if n + 1 ≤ cap then 0 else cap + (cap + 2))) := by
  intro sz tt
  refine ofX RJ5 rfl (by decide +kernel) (Nat.le_of_ble_eq_true rfl) (fun p e s m args below meth c hargs S hml hr hlk hnm hsz htt hK hA hZ E ls hl => ?_)
  have hx := S.1
  have hb := S.2.1
  have hl : lv_has ls 2 [(0, .ref a), (1, .int (nI c0))] := hl
  refine lv_aload_n hx hb dJ5_append_3fe6f_0 rfl (lv_at hl 0 rfl) ?_
  refine lv_aload_n hx hb dJ5_append_3fe6f_1 rfl (lv_at hl 0 rfl) ?_
  refine wg_J5_79 (v := .int (nI n)) S hK E 0 rfl rfl dJ5_append_3fe6f_2 ?_
  refine lv_iconst (v := 1) hx hb dJ5_append_3fe6f_5 (by decide) ?_
  refine lv_iadd hx hb dJ5_append_3fe6f_6 ?_
  rw [show (((nI n) + 1) : Int32) = (nI (n + 1)) from nI_1 n]
  refine w_retv (runU_X (owner := RJ5) (C := RJ4) (As := [.int (nI (n + 1))]) (rest := []) (q0 := 0) (n := 1) S hml hK (hZ.at E) (Cut.full E hA) (c_J5_ensureCapacityInternal_d00df l g a ea cap (n + 1) (nI n) t (by omega) (by omega) hf hz _ _) ml_J5_100 sm_J5_ensureCapacityInternal (lw_gx (List.mem_of_getElem? (i := 0) rfl) rfl) im_J5_ensureCapacityInternal_d00df in_J5 co_J5_ensureCapacityInternal_d00df rfl ⟨by decide +kernel, by decide +kernel, by decide +kernel⟩ ⟨Nat.le_of_ble_eq_true rfl, Nat.le_of_ble_eq_true rfl⟩ rfl rfl rfl hl.1 rfl (Nat.le_of_ble_eq_true rfl) dJ5_append_3fe6f_7 ⟨Nat.le_of_ble_eq_true rfl, (by show 0 + (cap + (cap + 2)) ≤ cap + (cap + 2); omega)⟩) (Cut.full E hA) E (fun u H locs hp E => ?_)
  have E : Ev g _ s.heap H locs [(a, .inr (7, [.ref u, .int 0, .int 0, .int (nI n)])), (u, .inl (g.2.1 3, capf (n + 1) cap, .inl t))] := E
  refine lv_aload_n hx hb dJ5_append_3fe6f_10 rfl (lv_at hl 0 rfl) ?_
  refine w_reti (runU_X (owner := RJ5) (C := RJ4) (As := []) (rest := []) (q0 := 0) (n := 0) S hml hK (hZ.at E) (Cut.full E hA) (c_J5_isLatin1_aae02 l g a u (capf (n + 1) cap) (nI n) t _ _) ml_J5_83 sm_J5_isLatin1 sl_J4_J5_isLatin1_aae02 im_J5_isLatin1_aae02 in_J5 co_J5_isLatin1_aae02 rfl ⟨by decide +kernel, by decide +kernel, by decide +kernel⟩ ⟨Nat.le_of_ble_eq_true rfl, Nat.le_of_ble_eq_true rfl⟩ rfl rfl rfl hl.1 rfl (Nat.le_of_ble_eq_true rfl) dJ5_append_3fe6f_11 ⟨(by show 0 + (if n + 1 ≤ cap then 0 else 1) + 0 ≤ 1; split <;> omega), (by show 0 + (if n + 1 ≤ cap then 0 else cap + (cap + 2)) + 0 ≤ cap + (cap + 2); split <;> omega)⟩) (Cut.full E hA) E (fun r u0 H locs hp E => ?_)
  subst hp
  have E : Ev g _ s.heap H locs [(a, .inr (7, [.ref u, .int 0, .int 0, .int (nI n)])), (u, .inl (g.2.1 3, capf (n + 1) cap, .inl t))] := E
  refine lv_if_eq (tgt := 45) hx hb dJ5_append_3fe6f_14 (by decide) (fun c_ => absurd c_ (by decide)) (fun _ => ?_)
  refine lv_iload_n hx hb dJ5_append_3fe6f_17 rfl (lv_at hl 1 rfl) ?_
  refine w_reti (runS_X (As := [.int (nI c0)]) (rest := []) (n := 1) S hml hK (hZ.at E) (Cut.of (wc := []) (wr := [(a, .inr (7, [.ref u, .int 0, .int 0, .int (nI n)])), (u, .inl (g.2.1 3, capf (n + 1) cap, .inl t))]) E hA [] [0, 1] rfl rfl rfl rfl (by decide)) (c_J1_canEncode_fc78d l g c0 (by omega) _ _) ml_J5_191 st_J1_canEncode_fc78d in_J1 co_J1_canEncode_fc78d ⟨by decide +kernel, by decide +kernel, by decide +kernel⟩ ⟨Nat.le_of_ble_eq_true rfl, Nat.le_of_ble_eq_true rfl⟩ rfl hl.1 rfl (Nat.le_of_ble_eq_true rfl) dJ5_append_3fe6f_18 ⟨(by show 0 + (if n + 1 ≤ cap then 0 else 1) + 0 + 0 ≤ 1; split <;> omega), (by show 0 + (if n + 1 ≤ cap then 0 else cap + (cap + 2)) + 0 + 0 ≤ cap + (cap + 2); split <;> omega)⟩) (Cut.of (wc := []) (wr := [(a, .inr (7, [.ref u, .int 0, .int 0, .int (nI n)])), (u, .inl (g.2.1 3, capf (n + 1) cap, .inl t))]) E hA [] [0, 1] rfl rfl rfl rfl (by decide)) E (fun r u0 H locs hp E => ?_)
  subst hp
  have E : Ev g _ s.heap H locs [(a, .inr (7, [.ref u, .int 0, .int 0, .int (nI n)])), (u, .inl (g.2.1 3, capf (n + 1) cap, .inl t))] := E
  refine lv_if_eq (tgt := 45) hx hb dJ5_append_3fe6f_21 (by decide) (fun c_ => absurd c_ (by decide)) (fun _ => ?_)
  refine lv_aload_n hx hb dJ5_append_3fe6f_24 rfl (lv_at hl 0 rfl) ?_
  refine wg_J5_15 (v := .ref u) S hK E 0 rfl rfl dJ5_append_3fe6f_25 ?_
  refine lv_aload_n hx hb dJ5_append_3fe6f_28 rfl (lv_at hl 0 rfl) ?_
  refine lv_dup hx hb dJ5_append_3fe6f_29 rfl ?_
  refine wg_J5_79 (v := .int (nI n)) S hK E 0 rfl rfl dJ5_append_3fe6f_30 ?_
  refine lv_dup_x1 hx hb dJ5_append_3fe6f_33 rfl rfl ?_
  refine lv_iconst (v := 1) hx hb dJ5_append_3fe6f_34 (by decide) ?_
  refine lv_iadd hx hb dJ5_append_3fe6f_35 ?_
  rw [show (((nI n) + 1) : Int32) = (nI (n + 1)) from nI_1 n]
  refine wp_J5_79 (w' := [(a, .inr (7, [.ref u, .int 0, .int 0, .int (nI (n + 1))])), (u, .inl (g.2.1 3, capf (n + 1) cap, .inl t))]) S hK E 0 rfl rfl rfl (Nat.le_of_ble_eq_true rfl) rfl dJ5_append_3fe6f_36 (fun H locs E => ?_)
  refine lv_iload_n hx hb dJ5_append_3fe6f_39 rfl (lv_at hl 1 rfl) ?_
  refine lv_i2b (v := ((nI c0)).toInt8.toInt32) hx hb dJ5_append_3fe6f_40 rfl ?_
  rw [show (((nI c0)).toInt8.toInt32 : Int32) = (nI c0) from i2b_l _ h0]
  refine w_bst (w' := [(a, .inr (7, [.ref u, .int 0, .int 0, .int (nI (n + 1))])), (u, .inl (g.2.1 3, capf (n + 1) cap, .inl (upd t (nI n).toNatClampNeg (vp_nar .byte (nI c0)))))]) S hK E 1 3 rfl rfl (vp_in_nI (capf_lt hn) (by have := @capf_le n cap; omega)) rfl dJ5_append_3fe6f_41 (fun H locs E => ?_)
  refine lv_goto (tgt := 75) hx hb dJ5_append_3fe6f_42 (by decide) ?_
  refine lv_aload_n hx hb dJ5_append_3fe6f_75 rfl (lv_at hl 0 rfl) ?_
  exact x_aret u S hr (by first | exact Or.inl ⟨_, rfl⟩ | exact Or.inr ⟨_, rfl⟩) hlk hsz htt hK E dJ5_append_3fe6f_76 trivial rfl (by rw [nI_clamp (by omega), nar_l _ h0]) ⟨(by show 0 + (if n + 1 ≤ cap then 0 else 1) + 0 + 0 ≤ (if n + 1 ≤ cap then 0 else 1); omega), (by show 0 + (if n + 1 ≤ cap then 0 else cap + (cap + 2)) + 0 + 0 ≤ (if n + 1 ≤ cap then 0 else cap + (cap + 2)); omega)⟩ ⟨(by show 0 + (if n + 1 ≤ cap then 0 else 1) + 0 + 0 ≤ 1; split <;> omega), (by show 0 + (if n + 1 ≤ cap then 0 else cap + (cap + 2)) + 0 + 0 ≤ cap + (cap + 2); split <;> omega)⟩

theorem dJ4_append_cf468_0 : decode cJ4_append_cf468 0 = .ok (.aload_n 0, 1) := by decide +kernel
theorem dJ4_append_cf468_1 : decode cJ4_append_cf468 1 = .ok (.iload_n 1, 1) := by decide +kernel
theorem dJ4_append_cf468_2 : decode cJ4_append_cf468 2 = .ok (.invokespecial 50, 3) := by decide +kernel
theorem dJ4_append_cf468_5 : decode cJ4_append_cf468 5 = .ok (.pop, 1) := by decide +kernel
theorem dJ4_append_cf468_6 : decode cJ4_append_cf468 6 = .ok (.aload_n 0, 1) := by decide +kernel
theorem dJ4_append_cf468_7 : decode cJ4_append_cf468 7 = .ok (.areturn, 1) := by decide +kernel
set_option maxHeartbeats 4000000 in
set_option maxRecDepth 100000 in
/-- StringBuilder.append of a letter -/
theorem c_J4_append_cf468 (l : Launch) (g : Gm) (a ea cap n c0 : Nat) (t : Nat → Int32) (hc : cap < 50000) (hn : n ≤ cap) (h0 : c0 < 128) (hf : ∀ j, fits .byte (.int (t j)) = true) (hz : ∀ j, cap ≤ j → t j = 0) : MXr (S := Nat) l g yJ4_append_cf468 cJ4_append_cf468 2 (.object "java/lang/StringBuilder") ({ frames := 5, cells := 1, slots := cap + (cap + 2), locals := 665 } : Room) [.ref a, .int (nI c0)] [(a, .inr (7, [.ref ea, .int 0, .int 0, .int (nI n)])), (ea, .inl (g.2.1 3, cap, .inl t))] (fun _ => True) (fun _ => a) (fun u => [(a, .inr (7, [.ref u, .int 0, .int 0, .int (nI (n + 1))])), (u, .inl (g.2.1 3, capf (n + 1) cap, .inl (upd t n (nI c0))))]) (fun _ => (if n + 1 ≤ cap then 0 else 1, if n + 1 ≤ cap then 0 else cap + (cap + 2))) := by
  intro sz tt
  refine ofX RJ4 rfl (by decide +kernel) (Nat.le_of_ble_eq_true rfl) (fun p e s m args below meth c hargs S hml hr hlk hnm hsz htt hK hA hZ E ls hl => ?_)
  have hx := S.1
  have hb := S.2.1
  have hl : lv_has ls 2 [(0, .ref a), (1, .int (nI c0))] := hl
  refine lv_aload_n hx hb dJ4_append_cf468_0 rfl (lv_at hl 0 rfl) ?_
  refine lv_iload_n hx hb dJ4_append_cf468_1 rfl (lv_at hl 1 rfl) ?_
  refine w_retr (runSU_X (As := [.int (nI c0)]) (rest := []) (q0 := 0) (n := 1) S hml hK (hZ.at E) (Cut.full E hA) (c_J5_append_3fe6f l g a ea cap n c0 t hc hn h0 hf hz _ _) ml_J4_50 sm_J5_append su_J4 im_J5_append_3fe6f in_J5 co_J5_append_3fe6f ⟨by decide +kernel, by decide +kernel⟩ ⟨Nat.le_of_ble_eq_true rfl, Nat.le_of_ble_eq_true rfl⟩ rfl rfl rfl hl.1 rfl (Nat.le_of_ble_eq_true rfl) dJ4_append_cf468_2 ⟨Nat.le_of_ble_eq_true rfl, (by show 0 + (cap + (cap + 2)) ≤ cap + (cap + 2); omega)⟩) (Cut.full E hA) E (fun u H locs hp E => ?_)
  have E : Ev g _ s.heap H locs [(a, .inr (7, [.ref u, .int 0, .int 0, .int (nI (n + 1))])), (u, .inl (g.2.1 3, capf (n + 1) cap, .inl (upd t n (nI c0))))] := E
  refine lv_pop hx hb dJ4_append_cf468_5 rfl ?_
  refine lv_aload_n hx hb dJ4_append_cf468_6 rfl (lv_at hl 0 rfl) ?_
  exact x_aret u S hr (by first | exact Or.inl ⟨_, rfl⟩ | exact Or.inr ⟨_, rfl⟩) hlk hsz htt hK E dJ4_append_cf468_7 trivial rfl rfl ⟨(by show 0 + (if n + 1 ≤ cap then 0 else 1) ≤ (if n + 1 ≤ cap then 0 else 1); omega), (by show 0 + (if n + 1 ≤ cap then 0 else cap + (cap + 2)) ≤ (if n + 1 ≤ cap then 0 else cap + (cap + 2)); omega)⟩ ⟨(by show 0 + (if n + 1 ≤ cap then 0 else 1) ≤ 1; split <;> omega), (by show 0 + (if n + 1 ≤ cap then 0 else cap + (cap + 2)) ≤ cap + (cap + 2); split <;> omega)⟩
end
section
/-! NOTES: the events' text grows by a letter; what grows is told by the state -/
def en (σ : Sg) : Nat := (gs σ 5).toNatClampNeg
def ec (σ : Sg) : Nat := (gs σ 6).toNatClampNeg
def eg (σ : Sg) : Nat := (gs σ 7).toNatClampNeg
def EvOK (σ : Sg) : Prop := gs σ 5 = nI (en σ) ∧ gs σ 6 = nI (ec σ) ∧ gs σ 7 = nI (eg σ) ∧ en σ ≤ ec σ ∧ ec σ ≤ 2 * en σ + 16 ∧ ec σ + 2 = 18 * 2 ^ eg σ ∧ (∀ j, en σ ≤ j → σ.1 30 j = 0) ∧ ∀ j, fits .byte (.int (σ.1 30 j)) = true
def LC (c : Int32) : Prop := ∃ k : Nat, k < 128 ∧ c = nI k
def f_X5_note (σ : Sg) (c : Int32) : Sg := ss (ss (ss (si σ 30 (gs σ 5) c) 5 (gs σ 5 + 1)) 6 (nI (capf (en σ + 1) (ec σ)))) 7 (if en σ + 1 ≤ ec σ then gs σ 7 else gs σ 7 + 1)
/-- K notes at the most, and nothing else of the wells' places -/
def EK (K : Nat) (τ σ : Sg) : Prop := EvOK τ ∧ en σ ≤ en τ ∧ en τ ≤ en σ + K ∧ eg σ ≤ eg τ ∧ ec σ ≤ ec τ ∧ τ.1 18 = σ.1 18 ∧ τ.1 19 = σ.1 19 ∧ τ.1 27 = σ.1 27 ∧ gs τ 4 = gs σ 4
theorem Kp.ev {τ σ : Sg} (h : Kp τ σ) (v : EvOK σ) : EvOK τ := by
  obtain ⟨-, -, -, h30, -, h5, h6, h7⟩ := h
  have e5 : en τ = en σ := congrArg Int32.toNatClampNeg h5
  have e6 : ec τ = ec σ := congrArg Int32.toNatClampNeg h6
  have e7 : eg τ = eg σ := congrArg Int32.toNatClampNeg h7
  unfold EvOK
  rw [e5, e6, e7, h5, h6, h7, h30]
  exact v
theorem Kp.ek {τ σ : Sg} (h : Kp τ σ) (v : EvOK σ) : EK 0 τ σ := by
  have e5 : en τ = en σ := congrArg Int32.toNatClampNeg h.2.2.2.2.2.1
  have e6 : ec τ = ec σ := congrArg Int32.toNatClampNeg h.2.2.2.2.2.2.1
  have e7 : eg τ = eg σ := congrArg Int32.toNatClampNeg h.2.2.2.2.2.2.2
  exact ⟨h.ev v, by omega, by omega, by omega, by omega, h.1, h.2.1, h.2.2.1, h.2.2.2.2.1⟩
theorem EK.rf {σ : Sg} (v : EvOK σ) : EK 0 σ σ := Kp.rf.ek v
theorem EK.tr {a b : Nat} {ρ τ σ : Sg} (h : EK b ρ τ) (k : EK a τ σ) : EK (a + b) ρ σ := by
  obtain ⟨h1, h2, h3, h4, h5, h6, h7, h8, h9⟩ := h
  obtain ⟨-, k2, k3, k4, k5, k6, k7, k8, k9⟩ := k
  exact ⟨h1, by omega, by omega, by omega, by omega, h6.trans k6, h7.trans k7, h8.trans k8, h9.trans k9⟩
theorem EK.kp {a : Nat} {ρ τ σ : Sg} (h : Kp ρ τ) (k : EK a τ σ) : EK a ρ σ := (h.ek k.1).tr k
theorem EK.up {a b : Nat} {τ σ : Sg} (h : EK a τ σ) (hab : a ≤ b) : EK b τ σ := ⟨h.1, h.2.1, Nat.le_trans h.2.2.1 (by omega), h.2.2.2⟩
theorem EK.cnt {a : Nat} {τ σ : Sg} (h : EK a τ σ) : cnt τ = cnt σ := congrArg Int32.toNatClampNeg h.2.2.2.2.2.2.2.2
theorem EK.wf {a : Nat} {τ σ : Sg} (h : EK a τ σ) (w : WF σ) : WF τ := by
  obtain ⟨⟨x, b⟩, c, d⟩ := w
  refine ⟨⟨?_, ?_⟩, ?_, ?_⟩
  · rw [h.2.2.2.2.2.2.2.2, h.cnt]; exact x
  · rw [h.cnt]; exact b
  · rw [h.2.2.2.2.2.1]; exact c
  · rw [h.2.2.2.2.2.2.2.1]; exact d
theorem pow_le_of {g c : Nat} (h : c + 2 = 18 * 2 ^ g) (hc : c < 50000) : g < 12 := by
  rcases Nat.lt_or_ge g 12 with q | q
  · exact q
  · have : 2 ^ 12 ≤ 2 ^ g := Nat.pow_le_pow_right (by decide) q
    omega
theorem note_f {σ : Sg} {k : Nat} (v : EvOK σ) (hb : en σ + 1 ≤ 20000) : en (f_X5_note σ (nI k)) = en σ + 1 ∧ ec (f_X5_note σ (nI k)) = capf (en σ + 1) (ec σ) ∧ eg (f_X5_note σ (nI k)) = (if en σ + 1 ≤ ec σ then eg σ else eg σ + 1) ∧ (f_X5_note σ (nI k)).1 30 = upd (σ.1 30) (en σ) (nI k) := by
  obtain ⟨h5, h6, h7, hle, h2, hp, -, -⟩ := v
  have hg : eg σ < 12 := pow_le_of hp (by omega)
  refine ⟨?_, ?_, ?_, ?_⟩
  · show (gs σ 5 + 1).toNatClampNeg = en σ + 1
    rw [h5, nI_1, nI_clamp (by omega)]
  · show (nI (capf (en σ + 1) (ec σ))).toNatClampNeg = _
    exact nI_clamp (by have := @capf_le (en σ) (ec σ); omega)
  · show (if en σ + 1 ≤ ec σ then gs σ 7 else gs σ 7 + 1).toNatClampNeg = _
    split
    · rfl
    · rw [h7, nI_1, nI_clamp (by omega)]
  · show upd (σ.1 30) (gs σ 5).toNatClampNeg (nI k) = _
    rfl
theorem EK_note {σ : Sg} {k : Nat} (v : EvOK σ) (hb : en σ + 1 ≤ 20000) (hk : k < 128) : EK 1 (f_X5_note σ (nI k)) σ := by
  obtain ⟨e5, e6, e7, e30⟩ := note_f (k := k) v hb
  obtain ⟨h5, h6, h7, hle, h2, hp, hz, hf⟩ := v
  have hg : eg σ < 12 := pow_le_of hp (by omega)
  have hcl := @capf_le (en σ) (ec σ)
  have hcl2 : ec σ ≤ capf (en σ + 1) (ec σ) := by unfold capf; split <;> omega
  have hck : capf (en σ + 1) (ec σ) ≤ 2 * (en σ + 1) + 16 := by unfold capf; split <;> omega
  have hcn : en σ + 1 ≤ capf (en σ + 1) (ec σ) := by unfold capf; split <;> omega
  refine ⟨⟨?_, ?_, ?_, ?_, ?_, ?_, ?_, ?_⟩, by rw [e5]; omega, by rw [e5]; omega, by rw [e7]; split <;> omega, by rw [e6]; exact hcl2, rfl, rfl, rfl, rfl⟩
  · rw [e5]; show gs σ 5 + 1 = nI (en σ + 1); rw [← nI_1, ← h5]
  · rw [e6]; rfl
  · rw [e7]
    show (if en σ + 1 ≤ ec σ then gs σ 7 else gs σ 7 + 1) = _
    split
    · exact h7
    · rw [← nI_1, ← h7]
  · rw [e5, e6]; exact hcn
  · rw [e5, e6]; exact hck
  · rw [e6, e7]
    unfold capf
    split
    · exact hp
    · rw [Nat.pow_succ]; omega
  · intro j hj
    rw [e5] at hj
    rw [e30, pk_un (by omega)]
    exact hz j (by omega)
  · intro j
    rw [e30]
    by_cases q : j = en σ
    · rw [q, pk_us]
      have : ∀ c, c < 128 → fits .byte (.int (nI c)) = true := by decide +kernel
      exact this k hk
    · rw [pk_un q]; exact hf j
def wsW0 (g : Gm) (ad : Nat → Nat) (lo ke fo : Int32) (σ : Sg) : va_W := (wsW g ad lo ke fo 0 σ).take 29
theorem wsW_0 {g : Gm} {ad : Nat → Nat} {lo ke fo : Int32} {ea : Nat} {σ : Sg} : wsW g ad lo ke fo ea σ = wsW0 g ad lo ke fo σ ++ [(ad 29, .inr (7, [.ref ea, .int 0, .int 0, .int (evn ke σ)])), (ea, .inl (g.2.1 3, evc ke σ, .inl (evt ke σ)))] := rfl
theorem wsW_1 {g : Gm} {ad : Nat → Nat} {lo fo : Int32} {ea : Nat} {σ : Sg} (h : gs σ 5 = nI (en σ)) : wsW g ad lo 1 fo ea σ = wsW0 g ad lo 1 fo σ ++ [(ad 29, .inr (7, [.ref ea, .int 0, .int 0, .int (nI (en σ))])), (ea, .inl (g.2.1 3, ec σ, .inl (σ.1 30)))] := by
  rw [wsW_0, show evn 1 σ = nI (en σ) from h]
  rfl
theorem ne01 : ¬ (0 : Int32) = 1 := by decide
theorem wsW0_note {g : Gm} {ad : Nat → Nat} {lo fo ke : Int32} {σ : Sg} {c : Int32} : wsW0 g ad lo ke fo (f_X5_note σ c) = wsW0 g ad lo ke fo σ := rfl
theorem wsW_note0 {g : Gm} {ad : Nat → Nat} {lo fo : Int32} {ea : Nat} {σ : Sg} {c : Int32} : wsW g ad lo 0 fo ea (f_X5_note σ c) = wsW g ad lo 0 fo ea σ := by
  rw [wsW_0, wsW_0, wsW0_note]
  unfold evn evc evt
  simp only [if_neg ne01]
abbrev kxN (σ : Sg) : Sg × Nat → Nat × Nat := fun u => (eg u.1 - eg σ, 2 * ec u.1 - 2 * ec σ)
set_option maxHeartbeats 4000000 in
set_option maxRecDepth 100000 in
/-- World.note(letter) -/
theorem c_X5_note (l : Launch) (g : Gm) (ad : Nat → Nat) (lo ke fo : Int32) (ea : Nat) (σ : Sg) (x : Int32) (q_x : LC x) (hke : ke = 0 ∨ ke = 1) (hE : EvOK σ) (hB : en σ + 1 ≤ 20000) : MXv (S := Sg × Nat) l g yX5_note cX5_note 2 ({ frames := 6, cells := 1, slots := 100002, locals := 1000 } : Room) [.ref (ad 0), .int x] (wsW g ad lo ke fo ea σ) (fun u : Sg × Nat => u.1 = f_X5_note σ x) (fun u => wsW g ad lo ke fo u.2 u.1) (kxN σ) := by
  intro sz tt
  obtain ⟨k, hk, rfl⟩ := q_x
  refine ofX RX5 rfl (by decide +kernel) (Nat.le_of_ble_eq_true rfl) (fun p e s m args below meth c hargs S hml hr hlk hnm hsz htt hK hA hZ E ls hl => ?_)
  have hx := S.1
  have hb := S.2.1
  have hl : lv_has ls 2 [(0, .ref (ad 0)), (1, .int (nI k))] := hl
  refine lv_aload_n hx hb dX5_note_0 rfl (lv_at hl 0 rfl) ?_
  refine wg_X5_60 (v := .int ke) S hK E 0 rfl rfl dX5_note_1 ?_
  refine lv_if_eq (tgt := 16) hx hb dX5_note_4 (by decide) (fun c1 => ?_) (fun c1 => ?_)
  · subst c1
    exact x_vret (f_X5_note σ (nI k), ea) S hr hlk hsz htt hK E dX5_note_16 rfl wsW_note0.symm ⟨Nat.zero_le _, Nat.zero_le _⟩ ⟨Nat.zero_le _, Nat.zero_le _⟩
  · have h1 : ke = 1 := hke.resolve_left c1
    subst h1
    have hcap : ec σ < 50000 := by have := hE.2.2.2.2.1; omega
    refine lv_aload_n hx hb dX5_note_7 rfl (lv_at hl 0 rfl) ?_
    refine wg_X5_42 (v := .ref (ad 29)) S hK E 0 rfl rfl dX5_note_8 ?_
    refine lv_iload_n hx hb dX5_note_11 rfl (lv_at hl 1 rfl) ?_
    have E1 := E
    rw [wsW_1 (ea := ea) hE.1] at E1
    have E2 : Ev g (va_A (wsW g ad lo 1 fo ea σ) sz) s.heap s.heap [] (wsW0 g ad lo 1 fo σ ++ [(ad 29, .inr (7, [.ref ea, .int 0, .int 0, .int (nI (en σ))])), (ea, .inl (g.2.1 3, ec σ, .inl (σ.1 30)))]) := ⟨by have := E.1; rw [wsW_1 hE.1] at this; exact this, by have := E.2.1; rw [wsW_1 (ea := ea) hE.1] at this ⊢; exact this, E.2.2⟩
    have hcut : Cut g (va_A (wsW g ad lo 1 fo ea σ) sz) s.heap [(ad 29, .inr (7, [.ref ea, .int 0, .int 0, .int (nI (en σ))])), (ea, .inl (g.2.1 3, ec σ, .inl (σ.1 30)))] (wsW0 g ad lo 1 fo σ) := Cut.of E2 hA [29, 30] (List.range 29) rfl rfl rfl rfl (by decide)
    refine w_retr (runV_X (As := [.int (nI k)]) (rest := []) (q0 := 0) (n := 1) S hml hK (hZ.at E) hcut (c_J4_append_cf468 l g (ad 29) ea (ec σ) (en σ) k (σ.1 30) hcap hE.2.2.2.1 hk hE.2.2.2.2.2.2.2 (fun j hj => hE.2.2.2.2.2.2.1 j (Nat.le_trans hE.2.2.2.1 hj)) _ _) (gi_wsV ml_X5_184 im_J4_append_cf468 sl_J4_append_cf468 in_J4 co_J4_append_cf468) ⟨rfl, by decide +kernel, by decide +kernel, by decide +kernel⟩ ⟨Nat.le_of_ble_eq_true rfl, Nat.le_of_ble_eq_true rfl⟩ rfl rfl rfl hl.1 rfl (Nat.le_of_ble_eq_true rfl) dX5_note_12 ⟨Nat.le_of_ble_eq_true rfl, (by show 0 + (ec σ + (ec σ + 2)) ≤ 100002; omega)⟩) hcut E2 (fun u H locs hp E => ?_)
    obtain ⟨e5, e6, e7, e30⟩ := note_f (k := k) hE hB
    have ek := EK_note hE hB hk
    have E : Ev g (va_A (wsW g ad lo 1 fo ea σ) sz) s.heap H locs (wsW g ad lo 1 fo u (f_X5_note σ (nI k))) := by
      rw [wsW_1 ek.1.1, e5, e6, e30]
      exact E
    refine lv_pop hx hb dX5_note_15 rfl ?_
    refine x_vret (f_X5_note σ (nI k), u) S hr hlk hsz htt hK E dX5_note_16 rfl rfl ⟨?_, ?_⟩ ⟨?_, ?_⟩
    · show 0 + (if en σ + 1 ≤ ec σ then 0 else 1) ≤ eg (f_X5_note σ (nI k)) - eg σ
      rw [e7]; split <;> omega
    · show 0 + (if en σ + 1 ≤ ec σ then 0 else ec σ + (ec σ + 2)) ≤ 2 * ec (f_X5_note σ (nI k)) - 2 * ec σ
      rw [e6]; unfold capf; split <;> omega
    · show 0 + (if en σ + 1 ≤ ec σ then 0 else 1) ≤ 1
      split <;> omega
    · show 0 + (if en σ + 1 ≤ ec σ then 0 else ec σ + (ec σ + 2)) ≤ 100002
      split <;> omega
end
section
/-! THE MONTH: what makes notes -/
theorem nt_c {τ : Sg} (v : EvOK τ) (hn : en τ ≤ 20000) : eg τ ≤ 11 ∧ ec τ ≤ 40016 := by
  have h := v.2.2.2.2.1
  have := pow_le_of v.2.2.2.2.2.1 (by omega)
  omega
theorem Kp_wd1 {τ' τ : Sg} {x : Nat} (h : Kp τ' τ) : eg τ - x + 0 ≤ eg τ' - x := by
  have : eg τ' = eg τ := congrArg Int32.toNatClampNeg h.2.2.2.2.2.2.2
  omega
theorem Kp_wd2 {τ' τ : Sg} {x : Nat} (h : Kp τ' τ) : 2 * ec τ - x + 0 ≤ 2 * ec τ' - x := by
  have : ec τ' = ec τ := congrArg Int32.toNatClampNeg h.2.2.2.2.2.2.1
  omega
theorem EK_X5_note {σ : Sg} {c : Int32} (v : EvOK σ) (hb : en σ + 1 ≤ 20000) (h : LC c) : EK 1 (f_X5_note σ c) σ := by
  obtain ⟨k, hk, rfl⟩ := h
  exact EK_note v hb hk
theorem lc99 : LC 99 := ⟨99, by decide, rfl⟩
theorem lc100 : LC 100 := ⟨100, by decide, rfl⟩
theorem lc102 : LC 102 := ⟨102, by decide, rfl⟩
def f_X5_runThroughBed (σ : Sg) (x : Int32) (y : Int32) : Int32 × Sg := if 0 ≤ ((((gi σ 16 x) - (f_X2_height σ x)) * (gi σ 17 x)) / 4) then (if ((((gi σ 16 x) - (f_X2_height σ x)) * (gi σ 17 x)) / 4) ≤ 0 then ((-(mn ((((gi σ 16 x) - (f_X2_height σ x)) * (gi σ 17 x)) / 4) y)), (sl (si σ 10 x ((gi σ 10 x) + (mn ((((gi σ 16 x) - (f_X2_height σ x)) * (gi σ 17 x)) / 4) y))) 28 3 ((gl σ 28 3) + (((mn ((((gi σ 16 x) - (f_X2_height σ x)) * (gi σ 17 x)) / 4) y)).toInt64)))) else (if (mn ((((gi σ 16 x) - (f_X2_height σ x)) * (gi σ 17 x)) / 4) y) = y then ((-(mn ((((gi σ 16 x) - (f_X2_height σ x)) * (gi σ 17 x)) / 4) y)), (f_X5_note (sl (si σ 10 x ((gi σ 10 x) + (mn ((((gi σ 16 x) - (f_X2_height σ x)) * (gi σ 17 x)) / 4) y))) 28 3 ((gl σ 28 3) + (((mn ((((gi σ 16 x) - (f_X2_height σ x)) * (gi σ 17 x)) / 4) y)).toInt64))) 100)) else ((-(mn ((((gi σ 16 x) - (f_X2_height σ x)) * (gi σ 17 x)) / 4) y)), (sl (si σ 10 x ((gi σ 10 x) + (mn ((((gi σ 16 x) - (f_X2_height σ x)) * (gi σ 17 x)) / 4) y))) 28 3 ((gl σ 28 3) + (((mn ((((gi σ 16 x) - (f_X2_height σ x)) * (gi σ 17 x)) / 4) y)).toInt64)))))) else ((mn (-((((gi σ 16 x) - (f_X2_height σ x)) * (gi σ 17 x)) / 4)) (gi σ 10 x)), (sl (f_X2_takeOut σ x (mn (-((((gi σ 16 x) - (f_X2_height σ x)) * (gi σ 17 x)) / 4)) (gi σ 10 x))).2 28 4 ((gl (f_X2_takeOut σ x (mn (-((((gi σ 16 x) - (f_X2_height σ x)) * (gi σ 17 x)) / 4)) (gi σ 10 x))).2 28 4) + (((mn (-((((gi σ 16 x) - (f_X2_height σ x)) * (gi σ 17 x)) / 4)) (gi σ 10 x))).toInt64))))
theorem EK_X5_runThroughBed {σ : Sg} {x : Int32} {y : Int32} (hE : EvOK σ) (hB : en σ + 1 ≤ 20000)  : EK (1) (f_X5_runThroughBed σ x y).2 σ := by
  unfold f_X5_runThroughBed
  split
  · split
    · exact EK.up (EK.kp (Kp_sl (τ := (si σ 10 x ((gi σ 10 x) + (mn ((((gi σ 16 x) - (f_X2_height σ x)) * (gi σ 17 x)) / 4) y)))) (k := 28) (x := 3) (v := ((gl σ 28 3) + (((mn ((((gi σ 16 x) - (f_X2_height σ x)) * (gi σ 17 x)) / 4) y)).toInt64))) Kp.rf) (EK.kp (Kp_si (τ := σ) (k := 10) (x := x) (v := ((gi σ 10 x) + (mn ((((gi σ 16 x) - (f_X2_height σ x)) * (gi σ 17 x)) / 4) y))) Kp.rf (by decide)) (EK.rf hE))) (by omega)
    · split
      · exact EK.up (EK.tr (EK_X5_note (σ := (sl (si σ 10 x ((gi σ 10 x) + (mn ((((gi σ 16 x) - (f_X2_height σ x)) * (gi σ 17 x)) / 4) y))) 28 3 ((gl σ 28 3) + (((mn ((((gi σ 16 x) - (f_X2_height σ x)) * (gi σ 17 x)) / 4) y)).toInt64)))) (c := 100) (EK.kp (Kp_sl (τ := (si σ 10 x ((gi σ 10 x) + (mn ((((gi σ 16 x) - (f_X2_height σ x)) * (gi σ 17 x)) / 4) y)))) (k := 28) (x := 3) (v := ((gl σ 28 3) + (((mn ((((gi σ 16 x) - (f_X2_height σ x)) * (gi σ 17 x)) / 4) y)).toInt64))) Kp.rf) (EK.kp (Kp_si (τ := σ) (k := 10) (x := x) (v := ((gi σ 10 x) + (mn ((((gi σ 16 x) - (f_X2_height σ x)) * (gi σ 17 x)) / 4) y))) Kp.rf (by decide)) (EK.rf hE))).1 (by have := (EK.kp (Kp_sl (τ := (si σ 10 x ((gi σ 10 x) + (mn ((((gi σ 16 x) - (f_X2_height σ x)) * (gi σ 17 x)) / 4) y)))) (k := 28) (x := 3) (v := ((gl σ 28 3) + (((mn ((((gi σ 16 x) - (f_X2_height σ x)) * (gi σ 17 x)) / 4) y)).toInt64))) Kp.rf) (EK.kp (Kp_si (τ := σ) (k := 10) (x := x) (v := ((gi σ 10 x) + (mn ((((gi σ 16 x) - (f_X2_height σ x)) * (gi σ 17 x)) / 4) y))) Kp.rf (by decide)) (EK.rf hE))).2.2.1; omega) lc100) (EK.kp (Kp_sl (τ := (si σ 10 x ((gi σ 10 x) + (mn ((((gi σ 16 x) - (f_X2_height σ x)) * (gi σ 17 x)) / 4) y)))) (k := 28) (x := 3) (v := ((gl σ 28 3) + (((mn ((((gi σ 16 x) - (f_X2_height σ x)) * (gi σ 17 x)) / 4) y)).toInt64))) Kp.rf) (EK.kp (Kp_si (τ := σ) (k := 10) (x := x) (v := ((gi σ 10 x) + (mn ((((gi σ 16 x) - (f_X2_height σ x)) * (gi σ 17 x)) / 4) y))) Kp.rf (by decide)) (EK.rf hE)))) (by omega)
      · exact EK.up (EK.kp (Kp_sl (τ := (si σ 10 x ((gi σ 10 x) + (mn ((((gi σ 16 x) - (f_X2_height σ x)) * (gi σ 17 x)) / 4) y)))) (k := 28) (x := 3) (v := ((gl σ 28 3) + (((mn ((((gi σ 16 x) - (f_X2_height σ x)) * (gi σ 17 x)) / 4) y)).toInt64))) Kp.rf) (EK.kp (Kp_si (τ := σ) (k := 10) (x := x) (v := ((gi σ 10 x) + (mn ((((gi σ 16 x) - (f_X2_height σ x)) * (gi σ 17 x)) / 4) y))) Kp.rf (by decide)) (EK.rf hE))) (by omega)
  · exact EK.up (EK.kp (Kp_sl (τ := (f_X2_takeOut σ x (mn (-((((gi σ 16 x) - (f_X2_height σ x)) * (gi σ 17 x)) / 4)) (gi σ 10 x))).2) (k := 28) (x := 4) (v := ((gl (f_X2_takeOut σ x (mn (-((((gi σ 16 x) - (f_X2_height σ x)) * (gi σ 17 x)) / 4)) (gi σ 10 x))).2 28 4) + (((mn (-((((gi σ 16 x) - (f_X2_height σ x)) * (gi σ 17 x)) / 4)) (gi σ 10 x))).toInt64))) Kp.rf) (EK.kp (KP_X2_takeOut (σ := σ) (x := x) (y := (mn (-((((gi σ 16 x) - (f_X2_height σ x)) * (gi σ 17 x)) / 4)) (gi σ 10 x)))) (EK.rf hE))) (by omega)
set_option maxHeartbeats 4000000 in
set_option maxRecDepth 100000 in
/-- World.runThroughBed -/
theorem c_X5_runThroughBed (l : Launch) (g : Gm) (ad : Nat → Nat) (lo ke fo : Int32) (ea : Nat) (σ : Sg) (x : Int32) (y : Int32) (q_x : vp_in x 8) (hke : ke = 0 ∨ ke = 1) (hE : EvOK σ) (hB : en σ + 1 ≤ 20000) : MXi l g yX5_runThroughBed cX5_runThroughBed 5 .int ({ frames := 7, cells := 13, slots := 200002, locals := 1021 } : Room) [.ref (ad 0), .int x, .int y] (wsW g ad lo ke fo ea σ) (fun (r : Int32) (u : Sg × Nat) => r = (f_X5_runThroughBed σ x y).1 ∧ u.1 = (f_X5_runThroughBed σ x y).2) (fun u => wsW g ad lo ke fo u.2 u.1) (kxN σ) := by
  intro sz tt
  refine ofX RX5 rfl (by decide +kernel) (Nat.le_of_ble_eq_true rfl) (fun p e s m args below meth c hargs S hml hr hlk hnm hsz htt hK hA hZ E ls hl => ?_)
  have hx := S.1
  have hb := S.2.1
  have hl : lv_has ls 5 [(0, .ref (ad 0)), (1, .int x), (2, .int y)] := hl
  refine W.widen (k := eg σ - eg σ) (n := 2 * ec σ - 2 * ec σ) (Nat.zero_le _) (Nat.zero_le _) ?_
  refine lv_aload_n hx hb dX5_runThroughBed_0 rfl (lv_at hl 0 rfl) ?_
  refine wg_X5_21 (v := .ref (ad 2)) S hK E 0 rfl rfl dX5_runThroughBed_1 ?_
  refine wg_X5_114 (v := .ref (ad 16)) S hK E 2 rfl rfl dX5_runThroughBed_4 ?_
  refine lv_iload_n hx hb dX5_runThroughBed_7 rfl (lv_at hl 1 rfl) ?_
  refine w_ild (v := gi σ 16 x) S hK E 16 0 rfl rfl q_x rfl dX5_runThroughBed_8 ?_
  refine lv_aload_n hx hb dX5_runThroughBed_9 rfl (lv_at hl 0 rfl) ?_
  refine wg_X5_12 (v := .ref (ad 1)) S hK E 0 rfl rfl dX5_runThroughBed_10 ?_
  refine lv_iload_n hx hb dX5_runThroughBed_13 rfl (lv_at hl 1 rfl) ?_
  have hq := nt_c (EK.rf hE).1 (by have := (EK.rf hE).2.2.1; omega)
  refine w_reti (runV_X (As := [.int x]) (rest := [.int (gi σ 16 x)]) (q0 := 1) (n := 1) S hml hK (hZ.at E) (Cut.full E hA) (c_X2_height l g ad lo ke fo ea σ x (vp_mono q_x (by decide)) _ _) (gi_wsV ml_X5_229 im_X2_height sl_X2_height in_X2 co_X2_height) ⟨rfl, by decide +kernel, by decide +kernel, by decide +kernel⟩ ⟨Nat.le_of_ble_eq_true rfl, Nat.le_of_ble_eq_true rfl⟩ rfl rfl rfl hl.1 rfl (Nat.le_of_ble_eq_true rfl) dX5_runThroughBed_14 ⟨by show eg σ - eg σ + 0 ≤ 13; omega, by show 2 * ec σ - 2 * ec σ + 0 ≤ 200002; omega⟩) (Cut.full E hA) E (fun r u H locs hp E => ?_)
  obtain ⟨hp, hu⟩ := hp
  subst hp
  rw [hu] at E
  have E : Ev g _ s.heap H locs (wsW g ad lo ke fo ea σ) := E
  refine W.widen (k := eg σ - eg σ) (n := 2 * ec σ - 2 * ec σ) (Nat.le_refl _) (Nat.le_refl _) ?_
  refine lv_isub hx hb dX5_runThroughBed_17 ?_
  refine lv_aload_n hx hb dX5_runThroughBed_18 rfl (lv_at hl 0 rfl) ?_
  refine wg_X5_21 (v := .ref (ad 2)) S hK E 0 rfl rfl dX5_runThroughBed_19 ?_
  refine wg_X5_117 (v := .ref (ad 17)) S hK E 2 rfl rfl dX5_runThroughBed_22 ?_
  refine lv_iload_n hx hb dX5_runThroughBed_25 rfl (lv_at hl 1 rfl) ?_
  refine w_ild (v := gi σ 17 x) S hK E 17 0 rfl rfl q_x rfl dX5_runThroughBed_26 ?_
  refine lv_imul hx hb dX5_runThroughBed_27 ?_
  refine lv_iconst (v := 4) hx hb dX5_runThroughBed_28 (by decide) ?_
  refine lv_idiv hx hb dX5_runThroughBed_29 (by decide) ?_
  refine lv_istore_n (lv' := [(3, .int ((((gi σ 16 x) - (f_X2_height σ x)) * (gi σ 17 x)) / 4)), (0, .ref (ad 0)), (1, .int x), (2, .int y)]) hx hb dX5_runThroughBed_30 rfl hl (by decide) rfl (fun ls hl => ?_)
  refine lv_iload_n hx hb dX5_runThroughBed_31 rfl (lv_at hl 0 rfl) ?_
  refine lv_if_ge (tgt := 80) hx hb dX5_runThroughBed_32 (by decide) (fun c1 => ?_) (fun c1 => ?_)
  · have c1 : 0 ≤ ((((gi σ 16 x) - (f_X2_height σ x)) * (gi σ 17 x)) / 4) := c1
    refine lv_iload_n hx hb dX5_runThroughBed_80 rfl (lv_at hl 0 rfl) ?_
    refine lv_iload_n hx hb dX5_runThroughBed_81 rfl (lv_at hl 3 rfl) ?_
    have hq := nt_c (EK.rf hE).1 (by have := (EK.rf hE).2.2.1; omega)
    refine w_min (v := (mn ((((gi σ 16 x) - (f_X2_height σ x)) * (gi σ 17 x)) / 4) y)) S hml hl ml_X5_207 st_min in_J9 co_min (Nat.le_of_ble_eq_true rfl) (Nat.le_of_ble_eq_true rfl) ⟨by show eg σ - eg σ + 0 ≤ 13; omega, by show 2 * ec σ - 2 * ec σ + 0 ≤ 200002; omega⟩ rfl dX5_runThroughBed_82 ?_
    refine lv_istore (lv' := [(4, .int (mn ((((gi σ 16 x) - (f_X2_height σ x)) * (gi σ 17 x)) / 4) y)), (3, .int ((((gi σ 16 x) - (f_X2_height σ x)) * (gi σ 17 x)) / 4)), (0, .ref (ad 0)), (1, .int x), (2, .int y)]) hx hb dX5_runThroughBed_85 hl (by decide) rfl (fun ls hl => ?_)
    refine lv_aload_n hx hb dX5_runThroughBed_87 rfl (lv_at hl 2 rfl) ?_
    refine wg_X5_12 (v := .ref (ad 1)) S hK E 0 rfl rfl dX5_runThroughBed_88 ?_
    refine wg_X5_151 (v := .ref (ad 10)) S hK E 1 rfl rfl dX5_runThroughBed_91 ?_
    refine lv_iload_n hx hb dX5_runThroughBed_94 rfl (lv_at hl 3 rfl) ?_
    refine lv_dup2_11 hx hb dX5_runThroughBed_95 rfl rfl ?_
    refine w_ild (v := gi σ 10 x) S hK E 10 0 rfl rfl (vp_mono q_x (by decide)) rfl dX5_runThroughBed_96 ?_
    refine lv_iload hx hb dX5_runThroughBed_97 (lv_at hl 0 rfl) ?_
    refine lv_iadd hx hb dX5_runThroughBed_99 ?_
    refine w_ist (w' := wsW g ad lo ke fo ea (si σ 10 x ((gi σ 10 x) + (mn ((((gi σ 16 x) - (f_X2_height σ x)) * (gi σ 17 x)) / 4) y)))) S hK E 10 0 rfl rfl (vp_mono q_x (by decide)) wset_10 dX5_runThroughBed_100 (fun H locs E => ?_)
    refine lv_aload_n hx hb dX5_runThroughBed_101 rfl (lv_at hl 2 rfl) ?_
    refine wg_X5_35 (v := .ref (ad 4)) S hK E 0 rfl rfl dX5_runThroughBed_102 ?_
    refine wg_X5_147 (v := .ref (ad 28)) S hK E 4 rfl rfl dX5_runThroughBed_105 ?_
    refine lv_iconst (v := 3) hx hb dX5_runThroughBed_108 (by decide) ?_
    refine lv_dup2_11 hx hb dX5_runThroughBed_109 rfl rfl ?_
    refine w_lld (v := gl σ 28 3) S hK E 28 1 rfl rfl (show vp_in 3 9 by unfold vp_in; decide) rfl dX5_runThroughBed_110 ?_
    refine lv_iload hx hb dX5_runThroughBed_111 (lv_at hl 0 rfl) ?_
    refine lv_i2l (v := ((mn ((((gi σ 16 x) - (f_X2_height σ x)) * (gi σ 17 x)) / 4) y)).toInt64) hx hb dX5_runThroughBed_113 rfl ?_
    refine lv_ladd hx hb dX5_runThroughBed_114 ?_
    refine w_lst (w' := wsW g ad lo ke fo ea (sl (si σ 10 x ((gi σ 10 x) + (mn ((((gi σ 16 x) - (f_X2_height σ x)) * (gi σ 17 x)) / 4) y))) 28 3 ((gl σ 28 3) + (((mn ((((gi σ 16 x) - (f_X2_height σ x)) * (gi σ 17 x)) / 4) y)).toInt64)))) S hK E 28 1 rfl rfl (show vp_in 3 9 by unfold vp_in; decide) wset_28 dX5_runThroughBed_115 (fun H locs E => ?_)
    refine lv_iload_n hx hb dX5_runThroughBed_116 rfl (lv_at hl 1 rfl) ?_
    refine lv_if_le (tgt := 132) hx hb dX5_runThroughBed_117 (by decide) (fun c2 => ?_) (fun c2 => ?_)
    · have c2 : ((((gi σ 16 x) - (f_X2_height σ x)) * (gi σ 17 x)) / 4) ≤ 0 := c2
      refine lv_iload hx hb dX5_runThroughBed_132 (lv_at hl 0 rfl) ?_
      refine lv_ineg hx hb dX5_runThroughBed_134 ?_
      have hQ : f_X5_runThroughBed σ x y = ((-(mn ((((gi σ 16 x) - (f_X2_height σ x)) * (gi σ 17 x)) / 4) y)), (sl (si σ 10 x ((gi σ 10 x) + (mn ((((gi σ 16 x) - (f_X2_height σ x)) * (gi σ 17 x)) / 4) y))) 28 3 ((gl σ 28 3) + (((mn ((((gi σ 16 x) - (f_X2_height σ x)) * (gi σ 17 x)) / 4) y)).toInt64)))) := by
        unfold f_X5_runThroughBed; rw [if_pos c1, if_pos c2]
      have hq := nt_c (EK.kp (Kp_sl (τ := (si σ 10 x ((gi σ 10 x) + (mn ((((gi σ 16 x) - (f_X2_height σ x)) * (gi σ 17 x)) / 4) y)))) (k := 28) (x := 3) (v := ((gl σ 28 3) + (((mn ((((gi σ 16 x) - (f_X2_height σ x)) * (gi σ 17 x)) / 4) y)).toInt64))) Kp.rf) (EK.kp (Kp_si (τ := σ) (k := 10) (x := x) (v := ((gi σ 10 x) + (mn ((((gi σ 16 x) - (f_X2_height σ x)) * (gi σ 17 x)) / 4) y))) Kp.rf (by decide)) (EK.rf hE))).1 (by have := (EK.kp (Kp_sl (τ := (si σ 10 x ((gi σ 10 x) + (mn ((((gi σ 16 x) - (f_X2_height σ x)) * (gi σ 17 x)) / 4) y)))) (k := 28) (x := 3) (v := ((gl σ 28 3) + (((mn ((((gi σ 16 x) - (f_X2_height σ x)) * (gi σ 17 x)) / 4) y)).toInt64))) Kp.rf) (EK.kp (Kp_si (τ := σ) (k := 10) (x := x) (v := ((gi σ 10 x) + (mn ((((gi σ 16 x) - (f_X2_height σ x)) * (gi σ 17 x)) / 4) y))) Kp.rf (by decide)) (EK.rf hE))).2.2.1; omega)
      exact x_iret ((sl (si σ 10 x ((gi σ 10 x) + (mn ((((gi σ 16 x) - (f_X2_height σ x)) * (gi σ 17 x)) / 4) y))) 28 3 ((gl σ 28 3) + (((mn ((((gi σ 16 x) - (f_X2_height σ x)) * (gi σ 17 x)) / 4) y)).toInt64))), ea) S hr hlk hsz htt hK E dX5_runThroughBed_135 ⟨(congrArg Prod.fst hQ).symm, (congrArg Prod.snd hQ).symm⟩ rfl ⟨Nat.le_refl _, Nat.le_refl _⟩ ⟨by show eg (sl (si σ 10 x ((gi σ 10 x) + (mn ((((gi σ 16 x) - (f_X2_height σ x)) * (gi σ 17 x)) / 4) y))) 28 3 ((gl σ 28 3) + (((mn ((((gi σ 16 x) - (f_X2_height σ x)) * (gi σ 17 x)) / 4) y)).toInt64))) - eg σ + 0 ≤ 13; omega, by show 2 * ec (sl (si σ 10 x ((gi σ 10 x) + (mn ((((gi σ 16 x) - (f_X2_height σ x)) * (gi σ 17 x)) / 4) y))) 28 3 ((gl σ 28 3) + (((mn ((((gi σ 16 x) - (f_X2_height σ x)) * (gi σ 17 x)) / 4) y)).toInt64))) - 2 * ec σ + 0 ≤ 200002; omega⟩
    · have c2 : ¬ (((((gi σ 16 x) - (f_X2_height σ x)) * (gi σ 17 x)) / 4) ≤ 0) := c2
      refine lv_iload hx hb dX5_runThroughBed_120 (lv_at hl 0 rfl) ?_
      refine lv_iload_n hx hb dX5_runThroughBed_122 rfl (lv_at hl 4 rfl) ?_
      refine lv_icmp_ne (tgt := 132) hx hb dX5_runThroughBed_123 (by decide) (fun c3 => ?_) (fun c3 => ?_)
      · have c3 : ¬ ((mn ((((gi σ 16 x) - (f_X2_height σ x)) * (gi σ 17 x)) / 4) y) = y) := c3
        refine lv_iload hx hb dX5_runThroughBed_132 (lv_at hl 0 rfl) ?_
        refine lv_ineg hx hb dX5_runThroughBed_134 ?_
        have hQ : f_X5_runThroughBed σ x y = ((-(mn ((((gi σ 16 x) - (f_X2_height σ x)) * (gi σ 17 x)) / 4) y)), (sl (si σ 10 x ((gi σ 10 x) + (mn ((((gi σ 16 x) - (f_X2_height σ x)) * (gi σ 17 x)) / 4) y))) 28 3 ((gl σ 28 3) + (((mn ((((gi σ 16 x) - (f_X2_height σ x)) * (gi σ 17 x)) / 4) y)).toInt64)))) := by
          unfold f_X5_runThroughBed; rw [if_pos c1, if_neg c2, if_neg c3]
        have hq := nt_c (EK.kp (Kp_sl (τ := (si σ 10 x ((gi σ 10 x) + (mn ((((gi σ 16 x) - (f_X2_height σ x)) * (gi σ 17 x)) / 4) y)))) (k := 28) (x := 3) (v := ((gl σ 28 3) + (((mn ((((gi σ 16 x) - (f_X2_height σ x)) * (gi σ 17 x)) / 4) y)).toInt64))) Kp.rf) (EK.kp (Kp_si (τ := σ) (k := 10) (x := x) (v := ((gi σ 10 x) + (mn ((((gi σ 16 x) - (f_X2_height σ x)) * (gi σ 17 x)) / 4) y))) Kp.rf (by decide)) (EK.rf hE))).1 (by have := (EK.kp (Kp_sl (τ := (si σ 10 x ((gi σ 10 x) + (mn ((((gi σ 16 x) - (f_X2_height σ x)) * (gi σ 17 x)) / 4) y)))) (k := 28) (x := 3) (v := ((gl σ 28 3) + (((mn ((((gi σ 16 x) - (f_X2_height σ x)) * (gi σ 17 x)) / 4) y)).toInt64))) Kp.rf) (EK.kp (Kp_si (τ := σ) (k := 10) (x := x) (v := ((gi σ 10 x) + (mn ((((gi σ 16 x) - (f_X2_height σ x)) * (gi σ 17 x)) / 4) y))) Kp.rf (by decide)) (EK.rf hE))).2.2.1; omega)
        exact x_iret ((sl (si σ 10 x ((gi σ 10 x) + (mn ((((gi σ 16 x) - (f_X2_height σ x)) * (gi σ 17 x)) / 4) y))) 28 3 ((gl σ 28 3) + (((mn ((((gi σ 16 x) - (f_X2_height σ x)) * (gi σ 17 x)) / 4) y)).toInt64))), ea) S hr hlk hsz htt hK E dX5_runThroughBed_135 ⟨(congrArg Prod.fst hQ).symm, (congrArg Prod.snd hQ).symm⟩ rfl ⟨Nat.le_refl _, Nat.le_refl _⟩ ⟨by show eg (sl (si σ 10 x ((gi σ 10 x) + (mn ((((gi σ 16 x) - (f_X2_height σ x)) * (gi σ 17 x)) / 4) y))) 28 3 ((gl σ 28 3) + (((mn ((((gi σ 16 x) - (f_X2_height σ x)) * (gi σ 17 x)) / 4) y)).toInt64))) - eg σ + 0 ≤ 13; omega, by show 2 * ec (sl (si σ 10 x ((gi σ 10 x) + (mn ((((gi σ 16 x) - (f_X2_height σ x)) * (gi σ 17 x)) / 4) y))) 28 3 ((gl σ 28 3) + (((mn ((((gi σ 16 x) - (f_X2_height σ x)) * (gi σ 17 x)) / 4) y)).toInt64))) - 2 * ec σ + 0 ≤ 200002; omega⟩
      · have c3 : (mn ((((gi σ 16 x) - (f_X2_height σ x)) * (gi σ 17 x)) / 4) y) = y := c3
        refine lv_aload_n hx hb dX5_runThroughBed_126 rfl (lv_at hl 2 rfl) ?_
        refine lv_bipush (v := 100) hx hb dX5_runThroughBed_127 (by decide) ?_
        have hq := nt_c (EK.kp (Kp_sl (τ := (si σ 10 x ((gi σ 10 x) + (mn ((((gi σ 16 x) - (f_X2_height σ x)) * (gi σ 17 x)) / 4) y)))) (k := 28) (x := 3) (v := ((gl σ 28 3) + (((mn ((((gi σ 16 x) - (f_X2_height σ x)) * (gi σ 17 x)) / 4) y)).toInt64))) Kp.rf) (EK.kp (Kp_si (τ := σ) (k := 10) (x := x) (v := ((gi σ 10 x) + (mn ((((gi σ 16 x) - (f_X2_height σ x)) * (gi σ 17 x)) / 4) y))) Kp.rf (by decide)) (EK.rf hE))).1 (by have := (EK.kp (Kp_sl (τ := (si σ 10 x ((gi σ 10 x) + (mn ((((gi σ 16 x) - (f_X2_height σ x)) * (gi σ 17 x)) / 4) y)))) (k := 28) (x := 3) (v := ((gl σ 28 3) + (((mn ((((gi σ 16 x) - (f_X2_height σ x)) * (gi σ 17 x)) / 4) y)).toInt64))) Kp.rf) (EK.kp (Kp_si (τ := σ) (k := 10) (x := x) (v := ((gi σ 10 x) + (mn ((((gi σ 16 x) - (f_X2_height σ x)) * (gi σ 17 x)) / 4) y))) Kp.rf (by decide)) (EK.rf hE))).2.2.1; omega)
        refine w_retv (runV_X (As := [.int 100]) (rest := []) (q0 := 0) (n := 1) S hml hK (hZ.at E) (Cut.full E hA) (c_X5_note l g ad lo ke fo ea (sl (si σ 10 x ((gi σ 10 x) + (mn ((((gi σ 16 x) - (f_X2_height σ x)) * (gi σ 17 x)) / 4) y))) 28 3 ((gl σ 28 3) + (((mn ((((gi σ 16 x) - (f_X2_height σ x)) * (gi σ 17 x)) / 4) y)).toInt64))) 100 lc100 hke (EK.kp (Kp_sl (τ := (si σ 10 x ((gi σ 10 x) + (mn ((((gi σ 16 x) - (f_X2_height σ x)) * (gi σ 17 x)) / 4) y)))) (k := 28) (x := 3) (v := ((gl σ 28 3) + (((mn ((((gi σ 16 x) - (f_X2_height σ x)) * (gi σ 17 x)) / 4) y)).toInt64))) Kp.rf) (EK.kp (Kp_si (τ := σ) (k := 10) (x := x) (v := ((gi σ 10 x) + (mn ((((gi σ 16 x) - (f_X2_height σ x)) * (gi σ 17 x)) / 4) y))) Kp.rf (by decide)) (EK.rf hE))).1 (by have := (EK.kp (Kp_sl (τ := (si σ 10 x ((gi σ 10 x) + (mn ((((gi σ 16 x) - (f_X2_height σ x)) * (gi σ 17 x)) / 4) y)))) (k := 28) (x := 3) (v := ((gl σ 28 3) + (((mn ((((gi σ 16 x) - (f_X2_height σ x)) * (gi σ 17 x)) / 4) y)).toInt64))) Kp.rf) (EK.kp (Kp_si (τ := σ) (k := 10) (x := x) (v := ((gi σ 10 x) + (mn ((((gi σ 16 x) - (f_X2_height σ x)) * (gi σ 17 x)) / 4) y))) Kp.rf (by decide)) (EK.rf hE))).2.2.1; omega) _ _) (gi_wsV ml_X5_222 im_X5_note sl_X5_note in_X5 co_X5_note) ⟨rfl, by decide +kernel, by decide +kernel, by decide +kernel⟩ ⟨Nat.le_of_ble_eq_true rfl, Nat.le_of_ble_eq_true rfl⟩ rfl rfl rfl hl.1 rfl (Nat.le_of_ble_eq_true rfl) dX5_runThroughBed_129 ⟨by show eg (sl (si σ 10 x ((gi σ 10 x) + (mn ((((gi σ 16 x) - (f_X2_height σ x)) * (gi σ 17 x)) / 4) y))) 28 3 ((gl σ 28 3) + (((mn ((((gi σ 16 x) - (f_X2_height σ x)) * (gi σ 17 x)) / 4) y)).toInt64))) - eg σ + 1 ≤ 13; omega, by show 2 * ec (sl (si σ 10 x ((gi σ 10 x) + (mn ((((gi σ 16 x) - (f_X2_height σ x)) * (gi σ 17 x)) / 4) y))) 28 3 ((gl σ 28 3) + (((mn ((((gi σ 16 x) - (f_X2_height σ x)) * (gi σ 17 x)) / 4) y)).toInt64))) - 2 * ec σ + 100002 ≤ 200002; omega⟩) (Cut.full E hA) E (fun u H locs hp E => ?_)
        obtain ⟨u1, ea_4⟩ := u
        have hp : u1 = f_X5_note (sl (si σ 10 x ((gi σ 10 x) + (mn ((((gi σ 16 x) - (f_X2_height σ x)) * (gi σ 17 x)) / 4) y))) 28 3 ((gl σ 28 3) + (((mn ((((gi σ 16 x) - (f_X2_height σ x)) * (gi σ 17 x)) / 4) y)).toInt64))) 100 := hp
        subst hp
        have E : Ev g _ s.heap H locs (wsW g ad lo ke fo ea_4 (f_X5_note (sl (si σ 10 x ((gi σ 10 x) + (mn ((((gi σ 16 x) - (f_X2_height σ x)) * (gi σ 17 x)) / 4) y))) 28 3 ((gl σ 28 3) + (((mn ((((gi σ 16 x) - (f_X2_height σ x)) * (gi σ 17 x)) / 4) y)).toInt64))) 100)) := E
        refine W.widen (k := eg (f_X5_note (sl (si σ 10 x ((gi σ 10 x) + (mn ((((gi σ 16 x) - (f_X2_height σ x)) * (gi σ 17 x)) / 4) y))) 28 3 ((gl σ 28 3) + (((mn ((((gi σ 16 x) - (f_X2_height σ x)) * (gi σ 17 x)) / 4) y)).toInt64))) 100) - eg σ) (n := 2 * ec (f_X5_note (sl (si σ 10 x ((gi σ 10 x) + (mn ((((gi σ 16 x) - (f_X2_height σ x)) * (gi σ 17 x)) / 4) y))) 28 3 ((gl σ 28 3) + (((mn ((((gi σ 16 x) - (f_X2_height σ x)) * (gi σ 17 x)) / 4) y)).toInt64))) 100) - 2 * ec σ) (by have h1 := (EK.kp (Kp_sl (τ := (si σ 10 x ((gi σ 10 x) + (mn ((((gi σ 16 x) - (f_X2_height σ x)) * (gi σ 17 x)) / 4) y)))) (k := 28) (x := 3) (v := ((gl σ 28 3) + (((mn ((((gi σ 16 x) - (f_X2_height σ x)) * (gi σ 17 x)) / 4) y)).toInt64))) Kp.rf) (EK.kp (Kp_si (τ := σ) (k := 10) (x := x) (v := ((gi σ 10 x) + (mn ((((gi σ 16 x) - (f_X2_height σ x)) * (gi σ 17 x)) / 4) y))) Kp.rf (by decide)) (EK.rf hE))).2.2.2.1; have h2 := (EK_X5_note (σ := (sl (si σ 10 x ((gi σ 10 x) + (mn ((((gi σ 16 x) - (f_X2_height σ x)) * (gi σ 17 x)) / 4) y))) 28 3 ((gl σ 28 3) + (((mn ((((gi σ 16 x) - (f_X2_height σ x)) * (gi σ 17 x)) / 4) y)).toInt64)))) (c := 100) (EK.kp (Kp_sl (τ := (si σ 10 x ((gi σ 10 x) + (mn ((((gi σ 16 x) - (f_X2_height σ x)) * (gi σ 17 x)) / 4) y)))) (k := 28) (x := 3) (v := ((gl σ 28 3) + (((mn ((((gi σ 16 x) - (f_X2_height σ x)) * (gi σ 17 x)) / 4) y)).toInt64))) Kp.rf) (EK.kp (Kp_si (τ := σ) (k := 10) (x := x) (v := ((gi σ 10 x) + (mn ((((gi σ 16 x) - (f_X2_height σ x)) * (gi σ 17 x)) / 4) y))) Kp.rf (by decide)) (EK.rf hE))).1 (by have := (EK.kp (Kp_sl (τ := (si σ 10 x ((gi σ 10 x) + (mn ((((gi σ 16 x) - (f_X2_height σ x)) * (gi σ 17 x)) / 4) y)))) (k := 28) (x := 3) (v := ((gl σ 28 3) + (((mn ((((gi σ 16 x) - (f_X2_height σ x)) * (gi σ 17 x)) / 4) y)).toInt64))) Kp.rf) (EK.kp (Kp_si (τ := σ) (k := 10) (x := x) (v := ((gi σ 10 x) + (mn ((((gi σ 16 x) - (f_X2_height σ x)) * (gi σ 17 x)) / 4) y))) Kp.rf (by decide)) (EK.rf hE))).2.2.1; omega) lc100).2.2.2.1; show eg (sl (si σ 10 x ((gi σ 10 x) + (mn ((((gi σ 16 x) - (f_X2_height σ x)) * (gi σ 17 x)) / 4) y))) 28 3 ((gl σ 28 3) + (((mn ((((gi σ 16 x) - (f_X2_height σ x)) * (gi σ 17 x)) / 4) y)).toInt64))) - eg σ + (eg (f_X5_note (sl (si σ 10 x ((gi σ 10 x) + (mn ((((gi σ 16 x) - (f_X2_height σ x)) * (gi σ 17 x)) / 4) y))) 28 3 ((gl σ 28 3) + (((mn ((((gi σ 16 x) - (f_X2_height σ x)) * (gi σ 17 x)) / 4) y)).toInt64))) 100) - eg (sl (si σ 10 x ((gi σ 10 x) + (mn ((((gi σ 16 x) - (f_X2_height σ x)) * (gi σ 17 x)) / 4) y))) 28 3 ((gl σ 28 3) + (((mn ((((gi σ 16 x) - (f_X2_height σ x)) * (gi σ 17 x)) / 4) y)).toInt64)))) ≤ _; omega) (by have h1 := (EK.kp (Kp_sl (τ := (si σ 10 x ((gi σ 10 x) + (mn ((((gi σ 16 x) - (f_X2_height σ x)) * (gi σ 17 x)) / 4) y)))) (k := 28) (x := 3) (v := ((gl σ 28 3) + (((mn ((((gi σ 16 x) - (f_X2_height σ x)) * (gi σ 17 x)) / 4) y)).toInt64))) Kp.rf) (EK.kp (Kp_si (τ := σ) (k := 10) (x := x) (v := ((gi σ 10 x) + (mn ((((gi σ 16 x) - (f_X2_height σ x)) * (gi σ 17 x)) / 4) y))) Kp.rf (by decide)) (EK.rf hE))).2.2.2.2.1; have h2 := (EK_X5_note (σ := (sl (si σ 10 x ((gi σ 10 x) + (mn ((((gi σ 16 x) - (f_X2_height σ x)) * (gi σ 17 x)) / 4) y))) 28 3 ((gl σ 28 3) + (((mn ((((gi σ 16 x) - (f_X2_height σ x)) * (gi σ 17 x)) / 4) y)).toInt64)))) (c := 100) (EK.kp (Kp_sl (τ := (si σ 10 x ((gi σ 10 x) + (mn ((((gi σ 16 x) - (f_X2_height σ x)) * (gi σ 17 x)) / 4) y)))) (k := 28) (x := 3) (v := ((gl σ 28 3) + (((mn ((((gi σ 16 x) - (f_X2_height σ x)) * (gi σ 17 x)) / 4) y)).toInt64))) Kp.rf) (EK.kp (Kp_si (τ := σ) (k := 10) (x := x) (v := ((gi σ 10 x) + (mn ((((gi σ 16 x) - (f_X2_height σ x)) * (gi σ 17 x)) / 4) y))) Kp.rf (by decide)) (EK.rf hE))).1 (by have := (EK.kp (Kp_sl (τ := (si σ 10 x ((gi σ 10 x) + (mn ((((gi σ 16 x) - (f_X2_height σ x)) * (gi σ 17 x)) / 4) y)))) (k := 28) (x := 3) (v := ((gl σ 28 3) + (((mn ((((gi σ 16 x) - (f_X2_height σ x)) * (gi σ 17 x)) / 4) y)).toInt64))) Kp.rf) (EK.kp (Kp_si (τ := σ) (k := 10) (x := x) (v := ((gi σ 10 x) + (mn ((((gi σ 16 x) - (f_X2_height σ x)) * (gi σ 17 x)) / 4) y))) Kp.rf (by decide)) (EK.rf hE))).2.2.1; omega) lc100).2.2.2.2.1; show 2 * ec (sl (si σ 10 x ((gi σ 10 x) + (mn ((((gi σ 16 x) - (f_X2_height σ x)) * (gi σ 17 x)) / 4) y))) 28 3 ((gl σ 28 3) + (((mn ((((gi σ 16 x) - (f_X2_height σ x)) * (gi σ 17 x)) / 4) y)).toInt64))) - 2 * ec σ + (2 * ec (f_X5_note (sl (si σ 10 x ((gi σ 10 x) + (mn ((((gi σ 16 x) - (f_X2_height σ x)) * (gi σ 17 x)) / 4) y))) 28 3 ((gl σ 28 3) + (((mn ((((gi σ 16 x) - (f_X2_height σ x)) * (gi σ 17 x)) / 4) y)).toInt64))) 100) - 2 * ec (sl (si σ 10 x ((gi σ 10 x) + (mn ((((gi σ 16 x) - (f_X2_height σ x)) * (gi σ 17 x)) / 4) y))) 28 3 ((gl σ 28 3) + (((mn ((((gi σ 16 x) - (f_X2_height σ x)) * (gi σ 17 x)) / 4) y)).toInt64)))) ≤ _; omega) ?_
        refine lv_iload hx hb dX5_runThroughBed_132 (lv_at hl 0 rfl) ?_
        refine lv_ineg hx hb dX5_runThroughBed_134 ?_
        have hQ : f_X5_runThroughBed σ x y = ((-(mn ((((gi σ 16 x) - (f_X2_height σ x)) * (gi σ 17 x)) / 4) y)), (f_X5_note (sl (si σ 10 x ((gi σ 10 x) + (mn ((((gi σ 16 x) - (f_X2_height σ x)) * (gi σ 17 x)) / 4) y))) 28 3 ((gl σ 28 3) + (((mn ((((gi σ 16 x) - (f_X2_height σ x)) * (gi σ 17 x)) / 4) y)).toInt64))) 100)) := by
          unfold f_X5_runThroughBed; rw [if_pos c1, if_neg c2, if_pos c3]
        have hq := nt_c (EK.tr (EK_X5_note (σ := (sl (si σ 10 x ((gi σ 10 x) + (mn ((((gi σ 16 x) - (f_X2_height σ x)) * (gi σ 17 x)) / 4) y))) 28 3 ((gl σ 28 3) + (((mn ((((gi σ 16 x) - (f_X2_height σ x)) * (gi σ 17 x)) / 4) y)).toInt64)))) (c := 100) (EK.kp (Kp_sl (τ := (si σ 10 x ((gi σ 10 x) + (mn ((((gi σ 16 x) - (f_X2_height σ x)) * (gi σ 17 x)) / 4) y)))) (k := 28) (x := 3) (v := ((gl σ 28 3) + (((mn ((((gi σ 16 x) - (f_X2_height σ x)) * (gi σ 17 x)) / 4) y)).toInt64))) Kp.rf) (EK.kp (Kp_si (τ := σ) (k := 10) (x := x) (v := ((gi σ 10 x) + (mn ((((gi σ 16 x) - (f_X2_height σ x)) * (gi σ 17 x)) / 4) y))) Kp.rf (by decide)) (EK.rf hE))).1 (by have := (EK.kp (Kp_sl (τ := (si σ 10 x ((gi σ 10 x) + (mn ((((gi σ 16 x) - (f_X2_height σ x)) * (gi σ 17 x)) / 4) y)))) (k := 28) (x := 3) (v := ((gl σ 28 3) + (((mn ((((gi σ 16 x) - (f_X2_height σ x)) * (gi σ 17 x)) / 4) y)).toInt64))) Kp.rf) (EK.kp (Kp_si (τ := σ) (k := 10) (x := x) (v := ((gi σ 10 x) + (mn ((((gi σ 16 x) - (f_X2_height σ x)) * (gi σ 17 x)) / 4) y))) Kp.rf (by decide)) (EK.rf hE))).2.2.1; omega) lc100) (EK.kp (Kp_sl (τ := (si σ 10 x ((gi σ 10 x) + (mn ((((gi σ 16 x) - (f_X2_height σ x)) * (gi σ 17 x)) / 4) y)))) (k := 28) (x := 3) (v := ((gl σ 28 3) + (((mn ((((gi σ 16 x) - (f_X2_height σ x)) * (gi σ 17 x)) / 4) y)).toInt64))) Kp.rf) (EK.kp (Kp_si (τ := σ) (k := 10) (x := x) (v := ((gi σ 10 x) + (mn ((((gi σ 16 x) - (f_X2_height σ x)) * (gi σ 17 x)) / 4) y))) Kp.rf (by decide)) (EK.rf hE)))).1 (by have := (EK.tr (EK_X5_note (σ := (sl (si σ 10 x ((gi σ 10 x) + (mn ((((gi σ 16 x) - (f_X2_height σ x)) * (gi σ 17 x)) / 4) y))) 28 3 ((gl σ 28 3) + (((mn ((((gi σ 16 x) - (f_X2_height σ x)) * (gi σ 17 x)) / 4) y)).toInt64)))) (c := 100) (EK.kp (Kp_sl (τ := (si σ 10 x ((gi σ 10 x) + (mn ((((gi σ 16 x) - (f_X2_height σ x)) * (gi σ 17 x)) / 4) y)))) (k := 28) (x := 3) (v := ((gl σ 28 3) + (((mn ((((gi σ 16 x) - (f_X2_height σ x)) * (gi σ 17 x)) / 4) y)).toInt64))) Kp.rf) (EK.kp (Kp_si (τ := σ) (k := 10) (x := x) (v := ((gi σ 10 x) + (mn ((((gi σ 16 x) - (f_X2_height σ x)) * (gi σ 17 x)) / 4) y))) Kp.rf (by decide)) (EK.rf hE))).1 (by have := (EK.kp (Kp_sl (τ := (si σ 10 x ((gi σ 10 x) + (mn ((((gi σ 16 x) - (f_X2_height σ x)) * (gi σ 17 x)) / 4) y)))) (k := 28) (x := 3) (v := ((gl σ 28 3) + (((mn ((((gi σ 16 x) - (f_X2_height σ x)) * (gi σ 17 x)) / 4) y)).toInt64))) Kp.rf) (EK.kp (Kp_si (τ := σ) (k := 10) (x := x) (v := ((gi σ 10 x) + (mn ((((gi σ 16 x) - (f_X2_height σ x)) * (gi σ 17 x)) / 4) y))) Kp.rf (by decide)) (EK.rf hE))).2.2.1; omega) lc100) (EK.kp (Kp_sl (τ := (si σ 10 x ((gi σ 10 x) + (mn ((((gi σ 16 x) - (f_X2_height σ x)) * (gi σ 17 x)) / 4) y)))) (k := 28) (x := 3) (v := ((gl σ 28 3) + (((mn ((((gi σ 16 x) - (f_X2_height σ x)) * (gi σ 17 x)) / 4) y)).toInt64))) Kp.rf) (EK.kp (Kp_si (τ := σ) (k := 10) (x := x) (v := ((gi σ 10 x) + (mn ((((gi σ 16 x) - (f_X2_height σ x)) * (gi σ 17 x)) / 4) y))) Kp.rf (by decide)) (EK.rf hE)))).2.2.1; omega)
        exact x_iret ((f_X5_note (sl (si σ 10 x ((gi σ 10 x) + (mn ((((gi σ 16 x) - (f_X2_height σ x)) * (gi σ 17 x)) / 4) y))) 28 3 ((gl σ 28 3) + (((mn ((((gi σ 16 x) - (f_X2_height σ x)) * (gi σ 17 x)) / 4) y)).toInt64))) 100), ea_4) S hr hlk hsz htt hK E dX5_runThroughBed_135 ⟨(congrArg Prod.fst hQ).symm, (congrArg Prod.snd hQ).symm⟩ rfl ⟨Nat.le_refl _, Nat.le_refl _⟩ ⟨by show eg (f_X5_note (sl (si σ 10 x ((gi σ 10 x) + (mn ((((gi σ 16 x) - (f_X2_height σ x)) * (gi σ 17 x)) / 4) y))) 28 3 ((gl σ 28 3) + (((mn ((((gi σ 16 x) - (f_X2_height σ x)) * (gi σ 17 x)) / 4) y)).toInt64))) 100) - eg σ + 0 ≤ 13; omega, by show 2 * ec (f_X5_note (sl (si σ 10 x ((gi σ 10 x) + (mn ((((gi σ 16 x) - (f_X2_height σ x)) * (gi σ 17 x)) / 4) y))) 28 3 ((gl σ 28 3) + (((mn ((((gi σ 16 x) - (f_X2_height σ x)) * (gi σ 17 x)) / 4) y)).toInt64))) 100) - 2 * ec σ + 0 ≤ 200002; omega⟩
  · have c1 : ¬ (0 ≤ ((((gi σ 16 x) - (f_X2_height σ x)) * (gi σ 17 x)) / 4)) := c1
    refine lv_iload_n hx hb dX5_runThroughBed_35 rfl (lv_at hl 0 rfl) ?_
    refine lv_ineg hx hb dX5_runThroughBed_36 ?_
    refine lv_aload_n hx hb dX5_runThroughBed_37 rfl (lv_at hl 1 rfl) ?_
    refine wg_X5_12 (v := .ref (ad 1)) S hK E 0 rfl rfl dX5_runThroughBed_38 ?_
    refine wg_X5_151 (v := .ref (ad 10)) S hK E 1 rfl rfl dX5_runThroughBed_41 ?_
    refine lv_iload_n hx hb dX5_runThroughBed_44 rfl (lv_at hl 2 rfl) ?_
    refine w_ild (v := gi σ 10 x) S hK E 10 0 rfl rfl (vp_mono q_x (by decide)) rfl dX5_runThroughBed_45 ?_
    have hq := nt_c (EK.rf hE).1 (by have := (EK.rf hE).2.2.1; omega)
    refine w_min (v := (mn (-((((gi σ 16 x) - (f_X2_height σ x)) * (gi σ 17 x)) / 4)) (gi σ 10 x))) S hml hl ml_X5_207 st_min in_J9 co_min (Nat.le_of_ble_eq_true rfl) (Nat.le_of_ble_eq_true rfl) ⟨by show eg σ - eg σ + 0 ≤ 13; omega, by show 2 * ec σ - 2 * ec σ + 0 ≤ 200002; omega⟩ rfl dX5_runThroughBed_46 ?_
    refine lv_istore (lv' := [(4, .int (mn (-((((gi σ 16 x) - (f_X2_height σ x)) * (gi σ 17 x)) / 4)) (gi σ 10 x))), (3, .int ((((gi σ 16 x) - (f_X2_height σ x)) * (gi σ 17 x)) / 4)), (0, .ref (ad 0)), (1, .int x), (2, .int y)]) hx hb dX5_runThroughBed_49 hl (by decide) rfl (fun ls hl => ?_)
    refine lv_aload_n hx hb dX5_runThroughBed_51 rfl (lv_at hl 2 rfl) ?_
    refine wg_X5_12 (v := .ref (ad 1)) S hK E 0 rfl rfl dX5_runThroughBed_52 ?_
    refine lv_iload_n hx hb dX5_runThroughBed_55 rfl (lv_at hl 3 rfl) ?_
    refine lv_iload hx hb dX5_runThroughBed_56 (lv_at hl 0 rfl) ?_
    have hq := nt_c (EK.rf hE).1 (by have := (EK.rf hE).2.2.1; omega)
    refine w_reti (runV_X (As := [.int x, .int (mn (-((((gi σ 16 x) - (f_X2_height σ x)) * (gi σ 17 x)) / 4)) (gi σ 10 x))]) (rest := []) (q0 := 1) (n := 2) S hml hK (hZ.at E) (Cut.full E hA) (c_X2_takeOut l g ad lo ke fo ea σ x (mn (-((((gi σ 16 x) - (f_X2_height σ x)) * (gi σ 17 x)) / 4)) (gi σ 10 x)) (vp_mono q_x (by decide)) _ _) (gi_wsV ml_X5_213 im_X2_takeOut sl_X2_takeOut in_X2 co_X2_takeOut) ⟨rfl, by decide +kernel, by decide +kernel, by decide +kernel⟩ ⟨Nat.le_of_ble_eq_true rfl, Nat.le_of_ble_eq_true rfl⟩ rfl rfl rfl hl.1 rfl (Nat.le_of_ble_eq_true rfl) dX5_runThroughBed_58 ⟨by show eg σ - eg σ + 0 ≤ 13; omega, by show 2 * ec σ - 2 * ec σ + 0 ≤ 200002; omega⟩) (Cut.full E hA) E (fun r u H locs hp E => ?_)
    obtain ⟨rfl, rfl⟩ := hp
    have E : Ev g _ s.heap H locs (wsW g ad lo ke fo ea (f_X2_takeOut σ x (mn (-((((gi σ 16 x) - (f_X2_height σ x)) * (gi σ 17 x)) / 4)) (gi σ 10 x))).2) := E
    refine W.widen (k := eg (f_X2_takeOut σ x (mn (-((((gi σ 16 x) - (f_X2_height σ x)) * (gi σ 17 x)) / 4)) (gi σ 10 x))).2 - eg σ) (n := 2 * ec (f_X2_takeOut σ x (mn (-((((gi σ 16 x) - (f_X2_height σ x)) * (gi σ 17 x)) / 4)) (gi σ 10 x))).2 - 2 * ec σ) (Kp_wd1 (KP_X2_takeOut (σ := σ) (x := x) (y := (mn (-((((gi σ 16 x) - (f_X2_height σ x)) * (gi σ 17 x)) / 4)) (gi σ 10 x))))) (Kp_wd2 (KP_X2_takeOut (σ := σ) (x := x) (y := (mn (-((((gi σ 16 x) - (f_X2_height σ x)) * (gi σ 17 x)) / 4)) (gi σ 10 x))))) ?_
    refine lv_pop hx hb dX5_runThroughBed_61 rfl ?_
    refine lv_aload_n hx hb dX5_runThroughBed_62 rfl (lv_at hl 2 rfl) ?_
    refine wg_X5_35 (v := .ref (ad 4)) S hK E 0 rfl rfl dX5_runThroughBed_63 ?_
    refine wg_X5_147 (v := .ref (ad 28)) S hK E 4 rfl rfl dX5_runThroughBed_66 ?_
    refine lv_iconst (v := 4) hx hb dX5_runThroughBed_69 (by decide) ?_
    refine lv_dup2_11 hx hb dX5_runThroughBed_70 rfl rfl ?_
    refine w_lld (v := gl (f_X2_takeOut σ x (mn (-((((gi σ 16 x) - (f_X2_height σ x)) * (gi σ 17 x)) / 4)) (gi σ 10 x))).2 28 4) S hK E 28 1 rfl rfl (show vp_in 4 9 by unfold vp_in; decide) rfl dX5_runThroughBed_71 ?_
    refine lv_iload hx hb dX5_runThroughBed_72 (lv_at hl 0 rfl) ?_
    refine lv_i2l (v := ((mn (-((((gi σ 16 x) - (f_X2_height σ x)) * (gi σ 17 x)) / 4)) (gi σ 10 x))).toInt64) hx hb dX5_runThroughBed_74 rfl ?_
    refine lv_ladd hx hb dX5_runThroughBed_75 ?_
    refine w_lst (w' := wsW g ad lo ke fo ea (sl (f_X2_takeOut σ x (mn (-((((gi σ 16 x) - (f_X2_height σ x)) * (gi σ 17 x)) / 4)) (gi σ 10 x))).2 28 4 ((gl (f_X2_takeOut σ x (mn (-((((gi σ 16 x) - (f_X2_height σ x)) * (gi σ 17 x)) / 4)) (gi σ 10 x))).2 28 4) + (((mn (-((((gi σ 16 x) - (f_X2_height σ x)) * (gi σ 17 x)) / 4)) (gi σ 10 x))).toInt64)))) S hK E 28 1 rfl rfl (show vp_in 4 9 by unfold vp_in; decide) wset_28 dX5_runThroughBed_76 (fun H locs E => ?_)
    refine lv_iload hx hb dX5_runThroughBed_77 (lv_at hl 0 rfl) ?_
    have hQ : f_X5_runThroughBed σ x y = ((mn (-((((gi σ 16 x) - (f_X2_height σ x)) * (gi σ 17 x)) / 4)) (gi σ 10 x)), (sl (f_X2_takeOut σ x (mn (-((((gi σ 16 x) - (f_X2_height σ x)) * (gi σ 17 x)) / 4)) (gi σ 10 x))).2 28 4 ((gl (f_X2_takeOut σ x (mn (-((((gi σ 16 x) - (f_X2_height σ x)) * (gi σ 17 x)) / 4)) (gi σ 10 x))).2 28 4) + (((mn (-((((gi σ 16 x) - (f_X2_height σ x)) * (gi σ 17 x)) / 4)) (gi σ 10 x))).toInt64)))) := by
      unfold f_X5_runThroughBed; rw [if_neg c1]
    have hq := nt_c (EK.kp (Kp_sl (τ := (f_X2_takeOut σ x (mn (-((((gi σ 16 x) - (f_X2_height σ x)) * (gi σ 17 x)) / 4)) (gi σ 10 x))).2) (k := 28) (x := 4) (v := ((gl (f_X2_takeOut σ x (mn (-((((gi σ 16 x) - (f_X2_height σ x)) * (gi σ 17 x)) / 4)) (gi σ 10 x))).2 28 4) + (((mn (-((((gi σ 16 x) - (f_X2_height σ x)) * (gi σ 17 x)) / 4)) (gi σ 10 x))).toInt64))) Kp.rf) (EK.kp (KP_X2_takeOut (σ := σ) (x := x) (y := (mn (-((((gi σ 16 x) - (f_X2_height σ x)) * (gi σ 17 x)) / 4)) (gi σ 10 x)))) (EK.rf hE))).1 (by have := (EK.kp (Kp_sl (τ := (f_X2_takeOut σ x (mn (-((((gi σ 16 x) - (f_X2_height σ x)) * (gi σ 17 x)) / 4)) (gi σ 10 x))).2) (k := 28) (x := 4) (v := ((gl (f_X2_takeOut σ x (mn (-((((gi σ 16 x) - (f_X2_height σ x)) * (gi σ 17 x)) / 4)) (gi σ 10 x))).2 28 4) + (((mn (-((((gi σ 16 x) - (f_X2_height σ x)) * (gi σ 17 x)) / 4)) (gi σ 10 x))).toInt64))) Kp.rf) (EK.kp (KP_X2_takeOut (σ := σ) (x := x) (y := (mn (-((((gi σ 16 x) - (f_X2_height σ x)) * (gi σ 17 x)) / 4)) (gi σ 10 x)))) (EK.rf hE))).2.2.1; omega)
    exact x_iret ((sl (f_X2_takeOut σ x (mn (-((((gi σ 16 x) - (f_X2_height σ x)) * (gi σ 17 x)) / 4)) (gi σ 10 x))).2 28 4 ((gl (f_X2_takeOut σ x (mn (-((((gi σ 16 x) - (f_X2_height σ x)) * (gi σ 17 x)) / 4)) (gi σ 10 x))).2 28 4) + (((mn (-((((gi σ 16 x) - (f_X2_height σ x)) * (gi σ 17 x)) / 4)) (gi σ 10 x))).toInt64))), ea) S hr hlk hsz htt hK E dX5_runThroughBed_79 ⟨(congrArg Prod.fst hQ).symm, (congrArg Prod.snd hQ).symm⟩ rfl ⟨Nat.le_refl _, Nat.le_refl _⟩ ⟨by show eg (sl (f_X2_takeOut σ x (mn (-((((gi σ 16 x) - (f_X2_height σ x)) * (gi σ 17 x)) / 4)) (gi σ 10 x))).2 28 4 ((gl (f_X2_takeOut σ x (mn (-((((gi σ 16 x) - (f_X2_height σ x)) * (gi σ 17 x)) / 4)) (gi σ 10 x))).2 28 4) + (((mn (-((((gi σ 16 x) - (f_X2_height σ x)) * (gi σ 17 x)) / 4)) (gi σ 10 x))).toInt64))) - eg σ + 0 ≤ 13; omega, by show 2 * ec (sl (f_X2_takeOut σ x (mn (-((((gi σ 16 x) - (f_X2_height σ x)) * (gi σ 17 x)) / 4)) (gi σ 10 x))).2 28 4 ((gl (f_X2_takeOut σ x (mn (-((((gi σ 16 x) - (f_X2_height σ x)) * (gi σ 17 x)) / 4)) (gi σ 10 x))).2 28 4) + (((mn (-((((gi σ 16 x) - (f_X2_height σ x)) * (gi σ 17 x)) / 4)) (gi σ 10 x))).toInt64))) - 2 * ec σ + 0 ≤ 200002; omega⟩

def f_X5_pumpWell (σ : Sg) (j : Nat) : Sg := if (f_X4_wanted σ (gi σ 27 (nI j))) ≤ (mn (f_X4_wanted σ (gi σ 27 (nI j))) (gi σ 10 (gi σ 18 (gi σ 27 (nI j))))) then (sl (sl (si (f_X2_takeOut σ (gi σ 18 (gi σ 27 (nI j))) (mn (f_X4_wanted σ (gi σ 27 (nI j))) (gi σ 10 (gi σ 18 (gi σ 27 (nI j)))))).2 22 (gi σ 27 (nI j)) ((gi (f_X2_takeOut σ (gi σ 18 (gi σ 27 (nI j))) (mn (f_X4_wanted σ (gi σ 27 (nI j))) (gi σ 10 (gi σ 18 (gi σ 27 (nI j)))))).2 22 (gi σ 27 (nI j))) + (mn (f_X4_wanted σ (gi σ 27 (nI j))) (gi σ 10 (gi σ 18 (gi σ 27 (nI j))))))) 23 (gi σ 27 (nI j)) ((gl (f_X2_takeOut σ (gi σ 18 (gi σ 27 (nI j))) (mn (f_X4_wanted σ (gi σ 27 (nI j))) (gi σ 10 (gi σ 18 (gi σ 27 (nI j)))))).2 23 (gi σ 27 (nI j))) + (((mn (f_X4_wanted σ (gi σ 27 (nI j))) (gi σ 10 (gi σ 18 (gi σ 27 (nI j)))))).toInt64))) 28 2 ((gl (f_X2_takeOut σ (gi σ 18 (gi σ 27 (nI j))) (mn (f_X4_wanted σ (gi σ 27 (nI j))) (gi σ 10 (gi σ 18 (gi σ 27 (nI j)))))).2 28 2) + (((mn (f_X4_wanted σ (gi σ 27 (nI j))) (gi σ 10 (gi σ 18 (gi σ 27 (nI j)))))).toInt64))) else (f_X4_shutYounger (f_X5_note (sl (sl (si (f_X2_takeOut σ (gi σ 18 (gi σ 27 (nI j))) (mn (f_X4_wanted σ (gi σ 27 (nI j))) (gi σ 10 (gi σ 18 (gi σ 27 (nI j)))))).2 22 (gi σ 27 (nI j)) ((gi (f_X2_takeOut σ (gi σ 18 (gi σ 27 (nI j))) (mn (f_X4_wanted σ (gi σ 27 (nI j))) (gi σ 10 (gi σ 18 (gi σ 27 (nI j)))))).2 22 (gi σ 27 (nI j))) + (mn (f_X4_wanted σ (gi σ 27 (nI j))) (gi σ 10 (gi σ 18 (gi σ 27 (nI j))))))) 23 (gi σ 27 (nI j)) ((gl (f_X2_takeOut σ (gi σ 18 (gi σ 27 (nI j))) (mn (f_X4_wanted σ (gi σ 27 (nI j))) (gi σ 10 (gi σ 18 (gi σ 27 (nI j)))))).2 23 (gi σ 27 (nI j))) + (((mn (f_X4_wanted σ (gi σ 27 (nI j))) (gi σ 10 (gi σ 18 (gi σ 27 (nI j)))))).toInt64))) 28 2 ((gl (f_X2_takeOut σ (gi σ 18 (gi σ 27 (nI j))) (mn (f_X4_wanted σ (gi σ 27 (nI j))) (gi σ 10 (gi σ 18 (gi σ 27 (nI j)))))).2 28 2) + (((mn (f_X4_wanted σ (gi σ 27 (nI j))) (gi σ 10 (gi σ 18 (gi σ 27 (nI j)))))).toInt64))) 99) j)
theorem EK_X5_pumpWell {σ : Sg} {j : Nat} (hE : EvOK σ) (hB : en σ + 1 ≤ 20000)  : EK (1) (f_X5_pumpWell σ j) σ := by
  unfold f_X5_pumpWell
  split
  · exact EK.up (EK.kp (Kp_sl (τ := (sl (si (f_X2_takeOut σ (gi σ 18 (gi σ 27 (nI j))) (mn (f_X4_wanted σ (gi σ 27 (nI j))) (gi σ 10 (gi σ 18 (gi σ 27 (nI j)))))).2 22 (gi σ 27 (nI j)) ((gi (f_X2_takeOut σ (gi σ 18 (gi σ 27 (nI j))) (mn (f_X4_wanted σ (gi σ 27 (nI j))) (gi σ 10 (gi σ 18 (gi σ 27 (nI j)))))).2 22 (gi σ 27 (nI j))) + (mn (f_X4_wanted σ (gi σ 27 (nI j))) (gi σ 10 (gi σ 18 (gi σ 27 (nI j))))))) 23 (gi σ 27 (nI j)) ((gl (f_X2_takeOut σ (gi σ 18 (gi σ 27 (nI j))) (mn (f_X4_wanted σ (gi σ 27 (nI j))) (gi σ 10 (gi σ 18 (gi σ 27 (nI j)))))).2 23 (gi σ 27 (nI j))) + (((mn (f_X4_wanted σ (gi σ 27 (nI j))) (gi σ 10 (gi σ 18 (gi σ 27 (nI j)))))).toInt64)))) (k := 28) (x := 2) (v := ((gl (f_X2_takeOut σ (gi σ 18 (gi σ 27 (nI j))) (mn (f_X4_wanted σ (gi σ 27 (nI j))) (gi σ 10 (gi σ 18 (gi σ 27 (nI j)))))).2 28 2) + (((mn (f_X4_wanted σ (gi σ 27 (nI j))) (gi σ 10 (gi σ 18 (gi σ 27 (nI j)))))).toInt64))) Kp.rf) (EK.kp (Kp_sl (τ := (si (f_X2_takeOut σ (gi σ 18 (gi σ 27 (nI j))) (mn (f_X4_wanted σ (gi σ 27 (nI j))) (gi σ 10 (gi σ 18 (gi σ 27 (nI j)))))).2 22 (gi σ 27 (nI j)) ((gi (f_X2_takeOut σ (gi σ 18 (gi σ 27 (nI j))) (mn (f_X4_wanted σ (gi σ 27 (nI j))) (gi σ 10 (gi σ 18 (gi σ 27 (nI j)))))).2 22 (gi σ 27 (nI j))) + (mn (f_X4_wanted σ (gi σ 27 (nI j))) (gi σ 10 (gi σ 18 (gi σ 27 (nI j)))))))) (k := 23) (x := (gi σ 27 (nI j))) (v := ((gl (f_X2_takeOut σ (gi σ 18 (gi σ 27 (nI j))) (mn (f_X4_wanted σ (gi σ 27 (nI j))) (gi σ 10 (gi σ 18 (gi σ 27 (nI j)))))).2 23 (gi σ 27 (nI j))) + (((mn (f_X4_wanted σ (gi σ 27 (nI j))) (gi σ 10 (gi σ 18 (gi σ 27 (nI j)))))).toInt64))) Kp.rf) (EK.kp (Kp_si (τ := (f_X2_takeOut σ (gi σ 18 (gi σ 27 (nI j))) (mn (f_X4_wanted σ (gi σ 27 (nI j))) (gi σ 10 (gi σ 18 (gi σ 27 (nI j)))))).2) (k := 22) (x := (gi σ 27 (nI j))) (v := ((gi (f_X2_takeOut σ (gi σ 18 (gi σ 27 (nI j))) (mn (f_X4_wanted σ (gi σ 27 (nI j))) (gi σ 10 (gi σ 18 (gi σ 27 (nI j)))))).2 22 (gi σ 27 (nI j))) + (mn (f_X4_wanted σ (gi σ 27 (nI j))) (gi σ 10 (gi σ 18 (gi σ 27 (nI j))))))) Kp.rf (by decide)) (EK.kp (KP_X2_takeOut (σ := σ) (x := (gi σ 18 (gi σ 27 (nI j)))) (y := (mn (f_X4_wanted σ (gi σ 27 (nI j))) (gi σ 10 (gi σ 18 (gi σ 27 (nI j))))))) (EK.rf hE))))) (by omega)
  · exact EK.up (EK.kp (KP_X4_shutYounger (σ := (f_X5_note (sl (sl (si (f_X2_takeOut σ (gi σ 18 (gi σ 27 (nI j))) (mn (f_X4_wanted σ (gi σ 27 (nI j))) (gi σ 10 (gi σ 18 (gi σ 27 (nI j)))))).2 22 (gi σ 27 (nI j)) ((gi (f_X2_takeOut σ (gi σ 18 (gi σ 27 (nI j))) (mn (f_X4_wanted σ (gi σ 27 (nI j))) (gi σ 10 (gi σ 18 (gi σ 27 (nI j)))))).2 22 (gi σ 27 (nI j))) + (mn (f_X4_wanted σ (gi σ 27 (nI j))) (gi σ 10 (gi σ 18 (gi σ 27 (nI j))))))) 23 (gi σ 27 (nI j)) ((gl (f_X2_takeOut σ (gi σ 18 (gi σ 27 (nI j))) (mn (f_X4_wanted σ (gi σ 27 (nI j))) (gi σ 10 (gi σ 18 (gi σ 27 (nI j)))))).2 23 (gi σ 27 (nI j))) + (((mn (f_X4_wanted σ (gi σ 27 (nI j))) (gi σ 10 (gi σ 18 (gi σ 27 (nI j)))))).toInt64))) 28 2 ((gl (f_X2_takeOut σ (gi σ 18 (gi σ 27 (nI j))) (mn (f_X4_wanted σ (gi σ 27 (nI j))) (gi σ 10 (gi σ 18 (gi σ 27 (nI j)))))).2 28 2) + (((mn (f_X4_wanted σ (gi σ 27 (nI j))) (gi σ 10 (gi σ 18 (gi σ 27 (nI j)))))).toInt64))) 99)) (j := j)) (EK.tr (EK_X5_note (σ := (sl (sl (si (f_X2_takeOut σ (gi σ 18 (gi σ 27 (nI j))) (mn (f_X4_wanted σ (gi σ 27 (nI j))) (gi σ 10 (gi σ 18 (gi σ 27 (nI j)))))).2 22 (gi σ 27 (nI j)) ((gi (f_X2_takeOut σ (gi σ 18 (gi σ 27 (nI j))) (mn (f_X4_wanted σ (gi σ 27 (nI j))) (gi σ 10 (gi σ 18 (gi σ 27 (nI j)))))).2 22 (gi σ 27 (nI j))) + (mn (f_X4_wanted σ (gi σ 27 (nI j))) (gi σ 10 (gi σ 18 (gi σ 27 (nI j))))))) 23 (gi σ 27 (nI j)) ((gl (f_X2_takeOut σ (gi σ 18 (gi σ 27 (nI j))) (mn (f_X4_wanted σ (gi σ 27 (nI j))) (gi σ 10 (gi σ 18 (gi σ 27 (nI j)))))).2 23 (gi σ 27 (nI j))) + (((mn (f_X4_wanted σ (gi σ 27 (nI j))) (gi σ 10 (gi σ 18 (gi σ 27 (nI j)))))).toInt64))) 28 2 ((gl (f_X2_takeOut σ (gi σ 18 (gi σ 27 (nI j))) (mn (f_X4_wanted σ (gi σ 27 (nI j))) (gi σ 10 (gi σ 18 (gi σ 27 (nI j)))))).2 28 2) + (((mn (f_X4_wanted σ (gi σ 27 (nI j))) (gi σ 10 (gi σ 18 (gi σ 27 (nI j)))))).toInt64)))) (c := 99) (EK.kp (Kp_sl (τ := (sl (si (f_X2_takeOut σ (gi σ 18 (gi σ 27 (nI j))) (mn (f_X4_wanted σ (gi σ 27 (nI j))) (gi σ 10 (gi σ 18 (gi σ 27 (nI j)))))).2 22 (gi σ 27 (nI j)) ((gi (f_X2_takeOut σ (gi σ 18 (gi σ 27 (nI j))) (mn (f_X4_wanted σ (gi σ 27 (nI j))) (gi σ 10 (gi σ 18 (gi σ 27 (nI j)))))).2 22 (gi σ 27 (nI j))) + (mn (f_X4_wanted σ (gi σ 27 (nI j))) (gi σ 10 (gi σ 18 (gi σ 27 (nI j))))))) 23 (gi σ 27 (nI j)) ((gl (f_X2_takeOut σ (gi σ 18 (gi σ 27 (nI j))) (mn (f_X4_wanted σ (gi σ 27 (nI j))) (gi σ 10 (gi σ 18 (gi σ 27 (nI j)))))).2 23 (gi σ 27 (nI j))) + (((mn (f_X4_wanted σ (gi σ 27 (nI j))) (gi σ 10 (gi σ 18 (gi σ 27 (nI j)))))).toInt64)))) (k := 28) (x := 2) (v := ((gl (f_X2_takeOut σ (gi σ 18 (gi σ 27 (nI j))) (mn (f_X4_wanted σ (gi σ 27 (nI j))) (gi σ 10 (gi σ 18 (gi σ 27 (nI j)))))).2 28 2) + (((mn (f_X4_wanted σ (gi σ 27 (nI j))) (gi σ 10 (gi σ 18 (gi σ 27 (nI j)))))).toInt64))) Kp.rf) (EK.kp (Kp_sl (τ := (si (f_X2_takeOut σ (gi σ 18 (gi σ 27 (nI j))) (mn (f_X4_wanted σ (gi σ 27 (nI j))) (gi σ 10 (gi σ 18 (gi σ 27 (nI j)))))).2 22 (gi σ 27 (nI j)) ((gi (f_X2_takeOut σ (gi σ 18 (gi σ 27 (nI j))) (mn (f_X4_wanted σ (gi σ 27 (nI j))) (gi σ 10 (gi σ 18 (gi σ 27 (nI j)))))).2 22 (gi σ 27 (nI j))) + (mn (f_X4_wanted σ (gi σ 27 (nI j))) (gi σ 10 (gi σ 18 (gi σ 27 (nI j)))))))) (k := 23) (x := (gi σ 27 (nI j))) (v := ((gl (f_X2_takeOut σ (gi σ 18 (gi σ 27 (nI j))) (mn (f_X4_wanted σ (gi σ 27 (nI j))) (gi σ 10 (gi σ 18 (gi σ 27 (nI j)))))).2 23 (gi σ 27 (nI j))) + (((mn (f_X4_wanted σ (gi σ 27 (nI j))) (gi σ 10 (gi σ 18 (gi σ 27 (nI j)))))).toInt64))) Kp.rf) (EK.kp (Kp_si (τ := (f_X2_takeOut σ (gi σ 18 (gi σ 27 (nI j))) (mn (f_X4_wanted σ (gi σ 27 (nI j))) (gi σ 10 (gi σ 18 (gi σ 27 (nI j)))))).2) (k := 22) (x := (gi σ 27 (nI j))) (v := ((gi (f_X2_takeOut σ (gi σ 18 (gi σ 27 (nI j))) (mn (f_X4_wanted σ (gi σ 27 (nI j))) (gi σ 10 (gi σ 18 (gi σ 27 (nI j)))))).2 22 (gi σ 27 (nI j))) + (mn (f_X4_wanted σ (gi σ 27 (nI j))) (gi σ 10 (gi σ 18 (gi σ 27 (nI j))))))) Kp.rf (by decide)) (EK.kp (KP_X2_takeOut (σ := σ) (x := (gi σ 18 (gi σ 27 (nI j)))) (y := (mn (f_X4_wanted σ (gi σ 27 (nI j))) (gi σ 10 (gi σ 18 (gi σ 27 (nI j))))))) (EK.rf hE))))).1 (by have := (EK.kp (Kp_sl (τ := (sl (si (f_X2_takeOut σ (gi σ 18 (gi σ 27 (nI j))) (mn (f_X4_wanted σ (gi σ 27 (nI j))) (gi σ 10 (gi σ 18 (gi σ 27 (nI j)))))).2 22 (gi σ 27 (nI j)) ((gi (f_X2_takeOut σ (gi σ 18 (gi σ 27 (nI j))) (mn (f_X4_wanted σ (gi σ 27 (nI j))) (gi σ 10 (gi σ 18 (gi σ 27 (nI j)))))).2 22 (gi σ 27 (nI j))) + (mn (f_X4_wanted σ (gi σ 27 (nI j))) (gi σ 10 (gi σ 18 (gi σ 27 (nI j))))))) 23 (gi σ 27 (nI j)) ((gl (f_X2_takeOut σ (gi σ 18 (gi σ 27 (nI j))) (mn (f_X4_wanted σ (gi σ 27 (nI j))) (gi σ 10 (gi σ 18 (gi σ 27 (nI j)))))).2 23 (gi σ 27 (nI j))) + (((mn (f_X4_wanted σ (gi σ 27 (nI j))) (gi σ 10 (gi σ 18 (gi σ 27 (nI j)))))).toInt64)))) (k := 28) (x := 2) (v := ((gl (f_X2_takeOut σ (gi σ 18 (gi σ 27 (nI j))) (mn (f_X4_wanted σ (gi σ 27 (nI j))) (gi σ 10 (gi σ 18 (gi σ 27 (nI j)))))).2 28 2) + (((mn (f_X4_wanted σ (gi σ 27 (nI j))) (gi σ 10 (gi σ 18 (gi σ 27 (nI j)))))).toInt64))) Kp.rf) (EK.kp (Kp_sl (τ := (si (f_X2_takeOut σ (gi σ 18 (gi σ 27 (nI j))) (mn (f_X4_wanted σ (gi σ 27 (nI j))) (gi σ 10 (gi σ 18 (gi σ 27 (nI j)))))).2 22 (gi σ 27 (nI j)) ((gi (f_X2_takeOut σ (gi σ 18 (gi σ 27 (nI j))) (mn (f_X4_wanted σ (gi σ 27 (nI j))) (gi σ 10 (gi σ 18 (gi σ 27 (nI j)))))).2 22 (gi σ 27 (nI j))) + (mn (f_X4_wanted σ (gi σ 27 (nI j))) (gi σ 10 (gi σ 18 (gi σ 27 (nI j)))))))) (k := 23) (x := (gi σ 27 (nI j))) (v := ((gl (f_X2_takeOut σ (gi σ 18 (gi σ 27 (nI j))) (mn (f_X4_wanted σ (gi σ 27 (nI j))) (gi σ 10 (gi σ 18 (gi σ 27 (nI j)))))).2 23 (gi σ 27 (nI j))) + (((mn (f_X4_wanted σ (gi σ 27 (nI j))) (gi σ 10 (gi σ 18 (gi σ 27 (nI j)))))).toInt64))) Kp.rf) (EK.kp (Kp_si (τ := (f_X2_takeOut σ (gi σ 18 (gi σ 27 (nI j))) (mn (f_X4_wanted σ (gi σ 27 (nI j))) (gi σ 10 (gi σ 18 (gi σ 27 (nI j)))))).2) (k := 22) (x := (gi σ 27 (nI j))) (v := ((gi (f_X2_takeOut σ (gi σ 18 (gi σ 27 (nI j))) (mn (f_X4_wanted σ (gi σ 27 (nI j))) (gi σ 10 (gi σ 18 (gi σ 27 (nI j)))))).2 22 (gi σ 27 (nI j))) + (mn (f_X4_wanted σ (gi σ 27 (nI j))) (gi σ 10 (gi σ 18 (gi σ 27 (nI j))))))) Kp.rf (by decide)) (EK.kp (KP_X2_takeOut (σ := σ) (x := (gi σ 18 (gi σ 27 (nI j)))) (y := (mn (f_X4_wanted σ (gi σ 27 (nI j))) (gi σ 10 (gi σ 18 (gi σ 27 (nI j))))))) (EK.rf hE))))).2.2.1; omega) lc99) (EK.kp (Kp_sl (τ := (sl (si (f_X2_takeOut σ (gi σ 18 (gi σ 27 (nI j))) (mn (f_X4_wanted σ (gi σ 27 (nI j))) (gi σ 10 (gi σ 18 (gi σ 27 (nI j)))))).2 22 (gi σ 27 (nI j)) ((gi (f_X2_takeOut σ (gi σ 18 (gi σ 27 (nI j))) (mn (f_X4_wanted σ (gi σ 27 (nI j))) (gi σ 10 (gi σ 18 (gi σ 27 (nI j)))))).2 22 (gi σ 27 (nI j))) + (mn (f_X4_wanted σ (gi σ 27 (nI j))) (gi σ 10 (gi σ 18 (gi σ 27 (nI j))))))) 23 (gi σ 27 (nI j)) ((gl (f_X2_takeOut σ (gi σ 18 (gi σ 27 (nI j))) (mn (f_X4_wanted σ (gi σ 27 (nI j))) (gi σ 10 (gi σ 18 (gi σ 27 (nI j)))))).2 23 (gi σ 27 (nI j))) + (((mn (f_X4_wanted σ (gi σ 27 (nI j))) (gi σ 10 (gi σ 18 (gi σ 27 (nI j)))))).toInt64)))) (k := 28) (x := 2) (v := ((gl (f_X2_takeOut σ (gi σ 18 (gi σ 27 (nI j))) (mn (f_X4_wanted σ (gi σ 27 (nI j))) (gi σ 10 (gi σ 18 (gi σ 27 (nI j)))))).2 28 2) + (((mn (f_X4_wanted σ (gi σ 27 (nI j))) (gi σ 10 (gi σ 18 (gi σ 27 (nI j)))))).toInt64))) Kp.rf) (EK.kp (Kp_sl (τ := (si (f_X2_takeOut σ (gi σ 18 (gi σ 27 (nI j))) (mn (f_X4_wanted σ (gi σ 27 (nI j))) (gi σ 10 (gi σ 18 (gi σ 27 (nI j)))))).2 22 (gi σ 27 (nI j)) ((gi (f_X2_takeOut σ (gi σ 18 (gi σ 27 (nI j))) (mn (f_X4_wanted σ (gi σ 27 (nI j))) (gi σ 10 (gi σ 18 (gi σ 27 (nI j)))))).2 22 (gi σ 27 (nI j))) + (mn (f_X4_wanted σ (gi σ 27 (nI j))) (gi σ 10 (gi σ 18 (gi σ 27 (nI j)))))))) (k := 23) (x := (gi σ 27 (nI j))) (v := ((gl (f_X2_takeOut σ (gi σ 18 (gi σ 27 (nI j))) (mn (f_X4_wanted σ (gi σ 27 (nI j))) (gi σ 10 (gi σ 18 (gi σ 27 (nI j)))))).2 23 (gi σ 27 (nI j))) + (((mn (f_X4_wanted σ (gi σ 27 (nI j))) (gi σ 10 (gi σ 18 (gi σ 27 (nI j)))))).toInt64))) Kp.rf) (EK.kp (Kp_si (τ := (f_X2_takeOut σ (gi σ 18 (gi σ 27 (nI j))) (mn (f_X4_wanted σ (gi σ 27 (nI j))) (gi σ 10 (gi σ 18 (gi σ 27 (nI j)))))).2) (k := 22) (x := (gi σ 27 (nI j))) (v := ((gi (f_X2_takeOut σ (gi σ 18 (gi σ 27 (nI j))) (mn (f_X4_wanted σ (gi σ 27 (nI j))) (gi σ 10 (gi σ 18 (gi σ 27 (nI j)))))).2 22 (gi σ 27 (nI j))) + (mn (f_X4_wanted σ (gi σ 27 (nI j))) (gi σ 10 (gi σ 18 (gi σ 27 (nI j))))))) Kp.rf (by decide)) (EK.kp (KP_X2_takeOut (σ := σ) (x := (gi σ 18 (gi σ 27 (nI j)))) (y := (mn (f_X4_wanted σ (gi σ 27 (nI j))) (gi σ 10 (gi σ 18 (gi σ 27 (nI j))))))) (EK.rf hE))))))) (by omega)
set_option maxHeartbeats 4000000 in
set_option maxRecDepth 100000 in
/-- World.pumpWell -/
theorem c_X5_pumpWell (l : Launch) (g : Gm) (ad : Nat → Nat) (lo ke fo : Int32) (ea : Nat) (σ : Sg) (j : Nat) (q_j : j < 6) (hW : WF σ) (hj : j < cnt σ) (hke : ke = 0 ∨ ke = 1) (hE : EvOK σ) (hB : en σ + 1 ≤ 20000) : MXv l g yX5_pumpWell cX5_pumpWell 6 ({ frames := 7, cells := 13, slots := 200002, locals := 1021 } : Room) [.ref (ad 0), .int (nI j)] (wsW g ad lo ke fo ea σ) (fun u : Sg × Nat => u.1 = f_X5_pumpWell σ j) (fun u => wsW g ad lo ke fo u.2 u.1) (kxN σ) := by
  intro sz tt
  refine ofX RX5 rfl (by decide +kernel) (Nat.le_of_ble_eq_true rfl) (fun p e s m args below meth c hargs S hml hr hlk hnm hsz htt hK hA hZ E ls hl => ?_)
  have hx := S.1
  have hb := S.2.1
  have hl : lv_has ls 6 [(0, .ref (ad 0)), (1, .int (nI j))] := hl
  refine W.widen (k := eg σ - eg σ) (n := 2 * ec σ - 2 * ec σ) (Nat.zero_le _) (Nat.zero_le _) ?_
  refine lv_aload_n hx hb dX5_pumpWell_0 rfl (lv_at hl 0 rfl) ?_
  refine wg_X5_28 (v := .ref (ad 3)) S hK E 0 rfl rfl dX5_pumpWell_1 ?_
  refine wg_X5_195 (v := .ref (ad 27)) S hK E 3 rfl rfl dX5_pumpWell_4 ?_
  refine lv_iload_n hx hb dX5_pumpWell_7 rfl (lv_at hl 1 rfl) ?_
  refine w_ild (v := gi σ 27 (nI j)) S hK E 27 0 rfl rfl (vp_in_nI (n := j) (by omega) (by decide)) rfl dX5_pumpWell_8 ?_
  refine lv_istore_n (lv' := [(2, .int (gi σ 27 (nI j))), (0, .ref (ad 0)), (1, .int (nI j))]) hx hb dX5_pumpWell_9 rfl hl (by decide) rfl (fun ls hl => ?_)
  refine lv_aload_n hx hb dX5_pumpWell_10 rfl (lv_at hl 1 rfl) ?_
  refine wg_X5_28 (v := .ref (ad 3)) S hK E 0 rfl rfl dX5_pumpWell_11 ?_
  refine wg_X5_201 (v := .ref (ad 18)) S hK E 3 rfl rfl dX5_pumpWell_14 ?_
  refine lv_iload_n hx hb dX5_pumpWell_17 rfl (lv_at hl 0 rfl) ?_
  refine w_ild (v := gi σ 18 (gi σ 27 (nI j))) S hK E 18 0 rfl rfl (WF.o (EK.wf (EK.rf hE) hW) (vp_in_nI (n := j) (by omega) (by decide))) rfl dX5_pumpWell_18 ?_
  refine lv_istore_n (lv' := [(3, .int (gi σ 18 (gi σ 27 (nI j)))), (2, .int (gi σ 27 (nI j))), (0, .ref (ad 0)), (1, .int (nI j))]) hx hb dX5_pumpWell_19 rfl hl (by decide) rfl (fun ls hl => ?_)
  refine lv_aload_n hx hb dX5_pumpWell_20 rfl (lv_at hl 2 rfl) ?_
  refine wg_X5_28 (v := .ref (ad 3)) S hK E 0 rfl rfl dX5_pumpWell_21 ?_
  refine lv_iload_n hx hb dX5_pumpWell_24 rfl (lv_at hl 1 rfl) ?_
  have hq := nt_c (EK.rf hE).1 (by have := (EK.rf hE).2.2.1; omega)
  refine w_reti (runV_X (As := [.int (gi σ 27 (nI j))]) (rest := []) (q0 := 3) (n := 1) S hml hK (hZ.at E) (Cut.full E hA) (c_X4_wanted l g ad lo ke fo ea σ (gi σ 27 (nI j)) (WF.o (EK.wf (EK.rf hE) hW) (vp_in_nI (n := j) (by omega) (by decide))) _ _) (gi_wsV ml_X5_203 im_X4_wanted sl_X4_wanted in_X4 co_X4_wanted) ⟨rfl, by decide +kernel, by decide +kernel, by decide +kernel⟩ ⟨Nat.le_of_ble_eq_true rfl, Nat.le_of_ble_eq_true rfl⟩ rfl rfl rfl hl.1 rfl (Nat.le_of_ble_eq_true rfl) dX5_pumpWell_25 ⟨by show eg σ - eg σ + 0 ≤ 13; omega, by show 2 * ec σ - 2 * ec σ + 0 ≤ 200002; omega⟩) (Cut.full E hA) E (fun r u H locs hp E => ?_)
  obtain ⟨hp, hu⟩ := hp
  subst hp
  rw [hu] at E
  have E : Ev g _ s.heap H locs (wsW g ad lo ke fo ea σ) := E
  refine W.widen (k := eg σ - eg σ) (n := 2 * ec σ - 2 * ec σ) (Nat.le_refl _) (Nat.le_refl _) ?_
  refine lv_istore (lv' := [(4, .int (f_X4_wanted σ (gi σ 27 (nI j)))), (3, .int (gi σ 18 (gi σ 27 (nI j)))), (2, .int (gi σ 27 (nI j))), (0, .ref (ad 0)), (1, .int (nI j))]) hx hb dX5_pumpWell_28 hl (by decide) rfl (fun ls hl => ?_)
  refine lv_iload hx hb dX5_pumpWell_30 (lv_at hl 0 rfl) ?_
  refine lv_aload_n hx hb dX5_pumpWell_32 rfl (lv_at hl 3 rfl) ?_
  refine wg_X5_12 (v := .ref (ad 1)) S hK E 0 rfl rfl dX5_pumpWell_33 ?_
  refine wg_X5_151 (v := .ref (ad 10)) S hK E 1 rfl rfl dX5_pumpWell_36 ?_
  refine lv_iload_n hx hb dX5_pumpWell_39 rfl (lv_at hl 1 rfl) ?_
  refine w_ild (v := gi σ 10 (gi σ 18 (gi σ 27 (nI j)))) S hK E 10 0 rfl rfl (WF.c (EK.wf (EK.rf hE) hW) (WF.o (EK.wf (EK.rf hE) hW) (vp_in_nI (n := j) (by omega) (by decide)))) rfl dX5_pumpWell_40 ?_
  have hq := nt_c (EK.rf hE).1 (by have := (EK.rf hE).2.2.1; omega)
  refine w_min (v := (mn (f_X4_wanted σ (gi σ 27 (nI j))) (gi σ 10 (gi σ 18 (gi σ 27 (nI j)))))) S hml hl ml_X5_207 st_min in_J9 co_min (Nat.le_of_ble_eq_true rfl) (Nat.le_of_ble_eq_true rfl) ⟨by show eg σ - eg σ + 0 ≤ 13; omega, by show 2 * ec σ - 2 * ec σ + 0 ≤ 200002; omega⟩ rfl dX5_pumpWell_41 ?_
  refine lv_istore (lv' := [(5, .int (mn (f_X4_wanted σ (gi σ 27 (nI j))) (gi σ 10 (gi σ 18 (gi σ 27 (nI j)))))), (4, .int (f_X4_wanted σ (gi σ 27 (nI j)))), (3, .int (gi σ 18 (gi σ 27 (nI j)))), (2, .int (gi σ 27 (nI j))), (0, .ref (ad 0)), (1, .int (nI j))]) hx hb dX5_pumpWell_44 hl (by decide) rfl (fun ls hl => ?_)
  refine lv_aload_n hx hb dX5_pumpWell_46 rfl (lv_at hl 4 rfl) ?_
  refine wg_X5_12 (v := .ref (ad 1)) S hK E 0 rfl rfl dX5_pumpWell_47 ?_
  refine lv_iload_n hx hb dX5_pumpWell_50 rfl (lv_at hl 2 rfl) ?_
  refine lv_iload hx hb dX5_pumpWell_51 (lv_at hl 0 rfl) ?_
  have hq := nt_c (EK.rf hE).1 (by have := (EK.rf hE).2.2.1; omega)
  refine w_reti (runV_X (As := [.int (gi σ 18 (gi σ 27 (nI j))), .int (mn (f_X4_wanted σ (gi σ 27 (nI j))) (gi σ 10 (gi σ 18 (gi σ 27 (nI j)))))]) (rest := []) (q0 := 1) (n := 2) S hml hK (hZ.at E) (Cut.full E hA) (c_X2_takeOut l g ad lo ke fo ea σ (gi σ 18 (gi σ 27 (nI j))) (mn (f_X4_wanted σ (gi σ 27 (nI j))) (gi σ 10 (gi σ 18 (gi σ 27 (nI j))))) (WF.c (EK.wf (EK.rf hE) hW) (WF.o (EK.wf (EK.rf hE) hW) (vp_in_nI (n := j) (by omega) (by decide)))) _ _) (gi_wsV ml_X5_213 im_X2_takeOut sl_X2_takeOut in_X2 co_X2_takeOut) ⟨rfl, by decide +kernel, by decide +kernel, by decide +kernel⟩ ⟨Nat.le_of_ble_eq_true rfl, Nat.le_of_ble_eq_true rfl⟩ rfl rfl rfl hl.1 rfl (Nat.le_of_ble_eq_true rfl) dX5_pumpWell_53 ⟨by show eg σ - eg σ + 0 ≤ 13; omega, by show 2 * ec σ - 2 * ec σ + 0 ≤ 200002; omega⟩) (Cut.full E hA) E (fun r u H locs hp E => ?_)
  obtain ⟨rfl, rfl⟩ := hp
  have E : Ev g _ s.heap H locs (wsW g ad lo ke fo ea (f_X2_takeOut σ (gi σ 18 (gi σ 27 (nI j))) (mn (f_X4_wanted σ (gi σ 27 (nI j))) (gi σ 10 (gi σ 18 (gi σ 27 (nI j)))))).2) := E
  refine W.widen (k := eg (f_X2_takeOut σ (gi σ 18 (gi σ 27 (nI j))) (mn (f_X4_wanted σ (gi σ 27 (nI j))) (gi σ 10 (gi σ 18 (gi σ 27 (nI j)))))).2 - eg σ) (n := 2 * ec (f_X2_takeOut σ (gi σ 18 (gi σ 27 (nI j))) (mn (f_X4_wanted σ (gi σ 27 (nI j))) (gi σ 10 (gi σ 18 (gi σ 27 (nI j)))))).2 - 2 * ec σ) (Kp_wd1 (KP_X2_takeOut (σ := σ) (x := (gi σ 18 (gi σ 27 (nI j)))) (y := (mn (f_X4_wanted σ (gi σ 27 (nI j))) (gi σ 10 (gi σ 18 (gi σ 27 (nI j)))))))) (Kp_wd2 (KP_X2_takeOut (σ := σ) (x := (gi σ 18 (gi σ 27 (nI j)))) (y := (mn (f_X4_wanted σ (gi σ 27 (nI j))) (gi σ 10 (gi σ 18 (gi σ 27 (nI j)))))))) ?_
  refine lv_pop hx hb dX5_pumpWell_56 rfl ?_
  refine lv_aload_n hx hb dX5_pumpWell_57 rfl (lv_at hl 4 rfl) ?_
  refine wg_X5_28 (v := .ref (ad 3)) S hK E 0 rfl rfl dX5_pumpWell_58 ?_
  refine wg_X5_216 (v := .ref (ad 22)) S hK E 3 rfl rfl dX5_pumpWell_61 ?_
  refine lv_iload_n hx hb dX5_pumpWell_64 rfl (lv_at hl 3 rfl) ?_
  refine lv_dup2_11 hx hb dX5_pumpWell_65 rfl rfl ?_
  refine w_ild (v := gi (f_X2_takeOut σ (gi σ 18 (gi σ 27 (nI j))) (mn (f_X4_wanted σ (gi σ 27 (nI j))) (gi σ 10 (gi σ 18 (gi σ 27 (nI j)))))).2 22 (gi σ 27 (nI j))) S hK E 22 0 rfl rfl (WF.o (EK.wf (EK.rf hE) hW) (vp_in_nI (n := j) (by omega) (by decide))) rfl dX5_pumpWell_66 ?_
  refine lv_iload hx hb dX5_pumpWell_67 (lv_at hl 0 rfl) ?_
  refine lv_iadd hx hb dX5_pumpWell_69 ?_
  refine w_ist (w' := wsW g ad lo ke fo ea (si (f_X2_takeOut σ (gi σ 18 (gi σ 27 (nI j))) (mn (f_X4_wanted σ (gi σ 27 (nI j))) (gi σ 10 (gi σ 18 (gi σ 27 (nI j)))))).2 22 (gi σ 27 (nI j)) ((gi (f_X2_takeOut σ (gi σ 18 (gi σ 27 (nI j))) (mn (f_X4_wanted σ (gi σ 27 (nI j))) (gi σ 10 (gi σ 18 (gi σ 27 (nI j)))))).2 22 (gi σ 27 (nI j))) + (mn (f_X4_wanted σ (gi σ 27 (nI j))) (gi σ 10 (gi σ 18 (gi σ 27 (nI j)))))))) S hK E 22 0 rfl rfl (WF.o (EK.wf (EK.rf hE) hW) (vp_in_nI (n := j) (by omega) (by decide))) wset_22 dX5_pumpWell_70 (fun H locs E => ?_)
  refine lv_aload_n hx hb dX5_pumpWell_71 rfl (lv_at hl 4 rfl) ?_
  refine wg_X5_28 (v := .ref (ad 3)) S hK E 0 rfl rfl dX5_pumpWell_72 ?_
  refine wg_X5_219 (v := .ref (ad 23)) S hK E 3 rfl rfl dX5_pumpWell_75 ?_
  refine lv_iload_n hx hb dX5_pumpWell_78 rfl (lv_at hl 3 rfl) ?_
  refine lv_dup2_11 hx hb dX5_pumpWell_79 rfl rfl ?_
  refine w_lld (v := gl (f_X2_takeOut σ (gi σ 18 (gi σ 27 (nI j))) (mn (f_X4_wanted σ (gi σ 27 (nI j))) (gi σ 10 (gi σ 18 (gi σ 27 (nI j)))))).2 23 (gi σ 27 (nI j))) S hK E 23 1 rfl rfl (WF.o (EK.wf (EK.rf hE) hW) (vp_in_nI (n := j) (by omega) (by decide))) rfl dX5_pumpWell_80 ?_
  refine lv_iload hx hb dX5_pumpWell_81 (lv_at hl 0 rfl) ?_
  refine lv_i2l (v := ((mn (f_X4_wanted σ (gi σ 27 (nI j))) (gi σ 10 (gi σ 18 (gi σ 27 (nI j)))))).toInt64) hx hb dX5_pumpWell_83 rfl ?_
  refine lv_ladd hx hb dX5_pumpWell_84 ?_
  refine w_lst (w' := wsW g ad lo ke fo ea (sl (si (f_X2_takeOut σ (gi σ 18 (gi σ 27 (nI j))) (mn (f_X4_wanted σ (gi σ 27 (nI j))) (gi σ 10 (gi σ 18 (gi σ 27 (nI j)))))).2 22 (gi σ 27 (nI j)) ((gi (f_X2_takeOut σ (gi σ 18 (gi σ 27 (nI j))) (mn (f_X4_wanted σ (gi σ 27 (nI j))) (gi σ 10 (gi σ 18 (gi σ 27 (nI j)))))).2 22 (gi σ 27 (nI j))) + (mn (f_X4_wanted σ (gi σ 27 (nI j))) (gi σ 10 (gi σ 18 (gi σ 27 (nI j))))))) 23 (gi σ 27 (nI j)) ((gl (f_X2_takeOut σ (gi σ 18 (gi σ 27 (nI j))) (mn (f_X4_wanted σ (gi σ 27 (nI j))) (gi σ 10 (gi σ 18 (gi σ 27 (nI j)))))).2 23 (gi σ 27 (nI j))) + (((mn (f_X4_wanted σ (gi σ 27 (nI j))) (gi σ 10 (gi σ 18 (gi σ 27 (nI j)))))).toInt64)))) S hK E 23 1 rfl rfl (WF.o (EK.wf (EK.rf hE) hW) (vp_in_nI (n := j) (by omega) (by decide))) wset_23 dX5_pumpWell_85 (fun H locs E => ?_)
  refine lv_aload_n hx hb dX5_pumpWell_86 rfl (lv_at hl 4 rfl) ?_
  refine wg_X5_35 (v := .ref (ad 4)) S hK E 0 rfl rfl dX5_pumpWell_87 ?_
  refine wg_X5_147 (v := .ref (ad 28)) S hK E 4 rfl rfl dX5_pumpWell_90 ?_
  refine lv_iconst (v := 2) hx hb dX5_pumpWell_93 (by decide) ?_
  refine lv_dup2_11 hx hb dX5_pumpWell_94 rfl rfl ?_
  refine w_lld (v := gl (f_X2_takeOut σ (gi σ 18 (gi σ 27 (nI j))) (mn (f_X4_wanted σ (gi σ 27 (nI j))) (gi σ 10 (gi σ 18 (gi σ 27 (nI j)))))).2 28 2) S hK E 28 1 rfl rfl (show vp_in 2 9 by unfold vp_in; decide) rfl dX5_pumpWell_95 ?_
  refine lv_iload hx hb dX5_pumpWell_96 (lv_at hl 0 rfl) ?_
  refine lv_i2l (v := ((mn (f_X4_wanted σ (gi σ 27 (nI j))) (gi σ 10 (gi σ 18 (gi σ 27 (nI j)))))).toInt64) hx hb dX5_pumpWell_98 rfl ?_
  refine lv_ladd hx hb dX5_pumpWell_99 ?_
  refine w_lst (w' := wsW g ad lo ke fo ea (sl (sl (si (f_X2_takeOut σ (gi σ 18 (gi σ 27 (nI j))) (mn (f_X4_wanted σ (gi σ 27 (nI j))) (gi σ 10 (gi σ 18 (gi σ 27 (nI j)))))).2 22 (gi σ 27 (nI j)) ((gi (f_X2_takeOut σ (gi σ 18 (gi σ 27 (nI j))) (mn (f_X4_wanted σ (gi σ 27 (nI j))) (gi σ 10 (gi σ 18 (gi σ 27 (nI j)))))).2 22 (gi σ 27 (nI j))) + (mn (f_X4_wanted σ (gi σ 27 (nI j))) (gi σ 10 (gi σ 18 (gi σ 27 (nI j))))))) 23 (gi σ 27 (nI j)) ((gl (f_X2_takeOut σ (gi σ 18 (gi σ 27 (nI j))) (mn (f_X4_wanted σ (gi σ 27 (nI j))) (gi σ 10 (gi σ 18 (gi σ 27 (nI j)))))).2 23 (gi σ 27 (nI j))) + (((mn (f_X4_wanted σ (gi σ 27 (nI j))) (gi σ 10 (gi σ 18 (gi σ 27 (nI j)))))).toInt64))) 28 2 ((gl (f_X2_takeOut σ (gi σ 18 (gi σ 27 (nI j))) (mn (f_X4_wanted σ (gi σ 27 (nI j))) (gi σ 10 (gi σ 18 (gi σ 27 (nI j)))))).2 28 2) + (((mn (f_X4_wanted σ (gi σ 27 (nI j))) (gi σ 10 (gi σ 18 (gi σ 27 (nI j)))))).toInt64)))) S hK E 28 1 rfl rfl (show vp_in 2 9 by unfold vp_in; decide) wset_28 dX5_pumpWell_100 (fun H locs E => ?_)
  refine lv_iload hx hb dX5_pumpWell_101 (lv_at hl 0 rfl) ?_
  refine lv_iload hx hb dX5_pumpWell_103 (lv_at hl 1 rfl) ?_
  refine lv_icmp_ge (tgt := 122) hx hb dX5_pumpWell_105 (by decide) (fun c1 => ?_) (fun c1 => ?_)
  · have c1 : (f_X4_wanted σ (gi σ 27 (nI j))) ≤ (mn (f_X4_wanted σ (gi σ 27 (nI j))) (gi σ 10 (gi σ 18 (gi σ 27 (nI j))))) := c1
    have hQ : f_X5_pumpWell σ j = (sl (sl (si (f_X2_takeOut σ (gi σ 18 (gi σ 27 (nI j))) (mn (f_X4_wanted σ (gi σ 27 (nI j))) (gi σ 10 (gi σ 18 (gi σ 27 (nI j)))))).2 22 (gi σ 27 (nI j)) ((gi (f_X2_takeOut σ (gi σ 18 (gi σ 27 (nI j))) (mn (f_X4_wanted σ (gi σ 27 (nI j))) (gi σ 10 (gi σ 18 (gi σ 27 (nI j)))))).2 22 (gi σ 27 (nI j))) + (mn (f_X4_wanted σ (gi σ 27 (nI j))) (gi σ 10 (gi σ 18 (gi σ 27 (nI j))))))) 23 (gi σ 27 (nI j)) ((gl (f_X2_takeOut σ (gi σ 18 (gi σ 27 (nI j))) (mn (f_X4_wanted σ (gi σ 27 (nI j))) (gi σ 10 (gi σ 18 (gi σ 27 (nI j)))))).2 23 (gi σ 27 (nI j))) + (((mn (f_X4_wanted σ (gi σ 27 (nI j))) (gi σ 10 (gi σ 18 (gi σ 27 (nI j)))))).toInt64))) 28 2 ((gl (f_X2_takeOut σ (gi σ 18 (gi σ 27 (nI j))) (mn (f_X4_wanted σ (gi σ 27 (nI j))) (gi σ 10 (gi σ 18 (gi σ 27 (nI j)))))).2 28 2) + (((mn (f_X4_wanted σ (gi σ 27 (nI j))) (gi σ 10 (gi σ 18 (gi σ 27 (nI j)))))).toInt64))) := by
      unfold f_X5_pumpWell; rw [if_pos c1]
    have hq := nt_c (EK.kp (Kp_sl (τ := (sl (si (f_X2_takeOut σ (gi σ 18 (gi σ 27 (nI j))) (mn (f_X4_wanted σ (gi σ 27 (nI j))) (gi σ 10 (gi σ 18 (gi σ 27 (nI j)))))).2 22 (gi σ 27 (nI j)) ((gi (f_X2_takeOut σ (gi σ 18 (gi σ 27 (nI j))) (mn (f_X4_wanted σ (gi σ 27 (nI j))) (gi σ 10 (gi σ 18 (gi σ 27 (nI j)))))).2 22 (gi σ 27 (nI j))) + (mn (f_X4_wanted σ (gi σ 27 (nI j))) (gi σ 10 (gi σ 18 (gi σ 27 (nI j))))))) 23 (gi σ 27 (nI j)) ((gl (f_X2_takeOut σ (gi σ 18 (gi σ 27 (nI j))) (mn (f_X4_wanted σ (gi σ 27 (nI j))) (gi σ 10 (gi σ 18 (gi σ 27 (nI j)))))).2 23 (gi σ 27 (nI j))) + (((mn (f_X4_wanted σ (gi σ 27 (nI j))) (gi σ 10 (gi σ 18 (gi σ 27 (nI j)))))).toInt64)))) (k := 28) (x := 2) (v := ((gl (f_X2_takeOut σ (gi σ 18 (gi σ 27 (nI j))) (mn (f_X4_wanted σ (gi σ 27 (nI j))) (gi σ 10 (gi σ 18 (gi σ 27 (nI j)))))).2 28 2) + (((mn (f_X4_wanted σ (gi σ 27 (nI j))) (gi σ 10 (gi σ 18 (gi σ 27 (nI j)))))).toInt64))) Kp.rf) (EK.kp (Kp_sl (τ := (si (f_X2_takeOut σ (gi σ 18 (gi σ 27 (nI j))) (mn (f_X4_wanted σ (gi σ 27 (nI j))) (gi σ 10 (gi σ 18 (gi σ 27 (nI j)))))).2 22 (gi σ 27 (nI j)) ((gi (f_X2_takeOut σ (gi σ 18 (gi σ 27 (nI j))) (mn (f_X4_wanted σ (gi σ 27 (nI j))) (gi σ 10 (gi σ 18 (gi σ 27 (nI j)))))).2 22 (gi σ 27 (nI j))) + (mn (f_X4_wanted σ (gi σ 27 (nI j))) (gi σ 10 (gi σ 18 (gi σ 27 (nI j)))))))) (k := 23) (x := (gi σ 27 (nI j))) (v := ((gl (f_X2_takeOut σ (gi σ 18 (gi σ 27 (nI j))) (mn (f_X4_wanted σ (gi σ 27 (nI j))) (gi σ 10 (gi σ 18 (gi σ 27 (nI j)))))).2 23 (gi σ 27 (nI j))) + (((mn (f_X4_wanted σ (gi σ 27 (nI j))) (gi σ 10 (gi σ 18 (gi σ 27 (nI j)))))).toInt64))) Kp.rf) (EK.kp (Kp_si (τ := (f_X2_takeOut σ (gi σ 18 (gi σ 27 (nI j))) (mn (f_X4_wanted σ (gi σ 27 (nI j))) (gi σ 10 (gi σ 18 (gi σ 27 (nI j)))))).2) (k := 22) (x := (gi σ 27 (nI j))) (v := ((gi (f_X2_takeOut σ (gi σ 18 (gi σ 27 (nI j))) (mn (f_X4_wanted σ (gi σ 27 (nI j))) (gi σ 10 (gi σ 18 (gi σ 27 (nI j)))))).2 22 (gi σ 27 (nI j))) + (mn (f_X4_wanted σ (gi σ 27 (nI j))) (gi σ 10 (gi σ 18 (gi σ 27 (nI j))))))) Kp.rf (by decide)) (EK.kp (KP_X2_takeOut (σ := σ) (x := (gi σ 18 (gi σ 27 (nI j)))) (y := (mn (f_X4_wanted σ (gi σ 27 (nI j))) (gi σ 10 (gi σ 18 (gi σ 27 (nI j))))))) (EK.rf hE))))).1 (by have := (EK.kp (Kp_sl (τ := (sl (si (f_X2_takeOut σ (gi σ 18 (gi σ 27 (nI j))) (mn (f_X4_wanted σ (gi σ 27 (nI j))) (gi σ 10 (gi σ 18 (gi σ 27 (nI j)))))).2 22 (gi σ 27 (nI j)) ((gi (f_X2_takeOut σ (gi σ 18 (gi σ 27 (nI j))) (mn (f_X4_wanted σ (gi σ 27 (nI j))) (gi σ 10 (gi σ 18 (gi σ 27 (nI j)))))).2 22 (gi σ 27 (nI j))) + (mn (f_X4_wanted σ (gi σ 27 (nI j))) (gi σ 10 (gi σ 18 (gi σ 27 (nI j))))))) 23 (gi σ 27 (nI j)) ((gl (f_X2_takeOut σ (gi σ 18 (gi σ 27 (nI j))) (mn (f_X4_wanted σ (gi σ 27 (nI j))) (gi σ 10 (gi σ 18 (gi σ 27 (nI j)))))).2 23 (gi σ 27 (nI j))) + (((mn (f_X4_wanted σ (gi σ 27 (nI j))) (gi σ 10 (gi σ 18 (gi σ 27 (nI j)))))).toInt64)))) (k := 28) (x := 2) (v := ((gl (f_X2_takeOut σ (gi σ 18 (gi σ 27 (nI j))) (mn (f_X4_wanted σ (gi σ 27 (nI j))) (gi σ 10 (gi σ 18 (gi σ 27 (nI j)))))).2 28 2) + (((mn (f_X4_wanted σ (gi σ 27 (nI j))) (gi σ 10 (gi σ 18 (gi σ 27 (nI j)))))).toInt64))) Kp.rf) (EK.kp (Kp_sl (τ := (si (f_X2_takeOut σ (gi σ 18 (gi σ 27 (nI j))) (mn (f_X4_wanted σ (gi σ 27 (nI j))) (gi σ 10 (gi σ 18 (gi σ 27 (nI j)))))).2 22 (gi σ 27 (nI j)) ((gi (f_X2_takeOut σ (gi σ 18 (gi σ 27 (nI j))) (mn (f_X4_wanted σ (gi σ 27 (nI j))) (gi σ 10 (gi σ 18 (gi σ 27 (nI j)))))).2 22 (gi σ 27 (nI j))) + (mn (f_X4_wanted σ (gi σ 27 (nI j))) (gi σ 10 (gi σ 18 (gi σ 27 (nI j)))))))) (k := 23) (x := (gi σ 27 (nI j))) (v := ((gl (f_X2_takeOut σ (gi σ 18 (gi σ 27 (nI j))) (mn (f_X4_wanted σ (gi σ 27 (nI j))) (gi σ 10 (gi σ 18 (gi σ 27 (nI j)))))).2 23 (gi σ 27 (nI j))) + (((mn (f_X4_wanted σ (gi σ 27 (nI j))) (gi σ 10 (gi σ 18 (gi σ 27 (nI j)))))).toInt64))) Kp.rf) (EK.kp (Kp_si (τ := (f_X2_takeOut σ (gi σ 18 (gi σ 27 (nI j))) (mn (f_X4_wanted σ (gi σ 27 (nI j))) (gi σ 10 (gi σ 18 (gi σ 27 (nI j)))))).2) (k := 22) (x := (gi σ 27 (nI j))) (v := ((gi (f_X2_takeOut σ (gi σ 18 (gi σ 27 (nI j))) (mn (f_X4_wanted σ (gi σ 27 (nI j))) (gi σ 10 (gi σ 18 (gi σ 27 (nI j)))))).2 22 (gi σ 27 (nI j))) + (mn (f_X4_wanted σ (gi σ 27 (nI j))) (gi σ 10 (gi σ 18 (gi σ 27 (nI j))))))) Kp.rf (by decide)) (EK.kp (KP_X2_takeOut (σ := σ) (x := (gi σ 18 (gi σ 27 (nI j)))) (y := (mn (f_X4_wanted σ (gi σ 27 (nI j))) (gi σ 10 (gi σ 18 (gi σ 27 (nI j))))))) (EK.rf hE))))).2.2.1; omega)
    exact x_vret ((sl (sl (si (f_X2_takeOut σ (gi σ 18 (gi σ 27 (nI j))) (mn (f_X4_wanted σ (gi σ 27 (nI j))) (gi σ 10 (gi σ 18 (gi σ 27 (nI j)))))).2 22 (gi σ 27 (nI j)) ((gi (f_X2_takeOut σ (gi σ 18 (gi σ 27 (nI j))) (mn (f_X4_wanted σ (gi σ 27 (nI j))) (gi σ 10 (gi σ 18 (gi σ 27 (nI j)))))).2 22 (gi σ 27 (nI j))) + (mn (f_X4_wanted σ (gi σ 27 (nI j))) (gi σ 10 (gi σ 18 (gi σ 27 (nI j))))))) 23 (gi σ 27 (nI j)) ((gl (f_X2_takeOut σ (gi σ 18 (gi σ 27 (nI j))) (mn (f_X4_wanted σ (gi σ 27 (nI j))) (gi σ 10 (gi σ 18 (gi σ 27 (nI j)))))).2 23 (gi σ 27 (nI j))) + (((mn (f_X4_wanted σ (gi σ 27 (nI j))) (gi σ 10 (gi σ 18 (gi σ 27 (nI j)))))).toInt64))) 28 2 ((gl (f_X2_takeOut σ (gi σ 18 (gi σ 27 (nI j))) (mn (f_X4_wanted σ (gi σ 27 (nI j))) (gi σ 10 (gi σ 18 (gi σ 27 (nI j)))))).2 28 2) + (((mn (f_X4_wanted σ (gi σ 27 (nI j))) (gi σ 10 (gi σ 18 (gi σ 27 (nI j)))))).toInt64))), ea) S hr hlk hsz htt hK E dX5_pumpWell_122 hQ.symm rfl ⟨Nat.le_refl _, Nat.le_refl _⟩ ⟨by show eg (sl (sl (si (f_X2_takeOut σ (gi σ 18 (gi σ 27 (nI j))) (mn (f_X4_wanted σ (gi σ 27 (nI j))) (gi σ 10 (gi σ 18 (gi σ 27 (nI j)))))).2 22 (gi σ 27 (nI j)) ((gi (f_X2_takeOut σ (gi σ 18 (gi σ 27 (nI j))) (mn (f_X4_wanted σ (gi σ 27 (nI j))) (gi σ 10 (gi σ 18 (gi σ 27 (nI j)))))).2 22 (gi σ 27 (nI j))) + (mn (f_X4_wanted σ (gi σ 27 (nI j))) (gi σ 10 (gi σ 18 (gi σ 27 (nI j))))))) 23 (gi σ 27 (nI j)) ((gl (f_X2_takeOut σ (gi σ 18 (gi σ 27 (nI j))) (mn (f_X4_wanted σ (gi σ 27 (nI j))) (gi σ 10 (gi σ 18 (gi σ 27 (nI j)))))).2 23 (gi σ 27 (nI j))) + (((mn (f_X4_wanted σ (gi σ 27 (nI j))) (gi σ 10 (gi σ 18 (gi σ 27 (nI j)))))).toInt64))) 28 2 ((gl (f_X2_takeOut σ (gi σ 18 (gi σ 27 (nI j))) (mn (f_X4_wanted σ (gi σ 27 (nI j))) (gi σ 10 (gi σ 18 (gi σ 27 (nI j)))))).2 28 2) + (((mn (f_X4_wanted σ (gi σ 27 (nI j))) (gi σ 10 (gi σ 18 (gi σ 27 (nI j)))))).toInt64))) - eg σ + 0 ≤ 13; omega, by show 2 * ec (sl (sl (si (f_X2_takeOut σ (gi σ 18 (gi σ 27 (nI j))) (mn (f_X4_wanted σ (gi σ 27 (nI j))) (gi σ 10 (gi σ 18 (gi σ 27 (nI j)))))).2 22 (gi σ 27 (nI j)) ((gi (f_X2_takeOut σ (gi σ 18 (gi σ 27 (nI j))) (mn (f_X4_wanted σ (gi σ 27 (nI j))) (gi σ 10 (gi σ 18 (gi σ 27 (nI j)))))).2 22 (gi σ 27 (nI j))) + (mn (f_X4_wanted σ (gi σ 27 (nI j))) (gi σ 10 (gi σ 18 (gi σ 27 (nI j))))))) 23 (gi σ 27 (nI j)) ((gl (f_X2_takeOut σ (gi σ 18 (gi σ 27 (nI j))) (mn (f_X4_wanted σ (gi σ 27 (nI j))) (gi σ 10 (gi σ 18 (gi σ 27 (nI j)))))).2 23 (gi σ 27 (nI j))) + (((mn (f_X4_wanted σ (gi σ 27 (nI j))) (gi σ 10 (gi σ 18 (gi σ 27 (nI j)))))).toInt64))) 28 2 ((gl (f_X2_takeOut σ (gi σ 18 (gi σ 27 (nI j))) (mn (f_X4_wanted σ (gi σ 27 (nI j))) (gi σ 10 (gi σ 18 (gi σ 27 (nI j)))))).2 28 2) + (((mn (f_X4_wanted σ (gi σ 27 (nI j))) (gi σ 10 (gi σ 18 (gi σ 27 (nI j)))))).toInt64))) - 2 * ec σ + 0 ≤ 200002; omega⟩
  · have c1 : ¬ ((f_X4_wanted σ (gi σ 27 (nI j))) ≤ (mn (f_X4_wanted σ (gi σ 27 (nI j))) (gi σ 10 (gi σ 18 (gi σ 27 (nI j)))))) := c1
    refine lv_aload_n hx hb dX5_pumpWell_108 rfl (lv_at hl 4 rfl) ?_
    refine lv_bipush (v := 99) hx hb dX5_pumpWell_109 (by decide) ?_
    have hq := nt_c (EK.kp (Kp_sl (τ := (sl (si (f_X2_takeOut σ (gi σ 18 (gi σ 27 (nI j))) (mn (f_X4_wanted σ (gi σ 27 (nI j))) (gi σ 10 (gi σ 18 (gi σ 27 (nI j)))))).2 22 (gi σ 27 (nI j)) ((gi (f_X2_takeOut σ (gi σ 18 (gi σ 27 (nI j))) (mn (f_X4_wanted σ (gi σ 27 (nI j))) (gi σ 10 (gi σ 18 (gi σ 27 (nI j)))))).2 22 (gi σ 27 (nI j))) + (mn (f_X4_wanted σ (gi σ 27 (nI j))) (gi σ 10 (gi σ 18 (gi σ 27 (nI j))))))) 23 (gi σ 27 (nI j)) ((gl (f_X2_takeOut σ (gi σ 18 (gi σ 27 (nI j))) (mn (f_X4_wanted σ (gi σ 27 (nI j))) (gi σ 10 (gi σ 18 (gi σ 27 (nI j)))))).2 23 (gi σ 27 (nI j))) + (((mn (f_X4_wanted σ (gi σ 27 (nI j))) (gi σ 10 (gi σ 18 (gi σ 27 (nI j)))))).toInt64)))) (k := 28) (x := 2) (v := ((gl (f_X2_takeOut σ (gi σ 18 (gi σ 27 (nI j))) (mn (f_X4_wanted σ (gi σ 27 (nI j))) (gi σ 10 (gi σ 18 (gi σ 27 (nI j)))))).2 28 2) + (((mn (f_X4_wanted σ (gi σ 27 (nI j))) (gi σ 10 (gi σ 18 (gi σ 27 (nI j)))))).toInt64))) Kp.rf) (EK.kp (Kp_sl (τ := (si (f_X2_takeOut σ (gi σ 18 (gi σ 27 (nI j))) (mn (f_X4_wanted σ (gi σ 27 (nI j))) (gi σ 10 (gi σ 18 (gi σ 27 (nI j)))))).2 22 (gi σ 27 (nI j)) ((gi (f_X2_takeOut σ (gi σ 18 (gi σ 27 (nI j))) (mn (f_X4_wanted σ (gi σ 27 (nI j))) (gi σ 10 (gi σ 18 (gi σ 27 (nI j)))))).2 22 (gi σ 27 (nI j))) + (mn (f_X4_wanted σ (gi σ 27 (nI j))) (gi σ 10 (gi σ 18 (gi σ 27 (nI j)))))))) (k := 23) (x := (gi σ 27 (nI j))) (v := ((gl (f_X2_takeOut σ (gi σ 18 (gi σ 27 (nI j))) (mn (f_X4_wanted σ (gi σ 27 (nI j))) (gi σ 10 (gi σ 18 (gi σ 27 (nI j)))))).2 23 (gi σ 27 (nI j))) + (((mn (f_X4_wanted σ (gi σ 27 (nI j))) (gi σ 10 (gi σ 18 (gi σ 27 (nI j)))))).toInt64))) Kp.rf) (EK.kp (Kp_si (τ := (f_X2_takeOut σ (gi σ 18 (gi σ 27 (nI j))) (mn (f_X4_wanted σ (gi σ 27 (nI j))) (gi σ 10 (gi σ 18 (gi σ 27 (nI j)))))).2) (k := 22) (x := (gi σ 27 (nI j))) (v := ((gi (f_X2_takeOut σ (gi σ 18 (gi σ 27 (nI j))) (mn (f_X4_wanted σ (gi σ 27 (nI j))) (gi σ 10 (gi σ 18 (gi σ 27 (nI j)))))).2 22 (gi σ 27 (nI j))) + (mn (f_X4_wanted σ (gi σ 27 (nI j))) (gi σ 10 (gi σ 18 (gi σ 27 (nI j))))))) Kp.rf (by decide)) (EK.kp (KP_X2_takeOut (σ := σ) (x := (gi σ 18 (gi σ 27 (nI j)))) (y := (mn (f_X4_wanted σ (gi σ 27 (nI j))) (gi σ 10 (gi σ 18 (gi σ 27 (nI j))))))) (EK.rf hE))))).1 (by have := (EK.kp (Kp_sl (τ := (sl (si (f_X2_takeOut σ (gi σ 18 (gi σ 27 (nI j))) (mn (f_X4_wanted σ (gi σ 27 (nI j))) (gi σ 10 (gi σ 18 (gi σ 27 (nI j)))))).2 22 (gi σ 27 (nI j)) ((gi (f_X2_takeOut σ (gi σ 18 (gi σ 27 (nI j))) (mn (f_X4_wanted σ (gi σ 27 (nI j))) (gi σ 10 (gi σ 18 (gi σ 27 (nI j)))))).2 22 (gi σ 27 (nI j))) + (mn (f_X4_wanted σ (gi σ 27 (nI j))) (gi σ 10 (gi σ 18 (gi σ 27 (nI j))))))) 23 (gi σ 27 (nI j)) ((gl (f_X2_takeOut σ (gi σ 18 (gi σ 27 (nI j))) (mn (f_X4_wanted σ (gi σ 27 (nI j))) (gi σ 10 (gi σ 18 (gi σ 27 (nI j)))))).2 23 (gi σ 27 (nI j))) + (((mn (f_X4_wanted σ (gi σ 27 (nI j))) (gi σ 10 (gi σ 18 (gi σ 27 (nI j)))))).toInt64)))) (k := 28) (x := 2) (v := ((gl (f_X2_takeOut σ (gi σ 18 (gi σ 27 (nI j))) (mn (f_X4_wanted σ (gi σ 27 (nI j))) (gi σ 10 (gi σ 18 (gi σ 27 (nI j)))))).2 28 2) + (((mn (f_X4_wanted σ (gi σ 27 (nI j))) (gi σ 10 (gi σ 18 (gi σ 27 (nI j)))))).toInt64))) Kp.rf) (EK.kp (Kp_sl (τ := (si (f_X2_takeOut σ (gi σ 18 (gi σ 27 (nI j))) (mn (f_X4_wanted σ (gi σ 27 (nI j))) (gi σ 10 (gi σ 18 (gi σ 27 (nI j)))))).2 22 (gi σ 27 (nI j)) ((gi (f_X2_takeOut σ (gi σ 18 (gi σ 27 (nI j))) (mn (f_X4_wanted σ (gi σ 27 (nI j))) (gi σ 10 (gi σ 18 (gi σ 27 (nI j)))))).2 22 (gi σ 27 (nI j))) + (mn (f_X4_wanted σ (gi σ 27 (nI j))) (gi σ 10 (gi σ 18 (gi σ 27 (nI j)))))))) (k := 23) (x := (gi σ 27 (nI j))) (v := ((gl (f_X2_takeOut σ (gi σ 18 (gi σ 27 (nI j))) (mn (f_X4_wanted σ (gi σ 27 (nI j))) (gi σ 10 (gi σ 18 (gi σ 27 (nI j)))))).2 23 (gi σ 27 (nI j))) + (((mn (f_X4_wanted σ (gi σ 27 (nI j))) (gi σ 10 (gi σ 18 (gi σ 27 (nI j)))))).toInt64))) Kp.rf) (EK.kp (Kp_si (τ := (f_X2_takeOut σ (gi σ 18 (gi σ 27 (nI j))) (mn (f_X4_wanted σ (gi σ 27 (nI j))) (gi σ 10 (gi σ 18 (gi σ 27 (nI j)))))).2) (k := 22) (x := (gi σ 27 (nI j))) (v := ((gi (f_X2_takeOut σ (gi σ 18 (gi σ 27 (nI j))) (mn (f_X4_wanted σ (gi σ 27 (nI j))) (gi σ 10 (gi σ 18 (gi σ 27 (nI j)))))).2 22 (gi σ 27 (nI j))) + (mn (f_X4_wanted σ (gi σ 27 (nI j))) (gi σ 10 (gi σ 18 (gi σ 27 (nI j))))))) Kp.rf (by decide)) (EK.kp (KP_X2_takeOut (σ := σ) (x := (gi σ 18 (gi σ 27 (nI j)))) (y := (mn (f_X4_wanted σ (gi σ 27 (nI j))) (gi σ 10 (gi σ 18 (gi σ 27 (nI j))))))) (EK.rf hE))))).2.2.1; omega)
    refine w_retv (runV_X (As := [.int 99]) (rest := []) (q0 := 0) (n := 1) S hml hK (hZ.at E) (Cut.full E hA) (c_X5_note l g ad lo ke fo ea (sl (sl (si (f_X2_takeOut σ (gi σ 18 (gi σ 27 (nI j))) (mn (f_X4_wanted σ (gi σ 27 (nI j))) (gi σ 10 (gi σ 18 (gi σ 27 (nI j)))))).2 22 (gi σ 27 (nI j)) ((gi (f_X2_takeOut σ (gi σ 18 (gi σ 27 (nI j))) (mn (f_X4_wanted σ (gi σ 27 (nI j))) (gi σ 10 (gi σ 18 (gi σ 27 (nI j)))))).2 22 (gi σ 27 (nI j))) + (mn (f_X4_wanted σ (gi σ 27 (nI j))) (gi σ 10 (gi σ 18 (gi σ 27 (nI j))))))) 23 (gi σ 27 (nI j)) ((gl (f_X2_takeOut σ (gi σ 18 (gi σ 27 (nI j))) (mn (f_X4_wanted σ (gi σ 27 (nI j))) (gi σ 10 (gi σ 18 (gi σ 27 (nI j)))))).2 23 (gi σ 27 (nI j))) + (((mn (f_X4_wanted σ (gi σ 27 (nI j))) (gi σ 10 (gi σ 18 (gi σ 27 (nI j)))))).toInt64))) 28 2 ((gl (f_X2_takeOut σ (gi σ 18 (gi σ 27 (nI j))) (mn (f_X4_wanted σ (gi σ 27 (nI j))) (gi σ 10 (gi σ 18 (gi σ 27 (nI j)))))).2 28 2) + (((mn (f_X4_wanted σ (gi σ 27 (nI j))) (gi σ 10 (gi σ 18 (gi σ 27 (nI j)))))).toInt64))) 99 lc99 hke (EK.kp (Kp_sl (τ := (sl (si (f_X2_takeOut σ (gi σ 18 (gi σ 27 (nI j))) (mn (f_X4_wanted σ (gi σ 27 (nI j))) (gi σ 10 (gi σ 18 (gi σ 27 (nI j)))))).2 22 (gi σ 27 (nI j)) ((gi (f_X2_takeOut σ (gi σ 18 (gi σ 27 (nI j))) (mn (f_X4_wanted σ (gi σ 27 (nI j))) (gi σ 10 (gi σ 18 (gi σ 27 (nI j)))))).2 22 (gi σ 27 (nI j))) + (mn (f_X4_wanted σ (gi σ 27 (nI j))) (gi σ 10 (gi σ 18 (gi σ 27 (nI j))))))) 23 (gi σ 27 (nI j)) ((gl (f_X2_takeOut σ (gi σ 18 (gi σ 27 (nI j))) (mn (f_X4_wanted σ (gi σ 27 (nI j))) (gi σ 10 (gi σ 18 (gi σ 27 (nI j)))))).2 23 (gi σ 27 (nI j))) + (((mn (f_X4_wanted σ (gi σ 27 (nI j))) (gi σ 10 (gi σ 18 (gi σ 27 (nI j)))))).toInt64)))) (k := 28) (x := 2) (v := ((gl (f_X2_takeOut σ (gi σ 18 (gi σ 27 (nI j))) (mn (f_X4_wanted σ (gi σ 27 (nI j))) (gi σ 10 (gi σ 18 (gi σ 27 (nI j)))))).2 28 2) + (((mn (f_X4_wanted σ (gi σ 27 (nI j))) (gi σ 10 (gi σ 18 (gi σ 27 (nI j)))))).toInt64))) Kp.rf) (EK.kp (Kp_sl (τ := (si (f_X2_takeOut σ (gi σ 18 (gi σ 27 (nI j))) (mn (f_X4_wanted σ (gi σ 27 (nI j))) (gi σ 10 (gi σ 18 (gi σ 27 (nI j)))))).2 22 (gi σ 27 (nI j)) ((gi (f_X2_takeOut σ (gi σ 18 (gi σ 27 (nI j))) (mn (f_X4_wanted σ (gi σ 27 (nI j))) (gi σ 10 (gi σ 18 (gi σ 27 (nI j)))))).2 22 (gi σ 27 (nI j))) + (mn (f_X4_wanted σ (gi σ 27 (nI j))) (gi σ 10 (gi σ 18 (gi σ 27 (nI j)))))))) (k := 23) (x := (gi σ 27 (nI j))) (v := ((gl (f_X2_takeOut σ (gi σ 18 (gi σ 27 (nI j))) (mn (f_X4_wanted σ (gi σ 27 (nI j))) (gi σ 10 (gi σ 18 (gi σ 27 (nI j)))))).2 23 (gi σ 27 (nI j))) + (((mn (f_X4_wanted σ (gi σ 27 (nI j))) (gi σ 10 (gi σ 18 (gi σ 27 (nI j)))))).toInt64))) Kp.rf) (EK.kp (Kp_si (τ := (f_X2_takeOut σ (gi σ 18 (gi σ 27 (nI j))) (mn (f_X4_wanted σ (gi σ 27 (nI j))) (gi σ 10 (gi σ 18 (gi σ 27 (nI j)))))).2) (k := 22) (x := (gi σ 27 (nI j))) (v := ((gi (f_X2_takeOut σ (gi σ 18 (gi σ 27 (nI j))) (mn (f_X4_wanted σ (gi σ 27 (nI j))) (gi σ 10 (gi σ 18 (gi σ 27 (nI j)))))).2 22 (gi σ 27 (nI j))) + (mn (f_X4_wanted σ (gi σ 27 (nI j))) (gi σ 10 (gi σ 18 (gi σ 27 (nI j))))))) Kp.rf (by decide)) (EK.kp (KP_X2_takeOut (σ := σ) (x := (gi σ 18 (gi σ 27 (nI j)))) (y := (mn (f_X4_wanted σ (gi σ 27 (nI j))) (gi σ 10 (gi σ 18 (gi σ 27 (nI j))))))) (EK.rf hE))))).1 (by have := (EK.kp (Kp_sl (τ := (sl (si (f_X2_takeOut σ (gi σ 18 (gi σ 27 (nI j))) (mn (f_X4_wanted σ (gi σ 27 (nI j))) (gi σ 10 (gi σ 18 (gi σ 27 (nI j)))))).2 22 (gi σ 27 (nI j)) ((gi (f_X2_takeOut σ (gi σ 18 (gi σ 27 (nI j))) (mn (f_X4_wanted σ (gi σ 27 (nI j))) (gi σ 10 (gi σ 18 (gi σ 27 (nI j)))))).2 22 (gi σ 27 (nI j))) + (mn (f_X4_wanted σ (gi σ 27 (nI j))) (gi σ 10 (gi σ 18 (gi σ 27 (nI j))))))) 23 (gi σ 27 (nI j)) ((gl (f_X2_takeOut σ (gi σ 18 (gi σ 27 (nI j))) (mn (f_X4_wanted σ (gi σ 27 (nI j))) (gi σ 10 (gi σ 18 (gi σ 27 (nI j)))))).2 23 (gi σ 27 (nI j))) + (((mn (f_X4_wanted σ (gi σ 27 (nI j))) (gi σ 10 (gi σ 18 (gi σ 27 (nI j)))))).toInt64)))) (k := 28) (x := 2) (v := ((gl (f_X2_takeOut σ (gi σ 18 (gi σ 27 (nI j))) (mn (f_X4_wanted σ (gi σ 27 (nI j))) (gi σ 10 (gi σ 18 (gi σ 27 (nI j)))))).2 28 2) + (((mn (f_X4_wanted σ (gi σ 27 (nI j))) (gi σ 10 (gi σ 18 (gi σ 27 (nI j)))))).toInt64))) Kp.rf) (EK.kp (Kp_sl (τ := (si (f_X2_takeOut σ (gi σ 18 (gi σ 27 (nI j))) (mn (f_X4_wanted σ (gi σ 27 (nI j))) (gi σ 10 (gi σ 18 (gi σ 27 (nI j)))))).2 22 (gi σ 27 (nI j)) ((gi (f_X2_takeOut σ (gi σ 18 (gi σ 27 (nI j))) (mn (f_X4_wanted σ (gi σ 27 (nI j))) (gi σ 10 (gi σ 18 (gi σ 27 (nI j)))))).2 22 (gi σ 27 (nI j))) + (mn (f_X4_wanted σ (gi σ 27 (nI j))) (gi σ 10 (gi σ 18 (gi σ 27 (nI j)))))))) (k := 23) (x := (gi σ 27 (nI j))) (v := ((gl (f_X2_takeOut σ (gi σ 18 (gi σ 27 (nI j))) (mn (f_X4_wanted σ (gi σ 27 (nI j))) (gi σ 10 (gi σ 18 (gi σ 27 (nI j)))))).2 23 (gi σ 27 (nI j))) + (((mn (f_X4_wanted σ (gi σ 27 (nI j))) (gi σ 10 (gi σ 18 (gi σ 27 (nI j)))))).toInt64))) Kp.rf) (EK.kp (Kp_si (τ := (f_X2_takeOut σ (gi σ 18 (gi σ 27 (nI j))) (mn (f_X4_wanted σ (gi σ 27 (nI j))) (gi σ 10 (gi σ 18 (gi σ 27 (nI j)))))).2) (k := 22) (x := (gi σ 27 (nI j))) (v := ((gi (f_X2_takeOut σ (gi σ 18 (gi σ 27 (nI j))) (mn (f_X4_wanted σ (gi σ 27 (nI j))) (gi σ 10 (gi σ 18 (gi σ 27 (nI j)))))).2 22 (gi σ 27 (nI j))) + (mn (f_X4_wanted σ (gi σ 27 (nI j))) (gi σ 10 (gi σ 18 (gi σ 27 (nI j))))))) Kp.rf (by decide)) (EK.kp (KP_X2_takeOut (σ := σ) (x := (gi σ 18 (gi σ 27 (nI j)))) (y := (mn (f_X4_wanted σ (gi σ 27 (nI j))) (gi σ 10 (gi σ 18 (gi σ 27 (nI j))))))) (EK.rf hE))))).2.2.1; omega) _ _) (gi_wsV ml_X5_222 im_X5_note sl_X5_note in_X5 co_X5_note) ⟨rfl, by decide +kernel, by decide +kernel, by decide +kernel⟩ ⟨Nat.le_of_ble_eq_true rfl, Nat.le_of_ble_eq_true rfl⟩ rfl rfl rfl hl.1 rfl (Nat.le_of_ble_eq_true rfl) dX5_pumpWell_111 ⟨by show eg (sl (sl (si (f_X2_takeOut σ (gi σ 18 (gi σ 27 (nI j))) (mn (f_X4_wanted σ (gi σ 27 (nI j))) (gi σ 10 (gi σ 18 (gi σ 27 (nI j)))))).2 22 (gi σ 27 (nI j)) ((gi (f_X2_takeOut σ (gi σ 18 (gi σ 27 (nI j))) (mn (f_X4_wanted σ (gi σ 27 (nI j))) (gi σ 10 (gi σ 18 (gi σ 27 (nI j)))))).2 22 (gi σ 27 (nI j))) + (mn (f_X4_wanted σ (gi σ 27 (nI j))) (gi σ 10 (gi σ 18 (gi σ 27 (nI j))))))) 23 (gi σ 27 (nI j)) ((gl (f_X2_takeOut σ (gi σ 18 (gi σ 27 (nI j))) (mn (f_X4_wanted σ (gi σ 27 (nI j))) (gi σ 10 (gi σ 18 (gi σ 27 (nI j)))))).2 23 (gi σ 27 (nI j))) + (((mn (f_X4_wanted σ (gi σ 27 (nI j))) (gi σ 10 (gi σ 18 (gi σ 27 (nI j)))))).toInt64))) 28 2 ((gl (f_X2_takeOut σ (gi σ 18 (gi σ 27 (nI j))) (mn (f_X4_wanted σ (gi σ 27 (nI j))) (gi σ 10 (gi σ 18 (gi σ 27 (nI j)))))).2 28 2) + (((mn (f_X4_wanted σ (gi σ 27 (nI j))) (gi σ 10 (gi σ 18 (gi σ 27 (nI j)))))).toInt64))) - eg σ + 1 ≤ 13; omega, by show 2 * ec (sl (sl (si (f_X2_takeOut σ (gi σ 18 (gi σ 27 (nI j))) (mn (f_X4_wanted σ (gi σ 27 (nI j))) (gi σ 10 (gi σ 18 (gi σ 27 (nI j)))))).2 22 (gi σ 27 (nI j)) ((gi (f_X2_takeOut σ (gi σ 18 (gi σ 27 (nI j))) (mn (f_X4_wanted σ (gi σ 27 (nI j))) (gi σ 10 (gi σ 18 (gi σ 27 (nI j)))))).2 22 (gi σ 27 (nI j))) + (mn (f_X4_wanted σ (gi σ 27 (nI j))) (gi σ 10 (gi σ 18 (gi σ 27 (nI j))))))) 23 (gi σ 27 (nI j)) ((gl (f_X2_takeOut σ (gi σ 18 (gi σ 27 (nI j))) (mn (f_X4_wanted σ (gi σ 27 (nI j))) (gi σ 10 (gi σ 18 (gi σ 27 (nI j)))))).2 23 (gi σ 27 (nI j))) + (((mn (f_X4_wanted σ (gi σ 27 (nI j))) (gi σ 10 (gi σ 18 (gi σ 27 (nI j)))))).toInt64))) 28 2 ((gl (f_X2_takeOut σ (gi σ 18 (gi σ 27 (nI j))) (mn (f_X4_wanted σ (gi σ 27 (nI j))) (gi σ 10 (gi σ 18 (gi σ 27 (nI j)))))).2 28 2) + (((mn (f_X4_wanted σ (gi σ 27 (nI j))) (gi σ 10 (gi σ 18 (gi σ 27 (nI j)))))).toInt64))) - 2 * ec σ + 100002 ≤ 200002; omega⟩) (Cut.full E hA) E (fun u H locs hp E => ?_)
    obtain ⟨u1, ea_2⟩ := u
    have hp : u1 = f_X5_note (sl (sl (si (f_X2_takeOut σ (gi σ 18 (gi σ 27 (nI j))) (mn (f_X4_wanted σ (gi σ 27 (nI j))) (gi σ 10 (gi σ 18 (gi σ 27 (nI j)))))).2 22 (gi σ 27 (nI j)) ((gi (f_X2_takeOut σ (gi σ 18 (gi σ 27 (nI j))) (mn (f_X4_wanted σ (gi σ 27 (nI j))) (gi σ 10 (gi σ 18 (gi σ 27 (nI j)))))).2 22 (gi σ 27 (nI j))) + (mn (f_X4_wanted σ (gi σ 27 (nI j))) (gi σ 10 (gi σ 18 (gi σ 27 (nI j))))))) 23 (gi σ 27 (nI j)) ((gl (f_X2_takeOut σ (gi σ 18 (gi σ 27 (nI j))) (mn (f_X4_wanted σ (gi σ 27 (nI j))) (gi σ 10 (gi σ 18 (gi σ 27 (nI j)))))).2 23 (gi σ 27 (nI j))) + (((mn (f_X4_wanted σ (gi σ 27 (nI j))) (gi σ 10 (gi σ 18 (gi σ 27 (nI j)))))).toInt64))) 28 2 ((gl (f_X2_takeOut σ (gi σ 18 (gi σ 27 (nI j))) (mn (f_X4_wanted σ (gi σ 27 (nI j))) (gi σ 10 (gi σ 18 (gi σ 27 (nI j)))))).2 28 2) + (((mn (f_X4_wanted σ (gi σ 27 (nI j))) (gi σ 10 (gi σ 18 (gi σ 27 (nI j)))))).toInt64))) 99 := hp
    subst hp
    have E : Ev g _ s.heap H locs (wsW g ad lo ke fo ea_2 (f_X5_note (sl (sl (si (f_X2_takeOut σ (gi σ 18 (gi σ 27 (nI j))) (mn (f_X4_wanted σ (gi σ 27 (nI j))) (gi σ 10 (gi σ 18 (gi σ 27 (nI j)))))).2 22 (gi σ 27 (nI j)) ((gi (f_X2_takeOut σ (gi σ 18 (gi σ 27 (nI j))) (mn (f_X4_wanted σ (gi σ 27 (nI j))) (gi σ 10 (gi σ 18 (gi σ 27 (nI j)))))).2 22 (gi σ 27 (nI j))) + (mn (f_X4_wanted σ (gi σ 27 (nI j))) (gi σ 10 (gi σ 18 (gi σ 27 (nI j))))))) 23 (gi σ 27 (nI j)) ((gl (f_X2_takeOut σ (gi σ 18 (gi σ 27 (nI j))) (mn (f_X4_wanted σ (gi σ 27 (nI j))) (gi σ 10 (gi σ 18 (gi σ 27 (nI j)))))).2 23 (gi σ 27 (nI j))) + (((mn (f_X4_wanted σ (gi σ 27 (nI j))) (gi σ 10 (gi σ 18 (gi σ 27 (nI j)))))).toInt64))) 28 2 ((gl (f_X2_takeOut σ (gi σ 18 (gi σ 27 (nI j))) (mn (f_X4_wanted σ (gi σ 27 (nI j))) (gi σ 10 (gi σ 18 (gi σ 27 (nI j)))))).2 28 2) + (((mn (f_X4_wanted σ (gi σ 27 (nI j))) (gi σ 10 (gi σ 18 (gi σ 27 (nI j)))))).toInt64))) 99)) := E
    refine W.widen (k := eg (f_X5_note (sl (sl (si (f_X2_takeOut σ (gi σ 18 (gi σ 27 (nI j))) (mn (f_X4_wanted σ (gi σ 27 (nI j))) (gi σ 10 (gi σ 18 (gi σ 27 (nI j)))))).2 22 (gi σ 27 (nI j)) ((gi (f_X2_takeOut σ (gi σ 18 (gi σ 27 (nI j))) (mn (f_X4_wanted σ (gi σ 27 (nI j))) (gi σ 10 (gi σ 18 (gi σ 27 (nI j)))))).2 22 (gi σ 27 (nI j))) + (mn (f_X4_wanted σ (gi σ 27 (nI j))) (gi σ 10 (gi σ 18 (gi σ 27 (nI j))))))) 23 (gi σ 27 (nI j)) ((gl (f_X2_takeOut σ (gi σ 18 (gi σ 27 (nI j))) (mn (f_X4_wanted σ (gi σ 27 (nI j))) (gi σ 10 (gi σ 18 (gi σ 27 (nI j)))))).2 23 (gi σ 27 (nI j))) + (((mn (f_X4_wanted σ (gi σ 27 (nI j))) (gi σ 10 (gi σ 18 (gi σ 27 (nI j)))))).toInt64))) 28 2 ((gl (f_X2_takeOut σ (gi σ 18 (gi σ 27 (nI j))) (mn (f_X4_wanted σ (gi σ 27 (nI j))) (gi σ 10 (gi σ 18 (gi σ 27 (nI j)))))).2 28 2) + (((mn (f_X4_wanted σ (gi σ 27 (nI j))) (gi σ 10 (gi σ 18 (gi σ 27 (nI j)))))).toInt64))) 99) - eg σ) (n := 2 * ec (f_X5_note (sl (sl (si (f_X2_takeOut σ (gi σ 18 (gi σ 27 (nI j))) (mn (f_X4_wanted σ (gi σ 27 (nI j))) (gi σ 10 (gi σ 18 (gi σ 27 (nI j)))))).2 22 (gi σ 27 (nI j)) ((gi (f_X2_takeOut σ (gi σ 18 (gi σ 27 (nI j))) (mn (f_X4_wanted σ (gi σ 27 (nI j))) (gi σ 10 (gi σ 18 (gi σ 27 (nI j)))))).2 22 (gi σ 27 (nI j))) + (mn (f_X4_wanted σ (gi σ 27 (nI j))) (gi σ 10 (gi σ 18 (gi σ 27 (nI j))))))) 23 (gi σ 27 (nI j)) ((gl (f_X2_takeOut σ (gi σ 18 (gi σ 27 (nI j))) (mn (f_X4_wanted σ (gi σ 27 (nI j))) (gi σ 10 (gi σ 18 (gi σ 27 (nI j)))))).2 23 (gi σ 27 (nI j))) + (((mn (f_X4_wanted σ (gi σ 27 (nI j))) (gi σ 10 (gi σ 18 (gi σ 27 (nI j)))))).toInt64))) 28 2 ((gl (f_X2_takeOut σ (gi σ 18 (gi σ 27 (nI j))) (mn (f_X4_wanted σ (gi σ 27 (nI j))) (gi σ 10 (gi σ 18 (gi σ 27 (nI j)))))).2 28 2) + (((mn (f_X4_wanted σ (gi σ 27 (nI j))) (gi σ 10 (gi σ 18 (gi σ 27 (nI j)))))).toInt64))) 99) - 2 * ec σ) (by have h1 := (EK.kp (Kp_sl (τ := (sl (si (f_X2_takeOut σ (gi σ 18 (gi σ 27 (nI j))) (mn (f_X4_wanted σ (gi σ 27 (nI j))) (gi σ 10 (gi σ 18 (gi σ 27 (nI j)))))).2 22 (gi σ 27 (nI j)) ((gi (f_X2_takeOut σ (gi σ 18 (gi σ 27 (nI j))) (mn (f_X4_wanted σ (gi σ 27 (nI j))) (gi σ 10 (gi σ 18 (gi σ 27 (nI j)))))).2 22 (gi σ 27 (nI j))) + (mn (f_X4_wanted σ (gi σ 27 (nI j))) (gi σ 10 (gi σ 18 (gi σ 27 (nI j))))))) 23 (gi σ 27 (nI j)) ((gl (f_X2_takeOut σ (gi σ 18 (gi σ 27 (nI j))) (mn (f_X4_wanted σ (gi σ 27 (nI j))) (gi σ 10 (gi σ 18 (gi σ 27 (nI j)))))).2 23 (gi σ 27 (nI j))) + (((mn (f_X4_wanted σ (gi σ 27 (nI j))) (gi σ 10 (gi σ 18 (gi σ 27 (nI j)))))).toInt64)))) (k := 28) (x := 2) (v := ((gl (f_X2_takeOut σ (gi σ 18 (gi σ 27 (nI j))) (mn (f_X4_wanted σ (gi σ 27 (nI j))) (gi σ 10 (gi σ 18 (gi σ 27 (nI j)))))).2 28 2) + (((mn (f_X4_wanted σ (gi σ 27 (nI j))) (gi σ 10 (gi σ 18 (gi σ 27 (nI j)))))).toInt64))) Kp.rf) (EK.kp (Kp_sl (τ := (si (f_X2_takeOut σ (gi σ 18 (gi σ 27 (nI j))) (mn (f_X4_wanted σ (gi σ 27 (nI j))) (gi σ 10 (gi σ 18 (gi σ 27 (nI j)))))).2 22 (gi σ 27 (nI j)) ((gi (f_X2_takeOut σ (gi σ 18 (gi σ 27 (nI j))) (mn (f_X4_wanted σ (gi σ 27 (nI j))) (gi σ 10 (gi σ 18 (gi σ 27 (nI j)))))).2 22 (gi σ 27 (nI j))) + (mn (f_X4_wanted σ (gi σ 27 (nI j))) (gi σ 10 (gi σ 18 (gi σ 27 (nI j)))))))) (k := 23) (x := (gi σ 27 (nI j))) (v := ((gl (f_X2_takeOut σ (gi σ 18 (gi σ 27 (nI j))) (mn (f_X4_wanted σ (gi σ 27 (nI j))) (gi σ 10 (gi σ 18 (gi σ 27 (nI j)))))).2 23 (gi σ 27 (nI j))) + (((mn (f_X4_wanted σ (gi σ 27 (nI j))) (gi σ 10 (gi σ 18 (gi σ 27 (nI j)))))).toInt64))) Kp.rf) (EK.kp (Kp_si (τ := (f_X2_takeOut σ (gi σ 18 (gi σ 27 (nI j))) (mn (f_X4_wanted σ (gi σ 27 (nI j))) (gi σ 10 (gi σ 18 (gi σ 27 (nI j)))))).2) (k := 22) (x := (gi σ 27 (nI j))) (v := ((gi (f_X2_takeOut σ (gi σ 18 (gi σ 27 (nI j))) (mn (f_X4_wanted σ (gi σ 27 (nI j))) (gi σ 10 (gi σ 18 (gi σ 27 (nI j)))))).2 22 (gi σ 27 (nI j))) + (mn (f_X4_wanted σ (gi σ 27 (nI j))) (gi σ 10 (gi σ 18 (gi σ 27 (nI j))))))) Kp.rf (by decide)) (EK.kp (KP_X2_takeOut (σ := σ) (x := (gi σ 18 (gi σ 27 (nI j)))) (y := (mn (f_X4_wanted σ (gi σ 27 (nI j))) (gi σ 10 (gi σ 18 (gi σ 27 (nI j))))))) (EK.rf hE))))).2.2.2.1; have h2 := (EK_X5_note (σ := (sl (sl (si (f_X2_takeOut σ (gi σ 18 (gi σ 27 (nI j))) (mn (f_X4_wanted σ (gi σ 27 (nI j))) (gi σ 10 (gi σ 18 (gi σ 27 (nI j)))))).2 22 (gi σ 27 (nI j)) ((gi (f_X2_takeOut σ (gi σ 18 (gi σ 27 (nI j))) (mn (f_X4_wanted σ (gi σ 27 (nI j))) (gi σ 10 (gi σ 18 (gi σ 27 (nI j)))))).2 22 (gi σ 27 (nI j))) + (mn (f_X4_wanted σ (gi σ 27 (nI j))) (gi σ 10 (gi σ 18 (gi σ 27 (nI j))))))) 23 (gi σ 27 (nI j)) ((gl (f_X2_takeOut σ (gi σ 18 (gi σ 27 (nI j))) (mn (f_X4_wanted σ (gi σ 27 (nI j))) (gi σ 10 (gi σ 18 (gi σ 27 (nI j)))))).2 23 (gi σ 27 (nI j))) + (((mn (f_X4_wanted σ (gi σ 27 (nI j))) (gi σ 10 (gi σ 18 (gi σ 27 (nI j)))))).toInt64))) 28 2 ((gl (f_X2_takeOut σ (gi σ 18 (gi σ 27 (nI j))) (mn (f_X4_wanted σ (gi σ 27 (nI j))) (gi σ 10 (gi σ 18 (gi σ 27 (nI j)))))).2 28 2) + (((mn (f_X4_wanted σ (gi σ 27 (nI j))) (gi σ 10 (gi σ 18 (gi σ 27 (nI j)))))).toInt64)))) (c := 99) (EK.kp (Kp_sl (τ := (sl (si (f_X2_takeOut σ (gi σ 18 (gi σ 27 (nI j))) (mn (f_X4_wanted σ (gi σ 27 (nI j))) (gi σ 10 (gi σ 18 (gi σ 27 (nI j)))))).2 22 (gi σ 27 (nI j)) ((gi (f_X2_takeOut σ (gi σ 18 (gi σ 27 (nI j))) (mn (f_X4_wanted σ (gi σ 27 (nI j))) (gi σ 10 (gi σ 18 (gi σ 27 (nI j)))))).2 22 (gi σ 27 (nI j))) + (mn (f_X4_wanted σ (gi σ 27 (nI j))) (gi σ 10 (gi σ 18 (gi σ 27 (nI j))))))) 23 (gi σ 27 (nI j)) ((gl (f_X2_takeOut σ (gi σ 18 (gi σ 27 (nI j))) (mn (f_X4_wanted σ (gi σ 27 (nI j))) (gi σ 10 (gi σ 18 (gi σ 27 (nI j)))))).2 23 (gi σ 27 (nI j))) + (((mn (f_X4_wanted σ (gi σ 27 (nI j))) (gi σ 10 (gi σ 18 (gi σ 27 (nI j)))))).toInt64)))) (k := 28) (x := 2) (v := ((gl (f_X2_takeOut σ (gi σ 18 (gi σ 27 (nI j))) (mn (f_X4_wanted σ (gi σ 27 (nI j))) (gi σ 10 (gi σ 18 (gi σ 27 (nI j)))))).2 28 2) + (((mn (f_X4_wanted σ (gi σ 27 (nI j))) (gi σ 10 (gi σ 18 (gi σ 27 (nI j)))))).toInt64))) Kp.rf) (EK.kp (Kp_sl (τ := (si (f_X2_takeOut σ (gi σ 18 (gi σ 27 (nI j))) (mn (f_X4_wanted σ (gi σ 27 (nI j))) (gi σ 10 (gi σ 18 (gi σ 27 (nI j)))))).2 22 (gi σ 27 (nI j)) ((gi (f_X2_takeOut σ (gi σ 18 (gi σ 27 (nI j))) (mn (f_X4_wanted σ (gi σ 27 (nI j))) (gi σ 10 (gi σ 18 (gi σ 27 (nI j)))))).2 22 (gi σ 27 (nI j))) + (mn (f_X4_wanted σ (gi σ 27 (nI j))) (gi σ 10 (gi σ 18 (gi σ 27 (nI j)))))))) (k := 23) (x := (gi σ 27 (nI j))) (v := ((gl (f_X2_takeOut σ (gi σ 18 (gi σ 27 (nI j))) (mn (f_X4_wanted σ (gi σ 27 (nI j))) (gi σ 10 (gi σ 18 (gi σ 27 (nI j)))))).2 23 (gi σ 27 (nI j))) + (((mn (f_X4_wanted σ (gi σ 27 (nI j))) (gi σ 10 (gi σ 18 (gi σ 27 (nI j)))))).toInt64))) Kp.rf) (EK.kp (Kp_si (τ := (f_X2_takeOut σ (gi σ 18 (gi σ 27 (nI j))) (mn (f_X4_wanted σ (gi σ 27 (nI j))) (gi σ 10 (gi σ 18 (gi σ 27 (nI j)))))).2) (k := 22) (x := (gi σ 27 (nI j))) (v := ((gi (f_X2_takeOut σ (gi σ 18 (gi σ 27 (nI j))) (mn (f_X4_wanted σ (gi σ 27 (nI j))) (gi σ 10 (gi σ 18 (gi σ 27 (nI j)))))).2 22 (gi σ 27 (nI j))) + (mn (f_X4_wanted σ (gi σ 27 (nI j))) (gi σ 10 (gi σ 18 (gi σ 27 (nI j))))))) Kp.rf (by decide)) (EK.kp (KP_X2_takeOut (σ := σ) (x := (gi σ 18 (gi σ 27 (nI j)))) (y := (mn (f_X4_wanted σ (gi σ 27 (nI j))) (gi σ 10 (gi σ 18 (gi σ 27 (nI j))))))) (EK.rf hE))))).1 (by have := (EK.kp (Kp_sl (τ := (sl (si (f_X2_takeOut σ (gi σ 18 (gi σ 27 (nI j))) (mn (f_X4_wanted σ (gi σ 27 (nI j))) (gi σ 10 (gi σ 18 (gi σ 27 (nI j)))))).2 22 (gi σ 27 (nI j)) ((gi (f_X2_takeOut σ (gi σ 18 (gi σ 27 (nI j))) (mn (f_X4_wanted σ (gi σ 27 (nI j))) (gi σ 10 (gi σ 18 (gi σ 27 (nI j)))))).2 22 (gi σ 27 (nI j))) + (mn (f_X4_wanted σ (gi σ 27 (nI j))) (gi σ 10 (gi σ 18 (gi σ 27 (nI j))))))) 23 (gi σ 27 (nI j)) ((gl (f_X2_takeOut σ (gi σ 18 (gi σ 27 (nI j))) (mn (f_X4_wanted σ (gi σ 27 (nI j))) (gi σ 10 (gi σ 18 (gi σ 27 (nI j)))))).2 23 (gi σ 27 (nI j))) + (((mn (f_X4_wanted σ (gi σ 27 (nI j))) (gi σ 10 (gi σ 18 (gi σ 27 (nI j)))))).toInt64)))) (k := 28) (x := 2) (v := ((gl (f_X2_takeOut σ (gi σ 18 (gi σ 27 (nI j))) (mn (f_X4_wanted σ (gi σ 27 (nI j))) (gi σ 10 (gi σ 18 (gi σ 27 (nI j)))))).2 28 2) + (((mn (f_X4_wanted σ (gi σ 27 (nI j))) (gi σ 10 (gi σ 18 (gi σ 27 (nI j)))))).toInt64))) Kp.rf) (EK.kp (Kp_sl (τ := (si (f_X2_takeOut σ (gi σ 18 (gi σ 27 (nI j))) (mn (f_X4_wanted σ (gi σ 27 (nI j))) (gi σ 10 (gi σ 18 (gi σ 27 (nI j)))))).2 22 (gi σ 27 (nI j)) ((gi (f_X2_takeOut σ (gi σ 18 (gi σ 27 (nI j))) (mn (f_X4_wanted σ (gi σ 27 (nI j))) (gi σ 10 (gi σ 18 (gi σ 27 (nI j)))))).2 22 (gi σ 27 (nI j))) + (mn (f_X4_wanted σ (gi σ 27 (nI j))) (gi σ 10 (gi σ 18 (gi σ 27 (nI j)))))))) (k := 23) (x := (gi σ 27 (nI j))) (v := ((gl (f_X2_takeOut σ (gi σ 18 (gi σ 27 (nI j))) (mn (f_X4_wanted σ (gi σ 27 (nI j))) (gi σ 10 (gi σ 18 (gi σ 27 (nI j)))))).2 23 (gi σ 27 (nI j))) + (((mn (f_X4_wanted σ (gi σ 27 (nI j))) (gi σ 10 (gi σ 18 (gi σ 27 (nI j)))))).toInt64))) Kp.rf) (EK.kp (Kp_si (τ := (f_X2_takeOut σ (gi σ 18 (gi σ 27 (nI j))) (mn (f_X4_wanted σ (gi σ 27 (nI j))) (gi σ 10 (gi σ 18 (gi σ 27 (nI j)))))).2) (k := 22) (x := (gi σ 27 (nI j))) (v := ((gi (f_X2_takeOut σ (gi σ 18 (gi σ 27 (nI j))) (mn (f_X4_wanted σ (gi σ 27 (nI j))) (gi σ 10 (gi σ 18 (gi σ 27 (nI j)))))).2 22 (gi σ 27 (nI j))) + (mn (f_X4_wanted σ (gi σ 27 (nI j))) (gi σ 10 (gi σ 18 (gi σ 27 (nI j))))))) Kp.rf (by decide)) (EK.kp (KP_X2_takeOut (σ := σ) (x := (gi σ 18 (gi σ 27 (nI j)))) (y := (mn (f_X4_wanted σ (gi σ 27 (nI j))) (gi σ 10 (gi σ 18 (gi σ 27 (nI j))))))) (EK.rf hE))))).2.2.1; omega) lc99).2.2.2.1; show eg (sl (sl (si (f_X2_takeOut σ (gi σ 18 (gi σ 27 (nI j))) (mn (f_X4_wanted σ (gi σ 27 (nI j))) (gi σ 10 (gi σ 18 (gi σ 27 (nI j)))))).2 22 (gi σ 27 (nI j)) ((gi (f_X2_takeOut σ (gi σ 18 (gi σ 27 (nI j))) (mn (f_X4_wanted σ (gi σ 27 (nI j))) (gi σ 10 (gi σ 18 (gi σ 27 (nI j)))))).2 22 (gi σ 27 (nI j))) + (mn (f_X4_wanted σ (gi σ 27 (nI j))) (gi σ 10 (gi σ 18 (gi σ 27 (nI j))))))) 23 (gi σ 27 (nI j)) ((gl (f_X2_takeOut σ (gi σ 18 (gi σ 27 (nI j))) (mn (f_X4_wanted σ (gi σ 27 (nI j))) (gi σ 10 (gi σ 18 (gi σ 27 (nI j)))))).2 23 (gi σ 27 (nI j))) + (((mn (f_X4_wanted σ (gi σ 27 (nI j))) (gi σ 10 (gi σ 18 (gi σ 27 (nI j)))))).toInt64))) 28 2 ((gl (f_X2_takeOut σ (gi σ 18 (gi σ 27 (nI j))) (mn (f_X4_wanted σ (gi σ 27 (nI j))) (gi σ 10 (gi σ 18 (gi σ 27 (nI j)))))).2 28 2) + (((mn (f_X4_wanted σ (gi σ 27 (nI j))) (gi σ 10 (gi σ 18 (gi σ 27 (nI j)))))).toInt64))) - eg σ + (eg (f_X5_note (sl (sl (si (f_X2_takeOut σ (gi σ 18 (gi σ 27 (nI j))) (mn (f_X4_wanted σ (gi σ 27 (nI j))) (gi σ 10 (gi σ 18 (gi σ 27 (nI j)))))).2 22 (gi σ 27 (nI j)) ((gi (f_X2_takeOut σ (gi σ 18 (gi σ 27 (nI j))) (mn (f_X4_wanted σ (gi σ 27 (nI j))) (gi σ 10 (gi σ 18 (gi σ 27 (nI j)))))).2 22 (gi σ 27 (nI j))) + (mn (f_X4_wanted σ (gi σ 27 (nI j))) (gi σ 10 (gi σ 18 (gi σ 27 (nI j))))))) 23 (gi σ 27 (nI j)) ((gl (f_X2_takeOut σ (gi σ 18 (gi σ 27 (nI j))) (mn (f_X4_wanted σ (gi σ 27 (nI j))) (gi σ 10 (gi σ 18 (gi σ 27 (nI j)))))).2 23 (gi σ 27 (nI j))) + (((mn (f_X4_wanted σ (gi σ 27 (nI j))) (gi σ 10 (gi σ 18 (gi σ 27 (nI j)))))).toInt64))) 28 2 ((gl (f_X2_takeOut σ (gi σ 18 (gi σ 27 (nI j))) (mn (f_X4_wanted σ (gi σ 27 (nI j))) (gi σ 10 (gi σ 18 (gi σ 27 (nI j)))))).2 28 2) + (((mn (f_X4_wanted σ (gi σ 27 (nI j))) (gi σ 10 (gi σ 18 (gi σ 27 (nI j)))))).toInt64))) 99) - eg (sl (sl (si (f_X2_takeOut σ (gi σ 18 (gi σ 27 (nI j))) (mn (f_X4_wanted σ (gi σ 27 (nI j))) (gi σ 10 (gi σ 18 (gi σ 27 (nI j)))))).2 22 (gi σ 27 (nI j)) ((gi (f_X2_takeOut σ (gi σ 18 (gi σ 27 (nI j))) (mn (f_X4_wanted σ (gi σ 27 (nI j))) (gi σ 10 (gi σ 18 (gi σ 27 (nI j)))))).2 22 (gi σ 27 (nI j))) + (mn (f_X4_wanted σ (gi σ 27 (nI j))) (gi σ 10 (gi σ 18 (gi σ 27 (nI j))))))) 23 (gi σ 27 (nI j)) ((gl (f_X2_takeOut σ (gi σ 18 (gi σ 27 (nI j))) (mn (f_X4_wanted σ (gi σ 27 (nI j))) (gi σ 10 (gi σ 18 (gi σ 27 (nI j)))))).2 23 (gi σ 27 (nI j))) + (((mn (f_X4_wanted σ (gi σ 27 (nI j))) (gi σ 10 (gi σ 18 (gi σ 27 (nI j)))))).toInt64))) 28 2 ((gl (f_X2_takeOut σ (gi σ 18 (gi σ 27 (nI j))) (mn (f_X4_wanted σ (gi σ 27 (nI j))) (gi σ 10 (gi σ 18 (gi σ 27 (nI j)))))).2 28 2) + (((mn (f_X4_wanted σ (gi σ 27 (nI j))) (gi σ 10 (gi σ 18 (gi σ 27 (nI j)))))).toInt64)))) ≤ _; omega) (by have h1 := (EK.kp (Kp_sl (τ := (sl (si (f_X2_takeOut σ (gi σ 18 (gi σ 27 (nI j))) (mn (f_X4_wanted σ (gi σ 27 (nI j))) (gi σ 10 (gi σ 18 (gi σ 27 (nI j)))))).2 22 (gi σ 27 (nI j)) ((gi (f_X2_takeOut σ (gi σ 18 (gi σ 27 (nI j))) (mn (f_X4_wanted σ (gi σ 27 (nI j))) (gi σ 10 (gi σ 18 (gi σ 27 (nI j)))))).2 22 (gi σ 27 (nI j))) + (mn (f_X4_wanted σ (gi σ 27 (nI j))) (gi σ 10 (gi σ 18 (gi σ 27 (nI j))))))) 23 (gi σ 27 (nI j)) ((gl (f_X2_takeOut σ (gi σ 18 (gi σ 27 (nI j))) (mn (f_X4_wanted σ (gi σ 27 (nI j))) (gi σ 10 (gi σ 18 (gi σ 27 (nI j)))))).2 23 (gi σ 27 (nI j))) + (((mn (f_X4_wanted σ (gi σ 27 (nI j))) (gi σ 10 (gi σ 18 (gi σ 27 (nI j)))))).toInt64)))) (k := 28) (x := 2) (v := ((gl (f_X2_takeOut σ (gi σ 18 (gi σ 27 (nI j))) (mn (f_X4_wanted σ (gi σ 27 (nI j))) (gi σ 10 (gi σ 18 (gi σ 27 (nI j)))))).2 28 2) + (((mn (f_X4_wanted σ (gi σ 27 (nI j))) (gi σ 10 (gi σ 18 (gi σ 27 (nI j)))))).toInt64))) Kp.rf) (EK.kp (Kp_sl (τ := (si (f_X2_takeOut σ (gi σ 18 (gi σ 27 (nI j))) (mn (f_X4_wanted σ (gi σ 27 (nI j))) (gi σ 10 (gi σ 18 (gi σ 27 (nI j)))))).2 22 (gi σ 27 (nI j)) ((gi (f_X2_takeOut σ (gi σ 18 (gi σ 27 (nI j))) (mn (f_X4_wanted σ (gi σ 27 (nI j))) (gi σ 10 (gi σ 18 (gi σ 27 (nI j)))))).2 22 (gi σ 27 (nI j))) + (mn (f_X4_wanted σ (gi σ 27 (nI j))) (gi σ 10 (gi σ 18 (gi σ 27 (nI j)))))))) (k := 23) (x := (gi σ 27 (nI j))) (v := ((gl (f_X2_takeOut σ (gi σ 18 (gi σ 27 (nI j))) (mn (f_X4_wanted σ (gi σ 27 (nI j))) (gi σ 10 (gi σ 18 (gi σ 27 (nI j)))))).2 23 (gi σ 27 (nI j))) + (((mn (f_X4_wanted σ (gi σ 27 (nI j))) (gi σ 10 (gi σ 18 (gi σ 27 (nI j)))))).toInt64))) Kp.rf) (EK.kp (Kp_si (τ := (f_X2_takeOut σ (gi σ 18 (gi σ 27 (nI j))) (mn (f_X4_wanted σ (gi σ 27 (nI j))) (gi σ 10 (gi σ 18 (gi σ 27 (nI j)))))).2) (k := 22) (x := (gi σ 27 (nI j))) (v := ((gi (f_X2_takeOut σ (gi σ 18 (gi σ 27 (nI j))) (mn (f_X4_wanted σ (gi σ 27 (nI j))) (gi σ 10 (gi σ 18 (gi σ 27 (nI j)))))).2 22 (gi σ 27 (nI j))) + (mn (f_X4_wanted σ (gi σ 27 (nI j))) (gi σ 10 (gi σ 18 (gi σ 27 (nI j))))))) Kp.rf (by decide)) (EK.kp (KP_X2_takeOut (σ := σ) (x := (gi σ 18 (gi σ 27 (nI j)))) (y := (mn (f_X4_wanted σ (gi σ 27 (nI j))) (gi σ 10 (gi σ 18 (gi σ 27 (nI j))))))) (EK.rf hE))))).2.2.2.2.1; have h2 := (EK_X5_note (σ := (sl (sl (si (f_X2_takeOut σ (gi σ 18 (gi σ 27 (nI j))) (mn (f_X4_wanted σ (gi σ 27 (nI j))) (gi σ 10 (gi σ 18 (gi σ 27 (nI j)))))).2 22 (gi σ 27 (nI j)) ((gi (f_X2_takeOut σ (gi σ 18 (gi σ 27 (nI j))) (mn (f_X4_wanted σ (gi σ 27 (nI j))) (gi σ 10 (gi σ 18 (gi σ 27 (nI j)))))).2 22 (gi σ 27 (nI j))) + (mn (f_X4_wanted σ (gi σ 27 (nI j))) (gi σ 10 (gi σ 18 (gi σ 27 (nI j))))))) 23 (gi σ 27 (nI j)) ((gl (f_X2_takeOut σ (gi σ 18 (gi σ 27 (nI j))) (mn (f_X4_wanted σ (gi σ 27 (nI j))) (gi σ 10 (gi σ 18 (gi σ 27 (nI j)))))).2 23 (gi σ 27 (nI j))) + (((mn (f_X4_wanted σ (gi σ 27 (nI j))) (gi σ 10 (gi σ 18 (gi σ 27 (nI j)))))).toInt64))) 28 2 ((gl (f_X2_takeOut σ (gi σ 18 (gi σ 27 (nI j))) (mn (f_X4_wanted σ (gi σ 27 (nI j))) (gi σ 10 (gi σ 18 (gi σ 27 (nI j)))))).2 28 2) + (((mn (f_X4_wanted σ (gi σ 27 (nI j))) (gi σ 10 (gi σ 18 (gi σ 27 (nI j)))))).toInt64)))) (c := 99) (EK.kp (Kp_sl (τ := (sl (si (f_X2_takeOut σ (gi σ 18 (gi σ 27 (nI j))) (mn (f_X4_wanted σ (gi σ 27 (nI j))) (gi σ 10 (gi σ 18 (gi σ 27 (nI j)))))).2 22 (gi σ 27 (nI j)) ((gi (f_X2_takeOut σ (gi σ 18 (gi σ 27 (nI j))) (mn (f_X4_wanted σ (gi σ 27 (nI j))) (gi σ 10 (gi σ 18 (gi σ 27 (nI j)))))).2 22 (gi σ 27 (nI j))) + (mn (f_X4_wanted σ (gi σ 27 (nI j))) (gi σ 10 (gi σ 18 (gi σ 27 (nI j))))))) 23 (gi σ 27 (nI j)) ((gl (f_X2_takeOut σ (gi σ 18 (gi σ 27 (nI j))) (mn (f_X4_wanted σ (gi σ 27 (nI j))) (gi σ 10 (gi σ 18 (gi σ 27 (nI j)))))).2 23 (gi σ 27 (nI j))) + (((mn (f_X4_wanted σ (gi σ 27 (nI j))) (gi σ 10 (gi σ 18 (gi σ 27 (nI j)))))).toInt64)))) (k := 28) (x := 2) (v := ((gl (f_X2_takeOut σ (gi σ 18 (gi σ 27 (nI j))) (mn (f_X4_wanted σ (gi σ 27 (nI j))) (gi σ 10 (gi σ 18 (gi σ 27 (nI j)))))).2 28 2) + (((mn (f_X4_wanted σ (gi σ 27 (nI j))) (gi σ 10 (gi σ 18 (gi σ 27 (nI j)))))).toInt64))) Kp.rf) (EK.kp (Kp_sl (τ := (si (f_X2_takeOut σ (gi σ 18 (gi σ 27 (nI j))) (mn (f_X4_wanted σ (gi σ 27 (nI j))) (gi σ 10 (gi σ 18 (gi σ 27 (nI j)))))).2 22 (gi σ 27 (nI j)) ((gi (f_X2_takeOut σ (gi σ 18 (gi σ 27 (nI j))) (mn (f_X4_wanted σ (gi σ 27 (nI j))) (gi σ 10 (gi σ 18 (gi σ 27 (nI j)))))).2 22 (gi σ 27 (nI j))) + (mn (f_X4_wanted σ (gi σ 27 (nI j))) (gi σ 10 (gi σ 18 (gi σ 27 (nI j)))))))) (k := 23) (x := (gi σ 27 (nI j))) (v := ((gl (f_X2_takeOut σ (gi σ 18 (gi σ 27 (nI j))) (mn (f_X4_wanted σ (gi σ 27 (nI j))) (gi σ 10 (gi σ 18 (gi σ 27 (nI j)))))).2 23 (gi σ 27 (nI j))) + (((mn (f_X4_wanted σ (gi σ 27 (nI j))) (gi σ 10 (gi σ 18 (gi σ 27 (nI j)))))).toInt64))) Kp.rf) (EK.kp (Kp_si (τ := (f_X2_takeOut σ (gi σ 18 (gi σ 27 (nI j))) (mn (f_X4_wanted σ (gi σ 27 (nI j))) (gi σ 10 (gi σ 18 (gi σ 27 (nI j)))))).2) (k := 22) (x := (gi σ 27 (nI j))) (v := ((gi (f_X2_takeOut σ (gi σ 18 (gi σ 27 (nI j))) (mn (f_X4_wanted σ (gi σ 27 (nI j))) (gi σ 10 (gi σ 18 (gi σ 27 (nI j)))))).2 22 (gi σ 27 (nI j))) + (mn (f_X4_wanted σ (gi σ 27 (nI j))) (gi σ 10 (gi σ 18 (gi σ 27 (nI j))))))) Kp.rf (by decide)) (EK.kp (KP_X2_takeOut (σ := σ) (x := (gi σ 18 (gi σ 27 (nI j)))) (y := (mn (f_X4_wanted σ (gi σ 27 (nI j))) (gi σ 10 (gi σ 18 (gi σ 27 (nI j))))))) (EK.rf hE))))).1 (by have := (EK.kp (Kp_sl (τ := (sl (si (f_X2_takeOut σ (gi σ 18 (gi σ 27 (nI j))) (mn (f_X4_wanted σ (gi σ 27 (nI j))) (gi σ 10 (gi σ 18 (gi σ 27 (nI j)))))).2 22 (gi σ 27 (nI j)) ((gi (f_X2_takeOut σ (gi σ 18 (gi σ 27 (nI j))) (mn (f_X4_wanted σ (gi σ 27 (nI j))) (gi σ 10 (gi σ 18 (gi σ 27 (nI j)))))).2 22 (gi σ 27 (nI j))) + (mn (f_X4_wanted σ (gi σ 27 (nI j))) (gi σ 10 (gi σ 18 (gi σ 27 (nI j))))))) 23 (gi σ 27 (nI j)) ((gl (f_X2_takeOut σ (gi σ 18 (gi σ 27 (nI j))) (mn (f_X4_wanted σ (gi σ 27 (nI j))) (gi σ 10 (gi σ 18 (gi σ 27 (nI j)))))).2 23 (gi σ 27 (nI j))) + (((mn (f_X4_wanted σ (gi σ 27 (nI j))) (gi σ 10 (gi σ 18 (gi σ 27 (nI j)))))).toInt64)))) (k := 28) (x := 2) (v := ((gl (f_X2_takeOut σ (gi σ 18 (gi σ 27 (nI j))) (mn (f_X4_wanted σ (gi σ 27 (nI j))) (gi σ 10 (gi σ 18 (gi σ 27 (nI j)))))).2 28 2) + (((mn (f_X4_wanted σ (gi σ 27 (nI j))) (gi σ 10 (gi σ 18 (gi σ 27 (nI j)))))).toInt64))) Kp.rf) (EK.kp (Kp_sl (τ := (si (f_X2_takeOut σ (gi σ 18 (gi σ 27 (nI j))) (mn (f_X4_wanted σ (gi σ 27 (nI j))) (gi σ 10 (gi σ 18 (gi σ 27 (nI j)))))).2 22 (gi σ 27 (nI j)) ((gi (f_X2_takeOut σ (gi σ 18 (gi σ 27 (nI j))) (mn (f_X4_wanted σ (gi σ 27 (nI j))) (gi σ 10 (gi σ 18 (gi σ 27 (nI j)))))).2 22 (gi σ 27 (nI j))) + (mn (f_X4_wanted σ (gi σ 27 (nI j))) (gi σ 10 (gi σ 18 (gi σ 27 (nI j)))))))) (k := 23) (x := (gi σ 27 (nI j))) (v := ((gl (f_X2_takeOut σ (gi σ 18 (gi σ 27 (nI j))) (mn (f_X4_wanted σ (gi σ 27 (nI j))) (gi σ 10 (gi σ 18 (gi σ 27 (nI j)))))).2 23 (gi σ 27 (nI j))) + (((mn (f_X4_wanted σ (gi σ 27 (nI j))) (gi σ 10 (gi σ 18 (gi σ 27 (nI j)))))).toInt64))) Kp.rf) (EK.kp (Kp_si (τ := (f_X2_takeOut σ (gi σ 18 (gi σ 27 (nI j))) (mn (f_X4_wanted σ (gi σ 27 (nI j))) (gi σ 10 (gi σ 18 (gi σ 27 (nI j)))))).2) (k := 22) (x := (gi σ 27 (nI j))) (v := ((gi (f_X2_takeOut σ (gi σ 18 (gi σ 27 (nI j))) (mn (f_X4_wanted σ (gi σ 27 (nI j))) (gi σ 10 (gi σ 18 (gi σ 27 (nI j)))))).2 22 (gi σ 27 (nI j))) + (mn (f_X4_wanted σ (gi σ 27 (nI j))) (gi σ 10 (gi σ 18 (gi σ 27 (nI j))))))) Kp.rf (by decide)) (EK.kp (KP_X2_takeOut (σ := σ) (x := (gi σ 18 (gi σ 27 (nI j)))) (y := (mn (f_X4_wanted σ (gi σ 27 (nI j))) (gi σ 10 (gi σ 18 (gi σ 27 (nI j))))))) (EK.rf hE))))).2.2.1; omega) lc99).2.2.2.2.1; show 2 * ec (sl (sl (si (f_X2_takeOut σ (gi σ 18 (gi σ 27 (nI j))) (mn (f_X4_wanted σ (gi σ 27 (nI j))) (gi σ 10 (gi σ 18 (gi σ 27 (nI j)))))).2 22 (gi σ 27 (nI j)) ((gi (f_X2_takeOut σ (gi σ 18 (gi σ 27 (nI j))) (mn (f_X4_wanted σ (gi σ 27 (nI j))) (gi σ 10 (gi σ 18 (gi σ 27 (nI j)))))).2 22 (gi σ 27 (nI j))) + (mn (f_X4_wanted σ (gi σ 27 (nI j))) (gi σ 10 (gi σ 18 (gi σ 27 (nI j))))))) 23 (gi σ 27 (nI j)) ((gl (f_X2_takeOut σ (gi σ 18 (gi σ 27 (nI j))) (mn (f_X4_wanted σ (gi σ 27 (nI j))) (gi σ 10 (gi σ 18 (gi σ 27 (nI j)))))).2 23 (gi σ 27 (nI j))) + (((mn (f_X4_wanted σ (gi σ 27 (nI j))) (gi σ 10 (gi σ 18 (gi σ 27 (nI j)))))).toInt64))) 28 2 ((gl (f_X2_takeOut σ (gi σ 18 (gi σ 27 (nI j))) (mn (f_X4_wanted σ (gi σ 27 (nI j))) (gi σ 10 (gi σ 18 (gi σ 27 (nI j)))))).2 28 2) + (((mn (f_X4_wanted σ (gi σ 27 (nI j))) (gi σ 10 (gi σ 18 (gi σ 27 (nI j)))))).toInt64))) - 2 * ec σ + (2 * ec (f_X5_note (sl (sl (si (f_X2_takeOut σ (gi σ 18 (gi σ 27 (nI j))) (mn (f_X4_wanted σ (gi σ 27 (nI j))) (gi σ 10 (gi σ 18 (gi σ 27 (nI j)))))).2 22 (gi σ 27 (nI j)) ((gi (f_X2_takeOut σ (gi σ 18 (gi σ 27 (nI j))) (mn (f_X4_wanted σ (gi σ 27 (nI j))) (gi σ 10 (gi σ 18 (gi σ 27 (nI j)))))).2 22 (gi σ 27 (nI j))) + (mn (f_X4_wanted σ (gi σ 27 (nI j))) (gi σ 10 (gi σ 18 (gi σ 27 (nI j))))))) 23 (gi σ 27 (nI j)) ((gl (f_X2_takeOut σ (gi σ 18 (gi σ 27 (nI j))) (mn (f_X4_wanted σ (gi σ 27 (nI j))) (gi σ 10 (gi σ 18 (gi σ 27 (nI j)))))).2 23 (gi σ 27 (nI j))) + (((mn (f_X4_wanted σ (gi σ 27 (nI j))) (gi σ 10 (gi σ 18 (gi σ 27 (nI j)))))).toInt64))) 28 2 ((gl (f_X2_takeOut σ (gi σ 18 (gi σ 27 (nI j))) (mn (f_X4_wanted σ (gi σ 27 (nI j))) (gi σ 10 (gi σ 18 (gi σ 27 (nI j)))))).2 28 2) + (((mn (f_X4_wanted σ (gi σ 27 (nI j))) (gi σ 10 (gi σ 18 (gi σ 27 (nI j)))))).toInt64))) 99) - 2 * ec (sl (sl (si (f_X2_takeOut σ (gi σ 18 (gi σ 27 (nI j))) (mn (f_X4_wanted σ (gi σ 27 (nI j))) (gi σ 10 (gi σ 18 (gi σ 27 (nI j)))))).2 22 (gi σ 27 (nI j)) ((gi (f_X2_takeOut σ (gi σ 18 (gi σ 27 (nI j))) (mn (f_X4_wanted σ (gi σ 27 (nI j))) (gi σ 10 (gi σ 18 (gi σ 27 (nI j)))))).2 22 (gi σ 27 (nI j))) + (mn (f_X4_wanted σ (gi σ 27 (nI j))) (gi σ 10 (gi σ 18 (gi σ 27 (nI j))))))) 23 (gi σ 27 (nI j)) ((gl (f_X2_takeOut σ (gi σ 18 (gi σ 27 (nI j))) (mn (f_X4_wanted σ (gi σ 27 (nI j))) (gi σ 10 (gi σ 18 (gi σ 27 (nI j)))))).2 23 (gi σ 27 (nI j))) + (((mn (f_X4_wanted σ (gi σ 27 (nI j))) (gi σ 10 (gi σ 18 (gi σ 27 (nI j)))))).toInt64))) 28 2 ((gl (f_X2_takeOut σ (gi σ 18 (gi σ 27 (nI j))) (mn (f_X4_wanted σ (gi σ 27 (nI j))) (gi σ 10 (gi σ 18 (gi σ 27 (nI j)))))).2 28 2) + (((mn (f_X4_wanted σ (gi σ 27 (nI j))) (gi σ 10 (gi σ 18 (gi σ 27 (nI j)))))).toInt64)))) ≤ _; omega) ?_
    refine lv_aload_n hx hb dX5_pumpWell_114 rfl (lv_at hl 4 rfl) ?_
    refine wg_X5_28 (v := .ref (ad 3)) S hK E 0 rfl rfl dX5_pumpWell_115 ?_
    refine lv_iload_n hx hb dX5_pumpWell_118 rfl (lv_at hl 5 rfl) ?_
    have hq := nt_c (EK.tr (EK_X5_note (σ := (sl (sl (si (f_X2_takeOut σ (gi σ 18 (gi σ 27 (nI j))) (mn (f_X4_wanted σ (gi σ 27 (nI j))) (gi σ 10 (gi σ 18 (gi σ 27 (nI j)))))).2 22 (gi σ 27 (nI j)) ((gi (f_X2_takeOut σ (gi σ 18 (gi σ 27 (nI j))) (mn (f_X4_wanted σ (gi σ 27 (nI j))) (gi σ 10 (gi σ 18 (gi σ 27 (nI j)))))).2 22 (gi σ 27 (nI j))) + (mn (f_X4_wanted σ (gi σ 27 (nI j))) (gi σ 10 (gi σ 18 (gi σ 27 (nI j))))))) 23 (gi σ 27 (nI j)) ((gl (f_X2_takeOut σ (gi σ 18 (gi σ 27 (nI j))) (mn (f_X4_wanted σ (gi σ 27 (nI j))) (gi σ 10 (gi σ 18 (gi σ 27 (nI j)))))).2 23 (gi σ 27 (nI j))) + (((mn (f_X4_wanted σ (gi σ 27 (nI j))) (gi σ 10 (gi σ 18 (gi σ 27 (nI j)))))).toInt64))) 28 2 ((gl (f_X2_takeOut σ (gi σ 18 (gi σ 27 (nI j))) (mn (f_X4_wanted σ (gi σ 27 (nI j))) (gi σ 10 (gi σ 18 (gi σ 27 (nI j)))))).2 28 2) + (((mn (f_X4_wanted σ (gi σ 27 (nI j))) (gi σ 10 (gi σ 18 (gi σ 27 (nI j)))))).toInt64)))) (c := 99) (EK.kp (Kp_sl (τ := (sl (si (f_X2_takeOut σ (gi σ 18 (gi σ 27 (nI j))) (mn (f_X4_wanted σ (gi σ 27 (nI j))) (gi σ 10 (gi σ 18 (gi σ 27 (nI j)))))).2 22 (gi σ 27 (nI j)) ((gi (f_X2_takeOut σ (gi σ 18 (gi σ 27 (nI j))) (mn (f_X4_wanted σ (gi σ 27 (nI j))) (gi σ 10 (gi σ 18 (gi σ 27 (nI j)))))).2 22 (gi σ 27 (nI j))) + (mn (f_X4_wanted σ (gi σ 27 (nI j))) (gi σ 10 (gi σ 18 (gi σ 27 (nI j))))))) 23 (gi σ 27 (nI j)) ((gl (f_X2_takeOut σ (gi σ 18 (gi σ 27 (nI j))) (mn (f_X4_wanted σ (gi σ 27 (nI j))) (gi σ 10 (gi σ 18 (gi σ 27 (nI j)))))).2 23 (gi σ 27 (nI j))) + (((mn (f_X4_wanted σ (gi σ 27 (nI j))) (gi σ 10 (gi σ 18 (gi σ 27 (nI j)))))).toInt64)))) (k := 28) (x := 2) (v := ((gl (f_X2_takeOut σ (gi σ 18 (gi σ 27 (nI j))) (mn (f_X4_wanted σ (gi σ 27 (nI j))) (gi σ 10 (gi σ 18 (gi σ 27 (nI j)))))).2 28 2) + (((mn (f_X4_wanted σ (gi σ 27 (nI j))) (gi σ 10 (gi σ 18 (gi σ 27 (nI j)))))).toInt64))) Kp.rf) (EK.kp (Kp_sl (τ := (si (f_X2_takeOut σ (gi σ 18 (gi σ 27 (nI j))) (mn (f_X4_wanted σ (gi σ 27 (nI j))) (gi σ 10 (gi σ 18 (gi σ 27 (nI j)))))).2 22 (gi σ 27 (nI j)) ((gi (f_X2_takeOut σ (gi σ 18 (gi σ 27 (nI j))) (mn (f_X4_wanted σ (gi σ 27 (nI j))) (gi σ 10 (gi σ 18 (gi σ 27 (nI j)))))).2 22 (gi σ 27 (nI j))) + (mn (f_X4_wanted σ (gi σ 27 (nI j))) (gi σ 10 (gi σ 18 (gi σ 27 (nI j)))))))) (k := 23) (x := (gi σ 27 (nI j))) (v := ((gl (f_X2_takeOut σ (gi σ 18 (gi σ 27 (nI j))) (mn (f_X4_wanted σ (gi σ 27 (nI j))) (gi σ 10 (gi σ 18 (gi σ 27 (nI j)))))).2 23 (gi σ 27 (nI j))) + (((mn (f_X4_wanted σ (gi σ 27 (nI j))) (gi σ 10 (gi σ 18 (gi σ 27 (nI j)))))).toInt64))) Kp.rf) (EK.kp (Kp_si (τ := (f_X2_takeOut σ (gi σ 18 (gi σ 27 (nI j))) (mn (f_X4_wanted σ (gi σ 27 (nI j))) (gi σ 10 (gi σ 18 (gi σ 27 (nI j)))))).2) (k := 22) (x := (gi σ 27 (nI j))) (v := ((gi (f_X2_takeOut σ (gi σ 18 (gi σ 27 (nI j))) (mn (f_X4_wanted σ (gi σ 27 (nI j))) (gi σ 10 (gi σ 18 (gi σ 27 (nI j)))))).2 22 (gi σ 27 (nI j))) + (mn (f_X4_wanted σ (gi σ 27 (nI j))) (gi σ 10 (gi σ 18 (gi σ 27 (nI j))))))) Kp.rf (by decide)) (EK.kp (KP_X2_takeOut (σ := σ) (x := (gi σ 18 (gi σ 27 (nI j)))) (y := (mn (f_X4_wanted σ (gi σ 27 (nI j))) (gi σ 10 (gi σ 18 (gi σ 27 (nI j))))))) (EK.rf hE))))).1 (by have := (EK.kp (Kp_sl (τ := (sl (si (f_X2_takeOut σ (gi σ 18 (gi σ 27 (nI j))) (mn (f_X4_wanted σ (gi σ 27 (nI j))) (gi σ 10 (gi σ 18 (gi σ 27 (nI j)))))).2 22 (gi σ 27 (nI j)) ((gi (f_X2_takeOut σ (gi σ 18 (gi σ 27 (nI j))) (mn (f_X4_wanted σ (gi σ 27 (nI j))) (gi σ 10 (gi σ 18 (gi σ 27 (nI j)))))).2 22 (gi σ 27 (nI j))) + (mn (f_X4_wanted σ (gi σ 27 (nI j))) (gi σ 10 (gi σ 18 (gi σ 27 (nI j))))))) 23 (gi σ 27 (nI j)) ((gl (f_X2_takeOut σ (gi σ 18 (gi σ 27 (nI j))) (mn (f_X4_wanted σ (gi σ 27 (nI j))) (gi σ 10 (gi σ 18 (gi σ 27 (nI j)))))).2 23 (gi σ 27 (nI j))) + (((mn (f_X4_wanted σ (gi σ 27 (nI j))) (gi σ 10 (gi σ 18 (gi σ 27 (nI j)))))).toInt64)))) (k := 28) (x := 2) (v := ((gl (f_X2_takeOut σ (gi σ 18 (gi σ 27 (nI j))) (mn (f_X4_wanted σ (gi σ 27 (nI j))) (gi σ 10 (gi σ 18 (gi σ 27 (nI j)))))).2 28 2) + (((mn (f_X4_wanted σ (gi σ 27 (nI j))) (gi σ 10 (gi σ 18 (gi σ 27 (nI j)))))).toInt64))) Kp.rf) (EK.kp (Kp_sl (τ := (si (f_X2_takeOut σ (gi σ 18 (gi σ 27 (nI j))) (mn (f_X4_wanted σ (gi σ 27 (nI j))) (gi σ 10 (gi σ 18 (gi σ 27 (nI j)))))).2 22 (gi σ 27 (nI j)) ((gi (f_X2_takeOut σ (gi σ 18 (gi σ 27 (nI j))) (mn (f_X4_wanted σ (gi σ 27 (nI j))) (gi σ 10 (gi σ 18 (gi σ 27 (nI j)))))).2 22 (gi σ 27 (nI j))) + (mn (f_X4_wanted σ (gi σ 27 (nI j))) (gi σ 10 (gi σ 18 (gi σ 27 (nI j)))))))) (k := 23) (x := (gi σ 27 (nI j))) (v := ((gl (f_X2_takeOut σ (gi σ 18 (gi σ 27 (nI j))) (mn (f_X4_wanted σ (gi σ 27 (nI j))) (gi σ 10 (gi σ 18 (gi σ 27 (nI j)))))).2 23 (gi σ 27 (nI j))) + (((mn (f_X4_wanted σ (gi σ 27 (nI j))) (gi σ 10 (gi σ 18 (gi σ 27 (nI j)))))).toInt64))) Kp.rf) (EK.kp (Kp_si (τ := (f_X2_takeOut σ (gi σ 18 (gi σ 27 (nI j))) (mn (f_X4_wanted σ (gi σ 27 (nI j))) (gi σ 10 (gi σ 18 (gi σ 27 (nI j)))))).2) (k := 22) (x := (gi σ 27 (nI j))) (v := ((gi (f_X2_takeOut σ (gi σ 18 (gi σ 27 (nI j))) (mn (f_X4_wanted σ (gi σ 27 (nI j))) (gi σ 10 (gi σ 18 (gi σ 27 (nI j)))))).2 22 (gi σ 27 (nI j))) + (mn (f_X4_wanted σ (gi σ 27 (nI j))) (gi σ 10 (gi σ 18 (gi σ 27 (nI j))))))) Kp.rf (by decide)) (EK.kp (KP_X2_takeOut (σ := σ) (x := (gi σ 18 (gi σ 27 (nI j)))) (y := (mn (f_X4_wanted σ (gi σ 27 (nI j))) (gi σ 10 (gi σ 18 (gi σ 27 (nI j))))))) (EK.rf hE))))).2.2.1; omega) lc99) (EK.kp (Kp_sl (τ := (sl (si (f_X2_takeOut σ (gi σ 18 (gi σ 27 (nI j))) (mn (f_X4_wanted σ (gi σ 27 (nI j))) (gi σ 10 (gi σ 18 (gi σ 27 (nI j)))))).2 22 (gi σ 27 (nI j)) ((gi (f_X2_takeOut σ (gi σ 18 (gi σ 27 (nI j))) (mn (f_X4_wanted σ (gi σ 27 (nI j))) (gi σ 10 (gi σ 18 (gi σ 27 (nI j)))))).2 22 (gi σ 27 (nI j))) + (mn (f_X4_wanted σ (gi σ 27 (nI j))) (gi σ 10 (gi σ 18 (gi σ 27 (nI j))))))) 23 (gi σ 27 (nI j)) ((gl (f_X2_takeOut σ (gi σ 18 (gi σ 27 (nI j))) (mn (f_X4_wanted σ (gi σ 27 (nI j))) (gi σ 10 (gi σ 18 (gi σ 27 (nI j)))))).2 23 (gi σ 27 (nI j))) + (((mn (f_X4_wanted σ (gi σ 27 (nI j))) (gi σ 10 (gi σ 18 (gi σ 27 (nI j)))))).toInt64)))) (k := 28) (x := 2) (v := ((gl (f_X2_takeOut σ (gi σ 18 (gi σ 27 (nI j))) (mn (f_X4_wanted σ (gi σ 27 (nI j))) (gi σ 10 (gi σ 18 (gi σ 27 (nI j)))))).2 28 2) + (((mn (f_X4_wanted σ (gi σ 27 (nI j))) (gi σ 10 (gi σ 18 (gi σ 27 (nI j)))))).toInt64))) Kp.rf) (EK.kp (Kp_sl (τ := (si (f_X2_takeOut σ (gi σ 18 (gi σ 27 (nI j))) (mn (f_X4_wanted σ (gi σ 27 (nI j))) (gi σ 10 (gi σ 18 (gi σ 27 (nI j)))))).2 22 (gi σ 27 (nI j)) ((gi (f_X2_takeOut σ (gi σ 18 (gi σ 27 (nI j))) (mn (f_X4_wanted σ (gi σ 27 (nI j))) (gi σ 10 (gi σ 18 (gi σ 27 (nI j)))))).2 22 (gi σ 27 (nI j))) + (mn (f_X4_wanted σ (gi σ 27 (nI j))) (gi σ 10 (gi σ 18 (gi σ 27 (nI j)))))))) (k := 23) (x := (gi σ 27 (nI j))) (v := ((gl (f_X2_takeOut σ (gi σ 18 (gi σ 27 (nI j))) (mn (f_X4_wanted σ (gi σ 27 (nI j))) (gi σ 10 (gi σ 18 (gi σ 27 (nI j)))))).2 23 (gi σ 27 (nI j))) + (((mn (f_X4_wanted σ (gi σ 27 (nI j))) (gi σ 10 (gi σ 18 (gi σ 27 (nI j)))))).toInt64))) Kp.rf) (EK.kp (Kp_si (τ := (f_X2_takeOut σ (gi σ 18 (gi σ 27 (nI j))) (mn (f_X4_wanted σ (gi σ 27 (nI j))) (gi σ 10 (gi σ 18 (gi σ 27 (nI j)))))).2) (k := 22) (x := (gi σ 27 (nI j))) (v := ((gi (f_X2_takeOut σ (gi σ 18 (gi σ 27 (nI j))) (mn (f_X4_wanted σ (gi σ 27 (nI j))) (gi σ 10 (gi σ 18 (gi σ 27 (nI j)))))).2 22 (gi σ 27 (nI j))) + (mn (f_X4_wanted σ (gi σ 27 (nI j))) (gi σ 10 (gi σ 18 (gi σ 27 (nI j))))))) Kp.rf (by decide)) (EK.kp (KP_X2_takeOut (σ := σ) (x := (gi σ 18 (gi σ 27 (nI j)))) (y := (mn (f_X4_wanted σ (gi σ 27 (nI j))) (gi σ 10 (gi σ 18 (gi σ 27 (nI j))))))) (EK.rf hE)))))).1 (by have := (EK.tr (EK_X5_note (σ := (sl (sl (si (f_X2_takeOut σ (gi σ 18 (gi σ 27 (nI j))) (mn (f_X4_wanted σ (gi σ 27 (nI j))) (gi σ 10 (gi σ 18 (gi σ 27 (nI j)))))).2 22 (gi σ 27 (nI j)) ((gi (f_X2_takeOut σ (gi σ 18 (gi σ 27 (nI j))) (mn (f_X4_wanted σ (gi σ 27 (nI j))) (gi σ 10 (gi σ 18 (gi σ 27 (nI j)))))).2 22 (gi σ 27 (nI j))) + (mn (f_X4_wanted σ (gi σ 27 (nI j))) (gi σ 10 (gi σ 18 (gi σ 27 (nI j))))))) 23 (gi σ 27 (nI j)) ((gl (f_X2_takeOut σ (gi σ 18 (gi σ 27 (nI j))) (mn (f_X4_wanted σ (gi σ 27 (nI j))) (gi σ 10 (gi σ 18 (gi σ 27 (nI j)))))).2 23 (gi σ 27 (nI j))) + (((mn (f_X4_wanted σ (gi σ 27 (nI j))) (gi σ 10 (gi σ 18 (gi σ 27 (nI j)))))).toInt64))) 28 2 ((gl (f_X2_takeOut σ (gi σ 18 (gi σ 27 (nI j))) (mn (f_X4_wanted σ (gi σ 27 (nI j))) (gi σ 10 (gi σ 18 (gi σ 27 (nI j)))))).2 28 2) + (((mn (f_X4_wanted σ (gi σ 27 (nI j))) (gi σ 10 (gi σ 18 (gi σ 27 (nI j)))))).toInt64)))) (c := 99) (EK.kp (Kp_sl (τ := (sl (si (f_X2_takeOut σ (gi σ 18 (gi σ 27 (nI j))) (mn (f_X4_wanted σ (gi σ 27 (nI j))) (gi σ 10 (gi σ 18 (gi σ 27 (nI j)))))).2 22 (gi σ 27 (nI j)) ((gi (f_X2_takeOut σ (gi σ 18 (gi σ 27 (nI j))) (mn (f_X4_wanted σ (gi σ 27 (nI j))) (gi σ 10 (gi σ 18 (gi σ 27 (nI j)))))).2 22 (gi σ 27 (nI j))) + (mn (f_X4_wanted σ (gi σ 27 (nI j))) (gi σ 10 (gi σ 18 (gi σ 27 (nI j))))))) 23 (gi σ 27 (nI j)) ((gl (f_X2_takeOut σ (gi σ 18 (gi σ 27 (nI j))) (mn (f_X4_wanted σ (gi σ 27 (nI j))) (gi σ 10 (gi σ 18 (gi σ 27 (nI j)))))).2 23 (gi σ 27 (nI j))) + (((mn (f_X4_wanted σ (gi σ 27 (nI j))) (gi σ 10 (gi σ 18 (gi σ 27 (nI j)))))).toInt64)))) (k := 28) (x := 2) (v := ((gl (f_X2_takeOut σ (gi σ 18 (gi σ 27 (nI j))) (mn (f_X4_wanted σ (gi σ 27 (nI j))) (gi σ 10 (gi σ 18 (gi σ 27 (nI j)))))).2 28 2) + (((mn (f_X4_wanted σ (gi σ 27 (nI j))) (gi σ 10 (gi σ 18 (gi σ 27 (nI j)))))).toInt64))) Kp.rf) (EK.kp (Kp_sl (τ := (si (f_X2_takeOut σ (gi σ 18 (gi σ 27 (nI j))) (mn (f_X4_wanted σ (gi σ 27 (nI j))) (gi σ 10 (gi σ 18 (gi σ 27 (nI j)))))).2 22 (gi σ 27 (nI j)) ((gi (f_X2_takeOut σ (gi σ 18 (gi σ 27 (nI j))) (mn (f_X4_wanted σ (gi σ 27 (nI j))) (gi σ 10 (gi σ 18 (gi σ 27 (nI j)))))).2 22 (gi σ 27 (nI j))) + (mn (f_X4_wanted σ (gi σ 27 (nI j))) (gi σ 10 (gi σ 18 (gi σ 27 (nI j)))))))) (k := 23) (x := (gi σ 27 (nI j))) (v := ((gl (f_X2_takeOut σ (gi σ 18 (gi σ 27 (nI j))) (mn (f_X4_wanted σ (gi σ 27 (nI j))) (gi σ 10 (gi σ 18 (gi σ 27 (nI j)))))).2 23 (gi σ 27 (nI j))) + (((mn (f_X4_wanted σ (gi σ 27 (nI j))) (gi σ 10 (gi σ 18 (gi σ 27 (nI j)))))).toInt64))) Kp.rf) (EK.kp (Kp_si (τ := (f_X2_takeOut σ (gi σ 18 (gi σ 27 (nI j))) (mn (f_X4_wanted σ (gi σ 27 (nI j))) (gi σ 10 (gi σ 18 (gi σ 27 (nI j)))))).2) (k := 22) (x := (gi σ 27 (nI j))) (v := ((gi (f_X2_takeOut σ (gi σ 18 (gi σ 27 (nI j))) (mn (f_X4_wanted σ (gi σ 27 (nI j))) (gi σ 10 (gi σ 18 (gi σ 27 (nI j)))))).2 22 (gi σ 27 (nI j))) + (mn (f_X4_wanted σ (gi σ 27 (nI j))) (gi σ 10 (gi σ 18 (gi σ 27 (nI j))))))) Kp.rf (by decide)) (EK.kp (KP_X2_takeOut (σ := σ) (x := (gi σ 18 (gi σ 27 (nI j)))) (y := (mn (f_X4_wanted σ (gi σ 27 (nI j))) (gi σ 10 (gi σ 18 (gi σ 27 (nI j))))))) (EK.rf hE))))).1 (by have := (EK.kp (Kp_sl (τ := (sl (si (f_X2_takeOut σ (gi σ 18 (gi σ 27 (nI j))) (mn (f_X4_wanted σ (gi σ 27 (nI j))) (gi σ 10 (gi σ 18 (gi σ 27 (nI j)))))).2 22 (gi σ 27 (nI j)) ((gi (f_X2_takeOut σ (gi σ 18 (gi σ 27 (nI j))) (mn (f_X4_wanted σ (gi σ 27 (nI j))) (gi σ 10 (gi σ 18 (gi σ 27 (nI j)))))).2 22 (gi σ 27 (nI j))) + (mn (f_X4_wanted σ (gi σ 27 (nI j))) (gi σ 10 (gi σ 18 (gi σ 27 (nI j))))))) 23 (gi σ 27 (nI j)) ((gl (f_X2_takeOut σ (gi σ 18 (gi σ 27 (nI j))) (mn (f_X4_wanted σ (gi σ 27 (nI j))) (gi σ 10 (gi σ 18 (gi σ 27 (nI j)))))).2 23 (gi σ 27 (nI j))) + (((mn (f_X4_wanted σ (gi σ 27 (nI j))) (gi σ 10 (gi σ 18 (gi σ 27 (nI j)))))).toInt64)))) (k := 28) (x := 2) (v := ((gl (f_X2_takeOut σ (gi σ 18 (gi σ 27 (nI j))) (mn (f_X4_wanted σ (gi σ 27 (nI j))) (gi σ 10 (gi σ 18 (gi σ 27 (nI j)))))).2 28 2) + (((mn (f_X4_wanted σ (gi σ 27 (nI j))) (gi σ 10 (gi σ 18 (gi σ 27 (nI j)))))).toInt64))) Kp.rf) (EK.kp (Kp_sl (τ := (si (f_X2_takeOut σ (gi σ 18 (gi σ 27 (nI j))) (mn (f_X4_wanted σ (gi σ 27 (nI j))) (gi σ 10 (gi σ 18 (gi σ 27 (nI j)))))).2 22 (gi σ 27 (nI j)) ((gi (f_X2_takeOut σ (gi σ 18 (gi σ 27 (nI j))) (mn (f_X4_wanted σ (gi σ 27 (nI j))) (gi σ 10 (gi σ 18 (gi σ 27 (nI j)))))).2 22 (gi σ 27 (nI j))) + (mn (f_X4_wanted σ (gi σ 27 (nI j))) (gi σ 10 (gi σ 18 (gi σ 27 (nI j)))))))) (k := 23) (x := (gi σ 27 (nI j))) (v := ((gl (f_X2_takeOut σ (gi σ 18 (gi σ 27 (nI j))) (mn (f_X4_wanted σ (gi σ 27 (nI j))) (gi σ 10 (gi σ 18 (gi σ 27 (nI j)))))).2 23 (gi σ 27 (nI j))) + (((mn (f_X4_wanted σ (gi σ 27 (nI j))) (gi σ 10 (gi σ 18 (gi σ 27 (nI j)))))).toInt64))) Kp.rf) (EK.kp (Kp_si (τ := (f_X2_takeOut σ (gi σ 18 (gi σ 27 (nI j))) (mn (f_X4_wanted σ (gi σ 27 (nI j))) (gi σ 10 (gi σ 18 (gi σ 27 (nI j)))))).2) (k := 22) (x := (gi σ 27 (nI j))) (v := ((gi (f_X2_takeOut σ (gi σ 18 (gi σ 27 (nI j))) (mn (f_X4_wanted σ (gi σ 27 (nI j))) (gi σ 10 (gi σ 18 (gi σ 27 (nI j)))))).2 22 (gi σ 27 (nI j))) + (mn (f_X4_wanted σ (gi σ 27 (nI j))) (gi σ 10 (gi σ 18 (gi σ 27 (nI j))))))) Kp.rf (by decide)) (EK.kp (KP_X2_takeOut (σ := σ) (x := (gi σ 18 (gi σ 27 (nI j)))) (y := (mn (f_X4_wanted σ (gi σ 27 (nI j))) (gi σ 10 (gi σ 18 (gi σ 27 (nI j))))))) (EK.rf hE))))).2.2.1; omega) lc99) (EK.kp (Kp_sl (τ := (sl (si (f_X2_takeOut σ (gi σ 18 (gi σ 27 (nI j))) (mn (f_X4_wanted σ (gi σ 27 (nI j))) (gi σ 10 (gi σ 18 (gi σ 27 (nI j)))))).2 22 (gi σ 27 (nI j)) ((gi (f_X2_takeOut σ (gi σ 18 (gi σ 27 (nI j))) (mn (f_X4_wanted σ (gi σ 27 (nI j))) (gi σ 10 (gi σ 18 (gi σ 27 (nI j)))))).2 22 (gi σ 27 (nI j))) + (mn (f_X4_wanted σ (gi σ 27 (nI j))) (gi σ 10 (gi σ 18 (gi σ 27 (nI j))))))) 23 (gi σ 27 (nI j)) ((gl (f_X2_takeOut σ (gi σ 18 (gi σ 27 (nI j))) (mn (f_X4_wanted σ (gi σ 27 (nI j))) (gi σ 10 (gi σ 18 (gi σ 27 (nI j)))))).2 23 (gi σ 27 (nI j))) + (((mn (f_X4_wanted σ (gi σ 27 (nI j))) (gi σ 10 (gi σ 18 (gi σ 27 (nI j)))))).toInt64)))) (k := 28) (x := 2) (v := ((gl (f_X2_takeOut σ (gi σ 18 (gi σ 27 (nI j))) (mn (f_X4_wanted σ (gi σ 27 (nI j))) (gi σ 10 (gi σ 18 (gi σ 27 (nI j)))))).2 28 2) + (((mn (f_X4_wanted σ (gi σ 27 (nI j))) (gi σ 10 (gi σ 18 (gi σ 27 (nI j)))))).toInt64))) Kp.rf) (EK.kp (Kp_sl (τ := (si (f_X2_takeOut σ (gi σ 18 (gi σ 27 (nI j))) (mn (f_X4_wanted σ (gi σ 27 (nI j))) (gi σ 10 (gi σ 18 (gi σ 27 (nI j)))))).2 22 (gi σ 27 (nI j)) ((gi (f_X2_takeOut σ (gi σ 18 (gi σ 27 (nI j))) (mn (f_X4_wanted σ (gi σ 27 (nI j))) (gi σ 10 (gi σ 18 (gi σ 27 (nI j)))))).2 22 (gi σ 27 (nI j))) + (mn (f_X4_wanted σ (gi σ 27 (nI j))) (gi σ 10 (gi σ 18 (gi σ 27 (nI j)))))))) (k := 23) (x := (gi σ 27 (nI j))) (v := ((gl (f_X2_takeOut σ (gi σ 18 (gi σ 27 (nI j))) (mn (f_X4_wanted σ (gi σ 27 (nI j))) (gi σ 10 (gi σ 18 (gi σ 27 (nI j)))))).2 23 (gi σ 27 (nI j))) + (((mn (f_X4_wanted σ (gi σ 27 (nI j))) (gi σ 10 (gi σ 18 (gi σ 27 (nI j)))))).toInt64))) Kp.rf) (EK.kp (Kp_si (τ := (f_X2_takeOut σ (gi σ 18 (gi σ 27 (nI j))) (mn (f_X4_wanted σ (gi σ 27 (nI j))) (gi σ 10 (gi σ 18 (gi σ 27 (nI j)))))).2) (k := 22) (x := (gi σ 27 (nI j))) (v := ((gi (f_X2_takeOut σ (gi σ 18 (gi σ 27 (nI j))) (mn (f_X4_wanted σ (gi σ 27 (nI j))) (gi σ 10 (gi σ 18 (gi σ 27 (nI j)))))).2 22 (gi σ 27 (nI j))) + (mn (f_X4_wanted σ (gi σ 27 (nI j))) (gi σ 10 (gi σ 18 (gi σ 27 (nI j))))))) Kp.rf (by decide)) (EK.kp (KP_X2_takeOut (σ := σ) (x := (gi σ 18 (gi σ 27 (nI j)))) (y := (mn (f_X4_wanted σ (gi σ 27 (nI j))) (gi σ 10 (gi σ 18 (gi σ 27 (nI j))))))) (EK.rf hE)))))).2.2.1; omega)
    refine w_retv (runV_X (As := [.int (nI j)]) (rest := []) (q0 := 3) (n := 1) S hml hK (hZ.at E) (Cut.full E hA) (c_X4_shutYounger l g ad lo ke fo ea_2 (f_X5_note (sl (sl (si (f_X2_takeOut σ (gi σ 18 (gi σ 27 (nI j))) (mn (f_X4_wanted σ (gi σ 27 (nI j))) (gi σ 10 (gi σ 18 (gi σ 27 (nI j)))))).2 22 (gi σ 27 (nI j)) ((gi (f_X2_takeOut σ (gi σ 18 (gi σ 27 (nI j))) (mn (f_X4_wanted σ (gi σ 27 (nI j))) (gi σ 10 (gi σ 18 (gi σ 27 (nI j)))))).2 22 (gi σ 27 (nI j))) + (mn (f_X4_wanted σ (gi σ 27 (nI j))) (gi σ 10 (gi σ 18 (gi σ 27 (nI j))))))) 23 (gi σ 27 (nI j)) ((gl (f_X2_takeOut σ (gi σ 18 (gi σ 27 (nI j))) (mn (f_X4_wanted σ (gi σ 27 (nI j))) (gi σ 10 (gi σ 18 (gi σ 27 (nI j)))))).2 23 (gi σ 27 (nI j))) + (((mn (f_X4_wanted σ (gi σ 27 (nI j))) (gi σ 10 (gi σ 18 (gi σ 27 (nI j)))))).toInt64))) 28 2 ((gl (f_X2_takeOut σ (gi σ 18 (gi σ 27 (nI j))) (mn (f_X4_wanted σ (gi σ 27 (nI j))) (gi σ 10 (gi σ 18 (gi σ 27 (nI j)))))).2 28 2) + (((mn (f_X4_wanted σ (gi σ 27 (nI j))) (gi σ 10 (gi σ 18 (gi σ 27 (nI j)))))).toInt64))) 99) j (by omega) (EK.wf (EK.tr (EK_X5_note (σ := (sl (sl (si (f_X2_takeOut σ (gi σ 18 (gi σ 27 (nI j))) (mn (f_X4_wanted σ (gi σ 27 (nI j))) (gi σ 10 (gi σ 18 (gi σ 27 (nI j)))))).2 22 (gi σ 27 (nI j)) ((gi (f_X2_takeOut σ (gi σ 18 (gi σ 27 (nI j))) (mn (f_X4_wanted σ (gi σ 27 (nI j))) (gi σ 10 (gi σ 18 (gi σ 27 (nI j)))))).2 22 (gi σ 27 (nI j))) + (mn (f_X4_wanted σ (gi σ 27 (nI j))) (gi σ 10 (gi σ 18 (gi σ 27 (nI j))))))) 23 (gi σ 27 (nI j)) ((gl (f_X2_takeOut σ (gi σ 18 (gi σ 27 (nI j))) (mn (f_X4_wanted σ (gi σ 27 (nI j))) (gi σ 10 (gi σ 18 (gi σ 27 (nI j)))))).2 23 (gi σ 27 (nI j))) + (((mn (f_X4_wanted σ (gi σ 27 (nI j))) (gi σ 10 (gi σ 18 (gi σ 27 (nI j)))))).toInt64))) 28 2 ((gl (f_X2_takeOut σ (gi σ 18 (gi σ 27 (nI j))) (mn (f_X4_wanted σ (gi σ 27 (nI j))) (gi σ 10 (gi σ 18 (gi σ 27 (nI j)))))).2 28 2) + (((mn (f_X4_wanted σ (gi σ 27 (nI j))) (gi σ 10 (gi σ 18 (gi σ 27 (nI j)))))).toInt64)))) (c := 99) (EK.kp (Kp_sl (τ := (sl (si (f_X2_takeOut σ (gi σ 18 (gi σ 27 (nI j))) (mn (f_X4_wanted σ (gi σ 27 (nI j))) (gi σ 10 (gi σ 18 (gi σ 27 (nI j)))))).2 22 (gi σ 27 (nI j)) ((gi (f_X2_takeOut σ (gi σ 18 (gi σ 27 (nI j))) (mn (f_X4_wanted σ (gi σ 27 (nI j))) (gi σ 10 (gi σ 18 (gi σ 27 (nI j)))))).2 22 (gi σ 27 (nI j))) + (mn (f_X4_wanted σ (gi σ 27 (nI j))) (gi σ 10 (gi σ 18 (gi σ 27 (nI j))))))) 23 (gi σ 27 (nI j)) ((gl (f_X2_takeOut σ (gi σ 18 (gi σ 27 (nI j))) (mn (f_X4_wanted σ (gi σ 27 (nI j))) (gi σ 10 (gi σ 18 (gi σ 27 (nI j)))))).2 23 (gi σ 27 (nI j))) + (((mn (f_X4_wanted σ (gi σ 27 (nI j))) (gi σ 10 (gi σ 18 (gi σ 27 (nI j)))))).toInt64)))) (k := 28) (x := 2) (v := ((gl (f_X2_takeOut σ (gi σ 18 (gi σ 27 (nI j))) (mn (f_X4_wanted σ (gi σ 27 (nI j))) (gi σ 10 (gi σ 18 (gi σ 27 (nI j)))))).2 28 2) + (((mn (f_X4_wanted σ (gi σ 27 (nI j))) (gi σ 10 (gi σ 18 (gi σ 27 (nI j)))))).toInt64))) Kp.rf) (EK.kp (Kp_sl (τ := (si (f_X2_takeOut σ (gi σ 18 (gi σ 27 (nI j))) (mn (f_X4_wanted σ (gi σ 27 (nI j))) (gi σ 10 (gi σ 18 (gi σ 27 (nI j)))))).2 22 (gi σ 27 (nI j)) ((gi (f_X2_takeOut σ (gi σ 18 (gi σ 27 (nI j))) (mn (f_X4_wanted σ (gi σ 27 (nI j))) (gi σ 10 (gi σ 18 (gi σ 27 (nI j)))))).2 22 (gi σ 27 (nI j))) + (mn (f_X4_wanted σ (gi σ 27 (nI j))) (gi σ 10 (gi σ 18 (gi σ 27 (nI j)))))))) (k := 23) (x := (gi σ 27 (nI j))) (v := ((gl (f_X2_takeOut σ (gi σ 18 (gi σ 27 (nI j))) (mn (f_X4_wanted σ (gi σ 27 (nI j))) (gi σ 10 (gi σ 18 (gi σ 27 (nI j)))))).2 23 (gi σ 27 (nI j))) + (((mn (f_X4_wanted σ (gi σ 27 (nI j))) (gi σ 10 (gi σ 18 (gi σ 27 (nI j)))))).toInt64))) Kp.rf) (EK.kp (Kp_si (τ := (f_X2_takeOut σ (gi σ 18 (gi σ 27 (nI j))) (mn (f_X4_wanted σ (gi σ 27 (nI j))) (gi σ 10 (gi σ 18 (gi σ 27 (nI j)))))).2) (k := 22) (x := (gi σ 27 (nI j))) (v := ((gi (f_X2_takeOut σ (gi σ 18 (gi σ 27 (nI j))) (mn (f_X4_wanted σ (gi σ 27 (nI j))) (gi σ 10 (gi σ 18 (gi σ 27 (nI j)))))).2 22 (gi σ 27 (nI j))) + (mn (f_X4_wanted σ (gi σ 27 (nI j))) (gi σ 10 (gi σ 18 (gi σ 27 (nI j))))))) Kp.rf (by decide)) (EK.kp (KP_X2_takeOut (σ := σ) (x := (gi σ 18 (gi σ 27 (nI j)))) (y := (mn (f_X4_wanted σ (gi σ 27 (nI j))) (gi σ 10 (gi σ 18 (gi σ 27 (nI j))))))) (EK.rf hE))))).1 (by have := (EK.kp (Kp_sl (τ := (sl (si (f_X2_takeOut σ (gi σ 18 (gi σ 27 (nI j))) (mn (f_X4_wanted σ (gi σ 27 (nI j))) (gi σ 10 (gi σ 18 (gi σ 27 (nI j)))))).2 22 (gi σ 27 (nI j)) ((gi (f_X2_takeOut σ (gi σ 18 (gi σ 27 (nI j))) (mn (f_X4_wanted σ (gi σ 27 (nI j))) (gi σ 10 (gi σ 18 (gi σ 27 (nI j)))))).2 22 (gi σ 27 (nI j))) + (mn (f_X4_wanted σ (gi σ 27 (nI j))) (gi σ 10 (gi σ 18 (gi σ 27 (nI j))))))) 23 (gi σ 27 (nI j)) ((gl (f_X2_takeOut σ (gi σ 18 (gi σ 27 (nI j))) (mn (f_X4_wanted σ (gi σ 27 (nI j))) (gi σ 10 (gi σ 18 (gi σ 27 (nI j)))))).2 23 (gi σ 27 (nI j))) + (((mn (f_X4_wanted σ (gi σ 27 (nI j))) (gi σ 10 (gi σ 18 (gi σ 27 (nI j)))))).toInt64)))) (k := 28) (x := 2) (v := ((gl (f_X2_takeOut σ (gi σ 18 (gi σ 27 (nI j))) (mn (f_X4_wanted σ (gi σ 27 (nI j))) (gi σ 10 (gi σ 18 (gi σ 27 (nI j)))))).2 28 2) + (((mn (f_X4_wanted σ (gi σ 27 (nI j))) (gi σ 10 (gi σ 18 (gi σ 27 (nI j)))))).toInt64))) Kp.rf) (EK.kp (Kp_sl (τ := (si (f_X2_takeOut σ (gi σ 18 (gi σ 27 (nI j))) (mn (f_X4_wanted σ (gi σ 27 (nI j))) (gi σ 10 (gi σ 18 (gi σ 27 (nI j)))))).2 22 (gi σ 27 (nI j)) ((gi (f_X2_takeOut σ (gi σ 18 (gi σ 27 (nI j))) (mn (f_X4_wanted σ (gi σ 27 (nI j))) (gi σ 10 (gi σ 18 (gi σ 27 (nI j)))))).2 22 (gi σ 27 (nI j))) + (mn (f_X4_wanted σ (gi σ 27 (nI j))) (gi σ 10 (gi σ 18 (gi σ 27 (nI j)))))))) (k := 23) (x := (gi σ 27 (nI j))) (v := ((gl (f_X2_takeOut σ (gi σ 18 (gi σ 27 (nI j))) (mn (f_X4_wanted σ (gi σ 27 (nI j))) (gi σ 10 (gi σ 18 (gi σ 27 (nI j)))))).2 23 (gi σ 27 (nI j))) + (((mn (f_X4_wanted σ (gi σ 27 (nI j))) (gi σ 10 (gi σ 18 (gi σ 27 (nI j)))))).toInt64))) Kp.rf) (EK.kp (Kp_si (τ := (f_X2_takeOut σ (gi σ 18 (gi σ 27 (nI j))) (mn (f_X4_wanted σ (gi σ 27 (nI j))) (gi σ 10 (gi σ 18 (gi σ 27 (nI j)))))).2) (k := 22) (x := (gi σ 27 (nI j))) (v := ((gi (f_X2_takeOut σ (gi σ 18 (gi σ 27 (nI j))) (mn (f_X4_wanted σ (gi σ 27 (nI j))) (gi σ 10 (gi σ 18 (gi σ 27 (nI j)))))).2 22 (gi σ 27 (nI j))) + (mn (f_X4_wanted σ (gi σ 27 (nI j))) (gi σ 10 (gi σ 18 (gi σ 27 (nI j))))))) Kp.rf (by decide)) (EK.kp (KP_X2_takeOut (σ := σ) (x := (gi σ 18 (gi σ 27 (nI j)))) (y := (mn (f_X4_wanted σ (gi σ 27 (nI j))) (gi σ 10 (gi σ 18 (gi σ 27 (nI j))))))) (EK.rf hE))))).2.2.1; omega) lc99) (EK.kp (Kp_sl (τ := (sl (si (f_X2_takeOut σ (gi σ 18 (gi σ 27 (nI j))) (mn (f_X4_wanted σ (gi σ 27 (nI j))) (gi σ 10 (gi σ 18 (gi σ 27 (nI j)))))).2 22 (gi σ 27 (nI j)) ((gi (f_X2_takeOut σ (gi σ 18 (gi σ 27 (nI j))) (mn (f_X4_wanted σ (gi σ 27 (nI j))) (gi σ 10 (gi σ 18 (gi σ 27 (nI j)))))).2 22 (gi σ 27 (nI j))) + (mn (f_X4_wanted σ (gi σ 27 (nI j))) (gi σ 10 (gi σ 18 (gi σ 27 (nI j))))))) 23 (gi σ 27 (nI j)) ((gl (f_X2_takeOut σ (gi σ 18 (gi σ 27 (nI j))) (mn (f_X4_wanted σ (gi σ 27 (nI j))) (gi σ 10 (gi σ 18 (gi σ 27 (nI j)))))).2 23 (gi σ 27 (nI j))) + (((mn (f_X4_wanted σ (gi σ 27 (nI j))) (gi σ 10 (gi σ 18 (gi σ 27 (nI j)))))).toInt64)))) (k := 28) (x := 2) (v := ((gl (f_X2_takeOut σ (gi σ 18 (gi σ 27 (nI j))) (mn (f_X4_wanted σ (gi σ 27 (nI j))) (gi σ 10 (gi σ 18 (gi σ 27 (nI j)))))).2 28 2) + (((mn (f_X4_wanted σ (gi σ 27 (nI j))) (gi σ 10 (gi σ 18 (gi σ 27 (nI j)))))).toInt64))) Kp.rf) (EK.kp (Kp_sl (τ := (si (f_X2_takeOut σ (gi σ 18 (gi σ 27 (nI j))) (mn (f_X4_wanted σ (gi σ 27 (nI j))) (gi σ 10 (gi σ 18 (gi σ 27 (nI j)))))).2 22 (gi σ 27 (nI j)) ((gi (f_X2_takeOut σ (gi σ 18 (gi σ 27 (nI j))) (mn (f_X4_wanted σ (gi σ 27 (nI j))) (gi σ 10 (gi σ 18 (gi σ 27 (nI j)))))).2 22 (gi σ 27 (nI j))) + (mn (f_X4_wanted σ (gi σ 27 (nI j))) (gi σ 10 (gi σ 18 (gi σ 27 (nI j)))))))) (k := 23) (x := (gi σ 27 (nI j))) (v := ((gl (f_X2_takeOut σ (gi σ 18 (gi σ 27 (nI j))) (mn (f_X4_wanted σ (gi σ 27 (nI j))) (gi σ 10 (gi σ 18 (gi σ 27 (nI j)))))).2 23 (gi σ 27 (nI j))) + (((mn (f_X4_wanted σ (gi σ 27 (nI j))) (gi σ 10 (gi σ 18 (gi σ 27 (nI j)))))).toInt64))) Kp.rf) (EK.kp (Kp_si (τ := (f_X2_takeOut σ (gi σ 18 (gi σ 27 (nI j))) (mn (f_X4_wanted σ (gi σ 27 (nI j))) (gi σ 10 (gi σ 18 (gi σ 27 (nI j)))))).2) (k := 22) (x := (gi σ 27 (nI j))) (v := ((gi (f_X2_takeOut σ (gi σ 18 (gi σ 27 (nI j))) (mn (f_X4_wanted σ (gi σ 27 (nI j))) (gi σ 10 (gi σ 18 (gi σ 27 (nI j)))))).2 22 (gi σ 27 (nI j))) + (mn (f_X4_wanted σ (gi σ 27 (nI j))) (gi σ 10 (gi σ 18 (gi σ 27 (nI j))))))) Kp.rf (by decide)) (EK.kp (KP_X2_takeOut (σ := σ) (x := (gi σ 18 (gi σ 27 (nI j)))) (y := (mn (f_X4_wanted σ (gi σ 27 (nI j))) (gi σ 10 (gi σ 18 (gi σ 27 (nI j))))))) (EK.rf hE)))))) hW) (by have := EK.cnt (EK.tr (EK_X5_note (σ := (sl (sl (si (f_X2_takeOut σ (gi σ 18 (gi σ 27 (nI j))) (mn (f_X4_wanted σ (gi σ 27 (nI j))) (gi σ 10 (gi σ 18 (gi σ 27 (nI j)))))).2 22 (gi σ 27 (nI j)) ((gi (f_X2_takeOut σ (gi σ 18 (gi σ 27 (nI j))) (mn (f_X4_wanted σ (gi σ 27 (nI j))) (gi σ 10 (gi σ 18 (gi σ 27 (nI j)))))).2 22 (gi σ 27 (nI j))) + (mn (f_X4_wanted σ (gi σ 27 (nI j))) (gi σ 10 (gi σ 18 (gi σ 27 (nI j))))))) 23 (gi σ 27 (nI j)) ((gl (f_X2_takeOut σ (gi σ 18 (gi σ 27 (nI j))) (mn (f_X4_wanted σ (gi σ 27 (nI j))) (gi σ 10 (gi σ 18 (gi σ 27 (nI j)))))).2 23 (gi σ 27 (nI j))) + (((mn (f_X4_wanted σ (gi σ 27 (nI j))) (gi σ 10 (gi σ 18 (gi σ 27 (nI j)))))).toInt64))) 28 2 ((gl (f_X2_takeOut σ (gi σ 18 (gi σ 27 (nI j))) (mn (f_X4_wanted σ (gi σ 27 (nI j))) (gi σ 10 (gi σ 18 (gi σ 27 (nI j)))))).2 28 2) + (((mn (f_X4_wanted σ (gi σ 27 (nI j))) (gi σ 10 (gi σ 18 (gi σ 27 (nI j)))))).toInt64)))) (c := 99) (EK.kp (Kp_sl (τ := (sl (si (f_X2_takeOut σ (gi σ 18 (gi σ 27 (nI j))) (mn (f_X4_wanted σ (gi σ 27 (nI j))) (gi σ 10 (gi σ 18 (gi σ 27 (nI j)))))).2 22 (gi σ 27 (nI j)) ((gi (f_X2_takeOut σ (gi σ 18 (gi σ 27 (nI j))) (mn (f_X4_wanted σ (gi σ 27 (nI j))) (gi σ 10 (gi σ 18 (gi σ 27 (nI j)))))).2 22 (gi σ 27 (nI j))) + (mn (f_X4_wanted σ (gi σ 27 (nI j))) (gi σ 10 (gi σ 18 (gi σ 27 (nI j))))))) 23 (gi σ 27 (nI j)) ((gl (f_X2_takeOut σ (gi σ 18 (gi σ 27 (nI j))) (mn (f_X4_wanted σ (gi σ 27 (nI j))) (gi σ 10 (gi σ 18 (gi σ 27 (nI j)))))).2 23 (gi σ 27 (nI j))) + (((mn (f_X4_wanted σ (gi σ 27 (nI j))) (gi σ 10 (gi σ 18 (gi σ 27 (nI j)))))).toInt64)))) (k := 28) (x := 2) (v := ((gl (f_X2_takeOut σ (gi σ 18 (gi σ 27 (nI j))) (mn (f_X4_wanted σ (gi σ 27 (nI j))) (gi σ 10 (gi σ 18 (gi σ 27 (nI j)))))).2 28 2) + (((mn (f_X4_wanted σ (gi σ 27 (nI j))) (gi σ 10 (gi σ 18 (gi σ 27 (nI j)))))).toInt64))) Kp.rf) (EK.kp (Kp_sl (τ := (si (f_X2_takeOut σ (gi σ 18 (gi σ 27 (nI j))) (mn (f_X4_wanted σ (gi σ 27 (nI j))) (gi σ 10 (gi σ 18 (gi σ 27 (nI j)))))).2 22 (gi σ 27 (nI j)) ((gi (f_X2_takeOut σ (gi σ 18 (gi σ 27 (nI j))) (mn (f_X4_wanted σ (gi σ 27 (nI j))) (gi σ 10 (gi σ 18 (gi σ 27 (nI j)))))).2 22 (gi σ 27 (nI j))) + (mn (f_X4_wanted σ (gi σ 27 (nI j))) (gi σ 10 (gi σ 18 (gi σ 27 (nI j)))))))) (k := 23) (x := (gi σ 27 (nI j))) (v := ((gl (f_X2_takeOut σ (gi σ 18 (gi σ 27 (nI j))) (mn (f_X4_wanted σ (gi σ 27 (nI j))) (gi σ 10 (gi σ 18 (gi σ 27 (nI j)))))).2 23 (gi σ 27 (nI j))) + (((mn (f_X4_wanted σ (gi σ 27 (nI j))) (gi σ 10 (gi σ 18 (gi σ 27 (nI j)))))).toInt64))) Kp.rf) (EK.kp (Kp_si (τ := (f_X2_takeOut σ (gi σ 18 (gi σ 27 (nI j))) (mn (f_X4_wanted σ (gi σ 27 (nI j))) (gi σ 10 (gi σ 18 (gi σ 27 (nI j)))))).2) (k := 22) (x := (gi σ 27 (nI j))) (v := ((gi (f_X2_takeOut σ (gi σ 18 (gi σ 27 (nI j))) (mn (f_X4_wanted σ (gi σ 27 (nI j))) (gi σ 10 (gi σ 18 (gi σ 27 (nI j)))))).2 22 (gi σ 27 (nI j))) + (mn (f_X4_wanted σ (gi σ 27 (nI j))) (gi σ 10 (gi σ 18 (gi σ 27 (nI j))))))) Kp.rf (by decide)) (EK.kp (KP_X2_takeOut (σ := σ) (x := (gi σ 18 (gi σ 27 (nI j)))) (y := (mn (f_X4_wanted σ (gi σ 27 (nI j))) (gi σ 10 (gi σ 18 (gi σ 27 (nI j))))))) (EK.rf hE))))).1 (by have := (EK.kp (Kp_sl (τ := (sl (si (f_X2_takeOut σ (gi σ 18 (gi σ 27 (nI j))) (mn (f_X4_wanted σ (gi σ 27 (nI j))) (gi σ 10 (gi σ 18 (gi σ 27 (nI j)))))).2 22 (gi σ 27 (nI j)) ((gi (f_X2_takeOut σ (gi σ 18 (gi σ 27 (nI j))) (mn (f_X4_wanted σ (gi σ 27 (nI j))) (gi σ 10 (gi σ 18 (gi σ 27 (nI j)))))).2 22 (gi σ 27 (nI j))) + (mn (f_X4_wanted σ (gi σ 27 (nI j))) (gi σ 10 (gi σ 18 (gi σ 27 (nI j))))))) 23 (gi σ 27 (nI j)) ((gl (f_X2_takeOut σ (gi σ 18 (gi σ 27 (nI j))) (mn (f_X4_wanted σ (gi σ 27 (nI j))) (gi σ 10 (gi σ 18 (gi σ 27 (nI j)))))).2 23 (gi σ 27 (nI j))) + (((mn (f_X4_wanted σ (gi σ 27 (nI j))) (gi σ 10 (gi σ 18 (gi σ 27 (nI j)))))).toInt64)))) (k := 28) (x := 2) (v := ((gl (f_X2_takeOut σ (gi σ 18 (gi σ 27 (nI j))) (mn (f_X4_wanted σ (gi σ 27 (nI j))) (gi σ 10 (gi σ 18 (gi σ 27 (nI j)))))).2 28 2) + (((mn (f_X4_wanted σ (gi σ 27 (nI j))) (gi σ 10 (gi σ 18 (gi σ 27 (nI j)))))).toInt64))) Kp.rf) (EK.kp (Kp_sl (τ := (si (f_X2_takeOut σ (gi σ 18 (gi σ 27 (nI j))) (mn (f_X4_wanted σ (gi σ 27 (nI j))) (gi σ 10 (gi σ 18 (gi σ 27 (nI j)))))).2 22 (gi σ 27 (nI j)) ((gi (f_X2_takeOut σ (gi σ 18 (gi σ 27 (nI j))) (mn (f_X4_wanted σ (gi σ 27 (nI j))) (gi σ 10 (gi σ 18 (gi σ 27 (nI j)))))).2 22 (gi σ 27 (nI j))) + (mn (f_X4_wanted σ (gi σ 27 (nI j))) (gi σ 10 (gi σ 18 (gi σ 27 (nI j)))))))) (k := 23) (x := (gi σ 27 (nI j))) (v := ((gl (f_X2_takeOut σ (gi σ 18 (gi σ 27 (nI j))) (mn (f_X4_wanted σ (gi σ 27 (nI j))) (gi σ 10 (gi σ 18 (gi σ 27 (nI j)))))).2 23 (gi σ 27 (nI j))) + (((mn (f_X4_wanted σ (gi σ 27 (nI j))) (gi σ 10 (gi σ 18 (gi σ 27 (nI j)))))).toInt64))) Kp.rf) (EK.kp (Kp_si (τ := (f_X2_takeOut σ (gi σ 18 (gi σ 27 (nI j))) (mn (f_X4_wanted σ (gi σ 27 (nI j))) (gi σ 10 (gi σ 18 (gi σ 27 (nI j)))))).2) (k := 22) (x := (gi σ 27 (nI j))) (v := ((gi (f_X2_takeOut σ (gi σ 18 (gi σ 27 (nI j))) (mn (f_X4_wanted σ (gi σ 27 (nI j))) (gi σ 10 (gi σ 18 (gi σ 27 (nI j)))))).2 22 (gi σ 27 (nI j))) + (mn (f_X4_wanted σ (gi σ 27 (nI j))) (gi σ 10 (gi σ 18 (gi σ 27 (nI j))))))) Kp.rf (by decide)) (EK.kp (KP_X2_takeOut (σ := σ) (x := (gi σ 18 (gi σ 27 (nI j)))) (y := (mn (f_X4_wanted σ (gi σ 27 (nI j))) (gi σ 10 (gi σ 18 (gi σ 27 (nI j))))))) (EK.rf hE))))).2.2.1; omega) lc99) (EK.kp (Kp_sl (τ := (sl (si (f_X2_takeOut σ (gi σ 18 (gi σ 27 (nI j))) (mn (f_X4_wanted σ (gi σ 27 (nI j))) (gi σ 10 (gi σ 18 (gi σ 27 (nI j)))))).2 22 (gi σ 27 (nI j)) ((gi (f_X2_takeOut σ (gi σ 18 (gi σ 27 (nI j))) (mn (f_X4_wanted σ (gi σ 27 (nI j))) (gi σ 10 (gi σ 18 (gi σ 27 (nI j)))))).2 22 (gi σ 27 (nI j))) + (mn (f_X4_wanted σ (gi σ 27 (nI j))) (gi σ 10 (gi σ 18 (gi σ 27 (nI j))))))) 23 (gi σ 27 (nI j)) ((gl (f_X2_takeOut σ (gi σ 18 (gi σ 27 (nI j))) (mn (f_X4_wanted σ (gi σ 27 (nI j))) (gi σ 10 (gi σ 18 (gi σ 27 (nI j)))))).2 23 (gi σ 27 (nI j))) + (((mn (f_X4_wanted σ (gi σ 27 (nI j))) (gi σ 10 (gi σ 18 (gi σ 27 (nI j)))))).toInt64)))) (k := 28) (x := 2) (v := ((gl (f_X2_takeOut σ (gi σ 18 (gi σ 27 (nI j))) (mn (f_X4_wanted σ (gi σ 27 (nI j))) (gi σ 10 (gi σ 18 (gi σ 27 (nI j)))))).2 28 2) + (((mn (f_X4_wanted σ (gi σ 27 (nI j))) (gi σ 10 (gi σ 18 (gi σ 27 (nI j)))))).toInt64))) Kp.rf) (EK.kp (Kp_sl (τ := (si (f_X2_takeOut σ (gi σ 18 (gi σ 27 (nI j))) (mn (f_X4_wanted σ (gi σ 27 (nI j))) (gi σ 10 (gi σ 18 (gi σ 27 (nI j)))))).2 22 (gi σ 27 (nI j)) ((gi (f_X2_takeOut σ (gi σ 18 (gi σ 27 (nI j))) (mn (f_X4_wanted σ (gi σ 27 (nI j))) (gi σ 10 (gi σ 18 (gi σ 27 (nI j)))))).2 22 (gi σ 27 (nI j))) + (mn (f_X4_wanted σ (gi σ 27 (nI j))) (gi σ 10 (gi σ 18 (gi σ 27 (nI j)))))))) (k := 23) (x := (gi σ 27 (nI j))) (v := ((gl (f_X2_takeOut σ (gi σ 18 (gi σ 27 (nI j))) (mn (f_X4_wanted σ (gi σ 27 (nI j))) (gi σ 10 (gi σ 18 (gi σ 27 (nI j)))))).2 23 (gi σ 27 (nI j))) + (((mn (f_X4_wanted σ (gi σ 27 (nI j))) (gi σ 10 (gi σ 18 (gi σ 27 (nI j)))))).toInt64))) Kp.rf) (EK.kp (Kp_si (τ := (f_X2_takeOut σ (gi σ 18 (gi σ 27 (nI j))) (mn (f_X4_wanted σ (gi σ 27 (nI j))) (gi σ 10 (gi σ 18 (gi σ 27 (nI j)))))).2) (k := 22) (x := (gi σ 27 (nI j))) (v := ((gi (f_X2_takeOut σ (gi σ 18 (gi σ 27 (nI j))) (mn (f_X4_wanted σ (gi σ 27 (nI j))) (gi σ 10 (gi σ 18 (gi σ 27 (nI j)))))).2 22 (gi σ 27 (nI j))) + (mn (f_X4_wanted σ (gi σ 27 (nI j))) (gi σ 10 (gi σ 18 (gi σ 27 (nI j))))))) Kp.rf (by decide)) (EK.kp (KP_X2_takeOut (σ := σ) (x := (gi σ 18 (gi σ 27 (nI j)))) (y := (mn (f_X4_wanted σ (gi σ 27 (nI j))) (gi σ 10 (gi σ 18 (gi σ 27 (nI j))))))) (EK.rf hE)))))); omega) _ _) (gi_wsV ml_X5_226 im_X4_shutYounger sl_X4_shutYounger in_X4 co_X4_shutYounger) ⟨rfl, by decide +kernel, by decide +kernel, by decide +kernel⟩ ⟨Nat.le_of_ble_eq_true rfl, Nat.le_of_ble_eq_true rfl⟩ rfl rfl rfl hl.1 rfl (Nat.le_of_ble_eq_true rfl) dX5_pumpWell_119 ⟨by show eg (f_X5_note (sl (sl (si (f_X2_takeOut σ (gi σ 18 (gi σ 27 (nI j))) (mn (f_X4_wanted σ (gi σ 27 (nI j))) (gi σ 10 (gi σ 18 (gi σ 27 (nI j)))))).2 22 (gi σ 27 (nI j)) ((gi (f_X2_takeOut σ (gi σ 18 (gi σ 27 (nI j))) (mn (f_X4_wanted σ (gi σ 27 (nI j))) (gi σ 10 (gi σ 18 (gi σ 27 (nI j)))))).2 22 (gi σ 27 (nI j))) + (mn (f_X4_wanted σ (gi σ 27 (nI j))) (gi σ 10 (gi σ 18 (gi σ 27 (nI j))))))) 23 (gi σ 27 (nI j)) ((gl (f_X2_takeOut σ (gi σ 18 (gi σ 27 (nI j))) (mn (f_X4_wanted σ (gi σ 27 (nI j))) (gi σ 10 (gi σ 18 (gi σ 27 (nI j)))))).2 23 (gi σ 27 (nI j))) + (((mn (f_X4_wanted σ (gi σ 27 (nI j))) (gi σ 10 (gi σ 18 (gi σ 27 (nI j)))))).toInt64))) 28 2 ((gl (f_X2_takeOut σ (gi σ 18 (gi σ 27 (nI j))) (mn (f_X4_wanted σ (gi σ 27 (nI j))) (gi σ 10 (gi σ 18 (gi σ 27 (nI j)))))).2 28 2) + (((mn (f_X4_wanted σ (gi σ 27 (nI j))) (gi σ 10 (gi σ 18 (gi σ 27 (nI j)))))).toInt64))) 99) - eg σ + 0 ≤ 13; omega, by show 2 * ec (f_X5_note (sl (sl (si (f_X2_takeOut σ (gi σ 18 (gi σ 27 (nI j))) (mn (f_X4_wanted σ (gi σ 27 (nI j))) (gi σ 10 (gi σ 18 (gi σ 27 (nI j)))))).2 22 (gi σ 27 (nI j)) ((gi (f_X2_takeOut σ (gi σ 18 (gi σ 27 (nI j))) (mn (f_X4_wanted σ (gi σ 27 (nI j))) (gi σ 10 (gi σ 18 (gi σ 27 (nI j)))))).2 22 (gi σ 27 (nI j))) + (mn (f_X4_wanted σ (gi σ 27 (nI j))) (gi σ 10 (gi σ 18 (gi σ 27 (nI j))))))) 23 (gi σ 27 (nI j)) ((gl (f_X2_takeOut σ (gi σ 18 (gi σ 27 (nI j))) (mn (f_X4_wanted σ (gi σ 27 (nI j))) (gi σ 10 (gi σ 18 (gi σ 27 (nI j)))))).2 23 (gi σ 27 (nI j))) + (((mn (f_X4_wanted σ (gi σ 27 (nI j))) (gi σ 10 (gi σ 18 (gi σ 27 (nI j)))))).toInt64))) 28 2 ((gl (f_X2_takeOut σ (gi σ 18 (gi σ 27 (nI j))) (mn (f_X4_wanted σ (gi σ 27 (nI j))) (gi σ 10 (gi σ 18 (gi σ 27 (nI j)))))).2 28 2) + (((mn (f_X4_wanted σ (gi σ 27 (nI j))) (gi σ 10 (gi σ 18 (gi σ 27 (nI j)))))).toInt64))) 99) - 2 * ec σ + 0 ≤ 200002; omega⟩) (Cut.full E hA) E (fun u H locs hp E => ?_)
    subst hp
    have E : Ev g _ s.heap H locs (wsW g ad lo ke fo ea_2 (f_X4_shutYounger (f_X5_note (sl (sl (si (f_X2_takeOut σ (gi σ 18 (gi σ 27 (nI j))) (mn (f_X4_wanted σ (gi σ 27 (nI j))) (gi σ 10 (gi σ 18 (gi σ 27 (nI j)))))).2 22 (gi σ 27 (nI j)) ((gi (f_X2_takeOut σ (gi σ 18 (gi σ 27 (nI j))) (mn (f_X4_wanted σ (gi σ 27 (nI j))) (gi σ 10 (gi σ 18 (gi σ 27 (nI j)))))).2 22 (gi σ 27 (nI j))) + (mn (f_X4_wanted σ (gi σ 27 (nI j))) (gi σ 10 (gi σ 18 (gi σ 27 (nI j))))))) 23 (gi σ 27 (nI j)) ((gl (f_X2_takeOut σ (gi σ 18 (gi σ 27 (nI j))) (mn (f_X4_wanted σ (gi σ 27 (nI j))) (gi σ 10 (gi σ 18 (gi σ 27 (nI j)))))).2 23 (gi σ 27 (nI j))) + (((mn (f_X4_wanted σ (gi σ 27 (nI j))) (gi σ 10 (gi σ 18 (gi σ 27 (nI j)))))).toInt64))) 28 2 ((gl (f_X2_takeOut σ (gi σ 18 (gi σ 27 (nI j))) (mn (f_X4_wanted σ (gi σ 27 (nI j))) (gi σ 10 (gi σ 18 (gi σ 27 (nI j)))))).2 28 2) + (((mn (f_X4_wanted σ (gi σ 27 (nI j))) (gi σ 10 (gi σ 18 (gi σ 27 (nI j)))))).toInt64))) 99) j)) := E
    refine W.widen (k := eg (f_X4_shutYounger (f_X5_note (sl (sl (si (f_X2_takeOut σ (gi σ 18 (gi σ 27 (nI j))) (mn (f_X4_wanted σ (gi σ 27 (nI j))) (gi σ 10 (gi σ 18 (gi σ 27 (nI j)))))).2 22 (gi σ 27 (nI j)) ((gi (f_X2_takeOut σ (gi σ 18 (gi σ 27 (nI j))) (mn (f_X4_wanted σ (gi σ 27 (nI j))) (gi σ 10 (gi σ 18 (gi σ 27 (nI j)))))).2 22 (gi σ 27 (nI j))) + (mn (f_X4_wanted σ (gi σ 27 (nI j))) (gi σ 10 (gi σ 18 (gi σ 27 (nI j))))))) 23 (gi σ 27 (nI j)) ((gl (f_X2_takeOut σ (gi σ 18 (gi σ 27 (nI j))) (mn (f_X4_wanted σ (gi σ 27 (nI j))) (gi σ 10 (gi σ 18 (gi σ 27 (nI j)))))).2 23 (gi σ 27 (nI j))) + (((mn (f_X4_wanted σ (gi σ 27 (nI j))) (gi σ 10 (gi σ 18 (gi σ 27 (nI j)))))).toInt64))) 28 2 ((gl (f_X2_takeOut σ (gi σ 18 (gi σ 27 (nI j))) (mn (f_X4_wanted σ (gi σ 27 (nI j))) (gi σ 10 (gi σ 18 (gi σ 27 (nI j)))))).2 28 2) + (((mn (f_X4_wanted σ (gi σ 27 (nI j))) (gi σ 10 (gi σ 18 (gi σ 27 (nI j)))))).toInt64))) 99) j) - eg σ) (n := 2 * ec (f_X4_shutYounger (f_X5_note (sl (sl (si (f_X2_takeOut σ (gi σ 18 (gi σ 27 (nI j))) (mn (f_X4_wanted σ (gi σ 27 (nI j))) (gi σ 10 (gi σ 18 (gi σ 27 (nI j)))))).2 22 (gi σ 27 (nI j)) ((gi (f_X2_takeOut σ (gi σ 18 (gi σ 27 (nI j))) (mn (f_X4_wanted σ (gi σ 27 (nI j))) (gi σ 10 (gi σ 18 (gi σ 27 (nI j)))))).2 22 (gi σ 27 (nI j))) + (mn (f_X4_wanted σ (gi σ 27 (nI j))) (gi σ 10 (gi σ 18 (gi σ 27 (nI j))))))) 23 (gi σ 27 (nI j)) ((gl (f_X2_takeOut σ (gi σ 18 (gi σ 27 (nI j))) (mn (f_X4_wanted σ (gi σ 27 (nI j))) (gi σ 10 (gi σ 18 (gi σ 27 (nI j)))))).2 23 (gi σ 27 (nI j))) + (((mn (f_X4_wanted σ (gi σ 27 (nI j))) (gi σ 10 (gi σ 18 (gi σ 27 (nI j)))))).toInt64))) 28 2 ((gl (f_X2_takeOut σ (gi σ 18 (gi σ 27 (nI j))) (mn (f_X4_wanted σ (gi σ 27 (nI j))) (gi σ 10 (gi σ 18 (gi σ 27 (nI j)))))).2 28 2) + (((mn (f_X4_wanted σ (gi σ 27 (nI j))) (gi σ 10 (gi σ 18 (gi σ 27 (nI j)))))).toInt64))) 99) j) - 2 * ec σ) (Kp_wd1 (KP_X4_shutYounger (σ := (f_X5_note (sl (sl (si (f_X2_takeOut σ (gi σ 18 (gi σ 27 (nI j))) (mn (f_X4_wanted σ (gi σ 27 (nI j))) (gi σ 10 (gi σ 18 (gi σ 27 (nI j)))))).2 22 (gi σ 27 (nI j)) ((gi (f_X2_takeOut σ (gi σ 18 (gi σ 27 (nI j))) (mn (f_X4_wanted σ (gi σ 27 (nI j))) (gi σ 10 (gi σ 18 (gi σ 27 (nI j)))))).2 22 (gi σ 27 (nI j))) + (mn (f_X4_wanted σ (gi σ 27 (nI j))) (gi σ 10 (gi σ 18 (gi σ 27 (nI j))))))) 23 (gi σ 27 (nI j)) ((gl (f_X2_takeOut σ (gi σ 18 (gi σ 27 (nI j))) (mn (f_X4_wanted σ (gi σ 27 (nI j))) (gi σ 10 (gi σ 18 (gi σ 27 (nI j)))))).2 23 (gi σ 27 (nI j))) + (((mn (f_X4_wanted σ (gi σ 27 (nI j))) (gi σ 10 (gi σ 18 (gi σ 27 (nI j)))))).toInt64))) 28 2 ((gl (f_X2_takeOut σ (gi σ 18 (gi σ 27 (nI j))) (mn (f_X4_wanted σ (gi σ 27 (nI j))) (gi σ 10 (gi σ 18 (gi σ 27 (nI j)))))).2 28 2) + (((mn (f_X4_wanted σ (gi σ 27 (nI j))) (gi σ 10 (gi σ 18 (gi σ 27 (nI j)))))).toInt64))) 99)) (j := j))) (Kp_wd2 (KP_X4_shutYounger (σ := (f_X5_note (sl (sl (si (f_X2_takeOut σ (gi σ 18 (gi σ 27 (nI j))) (mn (f_X4_wanted σ (gi σ 27 (nI j))) (gi σ 10 (gi σ 18 (gi σ 27 (nI j)))))).2 22 (gi σ 27 (nI j)) ((gi (f_X2_takeOut σ (gi σ 18 (gi σ 27 (nI j))) (mn (f_X4_wanted σ (gi σ 27 (nI j))) (gi σ 10 (gi σ 18 (gi σ 27 (nI j)))))).2 22 (gi σ 27 (nI j))) + (mn (f_X4_wanted σ (gi σ 27 (nI j))) (gi σ 10 (gi σ 18 (gi σ 27 (nI j))))))) 23 (gi σ 27 (nI j)) ((gl (f_X2_takeOut σ (gi σ 18 (gi σ 27 (nI j))) (mn (f_X4_wanted σ (gi σ 27 (nI j))) (gi σ 10 (gi σ 18 (gi σ 27 (nI j)))))).2 23 (gi σ 27 (nI j))) + (((mn (f_X4_wanted σ (gi σ 27 (nI j))) (gi σ 10 (gi σ 18 (gi σ 27 (nI j)))))).toInt64))) 28 2 ((gl (f_X2_takeOut σ (gi σ 18 (gi σ 27 (nI j))) (mn (f_X4_wanted σ (gi σ 27 (nI j))) (gi σ 10 (gi σ 18 (gi σ 27 (nI j)))))).2 28 2) + (((mn (f_X4_wanted σ (gi σ 27 (nI j))) (gi σ 10 (gi σ 18 (gi σ 27 (nI j)))))).toInt64))) 99)) (j := j))) ?_
    have hQ : f_X5_pumpWell σ j = (f_X4_shutYounger (f_X5_note (sl (sl (si (f_X2_takeOut σ (gi σ 18 (gi σ 27 (nI j))) (mn (f_X4_wanted σ (gi σ 27 (nI j))) (gi σ 10 (gi σ 18 (gi σ 27 (nI j)))))).2 22 (gi σ 27 (nI j)) ((gi (f_X2_takeOut σ (gi σ 18 (gi σ 27 (nI j))) (mn (f_X4_wanted σ (gi σ 27 (nI j))) (gi σ 10 (gi σ 18 (gi σ 27 (nI j)))))).2 22 (gi σ 27 (nI j))) + (mn (f_X4_wanted σ (gi σ 27 (nI j))) (gi σ 10 (gi σ 18 (gi σ 27 (nI j))))))) 23 (gi σ 27 (nI j)) ((gl (f_X2_takeOut σ (gi σ 18 (gi σ 27 (nI j))) (mn (f_X4_wanted σ (gi σ 27 (nI j))) (gi σ 10 (gi σ 18 (gi σ 27 (nI j)))))).2 23 (gi σ 27 (nI j))) + (((mn (f_X4_wanted σ (gi σ 27 (nI j))) (gi σ 10 (gi σ 18 (gi σ 27 (nI j)))))).toInt64))) 28 2 ((gl (f_X2_takeOut σ (gi σ 18 (gi σ 27 (nI j))) (mn (f_X4_wanted σ (gi σ 27 (nI j))) (gi σ 10 (gi σ 18 (gi σ 27 (nI j)))))).2 28 2) + (((mn (f_X4_wanted σ (gi σ 27 (nI j))) (gi σ 10 (gi σ 18 (gi σ 27 (nI j)))))).toInt64))) 99) j) := by
      unfold f_X5_pumpWell; rw [if_neg c1]
    have hq := nt_c (EK.kp (KP_X4_shutYounger (σ := (f_X5_note (sl (sl (si (f_X2_takeOut σ (gi σ 18 (gi σ 27 (nI j))) (mn (f_X4_wanted σ (gi σ 27 (nI j))) (gi σ 10 (gi σ 18 (gi σ 27 (nI j)))))).2 22 (gi σ 27 (nI j)) ((gi (f_X2_takeOut σ (gi σ 18 (gi σ 27 (nI j))) (mn (f_X4_wanted σ (gi σ 27 (nI j))) (gi σ 10 (gi σ 18 (gi σ 27 (nI j)))))).2 22 (gi σ 27 (nI j))) + (mn (f_X4_wanted σ (gi σ 27 (nI j))) (gi σ 10 (gi σ 18 (gi σ 27 (nI j))))))) 23 (gi σ 27 (nI j)) ((gl (f_X2_takeOut σ (gi σ 18 (gi σ 27 (nI j))) (mn (f_X4_wanted σ (gi σ 27 (nI j))) (gi σ 10 (gi σ 18 (gi σ 27 (nI j)))))).2 23 (gi σ 27 (nI j))) + (((mn (f_X4_wanted σ (gi σ 27 (nI j))) (gi σ 10 (gi σ 18 (gi σ 27 (nI j)))))).toInt64))) 28 2 ((gl (f_X2_takeOut σ (gi σ 18 (gi σ 27 (nI j))) (mn (f_X4_wanted σ (gi σ 27 (nI j))) (gi σ 10 (gi σ 18 (gi σ 27 (nI j)))))).2 28 2) + (((mn (f_X4_wanted σ (gi σ 27 (nI j))) (gi σ 10 (gi σ 18 (gi σ 27 (nI j)))))).toInt64))) 99)) (j := j)) (EK.tr (EK_X5_note (σ := (sl (sl (si (f_X2_takeOut σ (gi σ 18 (gi σ 27 (nI j))) (mn (f_X4_wanted σ (gi σ 27 (nI j))) (gi σ 10 (gi σ 18 (gi σ 27 (nI j)))))).2 22 (gi σ 27 (nI j)) ((gi (f_X2_takeOut σ (gi σ 18 (gi σ 27 (nI j))) (mn (f_X4_wanted σ (gi σ 27 (nI j))) (gi σ 10 (gi σ 18 (gi σ 27 (nI j)))))).2 22 (gi σ 27 (nI j))) + (mn (f_X4_wanted σ (gi σ 27 (nI j))) (gi σ 10 (gi σ 18 (gi σ 27 (nI j))))))) 23 (gi σ 27 (nI j)) ((gl (f_X2_takeOut σ (gi σ 18 (gi σ 27 (nI j))) (mn (f_X4_wanted σ (gi σ 27 (nI j))) (gi σ 10 (gi σ 18 (gi σ 27 (nI j)))))).2 23 (gi σ 27 (nI j))) + (((mn (f_X4_wanted σ (gi σ 27 (nI j))) (gi σ 10 (gi σ 18 (gi σ 27 (nI j)))))).toInt64))) 28 2 ((gl (f_X2_takeOut σ (gi σ 18 (gi σ 27 (nI j))) (mn (f_X4_wanted σ (gi σ 27 (nI j))) (gi σ 10 (gi σ 18 (gi σ 27 (nI j)))))).2 28 2) + (((mn (f_X4_wanted σ (gi σ 27 (nI j))) (gi σ 10 (gi σ 18 (gi σ 27 (nI j)))))).toInt64)))) (c := 99) (EK.kp (Kp_sl (τ := (sl (si (f_X2_takeOut σ (gi σ 18 (gi σ 27 (nI j))) (mn (f_X4_wanted σ (gi σ 27 (nI j))) (gi σ 10 (gi σ 18 (gi σ 27 (nI j)))))).2 22 (gi σ 27 (nI j)) ((gi (f_X2_takeOut σ (gi σ 18 (gi σ 27 (nI j))) (mn (f_X4_wanted σ (gi σ 27 (nI j))) (gi σ 10 (gi σ 18 (gi σ 27 (nI j)))))).2 22 (gi σ 27 (nI j))) + (mn (f_X4_wanted σ (gi σ 27 (nI j))) (gi σ 10 (gi σ 18 (gi σ 27 (nI j))))))) 23 (gi σ 27 (nI j)) ((gl (f_X2_takeOut σ (gi σ 18 (gi σ 27 (nI j))) (mn (f_X4_wanted σ (gi σ 27 (nI j))) (gi σ 10 (gi σ 18 (gi σ 27 (nI j)))))).2 23 (gi σ 27 (nI j))) + (((mn (f_X4_wanted σ (gi σ 27 (nI j))) (gi σ 10 (gi σ 18 (gi σ 27 (nI j)))))).toInt64)))) (k := 28) (x := 2) (v := ((gl (f_X2_takeOut σ (gi σ 18 (gi σ 27 (nI j))) (mn (f_X4_wanted σ (gi σ 27 (nI j))) (gi σ 10 (gi σ 18 (gi σ 27 (nI j)))))).2 28 2) + (((mn (f_X4_wanted σ (gi σ 27 (nI j))) (gi σ 10 (gi σ 18 (gi σ 27 (nI j)))))).toInt64))) Kp.rf) (EK.kp (Kp_sl (τ := (si (f_X2_takeOut σ (gi σ 18 (gi σ 27 (nI j))) (mn (f_X4_wanted σ (gi σ 27 (nI j))) (gi σ 10 (gi σ 18 (gi σ 27 (nI j)))))).2 22 (gi σ 27 (nI j)) ((gi (f_X2_takeOut σ (gi σ 18 (gi σ 27 (nI j))) (mn (f_X4_wanted σ (gi σ 27 (nI j))) (gi σ 10 (gi σ 18 (gi σ 27 (nI j)))))).2 22 (gi σ 27 (nI j))) + (mn (f_X4_wanted σ (gi σ 27 (nI j))) (gi σ 10 (gi σ 18 (gi σ 27 (nI j)))))))) (k := 23) (x := (gi σ 27 (nI j))) (v := ((gl (f_X2_takeOut σ (gi σ 18 (gi σ 27 (nI j))) (mn (f_X4_wanted σ (gi σ 27 (nI j))) (gi σ 10 (gi σ 18 (gi σ 27 (nI j)))))).2 23 (gi σ 27 (nI j))) + (((mn (f_X4_wanted σ (gi σ 27 (nI j))) (gi σ 10 (gi σ 18 (gi σ 27 (nI j)))))).toInt64))) Kp.rf) (EK.kp (Kp_si (τ := (f_X2_takeOut σ (gi σ 18 (gi σ 27 (nI j))) (mn (f_X4_wanted σ (gi σ 27 (nI j))) (gi σ 10 (gi σ 18 (gi σ 27 (nI j)))))).2) (k := 22) (x := (gi σ 27 (nI j))) (v := ((gi (f_X2_takeOut σ (gi σ 18 (gi σ 27 (nI j))) (mn (f_X4_wanted σ (gi σ 27 (nI j))) (gi σ 10 (gi σ 18 (gi σ 27 (nI j)))))).2 22 (gi σ 27 (nI j))) + (mn (f_X4_wanted σ (gi σ 27 (nI j))) (gi σ 10 (gi σ 18 (gi σ 27 (nI j))))))) Kp.rf (by decide)) (EK.kp (KP_X2_takeOut (σ := σ) (x := (gi σ 18 (gi σ 27 (nI j)))) (y := (mn (f_X4_wanted σ (gi σ 27 (nI j))) (gi σ 10 (gi σ 18 (gi σ 27 (nI j))))))) (EK.rf hE))))).1 (by have := (EK.kp (Kp_sl (τ := (sl (si (f_X2_takeOut σ (gi σ 18 (gi σ 27 (nI j))) (mn (f_X4_wanted σ (gi σ 27 (nI j))) (gi σ 10 (gi σ 18 (gi σ 27 (nI j)))))).2 22 (gi σ 27 (nI j)) ((gi (f_X2_takeOut σ (gi σ 18 (gi σ 27 (nI j))) (mn (f_X4_wanted σ (gi σ 27 (nI j))) (gi σ 10 (gi σ 18 (gi σ 27 (nI j)))))).2 22 (gi σ 27 (nI j))) + (mn (f_X4_wanted σ (gi σ 27 (nI j))) (gi σ 10 (gi σ 18 (gi σ 27 (nI j))))))) 23 (gi σ 27 (nI j)) ((gl (f_X2_takeOut σ (gi σ 18 (gi σ 27 (nI j))) (mn (f_X4_wanted σ (gi σ 27 (nI j))) (gi σ 10 (gi σ 18 (gi σ 27 (nI j)))))).2 23 (gi σ 27 (nI j))) + (((mn (f_X4_wanted σ (gi σ 27 (nI j))) (gi σ 10 (gi σ 18 (gi σ 27 (nI j)))))).toInt64)))) (k := 28) (x := 2) (v := ((gl (f_X2_takeOut σ (gi σ 18 (gi σ 27 (nI j))) (mn (f_X4_wanted σ (gi σ 27 (nI j))) (gi σ 10 (gi σ 18 (gi σ 27 (nI j)))))).2 28 2) + (((mn (f_X4_wanted σ (gi σ 27 (nI j))) (gi σ 10 (gi σ 18 (gi σ 27 (nI j)))))).toInt64))) Kp.rf) (EK.kp (Kp_sl (τ := (si (f_X2_takeOut σ (gi σ 18 (gi σ 27 (nI j))) (mn (f_X4_wanted σ (gi σ 27 (nI j))) (gi σ 10 (gi σ 18 (gi σ 27 (nI j)))))).2 22 (gi σ 27 (nI j)) ((gi (f_X2_takeOut σ (gi σ 18 (gi σ 27 (nI j))) (mn (f_X4_wanted σ (gi σ 27 (nI j))) (gi σ 10 (gi σ 18 (gi σ 27 (nI j)))))).2 22 (gi σ 27 (nI j))) + (mn (f_X4_wanted σ (gi σ 27 (nI j))) (gi σ 10 (gi σ 18 (gi σ 27 (nI j)))))))) (k := 23) (x := (gi σ 27 (nI j))) (v := ((gl (f_X2_takeOut σ (gi σ 18 (gi σ 27 (nI j))) (mn (f_X4_wanted σ (gi σ 27 (nI j))) (gi σ 10 (gi σ 18 (gi σ 27 (nI j)))))).2 23 (gi σ 27 (nI j))) + (((mn (f_X4_wanted σ (gi σ 27 (nI j))) (gi σ 10 (gi σ 18 (gi σ 27 (nI j)))))).toInt64))) Kp.rf) (EK.kp (Kp_si (τ := (f_X2_takeOut σ (gi σ 18 (gi σ 27 (nI j))) (mn (f_X4_wanted σ (gi σ 27 (nI j))) (gi σ 10 (gi σ 18 (gi σ 27 (nI j)))))).2) (k := 22) (x := (gi σ 27 (nI j))) (v := ((gi (f_X2_takeOut σ (gi σ 18 (gi σ 27 (nI j))) (mn (f_X4_wanted σ (gi σ 27 (nI j))) (gi σ 10 (gi σ 18 (gi σ 27 (nI j)))))).2 22 (gi σ 27 (nI j))) + (mn (f_X4_wanted σ (gi σ 27 (nI j))) (gi σ 10 (gi σ 18 (gi σ 27 (nI j))))))) Kp.rf (by decide)) (EK.kp (KP_X2_takeOut (σ := σ) (x := (gi σ 18 (gi σ 27 (nI j)))) (y := (mn (f_X4_wanted σ (gi σ 27 (nI j))) (gi σ 10 (gi σ 18 (gi σ 27 (nI j))))))) (EK.rf hE))))).2.2.1; omega) lc99) (EK.kp (Kp_sl (τ := (sl (si (f_X2_takeOut σ (gi σ 18 (gi σ 27 (nI j))) (mn (f_X4_wanted σ (gi σ 27 (nI j))) (gi σ 10 (gi σ 18 (gi σ 27 (nI j)))))).2 22 (gi σ 27 (nI j)) ((gi (f_X2_takeOut σ (gi σ 18 (gi σ 27 (nI j))) (mn (f_X4_wanted σ (gi σ 27 (nI j))) (gi σ 10 (gi σ 18 (gi σ 27 (nI j)))))).2 22 (gi σ 27 (nI j))) + (mn (f_X4_wanted σ (gi σ 27 (nI j))) (gi σ 10 (gi σ 18 (gi σ 27 (nI j))))))) 23 (gi σ 27 (nI j)) ((gl (f_X2_takeOut σ (gi σ 18 (gi σ 27 (nI j))) (mn (f_X4_wanted σ (gi σ 27 (nI j))) (gi σ 10 (gi σ 18 (gi σ 27 (nI j)))))).2 23 (gi σ 27 (nI j))) + (((mn (f_X4_wanted σ (gi σ 27 (nI j))) (gi σ 10 (gi σ 18 (gi σ 27 (nI j)))))).toInt64)))) (k := 28) (x := 2) (v := ((gl (f_X2_takeOut σ (gi σ 18 (gi σ 27 (nI j))) (mn (f_X4_wanted σ (gi σ 27 (nI j))) (gi σ 10 (gi σ 18 (gi σ 27 (nI j)))))).2 28 2) + (((mn (f_X4_wanted σ (gi σ 27 (nI j))) (gi σ 10 (gi σ 18 (gi σ 27 (nI j)))))).toInt64))) Kp.rf) (EK.kp (Kp_sl (τ := (si (f_X2_takeOut σ (gi σ 18 (gi σ 27 (nI j))) (mn (f_X4_wanted σ (gi σ 27 (nI j))) (gi σ 10 (gi σ 18 (gi σ 27 (nI j)))))).2 22 (gi σ 27 (nI j)) ((gi (f_X2_takeOut σ (gi σ 18 (gi σ 27 (nI j))) (mn (f_X4_wanted σ (gi σ 27 (nI j))) (gi σ 10 (gi σ 18 (gi σ 27 (nI j)))))).2 22 (gi σ 27 (nI j))) + (mn (f_X4_wanted σ (gi σ 27 (nI j))) (gi σ 10 (gi σ 18 (gi σ 27 (nI j)))))))) (k := 23) (x := (gi σ 27 (nI j))) (v := ((gl (f_X2_takeOut σ (gi σ 18 (gi σ 27 (nI j))) (mn (f_X4_wanted σ (gi σ 27 (nI j))) (gi σ 10 (gi σ 18 (gi σ 27 (nI j)))))).2 23 (gi σ 27 (nI j))) + (((mn (f_X4_wanted σ (gi σ 27 (nI j))) (gi σ 10 (gi σ 18 (gi σ 27 (nI j)))))).toInt64))) Kp.rf) (EK.kp (Kp_si (τ := (f_X2_takeOut σ (gi σ 18 (gi σ 27 (nI j))) (mn (f_X4_wanted σ (gi σ 27 (nI j))) (gi σ 10 (gi σ 18 (gi σ 27 (nI j)))))).2) (k := 22) (x := (gi σ 27 (nI j))) (v := ((gi (f_X2_takeOut σ (gi σ 18 (gi σ 27 (nI j))) (mn (f_X4_wanted σ (gi σ 27 (nI j))) (gi σ 10 (gi σ 18 (gi σ 27 (nI j)))))).2 22 (gi σ 27 (nI j))) + (mn (f_X4_wanted σ (gi σ 27 (nI j))) (gi σ 10 (gi σ 18 (gi σ 27 (nI j))))))) Kp.rf (by decide)) (EK.kp (KP_X2_takeOut (σ := σ) (x := (gi σ 18 (gi σ 27 (nI j)))) (y := (mn (f_X4_wanted σ (gi σ 27 (nI j))) (gi σ 10 (gi σ 18 (gi σ 27 (nI j))))))) (EK.rf hE))))))).1 (by have := (EK.kp (KP_X4_shutYounger (σ := (f_X5_note (sl (sl (si (f_X2_takeOut σ (gi σ 18 (gi σ 27 (nI j))) (mn (f_X4_wanted σ (gi σ 27 (nI j))) (gi σ 10 (gi σ 18 (gi σ 27 (nI j)))))).2 22 (gi σ 27 (nI j)) ((gi (f_X2_takeOut σ (gi σ 18 (gi σ 27 (nI j))) (mn (f_X4_wanted σ (gi σ 27 (nI j))) (gi σ 10 (gi σ 18 (gi σ 27 (nI j)))))).2 22 (gi σ 27 (nI j))) + (mn (f_X4_wanted σ (gi σ 27 (nI j))) (gi σ 10 (gi σ 18 (gi σ 27 (nI j))))))) 23 (gi σ 27 (nI j)) ((gl (f_X2_takeOut σ (gi σ 18 (gi σ 27 (nI j))) (mn (f_X4_wanted σ (gi σ 27 (nI j))) (gi σ 10 (gi σ 18 (gi σ 27 (nI j)))))).2 23 (gi σ 27 (nI j))) + (((mn (f_X4_wanted σ (gi σ 27 (nI j))) (gi σ 10 (gi σ 18 (gi σ 27 (nI j)))))).toInt64))) 28 2 ((gl (f_X2_takeOut σ (gi σ 18 (gi σ 27 (nI j))) (mn (f_X4_wanted σ (gi σ 27 (nI j))) (gi σ 10 (gi σ 18 (gi σ 27 (nI j)))))).2 28 2) + (((mn (f_X4_wanted σ (gi σ 27 (nI j))) (gi σ 10 (gi σ 18 (gi σ 27 (nI j)))))).toInt64))) 99)) (j := j)) (EK.tr (EK_X5_note (σ := (sl (sl (si (f_X2_takeOut σ (gi σ 18 (gi σ 27 (nI j))) (mn (f_X4_wanted σ (gi σ 27 (nI j))) (gi σ 10 (gi σ 18 (gi σ 27 (nI j)))))).2 22 (gi σ 27 (nI j)) ((gi (f_X2_takeOut σ (gi σ 18 (gi σ 27 (nI j))) (mn (f_X4_wanted σ (gi σ 27 (nI j))) (gi σ 10 (gi σ 18 (gi σ 27 (nI j)))))).2 22 (gi σ 27 (nI j))) + (mn (f_X4_wanted σ (gi σ 27 (nI j))) (gi σ 10 (gi σ 18 (gi σ 27 (nI j))))))) 23 (gi σ 27 (nI j)) ((gl (f_X2_takeOut σ (gi σ 18 (gi σ 27 (nI j))) (mn (f_X4_wanted σ (gi σ 27 (nI j))) (gi σ 10 (gi σ 18 (gi σ 27 (nI j)))))).2 23 (gi σ 27 (nI j))) + (((mn (f_X4_wanted σ (gi σ 27 (nI j))) (gi σ 10 (gi σ 18 (gi σ 27 (nI j)))))).toInt64))) 28 2 ((gl (f_X2_takeOut σ (gi σ 18 (gi σ 27 (nI j))) (mn (f_X4_wanted σ (gi σ 27 (nI j))) (gi σ 10 (gi σ 18 (gi σ 27 (nI j)))))).2 28 2) + (((mn (f_X4_wanted σ (gi σ 27 (nI j))) (gi σ 10 (gi σ 18 (gi σ 27 (nI j)))))).toInt64)))) (c := 99) (EK.kp (Kp_sl (τ := (sl (si (f_X2_takeOut σ (gi σ 18 (gi σ 27 (nI j))) (mn (f_X4_wanted σ (gi σ 27 (nI j))) (gi σ 10 (gi σ 18 (gi σ 27 (nI j)))))).2 22 (gi σ 27 (nI j)) ((gi (f_X2_takeOut σ (gi σ 18 (gi σ 27 (nI j))) (mn (f_X4_wanted σ (gi σ 27 (nI j))) (gi σ 10 (gi σ 18 (gi σ 27 (nI j)))))).2 22 (gi σ 27 (nI j))) + (mn (f_X4_wanted σ (gi σ 27 (nI j))) (gi σ 10 (gi σ 18 (gi σ 27 (nI j))))))) 23 (gi σ 27 (nI j)) ((gl (f_X2_takeOut σ (gi σ 18 (gi σ 27 (nI j))) (mn (f_X4_wanted σ (gi σ 27 (nI j))) (gi σ 10 (gi σ 18 (gi σ 27 (nI j)))))).2 23 (gi σ 27 (nI j))) + (((mn (f_X4_wanted σ (gi σ 27 (nI j))) (gi σ 10 (gi σ 18 (gi σ 27 (nI j)))))).toInt64)))) (k := 28) (x := 2) (v := ((gl (f_X2_takeOut σ (gi σ 18 (gi σ 27 (nI j))) (mn (f_X4_wanted σ (gi σ 27 (nI j))) (gi σ 10 (gi σ 18 (gi σ 27 (nI j)))))).2 28 2) + (((mn (f_X4_wanted σ (gi σ 27 (nI j))) (gi σ 10 (gi σ 18 (gi σ 27 (nI j)))))).toInt64))) Kp.rf) (EK.kp (Kp_sl (τ := (si (f_X2_takeOut σ (gi σ 18 (gi σ 27 (nI j))) (mn (f_X4_wanted σ (gi σ 27 (nI j))) (gi σ 10 (gi σ 18 (gi σ 27 (nI j)))))).2 22 (gi σ 27 (nI j)) ((gi (f_X2_takeOut σ (gi σ 18 (gi σ 27 (nI j))) (mn (f_X4_wanted σ (gi σ 27 (nI j))) (gi σ 10 (gi σ 18 (gi σ 27 (nI j)))))).2 22 (gi σ 27 (nI j))) + (mn (f_X4_wanted σ (gi σ 27 (nI j))) (gi σ 10 (gi σ 18 (gi σ 27 (nI j)))))))) (k := 23) (x := (gi σ 27 (nI j))) (v := ((gl (f_X2_takeOut σ (gi σ 18 (gi σ 27 (nI j))) (mn (f_X4_wanted σ (gi σ 27 (nI j))) (gi σ 10 (gi σ 18 (gi σ 27 (nI j)))))).2 23 (gi σ 27 (nI j))) + (((mn (f_X4_wanted σ (gi σ 27 (nI j))) (gi σ 10 (gi σ 18 (gi σ 27 (nI j)))))).toInt64))) Kp.rf) (EK.kp (Kp_si (τ := (f_X2_takeOut σ (gi σ 18 (gi σ 27 (nI j))) (mn (f_X4_wanted σ (gi σ 27 (nI j))) (gi σ 10 (gi σ 18 (gi σ 27 (nI j)))))).2) (k := 22) (x := (gi σ 27 (nI j))) (v := ((gi (f_X2_takeOut σ (gi σ 18 (gi σ 27 (nI j))) (mn (f_X4_wanted σ (gi σ 27 (nI j))) (gi σ 10 (gi σ 18 (gi σ 27 (nI j)))))).2 22 (gi σ 27 (nI j))) + (mn (f_X4_wanted σ (gi σ 27 (nI j))) (gi σ 10 (gi σ 18 (gi σ 27 (nI j))))))) Kp.rf (by decide)) (EK.kp (KP_X2_takeOut (σ := σ) (x := (gi σ 18 (gi σ 27 (nI j)))) (y := (mn (f_X4_wanted σ (gi σ 27 (nI j))) (gi σ 10 (gi σ 18 (gi σ 27 (nI j))))))) (EK.rf hE))))).1 (by have := (EK.kp (Kp_sl (τ := (sl (si (f_X2_takeOut σ (gi σ 18 (gi σ 27 (nI j))) (mn (f_X4_wanted σ (gi σ 27 (nI j))) (gi σ 10 (gi σ 18 (gi σ 27 (nI j)))))).2 22 (gi σ 27 (nI j)) ((gi (f_X2_takeOut σ (gi σ 18 (gi σ 27 (nI j))) (mn (f_X4_wanted σ (gi σ 27 (nI j))) (gi σ 10 (gi σ 18 (gi σ 27 (nI j)))))).2 22 (gi σ 27 (nI j))) + (mn (f_X4_wanted σ (gi σ 27 (nI j))) (gi σ 10 (gi σ 18 (gi σ 27 (nI j))))))) 23 (gi σ 27 (nI j)) ((gl (f_X2_takeOut σ (gi σ 18 (gi σ 27 (nI j))) (mn (f_X4_wanted σ (gi σ 27 (nI j))) (gi σ 10 (gi σ 18 (gi σ 27 (nI j)))))).2 23 (gi σ 27 (nI j))) + (((mn (f_X4_wanted σ (gi σ 27 (nI j))) (gi σ 10 (gi σ 18 (gi σ 27 (nI j)))))).toInt64)))) (k := 28) (x := 2) (v := ((gl (f_X2_takeOut σ (gi σ 18 (gi σ 27 (nI j))) (mn (f_X4_wanted σ (gi σ 27 (nI j))) (gi σ 10 (gi σ 18 (gi σ 27 (nI j)))))).2 28 2) + (((mn (f_X4_wanted σ (gi σ 27 (nI j))) (gi σ 10 (gi σ 18 (gi σ 27 (nI j)))))).toInt64))) Kp.rf) (EK.kp (Kp_sl (τ := (si (f_X2_takeOut σ (gi σ 18 (gi σ 27 (nI j))) (mn (f_X4_wanted σ (gi σ 27 (nI j))) (gi σ 10 (gi σ 18 (gi σ 27 (nI j)))))).2 22 (gi σ 27 (nI j)) ((gi (f_X2_takeOut σ (gi σ 18 (gi σ 27 (nI j))) (mn (f_X4_wanted σ (gi σ 27 (nI j))) (gi σ 10 (gi σ 18 (gi σ 27 (nI j)))))).2 22 (gi σ 27 (nI j))) + (mn (f_X4_wanted σ (gi σ 27 (nI j))) (gi σ 10 (gi σ 18 (gi σ 27 (nI j)))))))) (k := 23) (x := (gi σ 27 (nI j))) (v := ((gl (f_X2_takeOut σ (gi σ 18 (gi σ 27 (nI j))) (mn (f_X4_wanted σ (gi σ 27 (nI j))) (gi σ 10 (gi σ 18 (gi σ 27 (nI j)))))).2 23 (gi σ 27 (nI j))) + (((mn (f_X4_wanted σ (gi σ 27 (nI j))) (gi σ 10 (gi σ 18 (gi σ 27 (nI j)))))).toInt64))) Kp.rf) (EK.kp (Kp_si (τ := (f_X2_takeOut σ (gi σ 18 (gi σ 27 (nI j))) (mn (f_X4_wanted σ (gi σ 27 (nI j))) (gi σ 10 (gi σ 18 (gi σ 27 (nI j)))))).2) (k := 22) (x := (gi σ 27 (nI j))) (v := ((gi (f_X2_takeOut σ (gi σ 18 (gi σ 27 (nI j))) (mn (f_X4_wanted σ (gi σ 27 (nI j))) (gi σ 10 (gi σ 18 (gi σ 27 (nI j)))))).2 22 (gi σ 27 (nI j))) + (mn (f_X4_wanted σ (gi σ 27 (nI j))) (gi σ 10 (gi σ 18 (gi σ 27 (nI j))))))) Kp.rf (by decide)) (EK.kp (KP_X2_takeOut (σ := σ) (x := (gi σ 18 (gi σ 27 (nI j)))) (y := (mn (f_X4_wanted σ (gi σ 27 (nI j))) (gi σ 10 (gi σ 18 (gi σ 27 (nI j))))))) (EK.rf hE))))).2.2.1; omega) lc99) (EK.kp (Kp_sl (τ := (sl (si (f_X2_takeOut σ (gi σ 18 (gi σ 27 (nI j))) (mn (f_X4_wanted σ (gi σ 27 (nI j))) (gi σ 10 (gi σ 18 (gi σ 27 (nI j)))))).2 22 (gi σ 27 (nI j)) ((gi (f_X2_takeOut σ (gi σ 18 (gi σ 27 (nI j))) (mn (f_X4_wanted σ (gi σ 27 (nI j))) (gi σ 10 (gi σ 18 (gi σ 27 (nI j)))))).2 22 (gi σ 27 (nI j))) + (mn (f_X4_wanted σ (gi σ 27 (nI j))) (gi σ 10 (gi σ 18 (gi σ 27 (nI j))))))) 23 (gi σ 27 (nI j)) ((gl (f_X2_takeOut σ (gi σ 18 (gi σ 27 (nI j))) (mn (f_X4_wanted σ (gi σ 27 (nI j))) (gi σ 10 (gi σ 18 (gi σ 27 (nI j)))))).2 23 (gi σ 27 (nI j))) + (((mn (f_X4_wanted σ (gi σ 27 (nI j))) (gi σ 10 (gi σ 18 (gi σ 27 (nI j)))))).toInt64)))) (k := 28) (x := 2) (v := ((gl (f_X2_takeOut σ (gi σ 18 (gi σ 27 (nI j))) (mn (f_X4_wanted σ (gi σ 27 (nI j))) (gi σ 10 (gi σ 18 (gi σ 27 (nI j)))))).2 28 2) + (((mn (f_X4_wanted σ (gi σ 27 (nI j))) (gi σ 10 (gi σ 18 (gi σ 27 (nI j)))))).toInt64))) Kp.rf) (EK.kp (Kp_sl (τ := (si (f_X2_takeOut σ (gi σ 18 (gi σ 27 (nI j))) (mn (f_X4_wanted σ (gi σ 27 (nI j))) (gi σ 10 (gi σ 18 (gi σ 27 (nI j)))))).2 22 (gi σ 27 (nI j)) ((gi (f_X2_takeOut σ (gi σ 18 (gi σ 27 (nI j))) (mn (f_X4_wanted σ (gi σ 27 (nI j))) (gi σ 10 (gi σ 18 (gi σ 27 (nI j)))))).2 22 (gi σ 27 (nI j))) + (mn (f_X4_wanted σ (gi σ 27 (nI j))) (gi σ 10 (gi σ 18 (gi σ 27 (nI j)))))))) (k := 23) (x := (gi σ 27 (nI j))) (v := ((gl (f_X2_takeOut σ (gi σ 18 (gi σ 27 (nI j))) (mn (f_X4_wanted σ (gi σ 27 (nI j))) (gi σ 10 (gi σ 18 (gi σ 27 (nI j)))))).2 23 (gi σ 27 (nI j))) + (((mn (f_X4_wanted σ (gi σ 27 (nI j))) (gi σ 10 (gi σ 18 (gi σ 27 (nI j)))))).toInt64))) Kp.rf) (EK.kp (Kp_si (τ := (f_X2_takeOut σ (gi σ 18 (gi σ 27 (nI j))) (mn (f_X4_wanted σ (gi σ 27 (nI j))) (gi σ 10 (gi σ 18 (gi σ 27 (nI j)))))).2) (k := 22) (x := (gi σ 27 (nI j))) (v := ((gi (f_X2_takeOut σ (gi σ 18 (gi σ 27 (nI j))) (mn (f_X4_wanted σ (gi σ 27 (nI j))) (gi σ 10 (gi σ 18 (gi σ 27 (nI j)))))).2 22 (gi σ 27 (nI j))) + (mn (f_X4_wanted σ (gi σ 27 (nI j))) (gi σ 10 (gi σ 18 (gi σ 27 (nI j))))))) Kp.rf (by decide)) (EK.kp (KP_X2_takeOut (σ := σ) (x := (gi σ 18 (gi σ 27 (nI j)))) (y := (mn (f_X4_wanted σ (gi σ 27 (nI j))) (gi σ 10 (gi σ 18 (gi σ 27 (nI j))))))) (EK.rf hE))))))).2.2.1; omega)
    exact x_vret ((f_X4_shutYounger (f_X5_note (sl (sl (si (f_X2_takeOut σ (gi σ 18 (gi σ 27 (nI j))) (mn (f_X4_wanted σ (gi σ 27 (nI j))) (gi σ 10 (gi σ 18 (gi σ 27 (nI j)))))).2 22 (gi σ 27 (nI j)) ((gi (f_X2_takeOut σ (gi σ 18 (gi σ 27 (nI j))) (mn (f_X4_wanted σ (gi σ 27 (nI j))) (gi σ 10 (gi σ 18 (gi σ 27 (nI j)))))).2 22 (gi σ 27 (nI j))) + (mn (f_X4_wanted σ (gi σ 27 (nI j))) (gi σ 10 (gi σ 18 (gi σ 27 (nI j))))))) 23 (gi σ 27 (nI j)) ((gl (f_X2_takeOut σ (gi σ 18 (gi σ 27 (nI j))) (mn (f_X4_wanted σ (gi σ 27 (nI j))) (gi σ 10 (gi σ 18 (gi σ 27 (nI j)))))).2 23 (gi σ 27 (nI j))) + (((mn (f_X4_wanted σ (gi σ 27 (nI j))) (gi σ 10 (gi σ 18 (gi σ 27 (nI j)))))).toInt64))) 28 2 ((gl (f_X2_takeOut σ (gi σ 18 (gi σ 27 (nI j))) (mn (f_X4_wanted σ (gi σ 27 (nI j))) (gi σ 10 (gi σ 18 (gi σ 27 (nI j)))))).2 28 2) + (((mn (f_X4_wanted σ (gi σ 27 (nI j))) (gi σ 10 (gi σ 18 (gi σ 27 (nI j)))))).toInt64))) 99) j), ea_2) S hr hlk hsz htt hK E dX5_pumpWell_122 hQ.symm rfl ⟨Nat.le_refl _, Nat.le_refl _⟩ ⟨by show eg (f_X4_shutYounger (f_X5_note (sl (sl (si (f_X2_takeOut σ (gi σ 18 (gi σ 27 (nI j))) (mn (f_X4_wanted σ (gi σ 27 (nI j))) (gi σ 10 (gi σ 18 (gi σ 27 (nI j)))))).2 22 (gi σ 27 (nI j)) ((gi (f_X2_takeOut σ (gi σ 18 (gi σ 27 (nI j))) (mn (f_X4_wanted σ (gi σ 27 (nI j))) (gi σ 10 (gi σ 18 (gi σ 27 (nI j)))))).2 22 (gi σ 27 (nI j))) + (mn (f_X4_wanted σ (gi σ 27 (nI j))) (gi σ 10 (gi σ 18 (gi σ 27 (nI j))))))) 23 (gi σ 27 (nI j)) ((gl (f_X2_takeOut σ (gi σ 18 (gi σ 27 (nI j))) (mn (f_X4_wanted σ (gi σ 27 (nI j))) (gi σ 10 (gi σ 18 (gi σ 27 (nI j)))))).2 23 (gi σ 27 (nI j))) + (((mn (f_X4_wanted σ (gi σ 27 (nI j))) (gi σ 10 (gi σ 18 (gi σ 27 (nI j)))))).toInt64))) 28 2 ((gl (f_X2_takeOut σ (gi σ 18 (gi σ 27 (nI j))) (mn (f_X4_wanted σ (gi σ 27 (nI j))) (gi σ 10 (gi σ 18 (gi σ 27 (nI j)))))).2 28 2) + (((mn (f_X4_wanted σ (gi σ 27 (nI j))) (gi σ 10 (gi σ 18 (gi σ 27 (nI j)))))).toInt64))) 99) j) - eg σ + 0 ≤ 13; omega, by show 2 * ec (f_X4_shutYounger (f_X5_note (sl (sl (si (f_X2_takeOut σ (gi σ 18 (gi σ 27 (nI j))) (mn (f_X4_wanted σ (gi σ 27 (nI j))) (gi σ 10 (gi σ 18 (gi σ 27 (nI j)))))).2 22 (gi σ 27 (nI j)) ((gi (f_X2_takeOut σ (gi σ 18 (gi σ 27 (nI j))) (mn (f_X4_wanted σ (gi σ 27 (nI j))) (gi σ 10 (gi σ 18 (gi σ 27 (nI j)))))).2 22 (gi σ 27 (nI j))) + (mn (f_X4_wanted σ (gi σ 27 (nI j))) (gi σ 10 (gi σ 18 (gi σ 27 (nI j))))))) 23 (gi σ 27 (nI j)) ((gl (f_X2_takeOut σ (gi σ 18 (gi σ 27 (nI j))) (mn (f_X4_wanted σ (gi σ 27 (nI j))) (gi σ 10 (gi σ 18 (gi σ 27 (nI j)))))).2 23 (gi σ 27 (nI j))) + (((mn (f_X4_wanted σ (gi σ 27 (nI j))) (gi σ 10 (gi σ 18 (gi σ 27 (nI j)))))).toInt64))) 28 2 ((gl (f_X2_takeOut σ (gi σ 18 (gi σ 27 (nI j))) (mn (f_X4_wanted σ (gi σ 27 (nI j))) (gi σ 10 (gi σ 18 (gi σ 27 (nI j)))))).2 28 2) + (((mn (f_X4_wanted σ (gi σ 27 (nI j))) (gi σ 10 (gi σ 18 (gi σ 27 (nI j)))))).toInt64))) 99) j) - 2 * ec σ + 0 ≤ 200002; omega⟩

theorem i_sub1 (k : Nat) : nI k + Int32.ofInt (-1) = nI k - 1 := by rw [Int32.sub_eq_add_neg]; rfl
def f_X5_pumpWells_L2  : Nat → Nat → Sg → Sg
  | 0, i, τ => τ
  | k + 1, i, τ => if (gi τ 24 (gi τ 27 (nI i))) = 0 then (f_X5_pumpWells_L2 k (i + 1) (f_X5_pumpWell τ i)) else (f_X5_pumpWells_L2 k (i + 1) τ)
theorem EK_X5_pumpWells_L2 {σ : Sg}  (hE : EvOK σ) (hB : en σ + 6 ≤ 20000) (hW : WF σ) : ∀ (k i : Nat), i + k = cnt σ → ∀ (τ : Sg) , EK (i) τ σ → EK (6) (f_X5_pumpWells_L2 k i τ) σ := by
  intro k
  induction k with
  | zero =>
    intro i hi τ  hk
    have hle := WF.le hW
    rw [f_X5_pumpWells_L2]
    exact EK.up hk (by omega)
  | succ k ih =>
    intro i hi τ  hk
    have hle := WF.le hW
    rw [f_X5_pumpWells_L2]
    split
    · exact ih _ (by omega) _  (EK.up (EK.tr (EK_X5_pumpWell (σ := τ) (j := i) hk.1 (by have := hk.2.2.1; omega) ) hk) (by omega))
    · exact ih _ (by omega) _  (EK.up hk (by omega))
def f_X5_pumpWells (σ : Sg)  : Sg := f_X5_pumpWells_L2 (cnt σ) 0 σ
theorem EK_X5_pumpWells {σ : Sg}  (hE : EvOK σ) (hB : en σ + 6 ≤ 20000) (hW : WF σ) : EK (6) (f_X5_pumpWells σ) σ := by
  unfold f_X5_pumpWells
  exact EK_X5_pumpWells_L2 hE hB hW _ _ (by omega) _  (EK.up (EK.rf hE) (by omega))
set_option maxHeartbeats 4000000 in
set_option maxRecDepth 100000 in
/-- World.pumpWells -/
theorem c_X5_pumpWells (l : Launch) (g : Gm) (ad : Nat → Nat) (lo ke fo : Int32) (ea : Nat) (σ : Sg) (hW : WF σ) (hke : ke = 0 ∨ ke = 1) (hE : EvOK σ) (hB : en σ + 6 ≤ 20000) : MXv l g yX5_pumpWells cX5_pumpWells 2 ({ frames := 8, cells := 25, slots := 300002, locals := 1046 } : Room) [.ref (ad 0)] (wsW g ad lo ke fo ea σ) (fun u : Sg × Nat => u.1 = f_X5_pumpWells σ) (fun u => wsW g ad lo ke fo u.2 u.1) (kxN σ) := by
  intro sz tt
  refine ofX RX5 rfl (by decide +kernel) (Nat.le_of_ble_eq_true rfl) (fun p e s m args below meth c hargs S hml hr hlk hnm hsz htt hK hA hZ E ls hl => ?_)
  have hx := S.1
  have hb := S.2.1
  have hl : lv_has ls 2 [(0, .ref (ad 0))] := hl
  have L2 : ∀ (k i : Nat), i + k = cnt σ → ∀ (τ : Sg) (ea1 : Nat)  (hk : EK (i) τ σ)  (H : Heap) (locs : List Loc), f_X5_pumpWells σ = f_X5_pumpWells_L2 k i τ → Ev g (va_A (wsW g ad lo ke fo ea σ) sz) s.heap H locs (wsW g ad lo ke fo ea1 τ) → ∀ ls : Array Slot, lv_has ls 2 [(0, .ref (ad 0)), (1, .int (nI i))] → W p l e ({ frames := 8, cells := 25, slots := 300002, locals := 1046 } : Room) s m args below meth c H locs (eg τ - eg σ) (2 * ec τ - 2 * ec σ) (MQ below (va_Qv (fun u : Sg × Nat => u.1 = f_X5_pumpWells σ) (AtX g (va_A (wsW g ad lo ke fo ea σ) sz) (fun u => wsW g ad lo ke fo u.2 u.1) (kxN σ) sz tt) (va_A (wsW g ad lo ke fo ea σ) sz)) args s 25 300002 (va_A (wsW g ad lo ke fo ea σ) sz)) (F0 m 2 ls []) := by
    intro k
    induction k with
    | zero =>
      intro i hi τ ea1  hk  H locs hF E ls hl
      have hl : lv_has ls 2 [(0, .ref (ad 0)), (1, .int (nI i))] := hl
      have hcn := EK.cnt hk
      have hle := WF.le hW
      refine lv_iload_n hx hb dX5_pumpWells_2 rfl (lv_at hl 1 rfl) ?_
      refine lv_aload_n hx hb dX5_pumpWells_3 rfl (lv_at hl 0 rfl) ?_
      refine wg_X5_28 (v := .ref (ad 3)) S hK E 0 rfl rfl dX5_pumpWells_4 ?_
      refine wg_X5_188 (v := .int (nI (cnt τ))) S hK E 3 rfl (congrArg (fun z => some (Value.int z)) (WF.n (σ := τ) (EK.wf hk hW))) dX5_pumpWells_7 ?_
      refine lv_icmp_ge (tgt := 44) hx hb dX5_pumpWells_10 (by decide) (fun _ => ?_) (fun c_ => absurd (g_yes rfl rfl (by have := EK.cnt hk; omega) (by have := EK.cnt hk; omega)) c_)
      have hQ : f_X5_pumpWells σ = τ := by
        rw [hF]; rw [f_X5_pumpWells_L2]
      have hq := nt_c hk.1 (by have := hk.2.2.1; omega)
      exact x_vret (τ, ea1) S hr hlk hsz htt hK E dX5_pumpWells_44 hQ.symm rfl ⟨Nat.le_refl _, Nat.le_refl _⟩ ⟨by show eg τ - eg σ + 0 ≤ 25; omega, by show 2 * ec τ - 2 * ec σ + 0 ≤ 300002; omega⟩
    | succ k ih =>
      intro i hi τ ea1  hk  H locs hF E ls hl
      have hl : lv_has ls 2 [(0, .ref (ad 0)), (1, .int (nI i))] := hl
      have hcn := EK.cnt hk
      have hle := WF.le hW
      refine lv_iload_n hx hb dX5_pumpWells_2 rfl (lv_at hl 1 rfl) ?_
      refine lv_aload_n hx hb dX5_pumpWells_3 rfl (lv_at hl 0 rfl) ?_
      refine wg_X5_28 (v := .ref (ad 3)) S hK E 0 rfl rfl dX5_pumpWells_4 ?_
      refine wg_X5_188 (v := .int (nI (cnt τ))) S hK E 3 rfl (congrArg (fun z => some (Value.int z)) (WF.n (σ := τ) (EK.wf hk hW))) dX5_pumpWells_7 ?_
      refine lv_icmp_ge (tgt := 44) hx hb dX5_pumpWells_10 (by decide) (fun c_ => absurd c_ (g_no rfl rfl (by have := EK.cnt hk; omega) (by have := EK.cnt hk; omega))) (fun _ => ?_)
      refine lv_aload_n hx hb dX5_pumpWells_13 rfl (lv_at hl 0 rfl) ?_
      refine wg_X5_28 (v := .ref (ad 3)) S hK E 0 rfl rfl dX5_pumpWells_14 ?_
      refine wg_X5_191 (v := .ref (ad 24)) S hK E 3 rfl rfl dX5_pumpWells_17 ?_
      refine lv_aload_n hx hb dX5_pumpWells_20 rfl (lv_at hl 0 rfl) ?_
      refine wg_X5_28 (v := .ref (ad 3)) S hK E 0 rfl rfl dX5_pumpWells_21 ?_
      refine wg_X5_195 (v := .ref (ad 27)) S hK E 3 rfl rfl dX5_pumpWells_24 ?_
      refine lv_iload_n hx hb dX5_pumpWells_27 rfl (lv_at hl 1 rfl) ?_
      refine w_ild (v := gi τ 27 (nI i)) S hK E 27 0 rfl rfl (vp_in_nI (n := i) (by omega) (by decide)) rfl dX5_pumpWells_28 ?_
      refine w_zld (v := gi τ 24 (gi τ 27 (nI i))) S hK E 24 2 rfl rfl (WF.o (EK.wf hk hW) (vp_in_nI (n := i) (by omega) (by decide))) rfl dX5_pumpWells_29 ?_
      refine lv_if_ne (tgt := 38) hx hb dX5_pumpWells_30 (by decide) (fun c1 => ?_) (fun c1 => ?_)
      · have c1 : ¬ ((gi τ 24 (gi τ 27 (nI i))) = 0) := c1
        refine lv_iinc (v := (nI (i + 1))) (lv' := [(1, .int (nI (i + 1))), (0, .ref (ad 0))]) hx hb dX5_pumpWells_38 hl (k := 1) rfl (nI_1 i) (by decide) rfl (fun ls hl => ?_)
        refine lv_goto (tgt := 2) hx hb dX5_pumpWells_41 (by decide) ?_
        have hF : f_X5_pumpWells σ = f_X5_pumpWells_L2 k (i + 1) τ := by
          rw [hF]; rw [f_X5_pumpWells_L2]; rw [if_neg c1]
        exact ih (i + 1) (by omega) τ ea1  (EK.up hk (by omega))  _ _ hF E ls (lv_sub hl [1, 0] rfl)
      · have c1 : (gi τ 24 (gi τ 27 (nI i))) = 0 := c1
        refine lv_aload_n hx hb dX5_pumpWells_33 rfl (lv_at hl 0 rfl) ?_
        refine lv_iload_n hx hb dX5_pumpWells_34 rfl (lv_at hl 1 rfl) ?_
        have hq := nt_c hk.1 (by have := hk.2.2.1; omega)
        refine w_retv (runV_X (As := [.int (nI i)]) (rest := []) (q0 := 0) (n := 1) S hml hK (hZ.at E) (Cut.full E hA) (c_X5_pumpWell l g ad lo ke fo ea1 τ i (by omega) (EK.wf hk hW) (by have := EK.cnt hk; omega) hke hk.1 (by have := hk.2.2.1; omega) _ _) (gi_wsV ml_X5_198 im_X5_pumpWell sl_X5_pumpWell in_X5 co_X5_pumpWell) ⟨rfl, by decide +kernel, by decide +kernel, by decide +kernel⟩ ⟨Nat.le_of_ble_eq_true rfl, Nat.le_of_ble_eq_true rfl⟩ rfl rfl rfl hl.1 rfl (Nat.le_of_ble_eq_true rfl) dX5_pumpWells_35 ⟨by show eg τ - eg σ + 13 ≤ 25; omega, by show 2 * ec τ - 2 * ec σ + 200002 ≤ 300002; omega⟩) (Cut.full E hA) E (fun u H locs hp E => ?_)
        obtain ⟨u1, ea_2⟩ := u
        have hp : u1 = f_X5_pumpWell τ i := hp
        subst hp
        have E : Ev g _ s.heap H locs (wsW g ad lo ke fo ea_2 (f_X5_pumpWell τ i)) := E
        refine W.widen (k := eg (f_X5_pumpWell τ i) - eg σ) (n := 2 * ec (f_X5_pumpWell τ i) - 2 * ec σ) (by have h1 := hk.2.2.2.1; have h2 := (EK_X5_pumpWell (σ := τ) (j := i) hk.1 (by have := hk.2.2.1; omega) ).2.2.2.1; show eg τ - eg σ + (eg (f_X5_pumpWell τ i) - eg τ) ≤ _; omega) (by have h1 := hk.2.2.2.2.1; have h2 := (EK_X5_pumpWell (σ := τ) (j := i) hk.1 (by have := hk.2.2.1; omega) ).2.2.2.2.1; show 2 * ec τ - 2 * ec σ + (2 * ec (f_X5_pumpWell τ i) - 2 * ec τ) ≤ _; omega) ?_
        refine lv_iinc (v := (nI (i + 1))) (lv' := [(1, .int (nI (i + 1))), (0, .ref (ad 0))]) hx hb dX5_pumpWells_38 hl (k := 1) rfl (nI_1 i) (by decide) rfl (fun ls hl => ?_)
        refine lv_goto (tgt := 2) hx hb dX5_pumpWells_41 (by decide) ?_
        have hF : f_X5_pumpWells σ = f_X5_pumpWells_L2 k (i + 1) (f_X5_pumpWell τ i) := by
          rw [hF]; rw [f_X5_pumpWells_L2]; rw [if_pos c1]
        exact ih (i + 1) (by omega) (f_X5_pumpWell τ i) ea_2  (EK.up (EK.tr (EK_X5_pumpWell (σ := τ) (j := i) hk.1 (by have := hk.2.2.1; omega) ) hk) (by omega))  _ _ hF E ls (lv_sub hl [1, 0] rfl)
  refine W.widen (k := eg σ - eg σ) (n := 2 * ec σ - 2 * ec σ) (Nat.zero_le _) (Nat.zero_le _) ?_
  refine lv_iconst (v := 0) hx hb dX5_pumpWells_0 (by decide) ?_
  refine lv_istore_n (lv' := [(1, .int 0), (0, .ref (ad 0))]) hx hb dX5_pumpWells_1 rfl hl (by decide) rfl (fun ls hl => ?_)
  have hF : f_X5_pumpWells σ = f_X5_pumpWells_L2 (cnt σ) 0 σ := by
    rfl
  exact L2 (cnt σ) 0 (by omega) σ ea  (EK.up (EK.rf hE) (by omega))  _ _ hF E ls (lv_sub hl [1, 0] rfl)

def f_X5_endYear_L2  : Nat → Nat → Sg → Sg
  | 0, i, τ => τ
  | k + 1, i, τ => if ((f_X4_forfeits τ (nI i)).1) = 0 then (f_X5_endYear_L2 k (i + 1) (f_X4_startYear (f_X4_forfeits τ (nI i)).2 (nI i))) else (f_X5_endYear_L2 k (i + 1) (f_X4_startYear (f_X5_note (f_X4_forfeits τ (nI i)).2 102) (nI i)))
theorem EK_X5_endYear_L2 {σ : Sg}  (hE : EvOK σ) (hB : en σ + 6 ≤ 20000) (hW : WF σ) : ∀ (k i : Nat), i + k = cnt σ → ∀ (τ : Sg) , EK (i) τ σ → EK (6) (f_X5_endYear_L2 k i τ) σ := by
  intro k
  induction k with
  | zero =>
    intro i hi τ  hk
    have hle := WF.le hW
    rw [f_X5_endYear_L2]
    exact EK.up hk (by omega)
  | succ k ih =>
    intro i hi τ  hk
    have hle := WF.le hW
    rw [f_X5_endYear_L2]
    split
    · exact ih _ (by omega) _  (EK.up (EK.kp (KP_X4_startYear (σ := (f_X4_forfeits τ (nI i)).2) (x := (nI i))) (EK.kp (KP_X4_forfeits (σ := τ) (x := (nI i))) hk)) (by omega))
    · exact ih _ (by omega) _  (EK.up (EK.kp (KP_X4_startYear (σ := (f_X5_note (f_X4_forfeits τ (nI i)).2 102)) (x := (nI i))) (EK.tr (EK_X5_note (σ := (f_X4_forfeits τ (nI i)).2) (c := 102) (EK.kp (KP_X4_forfeits (σ := τ) (x := (nI i))) hk).1 (by have := (EK.kp (KP_X4_forfeits (σ := τ) (x := (nI i))) hk).2.2.1; omega) lc102) (EK.kp (KP_X4_forfeits (σ := τ) (x := (nI i))) hk))) (by omega))
def f_X5_endYear (σ : Sg)  : Sg := f_X5_endYear_L2 (cnt σ) 0 σ
theorem EK_X5_endYear {σ : Sg}  (hE : EvOK σ) (hB : en σ + 6 ≤ 20000) (hW : WF σ) : EK (6) (f_X5_endYear σ) σ := by
  unfold f_X5_endYear
  exact EK_X5_endYear_L2 hE hB hW _ _ (by omega) _  (EK.up (EK.rf hE) (by omega))
set_option maxHeartbeats 4000000 in
set_option maxRecDepth 100000 in
/-- World.endYear -/
theorem c_X5_endYear (l : Launch) (g : Gm) (ad : Nat → Nat) (lo ke fo : Int32) (ea : Nat) (σ : Sg) (hW : WF σ) (hke : ke = 0 ∨ ke = 1) (hE : EvOK σ) (hB : en σ + 6 ≤ 20000) : MXv l g yX5_endYear cX5_endYear 2 ({ frames := 7, cells := 13, slots := 200002, locals := 1021 } : Room) [.ref (ad 0)] (wsW g ad lo ke fo ea σ) (fun u : Sg × Nat => u.1 = f_X5_endYear σ) (fun u => wsW g ad lo ke fo u.2 u.1) (kxN σ) := by
  intro sz tt
  refine ofX RX5 rfl (by decide +kernel) (Nat.le_of_ble_eq_true rfl) (fun p e s m args below meth c hargs S hml hr hlk hnm hsz htt hK hA hZ E ls hl => ?_)
  have hx := S.1
  have hb := S.2.1
  have hl : lv_has ls 2 [(0, .ref (ad 0))] := hl
  have L2 : ∀ (k i : Nat), i + k = cnt σ → ∀ (τ : Sg) (ea1 : Nat)  (hk : EK (i) τ σ)  (H : Heap) (locs : List Loc), f_X5_endYear σ = f_X5_endYear_L2 k i τ → Ev g (va_A (wsW g ad lo ke fo ea σ) sz) s.heap H locs (wsW g ad lo ke fo ea1 τ) → ∀ ls : Array Slot, lv_has ls 2 [(0, .ref (ad 0)), (1, .int (nI i))] → W p l e ({ frames := 7, cells := 13, slots := 200002, locals := 1021 } : Room) s m args below meth c H locs (eg τ - eg σ) (2 * ec τ - 2 * ec σ) (MQ below (va_Qv (fun u : Sg × Nat => u.1 = f_X5_endYear σ) (AtX g (va_A (wsW g ad lo ke fo ea σ) sz) (fun u => wsW g ad lo ke fo u.2 u.1) (kxN σ) sz tt) (va_A (wsW g ad lo ke fo ea σ) sz)) args s 13 200002 (va_A (wsW g ad lo ke fo ea σ) sz)) (F0 m 2 ls []) := by
    intro k
    induction k with
    | zero =>
      intro i hi τ ea1  hk  H locs hF E ls hl
      have hl : lv_has ls 2 [(0, .ref (ad 0)), (1, .int (nI i))] := hl
      have hcn := EK.cnt hk
      have hle := WF.le hW
      refine lv_iload_n hx hb dX5_endYear_2 rfl (lv_at hl 1 rfl) ?_
      refine lv_aload_n hx hb dX5_endYear_3 rfl (lv_at hl 0 rfl) ?_
      refine wg_X5_28 (v := .ref (ad 3)) S hK E 0 rfl rfl dX5_endYear_4 ?_
      refine wg_X5_188 (v := .int (nI (cnt τ))) S hK E 3 rfl (congrArg (fun z => some (Value.int z)) (WF.n (σ := τ) (EK.wf hk hW))) dX5_endYear_7 ?_
      refine lv_icmp_ge (tgt := 44) hx hb dX5_endYear_10 (by decide) (fun _ => ?_) (fun c_ => absurd (g_yes rfl rfl (by have := EK.cnt hk; omega) (by have := EK.cnt hk; omega)) c_)
      have hQ : f_X5_endYear σ = τ := by
        rw [hF]; rw [f_X5_endYear_L2]
      have hq := nt_c hk.1 (by have := hk.2.2.1; omega)
      exact x_vret (τ, ea1) S hr hlk hsz htt hK E dX5_endYear_44 hQ.symm rfl ⟨Nat.le_refl _, Nat.le_refl _⟩ ⟨by show eg τ - eg σ + 0 ≤ 13; omega, by show 2 * ec τ - 2 * ec σ + 0 ≤ 200002; omega⟩
    | succ k ih =>
      intro i hi τ ea1  hk  H locs hF E ls hl
      have hl : lv_has ls 2 [(0, .ref (ad 0)), (1, .int (nI i))] := hl
      have hcn := EK.cnt hk
      have hle := WF.le hW
      refine lv_iload_n hx hb dX5_endYear_2 rfl (lv_at hl 1 rfl) ?_
      refine lv_aload_n hx hb dX5_endYear_3 rfl (lv_at hl 0 rfl) ?_
      refine wg_X5_28 (v := .ref (ad 3)) S hK E 0 rfl rfl dX5_endYear_4 ?_
      refine wg_X5_188 (v := .int (nI (cnt τ))) S hK E 3 rfl (congrArg (fun z => some (Value.int z)) (WF.n (σ := τ) (EK.wf hk hW))) dX5_endYear_7 ?_
      refine lv_icmp_ge (tgt := 44) hx hb dX5_endYear_10 (by decide) (fun c_ => absurd c_ (g_no rfl rfl (by have := EK.cnt hk; omega) (by have := EK.cnt hk; omega))) (fun _ => ?_)
      refine lv_aload_n hx hb dX5_endYear_13 rfl (lv_at hl 0 rfl) ?_
      refine wg_X5_28 (v := .ref (ad 3)) S hK E 0 rfl rfl dX5_endYear_14 ?_
      refine lv_iload_n hx hb dX5_endYear_17 rfl (lv_at hl 1 rfl) ?_
      have hq := nt_c hk.1 (by have := hk.2.2.1; omega)
      refine w_reti (runV_X (As := [.int (nI i)]) (rest := []) (q0 := 3) (n := 1) S hml hK (hZ.at E) (Cut.full E hA) (c_X4_forfeits l g ad lo ke fo ea1 τ (nI i) (vp_in_nI (n := i) (by omega) (by decide)) _ _) (gi_wsV ml_X5_250 im_X4_forfeits sl_X4_forfeits in_X4 co_X4_forfeits) ⟨rfl, by decide +kernel, by decide +kernel, by decide +kernel⟩ ⟨Nat.le_of_ble_eq_true rfl, Nat.le_of_ble_eq_true rfl⟩ rfl rfl rfl hl.1 rfl (Nat.le_of_ble_eq_true rfl) dX5_endYear_18 ⟨by show eg τ - eg σ + 0 ≤ 13; omega, by show 2 * ec τ - 2 * ec σ + 0 ≤ 200002; omega⟩) (Cut.full E hA) E (fun r u H locs hp E => ?_)
      obtain ⟨rfl, rfl⟩ := hp
      have E : Ev g _ s.heap H locs (wsW g ad lo ke fo ea1 (f_X4_forfeits τ (nI i)).2) := E
      refine W.widen (k := eg (f_X4_forfeits τ (nI i)).2 - eg σ) (n := 2 * ec (f_X4_forfeits τ (nI i)).2 - 2 * ec σ) (Kp_wd1 (KP_X4_forfeits (σ := τ) (x := (nI i)))) (Kp_wd2 (KP_X4_forfeits (σ := τ) (x := (nI i)))) ?_
      refine lv_if_eq (tgt := 30) hx hb dX5_endYear_21 (by decide) (fun c1 => ?_) (fun c1 => ?_)
      · have c1 : ((f_X4_forfeits τ (nI i)).1) = 0 := c1
        refine lv_aload_n hx hb dX5_endYear_30 rfl (lv_at hl 0 rfl) ?_
        refine wg_X5_28 (v := .ref (ad 3)) S hK E 0 rfl rfl dX5_endYear_31 ?_
        refine lv_iload_n hx hb dX5_endYear_34 rfl (lv_at hl 1 rfl) ?_
        have hq := nt_c (EK.kp (KP_X4_forfeits (σ := τ) (x := (nI i))) hk).1 (by have := (EK.kp (KP_X4_forfeits (σ := τ) (x := (nI i))) hk).2.2.1; omega)
        refine w_retv (runV_X (As := [.int (nI i)]) (rest := []) (q0 := 3) (n := 1) S hml hK (hZ.at E) (Cut.full E hA) (c_X4_startYear l g ad lo ke fo ea1 (f_X4_forfeits τ (nI i)).2 (nI i) (vp_in_nI (n := i) (by omega) (by decide)) _ _) (gi_wsV ml_X5_254 im_X4_startYear sl_X4_startYear in_X4 co_X4_startYear) ⟨rfl, by decide +kernel, by decide +kernel, by decide +kernel⟩ ⟨Nat.le_of_ble_eq_true rfl, Nat.le_of_ble_eq_true rfl⟩ rfl rfl rfl hl.1 rfl (Nat.le_of_ble_eq_true rfl) dX5_endYear_35 ⟨by show eg (f_X4_forfeits τ (nI i)).2 - eg σ + 0 ≤ 13; omega, by show 2 * ec (f_X4_forfeits τ (nI i)).2 - 2 * ec σ + 0 ≤ 200002; omega⟩) (Cut.full E hA) E (fun u H locs hp E => ?_)
        subst hp
        have E : Ev g _ s.heap H locs (wsW g ad lo ke fo ea1 (f_X4_startYear (f_X4_forfeits τ (nI i)).2 (nI i))) := E
        refine W.widen (k := eg (f_X4_startYear (f_X4_forfeits τ (nI i)).2 (nI i)) - eg σ) (n := 2 * ec (f_X4_startYear (f_X4_forfeits τ (nI i)).2 (nI i)) - 2 * ec σ) (Kp_wd1 (KP_X4_startYear (σ := (f_X4_forfeits τ (nI i)).2) (x := (nI i)))) (Kp_wd2 (KP_X4_startYear (σ := (f_X4_forfeits τ (nI i)).2) (x := (nI i)))) ?_
        refine lv_iinc (v := (nI (i + 1))) (lv' := [(1, .int (nI (i + 1))), (0, .ref (ad 0))]) hx hb dX5_endYear_38 hl (k := 1) rfl (nI_1 i) (by decide) rfl (fun ls hl => ?_)
        refine lv_goto (tgt := 2) hx hb dX5_endYear_41 (by decide) ?_
        have hF : f_X5_endYear σ = f_X5_endYear_L2 k (i + 1) (f_X4_startYear (f_X4_forfeits τ (nI i)).2 (nI i)) := by
          rw [hF]; rw [f_X5_endYear_L2]; rw [if_pos c1]
        exact ih (i + 1) (by omega) (f_X4_startYear (f_X4_forfeits τ (nI i)).2 (nI i)) ea1  (EK.up (EK.kp (KP_X4_startYear (σ := (f_X4_forfeits τ (nI i)).2) (x := (nI i))) (EK.kp (KP_X4_forfeits (σ := τ) (x := (nI i))) hk)) (by omega))  _ _ hF E ls (lv_sub hl [1, 0] rfl)
      · have c1 : ¬ (((f_X4_forfeits τ (nI i)).1) = 0) := c1
        refine lv_aload_n hx hb dX5_endYear_24 rfl (lv_at hl 0 rfl) ?_
        refine lv_bipush (v := 102) hx hb dX5_endYear_25 (by decide) ?_
        have hq := nt_c (EK.kp (KP_X4_forfeits (σ := τ) (x := (nI i))) hk).1 (by have := (EK.kp (KP_X4_forfeits (σ := τ) (x := (nI i))) hk).2.2.1; omega)
        refine w_retv (runV_X (As := [.int 102]) (rest := []) (q0 := 0) (n := 1) S hml hK (hZ.at E) (Cut.full E hA) (c_X5_note l g ad lo ke fo ea1 (f_X4_forfeits τ (nI i)).2 102 lc102 hke (EK.kp (KP_X4_forfeits (σ := τ) (x := (nI i))) hk).1 (by have := (EK.kp (KP_X4_forfeits (σ := τ) (x := (nI i))) hk).2.2.1; omega) _ _) (gi_wsV ml_X5_222 im_X5_note sl_X5_note in_X5 co_X5_note) ⟨rfl, by decide +kernel, by decide +kernel, by decide +kernel⟩ ⟨Nat.le_of_ble_eq_true rfl, Nat.le_of_ble_eq_true rfl⟩ rfl rfl rfl hl.1 rfl (Nat.le_of_ble_eq_true rfl) dX5_endYear_27 ⟨by show eg (f_X4_forfeits τ (nI i)).2 - eg σ + 1 ≤ 13; omega, by show 2 * ec (f_X4_forfeits τ (nI i)).2 - 2 * ec σ + 100002 ≤ 200002; omega⟩) (Cut.full E hA) E (fun u H locs hp E => ?_)
        obtain ⟨u1, ea_2⟩ := u
        have hp : u1 = f_X5_note (f_X4_forfeits τ (nI i)).2 102 := hp
        subst hp
        have E : Ev g _ s.heap H locs (wsW g ad lo ke fo ea_2 (f_X5_note (f_X4_forfeits τ (nI i)).2 102)) := E
        refine W.widen (k := eg (f_X5_note (f_X4_forfeits τ (nI i)).2 102) - eg σ) (n := 2 * ec (f_X5_note (f_X4_forfeits τ (nI i)).2 102) - 2 * ec σ) (by have h1 := (EK.kp (KP_X4_forfeits (σ := τ) (x := (nI i))) hk).2.2.2.1; have h2 := (EK_X5_note (σ := (f_X4_forfeits τ (nI i)).2) (c := 102) (EK.kp (KP_X4_forfeits (σ := τ) (x := (nI i))) hk).1 (by have := (EK.kp (KP_X4_forfeits (σ := τ) (x := (nI i))) hk).2.2.1; omega) lc102).2.2.2.1; show eg (f_X4_forfeits τ (nI i)).2 - eg σ + (eg (f_X5_note (f_X4_forfeits τ (nI i)).2 102) - eg (f_X4_forfeits τ (nI i)).2) ≤ _; omega) (by have h1 := (EK.kp (KP_X4_forfeits (σ := τ) (x := (nI i))) hk).2.2.2.2.1; have h2 := (EK_X5_note (σ := (f_X4_forfeits τ (nI i)).2) (c := 102) (EK.kp (KP_X4_forfeits (σ := τ) (x := (nI i))) hk).1 (by have := (EK.kp (KP_X4_forfeits (σ := τ) (x := (nI i))) hk).2.2.1; omega) lc102).2.2.2.2.1; show 2 * ec (f_X4_forfeits τ (nI i)).2 - 2 * ec σ + (2 * ec (f_X5_note (f_X4_forfeits τ (nI i)).2 102) - 2 * ec (f_X4_forfeits τ (nI i)).2) ≤ _; omega) ?_
        refine lv_aload_n hx hb dX5_endYear_30 rfl (lv_at hl 0 rfl) ?_
        refine wg_X5_28 (v := .ref (ad 3)) S hK E 0 rfl rfl dX5_endYear_31 ?_
        refine lv_iload_n hx hb dX5_endYear_34 rfl (lv_at hl 1 rfl) ?_
        have hq := nt_c (EK.tr (EK_X5_note (σ := (f_X4_forfeits τ (nI i)).2) (c := 102) (EK.kp (KP_X4_forfeits (σ := τ) (x := (nI i))) hk).1 (by have := (EK.kp (KP_X4_forfeits (σ := τ) (x := (nI i))) hk).2.2.1; omega) lc102) (EK.kp (KP_X4_forfeits (σ := τ) (x := (nI i))) hk)).1 (by have := (EK.tr (EK_X5_note (σ := (f_X4_forfeits τ (nI i)).2) (c := 102) (EK.kp (KP_X4_forfeits (σ := τ) (x := (nI i))) hk).1 (by have := (EK.kp (KP_X4_forfeits (σ := τ) (x := (nI i))) hk).2.2.1; omega) lc102) (EK.kp (KP_X4_forfeits (σ := τ) (x := (nI i))) hk)).2.2.1; omega)
        refine w_retv (runV_X (As := [.int (nI i)]) (rest := []) (q0 := 3) (n := 1) S hml hK (hZ.at E) (Cut.full E hA) (c_X4_startYear l g ad lo ke fo ea_2 (f_X5_note (f_X4_forfeits τ (nI i)).2 102) (nI i) (vp_in_nI (n := i) (by omega) (by decide)) _ _) (gi_wsV ml_X5_254 im_X4_startYear sl_X4_startYear in_X4 co_X4_startYear) ⟨rfl, by decide +kernel, by decide +kernel, by decide +kernel⟩ ⟨Nat.le_of_ble_eq_true rfl, Nat.le_of_ble_eq_true rfl⟩ rfl rfl rfl hl.1 rfl (Nat.le_of_ble_eq_true rfl) dX5_endYear_35 ⟨by show eg (f_X5_note (f_X4_forfeits τ (nI i)).2 102) - eg σ + 0 ≤ 13; omega, by show 2 * ec (f_X5_note (f_X4_forfeits τ (nI i)).2 102) - 2 * ec σ + 0 ≤ 200002; omega⟩) (Cut.full E hA) E (fun u H locs hp E => ?_)
        subst hp
        have E : Ev g _ s.heap H locs (wsW g ad lo ke fo ea_2 (f_X4_startYear (f_X5_note (f_X4_forfeits τ (nI i)).2 102) (nI i))) := E
        refine W.widen (k := eg (f_X4_startYear (f_X5_note (f_X4_forfeits τ (nI i)).2 102) (nI i)) - eg σ) (n := 2 * ec (f_X4_startYear (f_X5_note (f_X4_forfeits τ (nI i)).2 102) (nI i)) - 2 * ec σ) (Kp_wd1 (KP_X4_startYear (σ := (f_X5_note (f_X4_forfeits τ (nI i)).2 102)) (x := (nI i)))) (Kp_wd2 (KP_X4_startYear (σ := (f_X5_note (f_X4_forfeits τ (nI i)).2 102)) (x := (nI i)))) ?_
        refine lv_iinc (v := (nI (i + 1))) (lv' := [(1, .int (nI (i + 1))), (0, .ref (ad 0))]) hx hb dX5_endYear_38 hl (k := 1) rfl (nI_1 i) (by decide) rfl (fun ls hl => ?_)
        refine lv_goto (tgt := 2) hx hb dX5_endYear_41 (by decide) ?_
        have hF : f_X5_endYear σ = f_X5_endYear_L2 k (i + 1) (f_X4_startYear (f_X5_note (f_X4_forfeits τ (nI i)).2 102) (nI i)) := by
          rw [hF]; rw [f_X5_endYear_L2]; rw [if_neg c1]
        exact ih (i + 1) (by omega) (f_X4_startYear (f_X5_note (f_X4_forfeits τ (nI i)).2 102) (nI i)) ea_2  (EK.up (EK.kp (KP_X4_startYear (σ := (f_X5_note (f_X4_forfeits τ (nI i)).2 102)) (x := (nI i))) (EK.tr (EK_X5_note (σ := (f_X4_forfeits τ (nI i)).2) (c := 102) (EK.kp (KP_X4_forfeits (σ := τ) (x := (nI i))) hk).1 (by have := (EK.kp (KP_X4_forfeits (σ := τ) (x := (nI i))) hk).2.2.1; omega) lc102) (EK.kp (KP_X4_forfeits (σ := τ) (x := (nI i))) hk))) (by omega))  _ _ hF E ls (lv_sub hl [1, 0] rfl)
  refine W.widen (k := eg σ - eg σ) (n := 2 * ec σ - 2 * ec σ) (Nat.zero_le _) (Nat.zero_le _) ?_
  refine lv_iconst (v := 0) hx hb dX5_endYear_0 (by decide) ?_
  refine lv_istore_n (lv' := [(1, .int 0), (0, .ref (ad 0))]) hx hb dX5_endYear_1 rfl hl (by decide) rfl (fun ls hl => ?_)
  have hF : f_X5_endYear σ = f_X5_endYear_L2 (cnt σ) 0 σ := by
    rfl
  exact L2 (cnt σ) 0 (by omega) σ ea  (EK.up (EK.rf hE) (by omega))  _ _ hF E ls (lv_sub hl [1, 0] rfl)

def f_X5_letRiverRun_L11  : Nat → Nat → Sg → Int32 → Sg
  | 0, i, τ, y => (sl τ 28 8 ((gl τ 28 8) + ((y).toInt64)))
  | k + 1, i, τ, y => f_X5_letRiverRun_L11 k (i + 1) (f_X5_runThroughBed τ (nI k) y).2 (y + ((f_X5_runThroughBed τ (nI k) y).1))
theorem EK_X5_letRiverRun_L11 {σ : Sg}  (hE : EvOK σ) (hB : en σ + 8 ≤ 20000)  : ∀ (k i : Nat), i + k = 8 → ∀ (τ : Sg) (y : Int32), EK (i) τ σ → EK (8) (f_X5_letRiverRun_L11 k i τ y) σ := by
  intro k
  induction k with
  | zero =>
    intro i hi τ y hk
    rw [f_X5_letRiverRun_L11]
    exact EK.up (EK.kp (Kp_sl (τ := τ) (k := 28) (x := 8) (v := ((gl τ 28 8) + ((y).toInt64))) Kp.rf) hk) (by omega)
  | succ k ih =>
    intro i hi τ y hk
    rw [f_X5_letRiverRun_L11]
    exact ih _ (by omega) _ _ (EK.up (EK.tr (EK_X5_runThroughBed (σ := τ) (x := (nI k)) (y := y) hk.1 (by have := hk.2.2.1; omega) ) hk) (by omega))
def f_X5_letRiverRun (σ : Sg)  : Sg := f_X5_letRiverRun_L11 8 0 σ (gs σ 2)
theorem EK_X5_letRiverRun {σ : Sg}  (hE : EvOK σ) (hB : en σ + 8 ≤ 20000)  : EK (8) (f_X5_letRiverRun σ) σ := by
  unfold f_X5_letRiverRun
  exact EK_X5_letRiverRun_L11 hE hB  _ _ (by omega) _ _ (EK.up (EK.rf hE) (by omega))
set_option maxHeartbeats 4000000 in
set_option maxRecDepth 100000 in
/-- World.letRiverRun -/
theorem c_X5_letRiverRun (l : Launch) (g : Gm) (ad : Nat → Nat) (lo ke fo : Int32) (ea : Nat) (σ : Sg) (hke : ke = 0 ∨ ke = 1) (hE : EvOK σ) (hB : en σ + 8 ≤ 20000) : MXv l g yX5_letRiverRun cX5_letRiverRun 3 ({ frames := 8, cells := 25, slots := 300002, locals := 1045 } : Room) [.ref (ad 0)] (wsW g ad lo ke fo ea σ) (fun u : Sg × Nat => u.1 = f_X5_letRiverRun σ) (fun u => wsW g ad lo ke fo u.2 u.1) (kxN σ) := by
  intro sz tt
  refine ofX RX5 rfl (by decide +kernel) (Nat.le_of_ble_eq_true rfl) (fun p e s m args below meth c hargs S hml hr hlk hnm hsz htt hK hA hZ E ls hl => ?_)
  have hx := S.1
  have hb := S.2.1
  have hl : lv_has ls 3 [(0, .ref (ad 0))] := hl
  have L11 : ∀ (k i : Nat), i + k = 8 → ∀ (τ : Sg) (ea1 : Nat) (y : Int32) (hk : EK (i) τ σ)  (H : Heap) (locs : List Loc), f_X5_letRiverRun σ = f_X5_letRiverRun_L11 k i τ y → Ev g (va_A (wsW g ad lo ke fo ea σ) sz) s.heap H locs (wsW g ad lo ke fo ea1 τ) → ∀ ls : Array Slot, lv_has ls 3 [(0, .ref (ad 0)), (1, .int y), (2, .int (nI k - 1))] → W p l e ({ frames := 8, cells := 25, slots := 300002, locals := 1045 } : Room) s m args below meth c H locs (eg τ - eg σ) (2 * ec τ - 2 * ec σ) (MQ below (va_Qv (fun u : Sg × Nat => u.1 = f_X5_letRiverRun σ) (AtX g (va_A (wsW g ad lo ke fo ea σ) sz) (fun u => wsW g ad lo ke fo u.2 u.1) (kxN σ) sz tt) (va_A (wsW g ad lo ke fo ea σ) sz)) args s 25 300002 (va_A (wsW g ad lo ke fo ea σ) sz)) (F0 m 11 ls []) := by
    intro k
    induction k with
    | zero =>
      intro i hi τ ea1 y hk  H locs hF E ls hl
      have hl : lv_has ls 3 [(0, .ref (ad 0)), (1, .int y), (2, .int (nI 0 - 1))] := hl
      refine lv_iload_n hx hb dX5_letRiverRun_11 rfl (lv_at hl 2 rfl) ?_
      refine lv_if_lt (tgt := 30) hx hb dX5_letRiverRun_12 (by decide) (fun _ => ?_) (fun c_ => absurd (by decide) c_)
      refine lv_aload_n hx hb dX5_letRiverRun_30 rfl (lv_at hl 0 rfl) ?_
      refine wg_X5_35 (v := .ref (ad 4)) S hK E 0 rfl rfl dX5_letRiverRun_31 ?_
      refine wg_X5_147 (v := .ref (ad 28)) S hK E 4 rfl rfl dX5_letRiverRun_34 ?_
      refine lv_bipush (v := 8) hx hb dX5_letRiverRun_37 (by decide) ?_
      refine lv_dup2_11 hx hb dX5_letRiverRun_39 rfl rfl ?_
      refine w_lld (v := gl τ 28 8) S hK E 28 1 rfl rfl (show vp_in 8 9 by unfold vp_in; decide) rfl dX5_letRiverRun_40 ?_
      refine lv_iload_n hx hb dX5_letRiverRun_41 rfl (lv_at hl 1 rfl) ?_
      refine lv_i2l (v := (y).toInt64) hx hb dX5_letRiverRun_42 rfl ?_
      refine lv_ladd hx hb dX5_letRiverRun_43 ?_
      refine w_lst (w' := wsW g ad lo ke fo ea1 (sl τ 28 8 ((gl τ 28 8) + ((y).toInt64)))) S hK E 28 1 rfl rfl (show vp_in 8 9 by unfold vp_in; decide) wset_28 dX5_letRiverRun_44 (fun H locs E => ?_)
      have hQ : f_X5_letRiverRun σ = (sl τ 28 8 ((gl τ 28 8) + ((y).toInt64))) := by
        rw [hF]; rw [f_X5_letRiverRun_L11]
      have hq := nt_c (EK.kp (Kp_sl (τ := τ) (k := 28) (x := 8) (v := ((gl τ 28 8) + ((y).toInt64))) Kp.rf) hk).1 (by have := (EK.kp (Kp_sl (τ := τ) (k := 28) (x := 8) (v := ((gl τ 28 8) + ((y).toInt64))) Kp.rf) hk).2.2.1; omega)
      exact x_vret ((sl τ 28 8 ((gl τ 28 8) + ((y).toInt64))), ea1) S hr hlk hsz htt hK E dX5_letRiverRun_45 hQ.symm rfl ⟨Nat.le_refl _, Nat.le_refl _⟩ ⟨by show eg (sl τ 28 8 ((gl τ 28 8) + ((y).toInt64))) - eg σ + 0 ≤ 25; omega, by show 2 * ec (sl τ 28 8 ((gl τ 28 8) + ((y).toInt64))) - 2 * ec σ + 0 ≤ 300002; omega⟩
    | succ k ih =>
      intro i hi τ ea1 y hk  H locs hF E ls hl
      have hl : lv_has ls 3 [(0, .ref (ad 0)), (1, .int y), (2, .int (nI (k + 1) - 1))] := hl
      have hl : lv_has ls 3 [(0, .ref (ad 0)), (1, .int y), (2, .int (nI k))] := by rw [nI_pred] at hl; exact hl
      refine lv_iload_n hx hb dX5_letRiverRun_11 rfl (lv_at hl 2 rfl) ?_
      refine lv_if_lt (tgt := 30) hx hb dX5_letRiverRun_12 (by decide) (fun c_ => absurd c_ (nI_pos (by omega))) (fun _ => ?_)
      refine lv_iload_n hx hb dX5_letRiverRun_15 rfl (lv_at hl 1 rfl) ?_
      refine lv_aload_n hx hb dX5_letRiverRun_16 rfl (lv_at hl 0 rfl) ?_
      refine lv_iload_n hx hb dX5_letRiverRun_17 rfl (lv_at hl 2 rfl) ?_
      refine lv_iload_n hx hb dX5_letRiverRun_18 rfl (lv_at hl 1 rfl) ?_
      have hq := nt_c hk.1 (by have := hk.2.2.1; omega)
      refine w_reti (runV_X (As := [.int (nI k), .int y]) (rest := [.int y]) (q0 := 0) (n := 2) S hml hK (hZ.at E) (Cut.full E hA) (c_X5_runThroughBed l g ad lo ke fo ea1 τ (nI k) y (vp_in_nI (n := k) (by omega) (by decide)) hke hk.1 (by have := hk.2.2.1; omega) _ _) (gi_wsV ml_X5_235 im_X5_runThroughBed sl_X5_runThroughBed in_X5 co_X5_runThroughBed) ⟨rfl, by decide +kernel, by decide +kernel, by decide +kernel⟩ ⟨Nat.le_of_ble_eq_true rfl, Nat.le_of_ble_eq_true rfl⟩ rfl rfl rfl hl.1 rfl (Nat.le_of_ble_eq_true rfl) dX5_letRiverRun_19 ⟨by show eg τ - eg σ + 13 ≤ 25; omega, by show 2 * ec τ - 2 * ec σ + 200002 ≤ 300002; omega⟩) (Cut.full E hA) E (fun r u H locs hp E => ?_)
      obtain ⟨u1, ea_1⟩ := u
      obtain ⟨hp, hu⟩ := hp
      have hu : u1 = (f_X5_runThroughBed τ (nI k) y).2 := hu
      subst hp
      subst hu
      have E : Ev g _ s.heap H locs (wsW g ad lo ke fo ea_1 (f_X5_runThroughBed τ (nI k) y).2) := E
      refine W.widen (k := eg (f_X5_runThroughBed τ (nI k) y).2 - eg σ) (n := 2 * ec (f_X5_runThroughBed τ (nI k) y).2 - 2 * ec σ) (by have h1 := hk.2.2.2.1; have h2 := (EK_X5_runThroughBed (σ := τ) (x := (nI k)) (y := y) hk.1 (by have := hk.2.2.1; omega) ).2.2.2.1; show eg τ - eg σ + (eg (f_X5_runThroughBed τ (nI k) y).2 - eg τ) ≤ _; omega) (by have h1 := hk.2.2.2.2.1; have h2 := (EK_X5_runThroughBed (σ := τ) (x := (nI k)) (y := y) hk.1 (by have := hk.2.2.1; omega) ).2.2.2.2.1; show 2 * ec τ - 2 * ec σ + (2 * ec (f_X5_runThroughBed τ (nI k) y).2 - 2 * ec τ) ≤ _; omega) ?_
      refine lv_iadd hx hb dX5_letRiverRun_22 ?_
      refine lv_istore_n (lv' := [(1, .int (y + ((f_X5_runThroughBed τ (nI k) y).1))), (0, .ref (ad 0)), (2, .int (nI k))]) hx hb dX5_letRiverRun_23 rfl hl (by decide) rfl (fun ls hl => ?_)
      refine lv_iinc (v := (nI k - 1)) (lv' := [(2, .int (nI k - 1)), (1, .int (y + ((f_X5_runThroughBed τ (nI k) y).1))), (0, .ref (ad 0))]) hx hb dX5_letRiverRun_24 hl (k := 2) rfl (i_sub1 k) (by decide) rfl (fun ls hl => ?_)
      refine lv_goto (tgt := 11) hx hb dX5_letRiverRun_27 (by decide) ?_
      have hF : f_X5_letRiverRun σ = f_X5_letRiverRun_L11 k (i + 1) (f_X5_runThroughBed τ (nI k) y).2 (y + ((f_X5_runThroughBed τ (nI k) y).1)) := by
        rw [hF]; rw [f_X5_letRiverRun_L11]
      exact ih (i + 1) (by omega) (f_X5_runThroughBed τ (nI k) y).2 ea_1 (y + ((f_X5_runThroughBed τ (nI k) y).1)) (EK.up (EK.tr (EK_X5_runThroughBed (σ := τ) (x := (nI k)) (y := y) hk.1 (by have := hk.2.2.1; omega) ) hk) (by omega))  _ _ hF E ls (lv_sub hl [2, 1, 0] rfl)
  refine W.widen (k := eg σ - eg σ) (n := 2 * ec σ - 2 * ec σ) (Nat.zero_le _) (Nat.zero_le _) ?_
  refine lv_aload_n hx hb dX5_letRiverRun_0 rfl (lv_at hl 0 rfl) ?_
  refine wg_X5_21 (v := .ref (ad 2)) S hK E 0 rfl rfl dX5_letRiverRun_1 ?_
  refine wg_X5_120 (v := .int (gs σ 2)) S hK E 2 rfl rfl dX5_letRiverRun_4 ?_
  refine lv_istore_n (lv' := [(1, .int (gs σ 2)), (0, .ref (ad 0))]) hx hb dX5_letRiverRun_7 rfl hl (by decide) rfl (fun ls hl => ?_)
  refine lv_bipush (v := 7) hx hb dX5_letRiverRun_8 (by decide) ?_
  refine lv_istore_n (lv' := [(2, .int 7), (1, .int (gs σ 2)), (0, .ref (ad 0))]) hx hb dX5_letRiverRun_10 rfl hl (by decide) rfl (fun ls hl => ?_)
  have hF : f_X5_letRiverRun σ = f_X5_letRiverRun_L11 8 0 σ (gs σ 2) := by
    rfl
  exact L11 8 0 (by omega) σ ea (gs σ 2) (EK.up (EK.rf hE) (by omega))  _ _ hF E ls (lv_sub hl [2, 1, 0] rfl)

def f_X5_endMonth (σ : Sg)  : Sg := if (((gs σ 0) + 1) - ((gs σ 0) + 1) / 12 * 12) = 0 then (f_X5_endYear (ss σ 0 ((gs σ 0) + 1))) else (ss σ 0 ((gs σ 0) + 1))
theorem EK_X5_endMonth {σ : Sg}  (hE : EvOK σ) (hB : en σ + 6 ≤ 20000) (hW : WF σ) : EK (6) (f_X5_endMonth σ) σ := by
  unfold f_X5_endMonth
  split
  · exact EK.up (EK.tr (EK_X5_endYear (σ := (ss σ 0 ((gs σ 0) + 1))) (EK.kp (Kp_ss (τ := σ) (j := 0) (v := ((gs σ 0) + 1)) Kp.rf (by decide)) (EK.rf hE)).1 (by have := (EK.kp (Kp_ss (τ := σ) (j := 0) (v := ((gs σ 0) + 1)) Kp.rf (by decide)) (EK.rf hE)).2.2.1; omega) (EK.wf (EK.kp (Kp_ss (τ := σ) (j := 0) (v := ((gs σ 0) + 1)) Kp.rf (by decide)) (EK.rf hE)) hW)) (EK.kp (Kp_ss (τ := σ) (j := 0) (v := ((gs σ 0) + 1)) Kp.rf (by decide)) (EK.rf hE))) (by omega)
  · exact EK.up (EK.kp (Kp_ss (τ := σ) (j := 0) (v := ((gs σ 0) + 1)) Kp.rf (by decide)) (EK.rf hE)) (by omega)
set_option maxHeartbeats 4000000 in
set_option maxRecDepth 100000 in
/-- World.endMonth -/
theorem c_X5_endMonth (l : Launch) (g : Gm) (ad : Nat → Nat) (lo ke fo : Int32) (ea : Nat) (σ : Sg) (hW : WF σ) (hke : ke = 0 ∨ ke = 1) (hE : EvOK σ) (hB : en σ + 6 ≤ 20000) : MXv l g yX5_endMonth cX5_endMonth 1 ({ frames := 8, cells := 25, slots := 300002, locals := 1042 } : Room) [.ref (ad 0)] (wsW g ad lo ke fo ea σ) (fun u : Sg × Nat => u.1 = f_X5_endMonth σ) (fun u => wsW g ad lo ke fo u.2 u.1) (kxN σ) := by
  intro sz tt
  refine ofX RX5 rfl (by decide +kernel) (Nat.le_of_ble_eq_true rfl) (fun p e s m args below meth c hargs S hml hr hlk hnm hsz htt hK hA hZ E ls hl => ?_)
  have hx := S.1
  have hb := S.2.1
  have hl : lv_has ls 1 [(0, .ref (ad 0))] := hl
  refine W.widen (k := eg σ - eg σ) (n := 2 * ec σ - 2 * ec σ) (Nat.zero_le _) (Nat.zero_le _) ?_
  refine lv_aload_n hx hb dX5_endMonth_0 rfl (lv_at hl 0 rfl) ?_
  refine lv_dup hx hb dX5_endMonth_1 rfl ?_
  refine wg_X5_244 (v := .int (gs σ 0)) S hK E 0 rfl rfl dX5_endMonth_2 ?_
  refine lv_iconst (v := 1) hx hb dX5_endMonth_5 (by decide) ?_
  refine lv_iadd hx hb dX5_endMonth_6 ?_
  refine wp_X5_244 (w' := wsW g ad lo ke fo ea (ss σ 0 ((gs σ 0) + 1))) S hK E 0 rfl rfl rfl (Nat.le_of_ble_eq_true rfl) wset_month dX5_endMonth_7 (fun H locs E => ?_)
  refine lv_aload_n hx hb dX5_endMonth_10 rfl (lv_at hl 0 rfl) ?_
  refine wg_X5_244 (v := .int ((gs σ 0) + 1)) S hK E 0 rfl rfl dX5_endMonth_11 ?_
  refine lv_bipush (v := 12) hx hb dX5_endMonth_14 (by decide) ?_
  refine lv_irem hx hb dX5_endMonth_16 (by decide) ?_
  refine lv_if_ne (tgt := 24) hx hb dX5_endMonth_17 (by decide) (fun c1 => ?_) (fun c1 => ?_)
  · have c1 : ¬ ((((gs σ 0) + 1) - ((gs σ 0) + 1) / 12 * 12) = 0) := c1
    have hQ : f_X5_endMonth σ = (ss σ 0 ((gs σ 0) + 1)) := by
      unfold f_X5_endMonth; rw [if_neg c1]
    have hq := nt_c (EK.kp (Kp_ss (τ := σ) (j := 0) (v := ((gs σ 0) + 1)) Kp.rf (by decide)) (EK.rf hE)).1 (by have := (EK.kp (Kp_ss (τ := σ) (j := 0) (v := ((gs σ 0) + 1)) Kp.rf (by decide)) (EK.rf hE)).2.2.1; omega)
    exact x_vret ((ss σ 0 ((gs σ 0) + 1)), ea) S hr hlk hsz htt hK E dX5_endMonth_24 hQ.symm rfl ⟨Nat.le_refl _, Nat.le_refl _⟩ ⟨by show eg (ss σ 0 ((gs σ 0) + 1)) - eg σ + 0 ≤ 25; omega, by show 2 * ec (ss σ 0 ((gs σ 0) + 1)) - 2 * ec σ + 0 ≤ 300002; omega⟩
  · have c1 : (((gs σ 0) + 1) - ((gs σ 0) + 1) / 12 * 12) = 0 := c1
    refine lv_aload_n hx hb dX5_endMonth_20 rfl (lv_at hl 0 rfl) ?_
    have hq := nt_c (EK.kp (Kp_ss (τ := σ) (j := 0) (v := ((gs σ 0) + 1)) Kp.rf (by decide)) (EK.rf hE)).1 (by have := (EK.kp (Kp_ss (τ := σ) (j := 0) (v := ((gs σ 0) + 1)) Kp.rf (by decide)) (EK.rf hE)).2.2.1; omega)
    refine w_retv (runV_X (As := []) (rest := []) (q0 := 0) (n := 0) S hml hK (hZ.at E) (Cut.full E hA) (c_X5_endYear l g ad lo ke fo ea (ss σ 0 ((gs σ 0) + 1))  (EK.wf (EK.kp (Kp_ss (τ := σ) (j := 0) (v := ((gs σ 0) + 1)) Kp.rf (by decide)) (EK.rf hE)) hW) hke (EK.kp (Kp_ss (τ := σ) (j := 0) (v := ((gs σ 0) + 1)) Kp.rf (by decide)) (EK.rf hE)).1 (by have := (EK.kp (Kp_ss (τ := σ) (j := 0) (v := ((gs σ 0) + 1)) Kp.rf (by decide)) (EK.rf hE)).2.2.1; omega) _ _) (gi_wsV ml_X5_247 im_X5_endYear sl_X5_endYear in_X5 co_X5_endYear) ⟨rfl, by decide +kernel, by decide +kernel, by decide +kernel⟩ ⟨Nat.le_of_ble_eq_true rfl, Nat.le_of_ble_eq_true rfl⟩ rfl rfl rfl hl.1 rfl (Nat.le_of_ble_eq_true rfl) dX5_endMonth_21 ⟨by show eg (ss σ 0 ((gs σ 0) + 1)) - eg σ + 13 ≤ 25; omega, by show 2 * ec (ss σ 0 ((gs σ 0) + 1)) - 2 * ec σ + 200002 ≤ 300002; omega⟩) (Cut.full E hA) E (fun u H locs hp E => ?_)
    obtain ⟨u1, ea_2⟩ := u
    have hp : u1 = f_X5_endYear (ss σ 0 ((gs σ 0) + 1)) := hp
    subst hp
    have E : Ev g _ s.heap H locs (wsW g ad lo ke fo ea_2 (f_X5_endYear (ss σ 0 ((gs σ 0) + 1)))) := E
    refine W.widen (k := eg (f_X5_endYear (ss σ 0 ((gs σ 0) + 1))) - eg σ) (n := 2 * ec (f_X5_endYear (ss σ 0 ((gs σ 0) + 1))) - 2 * ec σ) (by have h1 := (EK.kp (Kp_ss (τ := σ) (j := 0) (v := ((gs σ 0) + 1)) Kp.rf (by decide)) (EK.rf hE)).2.2.2.1; have h2 := (EK_X5_endYear (σ := (ss σ 0 ((gs σ 0) + 1))) (EK.kp (Kp_ss (τ := σ) (j := 0) (v := ((gs σ 0) + 1)) Kp.rf (by decide)) (EK.rf hE)).1 (by have := (EK.kp (Kp_ss (τ := σ) (j := 0) (v := ((gs σ 0) + 1)) Kp.rf (by decide)) (EK.rf hE)).2.2.1; omega) (EK.wf (EK.kp (Kp_ss (τ := σ) (j := 0) (v := ((gs σ 0) + 1)) Kp.rf (by decide)) (EK.rf hE)) hW)).2.2.2.1; show eg (ss σ 0 ((gs σ 0) + 1)) - eg σ + (eg (f_X5_endYear (ss σ 0 ((gs σ 0) + 1))) - eg (ss σ 0 ((gs σ 0) + 1))) ≤ _; omega) (by have h1 := (EK.kp (Kp_ss (τ := σ) (j := 0) (v := ((gs σ 0) + 1)) Kp.rf (by decide)) (EK.rf hE)).2.2.2.2.1; have h2 := (EK_X5_endYear (σ := (ss σ 0 ((gs σ 0) + 1))) (EK.kp (Kp_ss (τ := σ) (j := 0) (v := ((gs σ 0) + 1)) Kp.rf (by decide)) (EK.rf hE)).1 (by have := (EK.kp (Kp_ss (τ := σ) (j := 0) (v := ((gs σ 0) + 1)) Kp.rf (by decide)) (EK.rf hE)).2.2.1; omega) (EK.wf (EK.kp (Kp_ss (τ := σ) (j := 0) (v := ((gs σ 0) + 1)) Kp.rf (by decide)) (EK.rf hE)) hW)).2.2.2.2.1; show 2 * ec (ss σ 0 ((gs σ 0) + 1)) - 2 * ec σ + (2 * ec (f_X5_endYear (ss σ 0 ((gs σ 0) + 1))) - 2 * ec (ss σ 0 ((gs σ 0) + 1))) ≤ _; omega) ?_
    have hQ : f_X5_endMonth σ = (f_X5_endYear (ss σ 0 ((gs σ 0) + 1))) := by
      unfold f_X5_endMonth; rw [if_pos c1]
    have hq := nt_c (EK.tr (EK_X5_endYear (σ := (ss σ 0 ((gs σ 0) + 1))) (EK.kp (Kp_ss (τ := σ) (j := 0) (v := ((gs σ 0) + 1)) Kp.rf (by decide)) (EK.rf hE)).1 (by have := (EK.kp (Kp_ss (τ := σ) (j := 0) (v := ((gs σ 0) + 1)) Kp.rf (by decide)) (EK.rf hE)).2.2.1; omega) (EK.wf (EK.kp (Kp_ss (τ := σ) (j := 0) (v := ((gs σ 0) + 1)) Kp.rf (by decide)) (EK.rf hE)) hW)) (EK.kp (Kp_ss (τ := σ) (j := 0) (v := ((gs σ 0) + 1)) Kp.rf (by decide)) (EK.rf hE))).1 (by have := (EK.tr (EK_X5_endYear (σ := (ss σ 0 ((gs σ 0) + 1))) (EK.kp (Kp_ss (τ := σ) (j := 0) (v := ((gs σ 0) + 1)) Kp.rf (by decide)) (EK.rf hE)).1 (by have := (EK.kp (Kp_ss (τ := σ) (j := 0) (v := ((gs σ 0) + 1)) Kp.rf (by decide)) (EK.rf hE)).2.2.1; omega) (EK.wf (EK.kp (Kp_ss (τ := σ) (j := 0) (v := ((gs σ 0) + 1)) Kp.rf (by decide)) (EK.rf hE)) hW)) (EK.kp (Kp_ss (τ := σ) (j := 0) (v := ((gs σ 0) + 1)) Kp.rf (by decide)) (EK.rf hE))).2.2.1; omega)
    exact x_vret ((f_X5_endYear (ss σ 0 ((gs σ 0) + 1))), ea_2) S hr hlk hsz htt hK E dX5_endMonth_24 hQ.symm rfl ⟨Nat.le_refl _, Nat.le_refl _⟩ ⟨by show eg (f_X5_endYear (ss σ 0 ((gs σ 0) + 1))) - eg σ + 0 ≤ 25; omega, by show 2 * ec (f_X5_endYear (ss σ 0 ((gs σ 0) + 1))) - 2 * ec σ + 0 ≤ 300002; omega⟩

def f_X5_letMonthsPass_L2 (mm : Nat) : Nat → Nat → Sg → Sg
  | 0, i, τ => τ
  | k + 1, i, τ => f_X5_letMonthsPass_L2 mm k (i + 1) (f_X5_endMonth (f_X5_meetSea (f_X5_meetSea (f_X5_letSpringsRun (f_X5_letRiverRun (f_X5_letWaterFlow (f_X5_pumpWells (f_X5_letRainFall τ))))) 0) 8))
theorem EK_X5_letMonthsPass_L2 {σ : Sg} {mm : Nat} (hE : EvOK σ) (hB : en σ + 20 * mm ≤ 20000) (hW : WF σ) : ∀ (k i : Nat), i + k = mm → ∀ (τ : Sg) , EK (20 * i) τ σ → EK (20 * mm) (f_X5_letMonthsPass_L2 mm k i τ) σ := by
  intro k
  induction k with
  | zero =>
    intro i hi τ  hk
    rw [f_X5_letMonthsPass_L2]
    exact EK.up hk (by omega)
  | succ k ih =>
    intro i hi τ  hk
    rw [f_X5_letMonthsPass_L2]
    exact ih _ (by omega) _  (EK.up (EK.tr (EK_X5_endMonth (σ := (f_X5_meetSea (f_X5_meetSea (f_X5_letSpringsRun (f_X5_letRiverRun (f_X5_letWaterFlow (f_X5_pumpWells (f_X5_letRainFall τ))))) 0) 8)) (EK.kp (KP_X5_meetSea (σ := (f_X5_meetSea (f_X5_letSpringsRun (f_X5_letRiverRun (f_X5_letWaterFlow (f_X5_pumpWells (f_X5_letRainFall τ))))) 0)) (x := 8)) (EK.kp (KP_X5_meetSea (σ := (f_X5_letSpringsRun (f_X5_letRiverRun (f_X5_letWaterFlow (f_X5_pumpWells (f_X5_letRainFall τ)))))) (x := 0)) (EK.kp (KP_X5_letSpringsRun (σ := (f_X5_letRiverRun (f_X5_letWaterFlow (f_X5_pumpWells (f_X5_letRainFall τ)))))) (EK.tr (EK_X5_letRiverRun (σ := (f_X5_letWaterFlow (f_X5_pumpWells (f_X5_letRainFall τ)))) (EK.kp (KP_X5_letWaterFlow (σ := (f_X5_pumpWells (f_X5_letRainFall τ)))) (EK.tr (EK_X5_pumpWells (σ := (f_X5_letRainFall τ)) (EK.kp (KP_X5_letRainFall (σ := τ)) hk).1 (by have := (EK.kp (KP_X5_letRainFall (σ := τ)) hk).2.2.1; omega) (EK.wf (EK.kp (KP_X5_letRainFall (σ := τ)) hk) hW)) (EK.kp (KP_X5_letRainFall (σ := τ)) hk))).1 (by have := (EK.kp (KP_X5_letWaterFlow (σ := (f_X5_pumpWells (f_X5_letRainFall τ)))) (EK.tr (EK_X5_pumpWells (σ := (f_X5_letRainFall τ)) (EK.kp (KP_X5_letRainFall (σ := τ)) hk).1 (by have := (EK.kp (KP_X5_letRainFall (σ := τ)) hk).2.2.1; omega) (EK.wf (EK.kp (KP_X5_letRainFall (σ := τ)) hk) hW)) (EK.kp (KP_X5_letRainFall (σ := τ)) hk))).2.2.1; omega) ) (EK.kp (KP_X5_letWaterFlow (σ := (f_X5_pumpWells (f_X5_letRainFall τ)))) (EK.tr (EK_X5_pumpWells (σ := (f_X5_letRainFall τ)) (EK.kp (KP_X5_letRainFall (σ := τ)) hk).1 (by have := (EK.kp (KP_X5_letRainFall (σ := τ)) hk).2.2.1; omega) (EK.wf (EK.kp (KP_X5_letRainFall (σ := τ)) hk) hW)) (EK.kp (KP_X5_letRainFall (σ := τ)) hk))))))).1 (by have := (EK.kp (KP_X5_meetSea (σ := (f_X5_meetSea (f_X5_letSpringsRun (f_X5_letRiverRun (f_X5_letWaterFlow (f_X5_pumpWells (f_X5_letRainFall τ))))) 0)) (x := 8)) (EK.kp (KP_X5_meetSea (σ := (f_X5_letSpringsRun (f_X5_letRiverRun (f_X5_letWaterFlow (f_X5_pumpWells (f_X5_letRainFall τ)))))) (x := 0)) (EK.kp (KP_X5_letSpringsRun (σ := (f_X5_letRiverRun (f_X5_letWaterFlow (f_X5_pumpWells (f_X5_letRainFall τ)))))) (EK.tr (EK_X5_letRiverRun (σ := (f_X5_letWaterFlow (f_X5_pumpWells (f_X5_letRainFall τ)))) (EK.kp (KP_X5_letWaterFlow (σ := (f_X5_pumpWells (f_X5_letRainFall τ)))) (EK.tr (EK_X5_pumpWells (σ := (f_X5_letRainFall τ)) (EK.kp (KP_X5_letRainFall (σ := τ)) hk).1 (by have := (EK.kp (KP_X5_letRainFall (σ := τ)) hk).2.2.1; omega) (EK.wf (EK.kp (KP_X5_letRainFall (σ := τ)) hk) hW)) (EK.kp (KP_X5_letRainFall (σ := τ)) hk))).1 (by have := (EK.kp (KP_X5_letWaterFlow (σ := (f_X5_pumpWells (f_X5_letRainFall τ)))) (EK.tr (EK_X5_pumpWells (σ := (f_X5_letRainFall τ)) (EK.kp (KP_X5_letRainFall (σ := τ)) hk).1 (by have := (EK.kp (KP_X5_letRainFall (σ := τ)) hk).2.2.1; omega) (EK.wf (EK.kp (KP_X5_letRainFall (σ := τ)) hk) hW)) (EK.kp (KP_X5_letRainFall (σ := τ)) hk))).2.2.1; omega) ) (EK.kp (KP_X5_letWaterFlow (σ := (f_X5_pumpWells (f_X5_letRainFall τ)))) (EK.tr (EK_X5_pumpWells (σ := (f_X5_letRainFall τ)) (EK.kp (KP_X5_letRainFall (σ := τ)) hk).1 (by have := (EK.kp (KP_X5_letRainFall (σ := τ)) hk).2.2.1; omega) (EK.wf (EK.kp (KP_X5_letRainFall (σ := τ)) hk) hW)) (EK.kp (KP_X5_letRainFall (σ := τ)) hk))))))).2.2.1; omega) (EK.wf (EK.kp (KP_X5_meetSea (σ := (f_X5_meetSea (f_X5_letSpringsRun (f_X5_letRiverRun (f_X5_letWaterFlow (f_X5_pumpWells (f_X5_letRainFall τ))))) 0)) (x := 8)) (EK.kp (KP_X5_meetSea (σ := (f_X5_letSpringsRun (f_X5_letRiverRun (f_X5_letWaterFlow (f_X5_pumpWells (f_X5_letRainFall τ)))))) (x := 0)) (EK.kp (KP_X5_letSpringsRun (σ := (f_X5_letRiverRun (f_X5_letWaterFlow (f_X5_pumpWells (f_X5_letRainFall τ)))))) (EK.tr (EK_X5_letRiverRun (σ := (f_X5_letWaterFlow (f_X5_pumpWells (f_X5_letRainFall τ)))) (EK.kp (KP_X5_letWaterFlow (σ := (f_X5_pumpWells (f_X5_letRainFall τ)))) (EK.tr (EK_X5_pumpWells (σ := (f_X5_letRainFall τ)) (EK.kp (KP_X5_letRainFall (σ := τ)) hk).1 (by have := (EK.kp (KP_X5_letRainFall (σ := τ)) hk).2.2.1; omega) (EK.wf (EK.kp (KP_X5_letRainFall (σ := τ)) hk) hW)) (EK.kp (KP_X5_letRainFall (σ := τ)) hk))).1 (by have := (EK.kp (KP_X5_letWaterFlow (σ := (f_X5_pumpWells (f_X5_letRainFall τ)))) (EK.tr (EK_X5_pumpWells (σ := (f_X5_letRainFall τ)) (EK.kp (KP_X5_letRainFall (σ := τ)) hk).1 (by have := (EK.kp (KP_X5_letRainFall (σ := τ)) hk).2.2.1; omega) (EK.wf (EK.kp (KP_X5_letRainFall (σ := τ)) hk) hW)) (EK.kp (KP_X5_letRainFall (σ := τ)) hk))).2.2.1; omega) ) (EK.kp (KP_X5_letWaterFlow (σ := (f_X5_pumpWells (f_X5_letRainFall τ)))) (EK.tr (EK_X5_pumpWells (σ := (f_X5_letRainFall τ)) (EK.kp (KP_X5_letRainFall (σ := τ)) hk).1 (by have := (EK.kp (KP_X5_letRainFall (σ := τ)) hk).2.2.1; omega) (EK.wf (EK.kp (KP_X5_letRainFall (σ := τ)) hk) hW)) (EK.kp (KP_X5_letRainFall (σ := τ)) hk))))))) hW)) (EK.kp (KP_X5_meetSea (σ := (f_X5_meetSea (f_X5_letSpringsRun (f_X5_letRiverRun (f_X5_letWaterFlow (f_X5_pumpWells (f_X5_letRainFall τ))))) 0)) (x := 8)) (EK.kp (KP_X5_meetSea (σ := (f_X5_letSpringsRun (f_X5_letRiverRun (f_X5_letWaterFlow (f_X5_pumpWells (f_X5_letRainFall τ)))))) (x := 0)) (EK.kp (KP_X5_letSpringsRun (σ := (f_X5_letRiverRun (f_X5_letWaterFlow (f_X5_pumpWells (f_X5_letRainFall τ)))))) (EK.tr (EK_X5_letRiverRun (σ := (f_X5_letWaterFlow (f_X5_pumpWells (f_X5_letRainFall τ)))) (EK.kp (KP_X5_letWaterFlow (σ := (f_X5_pumpWells (f_X5_letRainFall τ)))) (EK.tr (EK_X5_pumpWells (σ := (f_X5_letRainFall τ)) (EK.kp (KP_X5_letRainFall (σ := τ)) hk).1 (by have := (EK.kp (KP_X5_letRainFall (σ := τ)) hk).2.2.1; omega) (EK.wf (EK.kp (KP_X5_letRainFall (σ := τ)) hk) hW)) (EK.kp (KP_X5_letRainFall (σ := τ)) hk))).1 (by have := (EK.kp (KP_X5_letWaterFlow (σ := (f_X5_pumpWells (f_X5_letRainFall τ)))) (EK.tr (EK_X5_pumpWells (σ := (f_X5_letRainFall τ)) (EK.kp (KP_X5_letRainFall (σ := τ)) hk).1 (by have := (EK.kp (KP_X5_letRainFall (σ := τ)) hk).2.2.1; omega) (EK.wf (EK.kp (KP_X5_letRainFall (σ := τ)) hk) hW)) (EK.kp (KP_X5_letRainFall (σ := τ)) hk))).2.2.1; omega) ) (EK.kp (KP_X5_letWaterFlow (σ := (f_X5_pumpWells (f_X5_letRainFall τ)))) (EK.tr (EK_X5_pumpWells (σ := (f_X5_letRainFall τ)) (EK.kp (KP_X5_letRainFall (σ := τ)) hk).1 (by have := (EK.kp (KP_X5_letRainFall (σ := τ)) hk).2.2.1; omega) (EK.wf (EK.kp (KP_X5_letRainFall (σ := τ)) hk) hW)) (EK.kp (KP_X5_letRainFall (σ := τ)) hk)))))))) (by omega))
def f_X5_letMonthsPass (σ : Sg) (mm : Nat) : Sg := f_X5_letMonthsPass_L2 mm mm 0 σ
theorem EK_X5_letMonthsPass {σ : Sg} {mm : Nat} (hE : EvOK σ) (hB : en σ + 20 * mm ≤ 20000) (hW : WF σ) : EK (20 * mm) (f_X5_letMonthsPass σ mm) σ := by
  unfold f_X5_letMonthsPass
  exact EK_X5_letMonthsPass_L2 hE hB hW _ _ (by omega) _  (EK.up (EK.rf hE) (by omega))
set_option maxHeartbeats 4000000 in
set_option maxRecDepth 100000 in
/-- World.letMonthsPass -/
theorem c_X5_letMonthsPass (l : Launch) (g : Gm) (ad : Nat → Nat) (lo ke fo : Int32) (ea : Nat) (σ : Sg) (mm : Nat) (hW : WF σ) (hke : ke = 0 ∨ ke = 1) (hE : EvOK σ) (hB : en σ + 20 * mm ≤ 20000) : MXv l g yX5_letMonthsPass cX5_letMonthsPass 3 ({ frames := 9, cells := 37, slots := 400002, locals := 1067 } : Room) [.ref (ad 0), .int (nI mm)] (wsW g ad lo ke fo ea σ) (fun u : Sg × Nat => u.1 = f_X5_letMonthsPass σ mm) (fun u => wsW g ad lo ke fo u.2 u.1) (kxN σ) := by
  intro sz tt
  refine ofX RX5 rfl (by decide +kernel) (Nat.le_of_ble_eq_true rfl) (fun p e s m args below meth c hargs S hml hr hlk hnm hsz htt hK hA hZ E ls hl => ?_)
  have hx := S.1
  have hb := S.2.1
  have hl : lv_has ls 3 [(0, .ref (ad 0)), (1, .int (nI mm))] := hl
  have L2 : ∀ (k i : Nat), i + k = mm → ∀ (τ : Sg) (ea1 : Nat)  (hk : EK (20 * i) τ σ)  (H : Heap) (locs : List Loc), f_X5_letMonthsPass σ mm = f_X5_letMonthsPass_L2 mm k i τ → Ev g (va_A (wsW g ad lo ke fo ea σ) sz) s.heap H locs (wsW g ad lo ke fo ea1 τ) → ∀ ls : Array Slot, lv_has ls 3 [(0, .ref (ad 0)), (1, .int (nI mm)), (2, .int (nI i))] → W p l e ({ frames := 9, cells := 37, slots := 400002, locals := 1067 } : Room) s m args below meth c H locs (eg τ - eg σ) (2 * ec τ - 2 * ec σ) (MQ below (va_Qv (fun u : Sg × Nat => u.1 = f_X5_letMonthsPass σ mm) (AtX g (va_A (wsW g ad lo ke fo ea σ) sz) (fun u => wsW g ad lo ke fo u.2 u.1) (kxN σ) sz tt) (va_A (wsW g ad lo ke fo ea σ) sz)) args s 37 400002 (va_A (wsW g ad lo ke fo ea σ) sz)) (F0 m 2 ls []) := by
    intro k
    induction k with
    | zero =>
      intro i hi τ ea1  hk  H locs hF E ls hl
      have hl : lv_has ls 3 [(0, .ref (ad 0)), (1, .int (nI mm)), (2, .int (nI i))] := hl
      refine lv_iload_n hx hb dX5_letMonthsPass_2 rfl (lv_at hl 2 rfl) ?_
      refine lv_iload_n hx hb dX5_letMonthsPass_3 rfl (lv_at hl 1 rfl) ?_
      refine lv_icmp_ge (tgt := 48) hx hb dX5_letMonthsPass_4 (by decide) (fun _ => ?_) (fun c_ => absurd (g_yes rfl rfl (by omega) (by omega)) c_)
      have hQ : f_X5_letMonthsPass σ mm = τ := by
        rw [hF]; rw [f_X5_letMonthsPass_L2]
      have hq := nt_c hk.1 (by have := hk.2.2.1; omega)
      exact x_vret (τ, ea1) S hr hlk hsz htt hK E dX5_letMonthsPass_48 hQ.symm rfl ⟨Nat.le_refl _, Nat.le_refl _⟩ ⟨by show eg τ - eg σ + 0 ≤ 37; omega, by show 2 * ec τ - 2 * ec σ + 0 ≤ 400002; omega⟩
    | succ k ih =>
      intro i hi τ ea1  hk  H locs hF E ls hl
      have hl : lv_has ls 3 [(0, .ref (ad 0)), (1, .int (nI mm)), (2, .int (nI i))] := hl
      refine lv_iload_n hx hb dX5_letMonthsPass_2 rfl (lv_at hl 2 rfl) ?_
      refine lv_iload_n hx hb dX5_letMonthsPass_3 rfl (lv_at hl 1 rfl) ?_
      refine lv_icmp_ge (tgt := 48) hx hb dX5_letMonthsPass_4 (by decide) (fun c_ => absurd c_ (g_no rfl rfl (by omega) (by omega))) (fun _ => ?_)
      refine lv_aload_n hx hb dX5_letMonthsPass_7 rfl (lv_at hl 0 rfl) ?_
      have hq := nt_c hk.1 (by have := hk.2.2.1; omega)
      refine w_retv (runV_X (As := []) (rest := []) (q0 := 0) (n := 0) S hml hK (hZ.at E) (Cut.full E hA) (c_X5_letRainFall l g ad lo ke fo ea1 τ   _ _) (gi_wsV ml_X5_163 im_X5_letRainFall sl_X5_letRainFall in_X5 co_X5_letRainFall) ⟨rfl, by decide +kernel, by decide +kernel, by decide +kernel⟩ ⟨Nat.le_of_ble_eq_true rfl, Nat.le_of_ble_eq_true rfl⟩ rfl rfl rfl hl.1 rfl (Nat.le_of_ble_eq_true rfl) dX5_letMonthsPass_8 ⟨by show eg τ - eg σ + 0 ≤ 37; omega, by show 2 * ec τ - 2 * ec σ + 0 ≤ 400002; omega⟩) (Cut.full E hA) E (fun u H locs hp E => ?_)
      subst hp
      have E : Ev g _ s.heap H locs (wsW g ad lo ke fo ea1 (f_X5_letRainFall τ)) := E
      refine W.widen (k := eg (f_X5_letRainFall τ) - eg σ) (n := 2 * ec (f_X5_letRainFall τ) - 2 * ec σ) (Kp_wd1 (KP_X5_letRainFall (σ := τ))) (Kp_wd2 (KP_X5_letRainFall (σ := τ))) ?_
      refine lv_aload_n hx hb dX5_letMonthsPass_11 rfl (lv_at hl 0 rfl) ?_
      have hq := nt_c (EK.kp (KP_X5_letRainFall (σ := τ)) hk).1 (by have := (EK.kp (KP_X5_letRainFall (σ := τ)) hk).2.2.1; omega)
      refine w_retv (runV_X (As := []) (rest := []) (q0 := 0) (n := 0) S hml hK (hZ.at E) (Cut.full E hA) (c_X5_pumpWells l g ad lo ke fo ea1 (f_X5_letRainFall τ)  (EK.wf (EK.kp (KP_X5_letRainFall (σ := τ)) hk) hW) hke (EK.kp (KP_X5_letRainFall (σ := τ)) hk).1 (by have := (EK.kp (KP_X5_letRainFall (σ := τ)) hk).2.2.1; omega) _ _) (gi_wsV ml_X5_166 im_X5_pumpWells sl_X5_pumpWells in_X5 co_X5_pumpWells) ⟨rfl, by decide +kernel, by decide +kernel, by decide +kernel⟩ ⟨Nat.le_of_ble_eq_true rfl, Nat.le_of_ble_eq_true rfl⟩ rfl rfl rfl hl.1 rfl (Nat.le_of_ble_eq_true rfl) dX5_letMonthsPass_12 ⟨by show eg (f_X5_letRainFall τ) - eg σ + 25 ≤ 37; omega, by show 2 * ec (f_X5_letRainFall τ) - 2 * ec σ + 300002 ≤ 400002; omega⟩) (Cut.full E hA) E (fun u H locs hp E => ?_)
      obtain ⟨u1, ea_1⟩ := u
      have hp : u1 = f_X5_pumpWells (f_X5_letRainFall τ) := hp
      subst hp
      have E : Ev g _ s.heap H locs (wsW g ad lo ke fo ea_1 (f_X5_pumpWells (f_X5_letRainFall τ))) := E
      refine W.widen (k := eg (f_X5_pumpWells (f_X5_letRainFall τ)) - eg σ) (n := 2 * ec (f_X5_pumpWells (f_X5_letRainFall τ)) - 2 * ec σ) (by have h1 := (EK.kp (KP_X5_letRainFall (σ := τ)) hk).2.2.2.1; have h2 := (EK_X5_pumpWells (σ := (f_X5_letRainFall τ)) (EK.kp (KP_X5_letRainFall (σ := τ)) hk).1 (by have := (EK.kp (KP_X5_letRainFall (σ := τ)) hk).2.2.1; omega) (EK.wf (EK.kp (KP_X5_letRainFall (σ := τ)) hk) hW)).2.2.2.1; show eg (f_X5_letRainFall τ) - eg σ + (eg (f_X5_pumpWells (f_X5_letRainFall τ)) - eg (f_X5_letRainFall τ)) ≤ _; omega) (by have h1 := (EK.kp (KP_X5_letRainFall (σ := τ)) hk).2.2.2.2.1; have h2 := (EK_X5_pumpWells (σ := (f_X5_letRainFall τ)) (EK.kp (KP_X5_letRainFall (σ := τ)) hk).1 (by have := (EK.kp (KP_X5_letRainFall (σ := τ)) hk).2.2.1; omega) (EK.wf (EK.kp (KP_X5_letRainFall (σ := τ)) hk) hW)).2.2.2.2.1; show 2 * ec (f_X5_letRainFall τ) - 2 * ec σ + (2 * ec (f_X5_pumpWells (f_X5_letRainFall τ)) - 2 * ec (f_X5_letRainFall τ)) ≤ _; omega) ?_
      refine lv_aload_n hx hb dX5_letMonthsPass_15 rfl (lv_at hl 0 rfl) ?_
      have hq := nt_c (EK.tr (EK_X5_pumpWells (σ := (f_X5_letRainFall τ)) (EK.kp (KP_X5_letRainFall (σ := τ)) hk).1 (by have := (EK.kp (KP_X5_letRainFall (σ := τ)) hk).2.2.1; omega) (EK.wf (EK.kp (KP_X5_letRainFall (σ := τ)) hk) hW)) (EK.kp (KP_X5_letRainFall (σ := τ)) hk)).1 (by have := (EK.tr (EK_X5_pumpWells (σ := (f_X5_letRainFall τ)) (EK.kp (KP_X5_letRainFall (σ := τ)) hk).1 (by have := (EK.kp (KP_X5_letRainFall (σ := τ)) hk).2.2.1; omega) (EK.wf (EK.kp (KP_X5_letRainFall (σ := τ)) hk) hW)) (EK.kp (KP_X5_letRainFall (σ := τ)) hk)).2.2.1; omega)
      refine w_retv (runV_X (As := []) (rest := []) (q0 := 0) (n := 0) S hml hK (hZ.at E) (Cut.full E hA) (c_X5_letWaterFlow l g ad lo ke fo ea_1 (f_X5_pumpWells (f_X5_letRainFall τ))   _ _) (gi_wsV ml_X5_169 im_X5_letWaterFlow sl_X5_letWaterFlow in_X5 co_X5_letWaterFlow) ⟨rfl, by decide +kernel, by decide +kernel, by decide +kernel⟩ ⟨Nat.le_of_ble_eq_true rfl, Nat.le_of_ble_eq_true rfl⟩ rfl rfl rfl hl.1 rfl (Nat.le_of_ble_eq_true rfl) dX5_letMonthsPass_16 ⟨by show eg (f_X5_pumpWells (f_X5_letRainFall τ)) - eg σ + 0 ≤ 37; omega, by show 2 * ec (f_X5_pumpWells (f_X5_letRainFall τ)) - 2 * ec σ + 0 ≤ 400002; omega⟩) (Cut.full E hA) E (fun u H locs hp E => ?_)
      subst hp
      have E : Ev g _ s.heap H locs (wsW g ad lo ke fo ea_1 (f_X5_letWaterFlow (f_X5_pumpWells (f_X5_letRainFall τ)))) := E
      refine W.widen (k := eg (f_X5_letWaterFlow (f_X5_pumpWells (f_X5_letRainFall τ))) - eg σ) (n := 2 * ec (f_X5_letWaterFlow (f_X5_pumpWells (f_X5_letRainFall τ))) - 2 * ec σ) (Kp_wd1 (KP_X5_letWaterFlow (σ := (f_X5_pumpWells (f_X5_letRainFall τ))))) (Kp_wd2 (KP_X5_letWaterFlow (σ := (f_X5_pumpWells (f_X5_letRainFall τ))))) ?_
      refine lv_aload_n hx hb dX5_letMonthsPass_19 rfl (lv_at hl 0 rfl) ?_
      have hq := nt_c (EK.kp (KP_X5_letWaterFlow (σ := (f_X5_pumpWells (f_X5_letRainFall τ)))) (EK.tr (EK_X5_pumpWells (σ := (f_X5_letRainFall τ)) (EK.kp (KP_X5_letRainFall (σ := τ)) hk).1 (by have := (EK.kp (KP_X5_letRainFall (σ := τ)) hk).2.2.1; omega) (EK.wf (EK.kp (KP_X5_letRainFall (σ := τ)) hk) hW)) (EK.kp (KP_X5_letRainFall (σ := τ)) hk))).1 (by have := (EK.kp (KP_X5_letWaterFlow (σ := (f_X5_pumpWells (f_X5_letRainFall τ)))) (EK.tr (EK_X5_pumpWells (σ := (f_X5_letRainFall τ)) (EK.kp (KP_X5_letRainFall (σ := τ)) hk).1 (by have := (EK.kp (KP_X5_letRainFall (σ := τ)) hk).2.2.1; omega) (EK.wf (EK.kp (KP_X5_letRainFall (σ := τ)) hk) hW)) (EK.kp (KP_X5_letRainFall (σ := τ)) hk))).2.2.1; omega)
      refine w_retv (runV_X (As := []) (rest := []) (q0 := 0) (n := 0) S hml hK (hZ.at E) (Cut.full E hA) (c_X5_letRiverRun l g ad lo ke fo ea_1 (f_X5_letWaterFlow (f_X5_pumpWells (f_X5_letRainFall τ)))  hke (EK.kp (KP_X5_letWaterFlow (σ := (f_X5_pumpWells (f_X5_letRainFall τ)))) (EK.tr (EK_X5_pumpWells (σ := (f_X5_letRainFall τ)) (EK.kp (KP_X5_letRainFall (σ := τ)) hk).1 (by have := (EK.kp (KP_X5_letRainFall (σ := τ)) hk).2.2.1; omega) (EK.wf (EK.kp (KP_X5_letRainFall (σ := τ)) hk) hW)) (EK.kp (KP_X5_letRainFall (σ := τ)) hk))).1 (by have := (EK.kp (KP_X5_letWaterFlow (σ := (f_X5_pumpWells (f_X5_letRainFall τ)))) (EK.tr (EK_X5_pumpWells (σ := (f_X5_letRainFall τ)) (EK.kp (KP_X5_letRainFall (σ := τ)) hk).1 (by have := (EK.kp (KP_X5_letRainFall (σ := τ)) hk).2.2.1; omega) (EK.wf (EK.kp (KP_X5_letRainFall (σ := τ)) hk) hW)) (EK.kp (KP_X5_letRainFall (σ := τ)) hk))).2.2.1; omega) _ _) (gi_wsV ml_X5_172 im_X5_letRiverRun sl_X5_letRiverRun in_X5 co_X5_letRiverRun) ⟨rfl, by decide +kernel, by decide +kernel, by decide +kernel⟩ ⟨Nat.le_of_ble_eq_true rfl, Nat.le_of_ble_eq_true rfl⟩ rfl rfl rfl hl.1 rfl (Nat.le_of_ble_eq_true rfl) dX5_letMonthsPass_20 ⟨by show eg (f_X5_letWaterFlow (f_X5_pumpWells (f_X5_letRainFall τ))) - eg σ + 25 ≤ 37; omega, by show 2 * ec (f_X5_letWaterFlow (f_X5_pumpWells (f_X5_letRainFall τ))) - 2 * ec σ + 300002 ≤ 400002; omega⟩) (Cut.full E hA) E (fun u H locs hp E => ?_)
      obtain ⟨u1, ea_2⟩ := u
      have hp : u1 = f_X5_letRiverRun (f_X5_letWaterFlow (f_X5_pumpWells (f_X5_letRainFall τ))) := hp
      subst hp
      have E : Ev g _ s.heap H locs (wsW g ad lo ke fo ea_2 (f_X5_letRiverRun (f_X5_letWaterFlow (f_X5_pumpWells (f_X5_letRainFall τ))))) := E
      refine W.widen (k := eg (f_X5_letRiverRun (f_X5_letWaterFlow (f_X5_pumpWells (f_X5_letRainFall τ)))) - eg σ) (n := 2 * ec (f_X5_letRiverRun (f_X5_letWaterFlow (f_X5_pumpWells (f_X5_letRainFall τ)))) - 2 * ec σ) (by have h1 := (EK.kp (KP_X5_letWaterFlow (σ := (f_X5_pumpWells (f_X5_letRainFall τ)))) (EK.tr (EK_X5_pumpWells (σ := (f_X5_letRainFall τ)) (EK.kp (KP_X5_letRainFall (σ := τ)) hk).1 (by have := (EK.kp (KP_X5_letRainFall (σ := τ)) hk).2.2.1; omega) (EK.wf (EK.kp (KP_X5_letRainFall (σ := τ)) hk) hW)) (EK.kp (KP_X5_letRainFall (σ := τ)) hk))).2.2.2.1; have h2 := (EK_X5_letRiverRun (σ := (f_X5_letWaterFlow (f_X5_pumpWells (f_X5_letRainFall τ)))) (EK.kp (KP_X5_letWaterFlow (σ := (f_X5_pumpWells (f_X5_letRainFall τ)))) (EK.tr (EK_X5_pumpWells (σ := (f_X5_letRainFall τ)) (EK.kp (KP_X5_letRainFall (σ := τ)) hk).1 (by have := (EK.kp (KP_X5_letRainFall (σ := τ)) hk).2.2.1; omega) (EK.wf (EK.kp (KP_X5_letRainFall (σ := τ)) hk) hW)) (EK.kp (KP_X5_letRainFall (σ := τ)) hk))).1 (by have := (EK.kp (KP_X5_letWaterFlow (σ := (f_X5_pumpWells (f_X5_letRainFall τ)))) (EK.tr (EK_X5_pumpWells (σ := (f_X5_letRainFall τ)) (EK.kp (KP_X5_letRainFall (σ := τ)) hk).1 (by have := (EK.kp (KP_X5_letRainFall (σ := τ)) hk).2.2.1; omega) (EK.wf (EK.kp (KP_X5_letRainFall (σ := τ)) hk) hW)) (EK.kp (KP_X5_letRainFall (σ := τ)) hk))).2.2.1; omega) ).2.2.2.1; show eg (f_X5_letWaterFlow (f_X5_pumpWells (f_X5_letRainFall τ))) - eg σ + (eg (f_X5_letRiverRun (f_X5_letWaterFlow (f_X5_pumpWells (f_X5_letRainFall τ)))) - eg (f_X5_letWaterFlow (f_X5_pumpWells (f_X5_letRainFall τ)))) ≤ _; omega) (by have h1 := (EK.kp (KP_X5_letWaterFlow (σ := (f_X5_pumpWells (f_X5_letRainFall τ)))) (EK.tr (EK_X5_pumpWells (σ := (f_X5_letRainFall τ)) (EK.kp (KP_X5_letRainFall (σ := τ)) hk).1 (by have := (EK.kp (KP_X5_letRainFall (σ := τ)) hk).2.2.1; omega) (EK.wf (EK.kp (KP_X5_letRainFall (σ := τ)) hk) hW)) (EK.kp (KP_X5_letRainFall (σ := τ)) hk))).2.2.2.2.1; have h2 := (EK_X5_letRiverRun (σ := (f_X5_letWaterFlow (f_X5_pumpWells (f_X5_letRainFall τ)))) (EK.kp (KP_X5_letWaterFlow (σ := (f_X5_pumpWells (f_X5_letRainFall τ)))) (EK.tr (EK_X5_pumpWells (σ := (f_X5_letRainFall τ)) (EK.kp (KP_X5_letRainFall (σ := τ)) hk).1 (by have := (EK.kp (KP_X5_letRainFall (σ := τ)) hk).2.2.1; omega) (EK.wf (EK.kp (KP_X5_letRainFall (σ := τ)) hk) hW)) (EK.kp (KP_X5_letRainFall (σ := τ)) hk))).1 (by have := (EK.kp (KP_X5_letWaterFlow (σ := (f_X5_pumpWells (f_X5_letRainFall τ)))) (EK.tr (EK_X5_pumpWells (σ := (f_X5_letRainFall τ)) (EK.kp (KP_X5_letRainFall (σ := τ)) hk).1 (by have := (EK.kp (KP_X5_letRainFall (σ := τ)) hk).2.2.1; omega) (EK.wf (EK.kp (KP_X5_letRainFall (σ := τ)) hk) hW)) (EK.kp (KP_X5_letRainFall (σ := τ)) hk))).2.2.1; omega) ).2.2.2.2.1; show 2 * ec (f_X5_letWaterFlow (f_X5_pumpWells (f_X5_letRainFall τ))) - 2 * ec σ + (2 * ec (f_X5_letRiverRun (f_X5_letWaterFlow (f_X5_pumpWells (f_X5_letRainFall τ)))) - 2 * ec (f_X5_letWaterFlow (f_X5_pumpWells (f_X5_letRainFall τ)))) ≤ _; omega) ?_
      refine lv_aload_n hx hb dX5_letMonthsPass_23 rfl (lv_at hl 0 rfl) ?_
      have hq := nt_c (EK.tr (EK_X5_letRiverRun (σ := (f_X5_letWaterFlow (f_X5_pumpWells (f_X5_letRainFall τ)))) (EK.kp (KP_X5_letWaterFlow (σ := (f_X5_pumpWells (f_X5_letRainFall τ)))) (EK.tr (EK_X5_pumpWells (σ := (f_X5_letRainFall τ)) (EK.kp (KP_X5_letRainFall (σ := τ)) hk).1 (by have := (EK.kp (KP_X5_letRainFall (σ := τ)) hk).2.2.1; omega) (EK.wf (EK.kp (KP_X5_letRainFall (σ := τ)) hk) hW)) (EK.kp (KP_X5_letRainFall (σ := τ)) hk))).1 (by have := (EK.kp (KP_X5_letWaterFlow (σ := (f_X5_pumpWells (f_X5_letRainFall τ)))) (EK.tr (EK_X5_pumpWells (σ := (f_X5_letRainFall τ)) (EK.kp (KP_X5_letRainFall (σ := τ)) hk).1 (by have := (EK.kp (KP_X5_letRainFall (σ := τ)) hk).2.2.1; omega) (EK.wf (EK.kp (KP_X5_letRainFall (σ := τ)) hk) hW)) (EK.kp (KP_X5_letRainFall (σ := τ)) hk))).2.2.1; omega) ) (EK.kp (KP_X5_letWaterFlow (σ := (f_X5_pumpWells (f_X5_letRainFall τ)))) (EK.tr (EK_X5_pumpWells (σ := (f_X5_letRainFall τ)) (EK.kp (KP_X5_letRainFall (σ := τ)) hk).1 (by have := (EK.kp (KP_X5_letRainFall (σ := τ)) hk).2.2.1; omega) (EK.wf (EK.kp (KP_X5_letRainFall (σ := τ)) hk) hW)) (EK.kp (KP_X5_letRainFall (σ := τ)) hk)))).1 (by have := (EK.tr (EK_X5_letRiverRun (σ := (f_X5_letWaterFlow (f_X5_pumpWells (f_X5_letRainFall τ)))) (EK.kp (KP_X5_letWaterFlow (σ := (f_X5_pumpWells (f_X5_letRainFall τ)))) (EK.tr (EK_X5_pumpWells (σ := (f_X5_letRainFall τ)) (EK.kp (KP_X5_letRainFall (σ := τ)) hk).1 (by have := (EK.kp (KP_X5_letRainFall (σ := τ)) hk).2.2.1; omega) (EK.wf (EK.kp (KP_X5_letRainFall (σ := τ)) hk) hW)) (EK.kp (KP_X5_letRainFall (σ := τ)) hk))).1 (by have := (EK.kp (KP_X5_letWaterFlow (σ := (f_X5_pumpWells (f_X5_letRainFall τ)))) (EK.tr (EK_X5_pumpWells (σ := (f_X5_letRainFall τ)) (EK.kp (KP_X5_letRainFall (σ := τ)) hk).1 (by have := (EK.kp (KP_X5_letRainFall (σ := τ)) hk).2.2.1; omega) (EK.wf (EK.kp (KP_X5_letRainFall (σ := τ)) hk) hW)) (EK.kp (KP_X5_letRainFall (σ := τ)) hk))).2.2.1; omega) ) (EK.kp (KP_X5_letWaterFlow (σ := (f_X5_pumpWells (f_X5_letRainFall τ)))) (EK.tr (EK_X5_pumpWells (σ := (f_X5_letRainFall τ)) (EK.kp (KP_X5_letRainFall (σ := τ)) hk).1 (by have := (EK.kp (KP_X5_letRainFall (σ := τ)) hk).2.2.1; omega) (EK.wf (EK.kp (KP_X5_letRainFall (σ := τ)) hk) hW)) (EK.kp (KP_X5_letRainFall (σ := τ)) hk)))).2.2.1; omega)
      refine w_retv (runV_X (As := []) (rest := []) (q0 := 0) (n := 0) S hml hK (hZ.at E) (Cut.full E hA) (c_X5_letSpringsRun l g ad lo ke fo ea_2 (f_X5_letRiverRun (f_X5_letWaterFlow (f_X5_pumpWells (f_X5_letRainFall τ))))   _ _) (gi_wsV ml_X5_175 im_X5_letSpringsRun sl_X5_letSpringsRun in_X5 co_X5_letSpringsRun) ⟨rfl, by decide +kernel, by decide +kernel, by decide +kernel⟩ ⟨Nat.le_of_ble_eq_true rfl, Nat.le_of_ble_eq_true rfl⟩ rfl rfl rfl hl.1 rfl (Nat.le_of_ble_eq_true rfl) dX5_letMonthsPass_24 ⟨by show eg (f_X5_letRiverRun (f_X5_letWaterFlow (f_X5_pumpWells (f_X5_letRainFall τ)))) - eg σ + 0 ≤ 37; omega, by show 2 * ec (f_X5_letRiverRun (f_X5_letWaterFlow (f_X5_pumpWells (f_X5_letRainFall τ)))) - 2 * ec σ + 0 ≤ 400002; omega⟩) (Cut.full E hA) E (fun u H locs hp E => ?_)
      subst hp
      have E : Ev g _ s.heap H locs (wsW g ad lo ke fo ea_2 (f_X5_letSpringsRun (f_X5_letRiverRun (f_X5_letWaterFlow (f_X5_pumpWells (f_X5_letRainFall τ)))))) := E
      refine W.widen (k := eg (f_X5_letSpringsRun (f_X5_letRiverRun (f_X5_letWaterFlow (f_X5_pumpWells (f_X5_letRainFall τ))))) - eg σ) (n := 2 * ec (f_X5_letSpringsRun (f_X5_letRiverRun (f_X5_letWaterFlow (f_X5_pumpWells (f_X5_letRainFall τ))))) - 2 * ec σ) (Kp_wd1 (KP_X5_letSpringsRun (σ := (f_X5_letRiverRun (f_X5_letWaterFlow (f_X5_pumpWells (f_X5_letRainFall τ))))))) (Kp_wd2 (KP_X5_letSpringsRun (σ := (f_X5_letRiverRun (f_X5_letWaterFlow (f_X5_pumpWells (f_X5_letRainFall τ))))))) ?_
      refine lv_aload_n hx hb dX5_letMonthsPass_27 rfl (lv_at hl 0 rfl) ?_
      refine lv_iconst (v := 0) hx hb dX5_letMonthsPass_28 (by decide) ?_
      have hq := nt_c (EK.kp (KP_X5_letSpringsRun (σ := (f_X5_letRiverRun (f_X5_letWaterFlow (f_X5_pumpWells (f_X5_letRainFall τ)))))) (EK.tr (EK_X5_letRiverRun (σ := (f_X5_letWaterFlow (f_X5_pumpWells (f_X5_letRainFall τ)))) (EK.kp (KP_X5_letWaterFlow (σ := (f_X5_pumpWells (f_X5_letRainFall τ)))) (EK.tr (EK_X5_pumpWells (σ := (f_X5_letRainFall τ)) (EK.kp (KP_X5_letRainFall (σ := τ)) hk).1 (by have := (EK.kp (KP_X5_letRainFall (σ := τ)) hk).2.2.1; omega) (EK.wf (EK.kp (KP_X5_letRainFall (σ := τ)) hk) hW)) (EK.kp (KP_X5_letRainFall (σ := τ)) hk))).1 (by have := (EK.kp (KP_X5_letWaterFlow (σ := (f_X5_pumpWells (f_X5_letRainFall τ)))) (EK.tr (EK_X5_pumpWells (σ := (f_X5_letRainFall τ)) (EK.kp (KP_X5_letRainFall (σ := τ)) hk).1 (by have := (EK.kp (KP_X5_letRainFall (σ := τ)) hk).2.2.1; omega) (EK.wf (EK.kp (KP_X5_letRainFall (σ := τ)) hk) hW)) (EK.kp (KP_X5_letRainFall (σ := τ)) hk))).2.2.1; omega) ) (EK.kp (KP_X5_letWaterFlow (σ := (f_X5_pumpWells (f_X5_letRainFall τ)))) (EK.tr (EK_X5_pumpWells (σ := (f_X5_letRainFall τ)) (EK.kp (KP_X5_letRainFall (σ := τ)) hk).1 (by have := (EK.kp (KP_X5_letRainFall (σ := τ)) hk).2.2.1; omega) (EK.wf (EK.kp (KP_X5_letRainFall (σ := τ)) hk) hW)) (EK.kp (KP_X5_letRainFall (σ := τ)) hk))))).1 (by have := (EK.kp (KP_X5_letSpringsRun (σ := (f_X5_letRiverRun (f_X5_letWaterFlow (f_X5_pumpWells (f_X5_letRainFall τ)))))) (EK.tr (EK_X5_letRiverRun (σ := (f_X5_letWaterFlow (f_X5_pumpWells (f_X5_letRainFall τ)))) (EK.kp (KP_X5_letWaterFlow (σ := (f_X5_pumpWells (f_X5_letRainFall τ)))) (EK.tr (EK_X5_pumpWells (σ := (f_X5_letRainFall τ)) (EK.kp (KP_X5_letRainFall (σ := τ)) hk).1 (by have := (EK.kp (KP_X5_letRainFall (σ := τ)) hk).2.2.1; omega) (EK.wf (EK.kp (KP_X5_letRainFall (σ := τ)) hk) hW)) (EK.kp (KP_X5_letRainFall (σ := τ)) hk))).1 (by have := (EK.kp (KP_X5_letWaterFlow (σ := (f_X5_pumpWells (f_X5_letRainFall τ)))) (EK.tr (EK_X5_pumpWells (σ := (f_X5_letRainFall τ)) (EK.kp (KP_X5_letRainFall (σ := τ)) hk).1 (by have := (EK.kp (KP_X5_letRainFall (σ := τ)) hk).2.2.1; omega) (EK.wf (EK.kp (KP_X5_letRainFall (σ := τ)) hk) hW)) (EK.kp (KP_X5_letRainFall (σ := τ)) hk))).2.2.1; omega) ) (EK.kp (KP_X5_letWaterFlow (σ := (f_X5_pumpWells (f_X5_letRainFall τ)))) (EK.tr (EK_X5_pumpWells (σ := (f_X5_letRainFall τ)) (EK.kp (KP_X5_letRainFall (σ := τ)) hk).1 (by have := (EK.kp (KP_X5_letRainFall (σ := τ)) hk).2.2.1; omega) (EK.wf (EK.kp (KP_X5_letRainFall (σ := τ)) hk) hW)) (EK.kp (KP_X5_letRainFall (σ := τ)) hk))))).2.2.1; omega)
      refine w_retv (runV_X (As := [.int 0]) (rest := []) (q0 := 0) (n := 1) S hml hK (hZ.at E) (Cut.full E hA) (c_X5_meetSea l g ad lo ke fo ea_2 (f_X5_letSpringsRun (f_X5_letRiverRun (f_X5_letWaterFlow (f_X5_pumpWells (f_X5_letRainFall τ))))) 0 (show vp_in 0 16 by unfold vp_in; decide) _ _) (gi_wsV ml_X5_178 im_X5_meetSea sl_X5_meetSea in_X5 co_X5_meetSea) ⟨rfl, by decide +kernel, by decide +kernel, by decide +kernel⟩ ⟨Nat.le_of_ble_eq_true rfl, Nat.le_of_ble_eq_true rfl⟩ rfl rfl rfl hl.1 rfl (Nat.le_of_ble_eq_true rfl) dX5_letMonthsPass_29 ⟨by show eg (f_X5_letSpringsRun (f_X5_letRiverRun (f_X5_letWaterFlow (f_X5_pumpWells (f_X5_letRainFall τ))))) - eg σ + 0 ≤ 37; omega, by show 2 * ec (f_X5_letSpringsRun (f_X5_letRiverRun (f_X5_letWaterFlow (f_X5_pumpWells (f_X5_letRainFall τ))))) - 2 * ec σ + 0 ≤ 400002; omega⟩) (Cut.full E hA) E (fun u H locs hp E => ?_)
      subst hp
      have E : Ev g _ s.heap H locs (wsW g ad lo ke fo ea_2 (f_X5_meetSea (f_X5_letSpringsRun (f_X5_letRiverRun (f_X5_letWaterFlow (f_X5_pumpWells (f_X5_letRainFall τ))))) 0)) := E
      refine W.widen (k := eg (f_X5_meetSea (f_X5_letSpringsRun (f_X5_letRiverRun (f_X5_letWaterFlow (f_X5_pumpWells (f_X5_letRainFall τ))))) 0) - eg σ) (n := 2 * ec (f_X5_meetSea (f_X5_letSpringsRun (f_X5_letRiverRun (f_X5_letWaterFlow (f_X5_pumpWells (f_X5_letRainFall τ))))) 0) - 2 * ec σ) (Kp_wd1 (KP_X5_meetSea (σ := (f_X5_letSpringsRun (f_X5_letRiverRun (f_X5_letWaterFlow (f_X5_pumpWells (f_X5_letRainFall τ)))))) (x := 0))) (Kp_wd2 (KP_X5_meetSea (σ := (f_X5_letSpringsRun (f_X5_letRiverRun (f_X5_letWaterFlow (f_X5_pumpWells (f_X5_letRainFall τ)))))) (x := 0))) ?_
      refine lv_aload_n hx hb dX5_letMonthsPass_32 rfl (lv_at hl 0 rfl) ?_
      refine lv_bipush (v := 8) hx hb dX5_letMonthsPass_33 (by decide) ?_
      have hq := nt_c (EK.kp (KP_X5_meetSea (σ := (f_X5_letSpringsRun (f_X5_letRiverRun (f_X5_letWaterFlow (f_X5_pumpWells (f_X5_letRainFall τ)))))) (x := 0)) (EK.kp (KP_X5_letSpringsRun (σ := (f_X5_letRiverRun (f_X5_letWaterFlow (f_X5_pumpWells (f_X5_letRainFall τ)))))) (EK.tr (EK_X5_letRiverRun (σ := (f_X5_letWaterFlow (f_X5_pumpWells (f_X5_letRainFall τ)))) (EK.kp (KP_X5_letWaterFlow (σ := (f_X5_pumpWells (f_X5_letRainFall τ)))) (EK.tr (EK_X5_pumpWells (σ := (f_X5_letRainFall τ)) (EK.kp (KP_X5_letRainFall (σ := τ)) hk).1 (by have := (EK.kp (KP_X5_letRainFall (σ := τ)) hk).2.2.1; omega) (EK.wf (EK.kp (KP_X5_letRainFall (σ := τ)) hk) hW)) (EK.kp (KP_X5_letRainFall (σ := τ)) hk))).1 (by have := (EK.kp (KP_X5_letWaterFlow (σ := (f_X5_pumpWells (f_X5_letRainFall τ)))) (EK.tr (EK_X5_pumpWells (σ := (f_X5_letRainFall τ)) (EK.kp (KP_X5_letRainFall (σ := τ)) hk).1 (by have := (EK.kp (KP_X5_letRainFall (σ := τ)) hk).2.2.1; omega) (EK.wf (EK.kp (KP_X5_letRainFall (σ := τ)) hk) hW)) (EK.kp (KP_X5_letRainFall (σ := τ)) hk))).2.2.1; omega) ) (EK.kp (KP_X5_letWaterFlow (σ := (f_X5_pumpWells (f_X5_letRainFall τ)))) (EK.tr (EK_X5_pumpWells (σ := (f_X5_letRainFall τ)) (EK.kp (KP_X5_letRainFall (σ := τ)) hk).1 (by have := (EK.kp (KP_X5_letRainFall (σ := τ)) hk).2.2.1; omega) (EK.wf (EK.kp (KP_X5_letRainFall (σ := τ)) hk) hW)) (EK.kp (KP_X5_letRainFall (σ := τ)) hk)))))).1 (by have := (EK.kp (KP_X5_meetSea (σ := (f_X5_letSpringsRun (f_X5_letRiverRun (f_X5_letWaterFlow (f_X5_pumpWells (f_X5_letRainFall τ)))))) (x := 0)) (EK.kp (KP_X5_letSpringsRun (σ := (f_X5_letRiverRun (f_X5_letWaterFlow (f_X5_pumpWells (f_X5_letRainFall τ)))))) (EK.tr (EK_X5_letRiverRun (σ := (f_X5_letWaterFlow (f_X5_pumpWells (f_X5_letRainFall τ)))) (EK.kp (KP_X5_letWaterFlow (σ := (f_X5_pumpWells (f_X5_letRainFall τ)))) (EK.tr (EK_X5_pumpWells (σ := (f_X5_letRainFall τ)) (EK.kp (KP_X5_letRainFall (σ := τ)) hk).1 (by have := (EK.kp (KP_X5_letRainFall (σ := τ)) hk).2.2.1; omega) (EK.wf (EK.kp (KP_X5_letRainFall (σ := τ)) hk) hW)) (EK.kp (KP_X5_letRainFall (σ := τ)) hk))).1 (by have := (EK.kp (KP_X5_letWaterFlow (σ := (f_X5_pumpWells (f_X5_letRainFall τ)))) (EK.tr (EK_X5_pumpWells (σ := (f_X5_letRainFall τ)) (EK.kp (KP_X5_letRainFall (σ := τ)) hk).1 (by have := (EK.kp (KP_X5_letRainFall (σ := τ)) hk).2.2.1; omega) (EK.wf (EK.kp (KP_X5_letRainFall (σ := τ)) hk) hW)) (EK.kp (KP_X5_letRainFall (σ := τ)) hk))).2.2.1; omega) ) (EK.kp (KP_X5_letWaterFlow (σ := (f_X5_pumpWells (f_X5_letRainFall τ)))) (EK.tr (EK_X5_pumpWells (σ := (f_X5_letRainFall τ)) (EK.kp (KP_X5_letRainFall (σ := τ)) hk).1 (by have := (EK.kp (KP_X5_letRainFall (σ := τ)) hk).2.2.1; omega) (EK.wf (EK.kp (KP_X5_letRainFall (σ := τ)) hk) hW)) (EK.kp (KP_X5_letRainFall (σ := τ)) hk)))))).2.2.1; omega)
      refine w_retv (runV_X (As := [.int 8]) (rest := []) (q0 := 0) (n := 1) S hml hK (hZ.at E) (Cut.full E hA) (c_X5_meetSea l g ad lo ke fo ea_2 (f_X5_meetSea (f_X5_letSpringsRun (f_X5_letRiverRun (f_X5_letWaterFlow (f_X5_pumpWells (f_X5_letRainFall τ))))) 0) 8 (show vp_in 8 16 by unfold vp_in; decide) _ _) (gi_wsV ml_X5_178 im_X5_meetSea sl_X5_meetSea in_X5 co_X5_meetSea) ⟨rfl, by decide +kernel, by decide +kernel, by decide +kernel⟩ ⟨Nat.le_of_ble_eq_true rfl, Nat.le_of_ble_eq_true rfl⟩ rfl rfl rfl hl.1 rfl (Nat.le_of_ble_eq_true rfl) dX5_letMonthsPass_35 ⟨by show eg (f_X5_meetSea (f_X5_letSpringsRun (f_X5_letRiverRun (f_X5_letWaterFlow (f_X5_pumpWells (f_X5_letRainFall τ))))) 0) - eg σ + 0 ≤ 37; omega, by show 2 * ec (f_X5_meetSea (f_X5_letSpringsRun (f_X5_letRiverRun (f_X5_letWaterFlow (f_X5_pumpWells (f_X5_letRainFall τ))))) 0) - 2 * ec σ + 0 ≤ 400002; omega⟩) (Cut.full E hA) E (fun u H locs hp E => ?_)
      subst hp
      have E : Ev g _ s.heap H locs (wsW g ad lo ke fo ea_2 (f_X5_meetSea (f_X5_meetSea (f_X5_letSpringsRun (f_X5_letRiverRun (f_X5_letWaterFlow (f_X5_pumpWells (f_X5_letRainFall τ))))) 0) 8)) := E
      refine W.widen (k := eg (f_X5_meetSea (f_X5_meetSea (f_X5_letSpringsRun (f_X5_letRiverRun (f_X5_letWaterFlow (f_X5_pumpWells (f_X5_letRainFall τ))))) 0) 8) - eg σ) (n := 2 * ec (f_X5_meetSea (f_X5_meetSea (f_X5_letSpringsRun (f_X5_letRiverRun (f_X5_letWaterFlow (f_X5_pumpWells (f_X5_letRainFall τ))))) 0) 8) - 2 * ec σ) (Kp_wd1 (KP_X5_meetSea (σ := (f_X5_meetSea (f_X5_letSpringsRun (f_X5_letRiverRun (f_X5_letWaterFlow (f_X5_pumpWells (f_X5_letRainFall τ))))) 0)) (x := 8))) (Kp_wd2 (KP_X5_meetSea (σ := (f_X5_meetSea (f_X5_letSpringsRun (f_X5_letRiverRun (f_X5_letWaterFlow (f_X5_pumpWells (f_X5_letRainFall τ))))) 0)) (x := 8))) ?_
      refine lv_aload_n hx hb dX5_letMonthsPass_38 rfl (lv_at hl 0 rfl) ?_
      have hq := nt_c (EK.kp (KP_X5_meetSea (σ := (f_X5_meetSea (f_X5_letSpringsRun (f_X5_letRiverRun (f_X5_letWaterFlow (f_X5_pumpWells (f_X5_letRainFall τ))))) 0)) (x := 8)) (EK.kp (KP_X5_meetSea (σ := (f_X5_letSpringsRun (f_X5_letRiverRun (f_X5_letWaterFlow (f_X5_pumpWells (f_X5_letRainFall τ)))))) (x := 0)) (EK.kp (KP_X5_letSpringsRun (σ := (f_X5_letRiverRun (f_X5_letWaterFlow (f_X5_pumpWells (f_X5_letRainFall τ)))))) (EK.tr (EK_X5_letRiverRun (σ := (f_X5_letWaterFlow (f_X5_pumpWells (f_X5_letRainFall τ)))) (EK.kp (KP_X5_letWaterFlow (σ := (f_X5_pumpWells (f_X5_letRainFall τ)))) (EK.tr (EK_X5_pumpWells (σ := (f_X5_letRainFall τ)) (EK.kp (KP_X5_letRainFall (σ := τ)) hk).1 (by have := (EK.kp (KP_X5_letRainFall (σ := τ)) hk).2.2.1; omega) (EK.wf (EK.kp (KP_X5_letRainFall (σ := τ)) hk) hW)) (EK.kp (KP_X5_letRainFall (σ := τ)) hk))).1 (by have := (EK.kp (KP_X5_letWaterFlow (σ := (f_X5_pumpWells (f_X5_letRainFall τ)))) (EK.tr (EK_X5_pumpWells (σ := (f_X5_letRainFall τ)) (EK.kp (KP_X5_letRainFall (σ := τ)) hk).1 (by have := (EK.kp (KP_X5_letRainFall (σ := τ)) hk).2.2.1; omega) (EK.wf (EK.kp (KP_X5_letRainFall (σ := τ)) hk) hW)) (EK.kp (KP_X5_letRainFall (σ := τ)) hk))).2.2.1; omega) ) (EK.kp (KP_X5_letWaterFlow (σ := (f_X5_pumpWells (f_X5_letRainFall τ)))) (EK.tr (EK_X5_pumpWells (σ := (f_X5_letRainFall τ)) (EK.kp (KP_X5_letRainFall (σ := τ)) hk).1 (by have := (EK.kp (KP_X5_letRainFall (σ := τ)) hk).2.2.1; omega) (EK.wf (EK.kp (KP_X5_letRainFall (σ := τ)) hk) hW)) (EK.kp (KP_X5_letRainFall (σ := τ)) hk))))))).1 (by have := (EK.kp (KP_X5_meetSea (σ := (f_X5_meetSea (f_X5_letSpringsRun (f_X5_letRiverRun (f_X5_letWaterFlow (f_X5_pumpWells (f_X5_letRainFall τ))))) 0)) (x := 8)) (EK.kp (KP_X5_meetSea (σ := (f_X5_letSpringsRun (f_X5_letRiverRun (f_X5_letWaterFlow (f_X5_pumpWells (f_X5_letRainFall τ)))))) (x := 0)) (EK.kp (KP_X5_letSpringsRun (σ := (f_X5_letRiverRun (f_X5_letWaterFlow (f_X5_pumpWells (f_X5_letRainFall τ)))))) (EK.tr (EK_X5_letRiverRun (σ := (f_X5_letWaterFlow (f_X5_pumpWells (f_X5_letRainFall τ)))) (EK.kp (KP_X5_letWaterFlow (σ := (f_X5_pumpWells (f_X5_letRainFall τ)))) (EK.tr (EK_X5_pumpWells (σ := (f_X5_letRainFall τ)) (EK.kp (KP_X5_letRainFall (σ := τ)) hk).1 (by have := (EK.kp (KP_X5_letRainFall (σ := τ)) hk).2.2.1; omega) (EK.wf (EK.kp (KP_X5_letRainFall (σ := τ)) hk) hW)) (EK.kp (KP_X5_letRainFall (σ := τ)) hk))).1 (by have := (EK.kp (KP_X5_letWaterFlow (σ := (f_X5_pumpWells (f_X5_letRainFall τ)))) (EK.tr (EK_X5_pumpWells (σ := (f_X5_letRainFall τ)) (EK.kp (KP_X5_letRainFall (σ := τ)) hk).1 (by have := (EK.kp (KP_X5_letRainFall (σ := τ)) hk).2.2.1; omega) (EK.wf (EK.kp (KP_X5_letRainFall (σ := τ)) hk) hW)) (EK.kp (KP_X5_letRainFall (σ := τ)) hk))).2.2.1; omega) ) (EK.kp (KP_X5_letWaterFlow (σ := (f_X5_pumpWells (f_X5_letRainFall τ)))) (EK.tr (EK_X5_pumpWells (σ := (f_X5_letRainFall τ)) (EK.kp (KP_X5_letRainFall (σ := τ)) hk).1 (by have := (EK.kp (KP_X5_letRainFall (σ := τ)) hk).2.2.1; omega) (EK.wf (EK.kp (KP_X5_letRainFall (σ := τ)) hk) hW)) (EK.kp (KP_X5_letRainFall (σ := τ)) hk))))))).2.2.1; omega)
      refine w_retv (runV_X (As := []) (rest := []) (q0 := 0) (n := 0) S hml hK (hZ.at E) (Cut.full E hA) (c_X5_endMonth l g ad lo ke fo ea_2 (f_X5_meetSea (f_X5_meetSea (f_X5_letSpringsRun (f_X5_letRiverRun (f_X5_letWaterFlow (f_X5_pumpWells (f_X5_letRainFall τ))))) 0) 8)  (EK.wf (EK.kp (KP_X5_meetSea (σ := (f_X5_meetSea (f_X5_letSpringsRun (f_X5_letRiverRun (f_X5_letWaterFlow (f_X5_pumpWells (f_X5_letRainFall τ))))) 0)) (x := 8)) (EK.kp (KP_X5_meetSea (σ := (f_X5_letSpringsRun (f_X5_letRiverRun (f_X5_letWaterFlow (f_X5_pumpWells (f_X5_letRainFall τ)))))) (x := 0)) (EK.kp (KP_X5_letSpringsRun (σ := (f_X5_letRiverRun (f_X5_letWaterFlow (f_X5_pumpWells (f_X5_letRainFall τ)))))) (EK.tr (EK_X5_letRiverRun (σ := (f_X5_letWaterFlow (f_X5_pumpWells (f_X5_letRainFall τ)))) (EK.kp (KP_X5_letWaterFlow (σ := (f_X5_pumpWells (f_X5_letRainFall τ)))) (EK.tr (EK_X5_pumpWells (σ := (f_X5_letRainFall τ)) (EK.kp (KP_X5_letRainFall (σ := τ)) hk).1 (by have := (EK.kp (KP_X5_letRainFall (σ := τ)) hk).2.2.1; omega) (EK.wf (EK.kp (KP_X5_letRainFall (σ := τ)) hk) hW)) (EK.kp (KP_X5_letRainFall (σ := τ)) hk))).1 (by have := (EK.kp (KP_X5_letWaterFlow (σ := (f_X5_pumpWells (f_X5_letRainFall τ)))) (EK.tr (EK_X5_pumpWells (σ := (f_X5_letRainFall τ)) (EK.kp (KP_X5_letRainFall (σ := τ)) hk).1 (by have := (EK.kp (KP_X5_letRainFall (σ := τ)) hk).2.2.1; omega) (EK.wf (EK.kp (KP_X5_letRainFall (σ := τ)) hk) hW)) (EK.kp (KP_X5_letRainFall (σ := τ)) hk))).2.2.1; omega) ) (EK.kp (KP_X5_letWaterFlow (σ := (f_X5_pumpWells (f_X5_letRainFall τ)))) (EK.tr (EK_X5_pumpWells (σ := (f_X5_letRainFall τ)) (EK.kp (KP_X5_letRainFall (σ := τ)) hk).1 (by have := (EK.kp (KP_X5_letRainFall (σ := τ)) hk).2.2.1; omega) (EK.wf (EK.kp (KP_X5_letRainFall (σ := τ)) hk) hW)) (EK.kp (KP_X5_letRainFall (σ := τ)) hk))))))) hW) hke (EK.kp (KP_X5_meetSea (σ := (f_X5_meetSea (f_X5_letSpringsRun (f_X5_letRiverRun (f_X5_letWaterFlow (f_X5_pumpWells (f_X5_letRainFall τ))))) 0)) (x := 8)) (EK.kp (KP_X5_meetSea (σ := (f_X5_letSpringsRun (f_X5_letRiverRun (f_X5_letWaterFlow (f_X5_pumpWells (f_X5_letRainFall τ)))))) (x := 0)) (EK.kp (KP_X5_letSpringsRun (σ := (f_X5_letRiverRun (f_X5_letWaterFlow (f_X5_pumpWells (f_X5_letRainFall τ)))))) (EK.tr (EK_X5_letRiverRun (σ := (f_X5_letWaterFlow (f_X5_pumpWells (f_X5_letRainFall τ)))) (EK.kp (KP_X5_letWaterFlow (σ := (f_X5_pumpWells (f_X5_letRainFall τ)))) (EK.tr (EK_X5_pumpWells (σ := (f_X5_letRainFall τ)) (EK.kp (KP_X5_letRainFall (σ := τ)) hk).1 (by have := (EK.kp (KP_X5_letRainFall (σ := τ)) hk).2.2.1; omega) (EK.wf (EK.kp (KP_X5_letRainFall (σ := τ)) hk) hW)) (EK.kp (KP_X5_letRainFall (σ := τ)) hk))).1 (by have := (EK.kp (KP_X5_letWaterFlow (σ := (f_X5_pumpWells (f_X5_letRainFall τ)))) (EK.tr (EK_X5_pumpWells (σ := (f_X5_letRainFall τ)) (EK.kp (KP_X5_letRainFall (σ := τ)) hk).1 (by have := (EK.kp (KP_X5_letRainFall (σ := τ)) hk).2.2.1; omega) (EK.wf (EK.kp (KP_X5_letRainFall (σ := τ)) hk) hW)) (EK.kp (KP_X5_letRainFall (σ := τ)) hk))).2.2.1; omega) ) (EK.kp (KP_X5_letWaterFlow (σ := (f_X5_pumpWells (f_X5_letRainFall τ)))) (EK.tr (EK_X5_pumpWells (σ := (f_X5_letRainFall τ)) (EK.kp (KP_X5_letRainFall (σ := τ)) hk).1 (by have := (EK.kp (KP_X5_letRainFall (σ := τ)) hk).2.2.1; omega) (EK.wf (EK.kp (KP_X5_letRainFall (σ := τ)) hk) hW)) (EK.kp (KP_X5_letRainFall (σ := τ)) hk))))))).1 (by have := (EK.kp (KP_X5_meetSea (σ := (f_X5_meetSea (f_X5_letSpringsRun (f_X5_letRiverRun (f_X5_letWaterFlow (f_X5_pumpWells (f_X5_letRainFall τ))))) 0)) (x := 8)) (EK.kp (KP_X5_meetSea (σ := (f_X5_letSpringsRun (f_X5_letRiverRun (f_X5_letWaterFlow (f_X5_pumpWells (f_X5_letRainFall τ)))))) (x := 0)) (EK.kp (KP_X5_letSpringsRun (σ := (f_X5_letRiverRun (f_X5_letWaterFlow (f_X5_pumpWells (f_X5_letRainFall τ)))))) (EK.tr (EK_X5_letRiverRun (σ := (f_X5_letWaterFlow (f_X5_pumpWells (f_X5_letRainFall τ)))) (EK.kp (KP_X5_letWaterFlow (σ := (f_X5_pumpWells (f_X5_letRainFall τ)))) (EK.tr (EK_X5_pumpWells (σ := (f_X5_letRainFall τ)) (EK.kp (KP_X5_letRainFall (σ := τ)) hk).1 (by have := (EK.kp (KP_X5_letRainFall (σ := τ)) hk).2.2.1; omega) (EK.wf (EK.kp (KP_X5_letRainFall (σ := τ)) hk) hW)) (EK.kp (KP_X5_letRainFall (σ := τ)) hk))).1 (by have := (EK.kp (KP_X5_letWaterFlow (σ := (f_X5_pumpWells (f_X5_letRainFall τ)))) (EK.tr (EK_X5_pumpWells (σ := (f_X5_letRainFall τ)) (EK.kp (KP_X5_letRainFall (σ := τ)) hk).1 (by have := (EK.kp (KP_X5_letRainFall (σ := τ)) hk).2.2.1; omega) (EK.wf (EK.kp (KP_X5_letRainFall (σ := τ)) hk) hW)) (EK.kp (KP_X5_letRainFall (σ := τ)) hk))).2.2.1; omega) ) (EK.kp (KP_X5_letWaterFlow (σ := (f_X5_pumpWells (f_X5_letRainFall τ)))) (EK.tr (EK_X5_pumpWells (σ := (f_X5_letRainFall τ)) (EK.kp (KP_X5_letRainFall (σ := τ)) hk).1 (by have := (EK.kp (KP_X5_letRainFall (σ := τ)) hk).2.2.1; omega) (EK.wf (EK.kp (KP_X5_letRainFall (σ := τ)) hk) hW)) (EK.kp (KP_X5_letRainFall (σ := τ)) hk))))))).2.2.1; omega) _ _) (gi_wsV ml_X5_181 im_X5_endMonth sl_X5_endMonth in_X5 co_X5_endMonth) ⟨rfl, by decide +kernel, by decide +kernel, by decide +kernel⟩ ⟨Nat.le_of_ble_eq_true rfl, Nat.le_of_ble_eq_true rfl⟩ rfl rfl rfl hl.1 rfl (Nat.le_of_ble_eq_true rfl) dX5_letMonthsPass_39 ⟨by show eg (f_X5_meetSea (f_X5_meetSea (f_X5_letSpringsRun (f_X5_letRiverRun (f_X5_letWaterFlow (f_X5_pumpWells (f_X5_letRainFall τ))))) 0) 8) - eg σ + 25 ≤ 37; omega, by show 2 * ec (f_X5_meetSea (f_X5_meetSea (f_X5_letSpringsRun (f_X5_letRiverRun (f_X5_letWaterFlow (f_X5_pumpWells (f_X5_letRainFall τ))))) 0) 8) - 2 * ec σ + 300002 ≤ 400002; omega⟩) (Cut.full E hA) E (fun u H locs hp E => ?_)
      obtain ⟨u1, ea_3⟩ := u
      have hp : u1 = f_X5_endMonth (f_X5_meetSea (f_X5_meetSea (f_X5_letSpringsRun (f_X5_letRiverRun (f_X5_letWaterFlow (f_X5_pumpWells (f_X5_letRainFall τ))))) 0) 8) := hp
      subst hp
      have E : Ev g _ s.heap H locs (wsW g ad lo ke fo ea_3 (f_X5_endMonth (f_X5_meetSea (f_X5_meetSea (f_X5_letSpringsRun (f_X5_letRiverRun (f_X5_letWaterFlow (f_X5_pumpWells (f_X5_letRainFall τ))))) 0) 8))) := E
      refine W.widen (k := eg (f_X5_endMonth (f_X5_meetSea (f_X5_meetSea (f_X5_letSpringsRun (f_X5_letRiverRun (f_X5_letWaterFlow (f_X5_pumpWells (f_X5_letRainFall τ))))) 0) 8)) - eg σ) (n := 2 * ec (f_X5_endMonth (f_X5_meetSea (f_X5_meetSea (f_X5_letSpringsRun (f_X5_letRiverRun (f_X5_letWaterFlow (f_X5_pumpWells (f_X5_letRainFall τ))))) 0) 8)) - 2 * ec σ) (by have h1 := (EK.kp (KP_X5_meetSea (σ := (f_X5_meetSea (f_X5_letSpringsRun (f_X5_letRiverRun (f_X5_letWaterFlow (f_X5_pumpWells (f_X5_letRainFall τ))))) 0)) (x := 8)) (EK.kp (KP_X5_meetSea (σ := (f_X5_letSpringsRun (f_X5_letRiverRun (f_X5_letWaterFlow (f_X5_pumpWells (f_X5_letRainFall τ)))))) (x := 0)) (EK.kp (KP_X5_letSpringsRun (σ := (f_X5_letRiverRun (f_X5_letWaterFlow (f_X5_pumpWells (f_X5_letRainFall τ)))))) (EK.tr (EK_X5_letRiverRun (σ := (f_X5_letWaterFlow (f_X5_pumpWells (f_X5_letRainFall τ)))) (EK.kp (KP_X5_letWaterFlow (σ := (f_X5_pumpWells (f_X5_letRainFall τ)))) (EK.tr (EK_X5_pumpWells (σ := (f_X5_letRainFall τ)) (EK.kp (KP_X5_letRainFall (σ := τ)) hk).1 (by have := (EK.kp (KP_X5_letRainFall (σ := τ)) hk).2.2.1; omega) (EK.wf (EK.kp (KP_X5_letRainFall (σ := τ)) hk) hW)) (EK.kp (KP_X5_letRainFall (σ := τ)) hk))).1 (by have := (EK.kp (KP_X5_letWaterFlow (σ := (f_X5_pumpWells (f_X5_letRainFall τ)))) (EK.tr (EK_X5_pumpWells (σ := (f_X5_letRainFall τ)) (EK.kp (KP_X5_letRainFall (σ := τ)) hk).1 (by have := (EK.kp (KP_X5_letRainFall (σ := τ)) hk).2.2.1; omega) (EK.wf (EK.kp (KP_X5_letRainFall (σ := τ)) hk) hW)) (EK.kp (KP_X5_letRainFall (σ := τ)) hk))).2.2.1; omega) ) (EK.kp (KP_X5_letWaterFlow (σ := (f_X5_pumpWells (f_X5_letRainFall τ)))) (EK.tr (EK_X5_pumpWells (σ := (f_X5_letRainFall τ)) (EK.kp (KP_X5_letRainFall (σ := τ)) hk).1 (by have := (EK.kp (KP_X5_letRainFall (σ := τ)) hk).2.2.1; omega) (EK.wf (EK.kp (KP_X5_letRainFall (σ := τ)) hk) hW)) (EK.kp (KP_X5_letRainFall (σ := τ)) hk))))))).2.2.2.1; have h2 := (EK_X5_endMonth (σ := (f_X5_meetSea (f_X5_meetSea (f_X5_letSpringsRun (f_X5_letRiverRun (f_X5_letWaterFlow (f_X5_pumpWells (f_X5_letRainFall τ))))) 0) 8)) (EK.kp (KP_X5_meetSea (σ := (f_X5_meetSea (f_X5_letSpringsRun (f_X5_letRiverRun (f_X5_letWaterFlow (f_X5_pumpWells (f_X5_letRainFall τ))))) 0)) (x := 8)) (EK.kp (KP_X5_meetSea (σ := (f_X5_letSpringsRun (f_X5_letRiverRun (f_X5_letWaterFlow (f_X5_pumpWells (f_X5_letRainFall τ)))))) (x := 0)) (EK.kp (KP_X5_letSpringsRun (σ := (f_X5_letRiverRun (f_X5_letWaterFlow (f_X5_pumpWells (f_X5_letRainFall τ)))))) (EK.tr (EK_X5_letRiverRun (σ := (f_X5_letWaterFlow (f_X5_pumpWells (f_X5_letRainFall τ)))) (EK.kp (KP_X5_letWaterFlow (σ := (f_X5_pumpWells (f_X5_letRainFall τ)))) (EK.tr (EK_X5_pumpWells (σ := (f_X5_letRainFall τ)) (EK.kp (KP_X5_letRainFall (σ := τ)) hk).1 (by have := (EK.kp (KP_X5_letRainFall (σ := τ)) hk).2.2.1; omega) (EK.wf (EK.kp (KP_X5_letRainFall (σ := τ)) hk) hW)) (EK.kp (KP_X5_letRainFall (σ := τ)) hk))).1 (by have := (EK.kp (KP_X5_letWaterFlow (σ := (f_X5_pumpWells (f_X5_letRainFall τ)))) (EK.tr (EK_X5_pumpWells (σ := (f_X5_letRainFall τ)) (EK.kp (KP_X5_letRainFall (σ := τ)) hk).1 (by have := (EK.kp (KP_X5_letRainFall (σ := τ)) hk).2.2.1; omega) (EK.wf (EK.kp (KP_X5_letRainFall (σ := τ)) hk) hW)) (EK.kp (KP_X5_letRainFall (σ := τ)) hk))).2.2.1; omega) ) (EK.kp (KP_X5_letWaterFlow (σ := (f_X5_pumpWells (f_X5_letRainFall τ)))) (EK.tr (EK_X5_pumpWells (σ := (f_X5_letRainFall τ)) (EK.kp (KP_X5_letRainFall (σ := τ)) hk).1 (by have := (EK.kp (KP_X5_letRainFall (σ := τ)) hk).2.2.1; omega) (EK.wf (EK.kp (KP_X5_letRainFall (σ := τ)) hk) hW)) (EK.kp (KP_X5_letRainFall (σ := τ)) hk))))))).1 (by have := (EK.kp (KP_X5_meetSea (σ := (f_X5_meetSea (f_X5_letSpringsRun (f_X5_letRiverRun (f_X5_letWaterFlow (f_X5_pumpWells (f_X5_letRainFall τ))))) 0)) (x := 8)) (EK.kp (KP_X5_meetSea (σ := (f_X5_letSpringsRun (f_X5_letRiverRun (f_X5_letWaterFlow (f_X5_pumpWells (f_X5_letRainFall τ)))))) (x := 0)) (EK.kp (KP_X5_letSpringsRun (σ := (f_X5_letRiverRun (f_X5_letWaterFlow (f_X5_pumpWells (f_X5_letRainFall τ)))))) (EK.tr (EK_X5_letRiverRun (σ := (f_X5_letWaterFlow (f_X5_pumpWells (f_X5_letRainFall τ)))) (EK.kp (KP_X5_letWaterFlow (σ := (f_X5_pumpWells (f_X5_letRainFall τ)))) (EK.tr (EK_X5_pumpWells (σ := (f_X5_letRainFall τ)) (EK.kp (KP_X5_letRainFall (σ := τ)) hk).1 (by have := (EK.kp (KP_X5_letRainFall (σ := τ)) hk).2.2.1; omega) (EK.wf (EK.kp (KP_X5_letRainFall (σ := τ)) hk) hW)) (EK.kp (KP_X5_letRainFall (σ := τ)) hk))).1 (by have := (EK.kp (KP_X5_letWaterFlow (σ := (f_X5_pumpWells (f_X5_letRainFall τ)))) (EK.tr (EK_X5_pumpWells (σ := (f_X5_letRainFall τ)) (EK.kp (KP_X5_letRainFall (σ := τ)) hk).1 (by have := (EK.kp (KP_X5_letRainFall (σ := τ)) hk).2.2.1; omega) (EK.wf (EK.kp (KP_X5_letRainFall (σ := τ)) hk) hW)) (EK.kp (KP_X5_letRainFall (σ := τ)) hk))).2.2.1; omega) ) (EK.kp (KP_X5_letWaterFlow (σ := (f_X5_pumpWells (f_X5_letRainFall τ)))) (EK.tr (EK_X5_pumpWells (σ := (f_X5_letRainFall τ)) (EK.kp (KP_X5_letRainFall (σ := τ)) hk).1 (by have := (EK.kp (KP_X5_letRainFall (σ := τ)) hk).2.2.1; omega) (EK.wf (EK.kp (KP_X5_letRainFall (σ := τ)) hk) hW)) (EK.kp (KP_X5_letRainFall (σ := τ)) hk))))))).2.2.1; omega) (EK.wf (EK.kp (KP_X5_meetSea (σ := (f_X5_meetSea (f_X5_letSpringsRun (f_X5_letRiverRun (f_X5_letWaterFlow (f_X5_pumpWells (f_X5_letRainFall τ))))) 0)) (x := 8)) (EK.kp (KP_X5_meetSea (σ := (f_X5_letSpringsRun (f_X5_letRiverRun (f_X5_letWaterFlow (f_X5_pumpWells (f_X5_letRainFall τ)))))) (x := 0)) (EK.kp (KP_X5_letSpringsRun (σ := (f_X5_letRiverRun (f_X5_letWaterFlow (f_X5_pumpWells (f_X5_letRainFall τ)))))) (EK.tr (EK_X5_letRiverRun (σ := (f_X5_letWaterFlow (f_X5_pumpWells (f_X5_letRainFall τ)))) (EK.kp (KP_X5_letWaterFlow (σ := (f_X5_pumpWells (f_X5_letRainFall τ)))) (EK.tr (EK_X5_pumpWells (σ := (f_X5_letRainFall τ)) (EK.kp (KP_X5_letRainFall (σ := τ)) hk).1 (by have := (EK.kp (KP_X5_letRainFall (σ := τ)) hk).2.2.1; omega) (EK.wf (EK.kp (KP_X5_letRainFall (σ := τ)) hk) hW)) (EK.kp (KP_X5_letRainFall (σ := τ)) hk))).1 (by have := (EK.kp (KP_X5_letWaterFlow (σ := (f_X5_pumpWells (f_X5_letRainFall τ)))) (EK.tr (EK_X5_pumpWells (σ := (f_X5_letRainFall τ)) (EK.kp (KP_X5_letRainFall (σ := τ)) hk).1 (by have := (EK.kp (KP_X5_letRainFall (σ := τ)) hk).2.2.1; omega) (EK.wf (EK.kp (KP_X5_letRainFall (σ := τ)) hk) hW)) (EK.kp (KP_X5_letRainFall (σ := τ)) hk))).2.2.1; omega) ) (EK.kp (KP_X5_letWaterFlow (σ := (f_X5_pumpWells (f_X5_letRainFall τ)))) (EK.tr (EK_X5_pumpWells (σ := (f_X5_letRainFall τ)) (EK.kp (KP_X5_letRainFall (σ := τ)) hk).1 (by have := (EK.kp (KP_X5_letRainFall (σ := τ)) hk).2.2.1; omega) (EK.wf (EK.kp (KP_X5_letRainFall (σ := τ)) hk) hW)) (EK.kp (KP_X5_letRainFall (σ := τ)) hk))))))) hW)).2.2.2.1; show eg (f_X5_meetSea (f_X5_meetSea (f_X5_letSpringsRun (f_X5_letRiverRun (f_X5_letWaterFlow (f_X5_pumpWells (f_X5_letRainFall τ))))) 0) 8) - eg σ + (eg (f_X5_endMonth (f_X5_meetSea (f_X5_meetSea (f_X5_letSpringsRun (f_X5_letRiverRun (f_X5_letWaterFlow (f_X5_pumpWells (f_X5_letRainFall τ))))) 0) 8)) - eg (f_X5_meetSea (f_X5_meetSea (f_X5_letSpringsRun (f_X5_letRiverRun (f_X5_letWaterFlow (f_X5_pumpWells (f_X5_letRainFall τ))))) 0) 8)) ≤ _; omega) (by have h1 := (EK.kp (KP_X5_meetSea (σ := (f_X5_meetSea (f_X5_letSpringsRun (f_X5_letRiverRun (f_X5_letWaterFlow (f_X5_pumpWells (f_X5_letRainFall τ))))) 0)) (x := 8)) (EK.kp (KP_X5_meetSea (σ := (f_X5_letSpringsRun (f_X5_letRiverRun (f_X5_letWaterFlow (f_X5_pumpWells (f_X5_letRainFall τ)))))) (x := 0)) (EK.kp (KP_X5_letSpringsRun (σ := (f_X5_letRiverRun (f_X5_letWaterFlow (f_X5_pumpWells (f_X5_letRainFall τ)))))) (EK.tr (EK_X5_letRiverRun (σ := (f_X5_letWaterFlow (f_X5_pumpWells (f_X5_letRainFall τ)))) (EK.kp (KP_X5_letWaterFlow (σ := (f_X5_pumpWells (f_X5_letRainFall τ)))) (EK.tr (EK_X5_pumpWells (σ := (f_X5_letRainFall τ)) (EK.kp (KP_X5_letRainFall (σ := τ)) hk).1 (by have := (EK.kp (KP_X5_letRainFall (σ := τ)) hk).2.2.1; omega) (EK.wf (EK.kp (KP_X5_letRainFall (σ := τ)) hk) hW)) (EK.kp (KP_X5_letRainFall (σ := τ)) hk))).1 (by have := (EK.kp (KP_X5_letWaterFlow (σ := (f_X5_pumpWells (f_X5_letRainFall τ)))) (EK.tr (EK_X5_pumpWells (σ := (f_X5_letRainFall τ)) (EK.kp (KP_X5_letRainFall (σ := τ)) hk).1 (by have := (EK.kp (KP_X5_letRainFall (σ := τ)) hk).2.2.1; omega) (EK.wf (EK.kp (KP_X5_letRainFall (σ := τ)) hk) hW)) (EK.kp (KP_X5_letRainFall (σ := τ)) hk))).2.2.1; omega) ) (EK.kp (KP_X5_letWaterFlow (σ := (f_X5_pumpWells (f_X5_letRainFall τ)))) (EK.tr (EK_X5_pumpWells (σ := (f_X5_letRainFall τ)) (EK.kp (KP_X5_letRainFall (σ := τ)) hk).1 (by have := (EK.kp (KP_X5_letRainFall (σ := τ)) hk).2.2.1; omega) (EK.wf (EK.kp (KP_X5_letRainFall (σ := τ)) hk) hW)) (EK.kp (KP_X5_letRainFall (σ := τ)) hk))))))).2.2.2.2.1; have h2 := (EK_X5_endMonth (σ := (f_X5_meetSea (f_X5_meetSea (f_X5_letSpringsRun (f_X5_letRiverRun (f_X5_letWaterFlow (f_X5_pumpWells (f_X5_letRainFall τ))))) 0) 8)) (EK.kp (KP_X5_meetSea (σ := (f_X5_meetSea (f_X5_letSpringsRun (f_X5_letRiverRun (f_X5_letWaterFlow (f_X5_pumpWells (f_X5_letRainFall τ))))) 0)) (x := 8)) (EK.kp (KP_X5_meetSea (σ := (f_X5_letSpringsRun (f_X5_letRiverRun (f_X5_letWaterFlow (f_X5_pumpWells (f_X5_letRainFall τ)))))) (x := 0)) (EK.kp (KP_X5_letSpringsRun (σ := (f_X5_letRiverRun (f_X5_letWaterFlow (f_X5_pumpWells (f_X5_letRainFall τ)))))) (EK.tr (EK_X5_letRiverRun (σ := (f_X5_letWaterFlow (f_X5_pumpWells (f_X5_letRainFall τ)))) (EK.kp (KP_X5_letWaterFlow (σ := (f_X5_pumpWells (f_X5_letRainFall τ)))) (EK.tr (EK_X5_pumpWells (σ := (f_X5_letRainFall τ)) (EK.kp (KP_X5_letRainFall (σ := τ)) hk).1 (by have := (EK.kp (KP_X5_letRainFall (σ := τ)) hk).2.2.1; omega) (EK.wf (EK.kp (KP_X5_letRainFall (σ := τ)) hk) hW)) (EK.kp (KP_X5_letRainFall (σ := τ)) hk))).1 (by have := (EK.kp (KP_X5_letWaterFlow (σ := (f_X5_pumpWells (f_X5_letRainFall τ)))) (EK.tr (EK_X5_pumpWells (σ := (f_X5_letRainFall τ)) (EK.kp (KP_X5_letRainFall (σ := τ)) hk).1 (by have := (EK.kp (KP_X5_letRainFall (σ := τ)) hk).2.2.1; omega) (EK.wf (EK.kp (KP_X5_letRainFall (σ := τ)) hk) hW)) (EK.kp (KP_X5_letRainFall (σ := τ)) hk))).2.2.1; omega) ) (EK.kp (KP_X5_letWaterFlow (σ := (f_X5_pumpWells (f_X5_letRainFall τ)))) (EK.tr (EK_X5_pumpWells (σ := (f_X5_letRainFall τ)) (EK.kp (KP_X5_letRainFall (σ := τ)) hk).1 (by have := (EK.kp (KP_X5_letRainFall (σ := τ)) hk).2.2.1; omega) (EK.wf (EK.kp (KP_X5_letRainFall (σ := τ)) hk) hW)) (EK.kp (KP_X5_letRainFall (σ := τ)) hk))))))).1 (by have := (EK.kp (KP_X5_meetSea (σ := (f_X5_meetSea (f_X5_letSpringsRun (f_X5_letRiverRun (f_X5_letWaterFlow (f_X5_pumpWells (f_X5_letRainFall τ))))) 0)) (x := 8)) (EK.kp (KP_X5_meetSea (σ := (f_X5_letSpringsRun (f_X5_letRiverRun (f_X5_letWaterFlow (f_X5_pumpWells (f_X5_letRainFall τ)))))) (x := 0)) (EK.kp (KP_X5_letSpringsRun (σ := (f_X5_letRiverRun (f_X5_letWaterFlow (f_X5_pumpWells (f_X5_letRainFall τ)))))) (EK.tr (EK_X5_letRiverRun (σ := (f_X5_letWaterFlow (f_X5_pumpWells (f_X5_letRainFall τ)))) (EK.kp (KP_X5_letWaterFlow (σ := (f_X5_pumpWells (f_X5_letRainFall τ)))) (EK.tr (EK_X5_pumpWells (σ := (f_X5_letRainFall τ)) (EK.kp (KP_X5_letRainFall (σ := τ)) hk).1 (by have := (EK.kp (KP_X5_letRainFall (σ := τ)) hk).2.2.1; omega) (EK.wf (EK.kp (KP_X5_letRainFall (σ := τ)) hk) hW)) (EK.kp (KP_X5_letRainFall (σ := τ)) hk))).1 (by have := (EK.kp (KP_X5_letWaterFlow (σ := (f_X5_pumpWells (f_X5_letRainFall τ)))) (EK.tr (EK_X5_pumpWells (σ := (f_X5_letRainFall τ)) (EK.kp (KP_X5_letRainFall (σ := τ)) hk).1 (by have := (EK.kp (KP_X5_letRainFall (σ := τ)) hk).2.2.1; omega) (EK.wf (EK.kp (KP_X5_letRainFall (σ := τ)) hk) hW)) (EK.kp (KP_X5_letRainFall (σ := τ)) hk))).2.2.1; omega) ) (EK.kp (KP_X5_letWaterFlow (σ := (f_X5_pumpWells (f_X5_letRainFall τ)))) (EK.tr (EK_X5_pumpWells (σ := (f_X5_letRainFall τ)) (EK.kp (KP_X5_letRainFall (σ := τ)) hk).1 (by have := (EK.kp (KP_X5_letRainFall (σ := τ)) hk).2.2.1; omega) (EK.wf (EK.kp (KP_X5_letRainFall (σ := τ)) hk) hW)) (EK.kp (KP_X5_letRainFall (σ := τ)) hk))))))).2.2.1; omega) (EK.wf (EK.kp (KP_X5_meetSea (σ := (f_X5_meetSea (f_X5_letSpringsRun (f_X5_letRiverRun (f_X5_letWaterFlow (f_X5_pumpWells (f_X5_letRainFall τ))))) 0)) (x := 8)) (EK.kp (KP_X5_meetSea (σ := (f_X5_letSpringsRun (f_X5_letRiverRun (f_X5_letWaterFlow (f_X5_pumpWells (f_X5_letRainFall τ)))))) (x := 0)) (EK.kp (KP_X5_letSpringsRun (σ := (f_X5_letRiverRun (f_X5_letWaterFlow (f_X5_pumpWells (f_X5_letRainFall τ)))))) (EK.tr (EK_X5_letRiverRun (σ := (f_X5_letWaterFlow (f_X5_pumpWells (f_X5_letRainFall τ)))) (EK.kp (KP_X5_letWaterFlow (σ := (f_X5_pumpWells (f_X5_letRainFall τ)))) (EK.tr (EK_X5_pumpWells (σ := (f_X5_letRainFall τ)) (EK.kp (KP_X5_letRainFall (σ := τ)) hk).1 (by have := (EK.kp (KP_X5_letRainFall (σ := τ)) hk).2.2.1; omega) (EK.wf (EK.kp (KP_X5_letRainFall (σ := τ)) hk) hW)) (EK.kp (KP_X5_letRainFall (σ := τ)) hk))).1 (by have := (EK.kp (KP_X5_letWaterFlow (σ := (f_X5_pumpWells (f_X5_letRainFall τ)))) (EK.tr (EK_X5_pumpWells (σ := (f_X5_letRainFall τ)) (EK.kp (KP_X5_letRainFall (σ := τ)) hk).1 (by have := (EK.kp (KP_X5_letRainFall (σ := τ)) hk).2.2.1; omega) (EK.wf (EK.kp (KP_X5_letRainFall (σ := τ)) hk) hW)) (EK.kp (KP_X5_letRainFall (σ := τ)) hk))).2.2.1; omega) ) (EK.kp (KP_X5_letWaterFlow (σ := (f_X5_pumpWells (f_X5_letRainFall τ)))) (EK.tr (EK_X5_pumpWells (σ := (f_X5_letRainFall τ)) (EK.kp (KP_X5_letRainFall (σ := τ)) hk).1 (by have := (EK.kp (KP_X5_letRainFall (σ := τ)) hk).2.2.1; omega) (EK.wf (EK.kp (KP_X5_letRainFall (σ := τ)) hk) hW)) (EK.kp (KP_X5_letRainFall (σ := τ)) hk))))))) hW)).2.2.2.2.1; show 2 * ec (f_X5_meetSea (f_X5_meetSea (f_X5_letSpringsRun (f_X5_letRiverRun (f_X5_letWaterFlow (f_X5_pumpWells (f_X5_letRainFall τ))))) 0) 8) - 2 * ec σ + (2 * ec (f_X5_endMonth (f_X5_meetSea (f_X5_meetSea (f_X5_letSpringsRun (f_X5_letRiverRun (f_X5_letWaterFlow (f_X5_pumpWells (f_X5_letRainFall τ))))) 0) 8)) - 2 * ec (f_X5_meetSea (f_X5_meetSea (f_X5_letSpringsRun (f_X5_letRiverRun (f_X5_letWaterFlow (f_X5_pumpWells (f_X5_letRainFall τ))))) 0) 8)) ≤ _; omega) ?_
      refine lv_iinc (v := (nI (i + 1))) (lv' := [(2, .int (nI (i + 1))), (0, .ref (ad 0)), (1, .int (nI mm))]) hx hb dX5_letMonthsPass_42 hl (k := 2) rfl (nI_1 i) (by decide) rfl (fun ls hl => ?_)
      refine lv_goto (tgt := 2) hx hb dX5_letMonthsPass_45 (by decide) ?_
      have hF : f_X5_letMonthsPass σ mm = f_X5_letMonthsPass_L2 mm k (i + 1) (f_X5_endMonth (f_X5_meetSea (f_X5_meetSea (f_X5_letSpringsRun (f_X5_letRiverRun (f_X5_letWaterFlow (f_X5_pumpWells (f_X5_letRainFall τ))))) 0) 8)) := by
        rw [hF]; rw [f_X5_letMonthsPass_L2]
      exact ih (i + 1) (by omega) (f_X5_endMonth (f_X5_meetSea (f_X5_meetSea (f_X5_letSpringsRun (f_X5_letRiverRun (f_X5_letWaterFlow (f_X5_pumpWells (f_X5_letRainFall τ))))) 0) 8)) ea_3  (EK.up (EK.tr (EK_X5_endMonth (σ := (f_X5_meetSea (f_X5_meetSea (f_X5_letSpringsRun (f_X5_letRiverRun (f_X5_letWaterFlow (f_X5_pumpWells (f_X5_letRainFall τ))))) 0) 8)) (EK.kp (KP_X5_meetSea (σ := (f_X5_meetSea (f_X5_letSpringsRun (f_X5_letRiverRun (f_X5_letWaterFlow (f_X5_pumpWells (f_X5_letRainFall τ))))) 0)) (x := 8)) (EK.kp (KP_X5_meetSea (σ := (f_X5_letSpringsRun (f_X5_letRiverRun (f_X5_letWaterFlow (f_X5_pumpWells (f_X5_letRainFall τ)))))) (x := 0)) (EK.kp (KP_X5_letSpringsRun (σ := (f_X5_letRiverRun (f_X5_letWaterFlow (f_X5_pumpWells (f_X5_letRainFall τ)))))) (EK.tr (EK_X5_letRiverRun (σ := (f_X5_letWaterFlow (f_X5_pumpWells (f_X5_letRainFall τ)))) (EK.kp (KP_X5_letWaterFlow (σ := (f_X5_pumpWells (f_X5_letRainFall τ)))) (EK.tr (EK_X5_pumpWells (σ := (f_X5_letRainFall τ)) (EK.kp (KP_X5_letRainFall (σ := τ)) hk).1 (by have := (EK.kp (KP_X5_letRainFall (σ := τ)) hk).2.2.1; omega) (EK.wf (EK.kp (KP_X5_letRainFall (σ := τ)) hk) hW)) (EK.kp (KP_X5_letRainFall (σ := τ)) hk))).1 (by have := (EK.kp (KP_X5_letWaterFlow (σ := (f_X5_pumpWells (f_X5_letRainFall τ)))) (EK.tr (EK_X5_pumpWells (σ := (f_X5_letRainFall τ)) (EK.kp (KP_X5_letRainFall (σ := τ)) hk).1 (by have := (EK.kp (KP_X5_letRainFall (σ := τ)) hk).2.2.1; omega) (EK.wf (EK.kp (KP_X5_letRainFall (σ := τ)) hk) hW)) (EK.kp (KP_X5_letRainFall (σ := τ)) hk))).2.2.1; omega) ) (EK.kp (KP_X5_letWaterFlow (σ := (f_X5_pumpWells (f_X5_letRainFall τ)))) (EK.tr (EK_X5_pumpWells (σ := (f_X5_letRainFall τ)) (EK.kp (KP_X5_letRainFall (σ := τ)) hk).1 (by have := (EK.kp (KP_X5_letRainFall (σ := τ)) hk).2.2.1; omega) (EK.wf (EK.kp (KP_X5_letRainFall (σ := τ)) hk) hW)) (EK.kp (KP_X5_letRainFall (σ := τ)) hk))))))).1 (by have := (EK.kp (KP_X5_meetSea (σ := (f_X5_meetSea (f_X5_letSpringsRun (f_X5_letRiverRun (f_X5_letWaterFlow (f_X5_pumpWells (f_X5_letRainFall τ))))) 0)) (x := 8)) (EK.kp (KP_X5_meetSea (σ := (f_X5_letSpringsRun (f_X5_letRiverRun (f_X5_letWaterFlow (f_X5_pumpWells (f_X5_letRainFall τ)))))) (x := 0)) (EK.kp (KP_X5_letSpringsRun (σ := (f_X5_letRiverRun (f_X5_letWaterFlow (f_X5_pumpWells (f_X5_letRainFall τ)))))) (EK.tr (EK_X5_letRiverRun (σ := (f_X5_letWaterFlow (f_X5_pumpWells (f_X5_letRainFall τ)))) (EK.kp (KP_X5_letWaterFlow (σ := (f_X5_pumpWells (f_X5_letRainFall τ)))) (EK.tr (EK_X5_pumpWells (σ := (f_X5_letRainFall τ)) (EK.kp (KP_X5_letRainFall (σ := τ)) hk).1 (by have := (EK.kp (KP_X5_letRainFall (σ := τ)) hk).2.2.1; omega) (EK.wf (EK.kp (KP_X5_letRainFall (σ := τ)) hk) hW)) (EK.kp (KP_X5_letRainFall (σ := τ)) hk))).1 (by have := (EK.kp (KP_X5_letWaterFlow (σ := (f_X5_pumpWells (f_X5_letRainFall τ)))) (EK.tr (EK_X5_pumpWells (σ := (f_X5_letRainFall τ)) (EK.kp (KP_X5_letRainFall (σ := τ)) hk).1 (by have := (EK.kp (KP_X5_letRainFall (σ := τ)) hk).2.2.1; omega) (EK.wf (EK.kp (KP_X5_letRainFall (σ := τ)) hk) hW)) (EK.kp (KP_X5_letRainFall (σ := τ)) hk))).2.2.1; omega) ) (EK.kp (KP_X5_letWaterFlow (σ := (f_X5_pumpWells (f_X5_letRainFall τ)))) (EK.tr (EK_X5_pumpWells (σ := (f_X5_letRainFall τ)) (EK.kp (KP_X5_letRainFall (σ := τ)) hk).1 (by have := (EK.kp (KP_X5_letRainFall (σ := τ)) hk).2.2.1; omega) (EK.wf (EK.kp (KP_X5_letRainFall (σ := τ)) hk) hW)) (EK.kp (KP_X5_letRainFall (σ := τ)) hk))))))).2.2.1; omega) (EK.wf (EK.kp (KP_X5_meetSea (σ := (f_X5_meetSea (f_X5_letSpringsRun (f_X5_letRiverRun (f_X5_letWaterFlow (f_X5_pumpWells (f_X5_letRainFall τ))))) 0)) (x := 8)) (EK.kp (KP_X5_meetSea (σ := (f_X5_letSpringsRun (f_X5_letRiverRun (f_X5_letWaterFlow (f_X5_pumpWells (f_X5_letRainFall τ)))))) (x := 0)) (EK.kp (KP_X5_letSpringsRun (σ := (f_X5_letRiverRun (f_X5_letWaterFlow (f_X5_pumpWells (f_X5_letRainFall τ)))))) (EK.tr (EK_X5_letRiverRun (σ := (f_X5_letWaterFlow (f_X5_pumpWells (f_X5_letRainFall τ)))) (EK.kp (KP_X5_letWaterFlow (σ := (f_X5_pumpWells (f_X5_letRainFall τ)))) (EK.tr (EK_X5_pumpWells (σ := (f_X5_letRainFall τ)) (EK.kp (KP_X5_letRainFall (σ := τ)) hk).1 (by have := (EK.kp (KP_X5_letRainFall (σ := τ)) hk).2.2.1; omega) (EK.wf (EK.kp (KP_X5_letRainFall (σ := τ)) hk) hW)) (EK.kp (KP_X5_letRainFall (σ := τ)) hk))).1 (by have := (EK.kp (KP_X5_letWaterFlow (σ := (f_X5_pumpWells (f_X5_letRainFall τ)))) (EK.tr (EK_X5_pumpWells (σ := (f_X5_letRainFall τ)) (EK.kp (KP_X5_letRainFall (σ := τ)) hk).1 (by have := (EK.kp (KP_X5_letRainFall (σ := τ)) hk).2.2.1; omega) (EK.wf (EK.kp (KP_X5_letRainFall (σ := τ)) hk) hW)) (EK.kp (KP_X5_letRainFall (σ := τ)) hk))).2.2.1; omega) ) (EK.kp (KP_X5_letWaterFlow (σ := (f_X5_pumpWells (f_X5_letRainFall τ)))) (EK.tr (EK_X5_pumpWells (σ := (f_X5_letRainFall τ)) (EK.kp (KP_X5_letRainFall (σ := τ)) hk).1 (by have := (EK.kp (KP_X5_letRainFall (σ := τ)) hk).2.2.1; omega) (EK.wf (EK.kp (KP_X5_letRainFall (σ := τ)) hk) hW)) (EK.kp (KP_X5_letRainFall (σ := τ)) hk))))))) hW)) (EK.kp (KP_X5_meetSea (σ := (f_X5_meetSea (f_X5_letSpringsRun (f_X5_letRiverRun (f_X5_letWaterFlow (f_X5_pumpWells (f_X5_letRainFall τ))))) 0)) (x := 8)) (EK.kp (KP_X5_meetSea (σ := (f_X5_letSpringsRun (f_X5_letRiverRun (f_X5_letWaterFlow (f_X5_pumpWells (f_X5_letRainFall τ)))))) (x := 0)) (EK.kp (KP_X5_letSpringsRun (σ := (f_X5_letRiverRun (f_X5_letWaterFlow (f_X5_pumpWells (f_X5_letRainFall τ)))))) (EK.tr (EK_X5_letRiverRun (σ := (f_X5_letWaterFlow (f_X5_pumpWells (f_X5_letRainFall τ)))) (EK.kp (KP_X5_letWaterFlow (σ := (f_X5_pumpWells (f_X5_letRainFall τ)))) (EK.tr (EK_X5_pumpWells (σ := (f_X5_letRainFall τ)) (EK.kp (KP_X5_letRainFall (σ := τ)) hk).1 (by have := (EK.kp (KP_X5_letRainFall (σ := τ)) hk).2.2.1; omega) (EK.wf (EK.kp (KP_X5_letRainFall (σ := τ)) hk) hW)) (EK.kp (KP_X5_letRainFall (σ := τ)) hk))).1 (by have := (EK.kp (KP_X5_letWaterFlow (σ := (f_X5_pumpWells (f_X5_letRainFall τ)))) (EK.tr (EK_X5_pumpWells (σ := (f_X5_letRainFall τ)) (EK.kp (KP_X5_letRainFall (σ := τ)) hk).1 (by have := (EK.kp (KP_X5_letRainFall (σ := τ)) hk).2.2.1; omega) (EK.wf (EK.kp (KP_X5_letRainFall (σ := τ)) hk) hW)) (EK.kp (KP_X5_letRainFall (σ := τ)) hk))).2.2.1; omega) ) (EK.kp (KP_X5_letWaterFlow (σ := (f_X5_pumpWells (f_X5_letRainFall τ)))) (EK.tr (EK_X5_pumpWells (σ := (f_X5_letRainFall τ)) (EK.kp (KP_X5_letRainFall (σ := τ)) hk).1 (by have := (EK.kp (KP_X5_letRainFall (σ := τ)) hk).2.2.1; omega) (EK.wf (EK.kp (KP_X5_letRainFall (σ := τ)) hk) hW)) (EK.kp (KP_X5_letRainFall (σ := τ)) hk)))))))) (by omega))  _ _ hF E ls (lv_sub hl [1, 2, 0] rfl)
  refine W.widen (k := eg σ - eg σ) (n := 2 * ec σ - 2 * ec σ) (Nat.zero_le _) (Nat.zero_le _) ?_
  refine lv_iconst (v := 0) hx hb dX5_letMonthsPass_0 (by decide) ?_
  refine lv_istore_n (lv' := [(2, .int 0), (0, .ref (ad 0)), (1, .int (nI mm))]) hx hb dX5_letMonthsPass_1 rfl hl (by decide) rfl (fun ls hl => ?_)
  have hF : f_X5_letMonthsPass σ mm = f_X5_letMonthsPass_L2 mm mm 0 σ := by
    rfl
  exact L2 mm 0 (by omega) σ ea  (EK.up (EK.rf hE) (by omega))  _ _ hF E ls (lv_sub hl [1, 2, 0] rfl)
end
section
theorem zz_look : True := trivial
end
