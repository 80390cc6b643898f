section
-- ===== PART A: goes FIRST, ahead of the names: the tables' words, and 'selects' of the private methods out of them =====
/-- a private method of a class that the tables say can be made, by its rows of tables_1 -/
def lw_okq (q : MethodName × Nat) : Prop := (q.1.cls ≠ "java/lang/invoke/MethodHandle" ∧ q.1.cls ≠ "java/lang/invoke/VarHandle") ∧ Cond.instantiable q.1.cls q.2 ∈ tables_1 ∧ Cond.privateMethod q.1 ∈ tables_1 ∧ Cond.instanceMethod q.1 ∈ tables_1
theorem lw_p0 : lw_okq (⟨"NearPlans$Search", "choose", "(LNearPlans$Goal;IIII)V"⟩, 10) := ⟨⟨by decide +kernel, by decide +kernel⟩, List.mem_of_getElem? (i := 177) (by decide +kernel), List.mem_of_getElem? (i := 478) (by decide +kernel), List.mem_of_getElem? (i := 479) (by decide +kernel)⟩
theorem lw_p1 : lw_okq (⟨"NearPlans$Rules", "isKept", "(I[III)Z"⟩, 9) := ⟨⟨by decide +kernel, by decide +kernel⟩, List.mem_of_getElem? (i := 83) (by decide +kernel), List.mem_of_getElem? (i := 520) (by decide +kernel), List.mem_of_getElem? (i := 521) (by decide +kernel)⟩
theorem lw_p2 : lw_okq (⟨"NearPlans$Past", "forgetOldest", "()V"⟩, 3) := ⟨⟨by decide +kernel, by decide +kernel⟩, List.mem_of_getElem? (i := 146) (by decide +kernel), List.mem_of_getElem? (i := 545) (by decide +kernel), List.mem_of_getElem? (i := 546) (by decide +kernel)⟩
theorem lw_p3 : lw_okq (⟨"NearPlans", "brokenNow", "()I"⟩, 12) := ⟨⟨by decide +kernel, by decide +kernel⟩, List.mem_of_getElem? (i := 18) (by decide +kernel), List.mem_of_getElem? (i := 582) (by decide +kernel), List.mem_of_getElem? (i := 583) (by decide +kernel)⟩
theorem lw_p4 : lw_okq (⟨"NearPlans$Scale", "movedOf", "(I[I)I"⟩, 2) := ⟨⟨by decide +kernel, by decide +kernel⟩, List.mem_of_getElem? (i := 164) (by decide +kernel), List.mem_of_getElem? (i := 596) (by decide +kernel), List.mem_of_getElem? (i := 597) (by decide +kernel)⟩
theorem lw_p5 : lw_okq (⟨"NearPlans", "leastCost", "()I"⟩, 12) := ⟨⟨by decide +kernel, by decide +kernel⟩, List.mem_of_getElem? (i := 18) (by decide +kernel), List.mem_of_getElem? (i := 612) (by decide +kernel), List.mem_of_getElem? (i := 613) (by decide +kernel)⟩
theorem lw_p6 : lw_okq (⟨"NearPlans", "staysWithout", "(II)Z"⟩, 12) := ⟨⟨by decide +kernel, by decide +kernel⟩, List.mem_of_getElem? (i := 18) (by decide +kernel), List.mem_of_getElem? (i := 645) (by decide +kernel), List.mem_of_getElem? (i := 646) (by decide +kernel)⟩
theorem lw_p7 : lw_okq (⟨"NearPlans$Route", "brokenWith", "(I[I)I"⟩, 10) := ⟨⟨by decide +kernel, by decide +kernel⟩, List.mem_of_getElem? (i := 270) (by decide +kernel), List.mem_of_getElem? (i := 663) (by decide +kernel), List.mem_of_getElem? (i := 664) (by decide +kernel)⟩
theorem lw_p8 : lw_okq (⟨"NearPlans$Route", "findPeaks", "(I)V"⟩, 10) := ⟨⟨by decide +kernel, by decide +kernel⟩, List.mem_of_getElem? (i := 270) (by decide +kernel), List.mem_of_getElem? (i := 670) (by decide +kernel), List.mem_of_getElem? (i := 671) (by decide +kernel)⟩
theorem lw_p9 : lw_okq (⟨"NearPlans$Route", "findSums", "(I)V"⟩, 10) := ⟨⟨by decide +kernel, by decide +kernel⟩, List.mem_of_getElem? (i := 270) (by decide +kernel), List.mem_of_getElem? (i := 678) (by decide +kernel), List.mem_of_getElem? (i := 679) (by decide +kernel)⟩
theorem lw_p10 : lw_okq (⟨"NearPlans$Route", "sumThrough", "(I)I"⟩, 10) := ⟨⟨by decide +kernel, by decide +kernel⟩, List.mem_of_getElem? (i := 270) (by decide +kernel), List.mem_of_getElem? (i := 682) (by decide +kernel), List.mem_of_getElem? (i := 683) (by decide +kernel)⟩
theorem lw_p11 : lw_okq (⟨"NearPlans$Route", "follow", "(I)V"⟩, 10) := ⟨⟨by decide +kernel, by decide +kernel⟩, List.mem_of_getElem? (i := 270) (by decide +kernel), List.mem_of_getElem? (i := 686) (by decide +kernel), List.mem_of_getElem? (i := 687) (by decide +kernel)⟩
theorem lw_p12 : lw_okq (⟨"NearPlans$Route", "leastStep", "(II)I"⟩, 10) := ⟨⟨by decide +kernel, by decide +kernel⟩, List.mem_of_getElem? (i := 270) (by decide +kernel), List.mem_of_getElem? (i := 690) (by decide +kernel), List.mem_of_getElem? (i := 691) (by decide +kernel)⟩
theorem lw_p13 : lw_okq (⟨"NearPlansModel", "noDecision", "(I)Z"⟩, 35) := ⟨⟨by decide +kernel, by decide +kernel⟩, List.mem_of_getElem? (i := 720) (by decide +kernel), List.mem_of_getElem? (i := 843) (by decide +kernel), List.mem_of_getElem? (i := 844) (by decide +kernel)⟩
theorem lw_p14 : lw_okq (⟨"NearPlansModel", "mayHave", "(II)Z"⟩, 35) := ⟨⟨by decide +kernel, by decide +kernel⟩, List.mem_of_getElem? (i := 720) (by decide +kernel), List.mem_of_getElem? (i := 855) (by decide +kernel), List.mem_of_getElem? (i := 856) (by decide +kernel)⟩
theorem lw_p15 : lw_okq (⟨"NearPlansModel", "findBest", "()Z"⟩, 35) := ⟨⟨by decide +kernel, by decide +kernel⟩, List.mem_of_getElem? (i := 720) (by decide +kernel), List.mem_of_getElem? (i := 903) (by decide +kernel), List.mem_of_getElem? (i := 904) (by decide +kernel)⟩
def lw_privs_1 : List (MethodName × Nat) := [(⟨"NearPlans$Search", "choose", "(LNearPlans$Goal;IIII)V"⟩, 10), (⟨"NearPlans$Rules", "isKept", "(I[III)Z"⟩, 9), (⟨"NearPlans$Past", "forgetOldest", "()V"⟩, 3), (⟨"NearPlans", "brokenNow", "()I"⟩, 12), (⟨"NearPlans$Scale", "movedOf", "(I[I)I"⟩, 2), (⟨"NearPlans", "leastCost", "()I"⟩, 12), (⟨"NearPlans", "staysWithout", "(II)Z"⟩, 12), (⟨"NearPlans$Route", "brokenWith", "(I[I)I"⟩, 10), (⟨"NearPlans$Route", "findPeaks", "(I)V"⟩, 10), (⟨"NearPlans$Route", "findSums", "(I)V"⟩, 10), (⟨"NearPlans$Route", "sumThrough", "(I)I"⟩, 10), (⟨"NearPlans$Route", "follow", "(I)V"⟩, 10), (⟨"NearPlans$Route", "leastStep", "(II)I"⟩, 10), (⟨"NearPlansModel", "noDecision", "(I)Z"⟩, 35), (⟨"NearPlansModel", "mayHave", "(II)Z"⟩, 35), (⟨"NearPlansModel", "findBest", "()Z"⟩, 35)]
theorem lw_r1 : ∀ q ∈ lw_privs_1, lw_okq q := List.forall_mem_cons.mpr ⟨lw_p0, List.forall_mem_cons.mpr ⟨lw_p1, List.forall_mem_cons.mpr ⟨lw_p2, List.forall_mem_cons.mpr ⟨lw_p3, List.forall_mem_cons.mpr ⟨lw_p4, List.forall_mem_cons.mpr ⟨lw_p5, List.forall_mem_cons.mpr ⟨lw_p6, List.forall_mem_cons.mpr ⟨lw_p7, List.forall_mem_cons.mpr ⟨lw_p8, List.forall_mem_cons.mpr ⟨lw_p9, List.forall_mem_cons.mpr ⟨lw_p10, List.forall_mem_cons.mpr ⟨lw_p11, List.forall_mem_cons.mpr ⟨lw_p12, List.forall_mem_cons.mpr ⟨lw_p13, List.forall_mem_cons.mpr ⟨lw_p14, List.forall_mem_cons.mpr ⟨lw_p15, fun _ h => absurd h List.not_mem_nil⟩⟩⟩⟩⟩⟩⟩⟩⟩⟩⟩⟩⟩⟩⟩⟩
theorem lw_p16 : lw_okq (⟨"NearPlansModel", "firstPlan", "()V"⟩, 35) := ⟨⟨by decide +kernel, by decide +kernel⟩, List.mem_of_getElem? (i := 720) (by decide +kernel), List.mem_of_getElem? (i := 907) (by decide +kernel), List.mem_of_getElem? (i := 908) (by decide +kernel)⟩
theorem lw_p17 : lw_okq (⟨"NearPlansModel", "isAllowed", "([I)Z"⟩, 35) := ⟨⟨by decide +kernel, by decide +kernel⟩, List.mem_of_getElem? (i := 720) (by decide +kernel), List.mem_of_getElem? (i := 911) (by decide +kernel), List.mem_of_getElem? (i := 912) (by decide +kernel)⟩
theorem lw_p18 : lw_okq (⟨"NearPlansModel", "isMoved", "([II)Z"⟩, 35) := ⟨⟨by decide +kernel, by decide +kernel⟩, List.mem_of_getElem? (i := 720) (by decide +kernel), List.mem_of_getElem? (i := 915) (by decide +kernel), List.mem_of_getElem? (i := 916) (by decide +kernel)⟩
theorem lw_p19 : lw_okq (⟨"NearPlansModel", "brokenOf", "([I)I"⟩, 35) := ⟨⟨by decide +kernel, by decide +kernel⟩, List.mem_of_getElem? (i := 720) (by decide +kernel), List.mem_of_getElem? (i := 919) (by decide +kernel), List.mem_of_getElem? (i := 920) (by decide +kernel)⟩
theorem lw_p20 : lw_okq (⟨"NearPlansModel", "keeps", "([II)Z"⟩, 35) := ⟨⟨by decide +kernel, by decide +kernel⟩, List.mem_of_getElem? (i := 720) (by decide +kernel), List.mem_of_getElem? (i := 923) (by decide +kernel), List.mem_of_getElem? (i := 924) (by decide +kernel)⟩
theorem lw_p21 : lw_okq (⟨"NearPlansModel", "costOf", "([I)I"⟩, 35) := ⟨⟨by decide +kernel, by decide +kernel⟩, List.mem_of_getElem? (i := 720) (by decide +kernel), List.mem_of_getElem? (i := 927) (by decide +kernel), List.mem_of_getElem? (i := 928) (by decide +kernel)⟩
theorem lw_p22 : lw_okq (⟨"NearPlansModel", "worthOf", "([I)I"⟩, 35) := ⟨⟨by decide +kernel, by decide +kernel⟩, List.mem_of_getElem? (i := 720) (by decide +kernel), List.mem_of_getElem? (i := 931) (by decide +kernel), List.mem_of_getElem? (i := 932) (by decide +kernel)⟩
theorem lw_p23 : lw_okq (⟨"NearPlansModel", "nextPlan", "()Z"⟩, 35) := ⟨⟨by decide +kernel, by decide +kernel⟩, List.mem_of_getElem? (i := 720) (by decide +kernel), List.mem_of_getElem? (i := 935) (by decide +kernel), List.mem_of_getElem? (i := 936) (by decide +kernel)⟩
theorem lw_p24 : lw_okq (⟨"NearPlansModel", "movedBits", "()I"⟩, 35) := ⟨⟨by decide +kernel, by decide +kernel⟩, List.mem_of_getElem? (i := 720) (by decide +kernel), List.mem_of_getElem? (i := 947) (by decide +kernel), List.mem_of_getElem? (i := 948) (by decide +kernel)⟩
theorem lw_p25 : lw_okq (⟨"NearPlansModel", "leastOf", "(I)I"⟩, 35) := ⟨⟨by decide +kernel, by decide +kernel⟩, List.mem_of_getElem? (i := 720) (by decide +kernel), List.mem_of_getElem? (i := 962) (by decide +kernel), List.mem_of_getElem? (i := 963) (by decide +kernel)⟩
theorem lw_p26 : lw_okq (⟨"NearPlansModel", "findWay", "()I"⟩, 35) := ⟨⟨by decide +kernel, by decide +kernel⟩, List.mem_of_getElem? (i := 720) (by decide +kernel), List.mem_of_getElem? (i := 982) (by decide +kernel), List.mem_of_getElem? (i := 983) (by decide +kernel)⟩
theorem lw_p27 : lw_okq (⟨"NearPlansModel", "goOn", "(IIII)V"⟩, 35) := ⟨⟨by decide +kernel, by decide +kernel⟩, List.mem_of_getElem? (i := 720) (by decide +kernel), List.mem_of_getElem? (i := 986) (by decide +kernel), List.mem_of_getElem? (i := 987) (by decide +kernel)⟩
theorem lw_p28 : lw_okq (⟨"NearPlansModel", "leastClash", "(I)I"⟩, 35) := ⟨⟨by decide +kernel, by decide +kernel⟩, List.mem_of_getElem? (i := 720) (by decide +kernel), List.mem_of_getElem? (i := 998) (by decide +kernel), List.mem_of_getElem? (i := 999) (by decide +kernel)⟩
theorem lw_p29 : lw_okq (⟨"NearPlansModel", "isClash", "(I)Z"⟩, 35) := ⟨⟨by decide +kernel, by decide +kernel⟩, List.mem_of_getElem? (i := 720) (by decide +kernel), List.mem_of_getElem? (i := 1002) (by decide +kernel), List.mem_of_getElem? (i := 1003) (by decide +kernel)⟩
def lw_privs_2 : List (MethodName × Nat) := [(⟨"NearPlansModel", "firstPlan", "()V"⟩, 35), (⟨"NearPlansModel", "isAllowed", "([I)Z"⟩, 35), (⟨"NearPlansModel", "isMoved", "([II)Z"⟩, 35), (⟨"NearPlansModel", "brokenOf", "([I)I"⟩, 35), (⟨"NearPlansModel", "keeps", "([II)Z"⟩, 35), (⟨"NearPlansModel", "costOf", "([I)I"⟩, 35), (⟨"NearPlansModel", "worthOf", "([I)I"⟩, 35), (⟨"NearPlansModel", "nextPlan", "()Z"⟩, 35), (⟨"NearPlansModel", "movedBits", "()I"⟩, 35), (⟨"NearPlansModel", "leastOf", "(I)I"⟩, 35), (⟨"NearPlansModel", "findWay", "()I"⟩, 35), (⟨"NearPlansModel", "goOn", "(IIII)V"⟩, 35), (⟨"NearPlansModel", "leastClash", "(I)I"⟩, 35), (⟨"NearPlansModel", "isClash", "(I)Z"⟩, 35)]
theorem lw_r2 : ∀ q ∈ lw_privs_2, lw_okq q := List.forall_mem_cons.mpr ⟨lw_p16, List.forall_mem_cons.mpr ⟨lw_p17, List.forall_mem_cons.mpr ⟨lw_p18, List.forall_mem_cons.mpr ⟨lw_p19, List.forall_mem_cons.mpr ⟨lw_p20, List.forall_mem_cons.mpr ⟨lw_p21, List.forall_mem_cons.mpr ⟨lw_p22, List.forall_mem_cons.mpr ⟨lw_p23, List.forall_mem_cons.mpr ⟨lw_p24, List.forall_mem_cons.mpr ⟨lw_p25, List.forall_mem_cons.mpr ⟨lw_p26, List.forall_mem_cons.mpr ⟨lw_p27, List.forall_mem_cons.mpr ⟨lw_p28, List.forall_mem_cons.mpr ⟨lw_p29, fun _ h => absurd h List.not_mem_nil⟩⟩⟩⟩⟩⟩⟩⟩⟩⟩⟩⟩⟩⟩
def lw_privs : List (MethodName × Nat) := lw_privs_1 ++ (lw_privs_2)
def lw_tbl : List Cond := k2_sels lw_privs ++ tables_1
theorem lw_privs_ok : ∀ q ∈ lw_privs, lw_okq q := by
  show ∀ q ∈ lw_privs_1 ++ (lw_privs_2), lw_okq q
  exact List.forall_mem_append.mpr ⟨lw_r1, lw_r2⟩
end
section
/-! ===== BEGIN printed: names, fields, word lists, decode rows ===== -/
def RX0 : String := "NearPlans$Best"
def TX0 : u_T := fun k => match k with
  | 0 => ("NearPlans$Best", "found", "Z", false)
  | 1 => ("NearPlans$Best", "cost", "I", false)
  | 2 => ("NearPlans$Best", "worthFound", "I", false)
  | 3 => ("NearPlans$Best", "byWorth", "Z", false)
  | _ => ("NearPlans$Best", "values", "[I", true)
def tyX0 : Nat → FieldType := fun k => match k with
  | 0 => .boolean
  | 1 => .int
  | 2 => .int
  | 3 => .boolean
  | _ => .array .int
abbrev wsX00 : List Cond := u_ws RX0 TX0 5
theorem nmX0 : ∀ a, a < 5 → ∀ b, b < 5 → a ≠ b → (TX0 a).2.1 ≠ (TX0 b).2.1 := by decide +kernel
theorem tyX0_ok : ∀ k, k < 5 → parseFieldDescriptor (TX0 k).2.2.1 = some (tyX0 k) := by decide +kernel
abbrev cX0_init : ByteArray := prog_2_method_1_code
def yX0_init : MethodName := ⟨RX0, "<init>", "()V"⟩
abbrev cX0_begin : ByteArray := prog_2_method_2_code
def yX0_begin : MethodName := ⟨RX0, "begin", "(Z)V"⟩
abbrev cX0_isHopeless : ByteArray := prog_2_method_3_code
def yX0_isHopeless : MethodName := ⟨RX0, "isHopeless", "(III)Z"⟩
abbrev cX0_reach : ByteArray := prog_2_method_4_code
def yX0_reach : MethodName := ⟨RX0, "reach", "([IIII)V"⟩
def RX1 : String := "NearPlans$Clash"
def TX1 : u_T := fun k => match k with
  | 0 => ("NearPlans$Clash", "all", "I", false)
  | _ => ("NearPlans$Clash", "covered", "[Z", true)
def tyX1 : Nat → FieldType := fun k => match k with
  | 0 => .int
  | _ => .array .boolean
abbrev wsX10 : List Cond := u_ws RX1 TX1 2
theorem nmX1 : ∀ a, a < 2 → ∀ b, b < 2 → a ≠ b → (TX1 a).2.1 ≠ (TX1 b).2.1 := by decide +kernel
theorem tyX1_ok : ∀ k, k < 2 → parseFieldDescriptor (TX1 k).2.2.1 = some (tyX1 k) := by decide +kernel
abbrev cX1_init : ByteArray := prog_3_method_1_code
def yX1_init : MethodName := ⟨RX1, "<init>", "()V"⟩
abbrev cX1_begin : ByteArray := prog_3_method_2_code
def yX1_begin : MethodName := ⟨RX1, "begin", "(I)V"⟩
abbrev cX1_isHopeless : ByteArray := prog_3_method_3_code
def yX1_isHopeless : MethodName := ⟨RX1, "isHopeless", "(III)Z"⟩
abbrev cX1_reach : ByteArray := prog_3_method_4_code
def yX1_reach : MethodName := ⟨RX1, "reach", "([IIII)V"⟩
abbrev cX1_leastSet : ByteArray := prog_3_method_5_code
def yX1_leastSet : MethodName := ⟨RX1, "leastSet", "()I"⟩
abbrev cX1_isLess : ByteArray := prog_3_method_6_code
def yX1_isLess : MethodName := ⟨RX1, "isLess", "(II)Z"⟩
def RX2 : String := "NearPlans$Count"
def TX2 : u_T := fun k => match k with
  | 0 => ("NearPlans$Count", "number", "I", false)
  | _ => ("NearPlans$Count", "mostCost", "I", false)
def tyX2 : Nat → FieldType := fun k => match k with
  | 0 => .int
  | _ => .int
abbrev wsX20 : List Cond := u_ws RX2 TX2 2
theorem nmX2 : ∀ a, a < 2 → ∀ b, b < 2 → a ≠ b → (TX2 a).2.1 ≠ (TX2 b).2.1 := by decide +kernel
theorem tyX2_ok : ∀ k, k < 2 → parseFieldDescriptor (TX2 k).2.2.1 = some (tyX2 k) := by decide +kernel
abbrev cX2_init : ByteArray := prog_4_method_1_code
def yX2_init : MethodName := ⟨RX2, "<init>", "()V"⟩
abbrev cX2_begin : ByteArray := prog_4_method_2_code
def yX2_begin : MethodName := ⟨RX2, "begin", "(I)V"⟩
abbrev cX2_isHopeless : ByteArray := prog_4_method_3_code
def yX2_isHopeless : MethodName := ⟨RX2, "isHopeless", "(III)Z"⟩
abbrev cX2_reach : ByteArray := prog_4_method_4_code
def yX2_reach : MethodName := ⟨RX2, "reach", "([IIII)V"⟩
def RX3 : String := "NearPlans$Decisions"
def TX3 : u_T := fun k => match k with
  | 0 => ("NearPlans$Decisions", "number", "I", false)
  | 1 => ("NearPlans$Decisions", "lows", "[I", true)
  | 2 => ("NearPlans$Decisions", "highs", "[I", true)
  | 3 => ("NearPlans$Decisions", "persons", "[I", true)
  | 4 => ("NearPlans$Decisions", "weights", "[I", true)
  | 5 => ("NearPlans$Decisions", "pers", "[I", true)
  | 6 => ("NearPlans$Decisions", "pins", "[I", true)
  | 7 => ("NearPlans$Decisions", "worths", "[[I", true)
  | _ => ("NearPlans$Decisions", "limits", "[I", true)
def tyX3 : Nat → FieldType := fun k => match k with
  | 0 => .int
  | 1 => .array .int
  | 2 => .array .int
  | 3 => .array .int
  | 4 => .array .int
  | 5 => .array .int
  | 6 => .array .int
  | 7 => .array (.array .int)
  | _ => .array .int
abbrev wsX30 : List Cond := u_ws RX3 TX3 9
theorem nmX3 : ∀ a, a < 9 → ∀ b, b < 9 → a ≠ b → (TX3 a).2.1 ≠ (TX3 b).2.1 := by decide +kernel
theorem tyX3_ok : ∀ k, k < 9 → parseFieldDescriptor (TX3 k).2.2.1 = some (tyX3 k) := by decide +kernel
abbrev cX3_init : ByteArray := prog_5_method_1_code
def yX3_init : MethodName := ⟨RX3, "<init>", "()V"⟩
abbrev cX3_add : ByteArray := prog_5_method_2_code
def yX3_add : MethodName := ⟨RX3, "add", "(III)I"⟩
abbrev cX3_has : ByteArray := prog_5_method_3_code
def yX3_has : MethodName := ⟨RX3, "has", "(I)Z"⟩
abbrev cX3_mayHave : ByteArray := prog_5_method_4_code
def yX3_mayHave : MethodName := ⟨RX3, "mayHave", "(II)Z"⟩
abbrev cX3_pinLets : ByteArray := prog_5_method_5_code
def yX3_pinLets : MethodName := ⟨RX3, "pinLets", "(II)Z"⟩
def RX4 : String := "NearPlans$Goal"
def TX4 : u_T := fun k => match k with
  | _ => ("", "", "", false)
def tyX4 : Nat → FieldType := fun k => match k with
  | _ => .int
abbrev wsX40 : List Cond := u_ws RX4 TX4 0
theorem nmX4 : ∀ a, a < 0 → ∀ b, b < 0 → a ≠ b → (TX4 a).2.1 ≠ (TX4 b).2.1 := by decide +kernel
theorem tyX4_ok : ∀ k, k < 0 → parseFieldDescriptor (TX4 k).2.2.1 = some (tyX4 k) := by decide +kernel
abbrev cX4_init : ByteArray := prog_6_method_1_code
def yX4_init : MethodName := ⟨RX4, "<init>", "()V"⟩
def RX5 : String := "NearPlans$Kept"
def TX5 : u_T := fun k => match k with
  | 0 => ("NearPlans$Kept", "number", "I", false)
  | 1 => ("NearPlans$Kept", "current", "I", false)
  | 2 => ("NearPlans$Kept", "plans", "[[I", true)
  | _ => ("NearPlans$Kept", "facts", "[[I", true)
def tyX5 : Nat → FieldType := fun k => match k with
  | 0 => .int
  | 1 => .int
  | 2 => .array (.array .int)
  | _ => .array (.array .int)
abbrev wsX50 : List Cond := u_ws RX5 TX5 4
theorem nmX5 : ∀ a, a < 4 → ∀ b, b < 4 → a ≠ b → (TX5 a).2.1 ≠ (TX5 b).2.1 := by decide +kernel
theorem tyX5_ok : ∀ k, k < 4 → parseFieldDescriptor (TX5 k).2.2.1 = some (tyX5 k) := by decide +kernel
abbrev cX5_init : ByteArray := prog_7_method_1_code
def yX5_init : MethodName := ⟨RX5, "<init>", "()V"⟩
abbrev cX5_add : ByteArray := prog_7_method_2_code
def yX5_add : MethodName := ⟨RX5, "add", "([I[I)I"⟩
abbrev cX5_has : ByteArray := prog_7_method_3_code
def yX5_has : MethodName := ⟨RX5, "has", "(I)Z"⟩
abbrev cX5_hasBase : ByteArray := prog_7_method_4_code
def yX5_hasBase : MethodName := ⟨RX5, "hasBase", "()Z"⟩
abbrev cX5_valueThen : ByteArray := prog_7_method_5_code
def yX5_valueThen : MethodName := ⟨RX5, "valueThen", "(I)I"⟩
abbrev cX5_moves : ByteArray := prog_7_method_6_code
def yX5_moves : MethodName := ⟨RX5, "moves", "(II)Z"⟩
abbrev cX5_factThen : ByteArray := prog_7_method_7_code
def yX5_factThen : MethodName := ⟨RX5, "factThen", "(I)I"⟩
def RX6 : String := "NearPlans$Past"
def TX6 : u_T := fun k => match k with
  | 0 => ("NearPlans$Past", "number", "I", false)
  | 1 => ("NearPlans$Past", "plans", "[[I", true)
  | _ => ("NearPlans$Past", "sizes", "[I", true)
def tyX6 : Nat → FieldType := fun k => match k with
  | 0 => .int
  | 1 => .array (.array .int)
  | _ => .array .int
abbrev wsX60 : List Cond := u_ws RX6 TX6 3
theorem nmX6 : ∀ a, a < 3 → ∀ b, b < 3 → a ≠ b → (TX6 a).2.1 ≠ (TX6 b).2.1 := by decide +kernel
theorem tyX6_ok : ∀ k, k < 3 → parseFieldDescriptor (TX6 k).2.2.1 = some (tyX6 k) := by decide +kernel
abbrev cX6_init : ByteArray := prog_8_method_1_code
def yX6_init : MethodName := ⟨RX6, "<init>", "()V"⟩
abbrev cX6_push : ByteArray := prog_8_method_2_code
def yX6_push : MethodName := ⟨RX6, "push", "([II)V"⟩
abbrev cX6_pop : ByteArray := prog_8_method_3_code
def yX6_pop : MethodName := ⟨RX6, "pop", "([I)V"⟩
abbrev cX6_forgetOldest : ByteArray := prog_8_method_4_code
def yX6_forgetOldest : MethodName := ⟨RX6, "forgetOldest", "()V"⟩
def RX7 : String := "NearPlans$Route"
def TX7 : u_T := fun k => match k with
  | 0 => ("NearPlans$Route", "length", "I", false)
  | 1 => ("NearPlans$Route", "steps", "[I", true)
  | 2 => ("NearPlans$Route", "brokenBehind", "[I", true)
  | 3 => ("NearPlans$Route", "decisions", "LNearPlans$Decisions;", true)
  | 4 => ("NearPlans$Route", "rules", "LNearPlans$Rules;", true)
  | 5 => ("NearPlans$Route", "kept", "LNearPlans$Kept;", true)
  | 6 => ("NearPlans$Route", "between", "[I", true)
  | 7 => ("NearPlans$Route", "brokenAfter", "[I", true)
  | 8 => ("NearPlans$Route", "peakToCome", "[I", true)
  | _ => ("NearPlans$Route", "sumToCome", "[I", true)
def tyX7 : Nat → FieldType := fun k => match k with
  | 0 => .int
  | 1 => .array .int
  | 2 => .array .int
  | 3 => .object "NearPlans$Decisions"
  | 4 => .object "NearPlans$Rules"
  | 5 => .object "NearPlans$Kept"
  | 6 => .array .int
  | 7 => .array .int
  | 8 => .array .int
  | _ => .array .int
abbrev wsX70 : List Cond := u_ws RX7 TX7 10
theorem nmX7 : ∀ a, a < 10 → ∀ b, b < 10 → a ≠ b → (TX7 a).2.1 ≠ (TX7 b).2.1 := by decide +kernel
theorem tyX7_ok : ∀ k, k < 10 → parseFieldDescriptor (TX7 k).2.2.1 = some (tyX7 k) := by decide +kernel
abbrev cX7_init : ByteArray := prog_9_method_1_code
def yX7_init : MethodName := ⟨RX7, "<init>", "(LNearPlans$Decisions;LNearPlans$Rules;LNearPlans$Kept;)V"⟩
abbrev cX7_find : ByteArray := prog_9_method_2_code
def yX7_find : MethodName := ⟨RX7, "find", "([II)V"⟩
abbrev cX7_brokenWith : ByteArray := prog_9_method_3_code
def yX7_brokenWith : MethodName := ⟨RX7, "brokenWith", "(I[I)I"⟩
abbrev cX7_findPeaks : ByteArray := prog_9_method_4_code
def yX7_findPeaks : MethodName := ⟨RX7, "findPeaks", "(I)V"⟩
abbrev cX7_findSums : ByteArray := prog_9_method_5_code
def yX7_findSums : MethodName := ⟨RX7, "findSums", "(I)V"⟩
abbrev cX7_sumThrough : ByteArray := prog_9_method_6_code
def yX7_sumThrough : MethodName := ⟨RX7, "sumThrough", "(I)I"⟩
abbrev cX7_follow : ByteArray := prog_9_method_7_code
def yX7_follow : MethodName := ⟨RX7, "follow", "(I)V"⟩
abbrev cX7_leastStep : ByteArray := prog_9_method_8_code
def yX7_leastStep : MethodName := ⟨RX7, "leastStep", "(II)I"⟩
def RX8 : String := "NearPlans$Rules"
def TX8 : u_T := fun k => match k with
  | 0 => ("NearPlans$Rules", "factNumber", "I", false)
  | 1 => ("NearPlans$Rules", "facts", "[I", true)
  | 2 => ("NearPlans$Rules", "number", "I", false)
  | 3 => ("NearPlans$Rules", "kinds", "[I", true)
  | 4 => ("NearPlans$Rules", "lefts", "[I", true)
  | 5 => ("NearPlans$Rules", "rights", "[I", true)
  | 6 => ("NearPlans$Rules", "factOf", "[I", true)
  | 7 => ("NearPlans$Rules", "decidedWith", "[I", true)
  | _ => ("NearPlans$Rules", "countingValue", "[I", true)
def tyX8 : Nat → FieldType := fun k => match k with
  | 0 => .int
  | 1 => .array .int
  | 2 => .int
  | 3 => .array .int
  | 4 => .array .int
  | 5 => .array .int
  | 6 => .array .int
  | 7 => .array .int
  | _ => .array .int
abbrev wsX80 : List Cond := u_ws RX8 TX8 9
theorem nmX8 : ∀ a, a < 9 → ∀ b, b < 9 → a ≠ b → (TX8 a).2.1 ≠ (TX8 b).2.1 := by decide +kernel
theorem tyX8_ok : ∀ k, k < 9 → parseFieldDescriptor (TX8 k).2.2.1 = some (tyX8 k) := by decide +kernel
abbrev cX8_init : ByteArray := prog_10_method_1_code
def yX8_init : MethodName := ⟨RX8, "<init>", "()V"⟩
abbrev cX8_addFact : ByteArray := prog_10_method_2_code
def yX8_addFact : MethodName := ⟨RX8, "addFact", "(I)I"⟩
abbrev cX8_hasFact : ByteArray := prog_10_method_3_code
def yX8_hasFact : MethodName := ⟨RX8, "hasFact", "(I)Z"⟩
abbrev cX8_add : ByteArray := prog_10_method_4_code
def yX8_add : MethodName := ⟨RX8, "add", "(IIII)I"⟩
abbrev cX8_has : ByteArray := prog_10_method_5_code
def yX8_has : MethodName := ⟨RX8, "has", "(I)Z"⟩
abbrev cX8_brokenIn : ByteArray := prog_10_method_6_code
def yX8_brokenIn : MethodName := ⟨RX8, "brokenIn", "([II[I)I"⟩
abbrev cX8_brokenByNone : ByteArray := prog_10_method_7_code
def yX8_brokenByNone : MethodName := ⟨RX8, "brokenByNone", "([I)I"⟩
abbrev cX8_brokenAt : ByteArray := prog_10_method_8_code
def yX8_brokenAt : MethodName := ⟨RX8, "brokenAt", "([II[I)I"⟩
abbrev cX8_isKept : ByteArray := prog_10_method_9_code
def yX8_isKept : MethodName := ⟨RX8, "isKept", "(I[III)Z"⟩
abbrev cX8_timesUpTo : ByteArray := prog_10_method_10_code
def yX8_timesUpTo : MethodName := ⟨RX8, "timesUpTo", "(I[II)I"⟩
def RX9 : String := "NearPlans$Scale"
def TX9 : u_T := fun k => match k with
  | 0 => ("NearPlans$Scale", "decisions", "LNearPlans$Decisions;", true)
  | _ => ("NearPlans$Scale", "kept", "LNearPlans$Kept;", true)
def tyX9 : Nat → FieldType := fun k => match k with
  | 0 => .object "NearPlans$Decisions"
  | _ => .object "NearPlans$Kept"
abbrev wsX90 : List Cond := u_ws RX9 TX9 2
theorem nmX9 : ∀ a, a < 2 → ∀ b, b < 2 → a ≠ b → (TX9 a).2.1 ≠ (TX9 b).2.1 := by decide +kernel
theorem tyX9_ok : ∀ k, k < 2 → parseFieldDescriptor (TX9 k).2.2.1 = some (tyX9 k) := by decide +kernel
abbrev cX9_init : ByteArray := prog_11_method_1_code
def yX9_init : MethodName := ⟨RX9, "<init>", "(LNearPlans$Decisions;LNearPlans$Kept;)V"⟩
abbrev cX9_costAt : ByteArray := prog_11_method_2_code
def yX9_costAt : MethodName := ⟨RX9, "costAt", "(II)I"⟩
abbrev cX9_costOf : ByteArray := prog_11_method_3_code
def yX9_costOf : MethodName := ⟨RX9, "costOf", "([I)I"⟩
abbrev cX9_worthAt : ByteArray := prog_11_method_4_code
def yX9_worthAt : MethodName := ⟨RX9, "worthAt", "(II)I"⟩
abbrev cX9_worthOf : ByteArray := prog_11_method_5_code
def yX9_worthOf : MethodName := ⟨RX9, "worthOf", "([I)I"⟩
abbrev cX9_mostWorthAt : ByteArray := prog_11_method_6_code
def yX9_mostWorthAt : MethodName := ⟨RX9, "mostWorthAt", "(I)I"⟩
abbrev cX9_movedBits : ByteArray := prog_11_method_7_code
def yX9_movedBits : MethodName := ⟨RX9, "movedBits", "([I)I"⟩
abbrev cX9_isAllowed : ByteArray := prog_11_method_8_code
def yX9_isAllowed : MethodName := ⟨RX9, "isAllowed", "([I)Z"⟩
abbrev cX9_movedOf : ByteArray := prog_11_method_9_code
def yX9_movedOf : MethodName := ⟨RX9, "movedOf", "(I[I)I"⟩
def RX10 : String := "NearPlans$Search"
def TX10 : u_T := fun k => match k with
  | 0 => ("NearPlans$Search", "decisions", "LNearPlans$Decisions;", true)
  | 1 => ("NearPlans$Search", "rules", "LNearPlans$Rules;", true)
  | 2 => ("NearPlans$Search", "kept", "LNearPlans$Kept;", true)
  | 3 => ("NearPlans$Search", "scale", "LNearPlans$Scale;", true)
  | 4 => ("NearPlans$Search", "facts", "[I", true)
  | 5 => ("NearPlans$Search", "limits", "[I", true)
  | 6 => ("NearPlans$Search", "counting", "I", false)
  | 7 => ("NearPlans$Search", "moved", "[I", true)
  | 8 => ("NearPlans$Search", "values", "[I", true)
  | _ => ("NearPlans$Search", "worthBehind", "[I", true)
def tyX10 : Nat → FieldType := fun k => match k with
  | 0 => .object "NearPlans$Decisions"
  | 1 => .object "NearPlans$Rules"
  | 2 => .object "NearPlans$Kept"
  | 3 => .object "NearPlans$Scale"
  | 4 => .array .int
  | 5 => .array .int
  | 6 => .int
  | 7 => .array .int
  | 8 => .array .int
  | _ => .array .int
abbrev wsX100 : List Cond := u_ws RX10 TX10 10
theorem nmX10 : ∀ a, a < 10 → ∀ b, b < 10 → a ≠ b → (TX10 a).2.1 ≠ (TX10 b).2.1 := by decide +kernel
theorem tyX10_ok : ∀ k, k < 10 → parseFieldDescriptor (TX10 k).2.2.1 = some (tyX10 k) := by decide +kernel
abbrev cX10_init : ByteArray := prog_12_method_1_code
def yX10_init : MethodName := ⟨RX10, "<init>", "(LNearPlans$Decisions;LNearPlans$Rules;LNearPlans$Kept;LNearPlans$Scale;)V"⟩
abbrev cX10_asNow : ByteArray := prog_12_method_2_code
def yX10_asNow : MethodName := ⟨RX10, "asNow", "()V"⟩
abbrev cX10_leaveOut : ByteArray := prog_12_method_3_code
def yX10_leaveOut : MethodName := ⟨RX10, "leaveOut", "(I)V"⟩
abbrev cX10_hold : ByteArray := prog_12_method_4_code
def yX10_hold : MethodName := ⟨RX10, "hold", "(I)V"⟩
abbrev cX10_turnBack : ByteArray := prog_12_method_5_code
def yX10_turnBack : MethodName := ⟨RX10, "turnBack", "(I)V"⟩
abbrev cX10_seek : ByteArray := prog_12_method_6_code
def yX10_seek : MethodName := ⟨RX10, "seek", "(LNearPlans$Goal;)V"⟩
abbrev cX10_choose : ByteArray := prog_12_method_7_code
def yX10_choose : MethodName := ⟨RX10, "choose", "(LNearPlans$Goal;IIII)V"⟩
def RX11 : String := "NearPlans"
def TX11 : u_T := fun k => match k with
  | 0 => ("NearPlans", "decisions", "LNearPlans$Decisions;", true)
  | 1 => ("NearPlans", "rules", "LNearPlans$Rules;", true)
  | 2 => ("NearPlans", "keptPlans", "LNearPlans$Kept;", true)
  | 3 => ("NearPlans", "past", "LNearPlans$Past;", true)
  | 4 => ("NearPlans", "scale", "LNearPlans$Scale;", true)
  | 5 => ("NearPlans", "search", "LNearPlans$Search;", true)
  | 6 => ("NearPlans", "best", "LNearPlans$Best;", true)
  | 7 => ("NearPlans", "count", "LNearPlans$Count;", true)
  | 8 => ("NearPlans", "conflict", "LNearPlans$Clash;", true)
  | 9 => ("NearPlans", "route", "LNearPlans$Route;", true)
  | 10 => ("NearPlans", "plan", "[I", true)
  | _ => ("NearPlans", "worthFirst", "Z", false)
def tyX11 : Nat → FieldType := fun k => match k with
  | 0 => .object "NearPlans$Decisions"
  | 1 => .object "NearPlans$Rules"
  | 2 => .object "NearPlans$Kept"
  | 3 => .object "NearPlans$Past"
  | 4 => .object "NearPlans$Scale"
  | 5 => .object "NearPlans$Search"
  | 6 => .object "NearPlans$Best"
  | 7 => .object "NearPlans$Count"
  | 8 => .object "NearPlans$Clash"
  | 9 => .object "NearPlans$Route"
  | 10 => .array .int
  | _ => .boolean
abbrev wsX110 : List Cond := u_ws RX11 TX11 12
theorem nmX11 : ∀ a, a < 12 → ∀ b, b < 12 → a ≠ b → (TX11 a).2.1 ≠ (TX11 b).2.1 := by decide +kernel
theorem tyX11_ok : ∀ k, k < 12 → parseFieldDescriptor (TX11 k).2.2.1 = some (tyX11 k) := by decide +kernel
abbrev cX11_init : ByteArray := prog_1_method_1_code
def yX11_init : MethodName := ⟨RX11, "<init>", "()V"⟩
abbrev cX11_decision : ByteArray := prog_1_method_2_code
def yX11_decision : MethodName := ⟨RX11, "decision", "(III)I"⟩
abbrev cX11_weight : ByteArray := prog_1_method_3_code
def yX11_weight : MethodName := ⟨RX11, "weight", "(III)I"⟩
abbrev cX11_worth : ByteArray := prog_1_method_4_code
def yX11_worth : MethodName := ⟨RX11, "worth", "(III)I"⟩
abbrev cX11_pin : ByteArray := prog_1_method_5_code
def yX11_pin : MethodName := ⟨RX11, "pin", "(II)I"⟩
abbrev cX11_limit : ByteArray := prog_1_method_6_code
def yX11_limit : MethodName := ⟨RX11, "limit", "(II)I"⟩
abbrev cX11_fact : ByteArray := prog_1_method_7_code
def yX11_fact : MethodName := ⟨RX11, "fact", "(I)I"⟩
abbrev cX11_change : ByteArray := prog_1_method_8_code
def yX11_change : MethodName := ⟨RX11, "change", "(II)I"⟩
abbrev cX11_rule : ByteArray := prog_1_method_9_code
def yX11_rule : MethodName := ⟨RX11, "rule", "(IIII)I"⟩
abbrev cX11_first : ByteArray := prog_1_method_10_code
def yX11_first : MethodName := ⟨RX11, "first", "(I)I"⟩
abbrev cX11_put : ByteArray := prog_1_method_11_code
def yX11_put : MethodName := ⟨RX11, "put", "(II)I"⟩
abbrev cX11_value : ByteArray := prog_1_method_12_code
def yX11_value : MethodName := ⟨RX11, "value", "(I)I"⟩
abbrev cX11_keep : ByteArray := prog_1_method_13_code
def yX11_keep : MethodName := ⟨RX11, "keep", "()I"⟩
abbrev cX11_base : ByteArray := prog_1_method_14_code
def yX11_base : MethodName := ⟨RX11, "base", "(I)I"⟩
abbrev cX11_old : ByteArray := prog_1_method_15_code
def yX11_old : MethodName := ⟨RX11, "old", "(II)I"⟩
abbrev cX11_run : ByteArray := prog_1_method_16_code
def yX11_run : MethodName := ⟨RX11, "run", "()I"⟩
abbrev cX11_undo : ByteArray := prog_1_method_17_code
def yX11_undo : MethodName := ⟨RX11, "undo", "()I"⟩
abbrev cX11_told : ByteArray := prog_1_method_18_code
def yX11_told : MethodName := ⟨RX11, "told", "(I)I"⟩
abbrev cX11_near : ByteArray := prog_1_method_19_code
def yX11_near : MethodName := ⟨RX11, "near", "(I)I"⟩
abbrev cX11_least : ByteArray := prog_1_method_20_code
def yX11_least : MethodName := ⟨RX11, "least", "()I"⟩
abbrev cX11_without : ByteArray := prog_1_method_21_code
def yX11_without : MethodName := ⟨RX11, "without", "(I)I"⟩
abbrev cX11_spare : ByteArray := prog_1_method_22_code
def yX11_spare : MethodName := ⟨RX11, "spare", "(I)I"⟩
abbrev cX11_why : ByteArray := prog_1_method_23_code
def yX11_why : MethodName := ⟨RX11, "why", "(I)I"⟩
abbrev cX11_way : ByteArray := prog_1_method_24_code
def yX11_way : MethodName := ⟨RX11, "way", "(I)I"⟩
abbrev cX11_broken : ByteArray := prog_1_method_25_code
def yX11_broken : MethodName := ⟨RX11, "broken", "(I)I"⟩
abbrev cX11_clash : ByteArray := prog_1_method_26_code
def yX11_clash : MethodName := ⟨RX11, "clash", "(I)I"⟩
abbrev cX11_within : ByteArray := prog_1_method_27_code
def yX11_within : MethodName := ⟨RX11, "within", "(III)Z"⟩
abbrev cX11_bitAt : ByteArray := prog_1_method_28_code
def yX11_bitAt : MethodName := ⟨RX11, "bitAt", "(II)I"⟩
abbrev cX11_brokenNow : ByteArray := prog_1_method_29_code
def yX11_brokenNow : MethodName := ⟨RX11, "brokenNow", "()I"⟩
abbrev cX11_leastCost : ByteArray := prog_1_method_30_code
def yX11_leastCost : MethodName := ⟨RX11, "leastCost", "()I"⟩
abbrev cX11_staysWithout : ByteArray := prog_1_method_31_code
def yX11_staysWithout : MethodName := ⟨RX11, "staysWithout", "(II)Z"⟩
def RX12 : String := "NearPlansModel"
def TX12 : u_T := fun k => match k with
  | 0 => ("NearPlansModel", "decisions", "I", false)
  | 1 => ("NearPlansModel", "low", "[I", true)
  | 2 => ("NearPlansModel", "high", "[I", true)
  | 3 => ("NearPlansModel", "person", "[I", true)
  | 4 => ("NearPlansModel", "weight", "[I", true)
  | 5 => ("NearPlansModel", "per", "[I", true)
  | 6 => ("NearPlansModel", "pinned", "[I", true)
  | 7 => ("NearPlansModel", "worths", "[I", true)
  | 8 => ("NearPlansModel", "plan", "[I", true)
  | 9 => ("NearPlansModel", "limits", "[I", true)
  | 10 => ("NearPlansModel", "facts", "I", false)
  | 11 => ("NearPlansModel", "fact", "[I", true)
  | 12 => ("NearPlansModel", "rules", "I", false)
  | 13 => ("NearPlansModel", "kind", "[I", true)
  | 14 => ("NearPlansModel", "ruleA", "[I", true)
  | 15 => ("NearPlansModel", "ruleB", "[I", true)
  | 16 => ("NearPlansModel", "ruleFact", "[I", true)
  | 17 => ("NearPlansModel", "worthFirst", "I", false)
  | 18 => ("NearPlansModel", "kept", "I", false)
  | 19 => ("NearPlansModel", "keptValue", "[I", true)
  | 20 => ("NearPlansModel", "keptFact", "[I", true)
  | 21 => ("NearPlansModel", "base", "I", false)
  | 22 => ("NearPlansModel", "undos", "I", false)
  | 23 => ("NearPlansModel", "undoMany", "[I", true)
  | 24 => ("NearPlansModel", "undoValue", "[I", true)
  | 25 => ("NearPlansModel", "at", "[I", true)
  | 26 => ("NearPlansModel", "best", "[I", true)
  | 27 => ("NearPlansModel", "going", "[I", true)
  | 28 => ("NearPlansModel", "row", "[I", true)
  | 29 => ("NearPlansModel", "wayRow", "[I", true)
  | 30 => ("NearPlansModel", "wayBroken", "[I", true)
  | 31 => ("NearPlansModel", "rowBroken", "[I", true)
  | 32 => ("NearPlansModel", "wayWorst", "I", false)
  | 33 => ("NearPlansModel", "waySum", "I", false)
  | _ => ("NearPlansModel", "met", "[Z", true)
def tyX12 : Nat → FieldType := fun k => match k with
  | 0 => .int
  | 1 => .array .int
  | 2 => .array .int
  | 3 => .array .int
  | 4 => .array .int
  | 5 => .array .int
  | 6 => .array .int
  | 7 => .array .int
  | 8 => .array .int
  | 9 => .array .int
  | 10 => .int
  | 11 => .array .int
  | 12 => .int
  | 13 => .array .int
  | 14 => .array .int
  | 15 => .array .int
  | 16 => .array .int
  | 17 => .int
  | 18 => .int
  | 19 => .array .int
  | 20 => .array .int
  | 21 => .int
  | 22 => .int
  | 23 => .array .int
  | 24 => .array .int
  | 25 => .array .int
  | 26 => .array .int
  | 27 => .array .int
  | 28 => .array .int
  | 29 => .array .int
  | 30 => .array .int
  | 31 => .array .int
  | 32 => .int
  | 33 => .int
  | _ => .array .boolean
abbrev wsX120 : List Cond := u_ws RX12 TX12 35
theorem nmX12 : ∀ a, a < 35 → ∀ b, b < 35 → a ≠ b → (TX12 a).2.1 ≠ (TX12 b).2.1 := by decide +kernel
theorem tyX12_ok : ∀ k, k < 35 → parseFieldDescriptor (TX12 k).2.2.1 = some (tyX12 k) := by decide +kernel
abbrev cX12_init : ByteArray := prog_14_method_1_code
def yX12_init : MethodName := ⟨RX12, "<init>", "()V"⟩
abbrev cX12_out : ByteArray := prog_14_method_2_code
def yX12_out : MethodName := ⟨RX12, "out", "(III)Z"⟩
abbrev cX12_noDecision : ByteArray := prog_14_method_3_code
def yX12_noDecision : MethodName := ⟨RX12, "noDecision", "(I)Z"⟩
abbrev cX12_decision : ByteArray := prog_14_method_4_code
def yX12_decision : MethodName := ⟨RX12, "decision", "(III)I"⟩
abbrev cX12_weight : ByteArray := prog_14_method_5_code
def yX12_weight : MethodName := ⟨RX12, "weight", "(III)I"⟩
abbrev cX12_worth : ByteArray := prog_14_method_6_code
def yX12_worth : MethodName := ⟨RX12, "worth", "(III)I"⟩
abbrev cX12_mayHave : ByteArray := prog_14_method_7_code
def yX12_mayHave : MethodName := ⟨RX12, "mayHave", "(II)Z"⟩
abbrev cX12_pin : ByteArray := prog_14_method_8_code
def yX12_pin : MethodName := ⟨RX12, "pin", "(II)I"⟩
abbrev cX12_limit : ByteArray := prog_14_method_9_code
def yX12_limit : MethodName := ⟨RX12, "limit", "(II)I"⟩
abbrev cX12_fact : ByteArray := prog_14_method_10_code
def yX12_fact : MethodName := ⟨RX12, "fact", "(I)I"⟩
abbrev cX12_change : ByteArray := prog_14_method_11_code
def yX12_change : MethodName := ⟨RX12, "change", "(II)I"⟩
abbrev cX12_rule : ByteArray := prog_14_method_12_code
def yX12_rule : MethodName := ⟨RX12, "rule", "(IIII)I"⟩
abbrev cX12_first : ByteArray := prog_14_method_13_code
def yX12_first : MethodName := ⟨RX12, "first", "(I)I"⟩
abbrev cX12_keeps : ByteArray := prog_14_method_14_code
def yX12_keeps : MethodName := ⟨RX12, "keeps", "([II)Z"⟩
abbrev cX12_brokenOf : ByteArray := prog_14_method_15_code
def yX12_brokenOf : MethodName := ⟨RX12, "brokenOf", "([I)I"⟩
abbrev cX12_isMoved : ByteArray := prog_14_method_16_code
def yX12_isMoved : MethodName := ⟨RX12, "isMoved", "([II)Z"⟩
abbrev cX12_costOf : ByteArray := prog_14_method_17_code
def yX12_costOf : MethodName := ⟨RX12, "costOf", "([I)I"⟩
abbrev cX12_worthOf : ByteArray := prog_14_method_18_code
def yX12_worthOf : MethodName := ⟨RX12, "worthOf", "([I)I"⟩
abbrev cX12_isAllowed : ByteArray := prog_14_method_19_code
def yX12_isAllowed : MethodName := ⟨RX12, "isAllowed", "([I)Z"⟩
abbrev cX12_firstPlan : ByteArray := prog_14_method_20_code
def yX12_firstPlan : MethodName := ⟨RX12, "firstPlan", "()V"⟩
abbrev cX12_nextPlan : ByteArray := prog_14_method_21_code
def yX12_nextPlan : MethodName := ⟨RX12, "nextPlan", "()Z"⟩
abbrev cX12_findBest : ByteArray := prog_14_method_22_code
def yX12_findBest : MethodName := ⟨RX12, "findBest", "()Z"⟩
abbrev cX12_leastOf : ByteArray := prog_14_method_23_code
def yX12_leastOf : MethodName := ⟨RX12, "leastOf", "(I)I"⟩
abbrev cX12_put : ByteArray := prog_14_method_24_code
def yX12_put : MethodName := ⟨RX12, "put", "(II)I"⟩
abbrev cX12_value : ByteArray := prog_14_method_25_code
def yX12_value : MethodName := ⟨RX12, "value", "(I)I"⟩
abbrev cX12_keep : ByteArray := prog_14_method_26_code
def yX12_keep : MethodName := ⟨RX12, "keep", "()I"⟩
abbrev cX12_base : ByteArray := prog_14_method_27_code
def yX12_base : MethodName := ⟨RX12, "base", "(I)I"⟩
abbrev cX12_old : ByteArray := prog_14_method_28_code
def yX12_old : MethodName := ⟨RX12, "old", "(II)I"⟩
abbrev cX12_run : ByteArray := prog_14_method_29_code
def yX12_run : MethodName := ⟨RX12, "run", "()I"⟩
abbrev cX12_undo : ByteArray := prog_14_method_30_code
def yX12_undo : MethodName := ⟨RX12, "undo", "()I"⟩
abbrev cX12_ones : ByteArray := prog_14_method_31_code
def yX12_ones : MethodName := ⟨RX12, "ones", "(I)I"⟩
abbrev cX12_movedBits : ByteArray := prog_14_method_32_code
def yX12_movedBits : MethodName := ⟨RX12, "movedBits", "()I"⟩
abbrev cX12_told : ByteArray := prog_14_method_33_code
def yX12_told : MethodName := ⟨RX12, "told", "(I)I"⟩
abbrev cX12_near : ByteArray := prog_14_method_34_code
def yX12_near : MethodName := ⟨RX12, "near", "(I)I"⟩
abbrev cX12_least : ByteArray := prog_14_method_35_code
def yX12_least : MethodName := ⟨RX12, "least", "()I"⟩
abbrev cX12_without : ByteArray := prog_14_method_36_code
def yX12_without : MethodName := ⟨RX12, "without", "(I)I"⟩
abbrev cX12_spare : ByteArray := prog_14_method_37_code
def yX12_spare : MethodName := ⟨RX12, "spare", "(I)I"⟩
abbrev cX12_why : ByteArray := prog_14_method_38_code
def yX12_why : MethodName := ⟨RX12, "why", "(I)I"⟩
abbrev cX12_goOn : ByteArray := prog_14_method_39_code
def yX12_goOn : MethodName := ⟨RX12, "goOn", "(IIII)V"⟩
abbrev cX12_findWay : ByteArray := prog_14_method_40_code
def yX12_findWay : MethodName := ⟨RX12, "findWay", "()I"⟩
abbrev cX12_way : ByteArray := prog_14_method_41_code
def yX12_way : MethodName := ⟨RX12, "way", "(I)I"⟩
abbrev cX12_broken : ByteArray := prog_14_method_42_code
def yX12_broken : MethodName := ⟨RX12, "broken", "(I)I"⟩
abbrev cX12_clash : ByteArray := prog_14_method_43_code
def yX12_clash : MethodName := ⟨RX12, "clash", "(I)I"⟩
abbrev cX12_leastClash : ByteArray := prog_14_method_44_code
def yX12_leastClash : MethodName := ⟨RX12, "leastClash", "(I)I"⟩
abbrev cX12_isClash : ByteArray := prog_14_method_45_code
def yX12_isClash : MethodName := ⟨RX12, "isClash", "(I)Z"⟩
abbrev cX12_isBefore : ByteArray := prog_14_method_46_code
def yX12_isBefore : MethodName := ⟨RX12, "isBefore", "(II)Z"⟩
def RJ6 : String := "java/lang/Integer"
def TJ6 : u_T := fun k => match k with
  | _ => ("", "", "", false)
def tyJ6 : Nat → FieldType := fun k => match k with
  | _ => .int
abbrev wsJ60 : List Cond := u_ws RJ6 TJ6 0
theorem nmJ6 : ∀ a, a < 0 → ∀ b, b < 0 → a ≠ b → (TJ6 a).2.1 ≠ (TJ6 b).2.1 := by decide +kernel
theorem tyJ6_ok : ∀ k, k < 0 → parseFieldDescriptor (TJ6 k).2.2.1 = some (tyJ6 k) := by decide +kernel
abbrev cJ6_compare_7cf53 : ByteArray := prog_15_method_40_code
def yJ6_compare_7cf53 : MethodName := ⟨RJ6, "compare", "(II)I"⟩
abbrev cJ6_bitCount_0f7a4 : ByteArray := prog_15_method_49_code
def yJ6_bitCount_0f7a4 : MethodName := ⟨RJ6, "bitCount", "(I)I"⟩
def RJ9 : String := "java/lang/Math"
def TJ9 : u_T := fun k => match k with
  | _ => ("", "", "", false)
def tyJ9 : Nat → FieldType := fun k => match k with
  | _ => .int
abbrev wsJ90 : List Cond := u_ws RJ9 TJ9 0
theorem nmJ9 : ∀ a, a < 0 → ∀ b, b < 0 → a ≠ b → (TJ9 a).2.1 ≠ (TJ9 b).2.1 := by decide +kernel
theorem tyJ9_ok : ∀ k, k < 0 → parseFieldDescriptor (TJ9 k).2.2.1 = some (tyJ9 k) := by decide +kernel
abbrev cJ9_abs_0f7a4 : ByteArray := prog_16_method_59_code
def yJ9_abs_0f7a4 : MethodName := ⟨RJ9, "abs", "(I)I"⟩
abbrev cJ9_max_7cf53 : ByteArray := prog_16_method_65_code
def yJ9_max_7cf53 : MethodName := ⟨RJ9, "max", "(II)I"⟩
abbrev cJ9_min_7cf53 : ByteArray := prog_16_method_69_code
def yJ9_min_7cf53 : MethodName := ⟨RJ9, "min", "(II)I"⟩
def RJ10 : String := "java/lang/System"
def TJ10 : u_T := fun k => match k with
  | _ => ("", "", "", false)
def tyJ10 : Nat → FieldType := fun k => match k with
  | _ => .int
abbrev wsJ100 : List Cond := u_ws RJ10 TJ10 0
theorem nmJ10 : ∀ a, a < 0 → ∀ b, b < 0 → a ≠ b → (TJ10 a).2.1 ≠ (TJ10 b).2.1 := by decide +kernel
theorem tyJ10_ok : ∀ k, k < 0 → parseFieldDescriptor (TJ10 k).2.2.1 = some (tyJ10 k) := by decide +kernel
def RL : String := "NearPlansLaw"
abbrev cL_law : ByteArray := code
def yL_law : MethodName := ⟨RL, "law", "([I)Z"⟩
abbrev vwCl : List vw_C := [(RX0, TX0, 5), (RX1, TX1, 2), (RX2, TX2, 2), (RX3, TX3, 9), (RX5, TX5, 4), (RX6, TX6, 3), (RX7, TX7, 10), (RX8, TX8, 9), (RX9, TX9, 2), (RX10, TX10, 10), (RX11, TX11, 12), (RX12, TX12, 35)]
end
section
theorem dX0_init_0 : decode cX0_init 0 = .ok (.aload_n 0, 1) := by decide +kernel
theorem dX0_init_1 : decode cX0_init 1 = .ok (.invokespecial 3, 3) := by decide +kernel
theorem dX0_init_4 : decode cX0_init 4 = .ok (.aload_n 0, 1) := by decide +kernel
theorem dX0_init_5 : decode cX0_init 5 = .ok (.iconst 0, 1) := by decide +kernel
theorem dX0_init_6 : decode cX0_init 6 = .ok (.putfield 9, 3) := by decide +kernel
theorem dX0_init_9 : decode cX0_init 9 = .ok (.aload_n 0, 1) := by decide +kernel
theorem dX0_init_10 : decode cX0_init 10 = .ok (.iconst 0, 1) := by decide +kernel
theorem dX0_init_11 : decode cX0_init 11 = .ok (.putfield 15, 3) := by decide +kernel
theorem dX0_init_14 : decode cX0_init 14 = .ok (.aload_n 0, 1) := by decide +kernel
theorem dX0_init_15 : decode cX0_init 15 = .ok (.iconst 0, 1) := by decide +kernel
theorem dX0_init_16 : decode cX0_init 16 = .ok (.putfield 19, 3) := by decide +kernel
theorem dX0_init_19 : decode cX0_init 19 = .ok (.aload_n 0, 1) := by decide +kernel
theorem dX0_init_20 : decode cX0_init 20 = .ok (.iconst 0, 1) := by decide +kernel
theorem dX0_init_21 : decode cX0_init 21 = .ok (.putfield 22, 3) := by decide +kernel
theorem dX0_init_24 : decode cX0_init 24 = .ok (.aload_n 0, 1) := by decide +kernel
theorem dX0_init_25 : decode cX0_init 25 = .ok (.bipush 6, 2) := by decide +kernel
theorem dX0_init_27 : decode cX0_init 27 = .ok (.newarray .int, 2) := by decide +kernel
theorem dX0_init_29 : decode cX0_init 29 = .ok (.putfield 25, 3) := by decide +kernel
theorem dX0_init_32 : decode cX0_init 32 = .ok (.return_, 1) := by decide +kernel
theorem dX0_begin_0 : decode cX0_begin 0 = .ok (.aload_n 0, 1) := by decide +kernel
theorem dX0_begin_1 : decode cX0_begin 1 = .ok (.iconst 0, 1) := by decide +kernel
theorem dX0_begin_2 : decode cX0_begin 2 = .ok (.putfield 9, 3) := by decide +kernel
theorem dX0_begin_5 : decode cX0_begin 5 = .ok (.aload_n 0, 1) := by decide +kernel
theorem dX0_begin_6 : decode cX0_begin 6 = .ok (.iload_n 1, 1) := by decide +kernel
theorem dX0_begin_7 : decode cX0_begin 7 = .ok (.putfield 22, 3) := by decide +kernel
theorem dX0_begin_10 : decode cX0_begin 10 = .ok (.return_, 1) := by decide +kernel
theorem dX0_isHopeless_0 : decode cX0_isHopeless 0 = .ok (.iload_n 3, 1) := by decide +kernel
theorem dX0_isHopeless_1 : decode cX0_isHopeless 1 = .ok (.ifCond .eq 5, 3) := by decide +kernel
theorem dX0_isHopeless_4 : decode cX0_isHopeless 4 = .ok (.iconst 1, 1) := by decide +kernel
theorem dX0_isHopeless_5 : decode cX0_isHopeless 5 = .ok (.ireturn, 1) := by decide +kernel
theorem dX0_isHopeless_6 : decode cX0_isHopeless 6 = .ok (.aload_n 0, 1) := by decide +kernel
theorem dX0_isHopeless_7 : decode cX0_isHopeless 7 = .ok (.getfield 9, 3) := by decide +kernel
theorem dX0_isHopeless_10 : decode cX0_isHopeless 10 = .ok (.ifCond .ne 5, 3) := by decide +kernel
theorem dX0_isHopeless_13 : decode cX0_isHopeless 13 = .ok (.iconst 0, 1) := by decide +kernel
theorem dX0_isHopeless_14 : decode cX0_isHopeless 14 = .ok (.ireturn, 1) := by decide +kernel
theorem dX0_isHopeless_15 : decode cX0_isHopeless 15 = .ok (.aload_n 0, 1) := by decide +kernel
theorem dX0_isHopeless_16 : decode cX0_isHopeless 16 = .ok (.getfield 22, 3) := by decide +kernel
theorem dX0_isHopeless_19 : decode cX0_isHopeless 19 = .ok (.ifCond .eq 33, 3) := by decide +kernel
theorem dX0_isHopeless_22 : decode cX0_isHopeless 22 = .ok (.iload_n 2, 1) := by decide +kernel
theorem dX0_isHopeless_23 : decode cX0_isHopeless 23 = .ok (.aload_n 0, 1) := by decide +kernel
theorem dX0_isHopeless_24 : decode cX0_isHopeless 24 = .ok (.getfield 19, 3) := by decide +kernel
theorem dX0_isHopeless_27 : decode cX0_isHopeless 27 = .ok (.if_icmp .lt 19, 3) := by decide +kernel
theorem dX0_isHopeless_30 : decode cX0_isHopeless 30 = .ok (.iload_n 2, 1) := by decide +kernel
theorem dX0_isHopeless_31 : decode cX0_isHopeless 31 = .ok (.aload_n 0, 1) := by decide +kernel
theorem dX0_isHopeless_32 : decode cX0_isHopeless 32 = .ok (.getfield 19, 3) := by decide +kernel
theorem dX0_isHopeless_35 : decode cX0_isHopeless 35 = .ok (.if_icmp .ne 15, 3) := by decide +kernel
theorem dX0_isHopeless_38 : decode cX0_isHopeless 38 = .ok (.iload_n 1, 1) := by decide +kernel
theorem dX0_isHopeless_39 : decode cX0_isHopeless 39 = .ok (.aload_n 0, 1) := by decide +kernel
theorem dX0_isHopeless_40 : decode cX0_isHopeless 40 = .ok (.getfield 15, 3) := by decide +kernel
theorem dX0_isHopeless_43 : decode cX0_isHopeless 43 = .ok (.if_icmp .lt 7, 3) := by decide +kernel
theorem dX0_isHopeless_46 : decode cX0_isHopeless 46 = .ok (.iconst 1, 1) := by decide +kernel
theorem dX0_isHopeless_47 : decode cX0_isHopeless 47 = .ok (.goto 4, 3) := by decide +kernel
theorem dX0_isHopeless_50 : decode cX0_isHopeless 50 = .ok (.iconst 0, 1) := by decide +kernel
theorem dX0_isHopeless_51 : decode cX0_isHopeless 51 = .ok (.ireturn, 1) := by decide +kernel
theorem dX0_isHopeless_52 : decode cX0_isHopeless 52 = .ok (.iload_n 1, 1) := by decide +kernel
theorem dX0_isHopeless_53 : decode cX0_isHopeless 53 = .ok (.aload_n 0, 1) := by decide +kernel
theorem dX0_isHopeless_54 : decode cX0_isHopeless 54 = .ok (.getfield 15, 3) := by decide +kernel
theorem dX0_isHopeless_57 : decode cX0_isHopeless 57 = .ok (.if_icmp .gt 19, 3) := by decide +kernel
theorem dX0_isHopeless_60 : decode cX0_isHopeless 60 = .ok (.iload_n 1, 1) := by decide +kernel
theorem dX0_isHopeless_61 : decode cX0_isHopeless 61 = .ok (.aload_n 0, 1) := by decide +kernel
theorem dX0_isHopeless_62 : decode cX0_isHopeless 62 = .ok (.getfield 15, 3) := by decide +kernel
theorem dX0_isHopeless_65 : decode cX0_isHopeless 65 = .ok (.if_icmp .ne 15, 3) := by decide +kernel
theorem dX0_isHopeless_68 : decode cX0_isHopeless 68 = .ok (.iload_n 2, 1) := by decide +kernel
theorem dX0_isHopeless_69 : decode cX0_isHopeless 69 = .ok (.aload_n 0, 1) := by decide +kernel
theorem dX0_isHopeless_70 : decode cX0_isHopeless 70 = .ok (.getfield 19, 3) := by decide +kernel
theorem dX0_isHopeless_73 : decode cX0_isHopeless 73 = .ok (.if_icmp .gt 7, 3) := by decide +kernel
theorem dX0_isHopeless_76 : decode cX0_isHopeless 76 = .ok (.iconst 1, 1) := by decide +kernel
theorem dX0_isHopeless_77 : decode cX0_isHopeless 77 = .ok (.goto 4, 3) := by decide +kernel
theorem dX0_isHopeless_80 : decode cX0_isHopeless 80 = .ok (.iconst 0, 1) := by decide +kernel
theorem dX0_isHopeless_81 : decode cX0_isHopeless 81 = .ok (.ireturn, 1) := by decide +kernel
theorem dX0_reach_0 : decode cX0_reach 0 = .ok (.aload_n 0, 1) := by decide +kernel
theorem dX0_reach_1 : decode cX0_reach 1 = .ok (.iconst 1, 1) := by decide +kernel
theorem dX0_reach_2 : decode cX0_reach 2 = .ok (.putfield 9, 3) := by decide +kernel
theorem dX0_reach_5 : decode cX0_reach 5 = .ok (.aload_n 0, 1) := by decide +kernel
theorem dX0_reach_6 : decode cX0_reach 6 = .ok (.iload_n 2, 1) := by decide +kernel
theorem dX0_reach_7 : decode cX0_reach 7 = .ok (.putfield 15, 3) := by decide +kernel
theorem dX0_reach_10 : decode cX0_reach 10 = .ok (.aload_n 0, 1) := by decide +kernel
theorem dX0_reach_11 : decode cX0_reach 11 = .ok (.iload_n 3, 1) := by decide +kernel
theorem dX0_reach_12 : decode cX0_reach 12 = .ok (.putfield 19, 3) := by decide +kernel
theorem dX0_reach_15 : decode cX0_reach 15 = .ok (.aload_n 1, 1) := by decide +kernel
theorem dX0_reach_16 : decode cX0_reach 16 = .ok (.iconst 0, 1) := by decide +kernel
theorem dX0_reach_17 : decode cX0_reach 17 = .ok (.aload_n 0, 1) := by decide +kernel
theorem dX0_reach_18 : decode cX0_reach 18 = .ok (.getfield 25, 3) := by decide +kernel
theorem dX0_reach_21 : decode cX0_reach 21 = .ok (.iconst 0, 1) := by decide +kernel
theorem dX0_reach_22 : decode cX0_reach 22 = .ok (.bipush 6, 2) := by decide +kernel
theorem dX0_reach_24 : decode cX0_reach 24 = .ok (.invokestatic 29, 3) := by decide +kernel
theorem dX0_reach_27 : decode cX0_reach 27 = .ok (.return_, 1) := by decide +kernel
theorem dX1_init_0 : decode cX1_init 0 = .ok (.aload_n 0, 1) := by decide +kernel
theorem dX1_init_1 : decode cX1_init 1 = .ok (.invokespecial 3, 3) := by decide +kernel
theorem dX1_init_4 : decode cX1_init 4 = .ok (.aload_n 0, 1) := by decide +kernel
theorem dX1_init_5 : decode cX1_init 5 = .ok (.iconst 0, 1) := by decide +kernel
theorem dX1_init_6 : decode cX1_init 6 = .ok (.putfield 9, 3) := by decide +kernel
theorem dX1_init_9 : decode cX1_init 9 = .ok (.aload_n 0, 1) := by decide +kernel
theorem dX1_init_10 : decode cX1_init 10 = .ok (.sipush 4096, 3) := by decide +kernel
theorem dX1_init_13 : decode cX1_init 13 = .ok (.newarray .boolean, 2) := by decide +kernel
theorem dX1_init_15 : decode cX1_init 15 = .ok (.putfield 15, 3) := by decide +kernel
theorem dX1_init_18 : decode cX1_init 18 = .ok (.return_, 1) := by decide +kernel
theorem dX1_begin_0 : decode cX1_begin 0 = .ok (.aload_n 0, 1) := by decide +kernel
theorem dX1_begin_1 : decode cX1_begin 1 = .ok (.iconst 1, 1) := by decide +kernel
theorem dX1_begin_2 : decode cX1_begin 2 = .ok (.iload_n 1, 1) := by decide +kernel
theorem dX1_begin_3 : decode cX1_begin 3 = .ok (.ishl, 1) := by decide +kernel
theorem dX1_begin_4 : decode cX1_begin 4 = .ok (.iconst 1, 1) := by decide +kernel
theorem dX1_begin_5 : decode cX1_begin 5 = .ok (.isub, 1) := by decide +kernel
theorem dX1_begin_6 : decode cX1_begin 6 = .ok (.putfield 9, 3) := by decide +kernel
theorem dX1_begin_9 : decode cX1_begin 9 = .ok (.iconst 0, 1) := by decide +kernel
theorem dX1_begin_10 : decode cX1_begin 10 = .ok (.istore_n 2, 1) := by decide +kernel
theorem dX1_begin_11 : decode cX1_begin 11 = .ok (.iload_n 2, 1) := by decide +kernel
theorem dX1_begin_12 : decode cX1_begin 12 = .ok (.aload_n 0, 1) := by decide +kernel
theorem dX1_begin_13 : decode cX1_begin 13 = .ok (.getfield 9, 3) := by decide +kernel
theorem dX1_begin_16 : decode cX1_begin 16 = .ok (.if_icmp .gt 16, 3) := by decide +kernel
theorem dX1_begin_19 : decode cX1_begin 19 = .ok (.aload_n 0, 1) := by decide +kernel
theorem dX1_begin_20 : decode cX1_begin 20 = .ok (.getfield 15, 3) := by decide +kernel
theorem dX1_begin_23 : decode cX1_begin 23 = .ok (.iload_n 2, 1) := by decide +kernel
theorem dX1_begin_24 : decode cX1_begin 24 = .ok (.iconst 0, 1) := by decide +kernel
theorem dX1_begin_25 : decode cX1_begin 25 = .ok (.bastore, 1) := by decide +kernel
theorem dX1_begin_26 : decode cX1_begin 26 = .ok (.iinc 2 1, 3) := by decide +kernel
theorem dX1_begin_29 : decode cX1_begin 29 = .ok (.goto (-18), 3) := by decide +kernel
theorem dX1_begin_32 : decode cX1_begin 32 = .ok (.return_, 1) := by decide +kernel
theorem dX1_isHopeless_0 : decode cX1_isHopeless 0 = .ok (.aload_n 0, 1) := by decide +kernel
theorem dX1_isHopeless_1 : decode cX1_isHopeless 1 = .ok (.getfield 15, 3) := by decide +kernel
theorem dX1_isHopeless_4 : decode cX1_isHopeless 4 = .ok (.iload_n 3, 1) := by decide +kernel
theorem dX1_isHopeless_5 : decode cX1_isHopeless 5 = .ok (.aload_n 0, 1) := by decide +kernel
theorem dX1_isHopeless_6 : decode cX1_isHopeless 6 = .ok (.getfield 9, 3) := by decide +kernel
theorem dX1_isHopeless_9 : decode cX1_isHopeless 9 = .ok (.iand, 1) := by decide +kernel
theorem dX1_isHopeless_10 : decode cX1_isHopeless 10 = .ok (.baload, 1) := by decide +kernel
theorem dX1_isHopeless_11 : decode cX1_isHopeless 11 = .ok (.ireturn, 1) := by decide +kernel
theorem dX1_reach_0 : decode cX1_reach 0 = .ok (.iload 4, 2) := by decide +kernel
theorem dX1_reach_2 : decode cX1_reach 2 = .ok (.aload_n 0, 1) := by decide +kernel
theorem dX1_reach_3 : decode cX1_reach 3 = .ok (.getfield 9, 3) := by decide +kernel
theorem dX1_reach_6 : decode cX1_reach 6 = .ok (.iand, 1) := by decide +kernel
theorem dX1_reach_7 : decode cX1_reach 7 = .ok (.istore 5, 2) := by decide +kernel
theorem dX1_reach_9 : decode cX1_reach 9 = .ok (.iload 5, 2) := by decide +kernel
theorem dX1_reach_11 : decode cX1_reach 11 = .ok (.istore 6, 2) := by decide +kernel
theorem dX1_reach_13 : decode cX1_reach 13 = .ok (.iload 6, 2) := by decide +kernel
theorem dX1_reach_15 : decode cX1_reach 15 = .ok (.aload_n 0, 1) := by decide +kernel
theorem dX1_reach_16 : decode cX1_reach 16 = .ok (.getfield 9, 3) := by decide +kernel
theorem dX1_reach_19 : decode cX1_reach 19 = .ok (.if_icmp .gt 23, 3) := by decide +kernel
theorem dX1_reach_22 : decode cX1_reach 22 = .ok (.aload_n 0, 1) := by decide +kernel
theorem dX1_reach_23 : decode cX1_reach 23 = .ok (.getfield 15, 3) := by decide +kernel
theorem dX1_reach_26 : decode cX1_reach 26 = .ok (.iload 6, 2) := by decide +kernel
theorem dX1_reach_28 : decode cX1_reach 28 = .ok (.iconst 1, 1) := by decide +kernel
theorem dX1_reach_29 : decode cX1_reach 29 = .ok (.bastore, 1) := by decide +kernel
theorem dX1_reach_30 : decode cX1_reach 30 = .ok (.iload 6, 2) := by decide +kernel
theorem dX1_reach_32 : decode cX1_reach 32 = .ok (.iconst 1, 1) := by decide +kernel
theorem dX1_reach_33 : decode cX1_reach 33 = .ok (.iadd, 1) := by decide +kernel
theorem dX1_reach_34 : decode cX1_reach 34 = .ok (.iload 5, 2) := by decide +kernel
theorem dX1_reach_36 : decode cX1_reach 36 = .ok (.ior, 1) := by decide +kernel
theorem dX1_reach_37 : decode cX1_reach 37 = .ok (.istore 6, 2) := by decide +kernel
theorem dX1_reach_39 : decode cX1_reach 39 = .ok (.goto (-26), 3) := by decide +kernel
theorem dX1_reach_42 : decode cX1_reach 42 = .ok (.return_, 1) := by decide +kernel
theorem dX1_leastSet_0 : decode cX1_leastSet 0 = .ok (.bipush (-5), 2) := by decide +kernel
theorem dX1_leastSet_2 : decode cX1_leastSet 2 = .ok (.istore_n 1, 1) := by decide +kernel
theorem dX1_leastSet_3 : decode cX1_leastSet 3 = .ok (.iconst 0, 1) := by decide +kernel
theorem dX1_leastSet_4 : decode cX1_leastSet 4 = .ok (.istore_n 2, 1) := by decide +kernel
theorem dX1_leastSet_5 : decode cX1_leastSet 5 = .ok (.iload_n 2, 1) := by decide +kernel
theorem dX1_leastSet_6 : decode cX1_leastSet 6 = .ok (.aload_n 0, 1) := by decide +kernel
theorem dX1_leastSet_7 : decode cX1_leastSet 7 = .ok (.getfield 9, 3) := by decide +kernel
theorem dX1_leastSet_10 : decode cX1_leastSet 10 = .ok (.if_icmp .gt 41, 3) := by decide +kernel
theorem dX1_leastSet_13 : decode cX1_leastSet 13 = .ok (.aload_n 0, 1) := by decide +kernel
theorem dX1_leastSet_14 : decode cX1_leastSet 14 = .ok (.getfield 15, 3) := by decide +kernel
theorem dX1_leastSet_17 : decode cX1_leastSet 17 = .ok (.aload_n 0, 1) := by decide +kernel
theorem dX1_leastSet_18 : decode cX1_leastSet 18 = .ok (.getfield 9, 3) := by decide +kernel
theorem dX1_leastSet_21 : decode cX1_leastSet 21 = .ok (.iload_n 2, 1) := by decide +kernel
theorem dX1_leastSet_22 : decode cX1_leastSet 22 = .ok (.iconst (-1), 1) := by decide +kernel
theorem dX1_leastSet_23 : decode cX1_leastSet 23 = .ok (.ixor, 1) := by decide +kernel
theorem dX1_leastSet_24 : decode cX1_leastSet 24 = .ok (.iand, 1) := by decide +kernel
theorem dX1_leastSet_25 : decode cX1_leastSet 25 = .ok (.baload, 1) := by decide +kernel
theorem dX1_leastSet_26 : decode cX1_leastSet 26 = .ok (.ifCond .ne 19, 3) := by decide +kernel
theorem dX1_leastSet_29 : decode cX1_leastSet 29 = .ok (.iload_n 1, 1) := by decide +kernel
theorem dX1_leastSet_30 : decode cX1_leastSet 30 = .ok (.bipush (-5), 2) := by decide +kernel
theorem dX1_leastSet_32 : decode cX1_leastSet 32 = .ok (.if_icmp .eq 11, 3) := by decide +kernel
theorem dX1_leastSet_35 : decode cX1_leastSet 35 = .ok (.iload_n 2, 1) := by decide +kernel
theorem dX1_leastSet_36 : decode cX1_leastSet 36 = .ok (.iload_n 1, 1) := by decide +kernel
theorem dX1_leastSet_37 : decode cX1_leastSet 37 = .ok (.invokestatic 19, 3) := by decide +kernel
theorem dX1_leastSet_40 : decode cX1_leastSet 40 = .ok (.ifCond .eq 5, 3) := by decide +kernel
theorem dX1_leastSet_43 : decode cX1_leastSet 43 = .ok (.iload_n 2, 1) := by decide +kernel
theorem dX1_leastSet_44 : decode cX1_leastSet 44 = .ok (.istore_n 1, 1) := by decide +kernel
theorem dX1_leastSet_45 : decode cX1_leastSet 45 = .ok (.iinc 2 1, 3) := by decide +kernel
theorem dX1_leastSet_48 : decode cX1_leastSet 48 = .ok (.goto (-43), 3) := by decide +kernel
theorem dX1_leastSet_51 : decode cX1_leastSet 51 = .ok (.iload_n 1, 1) := by decide +kernel
theorem dX1_leastSet_52 : decode cX1_leastSet 52 = .ok (.ireturn, 1) := by decide +kernel
theorem dX1_isLess_0 : decode cX1_isLess 0 = .ok (.iload_n 0, 1) := by decide +kernel
theorem dX1_isLess_1 : decode cX1_isLess 1 = .ok (.invokestatic 23, 3) := by decide +kernel
theorem dX1_isLess_4 : decode cX1_isLess 4 = .ok (.iload_n 1, 1) := by decide +kernel
theorem dX1_isLess_5 : decode cX1_isLess 5 = .ok (.invokestatic 23, 3) := by decide +kernel
theorem dX1_isLess_8 : decode cX1_isLess 8 = .ok (.invokestatic 29, 3) := by decide +kernel
theorem dX1_isLess_11 : decode cX1_isLess 11 = .ok (.istore_n 2, 1) := by decide +kernel
theorem dX1_isLess_12 : decode cX1_isLess 12 = .ok (.iload_n 0, 1) := by decide +kernel
theorem dX1_isLess_13 : decode cX1_isLess 13 = .ok (.iload_n 1, 1) := by decide +kernel
theorem dX1_isLess_14 : decode cX1_isLess 14 = .ok (.ixor, 1) := by decide +kernel
theorem dX1_isLess_15 : decode cX1_isLess 15 = .ok (.istore_n 3, 1) := by decide +kernel
theorem dX1_isLess_16 : decode cX1_isLess 16 = .ok (.iload_n 2, 1) := by decide +kernel
theorem dX1_isLess_17 : decode cX1_isLess 17 = .ok (.ifCond .lt 16, 3) := by decide +kernel
theorem dX1_isLess_20 : decode cX1_isLess 20 = .ok (.iload_n 2, 1) := by decide +kernel
theorem dX1_isLess_21 : decode cX1_isLess 21 = .ok (.ifCond .ne 16, 3) := by decide +kernel
theorem dX1_isLess_24 : decode cX1_isLess 24 = .ok (.iload_n 0, 1) := by decide +kernel
theorem dX1_isLess_25 : decode cX1_isLess 25 = .ok (.iload_n 3, 1) := by decide +kernel
theorem dX1_isLess_26 : decode cX1_isLess 26 = .ok (.iand, 1) := by decide +kernel
theorem dX1_isLess_27 : decode cX1_isLess 27 = .ok (.iload_n 3, 1) := by decide +kernel
theorem dX1_isLess_28 : decode cX1_isLess 28 = .ok (.ineg, 1) := by decide +kernel
theorem dX1_isLess_29 : decode cX1_isLess 29 = .ok (.iand, 1) := by decide +kernel
theorem dX1_isLess_30 : decode cX1_isLess 30 = .ok (.ifCond .eq 7, 3) := by decide +kernel
theorem dX1_isLess_33 : decode cX1_isLess 33 = .ok (.iconst 1, 1) := by decide +kernel
theorem dX1_isLess_34 : decode cX1_isLess 34 = .ok (.goto 4, 3) := by decide +kernel
theorem dX1_isLess_37 : decode cX1_isLess 37 = .ok (.iconst 0, 1) := by decide +kernel
theorem dX1_isLess_38 : decode cX1_isLess 38 = .ok (.ireturn, 1) := by decide +kernel
theorem dX2_init_0 : decode cX2_init 0 = .ok (.aload_n 0, 1) := by decide +kernel
theorem dX2_init_1 : decode cX2_init 1 = .ok (.invokespecial 1, 3) := by decide +kernel
theorem dX2_init_4 : decode cX2_init 4 = .ok (.aload_n 0, 1) := by decide +kernel
theorem dX2_init_5 : decode cX2_init 5 = .ok (.iconst 0, 1) := by decide +kernel
theorem dX2_init_6 : decode cX2_init 6 = .ok (.putfield 7, 3) := by decide +kernel
theorem dX2_init_9 : decode cX2_init 9 = .ok (.aload_n 0, 1) := by decide +kernel
theorem dX2_init_10 : decode cX2_init 10 = .ok (.iconst 0, 1) := by decide +kernel
theorem dX2_init_11 : decode cX2_init 11 = .ok (.putfield 13, 3) := by decide +kernel
theorem dX2_init_14 : decode cX2_init 14 = .ok (.return_, 1) := by decide +kernel
theorem dX2_begin_0 : decode cX2_begin 0 = .ok (.aload_n 0, 1) := by decide +kernel
theorem dX2_begin_1 : decode cX2_begin 1 = .ok (.iconst 0, 1) := by decide +kernel
theorem dX2_begin_2 : decode cX2_begin 2 = .ok (.putfield 7, 3) := by decide +kernel
theorem dX2_begin_5 : decode cX2_begin 5 = .ok (.aload_n 0, 1) := by decide +kernel
theorem dX2_begin_6 : decode cX2_begin 6 = .ok (.iload_n 1, 1) := by decide +kernel
theorem dX2_begin_7 : decode cX2_begin 7 = .ok (.putfield 13, 3) := by decide +kernel
theorem dX2_begin_10 : decode cX2_begin 10 = .ok (.return_, 1) := by decide +kernel
theorem dX2_isHopeless_0 : decode cX2_isHopeless 0 = .ok (.iload_n 3, 1) := by decide +kernel
theorem dX2_isHopeless_1 : decode cX2_isHopeless 1 = .ok (.ifCond .ne 11, 3) := by decide +kernel
theorem dX2_isHopeless_4 : decode cX2_isHopeless 4 = .ok (.iload_n 1, 1) := by decide +kernel
theorem dX2_isHopeless_5 : decode cX2_isHopeless 5 = .ok (.aload_n 0, 1) := by decide +kernel
theorem dX2_isHopeless_6 : decode cX2_isHopeless 6 = .ok (.getfield 13, 3) := by decide +kernel
theorem dX2_isHopeless_9 : decode cX2_isHopeless 9 = .ok (.if_icmp .le 7, 3) := by decide +kernel
theorem dX2_isHopeless_12 : decode cX2_isHopeless 12 = .ok (.iconst 1, 1) := by decide +kernel
theorem dX2_isHopeless_13 : decode cX2_isHopeless 13 = .ok (.goto 4, 3) := by decide +kernel
theorem dX2_isHopeless_16 : decode cX2_isHopeless 16 = .ok (.iconst 0, 1) := by decide +kernel
theorem dX2_isHopeless_17 : decode cX2_isHopeless 17 = .ok (.ireturn, 1) := by decide +kernel
theorem dX2_reach_0 : decode cX2_reach 0 = .ok (.aload_n 0, 1) := by decide +kernel
theorem dX2_reach_1 : decode cX2_reach 1 = .ok (.dup, 1) := by decide +kernel
theorem dX2_reach_2 : decode cX2_reach 2 = .ok (.getfield 7, 3) := by decide +kernel
theorem dX2_reach_5 : decode cX2_reach 5 = .ok (.iconst 1, 1) := by decide +kernel
theorem dX2_reach_6 : decode cX2_reach 6 = .ok (.iadd, 1) := by decide +kernel
theorem dX2_reach_7 : decode cX2_reach 7 = .ok (.putfield 7, 3) := by decide +kernel
theorem dX2_reach_10 : decode cX2_reach 10 = .ok (.return_, 1) := by decide +kernel
theorem dX3_init_0 : decode cX3_init 0 = .ok (.aload_n 0, 1) := by decide +kernel
theorem dX3_init_1 : decode cX3_init 1 = .ok (.invokespecial 3, 3) := by decide +kernel
theorem dX3_init_4 : decode cX3_init 4 = .ok (.aload_n 0, 1) := by decide +kernel
theorem dX3_init_5 : decode cX3_init 5 = .ok (.iconst 0, 1) := by decide +kernel
theorem dX3_init_6 : decode cX3_init 6 = .ok (.putfield 9, 3) := by decide +kernel
theorem dX3_init_9 : decode cX3_init 9 = .ok (.aload_n 0, 1) := by decide +kernel
theorem dX3_init_10 : decode cX3_init 10 = .ok (.bipush 6, 2) := by decide +kernel
theorem dX3_init_12 : decode cX3_init 12 = .ok (.newarray .int, 2) := by decide +kernel
theorem dX3_init_14 : decode cX3_init 14 = .ok (.putfield 15, 3) := by decide +kernel
theorem dX3_init_17 : decode cX3_init 17 = .ok (.aload_n 0, 1) := by decide +kernel
theorem dX3_init_18 : decode cX3_init 18 = .ok (.bipush 6, 2) := by decide +kernel
theorem dX3_init_20 : decode cX3_init 20 = .ok (.newarray .int, 2) := by decide +kernel
theorem dX3_init_22 : decode cX3_init 22 = .ok (.putfield 19, 3) := by decide +kernel
theorem dX3_init_25 : decode cX3_init 25 = .ok (.aload_n 0, 1) := by decide +kernel
theorem dX3_init_26 : decode cX3_init 26 = .ok (.bipush 6, 2) := by decide +kernel
theorem dX3_init_28 : decode cX3_init 28 = .ok (.newarray .int, 2) := by decide +kernel
theorem dX3_init_30 : decode cX3_init 30 = .ok (.putfield 22, 3) := by decide +kernel
theorem dX3_init_33 : decode cX3_init 33 = .ok (.aload_n 0, 1) := by decide +kernel
theorem dX3_init_34 : decode cX3_init 34 = .ok (.bipush 6, 2) := by decide +kernel
theorem dX3_init_36 : decode cX3_init 36 = .ok (.newarray .int, 2) := by decide +kernel
theorem dX3_init_38 : decode cX3_init 38 = .ok (.putfield 25, 3) := by decide +kernel
theorem dX3_init_41 : decode cX3_init 41 = .ok (.aload_n 0, 1) := by decide +kernel
theorem dX3_init_42 : decode cX3_init 42 = .ok (.bipush 6, 2) := by decide +kernel
theorem dX3_init_44 : decode cX3_init 44 = .ok (.newarray .int, 2) := by decide +kernel
theorem dX3_init_46 : decode cX3_init 46 = .ok (.putfield 28, 3) := by decide +kernel
theorem dX3_init_49 : decode cX3_init 49 = .ok (.aload_n 0, 1) := by decide +kernel
theorem dX3_init_50 : decode cX3_init 50 = .ok (.bipush 6, 2) := by decide +kernel
theorem dX3_init_52 : decode cX3_init 52 = .ok (.newarray .int, 2) := by decide +kernel
theorem dX3_init_54 : decode cX3_init 54 = .ok (.putfield 31, 3) := by decide +kernel
theorem dX3_init_57 : decode cX3_init 57 = .ok (.aload_n 0, 1) := by decide +kernel
theorem dX3_init_58 : decode cX3_init 58 = .ok (.bipush 6, 2) := by decide +kernel
theorem dX3_init_60 : decode cX3_init 60 = .ok (.bipush 6, 2) := by decide +kernel
theorem dX3_init_62 : decode cX3_init 62 = .ok (.multianewarray 34 2, 4) := by decide +kernel
theorem dX3_init_66 : decode cX3_init 66 = .ok (.putfield 36, 3) := by decide +kernel
theorem dX3_init_69 : decode cX3_init 69 = .ok (.aload_n 0, 1) := by decide +kernel
theorem dX3_init_70 : decode cX3_init 70 = .ok (.iconst 4, 1) := by decide +kernel
theorem dX3_init_71 : decode cX3_init 71 = .ok (.newarray .int, 2) := by decide +kernel
theorem dX3_init_73 : decode cX3_init 73 = .ok (.putfield 39, 3) := by decide +kernel
theorem dX3_init_76 : decode cX3_init 76 = .ok (.iconst 0, 1) := by decide +kernel
theorem dX3_init_77 : decode cX3_init 77 = .ok (.istore_n 1, 1) := by decide +kernel
theorem dX3_init_78 : decode cX3_init 78 = .ok (.iload_n 1, 1) := by decide +kernel
theorem dX3_init_79 : decode cX3_init 79 = .ok (.iconst 4, 1) := by decide +kernel
theorem dX3_init_80 : decode cX3_init 80 = .ok (.if_icmp .ge 17, 3) := by decide +kernel
theorem dX3_init_83 : decode cX3_init 83 = .ok (.aload_n 0, 1) := by decide +kernel
theorem dX3_init_84 : decode cX3_init 84 = .ok (.getfield 39, 3) := by decide +kernel
theorem dX3_init_87 : decode cX3_init 87 = .ok (.iload_n 1, 1) := by decide +kernel
theorem dX3_init_88 : decode cX3_init 88 = .ok (.bipush 6, 2) := by decide +kernel
theorem dX3_init_90 : decode cX3_init 90 = .ok (.iastore, 1) := by decide +kernel
theorem dX3_init_91 : decode cX3_init 91 = .ok (.iinc 1 1, 3) := by decide +kernel
theorem dX3_init_94 : decode cX3_init 94 = .ok (.goto (-16), 3) := by decide +kernel
theorem dX3_init_97 : decode cX3_init 97 = .ok (.return_, 1) := by decide +kernel
theorem dX3_add_0 : decode cX3_add 0 = .ok (.aload_n 0, 1) := by decide +kernel
theorem dX3_add_1 : decode cX3_add 1 = .ok (.getfield 9, 3) := by decide +kernel
theorem dX3_add_4 : decode cX3_add 4 = .ok (.istore 4, 2) := by decide +kernel
theorem dX3_add_6 : decode cX3_add 6 = .ok (.aload_n 0, 1) := by decide +kernel
theorem dX3_add_7 : decode cX3_add 7 = .ok (.getfield 15, 3) := by decide +kernel
theorem dX3_add_10 : decode cX3_add 10 = .ok (.iload 4, 2) := by decide +kernel
theorem dX3_add_12 : decode cX3_add 12 = .ok (.iload_n 1, 1) := by decide +kernel
theorem dX3_add_13 : decode cX3_add 13 = .ok (.iastore, 1) := by decide +kernel
theorem dX3_add_14 : decode cX3_add 14 = .ok (.aload_n 0, 1) := by decide +kernel
theorem dX3_add_15 : decode cX3_add 15 = .ok (.getfield 19, 3) := by decide +kernel
theorem dX3_add_18 : decode cX3_add 18 = .ok (.iload 4, 2) := by decide +kernel
theorem dX3_add_20 : decode cX3_add 20 = .ok (.iload_n 2, 1) := by decide +kernel
theorem dX3_add_21 : decode cX3_add 21 = .ok (.iastore, 1) := by decide +kernel
theorem dX3_add_22 : decode cX3_add 22 = .ok (.aload_n 0, 1) := by decide +kernel
theorem dX3_add_23 : decode cX3_add 23 = .ok (.getfield 22, 3) := by decide +kernel
theorem dX3_add_26 : decode cX3_add 26 = .ok (.iload 4, 2) := by decide +kernel
theorem dX3_add_28 : decode cX3_add 28 = .ok (.iload_n 3, 1) := by decide +kernel
theorem dX3_add_29 : decode cX3_add 29 = .ok (.iastore, 1) := by decide +kernel
theorem dX3_add_30 : decode cX3_add 30 = .ok (.aload_n 0, 1) := by decide +kernel
theorem dX3_add_31 : decode cX3_add 31 = .ok (.getfield 25, 3) := by decide +kernel
theorem dX3_add_34 : decode cX3_add 34 = .ok (.iload 4, 2) := by decide +kernel
theorem dX3_add_36 : decode cX3_add 36 = .ok (.iconst 1, 1) := by decide +kernel
theorem dX3_add_37 : decode cX3_add 37 = .ok (.iastore, 1) := by decide +kernel
theorem dX3_add_38 : decode cX3_add 38 = .ok (.aload_n 0, 1) := by decide +kernel
theorem dX3_add_39 : decode cX3_add 39 = .ok (.getfield 31, 3) := by decide +kernel
theorem dX3_add_42 : decode cX3_add 42 = .ok (.iload 4, 2) := by decide +kernel
theorem dX3_add_44 : decode cX3_add 44 = .ok (.bipush (-5), 2) := by decide +kernel
theorem dX3_add_46 : decode cX3_add 46 = .ok (.iastore, 1) := by decide +kernel
theorem dX3_add_47 : decode cX3_add 47 = .ok (.aload_n 0, 1) := by decide +kernel
theorem dX3_add_48 : decode cX3_add 48 = .ok (.dup, 1) := by decide +kernel
theorem dX3_add_49 : decode cX3_add 49 = .ok (.getfield 9, 3) := by decide +kernel
theorem dX3_add_52 : decode cX3_add 52 = .ok (.iconst 1, 1) := by decide +kernel
theorem dX3_add_53 : decode cX3_add 53 = .ok (.iadd, 1) := by decide +kernel
theorem dX3_add_54 : decode cX3_add 54 = .ok (.putfield 9, 3) := by decide +kernel
theorem dX3_add_57 : decode cX3_add 57 = .ok (.iload 4, 2) := by decide +kernel
theorem dX3_add_59 : decode cX3_add 59 = .ok (.ireturn, 1) := by decide +kernel
theorem dX3_has_0 : decode cX3_has 0 = .ok (.iload_n 1, 1) := by decide +kernel
theorem dX3_has_1 : decode cX3_has 1 = .ok (.ifCond .lt 15, 3) := by decide +kernel
theorem dX3_has_4 : decode cX3_has 4 = .ok (.iload_n 1, 1) := by decide +kernel
theorem dX3_has_5 : decode cX3_has 5 = .ok (.aload_n 0, 1) := by decide +kernel
theorem dX3_has_6 : decode cX3_has 6 = .ok (.getfield 9, 3) := by decide +kernel
theorem dX3_has_9 : decode cX3_has 9 = .ok (.if_icmp .ge 7, 3) := by decide +kernel
theorem dX3_has_12 : decode cX3_has 12 = .ok (.iconst 1, 1) := by decide +kernel
theorem dX3_has_13 : decode cX3_has 13 = .ok (.goto 4, 3) := by decide +kernel
theorem dX3_has_16 : decode cX3_has 16 = .ok (.iconst 0, 1) := by decide +kernel
theorem dX3_has_17 : decode cX3_has 17 = .ok (.ireturn, 1) := by decide +kernel
theorem dX3_mayHave_0 : decode cX3_mayHave 0 = .ok (.iload_n 2, 1) := by decide +kernel
theorem dX3_mayHave_1 : decode cX3_mayHave 1 = .ok (.aload_n 0, 1) := by decide +kernel
theorem dX3_mayHave_2 : decode cX3_mayHave 2 = .ok (.getfield 15, 3) := by decide +kernel
theorem dX3_mayHave_5 : decode cX3_mayHave 5 = .ok (.iload_n 1, 1) := by decide +kernel
theorem dX3_mayHave_6 : decode cX3_mayHave 6 = .ok (.iaload, 1) := by decide +kernel
theorem dX3_mayHave_7 : decode cX3_mayHave 7 = .ok (.if_icmp .lt 17, 3) := by decide +kernel
theorem dX3_mayHave_10 : decode cX3_mayHave 10 = .ok (.iload_n 2, 1) := by decide +kernel
theorem dX3_mayHave_11 : decode cX3_mayHave 11 = .ok (.aload_n 0, 1) := by decide +kernel
theorem dX3_mayHave_12 : decode cX3_mayHave 12 = .ok (.getfield 19, 3) := by decide +kernel
theorem dX3_mayHave_15 : decode cX3_mayHave 15 = .ok (.iload_n 1, 1) := by decide +kernel
theorem dX3_mayHave_16 : decode cX3_mayHave 16 = .ok (.iaload, 1) := by decide +kernel
theorem dX3_mayHave_17 : decode cX3_mayHave 17 = .ok (.if_icmp .gt 7, 3) := by decide +kernel
theorem dX3_mayHave_20 : decode cX3_mayHave 20 = .ok (.iconst 1, 1) := by decide +kernel
theorem dX3_mayHave_21 : decode cX3_mayHave 21 = .ok (.goto 4, 3) := by decide +kernel
theorem dX3_mayHave_24 : decode cX3_mayHave 24 = .ok (.iconst 0, 1) := by decide +kernel
theorem dX3_mayHave_25 : decode cX3_mayHave 25 = .ok (.ireturn, 1) := by decide +kernel
theorem dX3_pinLets_0 : decode cX3_pinLets 0 = .ok (.aload_n 0, 1) := by decide +kernel
theorem dX3_pinLets_1 : decode cX3_pinLets 1 = .ok (.getfield 31, 3) := by decide +kernel
theorem dX3_pinLets_4 : decode cX3_pinLets 4 = .ok (.iload_n 1, 1) := by decide +kernel
theorem dX3_pinLets_5 : decode cX3_pinLets 5 = .ok (.iaload, 1) := by decide +kernel
theorem dX3_pinLets_6 : decode cX3_pinLets 6 = .ok (.bipush (-5), 2) := by decide +kernel
theorem dX3_pinLets_8 : decode cX3_pinLets 8 = .ok (.if_icmp .eq 13, 3) := by decide +kernel
theorem dX3_pinLets_11 : decode cX3_pinLets 11 = .ok (.aload_n 0, 1) := by decide +kernel
theorem dX3_pinLets_12 : decode cX3_pinLets 12 = .ok (.getfield 31, 3) := by decide +kernel
theorem dX3_pinLets_15 : decode cX3_pinLets 15 = .ok (.iload_n 1, 1) := by decide +kernel
theorem dX3_pinLets_16 : decode cX3_pinLets 16 = .ok (.iaload, 1) := by decide +kernel
theorem dX3_pinLets_17 : decode cX3_pinLets 17 = .ok (.iload_n 2, 1) := by decide +kernel
theorem dX3_pinLets_18 : decode cX3_pinLets 18 = .ok (.if_icmp .ne 7, 3) := by decide +kernel
theorem dX3_pinLets_21 : decode cX3_pinLets 21 = .ok (.iconst 1, 1) := by decide +kernel
theorem dX3_pinLets_22 : decode cX3_pinLets 22 = .ok (.goto 4, 3) := by decide +kernel
theorem dX3_pinLets_25 : decode cX3_pinLets 25 = .ok (.iconst 0, 1) := by decide +kernel
theorem dX3_pinLets_26 : decode cX3_pinLets 26 = .ok (.ireturn, 1) := by decide +kernel
theorem dX4_init_0 : decode cX4_init 0 = .ok (.aload_n 0, 1) := by decide +kernel
theorem dX4_init_1 : decode cX4_init 1 = .ok (.invokespecial 1, 3) := by decide +kernel
theorem dX4_init_4 : decode cX4_init 4 = .ok (.return_, 1) := by decide +kernel
theorem dX5_init_0 : decode cX5_init 0 = .ok (.aload_n 0, 1) := by decide +kernel
theorem dX5_init_1 : decode cX5_init 1 = .ok (.invokespecial 3, 3) := by decide +kernel
theorem dX5_init_4 : decode cX5_init 4 = .ok (.aload_n 0, 1) := by decide +kernel
theorem dX5_init_5 : decode cX5_init 5 = .ok (.iconst 0, 1) := by decide +kernel
theorem dX5_init_6 : decode cX5_init 6 = .ok (.putfield 9, 3) := by decide +kernel
theorem dX5_init_9 : decode cX5_init 9 = .ok (.aload_n 0, 1) := by decide +kernel
theorem dX5_init_10 : decode cX5_init 10 = .ok (.bipush (-5), 2) := by decide +kernel
theorem dX5_init_12 : decode cX5_init 12 = .ok (.putfield 15, 3) := by decide +kernel
theorem dX5_init_15 : decode cX5_init 15 = .ok (.aload_n 0, 1) := by decide +kernel
theorem dX5_init_16 : decode cX5_init 16 = .ok (.iconst 3, 1) := by decide +kernel
theorem dX5_init_17 : decode cX5_init 17 = .ok (.bipush 6, 2) := by decide +kernel
theorem dX5_init_19 : decode cX5_init 19 = .ok (.multianewarray 18 2, 4) := by decide +kernel
theorem dX5_init_23 : decode cX5_init 23 = .ok (.putfield 20, 3) := by decide +kernel
theorem dX5_init_26 : decode cX5_init 26 = .ok (.aload_n 0, 1) := by decide +kernel
theorem dX5_init_27 : decode cX5_init 27 = .ok (.iconst 3, 1) := by decide +kernel
theorem dX5_init_28 : decode cX5_init 28 = .ok (.bipush 6, 2) := by decide +kernel
theorem dX5_init_30 : decode cX5_init 30 = .ok (.multianewarray 18 2, 4) := by decide +kernel
theorem dX5_init_34 : decode cX5_init 34 = .ok (.putfield 23, 3) := by decide +kernel
theorem dX5_init_37 : decode cX5_init 37 = .ok (.return_, 1) := by decide +kernel
theorem dX5_add_0 : decode cX5_add 0 = .ok (.aload_n 1, 1) := by decide +kernel
theorem dX5_add_1 : decode cX5_add 1 = .ok (.iconst 0, 1) := by decide +kernel
theorem dX5_add_2 : decode cX5_add 2 = .ok (.aload_n 0, 1) := by decide +kernel
theorem dX5_add_3 : decode cX5_add 3 = .ok (.getfield 20, 3) := by decide +kernel
theorem dX5_add_6 : decode cX5_add 6 = .ok (.aload_n 0, 1) := by decide +kernel
theorem dX5_add_7 : decode cX5_add 7 = .ok (.getfield 9, 3) := by decide +kernel
theorem dX5_add_10 : decode cX5_add 10 = .ok (.aaload, 1) := by decide +kernel
theorem dX5_add_11 : decode cX5_add 11 = .ok (.iconst 0, 1) := by decide +kernel
theorem dX5_add_12 : decode cX5_add 12 = .ok (.bipush 6, 2) := by decide +kernel
theorem dX5_add_14 : decode cX5_add 14 = .ok (.invokestatic 26, 3) := by decide +kernel
theorem dX5_add_17 : decode cX5_add 17 = .ok (.aload_n 2, 1) := by decide +kernel
theorem dX5_add_18 : decode cX5_add 18 = .ok (.iconst 0, 1) := by decide +kernel
theorem dX5_add_19 : decode cX5_add 19 = .ok (.aload_n 0, 1) := by decide +kernel
theorem dX5_add_20 : decode cX5_add 20 = .ok (.getfield 23, 3) := by decide +kernel
theorem dX5_add_23 : decode cX5_add 23 = .ok (.aload_n 0, 1) := by decide +kernel
theorem dX5_add_24 : decode cX5_add 24 = .ok (.getfield 9, 3) := by decide +kernel
theorem dX5_add_27 : decode cX5_add 27 = .ok (.aaload, 1) := by decide +kernel
theorem dX5_add_28 : decode cX5_add 28 = .ok (.iconst 0, 1) := by decide +kernel
theorem dX5_add_29 : decode cX5_add 29 = .ok (.bipush 6, 2) := by decide +kernel
theorem dX5_add_31 : decode cX5_add 31 = .ok (.invokestatic 26, 3) := by decide +kernel
theorem dX5_add_34 : decode cX5_add 34 = .ok (.aload_n 0, 1) := by decide +kernel
theorem dX5_add_35 : decode cX5_add 35 = .ok (.aload_n 0, 1) := by decide +kernel
theorem dX5_add_36 : decode cX5_add 36 = .ok (.getfield 9, 3) := by decide +kernel
theorem dX5_add_39 : decode cX5_add 39 = .ok (.putfield 15, 3) := by decide +kernel
theorem dX5_add_42 : decode cX5_add 42 = .ok (.aload_n 0, 1) := by decide +kernel
theorem dX5_add_43 : decode cX5_add 43 = .ok (.dup, 1) := by decide +kernel
theorem dX5_add_44 : decode cX5_add 44 = .ok (.getfield 9, 3) := by decide +kernel
theorem dX5_add_47 : decode cX5_add 47 = .ok (.iconst 1, 1) := by decide +kernel
theorem dX5_add_48 : decode cX5_add 48 = .ok (.iadd, 1) := by decide +kernel
theorem dX5_add_49 : decode cX5_add 49 = .ok (.putfield 9, 3) := by decide +kernel
theorem dX5_add_52 : decode cX5_add 52 = .ok (.aload_n 0, 1) := by decide +kernel
theorem dX5_add_53 : decode cX5_add 53 = .ok (.getfield 15, 3) := by decide +kernel
theorem dX5_add_56 : decode cX5_add 56 = .ok (.ireturn, 1) := by decide +kernel
theorem dX5_has_0 : decode cX5_has 0 = .ok (.iload_n 1, 1) := by decide +kernel
theorem dX5_has_1 : decode cX5_has 1 = .ok (.ifCond .lt 15, 3) := by decide +kernel
theorem dX5_has_4 : decode cX5_has 4 = .ok (.iload_n 1, 1) := by decide +kernel
theorem dX5_has_5 : decode cX5_has 5 = .ok (.aload_n 0, 1) := by decide +kernel
theorem dX5_has_6 : decode cX5_has 6 = .ok (.getfield 9, 3) := by decide +kernel
theorem dX5_has_9 : decode cX5_has 9 = .ok (.if_icmp .ge 7, 3) := by decide +kernel
theorem dX5_has_12 : decode cX5_has 12 = .ok (.iconst 1, 1) := by decide +kernel
theorem dX5_has_13 : decode cX5_has 13 = .ok (.goto 4, 3) := by decide +kernel
theorem dX5_has_16 : decode cX5_has 16 = .ok (.iconst 0, 1) := by decide +kernel
theorem dX5_has_17 : decode cX5_has 17 = .ok (.ireturn, 1) := by decide +kernel
theorem dX5_hasBase_0 : decode cX5_hasBase 0 = .ok (.aload_n 0, 1) := by decide +kernel
theorem dX5_hasBase_1 : decode cX5_hasBase 1 = .ok (.getfield 15, 3) := by decide +kernel
theorem dX5_hasBase_4 : decode cX5_hasBase 4 = .ok (.bipush (-5), 2) := by decide +kernel
theorem dX5_hasBase_6 : decode cX5_hasBase 6 = .ok (.if_icmp .eq 7, 3) := by decide +kernel
theorem dX5_hasBase_9 : decode cX5_hasBase 9 = .ok (.iconst 1, 1) := by decide +kernel
theorem dX5_hasBase_10 : decode cX5_hasBase 10 = .ok (.goto 4, 3) := by decide +kernel
theorem dX5_hasBase_13 : decode cX5_hasBase 13 = .ok (.iconst 0, 1) := by decide +kernel
theorem dX5_hasBase_14 : decode cX5_hasBase 14 = .ok (.ireturn, 1) := by decide +kernel
theorem dX5_valueThen_0 : decode cX5_valueThen 0 = .ok (.aload_n 0, 1) := by decide +kernel
theorem dX5_valueThen_1 : decode cX5_valueThen 1 = .ok (.invokevirtual 32, 3) := by decide +kernel
theorem dX5_valueThen_4 : decode cX5_valueThen 4 = .ok (.ifCond .eq 17, 3) := by decide +kernel
theorem dX5_valueThen_7 : decode cX5_valueThen 7 = .ok (.aload_n 0, 1) := by decide +kernel
theorem dX5_valueThen_8 : decode cX5_valueThen 8 = .ok (.getfield 20, 3) := by decide +kernel
theorem dX5_valueThen_11 : decode cX5_valueThen 11 = .ok (.aload_n 0, 1) := by decide +kernel
theorem dX5_valueThen_12 : decode cX5_valueThen 12 = .ok (.getfield 15, 3) := by decide +kernel
theorem dX5_valueThen_15 : decode cX5_valueThen 15 = .ok (.aaload, 1) := by decide +kernel
theorem dX5_valueThen_16 : decode cX5_valueThen 16 = .ok (.iload_n 1, 1) := by decide +kernel
theorem dX5_valueThen_17 : decode cX5_valueThen 17 = .ok (.iaload, 1) := by decide +kernel
theorem dX5_valueThen_18 : decode cX5_valueThen 18 = .ok (.goto 5, 3) := by decide +kernel
theorem dX5_valueThen_21 : decode cX5_valueThen 21 = .ok (.bipush (-5), 2) := by decide +kernel
theorem dX5_valueThen_23 : decode cX5_valueThen 23 = .ok (.ireturn, 1) := by decide +kernel
theorem dX5_moves_0 : decode cX5_moves 0 = .ok (.aload_n 0, 1) := by decide +kernel
theorem dX5_moves_1 : decode cX5_moves 1 = .ok (.invokevirtual 32, 3) := by decide +kernel
theorem dX5_moves_4 : decode cX5_moves 4 = .ok (.ifCond .eq 22, 3) := by decide +kernel
theorem dX5_moves_7 : decode cX5_moves 7 = .ok (.aload_n 0, 1) := by decide +kernel
theorem dX5_moves_8 : decode cX5_moves 8 = .ok (.getfield 20, 3) := by decide +kernel
theorem dX5_moves_11 : decode cX5_moves 11 = .ok (.aload_n 0, 1) := by decide +kernel
theorem dX5_moves_12 : decode cX5_moves 12 = .ok (.getfield 15, 3) := by decide +kernel
theorem dX5_moves_15 : decode cX5_moves 15 = .ok (.aaload, 1) := by decide +kernel
theorem dX5_moves_16 : decode cX5_moves 16 = .ok (.iload_n 1, 1) := by decide +kernel
theorem dX5_moves_17 : decode cX5_moves 17 = .ok (.iaload, 1) := by decide +kernel
theorem dX5_moves_18 : decode cX5_moves 18 = .ok (.iload_n 2, 1) := by decide +kernel
theorem dX5_moves_19 : decode cX5_moves 19 = .ok (.if_icmp .eq 7, 3) := by decide +kernel
theorem dX5_moves_22 : decode cX5_moves 22 = .ok (.iconst 1, 1) := by decide +kernel
theorem dX5_moves_23 : decode cX5_moves 23 = .ok (.goto 4, 3) := by decide +kernel
theorem dX5_moves_26 : decode cX5_moves 26 = .ok (.iconst 0, 1) := by decide +kernel
theorem dX5_moves_27 : decode cX5_moves 27 = .ok (.ireturn, 1) := by decide +kernel
theorem dX5_factThen_0 : decode cX5_factThen 0 = .ok (.aload_n 0, 1) := by decide +kernel
theorem dX5_factThen_1 : decode cX5_factThen 1 = .ok (.invokevirtual 32, 3) := by decide +kernel
theorem dX5_factThen_4 : decode cX5_factThen 4 = .ok (.ifCond .eq 17, 3) := by decide +kernel
theorem dX5_factThen_7 : decode cX5_factThen 7 = .ok (.aload_n 0, 1) := by decide +kernel
theorem dX5_factThen_8 : decode cX5_factThen 8 = .ok (.getfield 23, 3) := by decide +kernel
theorem dX5_factThen_11 : decode cX5_factThen 11 = .ok (.aload_n 0, 1) := by decide +kernel
theorem dX5_factThen_12 : decode cX5_factThen 12 = .ok (.getfield 15, 3) := by decide +kernel
theorem dX5_factThen_15 : decode cX5_factThen 15 = .ok (.aaload, 1) := by decide +kernel
theorem dX5_factThen_16 : decode cX5_factThen 16 = .ok (.iload_n 1, 1) := by decide +kernel
theorem dX5_factThen_17 : decode cX5_factThen 17 = .ok (.iaload, 1) := by decide +kernel
theorem dX5_factThen_18 : decode cX5_factThen 18 = .ok (.goto 5, 3) := by decide +kernel
theorem dX5_factThen_21 : decode cX5_factThen 21 = .ok (.bipush (-5), 2) := by decide +kernel
theorem dX5_factThen_23 : decode cX5_factThen 23 = .ok (.ireturn, 1) := by decide +kernel
theorem dX6_init_0 : decode cX6_init 0 = .ok (.aload_n 0, 1) := by decide +kernel
theorem dX6_init_1 : decode cX6_init 1 = .ok (.invokespecial 3, 3) := by decide +kernel
theorem dX6_init_4 : decode cX6_init 4 = .ok (.aload_n 0, 1) := by decide +kernel
theorem dX6_init_5 : decode cX6_init 5 = .ok (.iconst 0, 1) := by decide +kernel
theorem dX6_init_6 : decode cX6_init 6 = .ok (.putfield 9, 3) := by decide +kernel
theorem dX6_init_9 : decode cX6_init 9 = .ok (.aload_n 0, 1) := by decide +kernel
theorem dX6_init_10 : decode cX6_init 10 = .ok (.bipush 8, 2) := by decide +kernel
theorem dX6_init_12 : decode cX6_init 12 = .ok (.bipush 6, 2) := by decide +kernel
theorem dX6_init_14 : decode cX6_init 14 = .ok (.multianewarray 15 2, 4) := by decide +kernel
theorem dX6_init_18 : decode cX6_init 18 = .ok (.putfield 17, 3) := by decide +kernel
theorem dX6_init_21 : decode cX6_init 21 = .ok (.aload_n 0, 1) := by decide +kernel
theorem dX6_init_22 : decode cX6_init 22 = .ok (.bipush 8, 2) := by decide +kernel
theorem dX6_init_24 : decode cX6_init 24 = .ok (.newarray .int, 2) := by decide +kernel
theorem dX6_init_26 : decode cX6_init 26 = .ok (.putfield 20, 3) := by decide +kernel
theorem dX6_init_29 : decode cX6_init 29 = .ok (.return_, 1) := by decide +kernel
theorem dX6_push_0 : decode cX6_push 0 = .ok (.aload_n 0, 1) := by decide +kernel
theorem dX6_push_1 : decode cX6_push 1 = .ok (.getfield 9, 3) := by decide +kernel
theorem dX6_push_4 : decode cX6_push 4 = .ok (.bipush 8, 2) := by decide +kernel
theorem dX6_push_6 : decode cX6_push 6 = .ok (.if_icmp .ne 7, 3) := by decide +kernel
theorem dX6_push_9 : decode cX6_push 9 = .ok (.aload_n 0, 1) := by decide +kernel
theorem dX6_push_10 : decode cX6_push 10 = .ok (.invokevirtual 24, 3) := by decide +kernel
theorem dX6_push_13 : decode cX6_push 13 = .ok (.aload_n 1, 1) := by decide +kernel
theorem dX6_push_14 : decode cX6_push 14 = .ok (.iconst 0, 1) := by decide +kernel
theorem dX6_push_15 : decode cX6_push 15 = .ok (.aload_n 0, 1) := by decide +kernel
theorem dX6_push_16 : decode cX6_push 16 = .ok (.getfield 17, 3) := by decide +kernel
theorem dX6_push_19 : decode cX6_push 19 = .ok (.aload_n 0, 1) := by decide +kernel
theorem dX6_push_20 : decode cX6_push 20 = .ok (.getfield 9, 3) := by decide +kernel
theorem dX6_push_23 : decode cX6_push 23 = .ok (.aaload, 1) := by decide +kernel
theorem dX6_push_24 : decode cX6_push 24 = .ok (.iconst 0, 1) := by decide +kernel
theorem dX6_push_25 : decode cX6_push 25 = .ok (.bipush 6, 2) := by decide +kernel
theorem dX6_push_27 : decode cX6_push 27 = .ok (.invokestatic 27, 3) := by decide +kernel
theorem dX6_push_30 : decode cX6_push 30 = .ok (.aload_n 0, 1) := by decide +kernel
theorem dX6_push_31 : decode cX6_push 31 = .ok (.getfield 20, 3) := by decide +kernel
theorem dX6_push_34 : decode cX6_push 34 = .ok (.aload_n 0, 1) := by decide +kernel
theorem dX6_push_35 : decode cX6_push 35 = .ok (.getfield 9, 3) := by decide +kernel
theorem dX6_push_38 : decode cX6_push 38 = .ok (.iload_n 2, 1) := by decide +kernel
theorem dX6_push_39 : decode cX6_push 39 = .ok (.iastore, 1) := by decide +kernel
theorem dX6_push_40 : decode cX6_push 40 = .ok (.aload_n 0, 1) := by decide +kernel
theorem dX6_push_41 : decode cX6_push 41 = .ok (.dup, 1) := by decide +kernel
theorem dX6_push_42 : decode cX6_push 42 = .ok (.getfield 9, 3) := by decide +kernel
theorem dX6_push_45 : decode cX6_push 45 = .ok (.iconst 1, 1) := by decide +kernel
theorem dX6_push_46 : decode cX6_push 46 = .ok (.iadd, 1) := by decide +kernel
theorem dX6_push_47 : decode cX6_push 47 = .ok (.putfield 9, 3) := by decide +kernel
theorem dX6_push_50 : decode cX6_push 50 = .ok (.return_, 1) := by decide +kernel
theorem dX6_pop_0 : decode cX6_pop 0 = .ok (.aload_n 0, 1) := by decide +kernel
theorem dX6_pop_1 : decode cX6_pop 1 = .ok (.getfield 9, 3) := by decide +kernel
theorem dX6_pop_4 : decode cX6_pop 4 = .ok (.ifCond .ne 4, 3) := by decide +kernel
theorem dX6_pop_7 : decode cX6_pop 7 = .ok (.return_, 1) := by decide +kernel
theorem dX6_pop_8 : decode cX6_pop 8 = .ok (.aload_n 0, 1) := by decide +kernel
theorem dX6_pop_9 : decode cX6_pop 9 = .ok (.dup, 1) := by decide +kernel
theorem dX6_pop_10 : decode cX6_pop 10 = .ok (.getfield 9, 3) := by decide +kernel
theorem dX6_pop_13 : decode cX6_pop 13 = .ok (.iconst 1, 1) := by decide +kernel
theorem dX6_pop_14 : decode cX6_pop 14 = .ok (.isub, 1) := by decide +kernel
theorem dX6_pop_15 : decode cX6_pop 15 = .ok (.putfield 9, 3) := by decide +kernel
theorem dX6_pop_18 : decode cX6_pop 18 = .ok (.aload_n 0, 1) := by decide +kernel
theorem dX6_pop_19 : decode cX6_pop 19 = .ok (.getfield 17, 3) := by decide +kernel
theorem dX6_pop_22 : decode cX6_pop 22 = .ok (.aload_n 0, 1) := by decide +kernel
theorem dX6_pop_23 : decode cX6_pop 23 = .ok (.getfield 9, 3) := by decide +kernel
theorem dX6_pop_26 : decode cX6_pop 26 = .ok (.aaload, 1) := by decide +kernel
theorem dX6_pop_27 : decode cX6_pop 27 = .ok (.iconst 0, 1) := by decide +kernel
theorem dX6_pop_28 : decode cX6_pop 28 = .ok (.aload_n 1, 1) := by decide +kernel
theorem dX6_pop_29 : decode cX6_pop 29 = .ok (.iconst 0, 1) := by decide +kernel
theorem dX6_pop_30 : decode cX6_pop 30 = .ok (.aload_n 0, 1) := by decide +kernel
theorem dX6_pop_31 : decode cX6_pop 31 = .ok (.getfield 20, 3) := by decide +kernel
theorem dX6_pop_34 : decode cX6_pop 34 = .ok (.aload_n 0, 1) := by decide +kernel
theorem dX6_pop_35 : decode cX6_pop 35 = .ok (.getfield 9, 3) := by decide +kernel
theorem dX6_pop_38 : decode cX6_pop 38 = .ok (.iaload, 1) := by decide +kernel
theorem dX6_pop_39 : decode cX6_pop 39 = .ok (.invokestatic 27, 3) := by decide +kernel
theorem dX6_pop_42 : decode cX6_pop 42 = .ok (.return_, 1) := by decide +kernel
theorem dX6_forgetOldest_0 : decode cX6_forgetOldest 0 = .ok (.iconst 1, 1) := by decide +kernel
theorem dX6_forgetOldest_1 : decode cX6_forgetOldest 1 = .ok (.istore_n 1, 1) := by decide +kernel
theorem dX6_forgetOldest_2 : decode cX6_forgetOldest 2 = .ok (.iload_n 1, 1) := by decide +kernel
theorem dX6_forgetOldest_3 : decode cX6_forgetOldest 3 = .ok (.bipush 8, 2) := by decide +kernel
theorem dX6_forgetOldest_5 : decode cX6_forgetOldest 5 = .ok (.if_icmp .ge 44, 3) := by decide +kernel
theorem dX6_forgetOldest_8 : decode cX6_forgetOldest 8 = .ok (.aload_n 0, 1) := by decide +kernel
theorem dX6_forgetOldest_9 : decode cX6_forgetOldest 9 = .ok (.getfield 17, 3) := by decide +kernel
theorem dX6_forgetOldest_12 : decode cX6_forgetOldest 12 = .ok (.iload_n 1, 1) := by decide +kernel
theorem dX6_forgetOldest_13 : decode cX6_forgetOldest 13 = .ok (.aaload, 1) := by decide +kernel
theorem dX6_forgetOldest_14 : decode cX6_forgetOldest 14 = .ok (.iconst 0, 1) := by decide +kernel
theorem dX6_forgetOldest_15 : decode cX6_forgetOldest 15 = .ok (.aload_n 0, 1) := by decide +kernel
theorem dX6_forgetOldest_16 : decode cX6_forgetOldest 16 = .ok (.getfield 17, 3) := by decide +kernel
theorem dX6_forgetOldest_19 : decode cX6_forgetOldest 19 = .ok (.iload_n 1, 1) := by decide +kernel
theorem dX6_forgetOldest_20 : decode cX6_forgetOldest 20 = .ok (.iconst 1, 1) := by decide +kernel
theorem dX6_forgetOldest_21 : decode cX6_forgetOldest 21 = .ok (.isub, 1) := by decide +kernel
theorem dX6_forgetOldest_22 : decode cX6_forgetOldest 22 = .ok (.aaload, 1) := by decide +kernel
theorem dX6_forgetOldest_23 : decode cX6_forgetOldest 23 = .ok (.iconst 0, 1) := by decide +kernel
theorem dX6_forgetOldest_24 : decode cX6_forgetOldest 24 = .ok (.bipush 6, 2) := by decide +kernel
theorem dX6_forgetOldest_26 : decode cX6_forgetOldest 26 = .ok (.invokestatic 27, 3) := by decide +kernel
theorem dX6_forgetOldest_29 : decode cX6_forgetOldest 29 = .ok (.aload_n 0, 1) := by decide +kernel
theorem dX6_forgetOldest_30 : decode cX6_forgetOldest 30 = .ok (.getfield 20, 3) := by decide +kernel
theorem dX6_forgetOldest_33 : decode cX6_forgetOldest 33 = .ok (.iload_n 1, 1) := by decide +kernel
theorem dX6_forgetOldest_34 : decode cX6_forgetOldest 34 = .ok (.iconst 1, 1) := by decide +kernel
theorem dX6_forgetOldest_35 : decode cX6_forgetOldest 35 = .ok (.isub, 1) := by decide +kernel
theorem dX6_forgetOldest_36 : decode cX6_forgetOldest 36 = .ok (.aload_n 0, 1) := by decide +kernel
theorem dX6_forgetOldest_37 : decode cX6_forgetOldest 37 = .ok (.getfield 20, 3) := by decide +kernel
theorem dX6_forgetOldest_40 : decode cX6_forgetOldest 40 = .ok (.iload_n 1, 1) := by decide +kernel
theorem dX6_forgetOldest_41 : decode cX6_forgetOldest 41 = .ok (.iaload, 1) := by decide +kernel
theorem dX6_forgetOldest_42 : decode cX6_forgetOldest 42 = .ok (.iastore, 1) := by decide +kernel
theorem dX6_forgetOldest_43 : decode cX6_forgetOldest 43 = .ok (.iinc 1 1, 3) := by decide +kernel
theorem dX6_forgetOldest_46 : decode cX6_forgetOldest 46 = .ok (.goto (-44), 3) := by decide +kernel
theorem dX6_forgetOldest_49 : decode cX6_forgetOldest 49 = .ok (.aload_n 0, 1) := by decide +kernel
theorem dX6_forgetOldest_50 : decode cX6_forgetOldest 50 = .ok (.bipush 7, 2) := by decide +kernel
theorem dX6_forgetOldest_52 : decode cX6_forgetOldest 52 = .ok (.putfield 9, 3) := by decide +kernel
theorem dX6_forgetOldest_55 : decode cX6_forgetOldest 55 = .ok (.return_, 1) := by decide +kernel
theorem dX7_init_0 : decode cX7_init 0 = .ok (.aload_n 0, 1) := by decide +kernel
theorem dX7_init_1 : decode cX7_init 1 = .ok (.invokespecial 3, 3) := by decide +kernel
theorem dX7_init_4 : decode cX7_init 4 = .ok (.aload_n 0, 1) := by decide +kernel
theorem dX7_init_5 : decode cX7_init 5 = .ok (.iconst 0, 1) := by decide +kernel
theorem dX7_init_6 : decode cX7_init 6 = .ok (.putfield 9, 3) := by decide +kernel
theorem dX7_init_9 : decode cX7_init 9 = .ok (.aload_n 0, 1) := by decide +kernel
theorem dX7_init_10 : decode cX7_init 10 = .ok (.bipush 6, 2) := by decide +kernel
theorem dX7_init_12 : decode cX7_init 12 = .ok (.newarray .int, 2) := by decide +kernel
theorem dX7_init_14 : decode cX7_init 14 = .ok (.putfield 15, 3) := by decide +kernel
theorem dX7_init_17 : decode cX7_init 17 = .ok (.aload_n 0, 1) := by decide +kernel
theorem dX7_init_18 : decode cX7_init 18 = .ok (.bipush 6, 2) := by decide +kernel
theorem dX7_init_20 : decode cX7_init 20 = .ok (.newarray .int, 2) := by decide +kernel
theorem dX7_init_22 : decode cX7_init 22 = .ok (.putfield 19, 3) := by decide +kernel
theorem dX7_init_25 : decode cX7_init 25 = .ok (.aload_n 0, 1) := by decide +kernel
theorem dX7_init_26 : decode cX7_init 26 = .ok (.bipush 6, 2) := by decide +kernel
theorem dX7_init_28 : decode cX7_init 28 = .ok (.newarray .int, 2) := by decide +kernel
theorem dX7_init_30 : decode cX7_init 30 = .ok (.putfield 22, 3) := by decide +kernel
theorem dX7_init_33 : decode cX7_init 33 = .ok (.aload_n 0, 1) := by decide +kernel
theorem dX7_init_34 : decode cX7_init 34 = .ok (.bipush 64, 2) := by decide +kernel
theorem dX7_init_36 : decode cX7_init 36 = .ok (.newarray .int, 2) := by decide +kernel
theorem dX7_init_38 : decode cX7_init 38 = .ok (.putfield 25, 3) := by decide +kernel
theorem dX7_init_41 : decode cX7_init 41 = .ok (.aload_n 0, 1) := by decide +kernel
theorem dX7_init_42 : decode cX7_init 42 = .ok (.bipush 64, 2) := by decide +kernel
theorem dX7_init_44 : decode cX7_init 44 = .ok (.newarray .int, 2) := by decide +kernel
theorem dX7_init_46 : decode cX7_init 46 = .ok (.putfield 28, 3) := by decide +kernel
theorem dX7_init_49 : decode cX7_init 49 = .ok (.aload_n 0, 1) := by decide +kernel
theorem dX7_init_50 : decode cX7_init 50 = .ok (.bipush 64, 2) := by decide +kernel
theorem dX7_init_52 : decode cX7_init 52 = .ok (.newarray .int, 2) := by decide +kernel
theorem dX7_init_54 : decode cX7_init 54 = .ok (.putfield 31, 3) := by decide +kernel
theorem dX7_init_57 : decode cX7_init 57 = .ok (.aload_n 0, 1) := by decide +kernel
theorem dX7_init_58 : decode cX7_init 58 = .ok (.aload_n 1, 1) := by decide +kernel
theorem dX7_init_59 : decode cX7_init 59 = .ok (.putfield 34, 3) := by decide +kernel
theorem dX7_init_62 : decode cX7_init 62 = .ok (.aload_n 0, 1) := by decide +kernel
theorem dX7_init_63 : decode cX7_init 63 = .ok (.aload_n 2, 1) := by decide +kernel
theorem dX7_init_64 : decode cX7_init 64 = .ok (.putfield 38, 3) := by decide +kernel
theorem dX7_init_67 : decode cX7_init 67 = .ok (.aload_n 0, 1) := by decide +kernel
theorem dX7_init_68 : decode cX7_init 68 = .ok (.aload_n 3, 1) := by decide +kernel
theorem dX7_init_69 : decode cX7_init 69 = .ok (.putfield 42, 3) := by decide +kernel
theorem dX7_init_72 : decode cX7_init 72 = .ok (.return_, 1) := by decide +kernel
theorem dX7_find_0 : decode cX7_find 0 = .ok (.iconst 0, 1) := by decide +kernel
theorem dX7_find_1 : decode cX7_find 1 = .ok (.istore_n 3, 1) := by decide +kernel
theorem dX7_find_2 : decode cX7_find 2 = .ok (.iload_n 3, 1) := by decide +kernel
theorem dX7_find_3 : decode cX7_find 3 = .ok (.iload_n 2, 1) := by decide +kernel
theorem dX7_find_4 : decode cX7_find 4 = .ok (.if_icmp .gt 29, 3) := by decide +kernel
theorem dX7_find_7 : decode cX7_find 7 = .ok (.iload_n 3, 1) := by decide +kernel
theorem dX7_find_8 : decode cX7_find 8 = .ok (.iload_n 2, 1) := by decide +kernel
theorem dX7_find_9 : decode cX7_find 9 = .ok (.iconst (-1), 1) := by decide +kernel
theorem dX7_find_10 : decode cX7_find 10 = .ok (.ixor, 1) := by decide +kernel
theorem dX7_find_11 : decode cX7_find 11 = .ok (.iand, 1) := by decide +kernel
theorem dX7_find_12 : decode cX7_find 12 = .ok (.ifCond .ne 15, 3) := by decide +kernel
theorem dX7_find_15 : decode cX7_find 15 = .ok (.aload_n 0, 1) := by decide +kernel
theorem dX7_find_16 : decode cX7_find 16 = .ok (.getfield 25, 3) := by decide +kernel
theorem dX7_find_19 : decode cX7_find 19 = .ok (.iload_n 3, 1) := by decide +kernel
theorem dX7_find_20 : decode cX7_find 20 = .ok (.aload_n 0, 1) := by decide +kernel
theorem dX7_find_21 : decode cX7_find 21 = .ok (.iload_n 3, 1) := by decide +kernel
theorem dX7_find_22 : decode cX7_find 22 = .ok (.aload_n 1, 1) := by decide +kernel
theorem dX7_find_23 : decode cX7_find 23 = .ok (.invokevirtual 46, 3) := by decide +kernel
theorem dX7_find_26 : decode cX7_find 26 = .ok (.iastore, 1) := by decide +kernel
theorem dX7_find_27 : decode cX7_find 27 = .ok (.iinc 3 1, 3) := by decide +kernel
theorem dX7_find_30 : decode cX7_find 30 = .ok (.goto (-28), 3) := by decide +kernel
theorem dX7_find_33 : decode cX7_find 33 = .ok (.aload_n 0, 1) := by decide +kernel
theorem dX7_find_34 : decode cX7_find 34 = .ok (.iload_n 2, 1) := by decide +kernel
theorem dX7_find_35 : decode cX7_find 35 = .ok (.invokevirtual 50, 3) := by decide +kernel
theorem dX7_find_38 : decode cX7_find 38 = .ok (.aload_n 0, 1) := by decide +kernel
theorem dX7_find_39 : decode cX7_find 39 = .ok (.iload_n 2, 1) := by decide +kernel
theorem dX7_find_40 : decode cX7_find 40 = .ok (.invokevirtual 54, 3) := by decide +kernel
theorem dX7_find_43 : decode cX7_find 43 = .ok (.aload_n 0, 1) := by decide +kernel
theorem dX7_find_44 : decode cX7_find 44 = .ok (.iload_n 2, 1) := by decide +kernel
theorem dX7_find_45 : decode cX7_find 45 = .ok (.invokevirtual 57, 3) := by decide +kernel
theorem dX7_find_48 : decode cX7_find 48 = .ok (.return_, 1) := by decide +kernel
theorem dX7_brokenWith_0 : decode cX7_brokenWith 0 = .ok (.iconst 0, 1) := by decide +kernel
theorem dX7_brokenWith_1 : decode cX7_brokenWith 1 = .ok (.istore_n 3, 1) := by decide +kernel
theorem dX7_brokenWith_2 : decode cX7_brokenWith 2 = .ok (.iload_n 3, 1) := by decide +kernel
theorem dX7_brokenWith_3 : decode cX7_brokenWith 3 = .ok (.aload_n 0, 1) := by decide +kernel
theorem dX7_brokenWith_4 : decode cX7_brokenWith 4 = .ok (.getfield 34, 3) := by decide +kernel
theorem dX7_brokenWith_7 : decode cX7_brokenWith 7 = .ok (.getfield 60, 3) := by decide +kernel
theorem dX7_brokenWith_10 : decode cX7_brokenWith 10 = .ok (.if_icmp .ge 38, 3) := by decide +kernel
theorem dX7_brokenWith_13 : decode cX7_brokenWith 13 = .ok (.aload_n 0, 1) := by decide +kernel
theorem dX7_brokenWith_14 : decode cX7_brokenWith 14 = .ok (.getfield 22, 3) := by decide +kernel
theorem dX7_brokenWith_17 : decode cX7_brokenWith 17 = .ok (.iload_n 3, 1) := by decide +kernel
theorem dX7_brokenWith_18 : decode cX7_brokenWith 18 = .ok (.iload_n 1, 1) := by decide +kernel
theorem dX7_brokenWith_19 : decode cX7_brokenWith 19 = .ok (.iload_n 3, 1) := by decide +kernel
theorem dX7_brokenWith_20 : decode cX7_brokenWith 20 = .ok (.ishr, 1) := by decide +kernel
theorem dX7_brokenWith_21 : decode cX7_brokenWith 21 = .ok (.iconst 1, 1) := by decide +kernel
theorem dX7_brokenWith_22 : decode cX7_brokenWith 22 = .ok (.iand, 1) := by decide +kernel
theorem dX7_brokenWith_23 : decode cX7_brokenWith 23 = .ok (.iconst 1, 1) := by decide +kernel
theorem dX7_brokenWith_24 : decode cX7_brokenWith 24 = .ok (.if_icmp .ne 9, 3) := by decide +kernel
theorem dX7_brokenWith_27 : decode cX7_brokenWith 27 = .ok (.aload_n 2, 1) := by decide +kernel
theorem dX7_brokenWith_28 : decode cX7_brokenWith 28 = .ok (.iload_n 3, 1) := by decide +kernel
theorem dX7_brokenWith_29 : decode cX7_brokenWith 29 = .ok (.iaload, 1) := by decide +kernel
theorem dX7_brokenWith_30 : decode cX7_brokenWith 30 = .ok (.goto 11, 3) := by decide +kernel
theorem dX7_brokenWith_33 : decode cX7_brokenWith 33 = .ok (.aload_n 0, 1) := by decide +kernel
theorem dX7_brokenWith_34 : decode cX7_brokenWith 34 = .ok (.getfield 42, 3) := by decide +kernel
theorem dX7_brokenWith_37 : decode cX7_brokenWith 37 = .ok (.iload_n 3, 1) := by decide +kernel
theorem dX7_brokenWith_38 : decode cX7_brokenWith 38 = .ok (.invokevirtual 65, 3) := by decide +kernel
theorem dX7_brokenWith_41 : decode cX7_brokenWith 41 = .ok (.iastore, 1) := by decide +kernel
theorem dX7_brokenWith_42 : decode cX7_brokenWith 42 = .ok (.iinc 3 1, 3) := by decide +kernel
theorem dX7_brokenWith_45 : decode cX7_brokenWith 45 = .ok (.goto (-43), 3) := by decide +kernel
theorem dX7_brokenWith_48 : decode cX7_brokenWith 48 = .ok (.aload_n 0, 1) := by decide +kernel
theorem dX7_brokenWith_49 : decode cX7_brokenWith 49 = .ok (.getfield 38, 3) := by decide +kernel
theorem dX7_brokenWith_52 : decode cX7_brokenWith 52 = .ok (.aload_n 0, 1) := by decide +kernel
theorem dX7_brokenWith_53 : decode cX7_brokenWith 53 = .ok (.getfield 22, 3) := by decide +kernel
theorem dX7_brokenWith_56 : decode cX7_brokenWith 56 = .ok (.aload_n 0, 1) := by decide +kernel
theorem dX7_brokenWith_57 : decode cX7_brokenWith 57 = .ok (.getfield 34, 3) := by decide +kernel
theorem dX7_brokenWith_60 : decode cX7_brokenWith 60 = .ok (.getfield 60, 3) := by decide +kernel
theorem dX7_brokenWith_63 : decode cX7_brokenWith 63 = .ok (.aload_n 0, 1) := by decide +kernel
theorem dX7_brokenWith_64 : decode cX7_brokenWith 64 = .ok (.getfield 38, 3) := by decide +kernel
theorem dX7_brokenWith_67 : decode cX7_brokenWith 67 = .ok (.getfield 71, 3) := by decide +kernel
theorem dX7_brokenWith_70 : decode cX7_brokenWith 70 = .ok (.invokevirtual 76, 3) := by decide +kernel
theorem dX7_brokenWith_73 : decode cX7_brokenWith 73 = .ok (.invokestatic 80, 3) := by decide +kernel
theorem dX7_brokenWith_76 : decode cX7_brokenWith 76 = .ok (.ireturn, 1) := by decide +kernel
theorem dX7_findPeaks_0 : decode cX7_findPeaks 0 = .ok (.aload_n 0, 1) := by decide +kernel
theorem dX7_findPeaks_1 : decode cX7_findPeaks 1 = .ok (.getfield 28, 3) := by decide +kernel
theorem dX7_findPeaks_4 : decode cX7_findPeaks 4 = .ok (.iload_n 1, 1) := by decide +kernel
theorem dX7_findPeaks_5 : decode cX7_findPeaks 5 = .ok (.iconst 0, 1) := by decide +kernel
theorem dX7_findPeaks_6 : decode cX7_findPeaks 6 = .ok (.iastore, 1) := by decide +kernel
theorem dX7_findPeaks_7 : decode cX7_findPeaks 7 = .ok (.iload_n 1, 1) := by decide +kernel
theorem dX7_findPeaks_8 : decode cX7_findPeaks 8 = .ok (.iconst 1, 1) := by decide +kernel
theorem dX7_findPeaks_9 : decode cX7_findPeaks 9 = .ok (.isub, 1) := by decide +kernel
theorem dX7_findPeaks_10 : decode cX7_findPeaks 10 = .ok (.istore_n 2, 1) := by decide +kernel
theorem dX7_findPeaks_11 : decode cX7_findPeaks 11 = .ok (.iload_n 2, 1) := by decide +kernel
theorem dX7_findPeaks_12 : decode cX7_findPeaks 12 = .ok (.ifCond .lt 104, 3) := by decide +kernel
theorem dX7_findPeaks_15 : decode cX7_findPeaks 15 = .ok (.iload_n 2, 1) := by decide +kernel
theorem dX7_findPeaks_16 : decode cX7_findPeaks 16 = .ok (.iload_n 1, 1) := by decide +kernel
theorem dX7_findPeaks_17 : decode cX7_findPeaks 17 = .ok (.iconst (-1), 1) := by decide +kernel
theorem dX7_findPeaks_18 : decode cX7_findPeaks 18 = .ok (.ixor, 1) := by decide +kernel
theorem dX7_findPeaks_19 : decode cX7_findPeaks 19 = .ok (.iand, 1) := by decide +kernel
theorem dX7_findPeaks_20 : decode cX7_findPeaks 20 = .ok (.ifCond .eq 6, 3) := by decide +kernel
theorem dX7_findPeaks_23 : decode cX7_findPeaks 23 = .ok (.goto 87, 3) := by decide +kernel
theorem dX7_findPeaks_26 : decode cX7_findPeaks 26 = .ok (.aload_n 0, 1) := by decide +kernel
theorem dX7_findPeaks_27 : decode cX7_findPeaks 27 = .ok (.getfield 28, 3) := by decide +kernel
theorem dX7_findPeaks_30 : decode cX7_findPeaks 30 = .ok (.iload_n 2, 1) := by decide +kernel
theorem dX7_findPeaks_31 : decode cX7_findPeaks 31 = .ok (.sipush 1000, 3) := by decide +kernel
theorem dX7_findPeaks_34 : decode cX7_findPeaks 34 = .ok (.iastore, 1) := by decide +kernel
theorem dX7_findPeaks_35 : decode cX7_findPeaks 35 = .ok (.iconst 0, 1) := by decide +kernel
theorem dX7_findPeaks_36 : decode cX7_findPeaks 36 = .ok (.istore_n 3, 1) := by decide +kernel
theorem dX7_findPeaks_37 : decode cX7_findPeaks 37 = .ok (.iload_n 3, 1) := by decide +kernel
theorem dX7_findPeaks_38 : decode cX7_findPeaks 38 = .ok (.bipush 6, 2) := by decide +kernel
theorem dX7_findPeaks_40 : decode cX7_findPeaks 40 = .ok (.if_icmp .ge 70, 3) := by decide +kernel
theorem dX7_findPeaks_43 : decode cX7_findPeaks 43 = .ok (.iload_n 2, 1) := by decide +kernel
theorem dX7_findPeaks_44 : decode cX7_findPeaks 44 = .ok (.iconst 1, 1) := by decide +kernel
theorem dX7_findPeaks_45 : decode cX7_findPeaks 45 = .ok (.iload_n 3, 1) := by decide +kernel
theorem dX7_findPeaks_46 : decode cX7_findPeaks 46 = .ok (.ishl, 1) := by decide +kernel
theorem dX7_findPeaks_47 : decode cX7_findPeaks 47 = .ok (.ior, 1) := by decide +kernel
theorem dX7_findPeaks_48 : decode cX7_findPeaks 48 = .ok (.istore 4, 2) := by decide +kernel
theorem dX7_findPeaks_50 : decode cX7_findPeaks 50 = .ok (.iload 4, 2) := by decide +kernel
theorem dX7_findPeaks_52 : decode cX7_findPeaks 52 = .ok (.iload_n 2, 1) := by decide +kernel
theorem dX7_findPeaks_53 : decode cX7_findPeaks 53 = .ok (.if_icmp .eq 51, 3) := by decide +kernel
theorem dX7_findPeaks_56 : decode cX7_findPeaks 56 = .ok (.iload 4, 2) := by decide +kernel
theorem dX7_findPeaks_58 : decode cX7_findPeaks 58 = .ok (.iload_n 1, 1) := by decide +kernel
theorem dX7_findPeaks_59 : decode cX7_findPeaks 59 = .ok (.iconst (-1), 1) := by decide +kernel
theorem dX7_findPeaks_60 : decode cX7_findPeaks 60 = .ok (.ixor, 1) := by decide +kernel
theorem dX7_findPeaks_61 : decode cX7_findPeaks 61 = .ok (.iand, 1) := by decide +kernel
theorem dX7_findPeaks_62 : decode cX7_findPeaks 62 = .ok (.ifCond .eq 6, 3) := by decide +kernel
theorem dX7_findPeaks_65 : decode cX7_findPeaks 65 = .ok (.goto 39, 3) := by decide +kernel
theorem dX7_findPeaks_68 : decode cX7_findPeaks 68 = .ok (.aload_n 0, 1) := by decide +kernel
theorem dX7_findPeaks_69 : decode cX7_findPeaks 69 = .ok (.getfield 25, 3) := by decide +kernel
theorem dX7_findPeaks_72 : decode cX7_findPeaks 72 = .ok (.iload 4, 2) := by decide +kernel
theorem dX7_findPeaks_74 : decode cX7_findPeaks 74 = .ok (.iaload, 1) := by decide +kernel
theorem dX7_findPeaks_75 : decode cX7_findPeaks 75 = .ok (.aload_n 0, 1) := by decide +kernel
theorem dX7_findPeaks_76 : decode cX7_findPeaks 76 = .ok (.getfield 28, 3) := by decide +kernel
theorem dX7_findPeaks_79 : decode cX7_findPeaks 79 = .ok (.iload 4, 2) := by decide +kernel
theorem dX7_findPeaks_81 : decode cX7_findPeaks 81 = .ok (.iaload, 1) := by decide +kernel
theorem dX7_findPeaks_82 : decode cX7_findPeaks 82 = .ok (.invokestatic 85, 3) := by decide +kernel
theorem dX7_findPeaks_85 : decode cX7_findPeaks 85 = .ok (.istore 5, 2) := by decide +kernel
theorem dX7_findPeaks_87 : decode cX7_findPeaks 87 = .ok (.aload_n 0, 1) := by decide +kernel
theorem dX7_findPeaks_88 : decode cX7_findPeaks 88 = .ok (.getfield 28, 3) := by decide +kernel
theorem dX7_findPeaks_91 : decode cX7_findPeaks 91 = .ok (.iload_n 2, 1) := by decide +kernel
theorem dX7_findPeaks_92 : decode cX7_findPeaks 92 = .ok (.aload_n 0, 1) := by decide +kernel
theorem dX7_findPeaks_93 : decode cX7_findPeaks 93 = .ok (.getfield 28, 3) := by decide +kernel
theorem dX7_findPeaks_96 : decode cX7_findPeaks 96 = .ok (.iload_n 2, 1) := by decide +kernel
theorem dX7_findPeaks_97 : decode cX7_findPeaks 97 = .ok (.iaload, 1) := by decide +kernel
theorem dX7_findPeaks_98 : decode cX7_findPeaks 98 = .ok (.iload 5, 2) := by decide +kernel
theorem dX7_findPeaks_100 : decode cX7_findPeaks 100 = .ok (.invokestatic 91, 3) := by decide +kernel
theorem dX7_findPeaks_103 : decode cX7_findPeaks 103 = .ok (.iastore, 1) := by decide +kernel
theorem dX7_findPeaks_104 : decode cX7_findPeaks 104 = .ok (.iinc 3 1, 3) := by decide +kernel
theorem dX7_findPeaks_107 : decode cX7_findPeaks 107 = .ok (.goto (-70), 3) := by decide +kernel
theorem dX7_findPeaks_110 : decode cX7_findPeaks 110 = .ok (.iinc 2 (-1), 3) := by decide +kernel
theorem dX7_findPeaks_113 : decode cX7_findPeaks 113 = .ok (.goto (-102), 3) := by decide +kernel
theorem dX7_findPeaks_116 : decode cX7_findPeaks 116 = .ok (.return_, 1) := by decide +kernel
theorem dX7_findSums_0 : decode cX7_findSums 0 = .ok (.aload_n 0, 1) := by decide +kernel
theorem dX7_findSums_1 : decode cX7_findSums 1 = .ok (.getfield 31, 3) := by decide +kernel
theorem dX7_findSums_4 : decode cX7_findSums 4 = .ok (.iload_n 1, 1) := by decide +kernel
theorem dX7_findSums_5 : decode cX7_findSums 5 = .ok (.iconst 0, 1) := by decide +kernel
theorem dX7_findSums_6 : decode cX7_findSums 6 = .ok (.iastore, 1) := by decide +kernel
theorem dX7_findSums_7 : decode cX7_findSums 7 = .ok (.iload_n 1, 1) := by decide +kernel
theorem dX7_findSums_8 : decode cX7_findSums 8 = .ok (.iconst 1, 1) := by decide +kernel
theorem dX7_findSums_9 : decode cX7_findSums 9 = .ok (.isub, 1) := by decide +kernel
theorem dX7_findSums_10 : decode cX7_findSums 10 = .ok (.istore_n 2, 1) := by decide +kernel
theorem dX7_findSums_11 : decode cX7_findSums 11 = .ok (.iload_n 2, 1) := by decide +kernel
theorem dX7_findSums_12 : decode cX7_findSums 12 = .ok (.ifCond .lt 89, 3) := by decide +kernel
theorem dX7_findSums_15 : decode cX7_findSums 15 = .ok (.iload_n 2, 1) := by decide +kernel
theorem dX7_findSums_16 : decode cX7_findSums 16 = .ok (.iload_n 1, 1) := by decide +kernel
theorem dX7_findSums_17 : decode cX7_findSums 17 = .ok (.iconst (-1), 1) := by decide +kernel
theorem dX7_findSums_18 : decode cX7_findSums 18 = .ok (.ixor, 1) := by decide +kernel
theorem dX7_findSums_19 : decode cX7_findSums 19 = .ok (.iand, 1) := by decide +kernel
theorem dX7_findSums_20 : decode cX7_findSums 20 = .ok (.ifCond .eq 6, 3) := by decide +kernel
theorem dX7_findSums_23 : decode cX7_findSums 23 = .ok (.goto 72, 3) := by decide +kernel
theorem dX7_findSums_26 : decode cX7_findSums 26 = .ok (.aload_n 0, 1) := by decide +kernel
theorem dX7_findSums_27 : decode cX7_findSums 27 = .ok (.getfield 31, 3) := by decide +kernel
theorem dX7_findSums_30 : decode cX7_findSums 30 = .ok (.iload_n 2, 1) := by decide +kernel
theorem dX7_findSums_31 : decode cX7_findSums 31 = .ok (.sipush 1000, 3) := by decide +kernel
theorem dX7_findSums_34 : decode cX7_findSums 34 = .ok (.iastore, 1) := by decide +kernel
theorem dX7_findSums_35 : decode cX7_findSums 35 = .ok (.iconst 0, 1) := by decide +kernel
theorem dX7_findSums_36 : decode cX7_findSums 36 = .ok (.istore_n 3, 1) := by decide +kernel
theorem dX7_findSums_37 : decode cX7_findSums 37 = .ok (.iload_n 3, 1) := by decide +kernel
theorem dX7_findSums_38 : decode cX7_findSums 38 = .ok (.bipush 6, 2) := by decide +kernel
theorem dX7_findSums_40 : decode cX7_findSums 40 = .ok (.if_icmp .ge 55, 3) := by decide +kernel
theorem dX7_findSums_43 : decode cX7_findSums 43 = .ok (.iload_n 2, 1) := by decide +kernel
theorem dX7_findSums_44 : decode cX7_findSums 44 = .ok (.iconst 1, 1) := by decide +kernel
theorem dX7_findSums_45 : decode cX7_findSums 45 = .ok (.iload_n 3, 1) := by decide +kernel
theorem dX7_findSums_46 : decode cX7_findSums 46 = .ok (.ishl, 1) := by decide +kernel
theorem dX7_findSums_47 : decode cX7_findSums 47 = .ok (.ior, 1) := by decide +kernel
theorem dX7_findSums_48 : decode cX7_findSums 48 = .ok (.istore 4, 2) := by decide +kernel
theorem dX7_findSums_50 : decode cX7_findSums 50 = .ok (.iload 4, 2) := by decide +kernel
theorem dX7_findSums_52 : decode cX7_findSums 52 = .ok (.iload_n 2, 1) := by decide +kernel
theorem dX7_findSums_53 : decode cX7_findSums 53 = .ok (.if_icmp .eq 36, 3) := by decide +kernel
theorem dX7_findSums_56 : decode cX7_findSums 56 = .ok (.iload 4, 2) := by decide +kernel
theorem dX7_findSums_58 : decode cX7_findSums 58 = .ok (.iload_n 1, 1) := by decide +kernel
theorem dX7_findSums_59 : decode cX7_findSums 59 = .ok (.iconst (-1), 1) := by decide +kernel
theorem dX7_findSums_60 : decode cX7_findSums 60 = .ok (.ixor, 1) := by decide +kernel
theorem dX7_findSums_61 : decode cX7_findSums 61 = .ok (.iand, 1) := by decide +kernel
theorem dX7_findSums_62 : decode cX7_findSums 62 = .ok (.ifCond .eq 6, 3) := by decide +kernel
theorem dX7_findSums_65 : decode cX7_findSums 65 = .ok (.goto 24, 3) := by decide +kernel
theorem dX7_findSums_68 : decode cX7_findSums 68 = .ok (.aload_n 0, 1) := by decide +kernel
theorem dX7_findSums_69 : decode cX7_findSums 69 = .ok (.getfield 31, 3) := by decide +kernel
theorem dX7_findSums_72 : decode cX7_findSums 72 = .ok (.iload_n 2, 1) := by decide +kernel
theorem dX7_findSums_73 : decode cX7_findSums 73 = .ok (.aload_n 0, 1) := by decide +kernel
theorem dX7_findSums_74 : decode cX7_findSums 74 = .ok (.getfield 31, 3) := by decide +kernel
theorem dX7_findSums_77 : decode cX7_findSums 77 = .ok (.iload_n 2, 1) := by decide +kernel
theorem dX7_findSums_78 : decode cX7_findSums 78 = .ok (.iaload, 1) := by decide +kernel
theorem dX7_findSums_79 : decode cX7_findSums 79 = .ok (.aload_n 0, 1) := by decide +kernel
theorem dX7_findSums_80 : decode cX7_findSums 80 = .ok (.iload 4, 2) := by decide +kernel
theorem dX7_findSums_82 : decode cX7_findSums 82 = .ok (.invokevirtual 94, 3) := by decide +kernel
theorem dX7_findSums_85 : decode cX7_findSums 85 = .ok (.invokestatic 91, 3) := by decide +kernel
theorem dX7_findSums_88 : decode cX7_findSums 88 = .ok (.iastore, 1) := by decide +kernel
theorem dX7_findSums_89 : decode cX7_findSums 89 = .ok (.iinc 3 1, 3) := by decide +kernel
theorem dX7_findSums_92 : decode cX7_findSums 92 = .ok (.goto (-55), 3) := by decide +kernel
theorem dX7_findSums_95 : decode cX7_findSums 95 = .ok (.iinc 2 (-1), 3) := by decide +kernel
theorem dX7_findSums_98 : decode cX7_findSums 98 = .ok (.goto (-87), 3) := by decide +kernel
theorem dX7_findSums_101 : decode cX7_findSums 101 = .ok (.return_, 1) := by decide +kernel
theorem dX7_sumThrough_0 : decode cX7_sumThrough 0 = .ok (.aload_n 0, 1) := by decide +kernel
theorem dX7_sumThrough_1 : decode cX7_sumThrough 1 = .ok (.getfield 25, 3) := by decide +kernel
theorem dX7_sumThrough_4 : decode cX7_sumThrough 4 = .ok (.iload_n 1, 1) := by decide +kernel
theorem dX7_sumThrough_5 : decode cX7_sumThrough 5 = .ok (.iaload, 1) := by decide +kernel
theorem dX7_sumThrough_6 : decode cX7_sumThrough 6 = .ok (.aload_n 0, 1) := by decide +kernel
theorem dX7_sumThrough_7 : decode cX7_sumThrough 7 = .ok (.getfield 28, 3) := by decide +kernel
theorem dX7_sumThrough_10 : decode cX7_sumThrough 10 = .ok (.iconst 0, 1) := by decide +kernel
theorem dX7_sumThrough_11 : decode cX7_sumThrough 11 = .ok (.iaload, 1) := by decide +kernel
theorem dX7_sumThrough_12 : decode cX7_sumThrough 12 = .ok (.if_icmp .le 7, 3) := by decide +kernel
theorem dX7_sumThrough_15 : decode cX7_sumThrough 15 = .ok (.sipush 1000, 3) := by decide +kernel
theorem dX7_sumThrough_18 : decode cX7_sumThrough 18 = .ok (.ireturn, 1) := by decide +kernel
theorem dX7_sumThrough_19 : decode cX7_sumThrough 19 = .ok (.sipush 1000, 3) := by decide +kernel
theorem dX7_sumThrough_22 : decode cX7_sumThrough 22 = .ok (.aload_n 0, 1) := by decide +kernel
theorem dX7_sumThrough_23 : decode cX7_sumThrough 23 = .ok (.getfield 25, 3) := by decide +kernel
theorem dX7_sumThrough_26 : decode cX7_sumThrough 26 = .ok (.iload_n 1, 1) := by decide +kernel
theorem dX7_sumThrough_27 : decode cX7_sumThrough 27 = .ok (.iaload, 1) := by decide +kernel
theorem dX7_sumThrough_28 : decode cX7_sumThrough 28 = .ok (.aload_n 0, 1) := by decide +kernel
theorem dX7_sumThrough_29 : decode cX7_sumThrough 29 = .ok (.getfield 31, 3) := by decide +kernel
theorem dX7_sumThrough_32 : decode cX7_sumThrough 32 = .ok (.iload_n 1, 1) := by decide +kernel
theorem dX7_sumThrough_33 : decode cX7_sumThrough 33 = .ok (.iaload, 1) := by decide +kernel
theorem dX7_sumThrough_34 : decode cX7_sumThrough 34 = .ok (.iadd, 1) := by decide +kernel
theorem dX7_sumThrough_35 : decode cX7_sumThrough 35 = .ok (.invokestatic 91, 3) := by decide +kernel
theorem dX7_sumThrough_38 : decode cX7_sumThrough 38 = .ok (.ireturn, 1) := by decide +kernel
theorem dX7_follow_0 : decode cX7_follow 0 = .ok (.aload_n 0, 1) := by decide +kernel
theorem dX7_follow_1 : decode cX7_follow 1 = .ok (.iload_n 1, 1) := by decide +kernel
theorem dX7_follow_2 : decode cX7_follow 2 = .ok (.invokestatic 80, 3) := by decide +kernel
theorem dX7_follow_5 : decode cX7_follow 5 = .ok (.putfield 9, 3) := by decide +kernel
theorem dX7_follow_8 : decode cX7_follow 8 = .ok (.iconst 0, 1) := by decide +kernel
theorem dX7_follow_9 : decode cX7_follow 9 = .ok (.istore_n 2, 1) := by decide +kernel
theorem dX7_follow_10 : decode cX7_follow 10 = .ok (.iconst 0, 1) := by decide +kernel
theorem dX7_follow_11 : decode cX7_follow 11 = .ok (.istore_n 3, 1) := by decide +kernel
theorem dX7_follow_12 : decode cX7_follow 12 = .ok (.iload_n 3, 1) := by decide +kernel
theorem dX7_follow_13 : decode cX7_follow 13 = .ok (.aload_n 0, 1) := by decide +kernel
theorem dX7_follow_14 : decode cX7_follow 14 = .ok (.getfield 9, 3) := by decide +kernel
theorem dX7_follow_17 : decode cX7_follow 17 = .ok (.if_icmp .ge 44, 3) := by decide +kernel
theorem dX7_follow_20 : decode cX7_follow 20 = .ok (.aload_n 0, 1) := by decide +kernel
theorem dX7_follow_21 : decode cX7_follow 21 = .ok (.iload_n 2, 1) := by decide +kernel
theorem dX7_follow_22 : decode cX7_follow 22 = .ok (.iload_n 1, 1) := by decide +kernel
theorem dX7_follow_23 : decode cX7_follow 23 = .ok (.invokevirtual 97, 3) := by decide +kernel
theorem dX7_follow_26 : decode cX7_follow 26 = .ok (.istore 4, 2) := by decide +kernel
theorem dX7_follow_28 : decode cX7_follow 28 = .ok (.iload_n 2, 1) := by decide +kernel
theorem dX7_follow_29 : decode cX7_follow 29 = .ok (.iconst 1, 1) := by decide +kernel
theorem dX7_follow_30 : decode cX7_follow 30 = .ok (.iload 4, 2) := by decide +kernel
theorem dX7_follow_32 : decode cX7_follow 32 = .ok (.ishl, 1) := by decide +kernel
theorem dX7_follow_33 : decode cX7_follow 33 = .ok (.ior, 1) := by decide +kernel
theorem dX7_follow_34 : decode cX7_follow 34 = .ok (.istore_n 2, 1) := by decide +kernel
theorem dX7_follow_35 : decode cX7_follow 35 = .ok (.aload_n 0, 1) := by decide +kernel
theorem dX7_follow_36 : decode cX7_follow 36 = .ok (.getfield 15, 3) := by decide +kernel
theorem dX7_follow_39 : decode cX7_follow 39 = .ok (.iload_n 3, 1) := by decide +kernel
theorem dX7_follow_40 : decode cX7_follow 40 = .ok (.iload 4, 2) := by decide +kernel
theorem dX7_follow_42 : decode cX7_follow 42 = .ok (.iastore, 1) := by decide +kernel
theorem dX7_follow_43 : decode cX7_follow 43 = .ok (.aload_n 0, 1) := by decide +kernel
theorem dX7_follow_44 : decode cX7_follow 44 = .ok (.getfield 19, 3) := by decide +kernel
theorem dX7_follow_47 : decode cX7_follow 47 = .ok (.iload_n 3, 1) := by decide +kernel
theorem dX7_follow_48 : decode cX7_follow 48 = .ok (.aload_n 0, 1) := by decide +kernel
theorem dX7_follow_49 : decode cX7_follow 49 = .ok (.getfield 25, 3) := by decide +kernel
theorem dX7_follow_52 : decode cX7_follow 52 = .ok (.iload_n 2, 1) := by decide +kernel
theorem dX7_follow_53 : decode cX7_follow 53 = .ok (.iaload, 1) := by decide +kernel
theorem dX7_follow_54 : decode cX7_follow 54 = .ok (.iastore, 1) := by decide +kernel
theorem dX7_follow_55 : decode cX7_follow 55 = .ok (.iinc 3 1, 3) := by decide +kernel
theorem dX7_follow_58 : decode cX7_follow 58 = .ok (.goto (-46), 3) := by decide +kernel
theorem dX7_follow_61 : decode cX7_follow 61 = .ok (.return_, 1) := by decide +kernel
theorem dX7_leastStep_0 : decode cX7_leastStep 0 = .ok (.iconst 0, 1) := by decide +kernel
theorem dX7_leastStep_1 : decode cX7_leastStep 1 = .ok (.istore_n 3, 1) := by decide +kernel
theorem dX7_leastStep_2 : decode cX7_leastStep 2 = .ok (.iload_n 3, 1) := by decide +kernel
theorem dX7_leastStep_3 : decode cX7_leastStep 3 = .ok (.bipush 6, 2) := by decide +kernel
theorem dX7_leastStep_5 : decode cX7_leastStep 5 = .ok (.if_icmp .ge 51, 3) := by decide +kernel
theorem dX7_leastStep_8 : decode cX7_leastStep 8 = .ok (.iload_n 1, 1) := by decide +kernel
theorem dX7_leastStep_9 : decode cX7_leastStep 9 = .ok (.iconst 1, 1) := by decide +kernel
theorem dX7_leastStep_10 : decode cX7_leastStep 10 = .ok (.iload_n 3, 1) := by decide +kernel
theorem dX7_leastStep_11 : decode cX7_leastStep 11 = .ok (.ishl, 1) := by decide +kernel
theorem dX7_leastStep_12 : decode cX7_leastStep 12 = .ok (.ior, 1) := by decide +kernel
theorem dX7_leastStep_13 : decode cX7_leastStep 13 = .ok (.istore 4, 2) := by decide +kernel
theorem dX7_leastStep_15 : decode cX7_leastStep 15 = .ok (.iload 4, 2) := by decide +kernel
theorem dX7_leastStep_17 : decode cX7_leastStep 17 = .ok (.iload_n 1, 1) := by decide +kernel
theorem dX7_leastStep_18 : decode cX7_leastStep 18 = .ok (.if_icmp .eq 32, 3) := by decide +kernel
theorem dX7_leastStep_21 : decode cX7_leastStep 21 = .ok (.iload 4, 2) := by decide +kernel
theorem dX7_leastStep_23 : decode cX7_leastStep 23 = .ok (.iload_n 2, 1) := by decide +kernel
theorem dX7_leastStep_24 : decode cX7_leastStep 24 = .ok (.iconst (-1), 1) := by decide +kernel
theorem dX7_leastStep_25 : decode cX7_leastStep 25 = .ok (.ixor, 1) := by decide +kernel
theorem dX7_leastStep_26 : decode cX7_leastStep 26 = .ok (.iand, 1) := by decide +kernel
theorem dX7_leastStep_27 : decode cX7_leastStep 27 = .ok (.ifCond .eq 6, 3) := by decide +kernel
theorem dX7_leastStep_30 : decode cX7_leastStep 30 = .ok (.goto 20, 3) := by decide +kernel
theorem dX7_leastStep_33 : decode cX7_leastStep 33 = .ok (.aload_n 0, 1) := by decide +kernel
theorem dX7_leastStep_34 : decode cX7_leastStep 34 = .ok (.iload 4, 2) := by decide +kernel
theorem dX7_leastStep_36 : decode cX7_leastStep 36 = .ok (.invokevirtual 94, 3) := by decide +kernel
theorem dX7_leastStep_39 : decode cX7_leastStep 39 = .ok (.aload_n 0, 1) := by decide +kernel
theorem dX7_leastStep_40 : decode cX7_leastStep 40 = .ok (.getfield 31, 3) := by decide +kernel
theorem dX7_leastStep_43 : decode cX7_leastStep 43 = .ok (.iload_n 1, 1) := by decide +kernel
theorem dX7_leastStep_44 : decode cX7_leastStep 44 = .ok (.iaload, 1) := by decide +kernel
theorem dX7_leastStep_45 : decode cX7_leastStep 45 = .ok (.if_icmp .ne 5, 3) := by decide +kernel
theorem dX7_leastStep_48 : decode cX7_leastStep 48 = .ok (.iload_n 3, 1) := by decide +kernel
theorem dX7_leastStep_49 : decode cX7_leastStep 49 = .ok (.ireturn, 1) := by decide +kernel
theorem dX7_leastStep_50 : decode cX7_leastStep 50 = .ok (.iinc 3 1, 3) := by decide +kernel
theorem dX7_leastStep_53 : decode cX7_leastStep 53 = .ok (.goto (-51), 3) := by decide +kernel
theorem dX7_leastStep_56 : decode cX7_leastStep 56 = .ok (.iconst 0, 1) := by decide +kernel
theorem dX7_leastStep_57 : decode cX7_leastStep 57 = .ok (.ireturn, 1) := by decide +kernel
theorem dX8_init_0 : decode cX8_init 0 = .ok (.aload_n 0, 1) := by decide +kernel
theorem dX8_init_1 : decode cX8_init 1 = .ok (.invokespecial 3, 3) := by decide +kernel
theorem dX8_init_4 : decode cX8_init 4 = .ok (.aload_n 0, 1) := by decide +kernel
theorem dX8_init_5 : decode cX8_init 5 = .ok (.iconst 0, 1) := by decide +kernel
theorem dX8_init_6 : decode cX8_init 6 = .ok (.putfield 9, 3) := by decide +kernel
theorem dX8_init_9 : decode cX8_init 9 = .ok (.aload_n 0, 1) := by decide +kernel
theorem dX8_init_10 : decode cX8_init 10 = .ok (.bipush 6, 2) := by decide +kernel
theorem dX8_init_12 : decode cX8_init 12 = .ok (.newarray .int, 2) := by decide +kernel
theorem dX8_init_14 : decode cX8_init 14 = .ok (.putfield 15, 3) := by decide +kernel
theorem dX8_init_17 : decode cX8_init 17 = .ok (.aload_n 0, 1) := by decide +kernel
theorem dX8_init_18 : decode cX8_init 18 = .ok (.iconst 0, 1) := by decide +kernel
theorem dX8_init_19 : decode cX8_init 19 = .ok (.putfield 19, 3) := by decide +kernel
theorem dX8_init_22 : decode cX8_init 22 = .ok (.aload_n 0, 1) := by decide +kernel
theorem dX8_init_23 : decode cX8_init 23 = .ok (.bipush 12, 2) := by decide +kernel
theorem dX8_init_25 : decode cX8_init 25 = .ok (.newarray .int, 2) := by decide +kernel
theorem dX8_init_27 : decode cX8_init 27 = .ok (.putfield 22, 3) := by decide +kernel
theorem dX8_init_30 : decode cX8_init 30 = .ok (.aload_n 0, 1) := by decide +kernel
theorem dX8_init_31 : decode cX8_init 31 = .ok (.bipush 12, 2) := by decide +kernel
theorem dX8_init_33 : decode cX8_init 33 = .ok (.newarray .int, 2) := by decide +kernel
theorem dX8_init_35 : decode cX8_init 35 = .ok (.putfield 25, 3) := by decide +kernel
theorem dX8_init_38 : decode cX8_init 38 = .ok (.aload_n 0, 1) := by decide +kernel
theorem dX8_init_39 : decode cX8_init 39 = .ok (.bipush 12, 2) := by decide +kernel
theorem dX8_init_41 : decode cX8_init 41 = .ok (.newarray .int, 2) := by decide +kernel
theorem dX8_init_43 : decode cX8_init 43 = .ok (.putfield 28, 3) := by decide +kernel
theorem dX8_init_46 : decode cX8_init 46 = .ok (.aload_n 0, 1) := by decide +kernel
theorem dX8_init_47 : decode cX8_init 47 = .ok (.bipush 12, 2) := by decide +kernel
theorem dX8_init_49 : decode cX8_init 49 = .ok (.newarray .int, 2) := by decide +kernel
theorem dX8_init_51 : decode cX8_init 51 = .ok (.putfield 31, 3) := by decide +kernel
theorem dX8_init_54 : decode cX8_init 54 = .ok (.aload_n 0, 1) := by decide +kernel
theorem dX8_init_55 : decode cX8_init 55 = .ok (.bipush 6, 2) := by decide +kernel
theorem dX8_init_57 : decode cX8_init 57 = .ok (.newarray .int, 2) := by decide +kernel
theorem dX8_init_59 : decode cX8_init 59 = .ok (.putfield 34, 3) := by decide +kernel
theorem dX8_init_62 : decode cX8_init 62 = .ok (.aload_n 0, 1) := by decide +kernel
theorem dX8_init_63 : decode cX8_init 63 = .ok (.bipush 6, 2) := by decide +kernel
theorem dX8_init_65 : decode cX8_init 65 = .ok (.newarray .int, 2) := by decide +kernel
theorem dX8_init_67 : decode cX8_init 67 = .ok (.putfield 37, 3) := by decide +kernel
theorem dX8_init_70 : decode cX8_init 70 = .ok (.return_, 1) := by decide +kernel
theorem dX8_addFact_0 : decode cX8_addFact 0 = .ok (.aload_n 0, 1) := by decide +kernel
theorem dX8_addFact_1 : decode cX8_addFact 1 = .ok (.getfield 15, 3) := by decide +kernel
theorem dX8_addFact_4 : decode cX8_addFact 4 = .ok (.aload_n 0, 1) := by decide +kernel
theorem dX8_addFact_5 : decode cX8_addFact 5 = .ok (.getfield 9, 3) := by decide +kernel
theorem dX8_addFact_8 : decode cX8_addFact 8 = .ok (.iload_n 1, 1) := by decide +kernel
theorem dX8_addFact_9 : decode cX8_addFact 9 = .ok (.iastore, 1) := by decide +kernel
theorem dX8_addFact_10 : decode cX8_addFact 10 = .ok (.aload_n 0, 1) := by decide +kernel
theorem dX8_addFact_11 : decode cX8_addFact 11 = .ok (.dup, 1) := by decide +kernel
theorem dX8_addFact_12 : decode cX8_addFact 12 = .ok (.getfield 9, 3) := by decide +kernel
theorem dX8_addFact_15 : decode cX8_addFact 15 = .ok (.iconst 1, 1) := by decide +kernel
theorem dX8_addFact_16 : decode cX8_addFact 16 = .ok (.iadd, 1) := by decide +kernel
theorem dX8_addFact_17 : decode cX8_addFact 17 = .ok (.putfield 9, 3) := by decide +kernel
theorem dX8_addFact_20 : decode cX8_addFact 20 = .ok (.aload_n 0, 1) := by decide +kernel
theorem dX8_addFact_21 : decode cX8_addFact 21 = .ok (.getfield 9, 3) := by decide +kernel
theorem dX8_addFact_24 : decode cX8_addFact 24 = .ok (.iconst 1, 1) := by decide +kernel
theorem dX8_addFact_25 : decode cX8_addFact 25 = .ok (.isub, 1) := by decide +kernel
theorem dX8_addFact_26 : decode cX8_addFact 26 = .ok (.ireturn, 1) := by decide +kernel
theorem dX8_hasFact_0 : decode cX8_hasFact 0 = .ok (.iload_n 1, 1) := by decide +kernel
theorem dX8_hasFact_1 : decode cX8_hasFact 1 = .ok (.ifCond .lt 15, 3) := by decide +kernel
theorem dX8_hasFact_4 : decode cX8_hasFact 4 = .ok (.iload_n 1, 1) := by decide +kernel
theorem dX8_hasFact_5 : decode cX8_hasFact 5 = .ok (.aload_n 0, 1) := by decide +kernel
theorem dX8_hasFact_6 : decode cX8_hasFact 6 = .ok (.getfield 9, 3) := by decide +kernel
theorem dX8_hasFact_9 : decode cX8_hasFact 9 = .ok (.if_icmp .ge 7, 3) := by decide +kernel
theorem dX8_hasFact_12 : decode cX8_hasFact 12 = .ok (.iconst 1, 1) := by decide +kernel
theorem dX8_hasFact_13 : decode cX8_hasFact 13 = .ok (.goto 4, 3) := by decide +kernel
theorem dX8_hasFact_16 : decode cX8_hasFact 16 = .ok (.iconst 0, 1) := by decide +kernel
theorem dX8_hasFact_17 : decode cX8_hasFact 17 = .ok (.ireturn, 1) := by decide +kernel
theorem dX8_add_0 : decode cX8_add 0 = .ok (.aload_n 0, 1) := by decide +kernel
theorem dX8_add_1 : decode cX8_add 1 = .ok (.getfield 19, 3) := by decide +kernel
theorem dX8_add_4 : decode cX8_add 4 = .ok (.istore 5, 2) := by decide +kernel
theorem dX8_add_6 : decode cX8_add 6 = .ok (.aload_n 0, 1) := by decide +kernel
theorem dX8_add_7 : decode cX8_add 7 = .ok (.getfield 22, 3) := by decide +kernel
theorem dX8_add_10 : decode cX8_add 10 = .ok (.iload 5, 2) := by decide +kernel
theorem dX8_add_12 : decode cX8_add 12 = .ok (.iload_n 1, 1) := by decide +kernel
theorem dX8_add_13 : decode cX8_add 13 = .ok (.iastore, 1) := by decide +kernel
theorem dX8_add_14 : decode cX8_add 14 = .ok (.aload_n 0, 1) := by decide +kernel
theorem dX8_add_15 : decode cX8_add 15 = .ok (.getfield 25, 3) := by decide +kernel
theorem dX8_add_18 : decode cX8_add 18 = .ok (.iload 5, 2) := by decide +kernel
theorem dX8_add_20 : decode cX8_add 20 = .ok (.iload_n 2, 1) := by decide +kernel
theorem dX8_add_21 : decode cX8_add 21 = .ok (.iastore, 1) := by decide +kernel
theorem dX8_add_22 : decode cX8_add 22 = .ok (.aload_n 0, 1) := by decide +kernel
theorem dX8_add_23 : decode cX8_add 23 = .ok (.getfield 28, 3) := by decide +kernel
theorem dX8_add_26 : decode cX8_add 26 = .ok (.iload 5, 2) := by decide +kernel
theorem dX8_add_28 : decode cX8_add 28 = .ok (.iload_n 3, 1) := by decide +kernel
theorem dX8_add_29 : decode cX8_add 29 = .ok (.iastore, 1) := by decide +kernel
theorem dX8_add_30 : decode cX8_add 30 = .ok (.aload_n 0, 1) := by decide +kernel
theorem dX8_add_31 : decode cX8_add 31 = .ok (.getfield 31, 3) := by decide +kernel
theorem dX8_add_34 : decode cX8_add 34 = .ok (.iload 5, 2) := by decide +kernel
theorem dX8_add_36 : decode cX8_add 36 = .ok (.iload 4, 2) := by decide +kernel
theorem dX8_add_38 : decode cX8_add 38 = .ok (.iastore, 1) := by decide +kernel
theorem dX8_add_39 : decode cX8_add 39 = .ok (.iload_n 1, 1) := by decide +kernel
theorem dX8_add_40 : decode cX8_add 40 = .ok (.iconst 5, 1) := by decide +kernel
theorem dX8_add_41 : decode cX8_add 41 = .ok (.if_icmp .ne 19, 3) := by decide +kernel
theorem dX8_add_44 : decode cX8_add 44 = .ok (.aload_n 0, 1) := by decide +kernel
theorem dX8_add_45 : decode cX8_add 45 = .ok (.getfield 37, 3) := by decide +kernel
theorem dX8_add_48 : decode cX8_add 48 = .ok (.iload_n 3, 1) := by decide +kernel
theorem dX8_add_49 : decode cX8_add 49 = .ok (.dup2, 1) := by decide +kernel
theorem dX8_add_50 : decode cX8_add 50 = .ok (.iaload, 1) := by decide +kernel
theorem dX8_add_51 : decode cX8_add 51 = .ok (.iconst 1, 1) := by decide +kernel
theorem dX8_add_52 : decode cX8_add 52 = .ok (.iload 5, 2) := by decide +kernel
theorem dX8_add_54 : decode cX8_add 54 = .ok (.ishl, 1) := by decide +kernel
theorem dX8_add_55 : decode cX8_add 55 = .ok (.ior, 1) := by decide +kernel
theorem dX8_add_56 : decode cX8_add 56 = .ok (.iastore, 1) := by decide +kernel
theorem dX8_add_57 : decode cX8_add 57 = .ok (.goto 20, 3) := by decide +kernel
theorem dX8_add_60 : decode cX8_add 60 = .ok (.aload_n 0, 1) := by decide +kernel
theorem dX8_add_61 : decode cX8_add 61 = .ok (.getfield 34, 3) := by decide +kernel
theorem dX8_add_64 : decode cX8_add 64 = .ok (.iload_n 2, 1) := by decide +kernel
theorem dX8_add_65 : decode cX8_add 65 = .ok (.iload_n 3, 1) := by decide +kernel
theorem dX8_add_66 : decode cX8_add 66 = .ok (.invokestatic 40, 3) := by decide +kernel
theorem dX8_add_69 : decode cX8_add 69 = .ok (.dup2, 1) := by decide +kernel
theorem dX8_add_70 : decode cX8_add 70 = .ok (.iaload, 1) := by decide +kernel
theorem dX8_add_71 : decode cX8_add 71 = .ok (.iconst 1, 1) := by decide +kernel
theorem dX8_add_72 : decode cX8_add 72 = .ok (.iload 5, 2) := by decide +kernel
theorem dX8_add_74 : decode cX8_add 74 = .ok (.ishl, 1) := by decide +kernel
theorem dX8_add_75 : decode cX8_add 75 = .ok (.ior, 1) := by decide +kernel
theorem dX8_add_76 : decode cX8_add 76 = .ok (.iastore, 1) := by decide +kernel
theorem dX8_add_77 : decode cX8_add 77 = .ok (.aload_n 0, 1) := by decide +kernel
theorem dX8_add_78 : decode cX8_add 78 = .ok (.dup, 1) := by decide +kernel
theorem dX8_add_79 : decode cX8_add 79 = .ok (.getfield 19, 3) := by decide +kernel
theorem dX8_add_82 : decode cX8_add 82 = .ok (.iconst 1, 1) := by decide +kernel
theorem dX8_add_83 : decode cX8_add 83 = .ok (.iadd, 1) := by decide +kernel
theorem dX8_add_84 : decode cX8_add 84 = .ok (.putfield 19, 3) := by decide +kernel
theorem dX8_add_87 : decode cX8_add 87 = .ok (.iload 5, 2) := by decide +kernel
theorem dX8_add_89 : decode cX8_add 89 = .ok (.ireturn, 1) := by decide +kernel
theorem dX8_has_0 : decode cX8_has 0 = .ok (.iload_n 1, 1) := by decide +kernel
theorem dX8_has_1 : decode cX8_has 1 = .ok (.ifCond .lt 15, 3) := by decide +kernel
theorem dX8_has_4 : decode cX8_has 4 = .ok (.iload_n 1, 1) := by decide +kernel
theorem dX8_has_5 : decode cX8_has 5 = .ok (.aload_n 0, 1) := by decide +kernel
theorem dX8_has_6 : decode cX8_has 6 = .ok (.getfield 19, 3) := by decide +kernel
theorem dX8_has_9 : decode cX8_has 9 = .ok (.if_icmp .ge 7, 3) := by decide +kernel
theorem dX8_has_12 : decode cX8_has 12 = .ok (.iconst 1, 1) := by decide +kernel
theorem dX8_has_13 : decode cX8_has 13 = .ok (.goto 4, 3) := by decide +kernel
theorem dX8_has_16 : decode cX8_has 16 = .ok (.iconst 0, 1) := by decide +kernel
theorem dX8_has_17 : decode cX8_has 17 = .ok (.ireturn, 1) := by decide +kernel
theorem dX8_brokenIn_0 : decode cX8_brokenIn 0 = .ok (.aload_n 0, 1) := by decide +kernel
theorem dX8_brokenIn_1 : decode cX8_brokenIn 1 = .ok (.aload_n 3, 1) := by decide +kernel
theorem dX8_brokenIn_2 : decode cX8_brokenIn 2 = .ok (.invokevirtual 46, 3) := by decide +kernel
theorem dX8_brokenIn_5 : decode cX8_brokenIn 5 = .ok (.istore 4, 2) := by decide +kernel
theorem dX8_brokenIn_7 : decode cX8_brokenIn 7 = .ok (.iconst 0, 1) := by decide +kernel
theorem dX8_brokenIn_8 : decode cX8_brokenIn 8 = .ok (.istore 5, 2) := by decide +kernel
theorem dX8_brokenIn_10 : decode cX8_brokenIn 10 = .ok (.iload 5, 2) := by decide +kernel
theorem dX8_brokenIn_12 : decode cX8_brokenIn 12 = .ok (.iload_n 2, 1) := by decide +kernel
theorem dX8_brokenIn_13 : decode cX8_brokenIn 13 = .ok (.if_icmp .ge 22, 3) := by decide +kernel
theorem dX8_brokenIn_16 : decode cX8_brokenIn 16 = .ok (.iload 4, 2) := by decide +kernel
theorem dX8_brokenIn_18 : decode cX8_brokenIn 18 = .ok (.aload_n 0, 1) := by decide +kernel
theorem dX8_brokenIn_19 : decode cX8_brokenIn 19 = .ok (.aload_n 1, 1) := by decide +kernel
theorem dX8_brokenIn_20 : decode cX8_brokenIn 20 = .ok (.iload 5, 2) := by decide +kernel
theorem dX8_brokenIn_22 : decode cX8_brokenIn 22 = .ok (.aload_n 3, 1) := by decide +kernel
theorem dX8_brokenIn_23 : decode cX8_brokenIn 23 = .ok (.invokevirtual 50, 3) := by decide +kernel
theorem dX8_brokenIn_26 : decode cX8_brokenIn 26 = .ok (.ior, 1) := by decide +kernel
theorem dX8_brokenIn_27 : decode cX8_brokenIn 27 = .ok (.istore 4, 2) := by decide +kernel
theorem dX8_brokenIn_29 : decode cX8_brokenIn 29 = .ok (.iinc 5 1, 3) := by decide +kernel
theorem dX8_brokenIn_32 : decode cX8_brokenIn 32 = .ok (.goto (-22), 3) := by decide +kernel
theorem dX8_brokenIn_35 : decode cX8_brokenIn 35 = .ok (.iload 4, 2) := by decide +kernel
theorem dX8_brokenIn_37 : decode cX8_brokenIn 37 = .ok (.ireturn, 1) := by decide +kernel
theorem dX8_brokenByNone_0 : decode cX8_brokenByNone 0 = .ok (.iconst 0, 1) := by decide +kernel
theorem dX8_brokenByNone_1 : decode cX8_brokenByNone 1 = .ok (.istore_n 2, 1) := by decide +kernel
theorem dX8_brokenByNone_2 : decode cX8_brokenByNone 2 = .ok (.iconst 0, 1) := by decide +kernel
theorem dX8_brokenByNone_3 : decode cX8_brokenByNone 3 = .ok (.istore_n 3, 1) := by decide +kernel
theorem dX8_brokenByNone_4 : decode cX8_brokenByNone 4 = .ok (.iload_n 3, 1) := by decide +kernel
theorem dX8_brokenByNone_5 : decode cX8_brokenByNone 5 = .ok (.aload_n 0, 1) := by decide +kernel
theorem dX8_brokenByNone_6 : decode cX8_brokenByNone 6 = .ok (.getfield 19, 3) := by decide +kernel
theorem dX8_brokenByNone_9 : decode cX8_brokenByNone 9 = .ok (.if_icmp .ge 36, 3) := by decide +kernel
theorem dX8_brokenByNone_12 : decode cX8_brokenByNone 12 = .ok (.aload_n 0, 1) := by decide +kernel
theorem dX8_brokenByNone_13 : decode cX8_brokenByNone 13 = .ok (.getfield 22, 3) := by decide +kernel
theorem dX8_brokenByNone_16 : decode cX8_brokenByNone 16 = .ok (.iload_n 3, 1) := by decide +kernel
theorem dX8_brokenByNone_17 : decode cX8_brokenByNone 17 = .ok (.iaload, 1) := by decide +kernel
theorem dX8_brokenByNone_18 : decode cX8_brokenByNone 18 = .ok (.iconst 5, 1) := by decide +kernel
theorem dX8_brokenByNone_19 : decode cX8_brokenByNone 19 = .ok (.if_icmp .ne 20, 3) := by decide +kernel
theorem dX8_brokenByNone_22 : decode cX8_brokenByNone 22 = .ok (.aload_n 1, 1) := by decide +kernel
theorem dX8_brokenByNone_23 : decode cX8_brokenByNone 23 = .ok (.aload_n 0, 1) := by decide +kernel
theorem dX8_brokenByNone_24 : decode cX8_brokenByNone 24 = .ok (.getfield 31, 3) := by decide +kernel
theorem dX8_brokenByNone_27 : decode cX8_brokenByNone 27 = .ok (.iload_n 3, 1) := by decide +kernel
theorem dX8_brokenByNone_28 : decode cX8_brokenByNone 28 = .ok (.iaload, 1) := by decide +kernel
theorem dX8_brokenByNone_29 : decode cX8_brokenByNone 29 = .ok (.iaload, 1) := by decide +kernel
theorem dX8_brokenByNone_30 : decode cX8_brokenByNone 30 = .ok (.ifCond .ge 9, 3) := by decide +kernel
theorem dX8_brokenByNone_33 : decode cX8_brokenByNone 33 = .ok (.iload_n 2, 1) := by decide +kernel
theorem dX8_brokenByNone_34 : decode cX8_brokenByNone 34 = .ok (.iconst 1, 1) := by decide +kernel
theorem dX8_brokenByNone_35 : decode cX8_brokenByNone 35 = .ok (.iload_n 3, 1) := by decide +kernel
theorem dX8_brokenByNone_36 : decode cX8_brokenByNone 36 = .ok (.ishl, 1) := by decide +kernel
theorem dX8_brokenByNone_37 : decode cX8_brokenByNone 37 = .ok (.ior, 1) := by decide +kernel
theorem dX8_brokenByNone_38 : decode cX8_brokenByNone 38 = .ok (.istore_n 2, 1) := by decide +kernel
theorem dX8_brokenByNone_39 : decode cX8_brokenByNone 39 = .ok (.iinc 3 1, 3) := by decide +kernel
theorem dX8_brokenByNone_42 : decode cX8_brokenByNone 42 = .ok (.goto (-38), 3) := by decide +kernel
theorem dX8_brokenByNone_45 : decode cX8_brokenByNone 45 = .ok (.iload_n 2, 1) := by decide +kernel
theorem dX8_brokenByNone_46 : decode cX8_brokenByNone 46 = .ok (.ireturn, 1) := by decide +kernel
theorem dX8_brokenAt_0 : decode cX8_brokenAt 0 = .ok (.aload_n 0, 1) := by decide +kernel
theorem dX8_brokenAt_1 : decode cX8_brokenAt 1 = .ok (.getfield 34, 3) := by decide +kernel
theorem dX8_brokenAt_4 : decode cX8_brokenAt 4 = .ok (.iload_n 2, 1) := by decide +kernel
theorem dX8_brokenAt_5 : decode cX8_brokenAt 5 = .ok (.iaload, 1) := by decide +kernel
theorem dX8_brokenAt_6 : decode cX8_brokenAt 6 = .ok (.aload_n 0, 1) := by decide +kernel
theorem dX8_brokenAt_7 : decode cX8_brokenAt 7 = .ok (.getfield 37, 3) := by decide +kernel
theorem dX8_brokenAt_10 : decode cX8_brokenAt 10 = .ok (.aload_n 1, 1) := by decide +kernel
theorem dX8_brokenAt_11 : decode cX8_brokenAt 11 = .ok (.iload_n 2, 1) := by decide +kernel
theorem dX8_brokenAt_12 : decode cX8_brokenAt 12 = .ok (.iaload, 1) := by decide +kernel
theorem dX8_brokenAt_13 : decode cX8_brokenAt 13 = .ok (.iaload, 1) := by decide +kernel
theorem dX8_brokenAt_14 : decode cX8_brokenAt 14 = .ok (.ior, 1) := by decide +kernel
theorem dX8_brokenAt_15 : decode cX8_brokenAt 15 = .ok (.istore 4, 2) := by decide +kernel
theorem dX8_brokenAt_17 : decode cX8_brokenAt 17 = .ok (.iconst 0, 1) := by decide +kernel
theorem dX8_brokenAt_18 : decode cX8_brokenAt 18 = .ok (.istore 5, 2) := by decide +kernel
theorem dX8_brokenAt_20 : decode cX8_brokenAt 20 = .ok (.iconst 0, 1) := by decide +kernel
theorem dX8_brokenAt_21 : decode cX8_brokenAt 21 = .ok (.istore 6, 2) := by decide +kernel
theorem dX8_brokenAt_23 : decode cX8_brokenAt 23 = .ok (.iload 6, 2) := by decide +kernel
theorem dX8_brokenAt_25 : decode cX8_brokenAt 25 = .ok (.aload_n 0, 1) := by decide +kernel
theorem dX8_brokenAt_26 : decode cX8_brokenAt 26 = .ok (.getfield 19, 3) := by decide +kernel
theorem dX8_brokenAt_29 : decode cX8_brokenAt 29 = .ok (.if_icmp .ge 51, 3) := by decide +kernel
theorem dX8_brokenAt_32 : decode cX8_brokenAt 32 = .ok (.iload 4, 2) := by decide +kernel
theorem dX8_brokenAt_34 : decode cX8_brokenAt 34 = .ok (.iload 6, 2) := by decide +kernel
theorem dX8_brokenAt_36 : decode cX8_brokenAt 36 = .ok (.ishr, 1) := by decide +kernel
theorem dX8_brokenAt_37 : decode cX8_brokenAt 37 = .ok (.iconst 1, 1) := by decide +kernel
theorem dX8_brokenAt_38 : decode cX8_brokenAt 38 = .ok (.iand, 1) := by decide +kernel
theorem dX8_brokenAt_39 : decode cX8_brokenAt 39 = .ok (.ifCond .ne 6, 3) := by decide +kernel
theorem dX8_brokenAt_42 : decode cX8_brokenAt 42 = .ok (.goto 32, 3) := by decide +kernel
theorem dX8_brokenAt_45 : decode cX8_brokenAt 45 = .ok (.aload_n 0, 1) := by decide +kernel
theorem dX8_brokenAt_46 : decode cX8_brokenAt 46 = .ok (.iload 6, 2) := by decide +kernel
theorem dX8_brokenAt_48 : decode cX8_brokenAt 48 = .ok (.aload_n 1, 1) := by decide +kernel
theorem dX8_brokenAt_49 : decode cX8_brokenAt 49 = .ok (.iload_n 2, 1) := by decide +kernel
theorem dX8_brokenAt_50 : decode cX8_brokenAt 50 = .ok (.aload_n 3, 1) := by decide +kernel
theorem dX8_brokenAt_51 : decode cX8_brokenAt 51 = .ok (.aload_n 0, 1) := by decide +kernel
theorem dX8_brokenAt_52 : decode cX8_brokenAt 52 = .ok (.getfield 31, 3) := by decide +kernel
theorem dX8_brokenAt_55 : decode cX8_brokenAt 55 = .ok (.iload 6, 2) := by decide +kernel
theorem dX8_brokenAt_57 : decode cX8_brokenAt 57 = .ok (.iaload, 1) := by decide +kernel
theorem dX8_brokenAt_58 : decode cX8_brokenAt 58 = .ok (.iaload, 1) := by decide +kernel
theorem dX8_brokenAt_59 : decode cX8_brokenAt 59 = .ok (.invokevirtual 54, 3) := by decide +kernel
theorem dX8_brokenAt_62 : decode cX8_brokenAt 62 = .ok (.ifCond .ne 12, 3) := by decide +kernel
theorem dX8_brokenAt_65 : decode cX8_brokenAt 65 = .ok (.iload 5, 2) := by decide +kernel
theorem dX8_brokenAt_67 : decode cX8_brokenAt 67 = .ok (.iconst 1, 1) := by decide +kernel
theorem dX8_brokenAt_68 : decode cX8_brokenAt 68 = .ok (.iload 6, 2) := by decide +kernel
theorem dX8_brokenAt_70 : decode cX8_brokenAt 70 = .ok (.ishl, 1) := by decide +kernel
theorem dX8_brokenAt_71 : decode cX8_brokenAt 71 = .ok (.ior, 1) := by decide +kernel
theorem dX8_brokenAt_72 : decode cX8_brokenAt 72 = .ok (.istore 5, 2) := by decide +kernel
theorem dX8_brokenAt_74 : decode cX8_brokenAt 74 = .ok (.iinc 6 1, 3) := by decide +kernel
theorem dX8_brokenAt_77 : decode cX8_brokenAt 77 = .ok (.goto (-54), 3) := by decide +kernel
theorem dX8_brokenAt_80 : decode cX8_brokenAt 80 = .ok (.iload 5, 2) := by decide +kernel
theorem dX8_brokenAt_82 : decode cX8_brokenAt 82 = .ok (.ireturn, 1) := by decide +kernel
theorem dX8_isKept_0 : decode cX8_isKept 0 = .ok (.aload_n 0, 1) := by decide +kernel
theorem dX8_isKept_1 : decode cX8_isKept 1 = .ok (.getfield 22, 3) := by decide +kernel
theorem dX8_isKept_4 : decode cX8_isKept 4 = .ok (.iload_n 1, 1) := by decide +kernel
theorem dX8_isKept_5 : decode cX8_isKept 5 = .ok (.iaload, 1) := by decide +kernel
theorem dX8_isKept_6 : decode cX8_isKept 6 = .ok (.iconst 5, 1) := by decide +kernel
theorem dX8_isKept_7 : decode cX8_isKept 7 = .ok (.if_icmp .ne 25, 3) := by decide +kernel
theorem dX8_isKept_10 : decode cX8_isKept 10 = .ok (.iload_n 3, 1) := by decide +kernel
theorem dX8_isKept_11 : decode cX8_isKept 11 = .ok (.aload_n 2, 1) := by decide +kernel
theorem dX8_isKept_12 : decode cX8_isKept 12 = .ok (.aload_n 0, 1) := by decide +kernel
theorem dX8_isKept_13 : decode cX8_isKept 13 = .ok (.getfield 28, 3) := by decide +kernel
theorem dX8_isKept_16 : decode cX8_isKept 16 = .ok (.iload_n 1, 1) := by decide +kernel
theorem dX8_isKept_17 : decode cX8_isKept 17 = .ok (.iaload, 1) := by decide +kernel
theorem dX8_isKept_18 : decode cX8_isKept 18 = .ok (.invokestatic 58, 3) := by decide +kernel
theorem dX8_isKept_21 : decode cX8_isKept 21 = .ok (.iload 4, 2) := by decide +kernel
theorem dX8_isKept_23 : decode cX8_isKept 23 = .ok (.if_icmp .gt 7, 3) := by decide +kernel
theorem dX8_isKept_26 : decode cX8_isKept 26 = .ok (.iconst 1, 1) := by decide +kernel
theorem dX8_isKept_27 : decode cX8_isKept 27 = .ok (.goto 4, 3) := by decide +kernel
theorem dX8_isKept_30 : decode cX8_isKept 30 = .ok (.iconst 0, 1) := by decide +kernel
theorem dX8_isKept_31 : decode cX8_isKept 31 = .ok (.ireturn, 1) := by decide +kernel
theorem dX8_isKept_32 : decode cX8_isKept 32 = .ok (.aload_n 2, 1) := by decide +kernel
theorem dX8_isKept_33 : decode cX8_isKept 33 = .ok (.aload_n 0, 1) := by decide +kernel
theorem dX8_isKept_34 : decode cX8_isKept 34 = .ok (.getfield 25, 3) := by decide +kernel
theorem dX8_isKept_37 : decode cX8_isKept 37 = .ok (.iload_n 1, 1) := by decide +kernel
theorem dX8_isKept_38 : decode cX8_isKept 38 = .ok (.iaload, 1) := by decide +kernel
theorem dX8_isKept_39 : decode cX8_isKept 39 = .ok (.iaload, 1) := by decide +kernel
theorem dX8_isKept_40 : decode cX8_isKept 40 = .ok (.istore 5, 2) := by decide +kernel
theorem dX8_isKept_42 : decode cX8_isKept 42 = .ok (.aload_n 2, 1) := by decide +kernel
theorem dX8_isKept_43 : decode cX8_isKept 43 = .ok (.aload_n 0, 1) := by decide +kernel
theorem dX8_isKept_44 : decode cX8_isKept 44 = .ok (.getfield 28, 3) := by decide +kernel
theorem dX8_isKept_47 : decode cX8_isKept 47 = .ok (.iload_n 1, 1) := by decide +kernel
theorem dX8_isKept_48 : decode cX8_isKept 48 = .ok (.iaload, 1) := by decide +kernel
theorem dX8_isKept_49 : decode cX8_isKept 49 = .ok (.iaload, 1) := by decide +kernel
theorem dX8_isKept_50 : decode cX8_isKept 50 = .ok (.istore 6, 2) := by decide +kernel
theorem dX8_isKept_52 : decode cX8_isKept 52 = .ok (.aload_n 0, 1) := by decide +kernel
theorem dX8_isKept_53 : decode cX8_isKept 53 = .ok (.getfield 22, 3) := by decide +kernel
theorem dX8_isKept_56 : decode cX8_isKept 56 = .ok (.iload_n 1, 1) := by decide +kernel
theorem dX8_isKept_57 : decode cX8_isKept 57 = .ok (.iaload, 1) := by decide +kernel
theorem dX8_isKept_58 : decode cX8_isKept 58 = .ok (.tableswitch 97 0 3 #[30, 46, 62, 78], 30) := by decide +kernel
theorem dX8_isKept_88 : decode cX8_isKept 88 = .ok (.iload 5, 2) := by decide +kernel
theorem dX8_isKept_90 : decode cX8_isKept 90 = .ok (.iload 6, 2) := by decide +kernel
theorem dX8_isKept_92 : decode cX8_isKept 92 = .ok (.isub, 1) := by decide +kernel
theorem dX8_isKept_93 : decode cX8_isKept 93 = .ok (.iload 4, 2) := by decide +kernel
theorem dX8_isKept_95 : decode cX8_isKept 95 = .ok (.if_icmp .gt 7, 3) := by decide +kernel
theorem dX8_isKept_98 : decode cX8_isKept 98 = .ok (.iconst 1, 1) := by decide +kernel
theorem dX8_isKept_99 : decode cX8_isKept 99 = .ok (.goto 4, 3) := by decide +kernel
theorem dX8_isKept_102 : decode cX8_isKept 102 = .ok (.iconst 0, 1) := by decide +kernel
theorem dX8_isKept_103 : decode cX8_isKept 103 = .ok (.ireturn, 1) := by decide +kernel
theorem dX8_isKept_104 : decode cX8_isKept 104 = .ok (.iload 5, 2) := by decide +kernel
theorem dX8_isKept_106 : decode cX8_isKept 106 = .ok (.iload 6, 2) := by decide +kernel
theorem dX8_isKept_108 : decode cX8_isKept 108 = .ok (.iadd, 1) := by decide +kernel
theorem dX8_isKept_109 : decode cX8_isKept 109 = .ok (.iload 4, 2) := by decide +kernel
theorem dX8_isKept_111 : decode cX8_isKept 111 = .ok (.if_icmp .gt 7, 3) := by decide +kernel
theorem dX8_isKept_114 : decode cX8_isKept 114 = .ok (.iconst 1, 1) := by decide +kernel
theorem dX8_isKept_115 : decode cX8_isKept 115 = .ok (.goto 4, 3) := by decide +kernel
theorem dX8_isKept_118 : decode cX8_isKept 118 = .ok (.iconst 0, 1) := by decide +kernel
theorem dX8_isKept_119 : decode cX8_isKept 119 = .ok (.ireturn, 1) := by decide +kernel
theorem dX8_isKept_120 : decode cX8_isKept 120 = .ok (.iload 5, 2) := by decide +kernel
theorem dX8_isKept_122 : decode cX8_isKept 122 = .ok (.iload 6, 2) := by decide +kernel
theorem dX8_isKept_124 : decode cX8_isKept 124 = .ok (.iadd, 1) := by decide +kernel
theorem dX8_isKept_125 : decode cX8_isKept 125 = .ok (.iload 4, 2) := by decide +kernel
theorem dX8_isKept_127 : decode cX8_isKept 127 = .ok (.if_icmp .lt 7, 3) := by decide +kernel
theorem dX8_isKept_130 : decode cX8_isKept 130 = .ok (.iconst 1, 1) := by decide +kernel
theorem dX8_isKept_131 : decode cX8_isKept 131 = .ok (.goto 4, 3) := by decide +kernel
theorem dX8_isKept_134 : decode cX8_isKept 134 = .ok (.iconst 0, 1) := by decide +kernel
theorem dX8_isKept_135 : decode cX8_isKept 135 = .ok (.ireturn, 1) := by decide +kernel
theorem dX8_isKept_136 : decode cX8_isKept 136 = .ok (.iload 5, 2) := by decide +kernel
theorem dX8_isKept_138 : decode cX8_isKept 138 = .ok (.iload 6, 2) := by decide +kernel
theorem dX8_isKept_140 : decode cX8_isKept 140 = .ok (.isub, 1) := by decide +kernel
theorem dX8_isKept_141 : decode cX8_isKept 141 = .ok (.invokestatic 62, 3) := by decide +kernel
theorem dX8_isKept_144 : decode cX8_isKept 144 = .ok (.iload 4, 2) := by decide +kernel
theorem dX8_isKept_146 : decode cX8_isKept 146 = .ok (.if_icmp .lt 7, 3) := by decide +kernel
theorem dX8_isKept_149 : decode cX8_isKept 149 = .ok (.iconst 1, 1) := by decide +kernel
theorem dX8_isKept_150 : decode cX8_isKept 150 = .ok (.goto 4, 3) := by decide +kernel
theorem dX8_isKept_153 : decode cX8_isKept 153 = .ok (.iconst 0, 1) := by decide +kernel
theorem dX8_isKept_154 : decode cX8_isKept 154 = .ok (.ireturn, 1) := by decide +kernel
theorem dX8_isKept_155 : decode cX8_isKept 155 = .ok (.iload 5, 2) := by decide +kernel
theorem dX8_isKept_157 : decode cX8_isKept 157 = .ok (.iload 6, 2) := by decide +kernel
theorem dX8_isKept_159 : decode cX8_isKept 159 = .ok (.isub, 1) := by decide +kernel
theorem dX8_isKept_160 : decode cX8_isKept 160 = .ok (.invokestatic 62, 3) := by decide +kernel
theorem dX8_isKept_163 : decode cX8_isKept 163 = .ok (.iload 4, 2) := by decide +kernel
theorem dX8_isKept_165 : decode cX8_isKept 165 = .ok (.if_icmp .gt 7, 3) := by decide +kernel
theorem dX8_isKept_168 : decode cX8_isKept 168 = .ok (.iconst 1, 1) := by decide +kernel
theorem dX8_isKept_169 : decode cX8_isKept 169 = .ok (.goto 4, 3) := by decide +kernel
theorem dX8_isKept_172 : decode cX8_isKept 172 = .ok (.iconst 0, 1) := by decide +kernel
theorem dX8_isKept_173 : decode cX8_isKept 173 = .ok (.ireturn, 1) := by decide +kernel
theorem dX8_timesUpTo_0 : decode cX8_timesUpTo 0 = .ok (.iconst 0, 1) := by decide +kernel
theorem dX8_timesUpTo_1 : decode cX8_timesUpTo 1 = .ok (.istore_n 3, 1) := by decide +kernel
theorem dX8_timesUpTo_2 : decode cX8_timesUpTo 2 = .ok (.iconst 0, 1) := by decide +kernel
theorem dX8_timesUpTo_3 : decode cX8_timesUpTo 3 = .ok (.istore 4, 2) := by decide +kernel
theorem dX8_timesUpTo_5 : decode cX8_timesUpTo 5 = .ok (.iload 4, 2) := by decide +kernel
theorem dX8_timesUpTo_7 : decode cX8_timesUpTo 7 = .ok (.iload_n 0, 1) := by decide +kernel
theorem dX8_timesUpTo_8 : decode cX8_timesUpTo 8 = .ok (.if_icmp .gt 20, 3) := by decide +kernel
theorem dX8_timesUpTo_11 : decode cX8_timesUpTo 11 = .ok (.aload_n 1, 1) := by decide +kernel
theorem dX8_timesUpTo_12 : decode cX8_timesUpTo 12 = .ok (.iload 4, 2) := by decide +kernel
theorem dX8_timesUpTo_14 : decode cX8_timesUpTo 14 = .ok (.iaload, 1) := by decide +kernel
theorem dX8_timesUpTo_15 : decode cX8_timesUpTo 15 = .ok (.iload_n 2, 1) := by decide +kernel
theorem dX8_timesUpTo_16 : decode cX8_timesUpTo 16 = .ok (.if_icmp .ne 6, 3) := by decide +kernel
theorem dX8_timesUpTo_19 : decode cX8_timesUpTo 19 = .ok (.iinc 3 1, 3) := by decide +kernel
theorem dX8_timesUpTo_22 : decode cX8_timesUpTo 22 = .ok (.iinc 4 1, 3) := by decide +kernel
theorem dX8_timesUpTo_25 : decode cX8_timesUpTo 25 = .ok (.goto (-20), 3) := by decide +kernel
theorem dX8_timesUpTo_28 : decode cX8_timesUpTo 28 = .ok (.iload_n 3, 1) := by decide +kernel
theorem dX8_timesUpTo_29 : decode cX8_timesUpTo 29 = .ok (.ireturn, 1) := by decide +kernel
theorem dX9_init_0 : decode cX9_init 0 = .ok (.aload_n 0, 1) := by decide +kernel
theorem dX9_init_1 : decode cX9_init 1 = .ok (.invokespecial 3, 3) := by decide +kernel
theorem dX9_init_4 : decode cX9_init 4 = .ok (.aload_n 0, 1) := by decide +kernel
theorem dX9_init_5 : decode cX9_init 5 = .ok (.aload_n 1, 1) := by decide +kernel
theorem dX9_init_6 : decode cX9_init 6 = .ok (.putfield 9, 3) := by decide +kernel
theorem dX9_init_9 : decode cX9_init 9 = .ok (.aload_n 0, 1) := by decide +kernel
theorem dX9_init_10 : decode cX9_init 10 = .ok (.aload_n 2, 1) := by decide +kernel
theorem dX9_init_11 : decode cX9_init 11 = .ok (.putfield 15, 3) := by decide +kernel
theorem dX9_init_14 : decode cX9_init 14 = .ok (.return_, 1) := by decide +kernel
theorem dX9_costAt_0 : decode cX9_costAt 0 = .ok (.aload_n 0, 1) := by decide +kernel
theorem dX9_costAt_1 : decode cX9_costAt 1 = .ok (.getfield 15, 3) := by decide +kernel
theorem dX9_costAt_4 : decode cX9_costAt 4 = .ok (.iload_n 1, 1) := by decide +kernel
theorem dX9_costAt_5 : decode cX9_costAt 5 = .ok (.iload_n 2, 1) := by decide +kernel
theorem dX9_costAt_6 : decode cX9_costAt 6 = .ok (.invokevirtual 19, 3) := by decide +kernel
theorem dX9_costAt_9 : decode cX9_costAt 9 = .ok (.ifCond .ne 5, 3) := by decide +kernel
theorem dX9_costAt_12 : decode cX9_costAt 12 = .ok (.iconst 0, 1) := by decide +kernel
theorem dX9_costAt_13 : decode cX9_costAt 13 = .ok (.ireturn, 1) := by decide +kernel
theorem dX9_costAt_14 : decode cX9_costAt 14 = .ok (.aload_n 0, 1) := by decide +kernel
theorem dX9_costAt_15 : decode cX9_costAt 15 = .ok (.getfield 15, 3) := by decide +kernel
theorem dX9_costAt_18 : decode cX9_costAt 18 = .ok (.iload_n 1, 1) := by decide +kernel
theorem dX9_costAt_19 : decode cX9_costAt 19 = .ok (.invokevirtual 25, 3) := by decide +kernel
theorem dX9_costAt_22 : decode cX9_costAt 22 = .ok (.iload_n 2, 1) := by decide +kernel
theorem dX9_costAt_23 : decode cX9_costAt 23 = .ok (.isub, 1) := by decide +kernel
theorem dX9_costAt_24 : decode cX9_costAt 24 = .ok (.invokestatic 29, 3) := by decide +kernel
theorem dX9_costAt_27 : decode cX9_costAt 27 = .ok (.istore_n 3, 1) := by decide +kernel
theorem dX9_costAt_28 : decode cX9_costAt 28 = .ok (.aload_n 0, 1) := by decide +kernel
theorem dX9_costAt_29 : decode cX9_costAt 29 = .ok (.getfield 9, 3) := by decide +kernel
theorem dX9_costAt_32 : decode cX9_costAt 32 = .ok (.getfield 34, 3) := by decide +kernel
theorem dX9_costAt_35 : decode cX9_costAt 35 = .ok (.iload_n 1, 1) := by decide +kernel
theorem dX9_costAt_36 : decode cX9_costAt 36 = .ok (.iaload, 1) := by decide +kernel
theorem dX9_costAt_37 : decode cX9_costAt 37 = .ok (.aload_n 0, 1) := by decide +kernel
theorem dX9_costAt_38 : decode cX9_costAt 38 = .ok (.getfield 9, 3) := by decide +kernel
theorem dX9_costAt_41 : decode cX9_costAt 41 = .ok (.getfield 40, 3) := by decide +kernel
theorem dX9_costAt_44 : decode cX9_costAt 44 = .ok (.iload_n 1, 1) := by decide +kernel
theorem dX9_costAt_45 : decode cX9_costAt 45 = .ok (.iaload, 1) := by decide +kernel
theorem dX9_costAt_46 : decode cX9_costAt 46 = .ok (.iload_n 3, 1) := by decide +kernel
theorem dX9_costAt_47 : decode cX9_costAt 47 = .ok (.imul, 1) := by decide +kernel
theorem dX9_costAt_48 : decode cX9_costAt 48 = .ok (.iadd, 1) := by decide +kernel
theorem dX9_costAt_49 : decode cX9_costAt 49 = .ok (.ireturn, 1) := by decide +kernel
theorem dX9_costOf_0 : decode cX9_costOf 0 = .ok (.iconst 0, 1) := by decide +kernel
theorem dX9_costOf_1 : decode cX9_costOf 1 = .ok (.istore_n 2, 1) := by decide +kernel
theorem dX9_costOf_2 : decode cX9_costOf 2 = .ok (.iconst 0, 1) := by decide +kernel
theorem dX9_costOf_3 : decode cX9_costOf 3 = .ok (.istore_n 3, 1) := by decide +kernel
theorem dX9_costOf_4 : decode cX9_costOf 4 = .ok (.iload_n 3, 1) := by decide +kernel
theorem dX9_costOf_5 : decode cX9_costOf 5 = .ok (.aload_n 0, 1) := by decide +kernel
theorem dX9_costOf_6 : decode cX9_costOf 6 = .ok (.getfield 9, 3) := by decide +kernel
theorem dX9_costOf_9 : decode cX9_costOf 9 = .ok (.getfield 43, 3) := by decide +kernel
theorem dX9_costOf_12 : decode cX9_costOf 12 = .ok (.if_icmp .ge 20, 3) := by decide +kernel
theorem dX9_costOf_15 : decode cX9_costOf 15 = .ok (.iload_n 2, 1) := by decide +kernel
theorem dX9_costOf_16 : decode cX9_costOf 16 = .ok (.aload_n 0, 1) := by decide +kernel
theorem dX9_costOf_17 : decode cX9_costOf 17 = .ok (.iload_n 3, 1) := by decide +kernel
theorem dX9_costOf_18 : decode cX9_costOf 18 = .ok (.aload_n 1, 1) := by decide +kernel
theorem dX9_costOf_19 : decode cX9_costOf 19 = .ok (.iload_n 3, 1) := by decide +kernel
theorem dX9_costOf_20 : decode cX9_costOf 20 = .ok (.iaload, 1) := by decide +kernel
theorem dX9_costOf_21 : decode cX9_costOf 21 = .ok (.invokevirtual 47, 3) := by decide +kernel
theorem dX9_costOf_24 : decode cX9_costOf 24 = .ok (.iadd, 1) := by decide +kernel
theorem dX9_costOf_25 : decode cX9_costOf 25 = .ok (.istore_n 2, 1) := by decide +kernel
theorem dX9_costOf_26 : decode cX9_costOf 26 = .ok (.iinc 3 1, 3) := by decide +kernel
theorem dX9_costOf_29 : decode cX9_costOf 29 = .ok (.goto (-25), 3) := by decide +kernel
theorem dX9_costOf_32 : decode cX9_costOf 32 = .ok (.iload_n 2, 1) := by decide +kernel
theorem dX9_costOf_33 : decode cX9_costOf 33 = .ok (.ireturn, 1) := by decide +kernel
theorem dX9_worthAt_0 : decode cX9_worthAt 0 = .ok (.aload_n 0, 1) := by decide +kernel
theorem dX9_worthAt_1 : decode cX9_worthAt 1 = .ok (.getfield 9, 3) := by decide +kernel
theorem dX9_worthAt_4 : decode cX9_worthAt 4 = .ok (.getfield 51, 3) := by decide +kernel
theorem dX9_worthAt_7 : decode cX9_worthAt 7 = .ok (.iload_n 1, 1) := by decide +kernel
theorem dX9_worthAt_8 : decode cX9_worthAt 8 = .ok (.aaload, 1) := by decide +kernel
theorem dX9_worthAt_9 : decode cX9_worthAt 9 = .ok (.iload_n 2, 1) := by decide +kernel
theorem dX9_worthAt_10 : decode cX9_worthAt 10 = .ok (.iaload, 1) := by decide +kernel
theorem dX9_worthAt_11 : decode cX9_worthAt 11 = .ok (.ireturn, 1) := by decide +kernel
theorem dX9_worthOf_0 : decode cX9_worthOf 0 = .ok (.iconst 0, 1) := by decide +kernel
theorem dX9_worthOf_1 : decode cX9_worthOf 1 = .ok (.istore_n 2, 1) := by decide +kernel
theorem dX9_worthOf_2 : decode cX9_worthOf 2 = .ok (.iconst 0, 1) := by decide +kernel
theorem dX9_worthOf_3 : decode cX9_worthOf 3 = .ok (.istore_n 3, 1) := by decide +kernel
theorem dX9_worthOf_4 : decode cX9_worthOf 4 = .ok (.iload_n 3, 1) := by decide +kernel
theorem dX9_worthOf_5 : decode cX9_worthOf 5 = .ok (.aload_n 0, 1) := by decide +kernel
theorem dX9_worthOf_6 : decode cX9_worthOf 6 = .ok (.getfield 9, 3) := by decide +kernel
theorem dX9_worthOf_9 : decode cX9_worthOf 9 = .ok (.getfield 43, 3) := by decide +kernel
theorem dX9_worthOf_12 : decode cX9_worthOf 12 = .ok (.if_icmp .ge 20, 3) := by decide +kernel
theorem dX9_worthOf_15 : decode cX9_worthOf 15 = .ok (.iload_n 2, 1) := by decide +kernel
theorem dX9_worthOf_16 : decode cX9_worthOf 16 = .ok (.aload_n 0, 1) := by decide +kernel
theorem dX9_worthOf_17 : decode cX9_worthOf 17 = .ok (.iload_n 3, 1) := by decide +kernel
theorem dX9_worthOf_18 : decode cX9_worthOf 18 = .ok (.aload_n 1, 1) := by decide +kernel
theorem dX9_worthOf_19 : decode cX9_worthOf 19 = .ok (.iload_n 3, 1) := by decide +kernel
theorem dX9_worthOf_20 : decode cX9_worthOf 20 = .ok (.iaload, 1) := by decide +kernel
theorem dX9_worthOf_21 : decode cX9_worthOf 21 = .ok (.invokevirtual 55, 3) := by decide +kernel
theorem dX9_worthOf_24 : decode cX9_worthOf 24 = .ok (.iadd, 1) := by decide +kernel
theorem dX9_worthOf_25 : decode cX9_worthOf 25 = .ok (.istore_n 2, 1) := by decide +kernel
theorem dX9_worthOf_26 : decode cX9_worthOf 26 = .ok (.iinc 3 1, 3) := by decide +kernel
theorem dX9_worthOf_29 : decode cX9_worthOf 29 = .ok (.goto (-25), 3) := by decide +kernel
theorem dX9_worthOf_32 : decode cX9_worthOf 32 = .ok (.iload_n 2, 1) := by decide +kernel
theorem dX9_worthOf_33 : decode cX9_worthOf 33 = .ok (.ireturn, 1) := by decide +kernel
theorem dX9_mostWorthAt_0 : decode cX9_mostWorthAt 0 = .ok (.iconst 0, 1) := by decide +kernel
theorem dX9_mostWorthAt_1 : decode cX9_mostWorthAt 1 = .ok (.istore_n 2, 1) := by decide +kernel
theorem dX9_mostWorthAt_2 : decode cX9_mostWorthAt 2 = .ok (.aload_n 0, 1) := by decide +kernel
theorem dX9_mostWorthAt_3 : decode cX9_mostWorthAt 3 = .ok (.getfield 9, 3) := by decide +kernel
theorem dX9_mostWorthAt_6 : decode cX9_mostWorthAt 6 = .ok (.getfield 58, 3) := by decide +kernel
theorem dX9_mostWorthAt_9 : decode cX9_mostWorthAt 9 = .ok (.iload_n 1, 1) := by decide +kernel
theorem dX9_mostWorthAt_10 : decode cX9_mostWorthAt 10 = .ok (.iaload, 1) := by decide +kernel
theorem dX9_mostWorthAt_11 : decode cX9_mostWorthAt 11 = .ok (.istore_n 3, 1) := by decide +kernel
theorem dX9_mostWorthAt_12 : decode cX9_mostWorthAt 12 = .ok (.iload_n 3, 1) := by decide +kernel
theorem dX9_mostWorthAt_13 : decode cX9_mostWorthAt 13 = .ok (.aload_n 0, 1) := by decide +kernel
theorem dX9_mostWorthAt_14 : decode cX9_mostWorthAt 14 = .ok (.getfield 9, 3) := by decide +kernel
theorem dX9_mostWorthAt_17 : decode cX9_mostWorthAt 17 = .ok (.getfield 61, 3) := by decide +kernel
theorem dX9_mostWorthAt_20 : decode cX9_mostWorthAt 20 = .ok (.iload_n 1, 1) := by decide +kernel
theorem dX9_mostWorthAt_21 : decode cX9_mostWorthAt 21 = .ok (.iaload, 1) := by decide +kernel
theorem dX9_mostWorthAt_22 : decode cX9_mostWorthAt 22 = .ok (.if_icmp .gt 32, 3) := by decide +kernel
theorem dX9_mostWorthAt_25 : decode cX9_mostWorthAt 25 = .ok (.aload_n 0, 1) := by decide +kernel
theorem dX9_mostWorthAt_26 : decode cX9_mostWorthAt 26 = .ok (.getfield 9, 3) := by decide +kernel
theorem dX9_mostWorthAt_29 : decode cX9_mostWorthAt 29 = .ok (.iload_n 1, 1) := by decide +kernel
theorem dX9_mostWorthAt_30 : decode cX9_mostWorthAt 30 = .ok (.iload_n 3, 1) := by decide +kernel
theorem dX9_mostWorthAt_31 : decode cX9_mostWorthAt 31 = .ok (.invokevirtual 64, 3) := by decide +kernel
theorem dX9_mostWorthAt_34 : decode cX9_mostWorthAt 34 = .ok (.ifCond .eq 14, 3) := by decide +kernel
theorem dX9_mostWorthAt_37 : decode cX9_mostWorthAt 37 = .ok (.iload_n 2, 1) := by decide +kernel
theorem dX9_mostWorthAt_38 : decode cX9_mostWorthAt 38 = .ok (.aload_n 0, 1) := by decide +kernel
theorem dX9_mostWorthAt_39 : decode cX9_mostWorthAt 39 = .ok (.iload_n 1, 1) := by decide +kernel
theorem dX9_mostWorthAt_40 : decode cX9_mostWorthAt 40 = .ok (.iload_n 3, 1) := by decide +kernel
theorem dX9_mostWorthAt_41 : decode cX9_mostWorthAt 41 = .ok (.invokevirtual 55, 3) := by decide +kernel
theorem dX9_mostWorthAt_44 : decode cX9_mostWorthAt 44 = .ok (.invokestatic 67, 3) := by decide +kernel
theorem dX9_mostWorthAt_47 : decode cX9_mostWorthAt 47 = .ok (.istore_n 2, 1) := by decide +kernel
theorem dX9_mostWorthAt_48 : decode cX9_mostWorthAt 48 = .ok (.iinc 3 1, 3) := by decide +kernel
theorem dX9_mostWorthAt_51 : decode cX9_mostWorthAt 51 = .ok (.goto (-39), 3) := by decide +kernel
theorem dX9_mostWorthAt_54 : decode cX9_mostWorthAt 54 = .ok (.iload_n 2, 1) := by decide +kernel
theorem dX9_mostWorthAt_55 : decode cX9_mostWorthAt 55 = .ok (.ireturn, 1) := by decide +kernel
theorem dX9_movedBits_0 : decode cX9_movedBits 0 = .ok (.iconst 0, 1) := by decide +kernel
theorem dX9_movedBits_1 : decode cX9_movedBits 1 = .ok (.istore_n 2, 1) := by decide +kernel
theorem dX9_movedBits_2 : decode cX9_movedBits 2 = .ok (.iconst 0, 1) := by decide +kernel
theorem dX9_movedBits_3 : decode cX9_movedBits 3 = .ok (.istore_n 3, 1) := by decide +kernel
theorem dX9_movedBits_4 : decode cX9_movedBits 4 = .ok (.iload_n 3, 1) := by decide +kernel
theorem dX9_movedBits_5 : decode cX9_movedBits 5 = .ok (.aload_n 0, 1) := by decide +kernel
theorem dX9_movedBits_6 : decode cX9_movedBits 6 = .ok (.getfield 9, 3) := by decide +kernel
theorem dX9_movedBits_9 : decode cX9_movedBits 9 = .ok (.getfield 43, 3) := by decide +kernel
theorem dX9_movedBits_12 : decode cX9_movedBits 12 = .ok (.if_icmp .ge 29, 3) := by decide +kernel
theorem dX9_movedBits_15 : decode cX9_movedBits 15 = .ok (.aload_n 0, 1) := by decide +kernel
theorem dX9_movedBits_16 : decode cX9_movedBits 16 = .ok (.getfield 15, 3) := by decide +kernel
theorem dX9_movedBits_19 : decode cX9_movedBits 19 = .ok (.iload_n 3, 1) := by decide +kernel
theorem dX9_movedBits_20 : decode cX9_movedBits 20 = .ok (.aload_n 1, 1) := by decide +kernel
theorem dX9_movedBits_21 : decode cX9_movedBits 21 = .ok (.iload_n 3, 1) := by decide +kernel
theorem dX9_movedBits_22 : decode cX9_movedBits 22 = .ok (.iaload, 1) := by decide +kernel
theorem dX9_movedBits_23 : decode cX9_movedBits 23 = .ok (.invokevirtual 19, 3) := by decide +kernel
theorem dX9_movedBits_26 : decode cX9_movedBits 26 = .ok (.ifCond .eq 9, 3) := by decide +kernel
theorem dX9_movedBits_29 : decode cX9_movedBits 29 = .ok (.iload_n 2, 1) := by decide +kernel
theorem dX9_movedBits_30 : decode cX9_movedBits 30 = .ok (.iconst 1, 1) := by decide +kernel
theorem dX9_movedBits_31 : decode cX9_movedBits 31 = .ok (.iload_n 3, 1) := by decide +kernel
theorem dX9_movedBits_32 : decode cX9_movedBits 32 = .ok (.ishl, 1) := by decide +kernel
theorem dX9_movedBits_33 : decode cX9_movedBits 33 = .ok (.ior, 1) := by decide +kernel
theorem dX9_movedBits_34 : decode cX9_movedBits 34 = .ok (.istore_n 2, 1) := by decide +kernel
theorem dX9_movedBits_35 : decode cX9_movedBits 35 = .ok (.iinc 3 1, 3) := by decide +kernel
theorem dX9_movedBits_38 : decode cX9_movedBits 38 = .ok (.goto (-34), 3) := by decide +kernel
theorem dX9_movedBits_41 : decode cX9_movedBits 41 = .ok (.iload_n 2, 1) := by decide +kernel
theorem dX9_movedBits_42 : decode cX9_movedBits 42 = .ok (.ireturn, 1) := by decide +kernel
theorem dX9_isAllowed_0 : decode cX9_isAllowed 0 = .ok (.iconst 0, 1) := by decide +kernel
theorem dX9_isAllowed_1 : decode cX9_isAllowed 1 = .ok (.istore_n 2, 1) := by decide +kernel
theorem dX9_isAllowed_2 : decode cX9_isAllowed 2 = .ok (.iload_n 2, 1) := by decide +kernel
theorem dX9_isAllowed_3 : decode cX9_isAllowed 3 = .ok (.aload_n 0, 1) := by decide +kernel
theorem dX9_isAllowed_4 : decode cX9_isAllowed 4 = .ok (.getfield 9, 3) := by decide +kernel
theorem dX9_isAllowed_7 : decode cX9_isAllowed 7 = .ok (.getfield 43, 3) := by decide +kernel
theorem dX9_isAllowed_10 : decode cX9_isAllowed 10 = .ok (.if_icmp .ge 25, 3) := by decide +kernel
theorem dX9_isAllowed_13 : decode cX9_isAllowed 13 = .ok (.aload_n 0, 1) := by decide +kernel
theorem dX9_isAllowed_14 : decode cX9_isAllowed 14 = .ok (.getfield 9, 3) := by decide +kernel
theorem dX9_isAllowed_17 : decode cX9_isAllowed 17 = .ok (.iload_n 2, 1) := by decide +kernel
theorem dX9_isAllowed_18 : decode cX9_isAllowed 18 = .ok (.aload_n 1, 1) := by decide +kernel
theorem dX9_isAllowed_19 : decode cX9_isAllowed 19 = .ok (.iload_n 2, 1) := by decide +kernel
theorem dX9_isAllowed_20 : decode cX9_isAllowed 20 = .ok (.iaload, 1) := by decide +kernel
theorem dX9_isAllowed_21 : decode cX9_isAllowed 21 = .ok (.invokevirtual 64, 3) := by decide +kernel
theorem dX9_isAllowed_24 : decode cX9_isAllowed 24 = .ok (.ifCond .ne 5, 3) := by decide +kernel
theorem dX9_isAllowed_27 : decode cX9_isAllowed 27 = .ok (.iconst 0, 1) := by decide +kernel
theorem dX9_isAllowed_28 : decode cX9_isAllowed 28 = .ok (.ireturn, 1) := by decide +kernel
theorem dX9_isAllowed_29 : decode cX9_isAllowed 29 = .ok (.iinc 2 1, 3) := by decide +kernel
theorem dX9_isAllowed_32 : decode cX9_isAllowed 32 = .ok (.goto (-30), 3) := by decide +kernel
theorem dX9_isAllowed_35 : decode cX9_isAllowed 35 = .ok (.iconst 0, 1) := by decide +kernel
theorem dX9_isAllowed_36 : decode cX9_isAllowed 36 = .ok (.istore_n 2, 1) := by decide +kernel
theorem dX9_isAllowed_37 : decode cX9_isAllowed 37 = .ok (.iload_n 2, 1) := by decide +kernel
theorem dX9_isAllowed_38 : decode cX9_isAllowed 38 = .ok (.iconst 4, 1) := by decide +kernel
theorem dX9_isAllowed_39 : decode cX9_isAllowed 39 = .ok (.if_icmp .ge 29, 3) := by decide +kernel
theorem dX9_isAllowed_42 : decode cX9_isAllowed 42 = .ok (.aload_n 0, 1) := by decide +kernel
theorem dX9_isAllowed_43 : decode cX9_isAllowed 43 = .ok (.iload_n 2, 1) := by decide +kernel
theorem dX9_isAllowed_44 : decode cX9_isAllowed 44 = .ok (.aload_n 1, 1) := by decide +kernel
theorem dX9_isAllowed_45 : decode cX9_isAllowed 45 = .ok (.invokevirtual 70, 3) := by decide +kernel
theorem dX9_isAllowed_48 : decode cX9_isAllowed 48 = .ok (.aload_n 0, 1) := by decide +kernel
theorem dX9_isAllowed_49 : decode cX9_isAllowed 49 = .ok (.getfield 9, 3) := by decide +kernel
theorem dX9_isAllowed_52 : decode cX9_isAllowed 52 = .ok (.getfield 74, 3) := by decide +kernel
theorem dX9_isAllowed_55 : decode cX9_isAllowed 55 = .ok (.iload_n 2, 1) := by decide +kernel
theorem dX9_isAllowed_56 : decode cX9_isAllowed 56 = .ok (.iaload, 1) := by decide +kernel
theorem dX9_isAllowed_57 : decode cX9_isAllowed 57 = .ok (.if_icmp .le 5, 3) := by decide +kernel
theorem dX9_isAllowed_60 : decode cX9_isAllowed 60 = .ok (.iconst 0, 1) := by decide +kernel
theorem dX9_isAllowed_61 : decode cX9_isAllowed 61 = .ok (.ireturn, 1) := by decide +kernel
theorem dX9_isAllowed_62 : decode cX9_isAllowed 62 = .ok (.iinc 2 1, 3) := by decide +kernel
theorem dX9_isAllowed_65 : decode cX9_isAllowed 65 = .ok (.goto (-28), 3) := by decide +kernel
theorem dX9_isAllowed_68 : decode cX9_isAllowed 68 = .ok (.iconst 1, 1) := by decide +kernel
theorem dX9_isAllowed_69 : decode cX9_isAllowed 69 = .ok (.ireturn, 1) := by decide +kernel
theorem dX9_movedOf_0 : decode cX9_movedOf 0 = .ok (.iconst 0, 1) := by decide +kernel
theorem dX9_movedOf_1 : decode cX9_movedOf 1 = .ok (.istore_n 3, 1) := by decide +kernel
theorem dX9_movedOf_2 : decode cX9_movedOf 2 = .ok (.iconst 0, 1) := by decide +kernel
theorem dX9_movedOf_3 : decode cX9_movedOf 3 = .ok (.istore 4, 2) := by decide +kernel
theorem dX9_movedOf_5 : decode cX9_movedOf 5 = .ok (.iload 4, 2) := by decide +kernel
theorem dX9_movedOf_7 : decode cX9_movedOf 7 = .ok (.aload_n 0, 1) := by decide +kernel
theorem dX9_movedOf_8 : decode cX9_movedOf 8 = .ok (.getfield 9, 3) := by decide +kernel
theorem dX9_movedOf_11 : decode cX9_movedOf 11 = .ok (.getfield 43, 3) := by decide +kernel
theorem dX9_movedOf_14 : decode cX9_movedOf 14 = .ok (.if_icmp .ge 42, 3) := by decide +kernel
theorem dX9_movedOf_17 : decode cX9_movedOf 17 = .ok (.aload_n 0, 1) := by decide +kernel
theorem dX9_movedOf_18 : decode cX9_movedOf 18 = .ok (.getfield 9, 3) := by decide +kernel
theorem dX9_movedOf_21 : decode cX9_movedOf 21 = .ok (.getfield 77, 3) := by decide +kernel
theorem dX9_movedOf_24 : decode cX9_movedOf 24 = .ok (.iload 4, 2) := by decide +kernel
theorem dX9_movedOf_26 : decode cX9_movedOf 26 = .ok (.iaload, 1) := by decide +kernel
theorem dX9_movedOf_27 : decode cX9_movedOf 27 = .ok (.iload_n 1, 1) := by decide +kernel
theorem dX9_movedOf_28 : decode cX9_movedOf 28 = .ok (.if_icmp .ne 22, 3) := by decide +kernel
theorem dX9_movedOf_31 : decode cX9_movedOf 31 = .ok (.aload_n 0, 1) := by decide +kernel
theorem dX9_movedOf_32 : decode cX9_movedOf 32 = .ok (.getfield 15, 3) := by decide +kernel
theorem dX9_movedOf_35 : decode cX9_movedOf 35 = .ok (.iload 4, 2) := by decide +kernel
theorem dX9_movedOf_37 : decode cX9_movedOf 37 = .ok (.aload_n 2, 1) := by decide +kernel
theorem dX9_movedOf_38 : decode cX9_movedOf 38 = .ok (.iload 4, 2) := by decide +kernel
theorem dX9_movedOf_40 : decode cX9_movedOf 40 = .ok (.iaload, 1) := by decide +kernel
theorem dX9_movedOf_41 : decode cX9_movedOf 41 = .ok (.invokevirtual 19, 3) := by decide +kernel
theorem dX9_movedOf_44 : decode cX9_movedOf 44 = .ok (.ifCond .eq 6, 3) := by decide +kernel
theorem dX9_movedOf_47 : decode cX9_movedOf 47 = .ok (.iinc 3 1, 3) := by decide +kernel
theorem dX9_movedOf_50 : decode cX9_movedOf 50 = .ok (.iinc 4 1, 3) := by decide +kernel
theorem dX9_movedOf_53 : decode cX9_movedOf 53 = .ok (.goto (-48), 3) := by decide +kernel
theorem dX9_movedOf_56 : decode cX9_movedOf 56 = .ok (.iload_n 3, 1) := by decide +kernel
theorem dX9_movedOf_57 : decode cX9_movedOf 57 = .ok (.ireturn, 1) := by decide +kernel
theorem dX10_init_0 : decode cX10_init 0 = .ok (.aload_n 0, 1) := by decide +kernel
theorem dX10_init_1 : decode cX10_init 1 = .ok (.invokespecial 3, 3) := by decide +kernel
theorem dX10_init_4 : decode cX10_init 4 = .ok (.aload_n 0, 1) := by decide +kernel
theorem dX10_init_5 : decode cX10_init 5 = .ok (.bipush 6, 2) := by decide +kernel
theorem dX10_init_7 : decode cX10_init 7 = .ok (.newarray .int, 2) := by decide +kernel
theorem dX10_init_9 : decode cX10_init 9 = .ok (.putfield 9, 3) := by decide +kernel
theorem dX10_init_12 : decode cX10_init 12 = .ok (.aload_n 0, 1) := by decide +kernel
theorem dX10_init_13 : decode cX10_init 13 = .ok (.iconst 4, 1) := by decide +kernel
theorem dX10_init_14 : decode cX10_init 14 = .ok (.newarray .int, 2) := by decide +kernel
theorem dX10_init_16 : decode cX10_init 16 = .ok (.putfield 15, 3) := by decide +kernel
theorem dX10_init_19 : decode cX10_init 19 = .ok (.aload_n 0, 1) := by decide +kernel
theorem dX10_init_20 : decode cX10_init 20 = .ok (.iconst 0, 1) := by decide +kernel
theorem dX10_init_21 : decode cX10_init 21 = .ok (.putfield 18, 3) := by decide +kernel
theorem dX10_init_24 : decode cX10_init 24 = .ok (.aload_n 0, 1) := by decide +kernel
theorem dX10_init_25 : decode cX10_init 25 = .ok (.iconst 4, 1) := by decide +kernel
theorem dX10_init_26 : decode cX10_init 26 = .ok (.newarray .int, 2) := by decide +kernel
theorem dX10_init_28 : decode cX10_init 28 = .ok (.putfield 22, 3) := by decide +kernel
theorem dX10_init_31 : decode cX10_init 31 = .ok (.aload_n 0, 1) := by decide +kernel
theorem dX10_init_32 : decode cX10_init 32 = .ok (.bipush 6, 2) := by decide +kernel
theorem dX10_init_34 : decode cX10_init 34 = .ok (.newarray .int, 2) := by decide +kernel
theorem dX10_init_36 : decode cX10_init 36 = .ok (.putfield 25, 3) := by decide +kernel
theorem dX10_init_39 : decode cX10_init 39 = .ok (.aload_n 0, 1) := by decide +kernel
theorem dX10_init_40 : decode cX10_init 40 = .ok (.bipush 7, 2) := by decide +kernel
theorem dX10_init_42 : decode cX10_init 42 = .ok (.newarray .int, 2) := by decide +kernel
theorem dX10_init_44 : decode cX10_init 44 = .ok (.putfield 28, 3) := by decide +kernel
theorem dX10_init_47 : decode cX10_init 47 = .ok (.aload_n 0, 1) := by decide +kernel
theorem dX10_init_48 : decode cX10_init 48 = .ok (.aload_n 1, 1) := by decide +kernel
theorem dX10_init_49 : decode cX10_init 49 = .ok (.putfield 31, 3) := by decide +kernel
theorem dX10_init_52 : decode cX10_init 52 = .ok (.aload_n 0, 1) := by decide +kernel
theorem dX10_init_53 : decode cX10_init 53 = .ok (.aload_n 2, 1) := by decide +kernel
theorem dX10_init_54 : decode cX10_init 54 = .ok (.putfield 35, 3) := by decide +kernel
theorem dX10_init_57 : decode cX10_init 57 = .ok (.aload_n 0, 1) := by decide +kernel
theorem dX10_init_58 : decode cX10_init 58 = .ok (.aload_n 3, 1) := by decide +kernel
theorem dX10_init_59 : decode cX10_init 59 = .ok (.putfield 39, 3) := by decide +kernel
theorem dX10_init_62 : decode cX10_init 62 = .ok (.aload_n 0, 1) := by decide +kernel
theorem dX10_init_63 : decode cX10_init 63 = .ok (.aload 4, 2) := by decide +kernel
theorem dX10_init_65 : decode cX10_init 65 = .ok (.putfield 43, 3) := by decide +kernel
theorem dX10_init_68 : decode cX10_init 68 = .ok (.return_, 1) := by decide +kernel
theorem dX10_asNow_0 : decode cX10_asNow 0 = .ok (.aload_n 0, 1) := by decide +kernel
theorem dX10_asNow_1 : decode cX10_asNow 1 = .ok (.getfield 35, 3) := by decide +kernel
theorem dX10_asNow_4 : decode cX10_asNow 4 = .ok (.getfield 47, 3) := by decide +kernel
theorem dX10_asNow_7 : decode cX10_asNow 7 = .ok (.iconst 0, 1) := by decide +kernel
theorem dX10_asNow_8 : decode cX10_asNow 8 = .ok (.aload_n 0, 1) := by decide +kernel
theorem dX10_asNow_9 : decode cX10_asNow 9 = .ok (.getfield 9, 3) := by decide +kernel
theorem dX10_asNow_12 : decode cX10_asNow 12 = .ok (.iconst 0, 1) := by decide +kernel
theorem dX10_asNow_13 : decode cX10_asNow 13 = .ok (.bipush 6, 2) := by decide +kernel
theorem dX10_asNow_15 : decode cX10_asNow 15 = .ok (.invokestatic 50, 3) := by decide +kernel
theorem dX10_asNow_18 : decode cX10_asNow 18 = .ok (.aload_n 0, 1) := by decide +kernel
theorem dX10_asNow_19 : decode cX10_asNow 19 = .ok (.getfield 31, 3) := by decide +kernel
theorem dX10_asNow_22 : decode cX10_asNow 22 = .ok (.getfield 56, 3) := by decide +kernel
theorem dX10_asNow_25 : decode cX10_asNow 25 = .ok (.iconst 0, 1) := by decide +kernel
theorem dX10_asNow_26 : decode cX10_asNow 26 = .ok (.aload_n 0, 1) := by decide +kernel
theorem dX10_asNow_27 : decode cX10_asNow 27 = .ok (.getfield 15, 3) := by decide +kernel
theorem dX10_asNow_30 : decode cX10_asNow 30 = .ok (.iconst 0, 1) := by decide +kernel
theorem dX10_asNow_31 : decode cX10_asNow 31 = .ok (.iconst 4, 1) := by decide +kernel
theorem dX10_asNow_32 : decode cX10_asNow 32 = .ok (.invokestatic 50, 3) := by decide +kernel
theorem dX10_asNow_35 : decode cX10_asNow 35 = .ok (.aload_n 0, 1) := by decide +kernel
theorem dX10_asNow_36 : decode cX10_asNow 36 = .ok (.iconst 1, 1) := by decide +kernel
theorem dX10_asNow_37 : decode cX10_asNow 37 = .ok (.aload_n 0, 1) := by decide +kernel
theorem dX10_asNow_38 : decode cX10_asNow 38 = .ok (.getfield 35, 3) := by decide +kernel
theorem dX10_asNow_41 : decode cX10_asNow 41 = .ok (.getfield 59, 3) := by decide +kernel
theorem dX10_asNow_44 : decode cX10_asNow 44 = .ok (.ishl, 1) := by decide +kernel
theorem dX10_asNow_45 : decode cX10_asNow 45 = .ok (.iconst 1, 1) := by decide +kernel
theorem dX10_asNow_46 : decode cX10_asNow 46 = .ok (.isub, 1) := by decide +kernel
theorem dX10_asNow_47 : decode cX10_asNow 47 = .ok (.putfield 18, 3) := by decide +kernel
theorem dX10_asNow_50 : decode cX10_asNow 50 = .ok (.return_, 1) := by decide +kernel
theorem dX10_leaveOut_0 : decode cX10_leaveOut 0 = .ok (.aload_n 0, 1) := by decide +kernel
theorem dX10_leaveOut_1 : decode cX10_leaveOut 1 = .ok (.dup, 1) := by decide +kernel
theorem dX10_leaveOut_2 : decode cX10_leaveOut 2 = .ok (.getfield 18, 3) := by decide +kernel
theorem dX10_leaveOut_5 : decode cX10_leaveOut 5 = .ok (.iconst 1, 1) := by decide +kernel
theorem dX10_leaveOut_6 : decode cX10_leaveOut 6 = .ok (.iload_n 1, 1) := by decide +kernel
theorem dX10_leaveOut_7 : decode cX10_leaveOut 7 = .ok (.ishl, 1) := by decide +kernel
theorem dX10_leaveOut_8 : decode cX10_leaveOut 8 = .ok (.iconst (-1), 1) := by decide +kernel
theorem dX10_leaveOut_9 : decode cX10_leaveOut 9 = .ok (.ixor, 1) := by decide +kernel
theorem dX10_leaveOut_10 : decode cX10_leaveOut 10 = .ok (.iand, 1) := by decide +kernel
theorem dX10_leaveOut_11 : decode cX10_leaveOut 11 = .ok (.putfield 18, 3) := by decide +kernel
theorem dX10_leaveOut_14 : decode cX10_leaveOut 14 = .ok (.return_, 1) := by decide +kernel
theorem dX10_hold_0 : decode cX10_hold 0 = .ok (.aload_n 0, 1) := by decide +kernel
theorem dX10_hold_1 : decode cX10_hold 1 = .ok (.getfield 15, 3) := by decide +kernel
theorem dX10_hold_4 : decode cX10_hold 4 = .ok (.iload_n 1, 1) := by decide +kernel
theorem dX10_hold_5 : decode cX10_hold 5 = .ok (.iconst 0, 1) := by decide +kernel
theorem dX10_hold_6 : decode cX10_hold 6 = .ok (.iastore, 1) := by decide +kernel
theorem dX10_hold_7 : decode cX10_hold 7 = .ok (.return_, 1) := by decide +kernel
theorem dX10_turnBack_0 : decode cX10_turnBack 0 = .ok (.aload_n 0, 1) := by decide +kernel
theorem dX10_turnBack_1 : decode cX10_turnBack 1 = .ok (.getfield 9, 3) := by decide +kernel
theorem dX10_turnBack_4 : decode cX10_turnBack 4 = .ok (.iload_n 1, 1) := by decide +kernel
theorem dX10_turnBack_5 : decode cX10_turnBack 5 = .ok (.aload_n 0, 1) := by decide +kernel
theorem dX10_turnBack_6 : decode cX10_turnBack 6 = .ok (.getfield 39, 3) := by decide +kernel
theorem dX10_turnBack_9 : decode cX10_turnBack 9 = .ok (.iload_n 1, 1) := by decide +kernel
theorem dX10_turnBack_10 : decode cX10_turnBack 10 = .ok (.invokevirtual 62, 3) := by decide +kernel
theorem dX10_turnBack_13 : decode cX10_turnBack 13 = .ok (.iastore, 1) := by decide +kernel
theorem dX10_turnBack_14 : decode cX10_turnBack 14 = .ok (.return_, 1) := by decide +kernel
theorem dX10_seek_0 : decode cX10_seek 0 = .ok (.aload_n 0, 1) := by decide +kernel
theorem dX10_seek_1 : decode cX10_seek 1 = .ok (.getfield 28, 3) := by decide +kernel
theorem dX10_seek_4 : decode cX10_seek 4 = .ok (.aload_n 0, 1) := by decide +kernel
theorem dX10_seek_5 : decode cX10_seek 5 = .ok (.getfield 31, 3) := by decide +kernel
theorem dX10_seek_8 : decode cX10_seek 8 = .ok (.getfield 68, 3) := by decide +kernel
theorem dX10_seek_11 : decode cX10_seek 11 = .ok (.iconst 0, 1) := by decide +kernel
theorem dX10_seek_12 : decode cX10_seek 12 = .ok (.iastore, 1) := by decide +kernel
theorem dX10_seek_13 : decode cX10_seek 13 = .ok (.aload_n 0, 1) := by decide +kernel
theorem dX10_seek_14 : decode cX10_seek 14 = .ok (.getfield 31, 3) := by decide +kernel
theorem dX10_seek_17 : decode cX10_seek 17 = .ok (.getfield 68, 3) := by decide +kernel
theorem dX10_seek_20 : decode cX10_seek 20 = .ok (.iconst 1, 1) := by decide +kernel
theorem dX10_seek_21 : decode cX10_seek 21 = .ok (.isub, 1) := by decide +kernel
theorem dX10_seek_22 : decode cX10_seek 22 = .ok (.istore_n 2, 1) := by decide +kernel
theorem dX10_seek_23 : decode cX10_seek 23 = .ok (.iload_n 2, 1) := by decide +kernel
theorem dX10_seek_24 : decode cX10_seek 24 = .ok (.ifCond .lt 32, 3) := by decide +kernel
theorem dX10_seek_27 : decode cX10_seek 27 = .ok (.aload_n 0, 1) := by decide +kernel
theorem dX10_seek_28 : decode cX10_seek 28 = .ok (.getfield 28, 3) := by decide +kernel
theorem dX10_seek_31 : decode cX10_seek 31 = .ok (.iload_n 2, 1) := by decide +kernel
theorem dX10_seek_32 : decode cX10_seek 32 = .ok (.aload_n 0, 1) := by decide +kernel
theorem dX10_seek_33 : decode cX10_seek 33 = .ok (.getfield 28, 3) := by decide +kernel
theorem dX10_seek_36 : decode cX10_seek 36 = .ok (.iload_n 2, 1) := by decide +kernel
theorem dX10_seek_37 : decode cX10_seek 37 = .ok (.iconst 1, 1) := by decide +kernel
theorem dX10_seek_38 : decode cX10_seek 38 = .ok (.iadd, 1) := by decide +kernel
theorem dX10_seek_39 : decode cX10_seek 39 = .ok (.iaload, 1) := by decide +kernel
theorem dX10_seek_40 : decode cX10_seek 40 = .ok (.aload_n 0, 1) := by decide +kernel
theorem dX10_seek_41 : decode cX10_seek 41 = .ok (.getfield 43, 3) := by decide +kernel
theorem dX10_seek_44 : decode cX10_seek 44 = .ok (.iload_n 2, 1) := by decide +kernel
theorem dX10_seek_45 : decode cX10_seek 45 = .ok (.invokevirtual 69, 3) := by decide +kernel
theorem dX10_seek_48 : decode cX10_seek 48 = .ok (.iadd, 1) := by decide +kernel
theorem dX10_seek_49 : decode cX10_seek 49 = .ok (.iastore, 1) := by decide +kernel
theorem dX10_seek_50 : decode cX10_seek 50 = .ok (.iinc 2 (-1), 3) := by decide +kernel
theorem dX10_seek_53 : decode cX10_seek 53 = .ok (.goto (-30), 3) := by decide +kernel
theorem dX10_seek_56 : decode cX10_seek 56 = .ok (.iconst 0, 1) := by decide +kernel
theorem dX10_seek_57 : decode cX10_seek 57 = .ok (.istore_n 2, 1) := by decide +kernel
theorem dX10_seek_58 : decode cX10_seek 58 = .ok (.iload_n 2, 1) := by decide +kernel
theorem dX10_seek_59 : decode cX10_seek 59 = .ok (.iconst 4, 1) := by decide +kernel
theorem dX10_seek_60 : decode cX10_seek 60 = .ok (.if_icmp .ge 16, 3) := by decide +kernel
theorem dX10_seek_63 : decode cX10_seek 63 = .ok (.aload_n 0, 1) := by decide +kernel
theorem dX10_seek_64 : decode cX10_seek 64 = .ok (.getfield 22, 3) := by decide +kernel
theorem dX10_seek_67 : decode cX10_seek 67 = .ok (.iload_n 2, 1) := by decide +kernel
theorem dX10_seek_68 : decode cX10_seek 68 = .ok (.iconst 0, 1) := by decide +kernel
theorem dX10_seek_69 : decode cX10_seek 69 = .ok (.iastore, 1) := by decide +kernel
theorem dX10_seek_70 : decode cX10_seek 70 = .ok (.iinc 2 1, 3) := by decide +kernel
theorem dX10_seek_73 : decode cX10_seek 73 = .ok (.goto (-15), 3) := by decide +kernel
theorem dX10_seek_76 : decode cX10_seek 76 = .ok (.aload_n 0, 1) := by decide +kernel
theorem dX10_seek_77 : decode cX10_seek 77 = .ok (.aload_n 1, 1) := by decide +kernel
theorem dX10_seek_78 : decode cX10_seek 78 = .ok (.iconst 0, 1) := by decide +kernel
theorem dX10_seek_79 : decode cX10_seek 79 = .ok (.iconst 0, 1) := by decide +kernel
theorem dX10_seek_80 : decode cX10_seek 80 = .ok (.iconst 0, 1) := by decide +kernel
theorem dX10_seek_81 : decode cX10_seek 81 = .ok (.aload_n 0, 1) := by decide +kernel
theorem dX10_seek_82 : decode cX10_seek 82 = .ok (.getfield 35, 3) := by decide +kernel
theorem dX10_seek_85 : decode cX10_seek 85 = .ok (.aload_n 0, 1) := by decide +kernel
theorem dX10_seek_86 : decode cX10_seek 86 = .ok (.getfield 9, 3) := by decide +kernel
theorem dX10_seek_89 : decode cX10_seek 89 = .ok (.invokevirtual 74, 3) := by decide +kernel
theorem dX10_seek_92 : decode cX10_seek 92 = .ok (.aload_n 0, 1) := by decide +kernel
theorem dX10_seek_93 : decode cX10_seek 93 = .ok (.getfield 18, 3) := by decide +kernel
theorem dX10_seek_96 : decode cX10_seek 96 = .ok (.iand, 1) := by decide +kernel
theorem dX10_seek_97 : decode cX10_seek 97 = .ok (.invokevirtual 78, 3) := by decide +kernel
theorem dX10_seek_100 : decode cX10_seek 100 = .ok (.return_, 1) := by decide +kernel
theorem dX10_choose_0 : decode cX10_choose 0 = .ok (.iload_n 2, 1) := by decide +kernel
theorem dX10_choose_1 : decode cX10_choose 1 = .ok (.aload_n 0, 1) := by decide +kernel
theorem dX10_choose_2 : decode cX10_choose 2 = .ok (.getfield 31, 3) := by decide +kernel
theorem dX10_choose_5 : decode cX10_choose 5 = .ok (.getfield 68, 3) := by decide +kernel
theorem dX10_choose_8 : decode cX10_choose 8 = .ok (.if_icmp .le 4, 3) := by decide +kernel
theorem dX10_choose_11 : decode cX10_choose 11 = .ok (.return_, 1) := by decide +kernel
theorem dX10_choose_12 : decode cX10_choose 12 = .ok (.aload_n 1, 1) := by decide +kernel
theorem dX10_choose_13 : decode cX10_choose 13 = .ok (.iload_n 3, 1) := by decide +kernel
theorem dX10_choose_14 : decode cX10_choose 14 = .ok (.iload 4, 2) := by decide +kernel
theorem dX10_choose_16 : decode cX10_choose 16 = .ok (.aload_n 0, 1) := by decide +kernel
theorem dX10_choose_17 : decode cX10_choose 17 = .ok (.getfield 28, 3) := by decide +kernel
theorem dX10_choose_20 : decode cX10_choose 20 = .ok (.iload_n 2, 1) := by decide +kernel
theorem dX10_choose_21 : decode cX10_choose 21 = .ok (.iaload, 1) := by decide +kernel
theorem dX10_choose_22 : decode cX10_choose 22 = .ok (.iadd, 1) := by decide +kernel
theorem dX10_choose_23 : decode cX10_choose 23 = .ok (.iload 5, 2) := by decide +kernel
theorem dX10_choose_25 : decode cX10_choose 25 = .ok (.invokevirtual 82, 3) := by decide +kernel
theorem dX10_choose_28 : decode cX10_choose 28 = .ok (.ifCond .eq 4, 3) := by decide +kernel
theorem dX10_choose_31 : decode cX10_choose 31 = .ok (.return_, 1) := by decide +kernel
theorem dX10_choose_32 : decode cX10_choose 32 = .ok (.iload_n 2, 1) := by decide +kernel
theorem dX10_choose_33 : decode cX10_choose 33 = .ok (.aload_n 0, 1) := by decide +kernel
theorem dX10_choose_34 : decode cX10_choose 34 = .ok (.getfield 31, 3) := by decide +kernel
theorem dX10_choose_37 : decode cX10_choose 37 = .ok (.getfield 68, 3) := by decide +kernel
theorem dX10_choose_40 : decode cX10_choose 40 = .ok (.if_icmp .ne 17, 3) := by decide +kernel
theorem dX10_choose_43 : decode cX10_choose 43 = .ok (.aload_n 1, 1) := by decide +kernel
theorem dX10_choose_44 : decode cX10_choose 44 = .ok (.aload_n 0, 1) := by decide +kernel
theorem dX10_choose_45 : decode cX10_choose 45 = .ok (.getfield 25, 3) := by decide +kernel
theorem dX10_choose_48 : decode cX10_choose 48 = .ok (.iload_n 3, 1) := by decide +kernel
theorem dX10_choose_49 : decode cX10_choose 49 = .ok (.iload 4, 2) := by decide +kernel
theorem dX10_choose_51 : decode cX10_choose 51 = .ok (.iload 5, 2) := by decide +kernel
theorem dX10_choose_53 : decode cX10_choose 53 = .ok (.invokevirtual 88, 3) := by decide +kernel
theorem dX10_choose_56 : decode cX10_choose 56 = .ok (.return_, 1) := by decide +kernel
theorem dX10_choose_57 : decode cX10_choose 57 = .ok (.aload_n 0, 1) := by decide +kernel
theorem dX10_choose_58 : decode cX10_choose 58 = .ok (.getfield 31, 3) := by decide +kernel
theorem dX10_choose_61 : decode cX10_choose 61 = .ok (.getfield 92, 3) := by decide +kernel
theorem dX10_choose_64 : decode cX10_choose 64 = .ok (.iload_n 2, 1) := by decide +kernel
theorem dX10_choose_65 : decode cX10_choose 65 = .ok (.iaload, 1) := by decide +kernel
theorem dX10_choose_66 : decode cX10_choose 66 = .ok (.istore 6, 2) := by decide +kernel
theorem dX10_choose_68 : decode cX10_choose 68 = .ok (.aload_n 0, 1) := by decide +kernel
theorem dX10_choose_69 : decode cX10_choose 69 = .ok (.getfield 31, 3) := by decide +kernel
theorem dX10_choose_72 : decode cX10_choose 72 = .ok (.getfield 95, 3) := by decide +kernel
theorem dX10_choose_75 : decode cX10_choose 75 = .ok (.iload_n 2, 1) := by decide +kernel
theorem dX10_choose_76 : decode cX10_choose 76 = .ok (.iaload, 1) := by decide +kernel
theorem dX10_choose_77 : decode cX10_choose 77 = .ok (.istore 7, 2) := by decide +kernel
theorem dX10_choose_79 : decode cX10_choose 79 = .ok (.iload 7, 2) := by decide +kernel
theorem dX10_choose_81 : decode cX10_choose 81 = .ok (.aload_n 0, 1) := by decide +kernel
theorem dX10_choose_82 : decode cX10_choose 82 = .ok (.getfield 31, 3) := by decide +kernel
theorem dX10_choose_85 : decode cX10_choose 85 = .ok (.getfield 98, 3) := by decide +kernel
theorem dX10_choose_88 : decode cX10_choose 88 = .ok (.iload_n 2, 1) := by decide +kernel
theorem dX10_choose_89 : decode cX10_choose 89 = .ok (.iaload, 1) := by decide +kernel
theorem dX10_choose_90 : decode cX10_choose 90 = .ok (.if_icmp .gt 158, 3) := by decide +kernel
theorem dX10_choose_93 : decode cX10_choose 93 = .ok (.aload_n 0, 1) := by decide +kernel
theorem dX10_choose_94 : decode cX10_choose 94 = .ok (.getfield 39, 3) := by decide +kernel
theorem dX10_choose_97 : decode cX10_choose 97 = .ok (.iload_n 2, 1) := by decide +kernel
theorem dX10_choose_98 : decode cX10_choose 98 = .ok (.iload 7, 2) := by decide +kernel
theorem dX10_choose_100 : decode cX10_choose 100 = .ok (.invokevirtual 101, 3) := by decide +kernel
theorem dX10_choose_103 : decode cX10_choose 103 = .ok (.ifCond .eq 7, 3) := by decide +kernel
theorem dX10_choose_106 : decode cX10_choose 106 = .ok (.iconst 1, 1) := by decide +kernel
theorem dX10_choose_107 : decode cX10_choose 107 = .ok (.goto 4, 3) := by decide +kernel
theorem dX10_choose_110 : decode cX10_choose 110 = .ok (.iconst 0, 1) := by decide +kernel
theorem dX10_choose_111 : decode cX10_choose 111 = .ok (.istore 8, 2) := by decide +kernel
theorem dX10_choose_113 : decode cX10_choose 113 = .ok (.aload_n 0, 1) := by decide +kernel
theorem dX10_choose_114 : decode cX10_choose 114 = .ok (.getfield 31, 3) := by decide +kernel
theorem dX10_choose_117 : decode cX10_choose 117 = .ok (.iload_n 2, 1) := by decide +kernel
theorem dX10_choose_118 : decode cX10_choose 118 = .ok (.iload 7, 2) := by decide +kernel
theorem dX10_choose_120 : decode cX10_choose 120 = .ok (.invokevirtual 105, 3) := by decide +kernel
theorem dX10_choose_123 : decode cX10_choose 123 = .ok (.ifCond .eq 119, 3) := by decide +kernel
theorem dX10_choose_126 : decode cX10_choose 126 = .ok (.aload_n 0, 1) := by decide +kernel
theorem dX10_choose_127 : decode cX10_choose 127 = .ok (.getfield 22, 3) := by decide +kernel
theorem dX10_choose_130 : decode cX10_choose 130 = .ok (.iload 6, 2) := by decide +kernel
theorem dX10_choose_132 : decode cX10_choose 132 = .ok (.iaload, 1) := by decide +kernel
theorem dX10_choose_133 : decode cX10_choose 133 = .ok (.iload 8, 2) := by decide +kernel
theorem dX10_choose_135 : decode cX10_choose 135 = .ok (.iadd, 1) := by decide +kernel
theorem dX10_choose_136 : decode cX10_choose 136 = .ok (.aload_n 0, 1) := by decide +kernel
theorem dX10_choose_137 : decode cX10_choose 137 = .ok (.getfield 15, 3) := by decide +kernel
theorem dX10_choose_140 : decode cX10_choose 140 = .ok (.iload 6, 2) := by decide +kernel
theorem dX10_choose_142 : decode cX10_choose 142 = .ok (.iaload, 1) := by decide +kernel
theorem dX10_choose_143 : decode cX10_choose 143 = .ok (.if_icmp .le 6, 3) := by decide +kernel
theorem dX10_choose_146 : decode cX10_choose 146 = .ok (.goto 96, 3) := by decide +kernel
theorem dX10_choose_149 : decode cX10_choose 149 = .ok (.aload_n 0, 1) := by decide +kernel
theorem dX10_choose_150 : decode cX10_choose 150 = .ok (.getfield 25, 3) := by decide +kernel
theorem dX10_choose_153 : decode cX10_choose 153 = .ok (.iload_n 2, 1) := by decide +kernel
theorem dX10_choose_154 : decode cX10_choose 154 = .ok (.iload 7, 2) := by decide +kernel
theorem dX10_choose_156 : decode cX10_choose 156 = .ok (.iastore, 1) := by decide +kernel
theorem dX10_choose_157 : decode cX10_choose 157 = .ok (.aload_n 0, 1) := by decide +kernel
theorem dX10_choose_158 : decode cX10_choose 158 = .ok (.getfield 22, 3) := by decide +kernel
theorem dX10_choose_161 : decode cX10_choose 161 = .ok (.iload 6, 2) := by decide +kernel
theorem dX10_choose_163 : decode cX10_choose 163 = .ok (.dup2, 1) := by decide +kernel
theorem dX10_choose_164 : decode cX10_choose 164 = .ok (.iaload, 1) := by decide +kernel
theorem dX10_choose_165 : decode cX10_choose 165 = .ok (.iload 8, 2) := by decide +kernel
theorem dX10_choose_167 : decode cX10_choose 167 = .ok (.iadd, 1) := by decide +kernel
theorem dX10_choose_168 : decode cX10_choose 168 = .ok (.iastore, 1) := by decide +kernel
theorem dX10_choose_169 : decode cX10_choose 169 = .ok (.aload_n 0, 1) := by decide +kernel
theorem dX10_choose_170 : decode cX10_choose 170 = .ok (.getfield 35, 3) := by decide +kernel
theorem dX10_choose_173 : decode cX10_choose 173 = .ok (.aload_n 0, 1) := by decide +kernel
theorem dX10_choose_174 : decode cX10_choose 174 = .ok (.getfield 25, 3) := by decide +kernel
theorem dX10_choose_177 : decode cX10_choose 177 = .ok (.iload_n 2, 1) := by decide +kernel
theorem dX10_choose_178 : decode cX10_choose 178 = .ok (.aload_n 0, 1) := by decide +kernel
theorem dX10_choose_179 : decode cX10_choose 179 = .ok (.getfield 9, 3) := by decide +kernel
theorem dX10_choose_182 : decode cX10_choose 182 = .ok (.invokevirtual 108, 3) := by decide +kernel
theorem dX10_choose_185 : decode cX10_choose 185 = .ok (.aload_n 0, 1) := by decide +kernel
theorem dX10_choose_186 : decode cX10_choose 186 = .ok (.getfield 18, 3) := by decide +kernel
theorem dX10_choose_189 : decode cX10_choose 189 = .ok (.iand, 1) := by decide +kernel
theorem dX10_choose_190 : decode cX10_choose 190 = .ok (.istore 9, 2) := by decide +kernel
theorem dX10_choose_192 : decode cX10_choose 192 = .ok (.aload_n 0, 1) := by decide +kernel
theorem dX10_choose_193 : decode cX10_choose 193 = .ok (.aload_n 1, 1) := by decide +kernel
theorem dX10_choose_194 : decode cX10_choose 194 = .ok (.iload_n 2, 1) := by decide +kernel
theorem dX10_choose_195 : decode cX10_choose 195 = .ok (.iconst 1, 1) := by decide +kernel
theorem dX10_choose_196 : decode cX10_choose 196 = .ok (.iadd, 1) := by decide +kernel
theorem dX10_choose_197 : decode cX10_choose 197 = .ok (.iload_n 3, 1) := by decide +kernel
theorem dX10_choose_198 : decode cX10_choose 198 = .ok (.aload_n 0, 1) := by decide +kernel
theorem dX10_choose_199 : decode cX10_choose 199 = .ok (.getfield 43, 3) := by decide +kernel
theorem dX10_choose_202 : decode cX10_choose 202 = .ok (.iload_n 2, 1) := by decide +kernel
theorem dX10_choose_203 : decode cX10_choose 203 = .ok (.iload 7, 2) := by decide +kernel
theorem dX10_choose_205 : decode cX10_choose 205 = .ok (.invokevirtual 112, 3) := by decide +kernel
theorem dX10_choose_208 : decode cX10_choose 208 = .ok (.iadd, 1) := by decide +kernel
theorem dX10_choose_209 : decode cX10_choose 209 = .ok (.iload 4, 2) := by decide +kernel
theorem dX10_choose_211 : decode cX10_choose 211 = .ok (.aload_n 0, 1) := by decide +kernel
theorem dX10_choose_212 : decode cX10_choose 212 = .ok (.getfield 43, 3) := by decide +kernel
theorem dX10_choose_215 : decode cX10_choose 215 = .ok (.iload_n 2, 1) := by decide +kernel
theorem dX10_choose_216 : decode cX10_choose 216 = .ok (.iload 7, 2) := by decide +kernel
theorem dX10_choose_218 : decode cX10_choose 218 = .ok (.invokevirtual 116, 3) := by decide +kernel
theorem dX10_choose_221 : decode cX10_choose 221 = .ok (.iadd, 1) := by decide +kernel
theorem dX10_choose_222 : decode cX10_choose 222 = .ok (.iload 5, 2) := by decide +kernel
theorem dX10_choose_224 : decode cX10_choose 224 = .ok (.iload 9, 2) := by decide +kernel
theorem dX10_choose_226 : decode cX10_choose 226 = .ok (.ior, 1) := by decide +kernel
theorem dX10_choose_227 : decode cX10_choose 227 = .ok (.invokevirtual 78, 3) := by decide +kernel
theorem dX10_choose_230 : decode cX10_choose 230 = .ok (.aload_n 0, 1) := by decide +kernel
end
section
theorem dX10_choose_231 : decode cX10_choose 231 = .ok (.getfield 22, 3) := by decide +kernel
theorem dX10_choose_234 : decode cX10_choose 234 = .ok (.iload 6, 2) := by decide +kernel
theorem dX10_choose_236 : decode cX10_choose 236 = .ok (.dup2, 1) := by decide +kernel
theorem dX10_choose_237 : decode cX10_choose 237 = .ok (.iaload, 1) := by decide +kernel
theorem dX10_choose_238 : decode cX10_choose 238 = .ok (.iload 8, 2) := by decide +kernel
theorem dX10_choose_240 : decode cX10_choose 240 = .ok (.isub, 1) := by decide +kernel
theorem dX10_choose_241 : decode cX10_choose 241 = .ok (.iastore, 1) := by decide +kernel
theorem dX10_choose_242 : decode cX10_choose 242 = .ok (.iinc 7 1, 3) := by decide +kernel
theorem dX10_choose_245 : decode cX10_choose 245 = .ok (.goto (-166), 3) := by decide +kernel
theorem dX10_choose_248 : decode cX10_choose 248 = .ok (.return_, 1) := by decide +kernel
theorem dX11_init_0 : decode cX11_init 0 = .ok (.aload_n 0, 1) := by decide +kernel
theorem dX11_init_1 : decode cX11_init 1 = .ok (.invokespecial 3, 3) := by decide +kernel
theorem dX11_init_4 : decode cX11_init 4 = .ok (.aload_n 0, 1) := by decide +kernel
theorem dX11_init_5 : decode cX11_init 5 = .ok (.new 9, 3) := by decide +kernel
theorem dX11_init_8 : decode cX11_init 8 = .ok (.dup, 1) := by decide +kernel
theorem dX11_init_9 : decode cX11_init 9 = .ok (.invokespecial 11, 3) := by decide +kernel
theorem dX11_init_12 : decode cX11_init 12 = .ok (.putfield 12, 3) := by decide +kernel
theorem dX11_init_15 : decode cX11_init 15 = .ok (.aload_n 0, 1) := by decide +kernel
theorem dX11_init_16 : decode cX11_init 16 = .ok (.new 16, 3) := by decide +kernel
theorem dX11_init_19 : decode cX11_init 19 = .ok (.dup, 1) := by decide +kernel
theorem dX11_init_20 : decode cX11_init 20 = .ok (.invokespecial 18, 3) := by decide +kernel
theorem dX11_init_23 : decode cX11_init 23 = .ok (.putfield 19, 3) := by decide +kernel
theorem dX11_init_26 : decode cX11_init 26 = .ok (.aload_n 0, 1) := by decide +kernel
theorem dX11_init_27 : decode cX11_init 27 = .ok (.new 23, 3) := by decide +kernel
theorem dX11_init_30 : decode cX11_init 30 = .ok (.dup, 1) := by decide +kernel
theorem dX11_init_31 : decode cX11_init 31 = .ok (.invokespecial 25, 3) := by decide +kernel
theorem dX11_init_34 : decode cX11_init 34 = .ok (.putfield 26, 3) := by decide +kernel
theorem dX11_init_37 : decode cX11_init 37 = .ok (.aload_n 0, 1) := by decide +kernel
theorem dX11_init_38 : decode cX11_init 38 = .ok (.new 30, 3) := by decide +kernel
theorem dX11_init_41 : decode cX11_init 41 = .ok (.dup, 1) := by decide +kernel
theorem dX11_init_42 : decode cX11_init 42 = .ok (.invokespecial 32, 3) := by decide +kernel
theorem dX11_init_45 : decode cX11_init 45 = .ok (.putfield 33, 3) := by decide +kernel
theorem dX11_init_48 : decode cX11_init 48 = .ok (.aload_n 0, 1) := by decide +kernel
theorem dX11_init_49 : decode cX11_init 49 = .ok (.new 37, 3) := by decide +kernel
theorem dX11_init_52 : decode cX11_init 52 = .ok (.dup, 1) := by decide +kernel
theorem dX11_init_53 : decode cX11_init 53 = .ok (.aload_n 0, 1) := by decide +kernel
theorem dX11_init_54 : decode cX11_init 54 = .ok (.getfield 12, 3) := by decide +kernel
theorem dX11_init_57 : decode cX11_init 57 = .ok (.aload_n 0, 1) := by decide +kernel
theorem dX11_init_58 : decode cX11_init 58 = .ok (.getfield 26, 3) := by decide +kernel
theorem dX11_init_61 : decode cX11_init 61 = .ok (.invokespecial 39, 3) := by decide +kernel
theorem dX11_init_64 : decode cX11_init 64 = .ok (.putfield 42, 3) := by decide +kernel
theorem dX11_init_67 : decode cX11_init 67 = .ok (.aload_n 0, 1) := by decide +kernel
theorem dX11_init_68 : decode cX11_init 68 = .ok (.new 46, 3) := by decide +kernel
theorem dX11_init_71 : decode cX11_init 71 = .ok (.dup, 1) := by decide +kernel
theorem dX11_init_72 : decode cX11_init 72 = .ok (.aload_n 0, 1) := by decide +kernel
theorem dX11_init_73 : decode cX11_init 73 = .ok (.getfield 12, 3) := by decide +kernel
theorem dX11_init_76 : decode cX11_init 76 = .ok (.aload_n 0, 1) := by decide +kernel
theorem dX11_init_77 : decode cX11_init 77 = .ok (.getfield 19, 3) := by decide +kernel
theorem dX11_init_80 : decode cX11_init 80 = .ok (.aload_n 0, 1) := by decide +kernel
theorem dX11_init_81 : decode cX11_init 81 = .ok (.getfield 26, 3) := by decide +kernel
theorem dX11_init_84 : decode cX11_init 84 = .ok (.aload_n 0, 1) := by decide +kernel
theorem dX11_init_85 : decode cX11_init 85 = .ok (.getfield 42, 3) := by decide +kernel
theorem dX11_init_88 : decode cX11_init 88 = .ok (.invokespecial 48, 3) := by decide +kernel
theorem dX11_init_91 : decode cX11_init 91 = .ok (.putfield 51, 3) := by decide +kernel
theorem dX11_init_94 : decode cX11_init 94 = .ok (.aload_n 0, 1) := by decide +kernel
theorem dX11_init_95 : decode cX11_init 95 = .ok (.new 55, 3) := by decide +kernel
theorem dX11_init_98 : decode cX11_init 98 = .ok (.dup, 1) := by decide +kernel
theorem dX11_init_99 : decode cX11_init 99 = .ok (.invokespecial 57, 3) := by decide +kernel
theorem dX11_init_102 : decode cX11_init 102 = .ok (.putfield 58, 3) := by decide +kernel
theorem dX11_init_105 : decode cX11_init 105 = .ok (.aload_n 0, 1) := by decide +kernel
theorem dX11_init_106 : decode cX11_init 106 = .ok (.new 62, 3) := by decide +kernel
theorem dX11_init_109 : decode cX11_init 109 = .ok (.dup, 1) := by decide +kernel
theorem dX11_init_110 : decode cX11_init 110 = .ok (.invokespecial 64, 3) := by decide +kernel
theorem dX11_init_113 : decode cX11_init 113 = .ok (.putfield 65, 3) := by decide +kernel
theorem dX11_init_116 : decode cX11_init 116 = .ok (.aload_n 0, 1) := by decide +kernel
theorem dX11_init_117 : decode cX11_init 117 = .ok (.new 69, 3) := by decide +kernel
theorem dX11_init_120 : decode cX11_init 120 = .ok (.dup, 1) := by decide +kernel
theorem dX11_init_121 : decode cX11_init 121 = .ok (.invokespecial 71, 3) := by decide +kernel
theorem dX11_init_124 : decode cX11_init 124 = .ok (.putfield 72, 3) := by decide +kernel
theorem dX11_init_127 : decode cX11_init 127 = .ok (.aload_n 0, 1) := by decide +kernel
theorem dX11_init_128 : decode cX11_init 128 = .ok (.new 76, 3) := by decide +kernel
theorem dX11_init_131 : decode cX11_init 131 = .ok (.dup, 1) := by decide +kernel
theorem dX11_init_132 : decode cX11_init 132 = .ok (.aload_n 0, 1) := by decide +kernel
theorem dX11_init_133 : decode cX11_init 133 = .ok (.getfield 12, 3) := by decide +kernel
theorem dX11_init_136 : decode cX11_init 136 = .ok (.aload_n 0, 1) := by decide +kernel
theorem dX11_init_137 : decode cX11_init 137 = .ok (.getfield 19, 3) := by decide +kernel
theorem dX11_init_140 : decode cX11_init 140 = .ok (.aload_n 0, 1) := by decide +kernel
theorem dX11_init_141 : decode cX11_init 141 = .ok (.getfield 26, 3) := by decide +kernel
theorem dX11_init_144 : decode cX11_init 144 = .ok (.invokespecial 78, 3) := by decide +kernel
theorem dX11_init_147 : decode cX11_init 147 = .ok (.putfield 81, 3) := by decide +kernel
theorem dX11_init_150 : decode cX11_init 150 = .ok (.aload_n 0, 1) := by decide +kernel
theorem dX11_init_151 : decode cX11_init 151 = .ok (.bipush 6, 2) := by decide +kernel
theorem dX11_init_153 : decode cX11_init 153 = .ok (.newarray .int, 2) := by decide +kernel
theorem dX11_init_155 : decode cX11_init 155 = .ok (.putfield 85, 3) := by decide +kernel
theorem dX11_init_158 : decode cX11_init 158 = .ok (.aload_n 0, 1) := by decide +kernel
theorem dX11_init_159 : decode cX11_init 159 = .ok (.iconst 0, 1) := by decide +kernel
theorem dX11_init_160 : decode cX11_init 160 = .ok (.putfield 89, 3) := by decide +kernel
theorem dX11_init_163 : decode cX11_init 163 = .ok (.return_, 1) := by decide +kernel
theorem dX11_decision_0 : decode cX11_decision 0 = .ok (.iload_n 1, 1) := by decide +kernel
theorem dX11_decision_1 : decode cX11_decision 1 = .ok (.iconst 0, 1) := by decide +kernel
theorem dX11_decision_2 : decode cX11_decision 2 = .ok (.iconst 5, 1) := by decide +kernel
theorem dX11_decision_3 : decode cX11_decision 3 = .ok (.invokestatic 93, 3) := by decide +kernel
theorem dX11_decision_6 : decode cX11_decision 6 = .ok (.ifCond .eq 12, 3) := by decide +kernel
theorem dX11_decision_9 : decode cX11_decision 9 = .ok (.iload_n 2, 1) := by decide +kernel
theorem dX11_decision_10 : decode cX11_decision 10 = .ok (.iconst 0, 1) := by decide +kernel
theorem dX11_decision_11 : decode cX11_decision 11 = .ok (.iconst 5, 1) := by decide +kernel
theorem dX11_decision_12 : decode cX11_decision 12 = .ok (.invokestatic 93, 3) := by decide +kernel
theorem dX11_decision_15 : decode cX11_decision 15 = .ok (.ifCond .ne 6, 3) := by decide +kernel
theorem dX11_decision_18 : decode cX11_decision 18 = .ok (.bipush (-2), 2) := by decide +kernel
theorem dX11_decision_20 : decode cX11_decision 20 = .ok (.ireturn, 1) := by decide +kernel
theorem dX11_decision_21 : decode cX11_decision 21 = .ok (.iload_n 1, 1) := by decide +kernel
theorem dX11_decision_22 : decode cX11_decision 22 = .ok (.iload_n 2, 1) := by decide +kernel
theorem dX11_decision_23 : decode cX11_decision 23 = .ok (.if_icmp .gt 12, 3) := by decide +kernel
theorem dX11_decision_26 : decode cX11_decision 26 = .ok (.iload_n 3, 1) := by decide +kernel
theorem dX11_decision_27 : decode cX11_decision 27 = .ok (.iconst 0, 1) := by decide +kernel
theorem dX11_decision_28 : decode cX11_decision 28 = .ok (.iconst 3, 1) := by decide +kernel
theorem dX11_decision_29 : decode cX11_decision 29 = .ok (.invokestatic 93, 3) := by decide +kernel
theorem dX11_decision_32 : decode cX11_decision 32 = .ok (.ifCond .ne 6, 3) := by decide +kernel
theorem dX11_decision_35 : decode cX11_decision 35 = .ok (.bipush (-2), 2) := by decide +kernel
theorem dX11_decision_37 : decode cX11_decision 37 = .ok (.ireturn, 1) := by decide +kernel
theorem dX11_decision_38 : decode cX11_decision 38 = .ok (.aload_n 0, 1) := by decide +kernel
theorem dX11_decision_39 : decode cX11_decision 39 = .ok (.getfield 26, 3) := by decide +kernel
theorem dX11_decision_42 : decode cX11_decision 42 = .ok (.getfield 97, 3) := by decide +kernel
theorem dX11_decision_45 : decode cX11_decision 45 = .ok (.ifCond .le 6, 3) := by decide +kernel
theorem dX11_decision_48 : decode cX11_decision 48 = .ok (.bipush (-3), 2) := by decide +kernel
theorem dX11_decision_50 : decode cX11_decision 50 = .ok (.ireturn, 1) := by decide +kernel
theorem dX11_decision_51 : decode cX11_decision 51 = .ok (.aload_n 0, 1) := by decide +kernel
theorem dX11_decision_52 : decode cX11_decision 52 = .ok (.getfield 12, 3) := by decide +kernel
theorem dX11_decision_55 : decode cX11_decision 55 = .ok (.getfield 101, 3) := by decide +kernel
theorem dX11_decision_58 : decode cX11_decision 58 = .ok (.bipush 6, 2) := by decide +kernel
theorem dX11_decision_60 : decode cX11_decision 60 = .ok (.if_icmp .lt 6, 3) := by decide +kernel
theorem dX11_decision_63 : decode cX11_decision 63 = .ok (.bipush (-4), 2) := by decide +kernel
theorem dX11_decision_65 : decode cX11_decision 65 = .ok (.ireturn, 1) := by decide +kernel
theorem dX11_decision_66 : decode cX11_decision 66 = .ok (.aload_n 0, 1) := by decide +kernel
theorem dX11_decision_67 : decode cX11_decision 67 = .ok (.getfield 12, 3) := by decide +kernel
theorem dX11_decision_70 : decode cX11_decision 70 = .ok (.iload_n 1, 1) := by decide +kernel
theorem dX11_decision_71 : decode cX11_decision 71 = .ok (.iload_n 2, 1) := by decide +kernel
theorem dX11_decision_72 : decode cX11_decision 72 = .ok (.iload_n 3, 1) := by decide +kernel
theorem dX11_decision_73 : decode cX11_decision 73 = .ok (.invokevirtual 102, 3) := by decide +kernel
theorem dX11_decision_76 : decode cX11_decision 76 = .ok (.istore 4, 2) := by decide +kernel
theorem dX11_decision_78 : decode cX11_decision 78 = .ok (.aload_n 0, 1) := by decide +kernel
theorem dX11_decision_79 : decode cX11_decision 79 = .ok (.getfield 85, 3) := by decide +kernel
theorem dX11_decision_82 : decode cX11_decision 82 = .ok (.iload 4, 2) := by decide +kernel
theorem dX11_decision_84 : decode cX11_decision 84 = .ok (.iload_n 1, 1) := by decide +kernel
theorem dX11_decision_85 : decode cX11_decision 85 = .ok (.iastore, 1) := by decide +kernel
theorem dX11_decision_86 : decode cX11_decision 86 = .ok (.iload 4, 2) := by decide +kernel
theorem dX11_decision_88 : decode cX11_decision 88 = .ok (.ireturn, 1) := by decide +kernel
theorem dX11_weight_0 : decode cX11_weight 0 = .ok (.aload_n 0, 1) := by decide +kernel
theorem dX11_weight_1 : decode cX11_weight 1 = .ok (.getfield 12, 3) := by decide +kernel
theorem dX11_weight_4 : decode cX11_weight 4 = .ok (.iload_n 1, 1) := by decide +kernel
theorem dX11_weight_5 : decode cX11_weight 5 = .ok (.invokevirtual 106, 3) := by decide +kernel
theorem dX11_weight_8 : decode cX11_weight 8 = .ok (.ifCond .ne 5, 3) := by decide +kernel
theorem dX11_weight_11 : decode cX11_weight 11 = .ok (.iconst (-1), 1) := by decide +kernel
theorem dX11_weight_12 : decode cX11_weight 12 = .ok (.ireturn, 1) := by decide +kernel
theorem dX11_weight_13 : decode cX11_weight 13 = .ok (.iload_n 2, 1) := by decide +kernel
theorem dX11_weight_14 : decode cX11_weight 14 = .ok (.iconst 0, 1) := by decide +kernel
theorem dX11_weight_15 : decode cX11_weight 15 = .ok (.bipush 100, 2) := by decide +kernel
theorem dX11_weight_17 : decode cX11_weight 17 = .ok (.invokestatic 93, 3) := by decide +kernel
theorem dX11_weight_20 : decode cX11_weight 20 = .ok (.ifCond .eq 13, 3) := by decide +kernel
theorem dX11_weight_23 : decode cX11_weight 23 = .ok (.iload_n 3, 1) := by decide +kernel
theorem dX11_weight_24 : decode cX11_weight 24 = .ok (.iconst 0, 1) := by decide +kernel
theorem dX11_weight_25 : decode cX11_weight 25 = .ok (.bipush 20, 2) := by decide +kernel
theorem dX11_weight_27 : decode cX11_weight 27 = .ok (.invokestatic 93, 3) := by decide +kernel
theorem dX11_weight_30 : decode cX11_weight 30 = .ok (.ifCond .ne 6, 3) := by decide +kernel
theorem dX11_weight_33 : decode cX11_weight 33 = .ok (.bipush (-2), 2) := by decide +kernel
theorem dX11_weight_35 : decode cX11_weight 35 = .ok (.ireturn, 1) := by decide +kernel
theorem dX11_weight_36 : decode cX11_weight 36 = .ok (.aload_n 0, 1) := by decide +kernel
theorem dX11_weight_37 : decode cX11_weight 37 = .ok (.getfield 12, 3) := by decide +kernel
theorem dX11_weight_40 : decode cX11_weight 40 = .ok (.getfield 110, 3) := by decide +kernel
theorem dX11_weight_43 : decode cX11_weight 43 = .ok (.iload_n 1, 1) := by decide +kernel
theorem dX11_weight_44 : decode cX11_weight 44 = .ok (.iload_n 2, 1) := by decide +kernel
theorem dX11_weight_45 : decode cX11_weight 45 = .ok (.iastore, 1) := by decide +kernel
theorem dX11_weight_46 : decode cX11_weight 46 = .ok (.aload_n 0, 1) := by decide +kernel
theorem dX11_weight_47 : decode cX11_weight 47 = .ok (.getfield 12, 3) := by decide +kernel
theorem dX11_weight_50 : decode cX11_weight 50 = .ok (.getfield 113, 3) := by decide +kernel
theorem dX11_weight_53 : decode cX11_weight 53 = .ok (.iload_n 1, 1) := by decide +kernel
theorem dX11_weight_54 : decode cX11_weight 54 = .ok (.iload_n 3, 1) := by decide +kernel
theorem dX11_weight_55 : decode cX11_weight 55 = .ok (.iastore, 1) := by decide +kernel
theorem dX11_weight_56 : decode cX11_weight 56 = .ok (.iconst 1, 1) := by decide +kernel
theorem dX11_weight_57 : decode cX11_weight 57 = .ok (.ireturn, 1) := by decide +kernel
theorem dX11_worth_0 : decode cX11_worth 0 = .ok (.aload_n 0, 1) := by decide +kernel
theorem dX11_worth_1 : decode cX11_worth 1 = .ok (.getfield 12, 3) := by decide +kernel
theorem dX11_worth_4 : decode cX11_worth 4 = .ok (.iload_n 1, 1) := by decide +kernel
theorem dX11_worth_5 : decode cX11_worth 5 = .ok (.invokevirtual 106, 3) := by decide +kernel
theorem dX11_worth_8 : decode cX11_worth 8 = .ok (.ifCond .ne 5, 3) := by decide +kernel
theorem dX11_worth_11 : decode cX11_worth 11 = .ok (.iconst (-1), 1) := by decide +kernel
theorem dX11_worth_12 : decode cX11_worth 12 = .ok (.ireturn, 1) := by decide +kernel
theorem dX11_worth_13 : decode cX11_worth 13 = .ok (.iload_n 2, 1) := by decide +kernel
theorem dX11_worth_14 : decode cX11_worth 14 = .ok (.iconst 0, 1) := by decide +kernel
theorem dX11_worth_15 : decode cX11_worth 15 = .ok (.iconst 5, 1) := by decide +kernel
theorem dX11_worth_16 : decode cX11_worth 16 = .ok (.invokestatic 93, 3) := by decide +kernel
theorem dX11_worth_19 : decode cX11_worth 19 = .ok (.ifCond .eq 13, 3) := by decide +kernel
theorem dX11_worth_22 : decode cX11_worth 22 = .ok (.iload_n 3, 1) := by decide +kernel
theorem dX11_worth_23 : decode cX11_worth 23 = .ok (.iconst 0, 1) := by decide +kernel
theorem dX11_worth_24 : decode cX11_worth 24 = .ok (.bipush 100, 2) := by decide +kernel
theorem dX11_worth_26 : decode cX11_worth 26 = .ok (.invokestatic 93, 3) := by decide +kernel
theorem dX11_worth_29 : decode cX11_worth 29 = .ok (.ifCond .ne 6, 3) := by decide +kernel
theorem dX11_worth_32 : decode cX11_worth 32 = .ok (.bipush (-2), 2) := by decide +kernel
theorem dX11_worth_34 : decode cX11_worth 34 = .ok (.ireturn, 1) := by decide +kernel
theorem dX11_worth_35 : decode cX11_worth 35 = .ok (.aload_n 0, 1) := by decide +kernel
theorem dX11_worth_36 : decode cX11_worth 36 = .ok (.getfield 12, 3) := by decide +kernel
theorem dX11_worth_39 : decode cX11_worth 39 = .ok (.getfield 116, 3) := by decide +kernel
theorem dX11_worth_42 : decode cX11_worth 42 = .ok (.iload_n 1, 1) := by decide +kernel
theorem dX11_worth_43 : decode cX11_worth 43 = .ok (.aaload, 1) := by decide +kernel
theorem dX11_worth_44 : decode cX11_worth 44 = .ok (.iload_n 2, 1) := by decide +kernel
theorem dX11_worth_45 : decode cX11_worth 45 = .ok (.iaload, 1) := by decide +kernel
theorem dX11_worth_46 : decode cX11_worth 46 = .ok (.istore 4, 2) := by decide +kernel
theorem dX11_worth_48 : decode cX11_worth 48 = .ok (.aload_n 0, 1) := by decide +kernel
theorem dX11_worth_49 : decode cX11_worth 49 = .ok (.getfield 12, 3) := by decide +kernel
theorem dX11_worth_52 : decode cX11_worth 52 = .ok (.getfield 116, 3) := by decide +kernel
theorem dX11_worth_55 : decode cX11_worth 55 = .ok (.iload_n 1, 1) := by decide +kernel
theorem dX11_worth_56 : decode cX11_worth 56 = .ok (.aaload, 1) := by decide +kernel
theorem dX11_worth_57 : decode cX11_worth 57 = .ok (.iload_n 2, 1) := by decide +kernel
theorem dX11_worth_58 : decode cX11_worth 58 = .ok (.iload_n 3, 1) := by decide +kernel
theorem dX11_worth_59 : decode cX11_worth 59 = .ok (.iastore, 1) := by decide +kernel
theorem dX11_worth_60 : decode cX11_worth 60 = .ok (.iload 4, 2) := by decide +kernel
theorem dX11_worth_62 : decode cX11_worth 62 = .ok (.ireturn, 1) := by decide +kernel
theorem dX11_pin_0 : decode cX11_pin 0 = .ok (.aload_n 0, 1) := by decide +kernel
theorem dX11_pin_1 : decode cX11_pin 1 = .ok (.getfield 12, 3) := by decide +kernel
theorem dX11_pin_4 : decode cX11_pin 4 = .ok (.iload_n 1, 1) := by decide +kernel
theorem dX11_pin_5 : decode cX11_pin 5 = .ok (.invokevirtual 106, 3) := by decide +kernel
theorem dX11_pin_8 : decode cX11_pin 8 = .ok (.ifCond .ne 5, 3) := by decide +kernel
theorem dX11_pin_11 : decode cX11_pin 11 = .ok (.iconst (-1), 1) := by decide +kernel
theorem dX11_pin_12 : decode cX11_pin 12 = .ok (.ireturn, 1) := by decide +kernel
theorem dX11_pin_13 : decode cX11_pin 13 = .ok (.iload_n 2, 1) := by decide +kernel
theorem dX11_pin_14 : decode cX11_pin 14 = .ok (.bipush (-5), 2) := by decide +kernel
theorem dX11_pin_16 : decode cX11_pin 16 = .ok (.if_icmp .eq 18, 3) := by decide +kernel
theorem dX11_pin_19 : decode cX11_pin 19 = .ok (.aload_n 0, 1) := by decide +kernel
theorem dX11_pin_20 : decode cX11_pin 20 = .ok (.getfield 12, 3) := by decide +kernel
theorem dX11_pin_23 : decode cX11_pin 23 = .ok (.iload_n 1, 1) := by decide +kernel
theorem dX11_pin_24 : decode cX11_pin 24 = .ok (.iload_n 2, 1) := by decide +kernel
theorem dX11_pin_25 : decode cX11_pin 25 = .ok (.invokevirtual 120, 3) := by decide +kernel
theorem dX11_pin_28 : decode cX11_pin 28 = .ok (.ifCond .ne 6, 3) := by decide +kernel
theorem dX11_pin_31 : decode cX11_pin 31 = .ok (.bipush (-2), 2) := by decide +kernel
theorem dX11_pin_33 : decode cX11_pin 33 = .ok (.ireturn, 1) := by decide +kernel
theorem dX11_pin_34 : decode cX11_pin 34 = .ok (.aload_n 0, 1) := by decide +kernel
theorem dX11_pin_35 : decode cX11_pin 35 = .ok (.getfield 12, 3) := by decide +kernel
theorem dX11_pin_38 : decode cX11_pin 38 = .ok (.getfield 124, 3) := by decide +kernel
theorem dX11_pin_41 : decode cX11_pin 41 = .ok (.iload_n 1, 1) := by decide +kernel
theorem dX11_pin_42 : decode cX11_pin 42 = .ok (.iload_n 2, 1) := by decide +kernel
theorem dX11_pin_43 : decode cX11_pin 43 = .ok (.iastore, 1) := by decide +kernel
theorem dX11_pin_44 : decode cX11_pin 44 = .ok (.iconst 1, 1) := by decide +kernel
theorem dX11_pin_45 : decode cX11_pin 45 = .ok (.ireturn, 1) := by decide +kernel
theorem dX11_limit_0 : decode cX11_limit 0 = .ok (.iload_n 1, 1) := by decide +kernel
theorem dX11_limit_1 : decode cX11_limit 1 = .ok (.iconst 0, 1) := by decide +kernel
theorem dX11_limit_2 : decode cX11_limit 2 = .ok (.iconst 3, 1) := by decide +kernel
theorem dX11_limit_3 : decode cX11_limit 3 = .ok (.invokestatic 93, 3) := by decide +kernel
theorem dX11_limit_6 : decode cX11_limit 6 = .ok (.ifCond .eq 13, 3) := by decide +kernel
theorem dX11_limit_9 : decode cX11_limit 9 = .ok (.iload_n 2, 1) := by decide +kernel
theorem dX11_limit_10 : decode cX11_limit 10 = .ok (.iconst 0, 1) := by decide +kernel
theorem dX11_limit_11 : decode cX11_limit 11 = .ok (.bipush 6, 2) := by decide +kernel
theorem dX11_limit_13 : decode cX11_limit 13 = .ok (.invokestatic 93, 3) := by decide +kernel
theorem dX11_limit_16 : decode cX11_limit 16 = .ok (.ifCond .ne 6, 3) := by decide +kernel
theorem dX11_limit_19 : decode cX11_limit 19 = .ok (.bipush (-2), 2) := by decide +kernel
theorem dX11_limit_21 : decode cX11_limit 21 = .ok (.ireturn, 1) := by decide +kernel
theorem dX11_limit_22 : decode cX11_limit 22 = .ok (.aload_n 0, 1) := by decide +kernel
theorem dX11_limit_23 : decode cX11_limit 23 = .ok (.getfield 12, 3) := by decide +kernel
theorem dX11_limit_26 : decode cX11_limit 26 = .ok (.getfield 127, 3) := by decide +kernel
theorem dX11_limit_29 : decode cX11_limit 29 = .ok (.iload_n 1, 1) := by decide +kernel
theorem dX11_limit_30 : decode cX11_limit 30 = .ok (.iaload, 1) := by decide +kernel
theorem dX11_limit_31 : decode cX11_limit 31 = .ok (.istore_n 3, 1) := by decide +kernel
theorem dX11_limit_32 : decode cX11_limit 32 = .ok (.aload_n 0, 1) := by decide +kernel
theorem dX11_limit_33 : decode cX11_limit 33 = .ok (.getfield 12, 3) := by decide +kernel
theorem dX11_limit_36 : decode cX11_limit 36 = .ok (.getfield 127, 3) := by decide +kernel
theorem dX11_limit_39 : decode cX11_limit 39 = .ok (.iload_n 1, 1) := by decide +kernel
theorem dX11_limit_40 : decode cX11_limit 40 = .ok (.iload_n 2, 1) := by decide +kernel
theorem dX11_limit_41 : decode cX11_limit 41 = .ok (.iastore, 1) := by decide +kernel
theorem dX11_limit_42 : decode cX11_limit 42 = .ok (.iload_n 3, 1) := by decide +kernel
theorem dX11_limit_43 : decode cX11_limit 43 = .ok (.ireturn, 1) := by decide +kernel
theorem dX11_fact_0 : decode cX11_fact 0 = .ok (.iload_n 1, 1) := by decide +kernel
theorem dX11_fact_1 : decode cX11_fact 1 = .ok (.bipush (-20), 2) := by decide +kernel
theorem dX11_fact_3 : decode cX11_fact 3 = .ok (.bipush 20, 2) := by decide +kernel
theorem dX11_fact_5 : decode cX11_fact 5 = .ok (.invokestatic 93, 3) := by decide +kernel
theorem dX11_fact_8 : decode cX11_fact 8 = .ok (.ifCond .ne 6, 3) := by decide +kernel
theorem dX11_fact_11 : decode cX11_fact 11 = .ok (.bipush (-2), 2) := by decide +kernel
theorem dX11_fact_13 : decode cX11_fact 13 = .ok (.ireturn, 1) := by decide +kernel
theorem dX11_fact_14 : decode cX11_fact 14 = .ok (.aload_n 0, 1) := by decide +kernel
theorem dX11_fact_15 : decode cX11_fact 15 = .ok (.getfield 26, 3) := by decide +kernel
theorem dX11_fact_18 : decode cX11_fact 18 = .ok (.getfield 97, 3) := by decide +kernel
theorem dX11_fact_21 : decode cX11_fact 21 = .ok (.ifCond .le 6, 3) := by decide +kernel
theorem dX11_fact_24 : decode cX11_fact 24 = .ok (.bipush (-3), 2) := by decide +kernel
theorem dX11_fact_26 : decode cX11_fact 26 = .ok (.ireturn, 1) := by decide +kernel
theorem dX11_fact_27 : decode cX11_fact 27 = .ok (.aload_n 0, 1) := by decide +kernel
theorem dX11_fact_28 : decode cX11_fact 28 = .ok (.getfield 19, 3) := by decide +kernel
theorem dX11_fact_31 : decode cX11_fact 31 = .ok (.getfield 130, 3) := by decide +kernel
theorem dX11_fact_34 : decode cX11_fact 34 = .ok (.bipush 6, 2) := by decide +kernel
theorem dX11_fact_36 : decode cX11_fact 36 = .ok (.if_icmp .lt 6, 3) := by decide +kernel
theorem dX11_fact_39 : decode cX11_fact 39 = .ok (.bipush (-4), 2) := by decide +kernel
theorem dX11_fact_41 : decode cX11_fact 41 = .ok (.ireturn, 1) := by decide +kernel
theorem dX11_fact_42 : decode cX11_fact 42 = .ok (.aload_n 0, 1) := by decide +kernel
theorem dX11_fact_43 : decode cX11_fact 43 = .ok (.getfield 19, 3) := by decide +kernel
theorem dX11_fact_46 : decode cX11_fact 46 = .ok (.iload_n 1, 1) := by decide +kernel
theorem dX11_fact_47 : decode cX11_fact 47 = .ok (.invokevirtual 133, 3) := by decide +kernel
theorem dX11_fact_50 : decode cX11_fact 50 = .ok (.ireturn, 1) := by decide +kernel
theorem dX11_change_0 : decode cX11_change 0 = .ok (.aload_n 0, 1) := by decide +kernel
theorem dX11_change_1 : decode cX11_change 1 = .ok (.getfield 19, 3) := by decide +kernel
theorem dX11_change_4 : decode cX11_change 4 = .ok (.iload_n 1, 1) := by decide +kernel
theorem dX11_change_5 : decode cX11_change 5 = .ok (.invokevirtual 137, 3) := by decide +kernel
theorem dX11_change_8 : decode cX11_change 8 = .ok (.ifCond .ne 5, 3) := by decide +kernel
theorem dX11_change_11 : decode cX11_change 11 = .ok (.iconst (-1), 1) := by decide +kernel
theorem dX11_change_12 : decode cX11_change 12 = .ok (.ireturn, 1) := by decide +kernel
theorem dX11_change_13 : decode cX11_change 13 = .ok (.iload_n 2, 1) := by decide +kernel
theorem dX11_change_14 : decode cX11_change 14 = .ok (.bipush (-20), 2) := by decide +kernel
theorem dX11_change_16 : decode cX11_change 16 = .ok (.bipush 20, 2) := by decide +kernel
theorem dX11_change_18 : decode cX11_change 18 = .ok (.invokestatic 93, 3) := by decide +kernel
theorem dX11_change_21 : decode cX11_change 21 = .ok (.ifCond .ne 6, 3) := by decide +kernel
theorem dX11_change_24 : decode cX11_change 24 = .ok (.bipush (-2), 2) := by decide +kernel
theorem dX11_change_26 : decode cX11_change 26 = .ok (.ireturn, 1) := by decide +kernel
theorem dX11_change_27 : decode cX11_change 27 = .ok (.aload_n 0, 1) := by decide +kernel
theorem dX11_change_28 : decode cX11_change 28 = .ok (.getfield 19, 3) := by decide +kernel
theorem dX11_change_31 : decode cX11_change 31 = .ok (.getfield 140, 3) := by decide +kernel
theorem dX11_change_34 : decode cX11_change 34 = .ok (.iload_n 1, 1) := by decide +kernel
theorem dX11_change_35 : decode cX11_change 35 = .ok (.iaload, 1) := by decide +kernel
theorem dX11_change_36 : decode cX11_change 36 = .ok (.istore_n 3, 1) := by decide +kernel
theorem dX11_change_37 : decode cX11_change 37 = .ok (.aload_n 0, 1) := by decide +kernel
theorem dX11_change_38 : decode cX11_change 38 = .ok (.getfield 19, 3) := by decide +kernel
theorem dX11_change_41 : decode cX11_change 41 = .ok (.getfield 140, 3) := by decide +kernel
theorem dX11_change_44 : decode cX11_change 44 = .ok (.iload_n 1, 1) := by decide +kernel
theorem dX11_change_45 : decode cX11_change 45 = .ok (.iload_n 2, 1) := by decide +kernel
theorem dX11_change_46 : decode cX11_change 46 = .ok (.iastore, 1) := by decide +kernel
theorem dX11_change_47 : decode cX11_change 47 = .ok (.iload_n 3, 1) := by decide +kernel
theorem dX11_change_48 : decode cX11_change 48 = .ok (.ireturn, 1) := by decide +kernel
theorem dX11_rule_0 : decode cX11_rule 0 = .ok (.iload_n 1, 1) := by decide +kernel
theorem dX11_rule_1 : decode cX11_rule 1 = .ok (.iconst 0, 1) := by decide +kernel
theorem dX11_rule_2 : decode cX11_rule 2 = .ok (.iconst 5, 1) := by decide +kernel
theorem dX11_rule_3 : decode cX11_rule 3 = .ok (.invokestatic 93, 3) := by decide +kernel
theorem dX11_rule_6 : decode cX11_rule 6 = .ok (.ifCond .ne 6, 3) := by decide +kernel
theorem dX11_rule_9 : decode cX11_rule 9 = .ok (.bipush (-2), 2) := by decide +kernel
theorem dX11_rule_11 : decode cX11_rule 11 = .ok (.ireturn, 1) := by decide +kernel
theorem dX11_rule_12 : decode cX11_rule 12 = .ok (.iload_n 1, 1) := by decide +kernel
theorem dX11_rule_13 : decode cX11_rule 13 = .ok (.iconst 5, 1) := by decide +kernel
theorem dX11_rule_14 : decode cX11_rule 14 = .ok (.if_icmp .ne 15, 3) := by decide +kernel
theorem dX11_rule_17 : decode cX11_rule 17 = .ok (.iload_n 3, 1) := by decide +kernel
theorem dX11_rule_18 : decode cX11_rule 18 = .ok (.iconst 0, 1) := by decide +kernel
theorem dX11_rule_19 : decode cX11_rule 19 = .ok (.iconst 5, 1) := by decide +kernel
theorem dX11_rule_20 : decode cX11_rule 20 = .ok (.invokestatic 93, 3) := by decide +kernel
theorem dX11_rule_23 : decode cX11_rule 23 = .ok (.ifCond .ne 6, 3) := by decide +kernel
theorem dX11_rule_26 : decode cX11_rule 26 = .ok (.bipush (-2), 2) := by decide +kernel
theorem dX11_rule_28 : decode cX11_rule 28 = .ok (.ireturn, 1) := by decide +kernel
theorem dX11_rule_29 : decode cX11_rule 29 = .ok (.iload_n 1, 1) := by decide +kernel
theorem dX11_rule_30 : decode cX11_rule 30 = .ok (.iconst 5, 1) := by decide +kernel
theorem dX11_rule_31 : decode cX11_rule 31 = .ok (.if_icmp .eq 27, 3) := by decide +kernel
theorem dX11_rule_34 : decode cX11_rule 34 = .ok (.aload_n 0, 1) := by decide +kernel
theorem dX11_rule_35 : decode cX11_rule 35 = .ok (.getfield 12, 3) := by decide +kernel
theorem dX11_rule_38 : decode cX11_rule 38 = .ok (.iload_n 2, 1) := by decide +kernel
theorem dX11_rule_39 : decode cX11_rule 39 = .ok (.invokevirtual 106, 3) := by decide +kernel
theorem dX11_rule_42 : decode cX11_rule 42 = .ok (.ifCond .eq 14, 3) := by decide +kernel
theorem dX11_rule_45 : decode cX11_rule 45 = .ok (.aload_n 0, 1) := by decide +kernel
theorem dX11_rule_46 : decode cX11_rule 46 = .ok (.getfield 12, 3) := by decide +kernel
theorem dX11_rule_49 : decode cX11_rule 49 = .ok (.iload_n 3, 1) := by decide +kernel
theorem dX11_rule_50 : decode cX11_rule 50 = .ok (.invokevirtual 106, 3) := by decide +kernel
theorem dX11_rule_53 : decode cX11_rule 53 = .ok (.ifCond .ne 5, 3) := by decide +kernel
theorem dX11_rule_56 : decode cX11_rule 56 = .ok (.iconst (-1), 1) := by decide +kernel
theorem dX11_rule_57 : decode cX11_rule 57 = .ok (.ireturn, 1) := by decide +kernel
theorem dX11_rule_58 : decode cX11_rule 58 = .ok (.aload_n 0, 1) := by decide +kernel
theorem dX11_rule_59 : decode cX11_rule 59 = .ok (.getfield 19, 3) := by decide +kernel
theorem dX11_rule_62 : decode cX11_rule 62 = .ok (.iload 4, 2) := by decide +kernel
theorem dX11_rule_64 : decode cX11_rule 64 = .ok (.invokevirtual 137, 3) := by decide +kernel
theorem dX11_rule_67 : decode cX11_rule 67 = .ok (.ifCond .ne 5, 3) := by decide +kernel
theorem dX11_rule_70 : decode cX11_rule 70 = .ok (.iconst (-1), 1) := by decide +kernel
theorem dX11_rule_71 : decode cX11_rule 71 = .ok (.ireturn, 1) := by decide +kernel
theorem dX11_rule_72 : decode cX11_rule 72 = .ok (.aload_n 0, 1) := by decide +kernel
theorem dX11_rule_73 : decode cX11_rule 73 = .ok (.getfield 19, 3) := by decide +kernel
theorem dX11_rule_76 : decode cX11_rule 76 = .ok (.getfield 143, 3) := by decide +kernel
theorem dX11_rule_79 : decode cX11_rule 79 = .ok (.bipush 12, 2) := by decide +kernel
theorem dX11_rule_81 : decode cX11_rule 81 = .ok (.if_icmp .lt 6, 3) := by decide +kernel
theorem dX11_rule_84 : decode cX11_rule 84 = .ok (.bipush (-4), 2) := by decide +kernel
theorem dX11_rule_86 : decode cX11_rule 86 = .ok (.ireturn, 1) := by decide +kernel
theorem dX11_rule_87 : decode cX11_rule 87 = .ok (.aload_n 0, 1) := by decide +kernel
theorem dX11_rule_88 : decode cX11_rule 88 = .ok (.getfield 19, 3) := by decide +kernel
theorem dX11_rule_91 : decode cX11_rule 91 = .ok (.iload_n 1, 1) := by decide +kernel
theorem dX11_rule_92 : decode cX11_rule 92 = .ok (.iload_n 2, 1) := by decide +kernel
theorem dX11_rule_93 : decode cX11_rule 93 = .ok (.iload_n 3, 1) := by decide +kernel
theorem dX11_rule_94 : decode cX11_rule 94 = .ok (.iload 4, 2) := by decide +kernel
theorem dX11_rule_96 : decode cX11_rule 96 = .ok (.invokevirtual 144, 3) := by decide +kernel
theorem dX11_rule_99 : decode cX11_rule 99 = .ok (.ireturn, 1) := by decide +kernel
theorem dX11_first_0 : decode cX11_first 0 = .ok (.iload_n 1, 1) := by decide +kernel
theorem dX11_first_1 : decode cX11_first 1 = .ok (.iconst 0, 1) := by decide +kernel
theorem dX11_first_2 : decode cX11_first 2 = .ok (.iconst 1, 1) := by decide +kernel
theorem dX11_first_3 : decode cX11_first 3 = .ok (.invokestatic 93, 3) := by decide +kernel
theorem dX11_first_6 : decode cX11_first 6 = .ok (.ifCond .ne 6, 3) := by decide +kernel
theorem dX11_first_9 : decode cX11_first 9 = .ok (.bipush (-2), 2) := by decide +kernel
theorem dX11_first_11 : decode cX11_first 11 = .ok (.ireturn, 1) := by decide +kernel
theorem dX11_first_12 : decode cX11_first 12 = .ok (.aload_n 0, 1) := by decide +kernel
theorem dX11_first_13 : decode cX11_first 13 = .ok (.getfield 89, 3) := by decide +kernel
theorem dX11_first_16 : decode cX11_first 16 = .ok (.ifCond .eq 7, 3) := by decide +kernel
theorem dX11_first_19 : decode cX11_first 19 = .ok (.iconst 1, 1) := by decide +kernel
theorem dX11_first_20 : decode cX11_first 20 = .ok (.goto 4, 3) := by decide +kernel
theorem dX11_first_23 : decode cX11_first 23 = .ok (.iconst 0, 1) := by decide +kernel
theorem dX11_first_24 : decode cX11_first 24 = .ok (.istore_n 2, 1) := by decide +kernel
theorem dX11_first_25 : decode cX11_first 25 = .ok (.aload_n 0, 1) := by decide +kernel
theorem dX11_first_26 : decode cX11_first 26 = .ok (.iload_n 1, 1) := by decide +kernel
theorem dX11_first_27 : decode cX11_first 27 = .ok (.iconst 1, 1) := by decide +kernel
theorem dX11_first_28 : decode cX11_first 28 = .ok (.if_icmp .ne 7, 3) := by decide +kernel
theorem dX11_first_31 : decode cX11_first 31 = .ok (.iconst 1, 1) := by decide +kernel
theorem dX11_first_32 : decode cX11_first 32 = .ok (.goto 4, 3) := by decide +kernel
theorem dX11_first_35 : decode cX11_first 35 = .ok (.iconst 0, 1) := by decide +kernel
theorem dX11_first_36 : decode cX11_first 36 = .ok (.putfield 89, 3) := by decide +kernel
theorem dX11_first_39 : decode cX11_first 39 = .ok (.iload_n 2, 1) := by decide +kernel
theorem dX11_first_40 : decode cX11_first 40 = .ok (.ireturn, 1) := by decide +kernel
theorem dX11_put_0 : decode cX11_put 0 = .ok (.aload_n 0, 1) := by decide +kernel
theorem dX11_put_1 : decode cX11_put 1 = .ok (.getfield 12, 3) := by decide +kernel
theorem dX11_put_4 : decode cX11_put 4 = .ok (.iload_n 1, 1) := by decide +kernel
theorem dX11_put_5 : decode cX11_put 5 = .ok (.invokevirtual 106, 3) := by decide +kernel
theorem dX11_put_8 : decode cX11_put 8 = .ok (.ifCond .ne 5, 3) := by decide +kernel
theorem dX11_put_11 : decode cX11_put 11 = .ok (.iconst (-1), 1) := by decide +kernel
theorem dX11_put_12 : decode cX11_put 12 = .ok (.ireturn, 1) := by decide +kernel
theorem dX11_put_13 : decode cX11_put 13 = .ok (.aload_n 0, 1) := by decide +kernel
theorem dX11_put_14 : decode cX11_put 14 = .ok (.getfield 12, 3) := by decide +kernel
theorem dX11_put_17 : decode cX11_put 17 = .ok (.iload_n 1, 1) := by decide +kernel
theorem dX11_put_18 : decode cX11_put 18 = .ok (.iload_n 2, 1) := by decide +kernel
theorem dX11_put_19 : decode cX11_put 19 = .ok (.invokevirtual 120, 3) := by decide +kernel
theorem dX11_put_22 : decode cX11_put 22 = .ok (.ifCond .ne 6, 3) := by decide +kernel
theorem dX11_put_25 : decode cX11_put 25 = .ok (.bipush (-2), 2) := by decide +kernel
theorem dX11_put_27 : decode cX11_put 27 = .ok (.ireturn, 1) := by decide +kernel
theorem dX11_put_28 : decode cX11_put 28 = .ok (.aload_n 0, 1) := by decide +kernel
theorem dX11_put_29 : decode cX11_put 29 = .ok (.getfield 85, 3) := by decide +kernel
theorem dX11_put_32 : decode cX11_put 32 = .ok (.iload_n 1, 1) := by decide +kernel
theorem dX11_put_33 : decode cX11_put 33 = .ok (.iaload, 1) := by decide +kernel
theorem dX11_put_34 : decode cX11_put 34 = .ok (.istore_n 3, 1) := by decide +kernel
theorem dX11_put_35 : decode cX11_put 35 = .ok (.aload_n 0, 1) := by decide +kernel
theorem dX11_put_36 : decode cX11_put 36 = .ok (.getfield 85, 3) := by decide +kernel
theorem dX11_put_39 : decode cX11_put 39 = .ok (.iload_n 1, 1) := by decide +kernel
theorem dX11_put_40 : decode cX11_put 40 = .ok (.iload_n 2, 1) := by decide +kernel
theorem dX11_put_41 : decode cX11_put 41 = .ok (.iastore, 1) := by decide +kernel
theorem dX11_put_42 : decode cX11_put 42 = .ok (.iload_n 3, 1) := by decide +kernel
theorem dX11_put_43 : decode cX11_put 43 = .ok (.ireturn, 1) := by decide +kernel
theorem dX11_value_0 : decode cX11_value 0 = .ok (.aload_n 0, 1) := by decide +kernel
theorem dX11_value_1 : decode cX11_value 1 = .ok (.getfield 12, 3) := by decide +kernel
theorem dX11_value_4 : decode cX11_value 4 = .ok (.iload_n 1, 1) := by decide +kernel
theorem dX11_value_5 : decode cX11_value 5 = .ok (.invokevirtual 106, 3) := by decide +kernel
theorem dX11_value_8 : decode cX11_value 8 = .ok (.ifCond .eq 12, 3) := by decide +kernel
theorem dX11_value_11 : decode cX11_value 11 = .ok (.aload_n 0, 1) := by decide +kernel
theorem dX11_value_12 : decode cX11_value 12 = .ok (.getfield 85, 3) := by decide +kernel
theorem dX11_value_15 : decode cX11_value 15 = .ok (.iload_n 1, 1) := by decide +kernel
theorem dX11_value_16 : decode cX11_value 16 = .ok (.iaload, 1) := by decide +kernel
theorem dX11_value_17 : decode cX11_value 17 = .ok (.goto 4, 3) := by decide +kernel
theorem dX11_value_20 : decode cX11_value 20 = .ok (.iconst (-1), 1) := by decide +kernel
theorem dX11_value_21 : decode cX11_value 21 = .ok (.ireturn, 1) := by decide +kernel
theorem dX11_keep_0 : decode cX11_keep 0 = .ok (.aload_n 0, 1) := by decide +kernel
theorem dX11_keep_1 : decode cX11_keep 1 = .ok (.getfield 12, 3) := by decide +kernel
theorem dX11_keep_4 : decode cX11_keep 4 = .ok (.getfield 101, 3) := by decide +kernel
theorem dX11_keep_7 : decode cX11_keep 7 = .ok (.ifCond .ne 6, 3) := by decide +kernel
theorem dX11_keep_10 : decode cX11_keep 10 = .ok (.bipush (-3), 2) := by decide +kernel
theorem dX11_keep_12 : decode cX11_keep 12 = .ok (.ireturn, 1) := by decide +kernel
theorem dX11_keep_13 : decode cX11_keep 13 = .ok (.aload_n 0, 1) := by decide +kernel
theorem dX11_keep_14 : decode cX11_keep 14 = .ok (.getfield 26, 3) := by decide +kernel
theorem dX11_keep_17 : decode cX11_keep 17 = .ok (.getfield 97, 3) := by decide +kernel
theorem dX11_keep_20 : decode cX11_keep 20 = .ok (.iconst 3, 1) := by decide +kernel
theorem dX11_keep_21 : decode cX11_keep 21 = .ok (.if_icmp .lt 6, 3) := by decide +kernel
theorem dX11_keep_24 : decode cX11_keep 24 = .ok (.bipush (-4), 2) := by decide +kernel
theorem dX11_keep_26 : decode cX11_keep 26 = .ok (.ireturn, 1) := by decide +kernel
theorem dX11_keep_27 : decode cX11_keep 27 = .ok (.aload_n 0, 1) := by decide +kernel
theorem dX11_keep_28 : decode cX11_keep 28 = .ok (.getfield 26, 3) := by decide +kernel
theorem dX11_keep_31 : decode cX11_keep 31 = .ok (.aload_n 0, 1) := by decide +kernel
theorem dX11_keep_32 : decode cX11_keep 32 = .ok (.getfield 85, 3) := by decide +kernel
theorem dX11_keep_35 : decode cX11_keep 35 = .ok (.aload_n 0, 1) := by decide +kernel
theorem dX11_keep_36 : decode cX11_keep 36 = .ok (.getfield 19, 3) := by decide +kernel
theorem dX11_keep_39 : decode cX11_keep 39 = .ok (.getfield 140, 3) := by decide +kernel
theorem dX11_keep_42 : decode cX11_keep 42 = .ok (.invokevirtual 147, 3) := by decide +kernel
theorem dX11_keep_45 : decode cX11_keep 45 = .ok (.ireturn, 1) := by decide +kernel
theorem dX11_base_0 : decode cX11_base 0 = .ok (.aload_n 0, 1) := by decide +kernel
theorem dX11_base_1 : decode cX11_base 1 = .ok (.getfield 26, 3) := by decide +kernel
theorem dX11_base_4 : decode cX11_base 4 = .ok (.iload_n 1, 1) := by decide +kernel
theorem dX11_base_5 : decode cX11_base 5 = .ok (.invokevirtual 150, 3) := by decide +kernel
theorem dX11_base_8 : decode cX11_base 8 = .ok (.ifCond .ne 5, 3) := by decide +kernel
theorem dX11_base_11 : decode cX11_base 11 = .ok (.iconst (-1), 1) := by decide +kernel
theorem dX11_base_12 : decode cX11_base 12 = .ok (.ireturn, 1) := by decide +kernel
theorem dX11_base_13 : decode cX11_base 13 = .ok (.aload_n 0, 1) := by decide +kernel
theorem dX11_base_14 : decode cX11_base 14 = .ok (.getfield 26, 3) := by decide +kernel
theorem dX11_base_17 : decode cX11_base 17 = .ok (.getfield 151, 3) := by decide +kernel
theorem dX11_base_20 : decode cX11_base 20 = .ok (.istore_n 2, 1) := by decide +kernel
theorem dX11_base_21 : decode cX11_base 21 = .ok (.aload_n 0, 1) := by decide +kernel
theorem dX11_base_22 : decode cX11_base 22 = .ok (.getfield 26, 3) := by decide +kernel
theorem dX11_base_25 : decode cX11_base 25 = .ok (.iload_n 1, 1) := by decide +kernel
theorem dX11_base_26 : decode cX11_base 26 = .ok (.putfield 151, 3) := by decide +kernel
theorem dX11_base_29 : decode cX11_base 29 = .ok (.iload_n 2, 1) := by decide +kernel
theorem dX11_base_30 : decode cX11_base 30 = .ok (.ireturn, 1) := by decide +kernel
theorem dX11_old_0 : decode cX11_old 0 = .ok (.aload_n 0, 1) := by decide +kernel
theorem dX11_old_1 : decode cX11_old 1 = .ok (.getfield 26, 3) := by decide +kernel
theorem dX11_old_4 : decode cX11_old 4 = .ok (.iload_n 1, 1) := by decide +kernel
theorem dX11_old_5 : decode cX11_old 5 = .ok (.invokevirtual 150, 3) := by decide +kernel
theorem dX11_old_8 : decode cX11_old 8 = .ok (.ifCond .eq 14, 3) := by decide +kernel
theorem dX11_old_11 : decode cX11_old 11 = .ok (.aload_n 0, 1) := by decide +kernel
theorem dX11_old_12 : decode cX11_old 12 = .ok (.getfield 12, 3) := by decide +kernel
theorem dX11_old_15 : decode cX11_old 15 = .ok (.iload_n 2, 1) := by decide +kernel
theorem dX11_old_16 : decode cX11_old 16 = .ok (.invokevirtual 106, 3) := by decide +kernel
theorem dX11_old_19 : decode cX11_old 19 = .ok (.ifCond .ne 5, 3) := by decide +kernel
theorem dX11_old_22 : decode cX11_old 22 = .ok (.iconst (-1), 1) := by decide +kernel
theorem dX11_old_23 : decode cX11_old 23 = .ok (.ireturn, 1) := by decide +kernel
theorem dX11_old_24 : decode cX11_old 24 = .ok (.aload_n 0, 1) := by decide +kernel
theorem dX11_old_25 : decode cX11_old 25 = .ok (.getfield 26, 3) := by decide +kernel
theorem dX11_old_28 : decode cX11_old 28 = .ok (.getfield 154, 3) := by decide +kernel
theorem dX11_old_31 : decode cX11_old 31 = .ok (.iload_n 1, 1) := by decide +kernel
theorem dX11_old_32 : decode cX11_old 32 = .ok (.aaload, 1) := by decide +kernel
theorem dX11_old_33 : decode cX11_old 33 = .ok (.iload_n 2, 1) := by decide +kernel
theorem dX11_old_34 : decode cX11_old 34 = .ok (.iaload, 1) := by decide +kernel
theorem dX11_old_35 : decode cX11_old 35 = .ok (.ireturn, 1) := by decide +kernel
theorem dX11_run_0 : decode cX11_run 0 = .ok (.aload_n 0, 1) := by decide +kernel
theorem dX11_run_1 : decode cX11_run 1 = .ok (.getfield 12, 3) := by decide +kernel
theorem dX11_run_4 : decode cX11_run 4 = .ok (.getfield 101, 3) := by decide +kernel
theorem dX11_run_7 : decode cX11_run 7 = .ok (.ifCond .ne 6, 3) := by decide +kernel
theorem dX11_run_10 : decode cX11_run 10 = .ok (.bipush (-3), 2) := by decide +kernel
theorem dX11_run_12 : decode cX11_run 12 = .ok (.ireturn, 1) := by decide +kernel
theorem dX11_run_13 : decode cX11_run 13 = .ok (.aload_n 0, 1) := by decide +kernel
theorem dX11_run_14 : decode cX11_run 14 = .ok (.getfield 51, 3) := by decide +kernel
theorem dX11_run_17 : decode cX11_run 17 = .ok (.invokevirtual 157, 3) := by decide +kernel
theorem dX11_run_20 : decode cX11_run 20 = .ok (.aload_n 0, 1) := by decide +kernel
theorem dX11_run_21 : decode cX11_run 21 = .ok (.getfield 58, 3) := by decide +kernel
theorem dX11_run_24 : decode cX11_run 24 = .ok (.aload_n 0, 1) := by decide +kernel
theorem dX11_run_25 : decode cX11_run 25 = .ok (.getfield 89, 3) := by decide +kernel
theorem dX11_run_28 : decode cX11_run 28 = .ok (.invokevirtual 160, 3) := by decide +kernel
theorem dX11_run_31 : decode cX11_run 31 = .ok (.aload_n 0, 1) := by decide +kernel
theorem dX11_run_32 : decode cX11_run 32 = .ok (.getfield 51, 3) := by decide +kernel
theorem dX11_run_35 : decode cX11_run 35 = .ok (.aload_n 0, 1) := by decide +kernel
theorem dX11_run_36 : decode cX11_run 36 = .ok (.getfield 58, 3) := by decide +kernel
theorem dX11_run_39 : decode cX11_run 39 = .ok (.invokevirtual 164, 3) := by decide +kernel
theorem dX11_run_42 : decode cX11_run 42 = .ok (.aload_n 0, 1) := by decide +kernel
theorem dX11_run_43 : decode cX11_run 43 = .ok (.getfield 58, 3) := by decide +kernel
theorem dX11_run_46 : decode cX11_run 46 = .ok (.getfield 168, 3) := by decide +kernel
theorem dX11_run_49 : decode cX11_run 49 = .ok (.ifCond .ne 6, 3) := by decide +kernel
theorem dX11_run_52 : decode cX11_run 52 = .ok (.bipush (-5), 2) := by decide +kernel
theorem dX11_run_54 : decode cX11_run 54 = .ok (.ireturn, 1) := by decide +kernel
theorem dX11_run_55 : decode cX11_run 55 = .ok (.aload_n 0, 1) := by decide +kernel
theorem dX11_run_56 : decode cX11_run 56 = .ok (.getfield 33, 3) := by decide +kernel
theorem dX11_run_59 : decode cX11_run 59 = .ok (.aload_n 0, 1) := by decide +kernel
theorem dX11_run_60 : decode cX11_run 60 = .ok (.getfield 85, 3) := by decide +kernel
theorem dX11_run_63 : decode cX11_run 63 = .ok (.aload_n 0, 1) := by decide +kernel
theorem dX11_run_64 : decode cX11_run 64 = .ok (.getfield 12, 3) := by decide +kernel
theorem dX11_run_67 : decode cX11_run 67 = .ok (.getfield 101, 3) := by decide +kernel
theorem dX11_run_70 : decode cX11_run 70 = .ok (.invokevirtual 171, 3) := by decide +kernel
theorem dX11_run_73 : decode cX11_run 73 = .ok (.aload_n 0, 1) := by decide +kernel
theorem dX11_run_74 : decode cX11_run 74 = .ok (.getfield 58, 3) := by decide +kernel
theorem dX11_run_77 : decode cX11_run 77 = .ok (.getfield 175, 3) := by decide +kernel
theorem dX11_run_80 : decode cX11_run 80 = .ok (.iconst 0, 1) := by decide +kernel
theorem dX11_run_81 : decode cX11_run 81 = .ok (.aload_n 0, 1) := by decide +kernel
theorem dX11_run_82 : decode cX11_run 82 = .ok (.getfield 85, 3) := by decide +kernel
theorem dX11_run_85 : decode cX11_run 85 = .ok (.iconst 0, 1) := by decide +kernel
theorem dX11_run_86 : decode cX11_run 86 = .ok (.aload_n 0, 1) := by decide +kernel
theorem dX11_run_87 : decode cX11_run 87 = .ok (.getfield 12, 3) := by decide +kernel
theorem dX11_run_90 : decode cX11_run 90 = .ok (.getfield 101, 3) := by decide +kernel
theorem dX11_run_93 : decode cX11_run 93 = .ok (.invokestatic 178, 3) := by decide +kernel
theorem dX11_run_96 : decode cX11_run 96 = .ok (.aload_n 0, 1) := by decide +kernel
theorem dX11_run_97 : decode cX11_run 97 = .ok (.getfield 58, 3) := by decide +kernel
theorem dX11_run_100 : decode cX11_run 100 = .ok (.getfield 184, 3) := by decide +kernel
theorem dX11_run_103 : decode cX11_run 103 = .ok (.ireturn, 1) := by decide +kernel
theorem dX11_undo_0 : decode cX11_undo 0 = .ok (.aload_n 0, 1) := by decide +kernel
theorem dX11_undo_1 : decode cX11_undo 1 = .ok (.getfield 33, 3) := by decide +kernel
theorem dX11_undo_4 : decode cX11_undo 4 = .ok (.getfield 187, 3) := by decide +kernel
theorem dX11_undo_7 : decode cX11_undo 7 = .ok (.ifCond .ne 6, 3) := by decide +kernel
theorem dX11_undo_10 : decode cX11_undo 10 = .ok (.bipush (-3), 2) := by decide +kernel
theorem dX11_undo_12 : decode cX11_undo 12 = .ok (.ireturn, 1) := by decide +kernel
theorem dX11_undo_13 : decode cX11_undo 13 = .ok (.aload_n 0, 1) := by decide +kernel
theorem dX11_undo_14 : decode cX11_undo 14 = .ok (.getfield 33, 3) := by decide +kernel
theorem dX11_undo_17 : decode cX11_undo 17 = .ok (.aload_n 0, 1) := by decide +kernel
theorem dX11_undo_18 : decode cX11_undo 18 = .ok (.getfield 85, 3) := by decide +kernel
theorem dX11_undo_21 : decode cX11_undo 21 = .ok (.invokevirtual 188, 3) := by decide +kernel
theorem dX11_undo_24 : decode cX11_undo 24 = .ok (.aload_n 0, 1) := by decide +kernel
theorem dX11_undo_25 : decode cX11_undo 25 = .ok (.getfield 33, 3) := by decide +kernel
theorem dX11_undo_28 : decode cX11_undo 28 = .ok (.getfield 187, 3) := by decide +kernel
theorem dX11_undo_31 : decode cX11_undo 31 = .ok (.ireturn, 1) := by decide +kernel
theorem dX11_told_0 : decode cX11_told 0 = .ok (.iload_n 1, 1) := by decide +kernel
theorem dX11_told_1 : decode cX11_told 1 = .ok (.tableswitch 139 0 7 #[47, 59, 71, 86, 98, 106, 111, 131], 47) := by decide +kernel
theorem dX11_told_48 : decode cX11_told 48 = .ok (.aload_n 0, 1) := by decide +kernel
theorem dX11_told_49 : decode cX11_told 49 = .ok (.getfield 42, 3) := by decide +kernel
theorem dX11_told_52 : decode cX11_told 52 = .ok (.aload_n 0, 1) := by decide +kernel
theorem dX11_told_53 : decode cX11_told 53 = .ok (.getfield 85, 3) := by decide +kernel
theorem dX11_told_56 : decode cX11_told 56 = .ok (.invokevirtual 192, 3) := by decide +kernel
theorem dX11_told_59 : decode cX11_told 59 = .ok (.ireturn, 1) := by decide +kernel
theorem dX11_told_60 : decode cX11_told 60 = .ok (.aload_n 0, 1) := by decide +kernel
theorem dX11_told_61 : decode cX11_told 61 = .ok (.getfield 42, 3) := by decide +kernel
theorem dX11_told_64 : decode cX11_told 64 = .ok (.aload_n 0, 1) := by decide +kernel
theorem dX11_told_65 : decode cX11_told 65 = .ok (.getfield 85, 3) := by decide +kernel
theorem dX11_told_68 : decode cX11_told 68 = .ok (.invokevirtual 196, 3) := by decide +kernel
theorem dX11_told_71 : decode cX11_told 71 = .ok (.ireturn, 1) := by decide +kernel
theorem dX11_told_72 : decode cX11_told 72 = .ok (.aload_n 0, 1) := by decide +kernel
theorem dX11_told_73 : decode cX11_told 73 = .ok (.getfield 42, 3) := by decide +kernel
theorem dX11_told_76 : decode cX11_told 76 = .ok (.aload_n 0, 1) := by decide +kernel
theorem dX11_told_77 : decode cX11_told 77 = .ok (.getfield 85, 3) := by decide +kernel
theorem dX11_told_80 : decode cX11_told 80 = .ok (.invokevirtual 199, 3) := by decide +kernel
theorem dX11_told_83 : decode cX11_told 83 = .ok (.invokestatic 202, 3) := by decide +kernel
theorem dX11_told_86 : decode cX11_told 86 = .ok (.ireturn, 1) := by decide +kernel
theorem dX11_told_87 : decode cX11_told 87 = .ok (.aload_n 0, 1) := by decide +kernel
theorem dX11_told_88 : decode cX11_told 88 = .ok (.getfield 42, 3) := by decide +kernel
theorem dX11_told_91 : decode cX11_told 91 = .ok (.aload_n 0, 1) := by decide +kernel
theorem dX11_told_92 : decode cX11_told 92 = .ok (.getfield 85, 3) := by decide +kernel
theorem dX11_told_95 : decode cX11_told 95 = .ok (.invokevirtual 199, 3) := by decide +kernel
theorem dX11_told_98 : decode cX11_told 98 = .ok (.ireturn, 1) := by decide +kernel
theorem dX11_told_99 : decode cX11_told 99 = .ok (.aload_n 0, 1) := by decide +kernel
theorem dX11_told_100 : decode cX11_told 100 = .ok (.invokevirtual 207, 3) := by decide +kernel
theorem dX11_told_103 : decode cX11_told 103 = .ok (.invokestatic 202, 3) := by decide +kernel
theorem dX11_told_106 : decode cX11_told 106 = .ok (.ireturn, 1) := by decide +kernel
theorem dX11_told_107 : decode cX11_told 107 = .ok (.aload_n 0, 1) := by decide +kernel
theorem dX11_told_108 : decode cX11_told 108 = .ok (.invokevirtual 207, 3) := by decide +kernel
theorem dX11_told_111 : decode cX11_told 111 = .ok (.ireturn, 1) := by decide +kernel
theorem dX11_told_112 : decode cX11_told 112 = .ok (.aload_n 0, 1) := by decide +kernel
theorem dX11_told_113 : decode cX11_told 113 = .ok (.getfield 42, 3) := by decide +kernel
theorem dX11_told_116 : decode cX11_told 116 = .ok (.aload_n 0, 1) := by decide +kernel
theorem dX11_told_117 : decode cX11_told 117 = .ok (.getfield 85, 3) := by decide +kernel
theorem dX11_told_120 : decode cX11_told 120 = .ok (.invokevirtual 211, 3) := by decide +kernel
theorem dX11_told_123 : decode cX11_told 123 = .ok (.ifCond .eq 7, 3) := by decide +kernel
theorem dX11_told_126 : decode cX11_told 126 = .ok (.iconst 1, 1) := by decide +kernel
theorem dX11_told_127 : decode cX11_told 127 = .ok (.goto 4, 3) := by decide +kernel
theorem dX11_told_130 : decode cX11_told 130 = .ok (.iconst 0, 1) := by decide +kernel
theorem dX11_told_131 : decode cX11_told 131 = .ok (.ireturn, 1) := by decide +kernel
theorem dX11_told_132 : decode cX11_told 132 = .ok (.aload_n 0, 1) := by decide +kernel
theorem dX11_told_133 : decode cX11_told 133 = .ok (.getfield 26, 3) := by decide +kernel
theorem dX11_told_136 : decode cX11_told 136 = .ok (.getfield 151, 3) := by decide +kernel
theorem dX11_told_139 : decode cX11_told 139 = .ok (.ireturn, 1) := by decide +kernel
theorem dX11_told_140 : decode cX11_told 140 = .ok (.bipush (-2), 2) := by decide +kernel
theorem dX11_told_142 : decode cX11_told 142 = .ok (.ireturn, 1) := by decide +kernel
theorem dX11_near_0 : decode cX11_near 0 = .ok (.iload_n 1, 1) := by decide +kernel
theorem dX11_near_1 : decode cX11_near 1 = .ok (.iconst 0, 1) := by decide +kernel
theorem dX11_near_2 : decode cX11_near 2 = .ok (.sipush 2000, 3) := by decide +kernel
theorem dX11_near_5 : decode cX11_near 5 = .ok (.invokestatic 93, 3) := by decide +kernel
theorem dX11_near_8 : decode cX11_near 8 = .ok (.ifCond .ne 6, 3) := by decide +kernel
theorem dX11_near_11 : decode cX11_near 11 = .ok (.bipush (-2), 2) := by decide +kernel
theorem dX11_near_13 : decode cX11_near 13 = .ok (.ireturn, 1) := by decide +kernel
theorem dX11_near_14 : decode cX11_near 14 = .ok (.aload_n 0, 1) := by decide +kernel
theorem dX11_near_15 : decode cX11_near 15 = .ok (.getfield 12, 3) := by decide +kernel
theorem dX11_near_18 : decode cX11_near 18 = .ok (.getfield 101, 3) := by decide +kernel
theorem dX11_near_21 : decode cX11_near 21 = .ok (.ifCond .ne 6, 3) := by decide +kernel
theorem dX11_near_24 : decode cX11_near 24 = .ok (.bipush (-3), 2) := by decide +kernel
theorem dX11_near_26 : decode cX11_near 26 = .ok (.ireturn, 1) := by decide +kernel
theorem dX11_near_27 : decode cX11_near 27 = .ok (.aload_n 0, 1) := by decide +kernel
theorem dX11_near_28 : decode cX11_near 28 = .ok (.getfield 51, 3) := by decide +kernel
theorem dX11_near_31 : decode cX11_near 31 = .ok (.invokevirtual 157, 3) := by decide +kernel
theorem dX11_near_34 : decode cX11_near 34 = .ok (.aload_n 0, 1) := by decide +kernel
theorem dX11_near_35 : decode cX11_near 35 = .ok (.getfield 65, 3) := by decide +kernel
theorem dX11_near_38 : decode cX11_near 38 = .ok (.iload_n 1, 1) := by decide +kernel
theorem dX11_near_39 : decode cX11_near 39 = .ok (.invokevirtual 215, 3) := by decide +kernel
theorem dX11_near_42 : decode cX11_near 42 = .ok (.aload_n 0, 1) := by decide +kernel
theorem dX11_near_43 : decode cX11_near 43 = .ok (.getfield 51, 3) := by decide +kernel
theorem dX11_near_46 : decode cX11_near 46 = .ok (.aload_n 0, 1) := by decide +kernel
theorem dX11_near_47 : decode cX11_near 47 = .ok (.getfield 65, 3) := by decide +kernel
theorem dX11_near_50 : decode cX11_near 50 = .ok (.invokevirtual 164, 3) := by decide +kernel
theorem dX11_near_53 : decode cX11_near 53 = .ok (.aload_n 0, 1) := by decide +kernel
theorem dX11_near_54 : decode cX11_near 54 = .ok (.getfield 65, 3) := by decide +kernel
theorem dX11_near_57 : decode cX11_near 57 = .ok (.getfield 218, 3) := by decide +kernel
theorem dX11_near_60 : decode cX11_near 60 = .ok (.ireturn, 1) := by decide +kernel
theorem dX11_least_0 : decode cX11_least 0 = .ok (.aload_n 0, 1) := by decide +kernel
theorem dX11_least_1 : decode cX11_least 1 = .ok (.getfield 12, 3) := by decide +kernel
theorem dX11_least_4 : decode cX11_least 4 = .ok (.getfield 101, 3) := by decide +kernel
theorem dX11_least_7 : decode cX11_least 7 = .ok (.ifCond .ne 6, 3) := by decide +kernel
theorem dX11_least_10 : decode cX11_least 10 = .ok (.bipush (-3), 2) := by decide +kernel
theorem dX11_least_12 : decode cX11_least 12 = .ok (.ireturn, 1) := by decide +kernel
theorem dX11_least_13 : decode cX11_least 13 = .ok (.aload_n 0, 1) := by decide +kernel
theorem dX11_least_14 : decode cX11_least 14 = .ok (.getfield 51, 3) := by decide +kernel
theorem dX11_least_17 : decode cX11_least 17 = .ok (.invokevirtual 157, 3) := by decide +kernel
theorem dX11_least_20 : decode cX11_least 20 = .ok (.aload_n 0, 1) := by decide +kernel
theorem dX11_least_21 : decode cX11_least 21 = .ok (.invokevirtual 219, 3) := by decide +kernel
theorem dX11_least_24 : decode cX11_least 24 = .ok (.ireturn, 1) := by decide +kernel
theorem dX11_without_0 : decode cX11_without 0 = .ok (.aload_n 0, 1) := by decide +kernel
theorem dX11_without_1 : decode cX11_without 1 = .ok (.getfield 19, 3) := by decide +kernel
theorem dX11_without_4 : decode cX11_without 4 = .ok (.iload_n 1, 1) := by decide +kernel
theorem dX11_without_5 : decode cX11_without 5 = .ok (.invokevirtual 222, 3) := by decide +kernel
theorem dX11_without_8 : decode cX11_without 8 = .ok (.ifCond .ne 5, 3) := by decide +kernel
theorem dX11_without_11 : decode cX11_without 11 = .ok (.iconst (-1), 1) := by decide +kernel
theorem dX11_without_12 : decode cX11_without 12 = .ok (.ireturn, 1) := by decide +kernel
theorem dX11_without_13 : decode cX11_without 13 = .ok (.aload_n 0, 1) := by decide +kernel
theorem dX11_without_14 : decode cX11_without 14 = .ok (.getfield 12, 3) := by decide +kernel
theorem dX11_without_17 : decode cX11_without 17 = .ok (.getfield 101, 3) := by decide +kernel
theorem dX11_without_20 : decode cX11_without 20 = .ok (.ifCond .ne 6, 3) := by decide +kernel
theorem dX11_without_23 : decode cX11_without 23 = .ok (.bipush (-3), 2) := by decide +kernel
theorem dX11_without_25 : decode cX11_without 25 = .ok (.ireturn, 1) := by decide +kernel
theorem dX11_without_26 : decode cX11_without 26 = .ok (.aload_n 0, 1) := by decide +kernel
theorem dX11_without_27 : decode cX11_without 27 = .ok (.getfield 51, 3) := by decide +kernel
theorem dX11_without_30 : decode cX11_without 30 = .ok (.invokevirtual 157, 3) := by decide +kernel
theorem dX11_without_33 : decode cX11_without 33 = .ok (.aload_n 0, 1) := by decide +kernel
theorem dX11_without_34 : decode cX11_without 34 = .ok (.getfield 51, 3) := by decide +kernel
theorem dX11_without_37 : decode cX11_without 37 = .ok (.iload_n 1, 1) := by decide +kernel
theorem dX11_without_38 : decode cX11_without 38 = .ok (.invokevirtual 223, 3) := by decide +kernel
theorem dX11_without_41 : decode cX11_without 41 = .ok (.aload_n 0, 1) := by decide +kernel
theorem dX11_without_42 : decode cX11_without 42 = .ok (.invokevirtual 219, 3) := by decide +kernel
theorem dX11_without_45 : decode cX11_without 45 = .ok (.ireturn, 1) := by decide +kernel
theorem dX11_spare_0 : decode cX11_spare 0 = .ok (.iload_n 1, 1) := by decide +kernel
theorem dX11_spare_1 : decode cX11_spare 1 = .ok (.iconst 0, 1) := by decide +kernel
theorem dX11_spare_2 : decode cX11_spare 2 = .ok (.iconst 3, 1) := by decide +kernel
theorem dX11_spare_3 : decode cX11_spare 3 = .ok (.invokestatic 93, 3) := by decide +kernel
theorem dX11_spare_6 : decode cX11_spare 6 = .ok (.ifCond .ne 6, 3) := by decide +kernel
theorem dX11_spare_9 : decode cX11_spare 9 = .ok (.bipush (-2), 2) := by decide +kernel
theorem dX11_spare_11 : decode cX11_spare 11 = .ok (.ireturn, 1) := by decide +kernel
theorem dX11_spare_12 : decode cX11_spare 12 = .ok (.aload_n 0, 1) := by decide +kernel
theorem dX11_spare_13 : decode cX11_spare 13 = .ok (.getfield 12, 3) := by decide +kernel
theorem dX11_spare_16 : decode cX11_spare 16 = .ok (.getfield 101, 3) := by decide +kernel
theorem dX11_spare_19 : decode cX11_spare 19 = .ok (.ifCond .ne 6, 3) := by decide +kernel
theorem dX11_spare_22 : decode cX11_spare 22 = .ok (.bipush (-3), 2) := by decide +kernel
theorem dX11_spare_24 : decode cX11_spare 24 = .ok (.ireturn, 1) := by decide +kernel
theorem dX11_spare_25 : decode cX11_spare 25 = .ok (.aload_n 0, 1) := by decide +kernel
theorem dX11_spare_26 : decode cX11_spare 26 = .ok (.getfield 51, 3) := by decide +kernel
theorem dX11_spare_29 : decode cX11_spare 29 = .ok (.invokevirtual 157, 3) := by decide +kernel
theorem dX11_spare_32 : decode cX11_spare 32 = .ok (.aload_n 0, 1) := by decide +kernel
theorem dX11_spare_33 : decode cX11_spare 33 = .ok (.getfield 51, 3) := by decide +kernel
theorem dX11_spare_36 : decode cX11_spare 36 = .ok (.iload_n 1, 1) := by decide +kernel
theorem dX11_spare_37 : decode cX11_spare 37 = .ok (.invokevirtual 226, 3) := by decide +kernel
theorem dX11_spare_40 : decode cX11_spare 40 = .ok (.aload_n 0, 1) := by decide +kernel
theorem dX11_spare_41 : decode cX11_spare 41 = .ok (.invokevirtual 219, 3) := by decide +kernel
theorem dX11_spare_44 : decode cX11_spare 44 = .ok (.ireturn, 1) := by decide +kernel
theorem dX11_why_0 : decode cX11_why 0 = .ok (.aload_n 0, 1) := by decide +kernel
theorem dX11_why_1 : decode cX11_why 1 = .ok (.getfield 12, 3) := by decide +kernel
theorem dX11_why_4 : decode cX11_why 4 = .ok (.iload_n 1, 1) := by decide +kernel
theorem dX11_why_5 : decode cX11_why 5 = .ok (.invokevirtual 106, 3) := by decide +kernel
theorem dX11_why_8 : decode cX11_why 8 = .ok (.ifCond .ne 5, 3) := by decide +kernel
theorem dX11_why_11 : decode cX11_why 11 = .ok (.iconst (-1), 1) := by decide +kernel
theorem dX11_why_12 : decode cX11_why 12 = .ok (.ireturn, 1) := by decide +kernel
theorem dX11_why_13 : decode cX11_why 13 = .ok (.aload_n 0, 1) := by decide +kernel
theorem dX11_why_14 : decode cX11_why 14 = .ok (.getfield 26, 3) := by decide +kernel
theorem dX11_why_17 : decode cX11_why 17 = .ok (.iload_n 1, 1) := by decide +kernel
theorem dX11_why_18 : decode cX11_why 18 = .ok (.aload_n 0, 1) := by decide +kernel
theorem dX11_why_19 : decode cX11_why 19 = .ok (.getfield 85, 3) := by decide +kernel
theorem dX11_why_22 : decode cX11_why 22 = .ok (.iload_n 1, 1) := by decide +kernel
theorem dX11_why_23 : decode cX11_why 23 = .ok (.iaload, 1) := by decide +kernel
theorem dX11_why_24 : decode cX11_why 24 = .ok (.invokevirtual 229, 3) := by decide +kernel
theorem dX11_why_27 : decode cX11_why 27 = .ok (.ifCond .ne 6, 3) := by decide +kernel
theorem dX11_why_30 : decode cX11_why 30 = .ok (.bipush (-3), 2) := by decide +kernel
theorem dX11_why_32 : decode cX11_why 32 = .ok (.ireturn, 1) := by decide +kernel
theorem dX11_why_33 : decode cX11_why 33 = .ok (.iconst 0, 1) := by decide +kernel
theorem dX11_why_34 : decode cX11_why 34 = .ok (.istore_n 2, 1) := by decide +kernel
theorem dX11_why_35 : decode cX11_why 35 = .ok (.iload_n 2, 1) := by decide +kernel
theorem dX11_why_36 : decode cX11_why 36 = .ok (.aload_n 0, 1) := by decide +kernel
theorem dX11_why_37 : decode cX11_why 37 = .ok (.getfield 19, 3) := by decide +kernel
theorem dX11_why_40 : decode cX11_why 40 = .ok (.getfield 130, 3) := by decide +kernel
theorem dX11_why_43 : decode cX11_why 43 = .ok (.if_icmp .ge 40, 3) := by decide +kernel
theorem dX11_why_46 : decode cX11_why 46 = .ok (.aload_n 0, 1) := by decide +kernel
theorem dX11_why_47 : decode cX11_why 47 = .ok (.getfield 19, 3) := by decide +kernel
theorem dX11_why_50 : decode cX11_why 50 = .ok (.getfield 140, 3) := by decide +kernel
theorem dX11_why_53 : decode cX11_why 53 = .ok (.iload_n 2, 1) := by decide +kernel
theorem dX11_why_54 : decode cX11_why 54 = .ok (.iaload, 1) := by decide +kernel
theorem dX11_why_55 : decode cX11_why 55 = .ok (.aload_n 0, 1) := by decide +kernel
theorem dX11_why_56 : decode cX11_why 56 = .ok (.getfield 26, 3) := by decide +kernel
theorem dX11_why_59 : decode cX11_why 59 = .ok (.iload_n 2, 1) := by decide +kernel
theorem dX11_why_60 : decode cX11_why 60 = .ok (.invokevirtual 232, 3) := by decide +kernel
theorem dX11_why_63 : decode cX11_why 63 = .ok (.if_icmp .eq 14, 3) := by decide +kernel
theorem dX11_why_66 : decode cX11_why 66 = .ok (.aload_n 0, 1) := by decide +kernel
theorem dX11_why_67 : decode cX11_why 67 = .ok (.iload_n 2, 1) := by decide +kernel
theorem dX11_why_68 : decode cX11_why 68 = .ok (.iload_n 1, 1) := by decide +kernel
theorem dX11_why_69 : decode cX11_why 69 = .ok (.invokevirtual 235, 3) := by decide +kernel
theorem dX11_why_72 : decode cX11_why 72 = .ok (.ifCond .eq 5, 3) := by decide +kernel
theorem dX11_why_75 : decode cX11_why 75 = .ok (.iload_n 2, 1) := by decide +kernel
theorem dX11_why_76 : decode cX11_why 76 = .ok (.ireturn, 1) := by decide +kernel
theorem dX11_why_77 : decode cX11_why 77 = .ok (.iinc 2 1, 3) := by decide +kernel
theorem dX11_why_80 : decode cX11_why 80 = .ok (.goto (-45), 3) := by decide +kernel
theorem dX11_why_83 : decode cX11_why 83 = .ok (.bipush (-5), 2) := by decide +kernel
theorem dX11_why_85 : decode cX11_why 85 = .ok (.ireturn, 1) := by decide +kernel
theorem dX11_way_0 : decode cX11_way 0 = .ok (.aload_n 0, 1) := by decide +kernel
theorem dX11_way_1 : decode cX11_way 1 = .ok (.getfield 26, 3) := by decide +kernel
theorem dX11_way_4 : decode cX11_way 4 = .ok (.invokevirtual 238, 3) := by decide +kernel
theorem dX11_way_7 : decode cX11_way 7 = .ok (.ifCond .ne 6, 3) := by decide +kernel
theorem dX11_way_10 : decode cX11_way 10 = .ok (.bipush (-3), 2) := by decide +kernel
theorem dX11_way_12 : decode cX11_way 12 = .ok (.ireturn, 1) := by decide +kernel
theorem dX11_way_13 : decode cX11_way 13 = .ok (.aload_n 0, 1) := by decide +kernel
theorem dX11_way_14 : decode cX11_way 14 = .ok (.getfield 81, 3) := by decide +kernel
theorem dX11_way_17 : decode cX11_way 17 = .ok (.aload_n 0, 1) := by decide +kernel
theorem dX11_way_18 : decode cX11_way 18 = .ok (.getfield 85, 3) := by decide +kernel
theorem dX11_way_21 : decode cX11_way 21 = .ok (.aload_n 0, 1) := by decide +kernel
theorem dX11_way_22 : decode cX11_way 22 = .ok (.getfield 42, 3) := by decide +kernel
theorem dX11_way_25 : decode cX11_way 25 = .ok (.aload_n 0, 1) := by decide +kernel
theorem dX11_way_26 : decode cX11_way 26 = .ok (.getfield 85, 3) := by decide +kernel
theorem dX11_way_29 : decode cX11_way 29 = .ok (.invokevirtual 199, 3) := by decide +kernel
theorem dX11_way_32 : decode cX11_way 32 = .ok (.invokevirtual 242, 3) := by decide +kernel
theorem dX11_way_35 : decode cX11_way 35 = .ok (.iload_n 1, 1) := by decide +kernel
theorem dX11_way_36 : decode cX11_way 36 = .ok (.iconst 0, 1) := by decide +kernel
theorem dX11_way_37 : decode cX11_way 37 = .ok (.aload_n 0, 1) := by decide +kernel
theorem dX11_way_38 : decode cX11_way 38 = .ok (.getfield 81, 3) := by decide +kernel
theorem dX11_way_41 : decode cX11_way 41 = .ok (.getfield 245, 3) := by decide +kernel
theorem dX11_way_44 : decode cX11_way 44 = .ok (.iconst 1, 1) := by decide +kernel
theorem dX11_way_45 : decode cX11_way 45 = .ok (.isub, 1) := by decide +kernel
theorem dX11_way_46 : decode cX11_way 46 = .ok (.invokestatic 93, 3) := by decide +kernel
theorem dX11_way_49 : decode cX11_way 49 = .ok (.ifCond .eq 15, 3) := by decide +kernel
theorem dX11_way_52 : decode cX11_way 52 = .ok (.aload_n 0, 1) := by decide +kernel
theorem dX11_way_53 : decode cX11_way 53 = .ok (.getfield 81, 3) := by decide +kernel
theorem dX11_way_56 : decode cX11_way 56 = .ok (.getfield 248, 3) := by decide +kernel
theorem dX11_way_59 : decode cX11_way 59 = .ok (.iload_n 1, 1) := by decide +kernel
theorem dX11_way_60 : decode cX11_way 60 = .ok (.iaload, 1) := by decide +kernel
theorem dX11_way_61 : decode cX11_way 61 = .ok (.goto 5, 3) := by decide +kernel
theorem dX11_way_64 : decode cX11_way 64 = .ok (.bipush (-5), 2) := by decide +kernel
theorem dX11_way_66 : decode cX11_way 66 = .ok (.ireturn, 1) := by decide +kernel
theorem dX11_broken_0 : decode cX11_broken 0 = .ok (.aload_n 0, 1) := by decide +kernel
theorem dX11_broken_1 : decode cX11_broken 1 = .ok (.getfield 26, 3) := by decide +kernel
theorem dX11_broken_4 : decode cX11_broken 4 = .ok (.invokevirtual 238, 3) := by decide +kernel
theorem dX11_broken_7 : decode cX11_broken 7 = .ok (.ifCond .ne 6, 3) := by decide +kernel
theorem dX11_broken_10 : decode cX11_broken 10 = .ok (.bipush (-3), 2) := by decide +kernel
theorem dX11_broken_12 : decode cX11_broken 12 = .ok (.ireturn, 1) := by decide +kernel
theorem dX11_broken_13 : decode cX11_broken 13 = .ok (.aload_n 0, 1) := by decide +kernel
theorem dX11_broken_14 : decode cX11_broken 14 = .ok (.getfield 81, 3) := by decide +kernel
theorem dX11_broken_17 : decode cX11_broken 17 = .ok (.aload_n 0, 1) := by decide +kernel
theorem dX11_broken_18 : decode cX11_broken 18 = .ok (.getfield 85, 3) := by decide +kernel
theorem dX11_broken_21 : decode cX11_broken 21 = .ok (.aload_n 0, 1) := by decide +kernel
theorem dX11_broken_22 : decode cX11_broken 22 = .ok (.getfield 42, 3) := by decide +kernel
theorem dX11_broken_25 : decode cX11_broken 25 = .ok (.aload_n 0, 1) := by decide +kernel
theorem dX11_broken_26 : decode cX11_broken 26 = .ok (.getfield 85, 3) := by decide +kernel
theorem dX11_broken_29 : decode cX11_broken 29 = .ok (.invokevirtual 199, 3) := by decide +kernel
theorem dX11_broken_32 : decode cX11_broken 32 = .ok (.invokevirtual 242, 3) := by decide +kernel
theorem dX11_broken_35 : decode cX11_broken 35 = .ok (.iload_n 1, 1) := by decide +kernel
theorem dX11_broken_36 : decode cX11_broken 36 = .ok (.iconst 0, 1) := by decide +kernel
theorem dX11_broken_37 : decode cX11_broken 37 = .ok (.aload_n 0, 1) := by decide +kernel
theorem dX11_broken_38 : decode cX11_broken 38 = .ok (.getfield 81, 3) := by decide +kernel
theorem dX11_broken_41 : decode cX11_broken 41 = .ok (.getfield 245, 3) := by decide +kernel
theorem dX11_broken_44 : decode cX11_broken 44 = .ok (.iconst 1, 1) := by decide +kernel
theorem dX11_broken_45 : decode cX11_broken 45 = .ok (.isub, 1) := by decide +kernel
theorem dX11_broken_46 : decode cX11_broken 46 = .ok (.invokestatic 93, 3) := by decide +kernel
theorem dX11_broken_49 : decode cX11_broken 49 = .ok (.ifCond .eq 15, 3) := by decide +kernel
theorem dX11_broken_52 : decode cX11_broken 52 = .ok (.aload_n 0, 1) := by decide +kernel
theorem dX11_broken_53 : decode cX11_broken 53 = .ok (.getfield 81, 3) := by decide +kernel
theorem dX11_broken_56 : decode cX11_broken 56 = .ok (.getfield 251, 3) := by decide +kernel
theorem dX11_broken_59 : decode cX11_broken 59 = .ok (.iload_n 1, 1) := by decide +kernel
theorem dX11_broken_60 : decode cX11_broken 60 = .ok (.iaload, 1) := by decide +kernel
theorem dX11_broken_61 : decode cX11_broken 61 = .ok (.goto 5, 3) := by decide +kernel
theorem dX11_broken_64 : decode cX11_broken 64 = .ok (.bipush (-5), 2) := by decide +kernel
theorem dX11_broken_66 : decode cX11_broken 66 = .ok (.ireturn, 1) := by decide +kernel
theorem dX11_clash_0 : decode cX11_clash 0 = .ok (.aload_n 0, 1) := by decide +kernel
theorem dX11_clash_1 : decode cX11_clash 1 = .ok (.getfield 12, 3) := by decide +kernel
theorem dX11_clash_4 : decode cX11_clash 4 = .ok (.getfield 101, 3) := by decide +kernel
theorem dX11_clash_7 : decode cX11_clash 7 = .ok (.ifCond .ne 6, 3) := by decide +kernel
theorem dX11_clash_10 : decode cX11_clash 10 = .ok (.bipush (-3), 2) := by decide +kernel
theorem dX11_clash_12 : decode cX11_clash 12 = .ok (.ireturn, 1) := by decide +kernel
theorem dX11_clash_13 : decode cX11_clash 13 = .ok (.aload_n 0, 1) := by decide +kernel
theorem dX11_clash_14 : decode cX11_clash 14 = .ok (.getfield 51, 3) := by decide +kernel
theorem dX11_clash_17 : decode cX11_clash 17 = .ok (.invokevirtual 157, 3) := by decide +kernel
theorem dX11_clash_20 : decode cX11_clash 20 = .ok (.aload_n 0, 1) := by decide +kernel
theorem dX11_clash_21 : decode cX11_clash 21 = .ok (.getfield 72, 3) := by decide +kernel
theorem dX11_clash_24 : decode cX11_clash 24 = .ok (.aload_n 0, 1) := by decide +kernel
theorem dX11_clash_25 : decode cX11_clash 25 = .ok (.getfield 19, 3) := by decide +kernel
theorem dX11_clash_28 : decode cX11_clash 28 = .ok (.getfield 143, 3) := by decide +kernel
theorem dX11_clash_31 : decode cX11_clash 31 = .ok (.invokevirtual 254, 3) := by decide +kernel
theorem dX11_clash_34 : decode cX11_clash 34 = .ok (.aload_n 0, 1) := by decide +kernel
theorem dX11_clash_35 : decode cX11_clash 35 = .ok (.getfield 51, 3) := by decide +kernel
theorem dX11_clash_38 : decode cX11_clash 38 = .ok (.aload_n 0, 1) := by decide +kernel
theorem dX11_clash_39 : decode cX11_clash 39 = .ok (.getfield 72, 3) := by decide +kernel
theorem dX11_clash_42 : decode cX11_clash 42 = .ok (.invokevirtual 164, 3) := by decide +kernel
theorem dX11_clash_45 : decode cX11_clash 45 = .ok (.aload_n 0, 1) := by decide +kernel
theorem dX11_clash_46 : decode cX11_clash 46 = .ok (.getfield 72, 3) := by decide +kernel
theorem dX11_clash_49 : decode cX11_clash 49 = .ok (.invokevirtual 255, 3) := by decide +kernel
theorem dX11_clash_52 : decode cX11_clash 52 = .ok (.istore_n 2, 1) := by decide +kernel
theorem dX11_clash_53 : decode cX11_clash 53 = .ok (.iload_n 2, 1) := by decide +kernel
theorem dX11_clash_54 : decode cX11_clash 54 = .ok (.bipush (-5), 2) := by decide +kernel
theorem dX11_clash_56 : decode cX11_clash 56 = .ok (.if_icmp .ne 6, 3) := by decide +kernel
theorem dX11_clash_59 : decode cX11_clash 59 = .ok (.bipush (-5), 2) := by decide +kernel
theorem dX11_clash_61 : decode cX11_clash 61 = .ok (.ireturn, 1) := by decide +kernel
theorem dX11_clash_62 : decode cX11_clash 62 = .ok (.iload_n 1, 1) := by decide +kernel
theorem dX11_clash_63 : decode cX11_clash 63 = .ok (.iconst (-1), 1) := by decide +kernel
theorem dX11_clash_64 : decode cX11_clash 64 = .ok (.if_icmp .ne 10, 3) := by decide +kernel
theorem dX11_clash_67 : decode cX11_clash 67 = .ok (.iload_n 2, 1) := by decide +kernel
theorem dX11_clash_68 : decode cX11_clash 68 = .ok (.invokestatic 202, 3) := by decide +kernel
theorem dX11_clash_71 : decode cX11_clash 71 = .ok (.goto 8, 3) := by decide +kernel
theorem dX11_clash_74 : decode cX11_clash 74 = .ok (.iload_n 2, 1) := by decide +kernel
theorem dX11_clash_75 : decode cX11_clash 75 = .ok (.iload_n 1, 1) := by decide +kernel
theorem dX11_clash_76 : decode cX11_clash 76 = .ok (.invokestatic 258, 3) := by decide +kernel
theorem dX11_clash_79 : decode cX11_clash 79 = .ok (.ireturn, 1) := by decide +kernel
theorem dX11_within_0 : decode cX11_within 0 = .ok (.iload_n 0, 1) := by decide +kernel
theorem dX11_within_1 : decode cX11_within 1 = .ok (.iload_n 1, 1) := by decide +kernel
theorem dX11_within_2 : decode cX11_within 2 = .ok (.if_icmp .lt 12, 3) := by decide +kernel
theorem dX11_within_5 : decode cX11_within 5 = .ok (.iload_n 0, 1) := by decide +kernel
theorem dX11_within_6 : decode cX11_within 6 = .ok (.iload_n 2, 1) := by decide +kernel
theorem dX11_within_7 : decode cX11_within 7 = .ok (.if_icmp .gt 7, 3) := by decide +kernel
theorem dX11_within_10 : decode cX11_within 10 = .ok (.iconst 1, 1) := by decide +kernel
theorem dX11_within_11 : decode cX11_within 11 = .ok (.goto 4, 3) := by decide +kernel
theorem dX11_within_14 : decode cX11_within 14 = .ok (.iconst 0, 1) := by decide +kernel
theorem dX11_within_15 : decode cX11_within 15 = .ok (.ireturn, 1) := by decide +kernel
theorem dX11_bitAt_0 : decode cX11_bitAt 0 = .ok (.iconst 0, 1) := by decide +kernel
theorem dX11_bitAt_1 : decode cX11_bitAt 1 = .ok (.istore_n 2, 1) := by decide +kernel
theorem dX11_bitAt_2 : decode cX11_bitAt 2 = .ok (.iconst 0, 1) := by decide +kernel
theorem dX11_bitAt_3 : decode cX11_bitAt 3 = .ok (.istore_n 3, 1) := by decide +kernel
theorem dX11_bitAt_4 : decode cX11_bitAt 4 = .ok (.iload_n 3, 1) := by decide +kernel
theorem dX11_bitAt_5 : decode cX11_bitAt 5 = .ok (.bipush 12, 2) := by decide +kernel
theorem dX11_bitAt_7 : decode cX11_bitAt 7 = .ok (.if_icmp .ge 30, 3) := by decide +kernel
theorem dX11_bitAt_10 : decode cX11_bitAt 10 = .ok (.iload_n 0, 1) := by decide +kernel
theorem dX11_bitAt_11 : decode cX11_bitAt 11 = .ok (.iload_n 3, 1) := by decide +kernel
theorem dX11_bitAt_12 : decode cX11_bitAt 12 = .ok (.ishr, 1) := by decide +kernel
theorem dX11_bitAt_13 : decode cX11_bitAt 13 = .ok (.iconst 1, 1) := by decide +kernel
theorem dX11_bitAt_14 : decode cX11_bitAt 14 = .ok (.iand, 1) := by decide +kernel
theorem dX11_bitAt_15 : decode cX11_bitAt 15 = .ok (.ifCond .ne 6, 3) := by decide +kernel
theorem dX11_bitAt_18 : decode cX11_bitAt 18 = .ok (.goto 13, 3) := by decide +kernel
theorem dX11_bitAt_21 : decode cX11_bitAt 21 = .ok (.iload_n 2, 1) := by decide +kernel
theorem dX11_bitAt_22 : decode cX11_bitAt 22 = .ok (.iload_n 1, 1) := by decide +kernel
theorem dX11_bitAt_23 : decode cX11_bitAt 23 = .ok (.if_icmp .ne 5, 3) := by decide +kernel
theorem dX11_bitAt_26 : decode cX11_bitAt 26 = .ok (.iload_n 3, 1) := by decide +kernel
theorem dX11_bitAt_27 : decode cX11_bitAt 27 = .ok (.ireturn, 1) := by decide +kernel
theorem dX11_bitAt_28 : decode cX11_bitAt 28 = .ok (.iinc 2 1, 3) := by decide +kernel
theorem dX11_bitAt_31 : decode cX11_bitAt 31 = .ok (.iinc 3 1, 3) := by decide +kernel
theorem dX11_bitAt_34 : decode cX11_bitAt 34 = .ok (.goto (-30), 3) := by decide +kernel
theorem dX11_bitAt_37 : decode cX11_bitAt 37 = .ok (.bipush (-5), 2) := by decide +kernel
theorem dX11_bitAt_39 : decode cX11_bitAt 39 = .ok (.ireturn, 1) := by decide +kernel
theorem dX11_brokenNow_0 : decode cX11_brokenNow 0 = .ok (.aload_n 0, 1) := by decide +kernel
theorem dX11_brokenNow_1 : decode cX11_brokenNow 1 = .ok (.getfield 19, 3) := by decide +kernel
theorem dX11_brokenNow_4 : decode cX11_brokenNow 4 = .ok (.aload_n 0, 1) := by decide +kernel
theorem dX11_brokenNow_5 : decode cX11_brokenNow 5 = .ok (.getfield 85, 3) := by decide +kernel
theorem dX11_brokenNow_8 : decode cX11_brokenNow 8 = .ok (.aload_n 0, 1) := by decide +kernel
theorem dX11_brokenNow_9 : decode cX11_brokenNow 9 = .ok (.getfield 12, 3) := by decide +kernel
theorem dX11_brokenNow_12 : decode cX11_brokenNow 12 = .ok (.getfield 101, 3) := by decide +kernel
theorem dX11_brokenNow_15 : decode cX11_brokenNow 15 = .ok (.aload_n 0, 1) := by decide +kernel
theorem dX11_brokenNow_16 : decode cX11_brokenNow 16 = .ok (.getfield 19, 3) := by decide +kernel
theorem dX11_brokenNow_19 : decode cX11_brokenNow 19 = .ok (.getfield 140, 3) := by decide +kernel
theorem dX11_brokenNow_22 : decode cX11_brokenNow 22 = .ok (.invokevirtual 262, 3) := by decide +kernel
theorem dX11_brokenNow_25 : decode cX11_brokenNow 25 = .ok (.ireturn, 1) := by decide +kernel
theorem dX11_leastCost_0 : decode cX11_leastCost 0 = .ok (.aload_n 0, 1) := by decide +kernel
theorem dX11_leastCost_1 : decode cX11_leastCost 1 = .ok (.getfield 58, 3) := by decide +kernel
theorem dX11_leastCost_4 : decode cX11_leastCost 4 = .ok (.iconst 0, 1) := by decide +kernel
theorem dX11_leastCost_5 : decode cX11_leastCost 5 = .ok (.invokevirtual 160, 3) := by decide +kernel
theorem dX11_leastCost_8 : decode cX11_leastCost 8 = .ok (.aload_n 0, 1) := by decide +kernel
theorem dX11_leastCost_9 : decode cX11_leastCost 9 = .ok (.getfield 51, 3) := by decide +kernel
theorem dX11_leastCost_12 : decode cX11_leastCost 12 = .ok (.aload_n 0, 1) := by decide +kernel
theorem dX11_leastCost_13 : decode cX11_leastCost 13 = .ok (.getfield 58, 3) := by decide +kernel
theorem dX11_leastCost_16 : decode cX11_leastCost 16 = .ok (.invokevirtual 164, 3) := by decide +kernel
theorem dX11_leastCost_19 : decode cX11_leastCost 19 = .ok (.aload_n 0, 1) := by decide +kernel
theorem dX11_leastCost_20 : decode cX11_leastCost 20 = .ok (.getfield 58, 3) := by decide +kernel
theorem dX11_leastCost_23 : decode cX11_leastCost 23 = .ok (.getfield 168, 3) := by decide +kernel
theorem dX11_leastCost_26 : decode cX11_leastCost 26 = .ok (.ifCond .eq 13, 3) := by decide +kernel
theorem dX11_leastCost_29 : decode cX11_leastCost 29 = .ok (.aload_n 0, 1) := by decide +kernel
theorem dX11_leastCost_30 : decode cX11_leastCost 30 = .ok (.getfield 58, 3) := by decide +kernel
theorem dX11_leastCost_33 : decode cX11_leastCost 33 = .ok (.getfield 184, 3) := by decide +kernel
theorem dX11_leastCost_36 : decode cX11_leastCost 36 = .ok (.goto 5, 3) := by decide +kernel
theorem dX11_leastCost_39 : decode cX11_leastCost 39 = .ok (.bipush (-5), 2) := by decide +kernel
theorem dX11_leastCost_41 : decode cX11_leastCost 41 = .ok (.ireturn, 1) := by decide +kernel
theorem dX11_staysWithout_0 : decode cX11_staysWithout 0 = .ok (.aload_n 0, 1) := by decide +kernel
theorem dX11_staysWithout_1 : decode cX11_staysWithout 1 = .ok (.getfield 51, 3) := by decide +kernel
theorem dX11_staysWithout_4 : decode cX11_staysWithout 4 = .ok (.invokevirtual 157, 3) := by decide +kernel
theorem dX11_staysWithout_7 : decode cX11_staysWithout 7 = .ok (.aload_n 0, 1) := by decide +kernel
theorem dX11_staysWithout_8 : decode cX11_staysWithout 8 = .ok (.getfield 51, 3) := by decide +kernel
theorem dX11_staysWithout_11 : decode cX11_staysWithout 11 = .ok (.iload_n 1, 1) := by decide +kernel
theorem dX11_staysWithout_12 : decode cX11_staysWithout 12 = .ok (.invokevirtual 266, 3) := by decide +kernel
theorem dX11_staysWithout_15 : decode cX11_staysWithout 15 = .ok (.aload_n 0, 1) := by decide +kernel
theorem dX11_staysWithout_16 : decode cX11_staysWithout 16 = .ok (.getfield 58, 3) := by decide +kernel
theorem dX11_staysWithout_19 : decode cX11_staysWithout 19 = .ok (.aload_n 0, 1) := by decide +kernel
theorem dX11_staysWithout_20 : decode cX11_staysWithout 20 = .ok (.getfield 89, 3) := by decide +kernel
theorem dX11_staysWithout_23 : decode cX11_staysWithout 23 = .ok (.invokevirtual 160, 3) := by decide +kernel
theorem dX11_staysWithout_26 : decode cX11_staysWithout 26 = .ok (.aload_n 0, 1) := by decide +kernel
theorem dX11_staysWithout_27 : decode cX11_staysWithout 27 = .ok (.getfield 51, 3) := by decide +kernel
theorem dX11_staysWithout_30 : decode cX11_staysWithout 30 = .ok (.aload_n 0, 1) := by decide +kernel
theorem dX11_staysWithout_31 : decode cX11_staysWithout 31 = .ok (.getfield 58, 3) := by decide +kernel
theorem dX11_staysWithout_34 : decode cX11_staysWithout 34 = .ok (.invokevirtual 164, 3) := by decide +kernel
theorem dX11_staysWithout_37 : decode cX11_staysWithout 37 = .ok (.aload_n 0, 1) := by decide +kernel
theorem dX11_staysWithout_38 : decode cX11_staysWithout 38 = .ok (.getfield 58, 3) := by decide +kernel
theorem dX11_staysWithout_41 : decode cX11_staysWithout 41 = .ok (.getfield 168, 3) := by decide +kernel
theorem dX11_staysWithout_44 : decode cX11_staysWithout 44 = .ok (.ifCond .eq 27, 3) := by decide +kernel
theorem dX11_staysWithout_47 : decode cX11_staysWithout 47 = .ok (.aload_n 0, 1) := by decide +kernel
theorem dX11_staysWithout_48 : decode cX11_staysWithout 48 = .ok (.getfield 26, 3) := by decide +kernel
theorem dX11_staysWithout_51 : decode cX11_staysWithout 51 = .ok (.iload_n 2, 1) := by decide +kernel
theorem dX11_staysWithout_52 : decode cX11_staysWithout 52 = .ok (.aload_n 0, 1) := by decide +kernel
theorem dX11_staysWithout_53 : decode cX11_staysWithout 53 = .ok (.getfield 58, 3) := by decide +kernel
theorem dX11_staysWithout_56 : decode cX11_staysWithout 56 = .ok (.getfield 175, 3) := by decide +kernel
theorem dX11_staysWithout_59 : decode cX11_staysWithout 59 = .ok (.iload_n 2, 1) := by decide +kernel
theorem dX11_staysWithout_60 : decode cX11_staysWithout 60 = .ok (.iaload, 1) := by decide +kernel
theorem dX11_staysWithout_61 : decode cX11_staysWithout 61 = .ok (.invokevirtual 229, 3) := by decide +kernel
theorem dX11_staysWithout_64 : decode cX11_staysWithout 64 = .ok (.ifCond .ne 7, 3) := by decide +kernel
theorem dX11_staysWithout_67 : decode cX11_staysWithout 67 = .ok (.iconst 1, 1) := by decide +kernel
theorem dX11_staysWithout_68 : decode cX11_staysWithout 68 = .ok (.goto 4, 3) := by decide +kernel
theorem dX11_staysWithout_71 : decode cX11_staysWithout 71 = .ok (.iconst 0, 1) := by decide +kernel
theorem dX11_staysWithout_72 : decode cX11_staysWithout 72 = .ok (.ireturn, 1) := by decide +kernel
theorem dX12_init_0 : decode cX12_init 0 = .ok (.aload_n 0, 1) := by decide +kernel
theorem dX12_init_1 : decode cX12_init 1 = .ok (.invokespecial 1, 3) := by decide +kernel
theorem dX12_init_4 : decode cX12_init 4 = .ok (.aload_n 0, 1) := by decide +kernel
theorem dX12_init_5 : decode cX12_init 5 = .ok (.bipush 6, 2) := by decide +kernel
theorem dX12_init_7 : decode cX12_init 7 = .ok (.newarray .int, 2) := by decide +kernel
theorem dX12_init_9 : decode cX12_init 9 = .ok (.putfield 7, 3) := by decide +kernel
theorem dX12_init_12 : decode cX12_init 12 = .ok (.aload_n 0, 1) := by decide +kernel
theorem dX12_init_13 : decode cX12_init 13 = .ok (.bipush 6, 2) := by decide +kernel
theorem dX12_init_15 : decode cX12_init 15 = .ok (.newarray .int, 2) := by decide +kernel
theorem dX12_init_17 : decode cX12_init 17 = .ok (.putfield 13, 3) := by decide +kernel
theorem dX12_init_20 : decode cX12_init 20 = .ok (.aload_n 0, 1) := by decide +kernel
theorem dX12_init_21 : decode cX12_init 21 = .ok (.bipush 6, 2) := by decide +kernel
theorem dX12_init_23 : decode cX12_init 23 = .ok (.newarray .int, 2) := by decide +kernel
theorem dX12_init_25 : decode cX12_init 25 = .ok (.putfield 16, 3) := by decide +kernel
theorem dX12_init_28 : decode cX12_init 28 = .ok (.aload_n 0, 1) := by decide +kernel
theorem dX12_init_29 : decode cX12_init 29 = .ok (.bipush 6, 2) := by decide +kernel
theorem dX12_init_31 : decode cX12_init 31 = .ok (.newarray .int, 2) := by decide +kernel
theorem dX12_init_33 : decode cX12_init 33 = .ok (.putfield 19, 3) := by decide +kernel
theorem dX12_init_36 : decode cX12_init 36 = .ok (.aload_n 0, 1) := by decide +kernel
theorem dX12_init_37 : decode cX12_init 37 = .ok (.bipush 6, 2) := by decide +kernel
theorem dX12_init_39 : decode cX12_init 39 = .ok (.newarray .int, 2) := by decide +kernel
theorem dX12_init_41 : decode cX12_init 41 = .ok (.putfield 22, 3) := by decide +kernel
theorem dX12_init_44 : decode cX12_init 44 = .ok (.aload_n 0, 1) := by decide +kernel
theorem dX12_init_45 : decode cX12_init 45 = .ok (.bipush 6, 2) := by decide +kernel
theorem dX12_init_47 : decode cX12_init 47 = .ok (.newarray .int, 2) := by decide +kernel
theorem dX12_init_49 : decode cX12_init 49 = .ok (.putfield 25, 3) := by decide +kernel
theorem dX12_init_52 : decode cX12_init 52 = .ok (.aload_n 0, 1) := by decide +kernel
theorem dX12_init_53 : decode cX12_init 53 = .ok (.bipush 36, 2) := by decide +kernel
theorem dX12_init_55 : decode cX12_init 55 = .ok (.newarray .int, 2) := by decide +kernel
theorem dX12_init_57 : decode cX12_init 57 = .ok (.putfield 28, 3) := by decide +kernel
theorem dX12_init_60 : decode cX12_init 60 = .ok (.aload_n 0, 1) := by decide +kernel
theorem dX12_init_61 : decode cX12_init 61 = .ok (.bipush 6, 2) := by decide +kernel
theorem dX12_init_63 : decode cX12_init 63 = .ok (.newarray .int, 2) := by decide +kernel
theorem dX12_init_65 : decode cX12_init 65 = .ok (.putfield 31, 3) := by decide +kernel
theorem dX12_init_68 : decode cX12_init 68 = .ok (.aload_n 0, 1) := by decide +kernel
theorem dX12_init_69 : decode cX12_init 69 = .ok (.iconst 4, 1) := by decide +kernel
theorem dX12_init_70 : decode cX12_init 70 = .ok (.newarray .int, 2) := by decide +kernel
theorem dX12_init_72 : decode cX12_init 72 = .ok (.putfield 34, 3) := by decide +kernel
theorem dX12_init_75 : decode cX12_init 75 = .ok (.aload_n 0, 1) := by decide +kernel
theorem dX12_init_76 : decode cX12_init 76 = .ok (.bipush 6, 2) := by decide +kernel
theorem dX12_init_78 : decode cX12_init 78 = .ok (.newarray .int, 2) := by decide +kernel
theorem dX12_init_80 : decode cX12_init 80 = .ok (.putfield 37, 3) := by decide +kernel
theorem dX12_init_83 : decode cX12_init 83 = .ok (.aload_n 0, 1) := by decide +kernel
theorem dX12_init_84 : decode cX12_init 84 = .ok (.bipush 12, 2) := by decide +kernel
theorem dX12_init_86 : decode cX12_init 86 = .ok (.newarray .int, 2) := by decide +kernel
theorem dX12_init_88 : decode cX12_init 88 = .ok (.putfield 40, 3) := by decide +kernel
theorem dX12_init_91 : decode cX12_init 91 = .ok (.aload_n 0, 1) := by decide +kernel
theorem dX12_init_92 : decode cX12_init 92 = .ok (.bipush 12, 2) := by decide +kernel
theorem dX12_init_94 : decode cX12_init 94 = .ok (.newarray .int, 2) := by decide +kernel
theorem dX12_init_96 : decode cX12_init 96 = .ok (.putfield 43, 3) := by decide +kernel
theorem dX12_init_99 : decode cX12_init 99 = .ok (.aload_n 0, 1) := by decide +kernel
theorem dX12_init_100 : decode cX12_init 100 = .ok (.bipush 12, 2) := by decide +kernel
theorem dX12_init_102 : decode cX12_init 102 = .ok (.newarray .int, 2) := by decide +kernel
theorem dX12_init_104 : decode cX12_init 104 = .ok (.putfield 46, 3) := by decide +kernel
theorem dX12_init_107 : decode cX12_init 107 = .ok (.aload_n 0, 1) := by decide +kernel
theorem dX12_init_108 : decode cX12_init 108 = .ok (.bipush 12, 2) := by decide +kernel
theorem dX12_init_110 : decode cX12_init 110 = .ok (.newarray .int, 2) := by decide +kernel
theorem dX12_init_112 : decode cX12_init 112 = .ok (.putfield 49, 3) := by decide +kernel
theorem dX12_init_115 : decode cX12_init 115 = .ok (.aload_n 0, 1) := by decide +kernel
theorem dX12_init_116 : decode cX12_init 116 = .ok (.bipush 18, 2) := by decide +kernel
theorem dX12_init_118 : decode cX12_init 118 = .ok (.newarray .int, 2) := by decide +kernel
theorem dX12_init_120 : decode cX12_init 120 = .ok (.putfield 52, 3) := by decide +kernel
theorem dX12_init_123 : decode cX12_init 123 = .ok (.aload_n 0, 1) := by decide +kernel
theorem dX12_init_124 : decode cX12_init 124 = .ok (.bipush 18, 2) := by decide +kernel
theorem dX12_init_126 : decode cX12_init 126 = .ok (.newarray .int, 2) := by decide +kernel
theorem dX12_init_128 : decode cX12_init 128 = .ok (.putfield 55, 3) := by decide +kernel
theorem dX12_init_131 : decode cX12_init 131 = .ok (.aload_n 0, 1) := by decide +kernel
theorem dX12_init_132 : decode cX12_init 132 = .ok (.bipush (-5), 2) := by decide +kernel
theorem dX12_init_134 : decode cX12_init 134 = .ok (.putfield 58, 3) := by decide +kernel
theorem dX12_init_137 : decode cX12_init 137 = .ok (.aload_n 0, 1) := by decide +kernel
theorem dX12_init_138 : decode cX12_init 138 = .ok (.bipush 8, 2) := by decide +kernel
theorem dX12_init_140 : decode cX12_init 140 = .ok (.newarray .int, 2) := by decide +kernel
theorem dX12_init_142 : decode cX12_init 142 = .ok (.putfield 62, 3) := by decide +kernel
theorem dX12_init_145 : decode cX12_init 145 = .ok (.aload_n 0, 1) := by decide +kernel
theorem dX12_init_146 : decode cX12_init 146 = .ok (.bipush 48, 2) := by decide +kernel
theorem dX12_init_148 : decode cX12_init 148 = .ok (.newarray .int, 2) := by decide +kernel
theorem dX12_init_150 : decode cX12_init 150 = .ok (.putfield 65, 3) := by decide +kernel
theorem dX12_init_153 : decode cX12_init 153 = .ok (.aload_n 0, 1) := by decide +kernel
theorem dX12_init_154 : decode cX12_init 154 = .ok (.bipush 6, 2) := by decide +kernel
theorem dX12_init_156 : decode cX12_init 156 = .ok (.newarray .int, 2) := by decide +kernel
theorem dX12_init_158 : decode cX12_init 158 = .ok (.putfield 68, 3) := by decide +kernel
theorem dX12_init_161 : decode cX12_init 161 = .ok (.aload_n 0, 1) := by decide +kernel
theorem dX12_init_162 : decode cX12_init 162 = .ok (.bipush 6, 2) := by decide +kernel
theorem dX12_init_164 : decode cX12_init 164 = .ok (.newarray .int, 2) := by decide +kernel
theorem dX12_init_166 : decode cX12_init 166 = .ok (.putfield 71, 3) := by decide +kernel
theorem dX12_init_169 : decode cX12_init 169 = .ok (.aload_n 0, 1) := by decide +kernel
theorem dX12_init_170 : decode cX12_init 170 = .ok (.bipush 6, 2) := by decide +kernel
theorem dX12_init_172 : decode cX12_init 172 = .ok (.newarray .int, 2) := by decide +kernel
theorem dX12_init_174 : decode cX12_init 174 = .ok (.putfield 74, 3) := by decide +kernel
theorem dX12_init_177 : decode cX12_init 177 = .ok (.aload_n 0, 1) := by decide +kernel
theorem dX12_init_178 : decode cX12_init 178 = .ok (.bipush 6, 2) := by decide +kernel
theorem dX12_init_180 : decode cX12_init 180 = .ok (.newarray .int, 2) := by decide +kernel
theorem dX12_init_182 : decode cX12_init 182 = .ok (.putfield 77, 3) := by decide +kernel
theorem dX12_init_185 : decode cX12_init 185 = .ok (.aload_n 0, 1) := by decide +kernel
theorem dX12_init_186 : decode cX12_init 186 = .ok (.bipush 6, 2) := by decide +kernel
theorem dX12_init_188 : decode cX12_init 188 = .ok (.newarray .int, 2) := by decide +kernel
theorem dX12_init_190 : decode cX12_init 190 = .ok (.putfield 80, 3) := by decide +kernel
theorem dX12_init_193 : decode cX12_init 193 = .ok (.aload_n 0, 1) := by decide +kernel
theorem dX12_init_194 : decode cX12_init 194 = .ok (.bipush 6, 2) := by decide +kernel
theorem dX12_init_196 : decode cX12_init 196 = .ok (.newarray .int, 2) := by decide +kernel
theorem dX12_init_198 : decode cX12_init 198 = .ok (.putfield 83, 3) := by decide +kernel
theorem dX12_init_201 : decode cX12_init 201 = .ok (.aload_n 0, 1) := by decide +kernel
theorem dX12_init_202 : decode cX12_init 202 = .ok (.bipush 6, 2) := by decide +kernel
theorem dX12_init_204 : decode cX12_init 204 = .ok (.newarray .int, 2) := by decide +kernel
theorem dX12_init_206 : decode cX12_init 206 = .ok (.putfield 86, 3) := by decide +kernel
theorem dX12_init_209 : decode cX12_init 209 = .ok (.aload_n 0, 1) := by decide +kernel
theorem dX12_init_210 : decode cX12_init 210 = .ok (.sipush 4096, 3) := by decide +kernel
theorem dX12_init_213 : decode cX12_init 213 = .ok (.newarray .boolean, 2) := by decide +kernel
theorem dX12_init_215 : decode cX12_init 215 = .ok (.putfield 89, 3) := by decide +kernel
theorem dX12_init_218 : decode cX12_init 218 = .ok (.iconst 0, 1) := by decide +kernel
theorem dX12_init_219 : decode cX12_init 219 = .ok (.istore_n 1, 1) := by decide +kernel
theorem dX12_init_220 : decode cX12_init 220 = .ok (.iload_n 1, 1) := by decide +kernel
theorem dX12_init_221 : decode cX12_init 221 = .ok (.iconst 4, 1) := by decide +kernel
theorem dX12_init_222 : decode cX12_init 222 = .ok (.if_icmp .ge 17, 3) := by decide +kernel
theorem dX12_init_225 : decode cX12_init 225 = .ok (.aload_n 0, 1) := by decide +kernel
theorem dX12_init_226 : decode cX12_init 226 = .ok (.getfield 34, 3) := by decide +kernel
theorem dX12_init_229 : decode cX12_init 229 = .ok (.iload_n 1, 1) := by decide +kernel
theorem dX12_init_230 : decode cX12_init 230 = .ok (.bipush 6, 2) := by decide +kernel
theorem dX12_init_232 : decode cX12_init 232 = .ok (.iastore, 1) := by decide +kernel
theorem dX12_init_233 : decode cX12_init 233 = .ok (.iinc 1 1, 3) := by decide +kernel
theorem dX12_init_236 : decode cX12_init 236 = .ok (.goto (-16), 3) := by decide +kernel
theorem dX12_init_239 : decode cX12_init 239 = .ok (.return_, 1) := by decide +kernel
theorem dX12_out_0 : decode cX12_out 0 = .ok (.iload_n 0, 1) := by decide +kernel
theorem dX12_out_1 : decode cX12_out 1 = .ok (.iload_n 1, 1) := by decide +kernel
theorem dX12_out_2 : decode cX12_out 2 = .ok (.if_icmp .lt 8, 3) := by decide +kernel
theorem dX12_out_5 : decode cX12_out 5 = .ok (.iload_n 0, 1) := by decide +kernel
theorem dX12_out_6 : decode cX12_out 6 = .ok (.iload_n 2, 1) := by decide +kernel
theorem dX12_out_7 : decode cX12_out 7 = .ok (.if_icmp .le 7, 3) := by decide +kernel
theorem dX12_out_10 : decode cX12_out 10 = .ok (.iconst 1, 1) := by decide +kernel
theorem dX12_out_11 : decode cX12_out 11 = .ok (.goto 4, 3) := by decide +kernel
theorem dX12_out_14 : decode cX12_out 14 = .ok (.iconst 0, 1) := by decide +kernel
theorem dX12_out_15 : decode cX12_out 15 = .ok (.ireturn, 1) := by decide +kernel
theorem dX12_noDecision_0 : decode cX12_noDecision 0 = .ok (.iload_n 1, 1) := by decide +kernel
theorem dX12_noDecision_1 : decode cX12_noDecision 1 = .ok (.iconst 0, 1) := by decide +kernel
theorem dX12_noDecision_2 : decode cX12_noDecision 2 = .ok (.aload_n 0, 1) := by decide +kernel
theorem dX12_noDecision_3 : decode cX12_noDecision 3 = .ok (.getfield 93, 3) := by decide +kernel
theorem dX12_noDecision_6 : decode cX12_noDecision 6 = .ok (.iconst 1, 1) := by decide +kernel
theorem dX12_noDecision_7 : decode cX12_noDecision 7 = .ok (.isub, 1) := by decide +kernel
theorem dX12_noDecision_8 : decode cX12_noDecision 8 = .ok (.invokestatic 96, 3) := by decide +kernel
theorem dX12_noDecision_11 : decode cX12_noDecision 11 = .ok (.ireturn, 1) := by decide +kernel
theorem dX12_decision_0 : decode cX12_decision 0 = .ok (.iload_n 1, 1) := by decide +kernel
theorem dX12_decision_1 : decode cX12_decision 1 = .ok (.iconst 0, 1) := by decide +kernel
theorem dX12_decision_2 : decode cX12_decision 2 = .ok (.iconst 5, 1) := by decide +kernel
theorem dX12_decision_3 : decode cX12_decision 3 = .ok (.invokestatic 96, 3) := by decide +kernel
theorem dX12_decision_6 : decode cX12_decision 6 = .ok (.ifCond .ne 26, 3) := by decide +kernel
theorem dX12_decision_9 : decode cX12_decision 9 = .ok (.iload_n 2, 1) := by decide +kernel
theorem dX12_decision_10 : decode cX12_decision 10 = .ok (.iconst 0, 1) := by decide +kernel
theorem dX12_decision_11 : decode cX12_decision 11 = .ok (.iconst 5, 1) := by decide +kernel
theorem dX12_decision_12 : decode cX12_decision 12 = .ok (.invokestatic 96, 3) := by decide +kernel
theorem dX12_decision_15 : decode cX12_decision 15 = .ok (.ifCond .ne 17, 3) := by decide +kernel
theorem dX12_decision_18 : decode cX12_decision 18 = .ok (.iload_n 1, 1) := by decide +kernel
theorem dX12_decision_19 : decode cX12_decision 19 = .ok (.iload_n 2, 1) := by decide +kernel
theorem dX12_decision_20 : decode cX12_decision 20 = .ok (.if_icmp .gt 12, 3) := by decide +kernel
theorem dX12_decision_23 : decode cX12_decision 23 = .ok (.iload_n 3, 1) := by decide +kernel
theorem dX12_decision_24 : decode cX12_decision 24 = .ok (.iconst 0, 1) := by decide +kernel
theorem dX12_decision_25 : decode cX12_decision 25 = .ok (.iconst 3, 1) := by decide +kernel
theorem dX12_decision_26 : decode cX12_decision 26 = .ok (.invokestatic 96, 3) := by decide +kernel
theorem dX12_decision_29 : decode cX12_decision 29 = .ok (.ifCond .eq 6, 3) := by decide +kernel
theorem dX12_decision_32 : decode cX12_decision 32 = .ok (.bipush (-2), 2) := by decide +kernel
theorem dX12_decision_34 : decode cX12_decision 34 = .ok (.ireturn, 1) := by decide +kernel
theorem dX12_decision_35 : decode cX12_decision 35 = .ok (.aload_n 0, 1) := by decide +kernel
theorem dX12_decision_36 : decode cX12_decision 36 = .ok (.getfield 100, 3) := by decide +kernel
theorem dX12_decision_39 : decode cX12_decision 39 = .ok (.ifCond .le 6, 3) := by decide +kernel
theorem dX12_decision_42 : decode cX12_decision 42 = .ok (.bipush (-3), 2) := by decide +kernel
theorem dX12_decision_44 : decode cX12_decision 44 = .ok (.ireturn, 1) := by decide +kernel
theorem dX12_decision_45 : decode cX12_decision 45 = .ok (.aload_n 0, 1) := by decide +kernel
theorem dX12_decision_46 : decode cX12_decision 46 = .ok (.getfield 93, 3) := by decide +kernel
theorem dX12_decision_49 : decode cX12_decision 49 = .ok (.bipush 6, 2) := by decide +kernel
theorem dX12_decision_51 : decode cX12_decision 51 = .ok (.if_icmp .ne 6, 3) := by decide +kernel
theorem dX12_decision_54 : decode cX12_decision 54 = .ok (.bipush (-4), 2) := by decide +kernel
theorem dX12_decision_56 : decode cX12_decision 56 = .ok (.ireturn, 1) := by decide +kernel
theorem dX12_decision_57 : decode cX12_decision 57 = .ok (.aload_n 0, 1) := by decide +kernel
theorem dX12_decision_58 : decode cX12_decision 58 = .ok (.getfield 93, 3) := by decide +kernel
theorem dX12_decision_61 : decode cX12_decision 61 = .ok (.istore 4, 2) := by decide +kernel
theorem dX12_decision_63 : decode cX12_decision 63 = .ok (.aload_n 0, 1) := by decide +kernel
theorem dX12_decision_64 : decode cX12_decision 64 = .ok (.getfield 7, 3) := by decide +kernel
theorem dX12_decision_67 : decode cX12_decision 67 = .ok (.iload 4, 2) := by decide +kernel
theorem dX12_decision_69 : decode cX12_decision 69 = .ok (.iload_n 1, 1) := by decide +kernel
theorem dX12_decision_70 : decode cX12_decision 70 = .ok (.iastore, 1) := by decide +kernel
theorem dX12_decision_71 : decode cX12_decision 71 = .ok (.aload_n 0, 1) := by decide +kernel
theorem dX12_decision_72 : decode cX12_decision 72 = .ok (.getfield 13, 3) := by decide +kernel
theorem dX12_decision_75 : decode cX12_decision 75 = .ok (.iload 4, 2) := by decide +kernel
theorem dX12_decision_77 : decode cX12_decision 77 = .ok (.iload_n 2, 1) := by decide +kernel
theorem dX12_decision_78 : decode cX12_decision 78 = .ok (.iastore, 1) := by decide +kernel
theorem dX12_decision_79 : decode cX12_decision 79 = .ok (.aload_n 0, 1) := by decide +kernel
theorem dX12_decision_80 : decode cX12_decision 80 = .ok (.getfield 16, 3) := by decide +kernel
theorem dX12_decision_83 : decode cX12_decision 83 = .ok (.iload 4, 2) := by decide +kernel
theorem dX12_decision_85 : decode cX12_decision 85 = .ok (.iload_n 3, 1) := by decide +kernel
theorem dX12_decision_86 : decode cX12_decision 86 = .ok (.iastore, 1) := by decide +kernel
theorem dX12_decision_87 : decode cX12_decision 87 = .ok (.aload_n 0, 1) := by decide +kernel
theorem dX12_decision_88 : decode cX12_decision 88 = .ok (.getfield 19, 3) := by decide +kernel
theorem dX12_decision_91 : decode cX12_decision 91 = .ok (.iload 4, 2) := by decide +kernel
theorem dX12_decision_93 : decode cX12_decision 93 = .ok (.iconst 1, 1) := by decide +kernel
theorem dX12_decision_94 : decode cX12_decision 94 = .ok (.iastore, 1) := by decide +kernel
theorem dX12_decision_95 : decode cX12_decision 95 = .ok (.aload_n 0, 1) := by decide +kernel
theorem dX12_decision_96 : decode cX12_decision 96 = .ok (.getfield 22, 3) := by decide +kernel
theorem dX12_decision_99 : decode cX12_decision 99 = .ok (.iload 4, 2) := by decide +kernel
theorem dX12_decision_101 : decode cX12_decision 101 = .ok (.iconst 0, 1) := by decide +kernel
theorem dX12_decision_102 : decode cX12_decision 102 = .ok (.iastore, 1) := by decide +kernel
theorem dX12_decision_103 : decode cX12_decision 103 = .ok (.aload_n 0, 1) := by decide +kernel
theorem dX12_decision_104 : decode cX12_decision 104 = .ok (.getfield 25, 3) := by decide +kernel
theorem dX12_decision_107 : decode cX12_decision 107 = .ok (.iload 4, 2) := by decide +kernel
theorem dX12_decision_109 : decode cX12_decision 109 = .ok (.bipush (-5), 2) := by decide +kernel
theorem dX12_decision_111 : decode cX12_decision 111 = .ok (.iastore, 1) := by decide +kernel
theorem dX12_decision_112 : decode cX12_decision 112 = .ok (.aload_n 0, 1) := by decide +kernel
theorem dX12_decision_113 : decode cX12_decision 113 = .ok (.getfield 31, 3) := by decide +kernel
theorem dX12_decision_116 : decode cX12_decision 116 = .ok (.iload 4, 2) := by decide +kernel
theorem dX12_decision_118 : decode cX12_decision 118 = .ok (.iload_n 1, 1) := by decide +kernel
theorem dX12_decision_119 : decode cX12_decision 119 = .ok (.iastore, 1) := by decide +kernel
theorem dX12_decision_120 : decode cX12_decision 120 = .ok (.aload_n 0, 1) := by decide +kernel
theorem dX12_decision_121 : decode cX12_decision 121 = .ok (.dup, 1) := by decide +kernel
theorem dX12_decision_122 : decode cX12_decision 122 = .ok (.getfield 93, 3) := by decide +kernel
theorem dX12_decision_125 : decode cX12_decision 125 = .ok (.iconst 1, 1) := by decide +kernel
theorem dX12_decision_126 : decode cX12_decision 126 = .ok (.iadd, 1) := by decide +kernel
theorem dX12_decision_127 : decode cX12_decision 127 = .ok (.putfield 93, 3) := by decide +kernel
theorem dX12_decision_130 : decode cX12_decision 130 = .ok (.iload 4, 2) := by decide +kernel
theorem dX12_decision_132 : decode cX12_decision 132 = .ok (.ireturn, 1) := by decide +kernel
theorem dX12_weight_0 : decode cX12_weight 0 = .ok (.aload_n 0, 1) := by decide +kernel
theorem dX12_weight_1 : decode cX12_weight 1 = .ok (.iload_n 1, 1) := by decide +kernel
theorem dX12_weight_2 : decode cX12_weight 2 = .ok (.invokevirtual 103, 3) := by decide +kernel
theorem dX12_weight_5 : decode cX12_weight 5 = .ok (.ifCond .eq 5, 3) := by decide +kernel
theorem dX12_weight_8 : decode cX12_weight 8 = .ok (.iconst (-1), 1) := by decide +kernel
theorem dX12_weight_9 : decode cX12_weight 9 = .ok (.ireturn, 1) := by decide +kernel
theorem dX12_weight_10 : decode cX12_weight 10 = .ok (.iload_n 2, 1) := by decide +kernel
theorem dX12_weight_11 : decode cX12_weight 11 = .ok (.iconst 0, 1) := by decide +kernel
theorem dX12_weight_12 : decode cX12_weight 12 = .ok (.bipush 100, 2) := by decide +kernel
theorem dX12_weight_14 : decode cX12_weight 14 = .ok (.invokestatic 96, 3) := by decide +kernel
theorem dX12_weight_17 : decode cX12_weight 17 = .ok (.ifCond .ne 13, 3) := by decide +kernel
theorem dX12_weight_20 : decode cX12_weight 20 = .ok (.iload_n 3, 1) := by decide +kernel
theorem dX12_weight_21 : decode cX12_weight 21 = .ok (.iconst 0, 1) := by decide +kernel
theorem dX12_weight_22 : decode cX12_weight 22 = .ok (.bipush 20, 2) := by decide +kernel
theorem dX12_weight_24 : decode cX12_weight 24 = .ok (.invokestatic 96, 3) := by decide +kernel
theorem dX12_weight_27 : decode cX12_weight 27 = .ok (.ifCond .eq 6, 3) := by decide +kernel
theorem dX12_weight_30 : decode cX12_weight 30 = .ok (.bipush (-2), 2) := by decide +kernel
theorem dX12_weight_32 : decode cX12_weight 32 = .ok (.ireturn, 1) := by decide +kernel
theorem dX12_weight_33 : decode cX12_weight 33 = .ok (.aload_n 0, 1) := by decide +kernel
theorem dX12_weight_34 : decode cX12_weight 34 = .ok (.getfield 19, 3) := by decide +kernel
theorem dX12_weight_37 : decode cX12_weight 37 = .ok (.iload_n 1, 1) := by decide +kernel
theorem dX12_weight_38 : decode cX12_weight 38 = .ok (.iload_n 2, 1) := by decide +kernel
theorem dX12_weight_39 : decode cX12_weight 39 = .ok (.iastore, 1) := by decide +kernel
theorem dX12_weight_40 : decode cX12_weight 40 = .ok (.aload_n 0, 1) := by decide +kernel
theorem dX12_weight_41 : decode cX12_weight 41 = .ok (.getfield 22, 3) := by decide +kernel
theorem dX12_weight_44 : decode cX12_weight 44 = .ok (.iload_n 1, 1) := by decide +kernel
theorem dX12_weight_45 : decode cX12_weight 45 = .ok (.iload_n 3, 1) := by decide +kernel
theorem dX12_weight_46 : decode cX12_weight 46 = .ok (.iastore, 1) := by decide +kernel
theorem dX12_weight_47 : decode cX12_weight 47 = .ok (.iconst 1, 1) := by decide +kernel
theorem dX12_weight_48 : decode cX12_weight 48 = .ok (.ireturn, 1) := by decide +kernel
theorem dX12_worth_0 : decode cX12_worth 0 = .ok (.aload_n 0, 1) := by decide +kernel
theorem dX12_worth_1 : decode cX12_worth 1 = .ok (.iload_n 1, 1) := by decide +kernel
theorem dX12_worth_2 : decode cX12_worth 2 = .ok (.invokevirtual 103, 3) := by decide +kernel
theorem dX12_worth_5 : decode cX12_worth 5 = .ok (.ifCond .eq 5, 3) := by decide +kernel
theorem dX12_worth_8 : decode cX12_worth 8 = .ok (.iconst (-1), 1) := by decide +kernel
theorem dX12_worth_9 : decode cX12_worth 9 = .ok (.ireturn, 1) := by decide +kernel
theorem dX12_worth_10 : decode cX12_worth 10 = .ok (.iload_n 2, 1) := by decide +kernel
theorem dX12_worth_11 : decode cX12_worth 11 = .ok (.iconst 0, 1) := by decide +kernel
theorem dX12_worth_12 : decode cX12_worth 12 = .ok (.iconst 5, 1) := by decide +kernel
theorem dX12_worth_13 : decode cX12_worth 13 = .ok (.invokestatic 96, 3) := by decide +kernel
theorem dX12_worth_16 : decode cX12_worth 16 = .ok (.ifCond .ne 13, 3) := by decide +kernel
theorem dX12_worth_19 : decode cX12_worth 19 = .ok (.iload_n 3, 1) := by decide +kernel
theorem dX12_worth_20 : decode cX12_worth 20 = .ok (.iconst 0, 1) := by decide +kernel
theorem dX12_worth_21 : decode cX12_worth 21 = .ok (.bipush 100, 2) := by decide +kernel
theorem dX12_worth_23 : decode cX12_worth 23 = .ok (.invokestatic 96, 3) := by decide +kernel
theorem dX12_worth_26 : decode cX12_worth 26 = .ok (.ifCond .eq 6, 3) := by decide +kernel
theorem dX12_worth_29 : decode cX12_worth 29 = .ok (.bipush (-2), 2) := by decide +kernel
theorem dX12_worth_31 : decode cX12_worth 31 = .ok (.ireturn, 1) := by decide +kernel
theorem dX12_worth_32 : decode cX12_worth 32 = .ok (.aload_n 0, 1) := by decide +kernel
theorem dX12_worth_33 : decode cX12_worth 33 = .ok (.getfield 28, 3) := by decide +kernel
theorem dX12_worth_36 : decode cX12_worth 36 = .ok (.bipush 6, 2) := by decide +kernel
theorem dX12_worth_38 : decode cX12_worth 38 = .ok (.iload_n 1, 1) := by decide +kernel
theorem dX12_worth_39 : decode cX12_worth 39 = .ok (.imul, 1) := by decide +kernel
theorem dX12_worth_40 : decode cX12_worth 40 = .ok (.iload_n 2, 1) := by decide +kernel
theorem dX12_worth_41 : decode cX12_worth 41 = .ok (.iadd, 1) := by decide +kernel
theorem dX12_worth_42 : decode cX12_worth 42 = .ok (.iaload, 1) := by decide +kernel
theorem dX12_worth_43 : decode cX12_worth 43 = .ok (.istore 4, 2) := by decide +kernel
theorem dX12_worth_45 : decode cX12_worth 45 = .ok (.aload_n 0, 1) := by decide +kernel
theorem dX12_worth_46 : decode cX12_worth 46 = .ok (.getfield 28, 3) := by decide +kernel
theorem dX12_worth_49 : decode cX12_worth 49 = .ok (.bipush 6, 2) := by decide +kernel
theorem dX12_worth_51 : decode cX12_worth 51 = .ok (.iload_n 1, 1) := by decide +kernel
theorem dX12_worth_52 : decode cX12_worth 52 = .ok (.imul, 1) := by decide +kernel
theorem dX12_worth_53 : decode cX12_worth 53 = .ok (.iload_n 2, 1) := by decide +kernel
theorem dX12_worth_54 : decode cX12_worth 54 = .ok (.iadd, 1) := by decide +kernel
theorem dX12_worth_55 : decode cX12_worth 55 = .ok (.iload_n 3, 1) := by decide +kernel
theorem dX12_worth_56 : decode cX12_worth 56 = .ok (.iastore, 1) := by decide +kernel
theorem dX12_worth_57 : decode cX12_worth 57 = .ok (.iload 4, 2) := by decide +kernel
theorem dX12_worth_59 : decode cX12_worth 59 = .ok (.ireturn, 1) := by decide +kernel
theorem dX12_mayHave_0 : decode cX12_mayHave 0 = .ok (.iload_n 2, 1) := by decide +kernel
theorem dX12_mayHave_1 : decode cX12_mayHave 1 = .ok (.aload_n 0, 1) := by decide +kernel
theorem dX12_mayHave_2 : decode cX12_mayHave 2 = .ok (.getfield 7, 3) := by decide +kernel
theorem dX12_mayHave_5 : decode cX12_mayHave 5 = .ok (.iload_n 1, 1) := by decide +kernel
theorem dX12_mayHave_6 : decode cX12_mayHave 6 = .ok (.iaload, 1) := by decide +kernel
theorem dX12_mayHave_7 : decode cX12_mayHave 7 = .ok (.aload_n 0, 1) := by decide +kernel
theorem dX12_mayHave_8 : decode cX12_mayHave 8 = .ok (.getfield 13, 3) := by decide +kernel
theorem dX12_mayHave_11 : decode cX12_mayHave 11 = .ok (.iload_n 1, 1) := by decide +kernel
theorem dX12_mayHave_12 : decode cX12_mayHave 12 = .ok (.iaload, 1) := by decide +kernel
theorem dX12_mayHave_13 : decode cX12_mayHave 13 = .ok (.invokestatic 96, 3) := by decide +kernel
theorem dX12_mayHave_16 : decode cX12_mayHave 16 = .ok (.ifCond .ne 7, 3) := by decide +kernel
theorem dX12_mayHave_19 : decode cX12_mayHave 19 = .ok (.iconst 1, 1) := by decide +kernel
theorem dX12_mayHave_20 : decode cX12_mayHave 20 = .ok (.goto 4, 3) := by decide +kernel
theorem dX12_mayHave_23 : decode cX12_mayHave 23 = .ok (.iconst 0, 1) := by decide +kernel
theorem dX12_mayHave_24 : decode cX12_mayHave 24 = .ok (.ireturn, 1) := by decide +kernel
theorem dX12_pin_0 : decode cX12_pin 0 = .ok (.aload_n 0, 1) := by decide +kernel
theorem dX12_pin_1 : decode cX12_pin 1 = .ok (.iload_n 1, 1) := by decide +kernel
theorem dX12_pin_2 : decode cX12_pin 2 = .ok (.invokevirtual 103, 3) := by decide +kernel
theorem dX12_pin_5 : decode cX12_pin 5 = .ok (.ifCond .eq 5, 3) := by decide +kernel
theorem dX12_pin_8 : decode cX12_pin 8 = .ok (.iconst (-1), 1) := by decide +kernel
theorem dX12_pin_9 : decode cX12_pin 9 = .ok (.ireturn, 1) := by decide +kernel
theorem dX12_pin_10 : decode cX12_pin 10 = .ok (.iload_n 2, 1) := by decide +kernel
theorem dX12_pin_11 : decode cX12_pin 11 = .ok (.bipush (-5), 2) := by decide +kernel
theorem dX12_pin_13 : decode cX12_pin 13 = .ok (.if_icmp .eq 15, 3) := by decide +kernel
theorem dX12_pin_16 : decode cX12_pin 16 = .ok (.aload_n 0, 1) := by decide +kernel
theorem dX12_pin_17 : decode cX12_pin 17 = .ok (.iload_n 1, 1) := by decide +kernel
theorem dX12_pin_18 : decode cX12_pin 18 = .ok (.iload_n 2, 1) := by decide +kernel
theorem dX12_pin_19 : decode cX12_pin 19 = .ok (.invokevirtual 107, 3) := by decide +kernel
theorem dX12_pin_22 : decode cX12_pin 22 = .ok (.ifCond .ne 6, 3) := by decide +kernel
theorem dX12_pin_25 : decode cX12_pin 25 = .ok (.bipush (-2), 2) := by decide +kernel
theorem dX12_pin_27 : decode cX12_pin 27 = .ok (.ireturn, 1) := by decide +kernel
theorem dX12_pin_28 : decode cX12_pin 28 = .ok (.aload_n 0, 1) := by decide +kernel
theorem dX12_pin_29 : decode cX12_pin 29 = .ok (.getfield 25, 3) := by decide +kernel
theorem dX12_pin_32 : decode cX12_pin 32 = .ok (.iload_n 1, 1) := by decide +kernel
theorem dX12_pin_33 : decode cX12_pin 33 = .ok (.iload_n 2, 1) := by decide +kernel
theorem dX12_pin_34 : decode cX12_pin 34 = .ok (.iastore, 1) := by decide +kernel
theorem dX12_pin_35 : decode cX12_pin 35 = .ok (.iconst 1, 1) := by decide +kernel
theorem dX12_pin_36 : decode cX12_pin 36 = .ok (.ireturn, 1) := by decide +kernel
theorem dX12_limit_0 : decode cX12_limit 0 = .ok (.iload_n 1, 1) := by decide +kernel
theorem dX12_limit_1 : decode cX12_limit 1 = .ok (.iconst 0, 1) := by decide +kernel
theorem dX12_limit_2 : decode cX12_limit 2 = .ok (.iconst 3, 1) := by decide +kernel
theorem dX12_limit_3 : decode cX12_limit 3 = .ok (.invokestatic 96, 3) := by decide +kernel
theorem dX12_limit_6 : decode cX12_limit 6 = .ok (.ifCond .ne 13, 3) := by decide +kernel
theorem dX12_limit_9 : decode cX12_limit 9 = .ok (.iload_n 2, 1) := by decide +kernel
theorem dX12_limit_10 : decode cX12_limit 10 = .ok (.iconst 0, 1) := by decide +kernel
theorem dX12_limit_11 : decode cX12_limit 11 = .ok (.bipush 6, 2) := by decide +kernel
theorem dX12_limit_13 : decode cX12_limit 13 = .ok (.invokestatic 96, 3) := by decide +kernel
theorem dX12_limit_16 : decode cX12_limit 16 = .ok (.ifCond .eq 6, 3) := by decide +kernel
theorem dX12_limit_19 : decode cX12_limit 19 = .ok (.bipush (-2), 2) := by decide +kernel
theorem dX12_limit_21 : decode cX12_limit 21 = .ok (.ireturn, 1) := by decide +kernel
theorem dX12_limit_22 : decode cX12_limit 22 = .ok (.aload_n 0, 1) := by decide +kernel
theorem dX12_limit_23 : decode cX12_limit 23 = .ok (.getfield 34, 3) := by decide +kernel
theorem dX12_limit_26 : decode cX12_limit 26 = .ok (.iload_n 1, 1) := by decide +kernel
theorem dX12_limit_27 : decode cX12_limit 27 = .ok (.iaload, 1) := by decide +kernel
theorem dX12_limit_28 : decode cX12_limit 28 = .ok (.istore_n 3, 1) := by decide +kernel
theorem dX12_limit_29 : decode cX12_limit 29 = .ok (.aload_n 0, 1) := by decide +kernel
theorem dX12_limit_30 : decode cX12_limit 30 = .ok (.getfield 34, 3) := by decide +kernel
theorem dX12_limit_33 : decode cX12_limit 33 = .ok (.iload_n 1, 1) := by decide +kernel
theorem dX12_limit_34 : decode cX12_limit 34 = .ok (.iload_n 2, 1) := by decide +kernel
theorem dX12_limit_35 : decode cX12_limit 35 = .ok (.iastore, 1) := by decide +kernel
theorem dX12_limit_36 : decode cX12_limit 36 = .ok (.iload_n 3, 1) := by decide +kernel
theorem dX12_limit_37 : decode cX12_limit 37 = .ok (.ireturn, 1) := by decide +kernel
theorem dX12_fact_0 : decode cX12_fact 0 = .ok (.iload_n 1, 1) := by decide +kernel
theorem dX12_fact_1 : decode cX12_fact 1 = .ok (.bipush (-20), 2) := by decide +kernel
theorem dX12_fact_3 : decode cX12_fact 3 = .ok (.bipush 20, 2) := by decide +kernel
theorem dX12_fact_5 : decode cX12_fact 5 = .ok (.invokestatic 96, 3) := by decide +kernel
theorem dX12_fact_8 : decode cX12_fact 8 = .ok (.ifCond .eq 6, 3) := by decide +kernel
theorem dX12_fact_11 : decode cX12_fact 11 = .ok (.bipush (-2), 2) := by decide +kernel
theorem dX12_fact_13 : decode cX12_fact 13 = .ok (.ireturn, 1) := by decide +kernel
theorem dX12_fact_14 : decode cX12_fact 14 = .ok (.aload_n 0, 1) := by decide +kernel
theorem dX12_fact_15 : decode cX12_fact 15 = .ok (.getfield 100, 3) := by decide +kernel
theorem dX12_fact_18 : decode cX12_fact 18 = .ok (.ifCond .le 6, 3) := by decide +kernel
theorem dX12_fact_21 : decode cX12_fact 21 = .ok (.bipush (-3), 2) := by decide +kernel
theorem dX12_fact_23 : decode cX12_fact 23 = .ok (.ireturn, 1) := by decide +kernel
theorem dX12_fact_24 : decode cX12_fact 24 = .ok (.aload_n 0, 1) := by decide +kernel
theorem dX12_fact_25 : decode cX12_fact 25 = .ok (.getfield 111, 3) := by decide +kernel
theorem dX12_fact_28 : decode cX12_fact 28 = .ok (.bipush 6, 2) := by decide +kernel
theorem dX12_fact_30 : decode cX12_fact 30 = .ok (.if_icmp .ne 6, 3) := by decide +kernel
theorem dX12_fact_33 : decode cX12_fact 33 = .ok (.bipush (-4), 2) := by decide +kernel
theorem dX12_fact_35 : decode cX12_fact 35 = .ok (.ireturn, 1) := by decide +kernel
theorem dX12_fact_36 : decode cX12_fact 36 = .ok (.aload_n 0, 1) := by decide +kernel
theorem dX12_fact_37 : decode cX12_fact 37 = .ok (.getfield 37, 3) := by decide +kernel
theorem dX12_fact_40 : decode cX12_fact 40 = .ok (.aload_n 0, 1) := by decide +kernel
theorem dX12_fact_41 : decode cX12_fact 41 = .ok (.getfield 111, 3) := by decide +kernel
theorem dX12_fact_44 : decode cX12_fact 44 = .ok (.iload_n 1, 1) := by decide +kernel
theorem dX12_fact_45 : decode cX12_fact 45 = .ok (.iastore, 1) := by decide +kernel
theorem dX12_fact_46 : decode cX12_fact 46 = .ok (.aload_n 0, 1) := by decide +kernel
theorem dX12_fact_47 : decode cX12_fact 47 = .ok (.dup, 1) := by decide +kernel
theorem dX12_fact_48 : decode cX12_fact 48 = .ok (.getfield 111, 3) := by decide +kernel
theorem dX12_fact_51 : decode cX12_fact 51 = .ok (.iconst 1, 1) := by decide +kernel
theorem dX12_fact_52 : decode cX12_fact 52 = .ok (.iadd, 1) := by decide +kernel
theorem dX12_fact_53 : decode cX12_fact 53 = .ok (.putfield 111, 3) := by decide +kernel
theorem dX12_fact_56 : decode cX12_fact 56 = .ok (.aload_n 0, 1) := by decide +kernel
theorem dX12_fact_57 : decode cX12_fact 57 = .ok (.getfield 111, 3) := by decide +kernel
theorem dX12_fact_60 : decode cX12_fact 60 = .ok (.iconst 1, 1) := by decide +kernel
theorem dX12_fact_61 : decode cX12_fact 61 = .ok (.isub, 1) := by decide +kernel
theorem dX12_fact_62 : decode cX12_fact 62 = .ok (.ireturn, 1) := by decide +kernel
theorem dX12_change_0 : decode cX12_change 0 = .ok (.iload_n 1, 1) := by decide +kernel
theorem dX12_change_1 : decode cX12_change 1 = .ok (.iconst 0, 1) := by decide +kernel
theorem dX12_change_2 : decode cX12_change 2 = .ok (.aload_n 0, 1) := by decide +kernel
theorem dX12_change_3 : decode cX12_change 3 = .ok (.getfield 111, 3) := by decide +kernel
theorem dX12_change_6 : decode cX12_change 6 = .ok (.iconst 1, 1) := by decide +kernel
theorem dX12_change_7 : decode cX12_change 7 = .ok (.isub, 1) := by decide +kernel
theorem dX12_change_8 : decode cX12_change 8 = .ok (.invokestatic 96, 3) := by decide +kernel
theorem dX12_change_11 : decode cX12_change 11 = .ok (.ifCond .eq 5, 3) := by decide +kernel
theorem dX12_change_14 : decode cX12_change 14 = .ok (.iconst (-1), 1) := by decide +kernel
theorem dX12_change_15 : decode cX12_change 15 = .ok (.ireturn, 1) := by decide +kernel
theorem dX12_change_16 : decode cX12_change 16 = .ok (.iload_n 2, 1) := by decide +kernel
theorem dX12_change_17 : decode cX12_change 17 = .ok (.bipush (-20), 2) := by decide +kernel
theorem dX12_change_19 : decode cX12_change 19 = .ok (.bipush 20, 2) := by decide +kernel
theorem dX12_change_21 : decode cX12_change 21 = .ok (.invokestatic 96, 3) := by decide +kernel
theorem dX12_change_24 : decode cX12_change 24 = .ok (.ifCond .eq 6, 3) := by decide +kernel
theorem dX12_change_27 : decode cX12_change 27 = .ok (.bipush (-2), 2) := by decide +kernel
theorem dX12_change_29 : decode cX12_change 29 = .ok (.ireturn, 1) := by decide +kernel
theorem dX12_change_30 : decode cX12_change 30 = .ok (.aload_n 0, 1) := by decide +kernel
theorem dX12_change_31 : decode cX12_change 31 = .ok (.getfield 37, 3) := by decide +kernel
theorem dX12_change_34 : decode cX12_change 34 = .ok (.iload_n 1, 1) := by decide +kernel
theorem dX12_change_35 : decode cX12_change 35 = .ok (.iaload, 1) := by decide +kernel
theorem dX12_change_36 : decode cX12_change 36 = .ok (.istore_n 3, 1) := by decide +kernel
theorem dX12_change_37 : decode cX12_change 37 = .ok (.aload_n 0, 1) := by decide +kernel
theorem dX12_change_38 : decode cX12_change 38 = .ok (.getfield 37, 3) := by decide +kernel
theorem dX12_change_41 : decode cX12_change 41 = .ok (.iload_n 1, 1) := by decide +kernel
theorem dX12_change_42 : decode cX12_change 42 = .ok (.iload_n 2, 1) := by decide +kernel
theorem dX12_change_43 : decode cX12_change 43 = .ok (.iastore, 1) := by decide +kernel
theorem dX12_change_44 : decode cX12_change 44 = .ok (.iload_n 3, 1) := by decide +kernel
theorem dX12_change_45 : decode cX12_change 45 = .ok (.ireturn, 1) := by decide +kernel
theorem dX12_rule_0 : decode cX12_rule 0 = .ok (.iload_n 1, 1) := by decide +kernel
theorem dX12_rule_1 : decode cX12_rule 1 = .ok (.iconst 0, 1) := by decide +kernel
theorem dX12_rule_2 : decode cX12_rule 2 = .ok (.iconst 5, 1) := by decide +kernel
theorem dX12_rule_3 : decode cX12_rule 3 = .ok (.invokestatic 96, 3) := by decide +kernel
theorem dX12_rule_6 : decode cX12_rule 6 = .ok (.ifCond .ne 17, 3) := by decide +kernel
theorem dX12_rule_9 : decode cX12_rule 9 = .ok (.iload_n 1, 1) := by decide +kernel
theorem dX12_rule_10 : decode cX12_rule 10 = .ok (.iconst 5, 1) := by decide +kernel
theorem dX12_rule_11 : decode cX12_rule 11 = .ok (.if_icmp .ne 15, 3) := by decide +kernel
theorem dX12_rule_14 : decode cX12_rule 14 = .ok (.iload_n 3, 1) := by decide +kernel
theorem dX12_rule_15 : decode cX12_rule 15 = .ok (.iconst 0, 1) := by decide +kernel
theorem dX12_rule_16 : decode cX12_rule 16 = .ok (.iconst 5, 1) := by decide +kernel
theorem dX12_rule_17 : decode cX12_rule 17 = .ok (.invokestatic 96, 3) := by decide +kernel
theorem dX12_rule_20 : decode cX12_rule 20 = .ok (.ifCond .eq 6, 3) := by decide +kernel
theorem dX12_rule_23 : decode cX12_rule 23 = .ok (.bipush (-2), 2) := by decide +kernel
theorem dX12_rule_25 : decode cX12_rule 25 = .ok (.ireturn, 1) := by decide +kernel
theorem dX12_rule_26 : decode cX12_rule 26 = .ok (.iload_n 1, 1) := by decide +kernel
theorem dX12_rule_27 : decode cX12_rule 27 = .ok (.iconst 5, 1) := by decide +kernel
theorem dX12_rule_28 : decode cX12_rule 28 = .ok (.if_icmp .ge 19, 3) := by decide +kernel
theorem dX12_rule_31 : decode cX12_rule 31 = .ok (.aload_n 0, 1) := by decide +kernel
theorem dX12_rule_32 : decode cX12_rule 32 = .ok (.iload_n 2, 1) := by decide +kernel
theorem dX12_rule_33 : decode cX12_rule 33 = .ok (.invokevirtual 103, 3) := by decide +kernel
theorem dX12_rule_36 : decode cX12_rule 36 = .ok (.ifCond .ne 26, 3) := by decide +kernel
theorem dX12_rule_39 : decode cX12_rule 39 = .ok (.aload_n 0, 1) := by decide +kernel
theorem dX12_rule_40 : decode cX12_rule 40 = .ok (.iload_n 3, 1) := by decide +kernel
theorem dX12_rule_41 : decode cX12_rule 41 = .ok (.invokevirtual 103, 3) := by decide +kernel
theorem dX12_rule_44 : decode cX12_rule 44 = .ok (.ifCond .ne 18, 3) := by decide +kernel
theorem dX12_rule_47 : decode cX12_rule 47 = .ok (.iload 4, 2) := by decide +kernel
theorem dX12_rule_49 : decode cX12_rule 49 = .ok (.iconst 0, 1) := by decide +kernel
theorem dX12_rule_50 : decode cX12_rule 50 = .ok (.aload_n 0, 1) := by decide +kernel
theorem dX12_rule_51 : decode cX12_rule 51 = .ok (.getfield 111, 3) := by decide +kernel
theorem dX12_rule_54 : decode cX12_rule 54 = .ok (.iconst 1, 1) := by decide +kernel
theorem dX12_rule_55 : decode cX12_rule 55 = .ok (.isub, 1) := by decide +kernel
theorem dX12_rule_56 : decode cX12_rule 56 = .ok (.invokestatic 96, 3) := by decide +kernel
theorem dX12_rule_59 : decode cX12_rule 59 = .ok (.ifCond .eq 5, 3) := by decide +kernel
theorem dX12_rule_62 : decode cX12_rule 62 = .ok (.iconst (-1), 1) := by decide +kernel
theorem dX12_rule_63 : decode cX12_rule 63 = .ok (.ireturn, 1) := by decide +kernel
theorem dX12_rule_64 : decode cX12_rule 64 = .ok (.aload_n 0, 1) := by decide +kernel
theorem dX12_rule_65 : decode cX12_rule 65 = .ok (.getfield 114, 3) := by decide +kernel
theorem dX12_rule_68 : decode cX12_rule 68 = .ok (.bipush 12, 2) := by decide +kernel
theorem dX12_rule_70 : decode cX12_rule 70 = .ok (.if_icmp .ne 6, 3) := by decide +kernel
theorem dX12_rule_73 : decode cX12_rule 73 = .ok (.bipush (-4), 2) := by decide +kernel
theorem dX12_rule_75 : decode cX12_rule 75 = .ok (.ireturn, 1) := by decide +kernel
theorem dX12_rule_76 : decode cX12_rule 76 = .ok (.aload_n 0, 1) := by decide +kernel
theorem dX12_rule_77 : decode cX12_rule 77 = .ok (.getfield 40, 3) := by decide +kernel
theorem dX12_rule_80 : decode cX12_rule 80 = .ok (.aload_n 0, 1) := by decide +kernel
theorem dX12_rule_81 : decode cX12_rule 81 = .ok (.getfield 114, 3) := by decide +kernel
theorem dX12_rule_84 : decode cX12_rule 84 = .ok (.iload_n 1, 1) := by decide +kernel
theorem dX12_rule_85 : decode cX12_rule 85 = .ok (.iastore, 1) := by decide +kernel
theorem dX12_rule_86 : decode cX12_rule 86 = .ok (.aload_n 0, 1) := by decide +kernel
theorem dX12_rule_87 : decode cX12_rule 87 = .ok (.getfield 43, 3) := by decide +kernel
theorem dX12_rule_90 : decode cX12_rule 90 = .ok (.aload_n 0, 1) := by decide +kernel
theorem dX12_rule_91 : decode cX12_rule 91 = .ok (.getfield 114, 3) := by decide +kernel
theorem dX12_rule_94 : decode cX12_rule 94 = .ok (.iload_n 2, 1) := by decide +kernel
theorem dX12_rule_95 : decode cX12_rule 95 = .ok (.iastore, 1) := by decide +kernel
theorem dX12_rule_96 : decode cX12_rule 96 = .ok (.aload_n 0, 1) := by decide +kernel
theorem dX12_rule_97 : decode cX12_rule 97 = .ok (.getfield 46, 3) := by decide +kernel
theorem dX12_rule_100 : decode cX12_rule 100 = .ok (.aload_n 0, 1) := by decide +kernel
theorem dX12_rule_101 : decode cX12_rule 101 = .ok (.getfield 114, 3) := by decide +kernel
theorem dX12_rule_104 : decode cX12_rule 104 = .ok (.iload_n 3, 1) := by decide +kernel
theorem dX12_rule_105 : decode cX12_rule 105 = .ok (.iastore, 1) := by decide +kernel
theorem dX12_rule_106 : decode cX12_rule 106 = .ok (.aload_n 0, 1) := by decide +kernel
theorem dX12_rule_107 : decode cX12_rule 107 = .ok (.getfield 49, 3) := by decide +kernel
theorem dX12_rule_110 : decode cX12_rule 110 = .ok (.aload_n 0, 1) := by decide +kernel
theorem dX12_rule_111 : decode cX12_rule 111 = .ok (.getfield 114, 3) := by decide +kernel
theorem dX12_rule_114 : decode cX12_rule 114 = .ok (.iload 4, 2) := by decide +kernel
theorem dX12_rule_116 : decode cX12_rule 116 = .ok (.iastore, 1) := by decide +kernel
theorem dX12_rule_117 : decode cX12_rule 117 = .ok (.aload_n 0, 1) := by decide +kernel
theorem dX12_rule_118 : decode cX12_rule 118 = .ok (.dup, 1) := by decide +kernel
theorem dX12_rule_119 : decode cX12_rule 119 = .ok (.getfield 114, 3) := by decide +kernel
theorem dX12_rule_122 : decode cX12_rule 122 = .ok (.iconst 1, 1) := by decide +kernel
theorem dX12_rule_123 : decode cX12_rule 123 = .ok (.iadd, 1) := by decide +kernel
theorem dX12_rule_124 : decode cX12_rule 124 = .ok (.putfield 114, 3) := by decide +kernel
theorem dX12_rule_127 : decode cX12_rule 127 = .ok (.aload_n 0, 1) := by decide +kernel
theorem dX12_rule_128 : decode cX12_rule 128 = .ok (.getfield 114, 3) := by decide +kernel
theorem dX12_rule_131 : decode cX12_rule 131 = .ok (.iconst 1, 1) := by decide +kernel
theorem dX12_rule_132 : decode cX12_rule 132 = .ok (.isub, 1) := by decide +kernel
theorem dX12_rule_133 : decode cX12_rule 133 = .ok (.ireturn, 1) := by decide +kernel
theorem dX12_first_0 : decode cX12_first 0 = .ok (.iload_n 1, 1) := by decide +kernel
theorem dX12_first_1 : decode cX12_first 1 = .ok (.iconst 0, 1) := by decide +kernel
theorem dX12_first_2 : decode cX12_first 2 = .ok (.iconst 1, 1) := by decide +kernel
theorem dX12_first_3 : decode cX12_first 3 = .ok (.invokestatic 96, 3) := by decide +kernel
theorem dX12_first_6 : decode cX12_first 6 = .ok (.ifCond .eq 6, 3) := by decide +kernel
theorem dX12_first_9 : decode cX12_first 9 = .ok (.bipush (-2), 2) := by decide +kernel
theorem dX12_first_11 : decode cX12_first 11 = .ok (.ireturn, 1) := by decide +kernel
theorem dX12_first_12 : decode cX12_first 12 = .ok (.aload_n 0, 1) := by decide +kernel
theorem dX12_first_13 : decode cX12_first 13 = .ok (.getfield 117, 3) := by decide +kernel
theorem dX12_first_16 : decode cX12_first 16 = .ok (.istore_n 2, 1) := by decide +kernel
theorem dX12_first_17 : decode cX12_first 17 = .ok (.aload_n 0, 1) := by decide +kernel
theorem dX12_first_18 : decode cX12_first 18 = .ok (.iload_n 1, 1) := by decide +kernel
theorem dX12_first_19 : decode cX12_first 19 = .ok (.putfield 117, 3) := by decide +kernel
theorem dX12_first_22 : decode cX12_first 22 = .ok (.iload_n 2, 1) := by decide +kernel
theorem dX12_first_23 : decode cX12_first 23 = .ok (.ireturn, 1) := by decide +kernel
theorem dX12_keeps_0 : decode cX12_keeps 0 = .ok (.aload_n 0, 1) := by decide +kernel
theorem dX12_keeps_1 : decode cX12_keeps 1 = .ok (.getfield 37, 3) := by decide +kernel
theorem dX12_keeps_4 : decode cX12_keeps 4 = .ok (.aload_n 0, 1) := by decide +kernel
theorem dX12_keeps_5 : decode cX12_keeps 5 = .ok (.getfield 49, 3) := by decide +kernel
theorem dX12_keeps_8 : decode cX12_keeps 8 = .ok (.iload_n 2, 1) := by decide +kernel
theorem dX12_keeps_9 : decode cX12_keeps 9 = .ok (.iaload, 1) := by decide +kernel
theorem dX12_keeps_10 : decode cX12_keeps 10 = .ok (.iaload, 1) := by decide +kernel
theorem dX12_keeps_11 : decode cX12_keeps 11 = .ok (.istore_n 3, 1) := by decide +kernel
theorem dX12_keeps_12 : decode cX12_keeps 12 = .ok (.aload_n 0, 1) := by decide +kernel
theorem dX12_keeps_13 : decode cX12_keeps 13 = .ok (.getfield 40, 3) := by decide +kernel
theorem dX12_keeps_16 : decode cX12_keeps 16 = .ok (.iload_n 2, 1) := by decide +kernel
theorem dX12_keeps_17 : decode cX12_keeps 17 = .ok (.iaload, 1) := by decide +kernel
theorem dX12_keeps_18 : decode cX12_keeps 18 = .ok (.iconst 5, 1) := by decide +kernel
theorem dX12_keeps_19 : decode cX12_keeps 19 = .ok (.if_icmp .ne 59, 3) := by decide +kernel
theorem dX12_keeps_22 : decode cX12_keeps 22 = .ok (.iconst 0, 1) := by decide +kernel
theorem dX12_keeps_23 : decode cX12_keeps 23 = .ok (.istore 4, 2) := by decide +kernel
theorem dX12_keeps_25 : decode cX12_keeps 25 = .ok (.iconst 0, 1) := by decide +kernel
theorem dX12_keeps_26 : decode cX12_keeps 26 = .ok (.istore 5, 2) := by decide +kernel
theorem dX12_keeps_28 : decode cX12_keeps 28 = .ok (.iload 5, 2) := by decide +kernel
theorem dX12_keeps_30 : decode cX12_keeps 30 = .ok (.aload_n 0, 1) := by decide +kernel
theorem dX12_keeps_31 : decode cX12_keeps 31 = .ok (.getfield 93, 3) := by decide +kernel
theorem dX12_keeps_34 : decode cX12_keeps 34 = .ok (.if_icmp .ge 32, 3) := by decide +kernel
theorem dX12_keeps_37 : decode cX12_keeps 37 = .ok (.iload 4, 2) := by decide +kernel
theorem dX12_keeps_39 : decode cX12_keeps 39 = .ok (.aload_n 1, 1) := by decide +kernel
theorem dX12_keeps_40 : decode cX12_keeps 40 = .ok (.iload 5, 2) := by decide +kernel
theorem dX12_keeps_42 : decode cX12_keeps 42 = .ok (.iaload, 1) := by decide +kernel
theorem dX12_keeps_43 : decode cX12_keeps 43 = .ok (.aload_n 0, 1) := by decide +kernel
theorem dX12_keeps_44 : decode cX12_keeps 44 = .ok (.getfield 46, 3) := by decide +kernel
theorem dX12_keeps_47 : decode cX12_keeps 47 = .ok (.iload_n 2, 1) := by decide +kernel
theorem dX12_keeps_48 : decode cX12_keeps 48 = .ok (.iaload, 1) := by decide +kernel
theorem dX12_keeps_49 : decode cX12_keeps 49 = .ok (.if_icmp .ne 7, 3) := by decide +kernel
theorem dX12_keeps_52 : decode cX12_keeps 52 = .ok (.iconst 1, 1) := by decide +kernel
theorem dX12_keeps_53 : decode cX12_keeps 53 = .ok (.goto 4, 3) := by decide +kernel
theorem dX12_keeps_56 : decode cX12_keeps 56 = .ok (.iconst 0, 1) := by decide +kernel
theorem dX12_keeps_57 : decode cX12_keeps 57 = .ok (.iadd, 1) := by decide +kernel
theorem dX12_keeps_58 : decode cX12_keeps 58 = .ok (.istore 4, 2) := by decide +kernel
theorem dX12_keeps_60 : decode cX12_keeps 60 = .ok (.iinc 5 1, 3) := by decide +kernel
theorem dX12_keeps_63 : decode cX12_keeps 63 = .ok (.goto (-35), 3) := by decide +kernel
theorem dX12_keeps_66 : decode cX12_keeps 66 = .ok (.iload 4, 2) := by decide +kernel
theorem dX12_keeps_68 : decode cX12_keeps 68 = .ok (.iload_n 3, 1) := by decide +kernel
theorem dX12_keeps_69 : decode cX12_keeps 69 = .ok (.if_icmp .gt 7, 3) := by decide +kernel
theorem dX12_keeps_72 : decode cX12_keeps 72 = .ok (.iconst 1, 1) := by decide +kernel
theorem dX12_keeps_73 : decode cX12_keeps 73 = .ok (.goto 4, 3) := by decide +kernel
theorem dX12_keeps_76 : decode cX12_keeps 76 = .ok (.iconst 0, 1) := by decide +kernel
theorem dX12_keeps_77 : decode cX12_keeps 77 = .ok (.ireturn, 1) := by decide +kernel
theorem dX12_keeps_78 : decode cX12_keeps 78 = .ok (.aload_n 1, 1) := by decide +kernel
theorem dX12_keeps_79 : decode cX12_keeps 79 = .ok (.aload_n 0, 1) := by decide +kernel
theorem dX12_keeps_80 : decode cX12_keeps 80 = .ok (.getfield 43, 3) := by decide +kernel
theorem dX12_keeps_83 : decode cX12_keeps 83 = .ok (.iload_n 2, 1) := by decide +kernel
theorem dX12_keeps_84 : decode cX12_keeps 84 = .ok (.iaload, 1) := by decide +kernel
theorem dX12_keeps_85 : decode cX12_keeps 85 = .ok (.iaload, 1) := by decide +kernel
theorem dX12_keeps_86 : decode cX12_keeps 86 = .ok (.istore 4, 2) := by decide +kernel
theorem dX12_keeps_88 : decode cX12_keeps 88 = .ok (.aload_n 1, 1) := by decide +kernel
theorem dX12_keeps_89 : decode cX12_keeps 89 = .ok (.aload_n 0, 1) := by decide +kernel
theorem dX12_keeps_90 : decode cX12_keeps 90 = .ok (.getfield 46, 3) := by decide +kernel
theorem dX12_keeps_93 : decode cX12_keeps 93 = .ok (.iload_n 2, 1) := by decide +kernel
theorem dX12_keeps_94 : decode cX12_keeps 94 = .ok (.iaload, 1) := by decide +kernel
theorem dX12_keeps_95 : decode cX12_keeps 95 = .ok (.iaload, 1) := by decide +kernel
theorem dX12_keeps_96 : decode cX12_keeps 96 = .ok (.istore 5, 2) := by decide +kernel
theorem dX12_keeps_98 : decode cX12_keeps 98 = .ok (.iload 4, 2) := by decide +kernel
theorem dX12_keeps_100 : decode cX12_keeps 100 = .ok (.iload 5, 2) := by decide +kernel
theorem dX12_keeps_102 : decode cX12_keeps 102 = .ok (.if_icmp .le 11, 3) := by decide +kernel
theorem dX12_keeps_105 : decode cX12_keeps 105 = .ok (.iload 4, 2) := by decide +kernel
theorem dX12_keeps_107 : decode cX12_keeps 107 = .ok (.iload 5, 2) := by decide +kernel
theorem dX12_keeps_109 : decode cX12_keeps 109 = .ok (.isub, 1) := by decide +kernel
theorem dX12_keeps_110 : decode cX12_keeps 110 = .ok (.goto 8, 3) := by decide +kernel
theorem dX12_keeps_113 : decode cX12_keeps 113 = .ok (.iload 5, 2) := by decide +kernel
theorem dX12_keeps_115 : decode cX12_keeps 115 = .ok (.iload 4, 2) := by decide +kernel
theorem dX12_keeps_117 : decode cX12_keeps 117 = .ok (.isub, 1) := by decide +kernel
theorem dX12_keeps_118 : decode cX12_keeps 118 = .ok (.istore 6, 2) := by decide +kernel
theorem dX12_keeps_120 : decode cX12_keeps 120 = .ok (.aload_n 0, 1) := by decide +kernel
theorem dX12_keeps_121 : decode cX12_keeps 121 = .ok (.getfield 40, 3) := by decide +kernel
theorem dX12_keeps_124 : decode cX12_keeps 124 = .ok (.iload_n 2, 1) := by decide +kernel
theorem dX12_keeps_125 : decode cX12_keeps 125 = .ok (.iaload, 1) := by decide +kernel
theorem dX12_keeps_126 : decode cX12_keeps 126 = .ok (.tableswitch 87 0 3 #[30, 45, 60, 75], 30) := by decide +kernel
theorem dX12_keeps_156 : decode cX12_keeps 156 = .ok (.iload 4, 2) := by decide +kernel
theorem dX12_keeps_158 : decode cX12_keeps 158 = .ok (.iload 5, 2) := by decide +kernel
theorem dX12_keeps_160 : decode cX12_keeps 160 = .ok (.isub, 1) := by decide +kernel
theorem dX12_keeps_161 : decode cX12_keeps 161 = .ok (.iload_n 3, 1) := by decide +kernel
theorem dX12_keeps_162 : decode cX12_keeps 162 = .ok (.if_icmp .gt 7, 3) := by decide +kernel
theorem dX12_keeps_165 : decode cX12_keeps 165 = .ok (.iconst 1, 1) := by decide +kernel
theorem dX12_keeps_166 : decode cX12_keeps 166 = .ok (.goto 4, 3) := by decide +kernel
theorem dX12_keeps_169 : decode cX12_keeps 169 = .ok (.iconst 0, 1) := by decide +kernel
theorem dX12_keeps_170 : decode cX12_keeps 170 = .ok (.ireturn, 1) := by decide +kernel
theorem dX12_keeps_171 : decode cX12_keeps 171 = .ok (.iload 4, 2) := by decide +kernel
theorem dX12_keeps_173 : decode cX12_keeps 173 = .ok (.iload 5, 2) := by decide +kernel
theorem dX12_keeps_175 : decode cX12_keeps 175 = .ok (.iadd, 1) := by decide +kernel
theorem dX12_keeps_176 : decode cX12_keeps 176 = .ok (.iload_n 3, 1) := by decide +kernel
theorem dX12_keeps_177 : decode cX12_keeps 177 = .ok (.if_icmp .gt 7, 3) := by decide +kernel
theorem dX12_keeps_180 : decode cX12_keeps 180 = .ok (.iconst 1, 1) := by decide +kernel
theorem dX12_keeps_181 : decode cX12_keeps 181 = .ok (.goto 4, 3) := by decide +kernel
theorem dX12_keeps_184 : decode cX12_keeps 184 = .ok (.iconst 0, 1) := by decide +kernel
theorem dX12_keeps_185 : decode cX12_keeps 185 = .ok (.ireturn, 1) := by decide +kernel
theorem dX12_keeps_186 : decode cX12_keeps 186 = .ok (.iload 4, 2) := by decide +kernel
theorem dX12_keeps_188 : decode cX12_keeps 188 = .ok (.iload 5, 2) := by decide +kernel
theorem dX12_keeps_190 : decode cX12_keeps 190 = .ok (.iadd, 1) := by decide +kernel
theorem dX12_keeps_191 : decode cX12_keeps 191 = .ok (.iload_n 3, 1) := by decide +kernel
theorem dX12_keeps_192 : decode cX12_keeps 192 = .ok (.if_icmp .lt 7, 3) := by decide +kernel
theorem dX12_keeps_195 : decode cX12_keeps 195 = .ok (.iconst 1, 1) := by decide +kernel
theorem dX12_keeps_196 : decode cX12_keeps 196 = .ok (.goto 4, 3) := by decide +kernel
theorem dX12_keeps_199 : decode cX12_keeps 199 = .ok (.iconst 0, 1) := by decide +kernel
theorem dX12_keeps_200 : decode cX12_keeps 200 = .ok (.ireturn, 1) := by decide +kernel
theorem dX12_keeps_201 : decode cX12_keeps 201 = .ok (.iload 6, 2) := by decide +kernel
theorem dX12_keeps_203 : decode cX12_keeps 203 = .ok (.iload_n 3, 1) := by decide +kernel
theorem dX12_keeps_204 : decode cX12_keeps 204 = .ok (.if_icmp .lt 7, 3) := by decide +kernel
theorem dX12_keeps_207 : decode cX12_keeps 207 = .ok (.iconst 1, 1) := by decide +kernel
theorem dX12_keeps_208 : decode cX12_keeps 208 = .ok (.goto 4, 3) := by decide +kernel
theorem dX12_keeps_211 : decode cX12_keeps 211 = .ok (.iconst 0, 1) := by decide +kernel
theorem dX12_keeps_212 : decode cX12_keeps 212 = .ok (.ireturn, 1) := by decide +kernel
theorem dX12_keeps_213 : decode cX12_keeps 213 = .ok (.iload 6, 2) := by decide +kernel
theorem dX12_keeps_215 : decode cX12_keeps 215 = .ok (.iload_n 3, 1) := by decide +kernel
theorem dX12_keeps_216 : decode cX12_keeps 216 = .ok (.if_icmp .gt 7, 3) := by decide +kernel
theorem dX12_keeps_219 : decode cX12_keeps 219 = .ok (.iconst 1, 1) := by decide +kernel
theorem dX12_keeps_220 : decode cX12_keeps 220 = .ok (.goto 4, 3) := by decide +kernel
theorem dX12_keeps_223 : decode cX12_keeps 223 = .ok (.iconst 0, 1) := by decide +kernel
theorem dX12_keeps_224 : decode cX12_keeps 224 = .ok (.ireturn, 1) := by decide +kernel
theorem dX12_brokenOf_0 : decode cX12_brokenOf 0 = .ok (.iconst 0, 1) := by decide +kernel
theorem dX12_brokenOf_1 : decode cX12_brokenOf 1 = .ok (.istore_n 2, 1) := by decide +kernel
theorem dX12_brokenOf_2 : decode cX12_brokenOf 2 = .ok (.iconst 0, 1) := by decide +kernel
theorem dX12_brokenOf_3 : decode cX12_brokenOf 3 = .ok (.istore_n 3, 1) := by decide +kernel
theorem dX12_brokenOf_4 : decode cX12_brokenOf 4 = .ok (.iload_n 3, 1) := by decide +kernel
theorem dX12_brokenOf_5 : decode cX12_brokenOf 5 = .ok (.aload_n 0, 1) := by decide +kernel
theorem dX12_brokenOf_6 : decode cX12_brokenOf 6 = .ok (.getfield 114, 3) := by decide +kernel
theorem dX12_brokenOf_9 : decode cX12_brokenOf 9 = .ok (.if_icmp .ge 28, 3) := by decide +kernel
theorem dX12_brokenOf_12 : decode cX12_brokenOf 12 = .ok (.iload_n 2, 1) := by decide +kernel
theorem dX12_brokenOf_13 : decode cX12_brokenOf 13 = .ok (.aload_n 0, 1) := by decide +kernel
theorem dX12_brokenOf_14 : decode cX12_brokenOf 14 = .ok (.aload_n 1, 1) := by decide +kernel
theorem dX12_brokenOf_15 : decode cX12_brokenOf 15 = .ok (.iload_n 3, 1) := by decide +kernel
theorem dX12_brokenOf_16 : decode cX12_brokenOf 16 = .ok (.invokevirtual 120, 3) := by decide +kernel
theorem dX12_brokenOf_19 : decode cX12_brokenOf 19 = .ok (.ifCond .eq 7, 3) := by decide +kernel
theorem dX12_brokenOf_22 : decode cX12_brokenOf 22 = .ok (.iconst 0, 1) := by decide +kernel
theorem dX12_brokenOf_23 : decode cX12_brokenOf 23 = .ok (.goto 6, 3) := by decide +kernel
theorem dX12_brokenOf_26 : decode cX12_brokenOf 26 = .ok (.iconst 1, 1) := by decide +kernel
theorem dX12_brokenOf_27 : decode cX12_brokenOf 27 = .ok (.iload_n 3, 1) := by decide +kernel
theorem dX12_brokenOf_28 : decode cX12_brokenOf 28 = .ok (.ishl, 1) := by decide +kernel
theorem dX12_brokenOf_29 : decode cX12_brokenOf 29 = .ok (.ior, 1) := by decide +kernel
theorem dX12_brokenOf_30 : decode cX12_brokenOf 30 = .ok (.istore_n 2, 1) := by decide +kernel
theorem dX12_brokenOf_31 : decode cX12_brokenOf 31 = .ok (.iinc 3 1, 3) := by decide +kernel
theorem dX12_brokenOf_34 : decode cX12_brokenOf 34 = .ok (.goto (-30), 3) := by decide +kernel
theorem dX12_brokenOf_37 : decode cX12_brokenOf 37 = .ok (.iload_n 2, 1) := by decide +kernel
theorem dX12_brokenOf_38 : decode cX12_brokenOf 38 = .ok (.ireturn, 1) := by decide +kernel
theorem dX12_isMoved_0 : decode cX12_isMoved 0 = .ok (.aload_n 0, 1) := by decide +kernel
theorem dX12_isMoved_1 : decode cX12_isMoved 1 = .ok (.getfield 58, 3) := by decide +kernel
theorem dX12_isMoved_4 : decode cX12_isMoved 4 = .ok (.bipush (-5), 2) := by decide +kernel
theorem dX12_isMoved_6 : decode cX12_isMoved 6 = .ok (.if_icmp .eq 27, 3) := by decide +kernel
theorem dX12_isMoved_9 : decode cX12_isMoved 9 = .ok (.aload_n 1, 1) := by decide +kernel
theorem dX12_isMoved_10 : decode cX12_isMoved 10 = .ok (.iload_n 2, 1) := by decide +kernel
theorem dX12_isMoved_11 : decode cX12_isMoved 11 = .ok (.iaload, 1) := by decide +kernel
theorem dX12_isMoved_12 : decode cX12_isMoved 12 = .ok (.aload_n 0, 1) := by decide +kernel
theorem dX12_isMoved_13 : decode cX12_isMoved 13 = .ok (.getfield 52, 3) := by decide +kernel
theorem dX12_isMoved_16 : decode cX12_isMoved 16 = .ok (.bipush 6, 2) := by decide +kernel
theorem dX12_isMoved_18 : decode cX12_isMoved 18 = .ok (.aload_n 0, 1) := by decide +kernel
theorem dX12_isMoved_19 : decode cX12_isMoved 19 = .ok (.getfield 58, 3) := by decide +kernel
theorem dX12_isMoved_22 : decode cX12_isMoved 22 = .ok (.imul, 1) := by decide +kernel
theorem dX12_isMoved_23 : decode cX12_isMoved 23 = .ok (.iload_n 2, 1) := by decide +kernel
theorem dX12_isMoved_24 : decode cX12_isMoved 24 = .ok (.iadd, 1) := by decide +kernel
theorem dX12_isMoved_25 : decode cX12_isMoved 25 = .ok (.iaload, 1) := by decide +kernel
theorem dX12_isMoved_26 : decode cX12_isMoved 26 = .ok (.if_icmp .eq 7, 3) := by decide +kernel
theorem dX12_isMoved_29 : decode cX12_isMoved 29 = .ok (.iconst 1, 1) := by decide +kernel
theorem dX12_isMoved_30 : decode cX12_isMoved 30 = .ok (.goto 4, 3) := by decide +kernel
theorem dX12_isMoved_33 : decode cX12_isMoved 33 = .ok (.iconst 0, 1) := by decide +kernel
theorem dX12_isMoved_34 : decode cX12_isMoved 34 = .ok (.ireturn, 1) := by decide +kernel
theorem dX12_costOf_0 : decode cX12_costOf 0 = .ok (.iconst 0, 1) := by decide +kernel
theorem dX12_costOf_1 : decode cX12_costOf 1 = .ok (.istore_n 2, 1) := by decide +kernel
theorem dX12_costOf_2 : decode cX12_costOf 2 = .ok (.iconst 0, 1) := by decide +kernel
theorem dX12_costOf_3 : decode cX12_costOf 3 = .ok (.istore_n 3, 1) := by decide +kernel
theorem dX12_costOf_4 : decode cX12_costOf 4 = .ok (.iload_n 3, 1) := by decide +kernel
theorem dX12_costOf_5 : decode cX12_costOf 5 = .ok (.aload_n 0, 1) := by decide +kernel
theorem dX12_costOf_6 : decode cX12_costOf 6 = .ok (.getfield 93, 3) := by decide +kernel
theorem dX12_costOf_9 : decode cX12_costOf 9 = .ok (.if_icmp .ge 68, 3) := by decide +kernel
theorem dX12_costOf_12 : decode cX12_costOf 12 = .ok (.aload_n 0, 1) := by decide +kernel
theorem dX12_costOf_13 : decode cX12_costOf 13 = .ok (.aload_n 1, 1) := by decide +kernel
theorem dX12_costOf_14 : decode cX12_costOf 14 = .ok (.iload_n 3, 1) := by decide +kernel
theorem dX12_costOf_15 : decode cX12_costOf 15 = .ok (.invokevirtual 124, 3) := by decide +kernel
theorem dX12_costOf_18 : decode cX12_costOf 18 = .ok (.ifCond .eq 53, 3) := by decide +kernel
theorem dX12_costOf_21 : decode cX12_costOf 21 = .ok (.aload_n 1, 1) := by decide +kernel
theorem dX12_costOf_22 : decode cX12_costOf 22 = .ok (.iload_n 3, 1) := by decide +kernel
theorem dX12_costOf_23 : decode cX12_costOf 23 = .ok (.iaload, 1) := by decide +kernel
theorem dX12_costOf_24 : decode cX12_costOf 24 = .ok (.aload_n 0, 1) := by decide +kernel
theorem dX12_costOf_25 : decode cX12_costOf 25 = .ok (.getfield 52, 3) := by decide +kernel
theorem dX12_costOf_28 : decode cX12_costOf 28 = .ok (.bipush 6, 2) := by decide +kernel
theorem dX12_costOf_30 : decode cX12_costOf 30 = .ok (.aload_n 0, 1) := by decide +kernel
theorem dX12_costOf_31 : decode cX12_costOf 31 = .ok (.getfield 58, 3) := by decide +kernel
theorem dX12_costOf_34 : decode cX12_costOf 34 = .ok (.imul, 1) := by decide +kernel
theorem dX12_costOf_35 : decode cX12_costOf 35 = .ok (.iload_n 3, 1) := by decide +kernel
theorem dX12_costOf_36 : decode cX12_costOf 36 = .ok (.iadd, 1) := by decide +kernel
theorem dX12_costOf_37 : decode cX12_costOf 37 = .ok (.iaload, 1) := by decide +kernel
theorem dX12_costOf_38 : decode cX12_costOf 38 = .ok (.isub, 1) := by decide +kernel
theorem dX12_costOf_39 : decode cX12_costOf 39 = .ok (.istore 4, 2) := by decide +kernel
theorem dX12_costOf_41 : decode cX12_costOf 41 = .ok (.iload_n 2, 1) := by decide +kernel
theorem dX12_costOf_42 : decode cX12_costOf 42 = .ok (.aload_n 0, 1) := by decide +kernel
theorem dX12_costOf_43 : decode cX12_costOf 43 = .ok (.getfield 19, 3) := by decide +kernel
theorem dX12_costOf_46 : decode cX12_costOf 46 = .ok (.iload_n 3, 1) := by decide +kernel
theorem dX12_costOf_47 : decode cX12_costOf 47 = .ok (.iaload, 1) := by decide +kernel
theorem dX12_costOf_48 : decode cX12_costOf 48 = .ok (.aload_n 0, 1) := by decide +kernel
theorem dX12_costOf_49 : decode cX12_costOf 49 = .ok (.getfield 22, 3) := by decide +kernel
theorem dX12_costOf_52 : decode cX12_costOf 52 = .ok (.iload_n 3, 1) := by decide +kernel
theorem dX12_costOf_53 : decode cX12_costOf 53 = .ok (.iaload, 1) := by decide +kernel
theorem dX12_costOf_54 : decode cX12_costOf 54 = .ok (.iload 4, 2) := by decide +kernel
theorem dX12_costOf_56 : decode cX12_costOf 56 = .ok (.ifCond .ge 9, 3) := by decide +kernel
theorem dX12_costOf_59 : decode cX12_costOf 59 = .ok (.iload 4, 2) := by decide +kernel
theorem dX12_costOf_61 : decode cX12_costOf 61 = .ok (.ineg, 1) := by decide +kernel
theorem dX12_costOf_62 : decode cX12_costOf 62 = .ok (.goto 5, 3) := by decide +kernel
theorem dX12_costOf_65 : decode cX12_costOf 65 = .ok (.iload 4, 2) := by decide +kernel
theorem dX12_costOf_67 : decode cX12_costOf 67 = .ok (.imul, 1) := by decide +kernel
theorem dX12_costOf_68 : decode cX12_costOf 68 = .ok (.iadd, 1) := by decide +kernel
theorem dX12_costOf_69 : decode cX12_costOf 69 = .ok (.iadd, 1) := by decide +kernel
theorem dX12_costOf_70 : decode cX12_costOf 70 = .ok (.istore_n 2, 1) := by decide +kernel
theorem dX12_costOf_71 : decode cX12_costOf 71 = .ok (.iinc 3 1, 3) := by decide +kernel
theorem dX12_costOf_74 : decode cX12_costOf 74 = .ok (.goto (-70), 3) := by decide +kernel
theorem dX12_costOf_77 : decode cX12_costOf 77 = .ok (.iload_n 2, 1) := by decide +kernel
theorem dX12_costOf_78 : decode cX12_costOf 78 = .ok (.ireturn, 1) := by decide +kernel
theorem dX12_worthOf_0 : decode cX12_worthOf 0 = .ok (.iconst 0, 1) := by decide +kernel
theorem dX12_worthOf_1 : decode cX12_worthOf 1 = .ok (.istore_n 2, 1) := by decide +kernel
theorem dX12_worthOf_2 : decode cX12_worthOf 2 = .ok (.iconst 0, 1) := by decide +kernel
theorem dX12_worthOf_3 : decode cX12_worthOf 3 = .ok (.istore_n 3, 1) := by decide +kernel
theorem dX12_worthOf_4 : decode cX12_worthOf 4 = .ok (.iload_n 3, 1) := by decide +kernel
theorem dX12_worthOf_5 : decode cX12_worthOf 5 = .ok (.aload_n 0, 1) := by decide +kernel
theorem dX12_worthOf_6 : decode cX12_worthOf 6 = .ok (.getfield 93, 3) := by decide +kernel
theorem dX12_worthOf_9 : decode cX12_worthOf 9 = .ok (.if_icmp .ge 25, 3) := by decide +kernel
theorem dX12_worthOf_12 : decode cX12_worthOf 12 = .ok (.iload_n 2, 1) := by decide +kernel
theorem dX12_worthOf_13 : decode cX12_worthOf 13 = .ok (.aload_n 0, 1) := by decide +kernel
theorem dX12_worthOf_14 : decode cX12_worthOf 14 = .ok (.getfield 28, 3) := by decide +kernel
theorem dX12_worthOf_17 : decode cX12_worthOf 17 = .ok (.bipush 6, 2) := by decide +kernel
theorem dX12_worthOf_19 : decode cX12_worthOf 19 = .ok (.iload_n 3, 1) := by decide +kernel
theorem dX12_worthOf_20 : decode cX12_worthOf 20 = .ok (.imul, 1) := by decide +kernel
theorem dX12_worthOf_21 : decode cX12_worthOf 21 = .ok (.aload_n 1, 1) := by decide +kernel
theorem dX12_worthOf_22 : decode cX12_worthOf 22 = .ok (.iload_n 3, 1) := by decide +kernel
theorem dX12_worthOf_23 : decode cX12_worthOf 23 = .ok (.iaload, 1) := by decide +kernel
theorem dX12_worthOf_24 : decode cX12_worthOf 24 = .ok (.iadd, 1) := by decide +kernel
theorem dX12_worthOf_25 : decode cX12_worthOf 25 = .ok (.iaload, 1) := by decide +kernel
theorem dX12_worthOf_26 : decode cX12_worthOf 26 = .ok (.iadd, 1) := by decide +kernel
theorem dX12_worthOf_27 : decode cX12_worthOf 27 = .ok (.istore_n 2, 1) := by decide +kernel
theorem dX12_worthOf_28 : decode cX12_worthOf 28 = .ok (.iinc 3 1, 3) := by decide +kernel
theorem dX12_worthOf_31 : decode cX12_worthOf 31 = .ok (.goto (-27), 3) := by decide +kernel
theorem dX12_worthOf_34 : decode cX12_worthOf 34 = .ok (.iload_n 2, 1) := by decide +kernel
theorem dX12_worthOf_35 : decode cX12_worthOf 35 = .ok (.ireturn, 1) := by decide +kernel
theorem dX12_isAllowed_0 : decode cX12_isAllowed 0 = .ok (.iconst 0, 1) := by decide +kernel
theorem dX12_isAllowed_1 : decode cX12_isAllowed 1 = .ok (.istore_n 2, 1) := by decide +kernel
theorem dX12_isAllowed_2 : decode cX12_isAllowed 2 = .ok (.iload_n 2, 1) := by decide +kernel
theorem dX12_isAllowed_3 : decode cX12_isAllowed 3 = .ok (.iconst 4, 1) := by decide +kernel
theorem dX12_isAllowed_4 : decode cX12_isAllowed 4 = .ok (.if_icmp .ge 70, 3) := by decide +kernel
theorem dX12_isAllowed_7 : decode cX12_isAllowed 7 = .ok (.iconst 0, 1) := by decide +kernel
theorem dX12_isAllowed_8 : decode cX12_isAllowed 8 = .ok (.istore_n 3, 1) := by decide +kernel
theorem dX12_isAllowed_9 : decode cX12_isAllowed 9 = .ok (.iconst 0, 1) := by decide +kernel
theorem dX12_isAllowed_10 : decode cX12_isAllowed 10 = .ok (.istore 4, 2) := by decide +kernel
theorem dX12_isAllowed_12 : decode cX12_isAllowed 12 = .ok (.iload 4, 2) := by decide +kernel
theorem dX12_isAllowed_14 : decode cX12_isAllowed 14 = .ok (.aload_n 0, 1) := by decide +kernel
theorem dX12_isAllowed_15 : decode cX12_isAllowed 15 = .ok (.getfield 93, 3) := by decide +kernel
theorem dX12_isAllowed_18 : decode cX12_isAllowed 18 = .ok (.if_icmp .ge 38, 3) := by decide +kernel
theorem dX12_isAllowed_21 : decode cX12_isAllowed 21 = .ok (.iload_n 3, 1) := by decide +kernel
theorem dX12_isAllowed_22 : decode cX12_isAllowed 22 = .ok (.aload_n 0, 1) := by decide +kernel
theorem dX12_isAllowed_23 : decode cX12_isAllowed 23 = .ok (.getfield 16, 3) := by decide +kernel
theorem dX12_isAllowed_26 : decode cX12_isAllowed 26 = .ok (.iload 4, 2) := by decide +kernel
theorem dX12_isAllowed_28 : decode cX12_isAllowed 28 = .ok (.iaload, 1) := by decide +kernel
theorem dX12_isAllowed_29 : decode cX12_isAllowed 29 = .ok (.iload_n 2, 1) := by decide +kernel
theorem dX12_isAllowed_30 : decode cX12_isAllowed 30 = .ok (.if_icmp .ne 17, 3) := by decide +kernel
theorem dX12_isAllowed_33 : decode cX12_isAllowed 33 = .ok (.aload_n 0, 1) := by decide +kernel
theorem dX12_isAllowed_34 : decode cX12_isAllowed 34 = .ok (.aload_n 1, 1) := by decide +kernel
theorem dX12_isAllowed_35 : decode cX12_isAllowed 35 = .ok (.iload 4, 2) := by decide +kernel
theorem dX12_isAllowed_37 : decode cX12_isAllowed 37 = .ok (.invokevirtual 124, 3) := by decide +kernel
theorem dX12_isAllowed_40 : decode cX12_isAllowed 40 = .ok (.ifCond .eq 7, 3) := by decide +kernel
theorem dX12_isAllowed_43 : decode cX12_isAllowed 43 = .ok (.iconst 1, 1) := by decide +kernel
theorem dX12_isAllowed_44 : decode cX12_isAllowed 44 = .ok (.goto 4, 3) := by decide +kernel
theorem dX12_isAllowed_47 : decode cX12_isAllowed 47 = .ok (.iconst 0, 1) := by decide +kernel
theorem dX12_isAllowed_48 : decode cX12_isAllowed 48 = .ok (.iadd, 1) := by decide +kernel
theorem dX12_isAllowed_49 : decode cX12_isAllowed 49 = .ok (.istore_n 3, 1) := by decide +kernel
theorem dX12_isAllowed_50 : decode cX12_isAllowed 50 = .ok (.iinc 4 1, 3) := by decide +kernel
theorem dX12_isAllowed_53 : decode cX12_isAllowed 53 = .ok (.goto (-41), 3) := by decide +kernel
theorem dX12_isAllowed_56 : decode cX12_isAllowed 56 = .ok (.iload_n 3, 1) := by decide +kernel
theorem dX12_isAllowed_57 : decode cX12_isAllowed 57 = .ok (.aload_n 0, 1) := by decide +kernel
theorem dX12_isAllowed_58 : decode cX12_isAllowed 58 = .ok (.getfield 34, 3) := by decide +kernel
theorem dX12_isAllowed_61 : decode cX12_isAllowed 61 = .ok (.iload_n 2, 1) := by decide +kernel
theorem dX12_isAllowed_62 : decode cX12_isAllowed 62 = .ok (.iaload, 1) := by decide +kernel
theorem dX12_isAllowed_63 : decode cX12_isAllowed 63 = .ok (.if_icmp .le 5, 3) := by decide +kernel
theorem dX12_isAllowed_66 : decode cX12_isAllowed 66 = .ok (.iconst 0, 1) := by decide +kernel
theorem dX12_isAllowed_67 : decode cX12_isAllowed 67 = .ok (.ireturn, 1) := by decide +kernel
theorem dX12_isAllowed_68 : decode cX12_isAllowed 68 = .ok (.iinc 2 1, 3) := by decide +kernel
theorem dX12_isAllowed_71 : decode cX12_isAllowed 71 = .ok (.goto (-69), 3) := by decide +kernel
theorem dX12_isAllowed_74 : decode cX12_isAllowed 74 = .ok (.iconst 0, 1) := by decide +kernel
theorem dX12_isAllowed_75 : decode cX12_isAllowed 75 = .ok (.istore_n 2, 1) := by decide +kernel
theorem dX12_isAllowed_76 : decode cX12_isAllowed 76 = .ok (.iload_n 2, 1) := by decide +kernel
theorem dX12_isAllowed_77 : decode cX12_isAllowed 77 = .ok (.aload_n 0, 1) := by decide +kernel
theorem dX12_isAllowed_78 : decode cX12_isAllowed 78 = .ok (.getfield 93, 3) := by decide +kernel
theorem dX12_isAllowed_81 : decode cX12_isAllowed 81 = .ok (.if_icmp .ge 45, 3) := by decide +kernel
theorem dX12_isAllowed_84 : decode cX12_isAllowed 84 = .ok (.aload_n 0, 1) := by decide +kernel
theorem dX12_isAllowed_85 : decode cX12_isAllowed 85 = .ok (.iload_n 2, 1) := by decide +kernel
theorem dX12_isAllowed_86 : decode cX12_isAllowed 86 = .ok (.aload_n 1, 1) := by decide +kernel
theorem dX12_isAllowed_87 : decode cX12_isAllowed 87 = .ok (.iload_n 2, 1) := by decide +kernel
theorem dX12_isAllowed_88 : decode cX12_isAllowed 88 = .ok (.iaload, 1) := by decide +kernel
theorem dX12_isAllowed_89 : decode cX12_isAllowed 89 = .ok (.invokevirtual 107, 3) := by decide +kernel
theorem dX12_isAllowed_92 : decode cX12_isAllowed 92 = .ok (.ifCond .eq 26, 3) := by decide +kernel
theorem dX12_isAllowed_95 : decode cX12_isAllowed 95 = .ok (.aload_n 0, 1) := by decide +kernel
theorem dX12_isAllowed_96 : decode cX12_isAllowed 96 = .ok (.getfield 25, 3) := by decide +kernel
theorem dX12_isAllowed_99 : decode cX12_isAllowed 99 = .ok (.iload_n 2, 1) := by decide +kernel
theorem dX12_isAllowed_100 : decode cX12_isAllowed 100 = .ok (.iaload, 1) := by decide +kernel
theorem dX12_isAllowed_101 : decode cX12_isAllowed 101 = .ok (.bipush (-5), 2) := by decide +kernel
theorem dX12_isAllowed_103 : decode cX12_isAllowed 103 = .ok (.if_icmp .eq 17, 3) := by decide +kernel
theorem dX12_isAllowed_106 : decode cX12_isAllowed 106 = .ok (.aload_n 0, 1) := by decide +kernel
theorem dX12_isAllowed_107 : decode cX12_isAllowed 107 = .ok (.getfield 25, 3) := by decide +kernel
theorem dX12_isAllowed_110 : decode cX12_isAllowed 110 = .ok (.iload_n 2, 1) := by decide +kernel
theorem dX12_isAllowed_111 : decode cX12_isAllowed 111 = .ok (.iaload, 1) := by decide +kernel
theorem dX12_isAllowed_112 : decode cX12_isAllowed 112 = .ok (.aload_n 1, 1) := by decide +kernel
theorem dX12_isAllowed_113 : decode cX12_isAllowed 113 = .ok (.iload_n 2, 1) := by decide +kernel
theorem dX12_isAllowed_114 : decode cX12_isAllowed 114 = .ok (.iaload, 1) := by decide +kernel
theorem dX12_isAllowed_115 : decode cX12_isAllowed 115 = .ok (.if_icmp .eq 5, 3) := by decide +kernel
theorem dX12_isAllowed_118 : decode cX12_isAllowed 118 = .ok (.iconst 0, 1) := by decide +kernel
theorem dX12_isAllowed_119 : decode cX12_isAllowed 119 = .ok (.ireturn, 1) := by decide +kernel
theorem dX12_isAllowed_120 : decode cX12_isAllowed 120 = .ok (.iinc 2 1, 3) := by decide +kernel
theorem dX12_isAllowed_123 : decode cX12_isAllowed 123 = .ok (.goto (-47), 3) := by decide +kernel
theorem dX12_isAllowed_126 : decode cX12_isAllowed 126 = .ok (.iconst 1, 1) := by decide +kernel
theorem dX12_isAllowed_127 : decode cX12_isAllowed 127 = .ok (.ireturn, 1) := by decide +kernel
theorem dX12_firstPlan_0 : decode cX12_firstPlan 0 = .ok (.iconst 0, 1) := by decide +kernel
theorem dX12_firstPlan_1 : decode cX12_firstPlan 1 = .ok (.istore_n 1, 1) := by decide +kernel
end
section
theorem dX12_firstPlan_2 : decode cX12_firstPlan 2 = .ok (.iload_n 1, 1) := by decide +kernel
theorem dX12_firstPlan_3 : decode cX12_firstPlan 3 = .ok (.aload_n 0, 1) := by decide +kernel
theorem dX12_firstPlan_4 : decode cX12_firstPlan 4 = .ok (.getfield 93, 3) := by decide +kernel
theorem dX12_firstPlan_7 : decode cX12_firstPlan 7 = .ok (.if_icmp .ge 41, 3) := by decide +kernel
theorem dX12_firstPlan_10 : decode cX12_firstPlan 10 = .ok (.aload_n 0, 1) := by decide +kernel
theorem dX12_firstPlan_11 : decode cX12_firstPlan 11 = .ok (.getfield 68, 3) := by decide +kernel
theorem dX12_firstPlan_14 : decode cX12_firstPlan 14 = .ok (.iload_n 1, 1) := by decide +kernel
theorem dX12_firstPlan_15 : decode cX12_firstPlan 15 = .ok (.aload_n 0, 1) := by decide +kernel
theorem dX12_firstPlan_16 : decode cX12_firstPlan 16 = .ok (.getfield 25, 3) := by decide +kernel
theorem dX12_firstPlan_19 : decode cX12_firstPlan 19 = .ok (.iload_n 1, 1) := by decide +kernel
theorem dX12_firstPlan_20 : decode cX12_firstPlan 20 = .ok (.iaload, 1) := by decide +kernel
theorem dX12_firstPlan_21 : decode cX12_firstPlan 21 = .ok (.bipush (-5), 2) := by decide +kernel
theorem dX12_firstPlan_23 : decode cX12_firstPlan 23 = .ok (.if_icmp .ne 12, 3) := by decide +kernel
theorem dX12_firstPlan_26 : decode cX12_firstPlan 26 = .ok (.aload_n 0, 1) := by decide +kernel
theorem dX12_firstPlan_27 : decode cX12_firstPlan 27 = .ok (.getfield 7, 3) := by decide +kernel
theorem dX12_firstPlan_30 : decode cX12_firstPlan 30 = .ok (.iload_n 1, 1) := by decide +kernel
theorem dX12_firstPlan_31 : decode cX12_firstPlan 31 = .ok (.iaload, 1) := by decide +kernel
theorem dX12_firstPlan_32 : decode cX12_firstPlan 32 = .ok (.goto 9, 3) := by decide +kernel
theorem dX12_firstPlan_35 : decode cX12_firstPlan 35 = .ok (.aload_n 0, 1) := by decide +kernel
theorem dX12_firstPlan_36 : decode cX12_firstPlan 36 = .ok (.getfield 25, 3) := by decide +kernel
theorem dX12_firstPlan_39 : decode cX12_firstPlan 39 = .ok (.iload_n 1, 1) := by decide +kernel
theorem dX12_firstPlan_40 : decode cX12_firstPlan 40 = .ok (.iaload, 1) := by decide +kernel
theorem dX12_firstPlan_41 : decode cX12_firstPlan 41 = .ok (.iastore, 1) := by decide +kernel
theorem dX12_firstPlan_42 : decode cX12_firstPlan 42 = .ok (.iinc 1 1, 3) := by decide +kernel
theorem dX12_firstPlan_45 : decode cX12_firstPlan 45 = .ok (.goto (-43), 3) := by decide +kernel
theorem dX12_firstPlan_48 : decode cX12_firstPlan 48 = .ok (.return_, 1) := by decide +kernel
theorem dX12_nextPlan_0 : decode cX12_nextPlan 0 = .ok (.aload_n 0, 1) := by decide +kernel
theorem dX12_nextPlan_1 : decode cX12_nextPlan 1 = .ok (.getfield 93, 3) := by decide +kernel
theorem dX12_nextPlan_4 : decode cX12_nextPlan 4 = .ok (.iconst 1, 1) := by decide +kernel
theorem dX12_nextPlan_5 : decode cX12_nextPlan 5 = .ok (.isub, 1) := by decide +kernel
theorem dX12_nextPlan_6 : decode cX12_nextPlan 6 = .ok (.istore_n 1, 1) := by decide +kernel
theorem dX12_nextPlan_7 : decode cX12_nextPlan 7 = .ok (.iload_n 1, 1) := by decide +kernel
theorem dX12_nextPlan_8 : decode cX12_nextPlan 8 = .ok (.ifCond .lt 79, 3) := by decide +kernel
theorem dX12_nextPlan_11 : decode cX12_nextPlan 11 = .ok (.aload_n 0, 1) := by decide +kernel
theorem dX12_nextPlan_12 : decode cX12_nextPlan 12 = .ok (.getfield 25, 3) := by decide +kernel
theorem dX12_nextPlan_15 : decode cX12_nextPlan 15 = .ok (.iload_n 1, 1) := by decide +kernel
theorem dX12_nextPlan_16 : decode cX12_nextPlan 16 = .ok (.iaload, 1) := by decide +kernel
theorem dX12_nextPlan_17 : decode cX12_nextPlan 17 = .ok (.bipush (-5), 2) := by decide +kernel
theorem dX12_nextPlan_19 : decode cX12_nextPlan 19 = .ok (.if_icmp .ne 30, 3) := by decide +kernel
theorem dX12_nextPlan_22 : decode cX12_nextPlan 22 = .ok (.aload_n 0, 1) := by decide +kernel
theorem dX12_nextPlan_23 : decode cX12_nextPlan 23 = .ok (.getfield 68, 3) := by decide +kernel
theorem dX12_nextPlan_26 : decode cX12_nextPlan 26 = .ok (.iload_n 1, 1) := by decide +kernel
theorem dX12_nextPlan_27 : decode cX12_nextPlan 27 = .ok (.iaload, 1) := by decide +kernel
theorem dX12_nextPlan_28 : decode cX12_nextPlan 28 = .ok (.aload_n 0, 1) := by decide +kernel
theorem dX12_nextPlan_29 : decode cX12_nextPlan 29 = .ok (.getfield 13, 3) := by decide +kernel
theorem dX12_nextPlan_32 : decode cX12_nextPlan 32 = .ok (.iload_n 1, 1) := by decide +kernel
theorem dX12_nextPlan_33 : decode cX12_nextPlan 33 = .ok (.iaload, 1) := by decide +kernel
theorem dX12_nextPlan_34 : decode cX12_nextPlan 34 = .ok (.if_icmp .ge 15, 3) := by decide +kernel
theorem dX12_nextPlan_37 : decode cX12_nextPlan 37 = .ok (.aload_n 0, 1) := by decide +kernel
theorem dX12_nextPlan_38 : decode cX12_nextPlan 38 = .ok (.getfield 68, 3) := by decide +kernel
theorem dX12_nextPlan_41 : decode cX12_nextPlan 41 = .ok (.iload_n 1, 1) := by decide +kernel
theorem dX12_nextPlan_42 : decode cX12_nextPlan 42 = .ok (.dup2, 1) := by decide +kernel
theorem dX12_nextPlan_43 : decode cX12_nextPlan 43 = .ok (.iaload, 1) := by decide +kernel
theorem dX12_nextPlan_44 : decode cX12_nextPlan 44 = .ok (.iconst 1, 1) := by decide +kernel
theorem dX12_nextPlan_45 : decode cX12_nextPlan 45 = .ok (.iadd, 1) := by decide +kernel
theorem dX12_nextPlan_46 : decode cX12_nextPlan 46 = .ok (.iastore, 1) := by decide +kernel
theorem dX12_nextPlan_47 : decode cX12_nextPlan 47 = .ok (.iconst 1, 1) := by decide +kernel
theorem dX12_nextPlan_48 : decode cX12_nextPlan 48 = .ok (.ireturn, 1) := by decide +kernel
theorem dX12_nextPlan_49 : decode cX12_nextPlan 49 = .ok (.aload_n 0, 1) := by decide +kernel
theorem dX12_nextPlan_50 : decode cX12_nextPlan 50 = .ok (.getfield 68, 3) := by decide +kernel
theorem dX12_nextPlan_53 : decode cX12_nextPlan 53 = .ok (.iload_n 1, 1) := by decide +kernel
theorem dX12_nextPlan_54 : decode cX12_nextPlan 54 = .ok (.aload_n 0, 1) := by decide +kernel
theorem dX12_nextPlan_55 : decode cX12_nextPlan 55 = .ok (.getfield 25, 3) := by decide +kernel
theorem dX12_nextPlan_58 : decode cX12_nextPlan 58 = .ok (.iload_n 1, 1) := by decide +kernel
theorem dX12_nextPlan_59 : decode cX12_nextPlan 59 = .ok (.iaload, 1) := by decide +kernel
theorem dX12_nextPlan_60 : decode cX12_nextPlan 60 = .ok (.bipush (-5), 2) := by decide +kernel
theorem dX12_nextPlan_62 : decode cX12_nextPlan 62 = .ok (.if_icmp .ne 12, 3) := by decide +kernel
theorem dX12_nextPlan_65 : decode cX12_nextPlan 65 = .ok (.aload_n 0, 1) := by decide +kernel
theorem dX12_nextPlan_66 : decode cX12_nextPlan 66 = .ok (.getfield 7, 3) := by decide +kernel
theorem dX12_nextPlan_69 : decode cX12_nextPlan 69 = .ok (.iload_n 1, 1) := by decide +kernel
theorem dX12_nextPlan_70 : decode cX12_nextPlan 70 = .ok (.iaload, 1) := by decide +kernel
theorem dX12_nextPlan_71 : decode cX12_nextPlan 71 = .ok (.goto 9, 3) := by decide +kernel
theorem dX12_nextPlan_74 : decode cX12_nextPlan 74 = .ok (.aload_n 0, 1) := by decide +kernel
theorem dX12_nextPlan_75 : decode cX12_nextPlan 75 = .ok (.getfield 25, 3) := by decide +kernel
theorem dX12_nextPlan_78 : decode cX12_nextPlan 78 = .ok (.iload_n 1, 1) := by decide +kernel
theorem dX12_nextPlan_79 : decode cX12_nextPlan 79 = .ok (.iaload, 1) := by decide +kernel
theorem dX12_nextPlan_80 : decode cX12_nextPlan 80 = .ok (.iastore, 1) := by decide +kernel
theorem dX12_nextPlan_81 : decode cX12_nextPlan 81 = .ok (.iinc 1 (-1), 3) := by decide +kernel
theorem dX12_nextPlan_84 : decode cX12_nextPlan 84 = .ok (.goto (-77), 3) := by decide +kernel
theorem dX12_nextPlan_87 : decode cX12_nextPlan 87 = .ok (.iconst 0, 1) := by decide +kernel
theorem dX12_nextPlan_88 : decode cX12_nextPlan 88 = .ok (.ireturn, 1) := by decide +kernel
theorem dX12_findBest_0 : decode cX12_findBest 0 = .ok (.iconst 0, 1) := by decide +kernel
theorem dX12_findBest_1 : decode cX12_findBest 1 = .ok (.istore_n 1, 1) := by decide +kernel
theorem dX12_findBest_2 : decode cX12_findBest 2 = .ok (.iconst 0, 1) := by decide +kernel
theorem dX12_findBest_3 : decode cX12_findBest 3 = .ok (.istore_n 2, 1) := by decide +kernel
theorem dX12_findBest_4 : decode cX12_findBest 4 = .ok (.iconst 0, 1) := by decide +kernel
theorem dX12_findBest_5 : decode cX12_findBest 5 = .ok (.istore_n 3, 1) := by decide +kernel
theorem dX12_findBest_6 : decode cX12_findBest 6 = .ok (.iconst 1, 1) := by decide +kernel
theorem dX12_findBest_7 : decode cX12_findBest 7 = .ok (.istore 4, 2) := by decide +kernel
theorem dX12_findBest_9 : decode cX12_findBest 9 = .ok (.aload_n 0, 1) := by decide +kernel
theorem dX12_findBest_10 : decode cX12_findBest 10 = .ok (.invokevirtual 127, 3) := by decide +kernel
theorem dX12_findBest_13 : decode cX12_findBest 13 = .ok (.iload 4, 2) := by decide +kernel
theorem dX12_findBest_15 : decode cX12_findBest 15 = .ok (.ifCond .eq 161, 3) := by decide +kernel
theorem dX12_findBest_18 : decode cX12_findBest 18 = .ok (.aload_n 0, 1) := by decide +kernel
theorem dX12_findBest_19 : decode cX12_findBest 19 = .ok (.aload_n 0, 1) := by decide +kernel
theorem dX12_findBest_20 : decode cX12_findBest 20 = .ok (.getfield 68, 3) := by decide +kernel
theorem dX12_findBest_23 : decode cX12_findBest 23 = .ok (.invokevirtual 130, 3) := by decide +kernel
theorem dX12_findBest_26 : decode cX12_findBest 26 = .ok (.ifCond .eq 141, 3) := by decide +kernel
theorem dX12_findBest_29 : decode cX12_findBest 29 = .ok (.aload_n 0, 1) := by decide +kernel
theorem dX12_findBest_30 : decode cX12_findBest 30 = .ok (.aload_n 0, 1) := by decide +kernel
theorem dX12_findBest_31 : decode cX12_findBest 31 = .ok (.getfield 68, 3) := by decide +kernel
theorem dX12_findBest_34 : decode cX12_findBest 34 = .ok (.invokevirtual 134, 3) := by decide +kernel
theorem dX12_findBest_37 : decode cX12_findBest 37 = .ok (.ifCond .ne 130, 3) := by decide +kernel
theorem dX12_findBest_40 : decode cX12_findBest 40 = .ok (.aload_n 0, 1) := by decide +kernel
theorem dX12_findBest_41 : decode cX12_findBest 41 = .ok (.aload_n 0, 1) := by decide +kernel
theorem dX12_findBest_42 : decode cX12_findBest 42 = .ok (.getfield 68, 3) := by decide +kernel
theorem dX12_findBest_45 : decode cX12_findBest 45 = .ok (.invokevirtual 138, 3) := by decide +kernel
theorem dX12_findBest_48 : decode cX12_findBest 48 = .ok (.istore 5, 2) := by decide +kernel
theorem dX12_findBest_50 : decode cX12_findBest 50 = .ok (.aload_n 0, 1) := by decide +kernel
theorem dX12_findBest_51 : decode cX12_findBest 51 = .ok (.aload_n 0, 1) := by decide +kernel
theorem dX12_findBest_52 : decode cX12_findBest 52 = .ok (.getfield 68, 3) := by decide +kernel
theorem dX12_findBest_55 : decode cX12_findBest 55 = .ok (.invokevirtual 141, 3) := by decide +kernel
theorem dX12_findBest_58 : decode cX12_findBest 58 = .ok (.istore 6, 2) := by decide +kernel
theorem dX12_findBest_60 : decode cX12_findBest 60 = .ok (.aload_n 0, 1) := by decide +kernel
theorem dX12_findBest_61 : decode cX12_findBest 61 = .ok (.getfield 117, 3) := by decide +kernel
theorem dX12_findBest_64 : decode cX12_findBest 64 = .ok (.ifCond .ne 29, 3) := by decide +kernel
theorem dX12_findBest_67 : decode cX12_findBest 67 = .ok (.iload 5, 2) := by decide +kernel
theorem dX12_findBest_69 : decode cX12_findBest 69 = .ok (.iload_n 2, 1) := by decide +kernel
theorem dX12_findBest_70 : decode cX12_findBest 70 = .ok (.if_icmp .lt 15, 3) := by decide +kernel
theorem dX12_findBest_73 : decode cX12_findBest 73 = .ok (.iload 5, 2) := by decide +kernel
theorem dX12_findBest_75 : decode cX12_findBest 75 = .ok (.iload_n 2, 1) := by decide +kernel
theorem dX12_findBest_76 : decode cX12_findBest 76 = .ok (.if_icmp .ne 13, 3) := by decide +kernel
theorem dX12_findBest_79 : decode cX12_findBest 79 = .ok (.iload 6, 2) := by decide +kernel
theorem dX12_findBest_81 : decode cX12_findBest 81 = .ok (.iload_n 3, 1) := by decide +kernel
theorem dX12_findBest_82 : decode cX12_findBest 82 = .ok (.if_icmp .le 7, 3) := by decide +kernel
theorem dX12_findBest_85 : decode cX12_findBest 85 = .ok (.iconst 1, 1) := by decide +kernel
theorem dX12_findBest_86 : decode cX12_findBest 86 = .ok (.goto 30, 3) := by decide +kernel
theorem dX12_findBest_89 : decode cX12_findBest 89 = .ok (.iconst 0, 1) := by decide +kernel
theorem dX12_findBest_90 : decode cX12_findBest 90 = .ok (.goto 26, 3) := by decide +kernel
theorem dX12_findBest_93 : decode cX12_findBest 93 = .ok (.iload 6, 2) := by decide +kernel
theorem dX12_findBest_95 : decode cX12_findBest 95 = .ok (.iload_n 3, 1) := by decide +kernel
theorem dX12_findBest_96 : decode cX12_findBest 96 = .ok (.if_icmp .gt 15, 3) := by decide +kernel
theorem dX12_findBest_99 : decode cX12_findBest 99 = .ok (.iload 6, 2) := by decide +kernel
theorem dX12_findBest_101 : decode cX12_findBest 101 = .ok (.iload_n 3, 1) := by decide +kernel
theorem dX12_findBest_102 : decode cX12_findBest 102 = .ok (.if_icmp .ne 13, 3) := by decide +kernel
theorem dX12_findBest_105 : decode cX12_findBest 105 = .ok (.iload 5, 2) := by decide +kernel
theorem dX12_findBest_107 : decode cX12_findBest 107 = .ok (.iload_n 2, 1) := by decide +kernel
theorem dX12_findBest_108 : decode cX12_findBest 108 = .ok (.if_icmp .ge 7, 3) := by decide +kernel
theorem dX12_findBest_111 : decode cX12_findBest 111 = .ok (.iconst 1, 1) := by decide +kernel
theorem dX12_findBest_112 : decode cX12_findBest 112 = .ok (.goto 4, 3) := by decide +kernel
theorem dX12_findBest_115 : decode cX12_findBest 115 = .ok (.iconst 0, 1) := by decide +kernel
theorem dX12_findBest_116 : decode cX12_findBest 116 = .ok (.istore 7, 2) := by decide +kernel
theorem dX12_findBest_118 : decode cX12_findBest 118 = .ok (.iload_n 1, 1) := by decide +kernel
theorem dX12_findBest_119 : decode cX12_findBest 119 = .ok (.ifCond .eq 8, 3) := by decide +kernel
theorem dX12_findBest_122 : decode cX12_findBest 122 = .ok (.iload 7, 2) := by decide +kernel
theorem dX12_findBest_124 : decode cX12_findBest 124 = .ok (.ifCond .eq 43, 3) := by decide +kernel
theorem dX12_findBest_127 : decode cX12_findBest 127 = .ok (.iconst 1, 1) := by decide +kernel
theorem dX12_findBest_128 : decode cX12_findBest 128 = .ok (.istore_n 1, 1) := by decide +kernel
theorem dX12_findBest_129 : decode cX12_findBest 129 = .ok (.iload 5, 2) := by decide +kernel
theorem dX12_findBest_131 : decode cX12_findBest 131 = .ok (.istore_n 2, 1) := by decide +kernel
theorem dX12_findBest_132 : decode cX12_findBest 132 = .ok (.iload 6, 2) := by decide +kernel
theorem dX12_findBest_134 : decode cX12_findBest 134 = .ok (.istore_n 3, 1) := by decide +kernel
theorem dX12_findBest_135 : decode cX12_findBest 135 = .ok (.iconst 0, 1) := by decide +kernel
theorem dX12_findBest_136 : decode cX12_findBest 136 = .ok (.istore 8, 2) := by decide +kernel
theorem dX12_findBest_138 : decode cX12_findBest 138 = .ok (.iload 8, 2) := by decide +kernel
theorem dX12_findBest_140 : decode cX12_findBest 140 = .ok (.aload_n 0, 1) := by decide +kernel
theorem dX12_findBest_141 : decode cX12_findBest 141 = .ok (.getfield 93, 3) := by decide +kernel
theorem dX12_findBest_144 : decode cX12_findBest 144 = .ok (.if_icmp .ge 23, 3) := by decide +kernel
theorem dX12_findBest_147 : decode cX12_findBest 147 = .ok (.aload_n 0, 1) := by decide +kernel
theorem dX12_findBest_148 : decode cX12_findBest 148 = .ok (.getfield 71, 3) := by decide +kernel
theorem dX12_findBest_151 : decode cX12_findBest 151 = .ok (.iload 8, 2) := by decide +kernel
theorem dX12_findBest_153 : decode cX12_findBest 153 = .ok (.aload_n 0, 1) := by decide +kernel
theorem dX12_findBest_154 : decode cX12_findBest 154 = .ok (.getfield 68, 3) := by decide +kernel
theorem dX12_findBest_157 : decode cX12_findBest 157 = .ok (.iload 8, 2) := by decide +kernel
theorem dX12_findBest_159 : decode cX12_findBest 159 = .ok (.iaload, 1) := by decide +kernel
theorem dX12_findBest_160 : decode cX12_findBest 160 = .ok (.iastore, 1) := by decide +kernel
theorem dX12_findBest_161 : decode cX12_findBest 161 = .ok (.iinc 8 1, 3) := by decide +kernel
theorem dX12_findBest_164 : decode cX12_findBest 164 = .ok (.goto (-26), 3) := by decide +kernel
theorem dX12_findBest_167 : decode cX12_findBest 167 = .ok (.aload_n 0, 1) := by decide +kernel
theorem dX12_findBest_168 : decode cX12_findBest 168 = .ok (.invokevirtual 144, 3) := by decide +kernel
theorem dX12_findBest_171 : decode cX12_findBest 171 = .ok (.istore 4, 2) := by decide +kernel
theorem dX12_findBest_173 : decode cX12_findBest 173 = .ok (.goto (-160), 3) := by decide +kernel
theorem dX12_findBest_176 : decode cX12_findBest 176 = .ok (.iload_n 1, 1) := by decide +kernel
theorem dX12_findBest_177 : decode cX12_findBest 177 = .ok (.ireturn, 1) := by decide +kernel
theorem dX12_leastOf_0 : decode cX12_leastOf 0 = .ok (.bipush (-5), 2) := by decide +kernel
theorem dX12_leastOf_2 : decode cX12_leastOf 2 = .ok (.istore_n 2, 1) := by decide +kernel
theorem dX12_leastOf_3 : decode cX12_leastOf 3 = .ok (.iconst 1, 1) := by decide +kernel
theorem dX12_leastOf_4 : decode cX12_leastOf 4 = .ok (.istore_n 3, 1) := by decide +kernel
theorem dX12_leastOf_5 : decode cX12_leastOf 5 = .ok (.aload_n 0, 1) := by decide +kernel
theorem dX12_leastOf_6 : decode cX12_leastOf 6 = .ok (.invokevirtual 127, 3) := by decide +kernel
theorem dX12_leastOf_9 : decode cX12_leastOf 9 = .ok (.iload_n 3, 1) := by decide +kernel
theorem dX12_leastOf_10 : decode cX12_leastOf 10 = .ok (.ifCond .eq 85, 3) := by decide +kernel
theorem dX12_leastOf_13 : decode cX12_leastOf 13 = .ok (.aload_n 0, 1) := by decide +kernel
theorem dX12_leastOf_14 : decode cX12_leastOf 14 = .ok (.aload_n 0, 1) := by decide +kernel
theorem dX12_leastOf_15 : decode cX12_leastOf 15 = .ok (.getfield 68, 3) := by decide +kernel
theorem dX12_leastOf_18 : decode cX12_leastOf 18 = .ok (.invokevirtual 134, 3) := by decide +kernel
theorem dX12_leastOf_21 : decode cX12_leastOf 21 = .ok (.istore 4, 2) := by decide +kernel
theorem dX12_leastOf_23 : decode cX12_leastOf 23 = .ok (.iload_n 1, 1) := by decide +kernel
theorem dX12_leastOf_24 : decode cX12_leastOf 24 = .ok (.ifCond .ge 8, 3) := by decide +kernel
theorem dX12_leastOf_27 : decode cX12_leastOf 27 = .ok (.iload 4, 2) := by decide +kernel
theorem dX12_leastOf_29 : decode cX12_leastOf 29 = .ok (.goto 11, 3) := by decide +kernel
theorem dX12_leastOf_32 : decode cX12_leastOf 32 = .ok (.iload 4, 2) := by decide +kernel
theorem dX12_leastOf_34 : decode cX12_leastOf 34 = .ok (.iconst 1, 1) := by decide +kernel
theorem dX12_leastOf_35 : decode cX12_leastOf 35 = .ok (.iload_n 1, 1) := by decide +kernel
theorem dX12_leastOf_36 : decode cX12_leastOf 36 = .ok (.ishl, 1) := by decide +kernel
theorem dX12_leastOf_37 : decode cX12_leastOf 37 = .ok (.iconst (-1), 1) := by decide +kernel
theorem dX12_leastOf_38 : decode cX12_leastOf 38 = .ok (.ixor, 1) := by decide +kernel
theorem dX12_leastOf_39 : decode cX12_leastOf 39 = .ok (.iand, 1) := by decide +kernel
theorem dX12_leastOf_40 : decode cX12_leastOf 40 = .ok (.istore 4, 2) := by decide +kernel
theorem dX12_leastOf_42 : decode cX12_leastOf 42 = .ok (.iload 4, 2) := by decide +kernel
theorem dX12_leastOf_44 : decode cX12_leastOf 44 = .ok (.ifCond .ne 43, 3) := by decide +kernel
theorem dX12_leastOf_47 : decode cX12_leastOf 47 = .ok (.aload_n 0, 1) := by decide +kernel
theorem dX12_leastOf_48 : decode cX12_leastOf 48 = .ok (.aload_n 0, 1) := by decide +kernel
theorem dX12_leastOf_49 : decode cX12_leastOf 49 = .ok (.getfield 68, 3) := by decide +kernel
theorem dX12_leastOf_52 : decode cX12_leastOf 52 = .ok (.invokevirtual 130, 3) := by decide +kernel
theorem dX12_leastOf_55 : decode cX12_leastOf 55 = .ok (.ifCond .eq 32, 3) := by decide +kernel
theorem dX12_leastOf_58 : decode cX12_leastOf 58 = .ok (.aload_n 0, 1) := by decide +kernel
theorem dX12_leastOf_59 : decode cX12_leastOf 59 = .ok (.aload_n 0, 1) := by decide +kernel
theorem dX12_leastOf_60 : decode cX12_leastOf 60 = .ok (.getfield 68, 3) := by decide +kernel
theorem dX12_leastOf_63 : decode cX12_leastOf 63 = .ok (.invokevirtual 138, 3) := by decide +kernel
theorem dX12_leastOf_66 : decode cX12_leastOf 66 = .ok (.istore 5, 2) := by decide +kernel
theorem dX12_leastOf_68 : decode cX12_leastOf 68 = .ok (.iload_n 2, 1) := by decide +kernel
theorem dX12_leastOf_69 : decode cX12_leastOf 69 = .ok (.bipush (-5), 2) := by decide +kernel
theorem dX12_leastOf_71 : decode cX12_leastOf 71 = .ok (.if_icmp .eq 9, 3) := by decide +kernel
theorem dX12_leastOf_74 : decode cX12_leastOf 74 = .ok (.iload 5, 2) := by decide +kernel
theorem dX12_leastOf_76 : decode cX12_leastOf 76 = .ok (.iload_n 2, 1) := by decide +kernel
theorem dX12_leastOf_77 : decode cX12_leastOf 77 = .ok (.if_icmp .ge 8, 3) := by decide +kernel
theorem dX12_leastOf_80 : decode cX12_leastOf 80 = .ok (.iload 5, 2) := by decide +kernel
theorem dX12_leastOf_82 : decode cX12_leastOf 82 = .ok (.goto 4, 3) := by decide +kernel
theorem dX12_leastOf_85 : decode cX12_leastOf 85 = .ok (.iload_n 2, 1) := by decide +kernel
theorem dX12_leastOf_86 : decode cX12_leastOf 86 = .ok (.istore_n 2, 1) := by decide +kernel
theorem dX12_leastOf_87 : decode cX12_leastOf 87 = .ok (.aload_n 0, 1) := by decide +kernel
theorem dX12_leastOf_88 : decode cX12_leastOf 88 = .ok (.invokevirtual 144, 3) := by decide +kernel
theorem dX12_leastOf_91 : decode cX12_leastOf 91 = .ok (.istore_n 3, 1) := by decide +kernel
theorem dX12_leastOf_92 : decode cX12_leastOf 92 = .ok (.goto (-83), 3) := by decide +kernel
theorem dX12_leastOf_95 : decode cX12_leastOf 95 = .ok (.iload_n 2, 1) := by decide +kernel
theorem dX12_leastOf_96 : decode cX12_leastOf 96 = .ok (.ireturn, 1) := by decide +kernel
theorem dX12_put_0 : decode cX12_put 0 = .ok (.aload_n 0, 1) := by decide +kernel
theorem dX12_put_1 : decode cX12_put 1 = .ok (.iload_n 1, 1) := by decide +kernel
theorem dX12_put_2 : decode cX12_put 2 = .ok (.invokevirtual 103, 3) := by decide +kernel
theorem dX12_put_5 : decode cX12_put 5 = .ok (.ifCond .eq 5, 3) := by decide +kernel
theorem dX12_put_8 : decode cX12_put 8 = .ok (.iconst (-1), 1) := by decide +kernel
theorem dX12_put_9 : decode cX12_put 9 = .ok (.ireturn, 1) := by decide +kernel
theorem dX12_put_10 : decode cX12_put 10 = .ok (.aload_n 0, 1) := by decide +kernel
theorem dX12_put_11 : decode cX12_put 11 = .ok (.iload_n 1, 1) := by decide +kernel
theorem dX12_put_12 : decode cX12_put 12 = .ok (.iload_n 2, 1) := by decide +kernel
theorem dX12_put_13 : decode cX12_put 13 = .ok (.invokevirtual 107, 3) := by decide +kernel
theorem dX12_put_16 : decode cX12_put 16 = .ok (.ifCond .ne 6, 3) := by decide +kernel
theorem dX12_put_19 : decode cX12_put 19 = .ok (.bipush (-2), 2) := by decide +kernel
theorem dX12_put_21 : decode cX12_put 21 = .ok (.ireturn, 1) := by decide +kernel
theorem dX12_put_22 : decode cX12_put 22 = .ok (.aload_n 0, 1) := by decide +kernel
theorem dX12_put_23 : decode cX12_put 23 = .ok (.getfield 31, 3) := by decide +kernel
theorem dX12_put_26 : decode cX12_put 26 = .ok (.iload_n 1, 1) := by decide +kernel
theorem dX12_put_27 : decode cX12_put 27 = .ok (.iaload, 1) := by decide +kernel
theorem dX12_put_28 : decode cX12_put 28 = .ok (.istore_n 3, 1) := by decide +kernel
theorem dX12_put_29 : decode cX12_put 29 = .ok (.aload_n 0, 1) := by decide +kernel
theorem dX12_put_30 : decode cX12_put 30 = .ok (.getfield 31, 3) := by decide +kernel
theorem dX12_put_33 : decode cX12_put 33 = .ok (.iload_n 1, 1) := by decide +kernel
theorem dX12_put_34 : decode cX12_put 34 = .ok (.iload_n 2, 1) := by decide +kernel
theorem dX12_put_35 : decode cX12_put 35 = .ok (.iastore, 1) := by decide +kernel
theorem dX12_put_36 : decode cX12_put 36 = .ok (.iload_n 3, 1) := by decide +kernel
theorem dX12_put_37 : decode cX12_put 37 = .ok (.ireturn, 1) := by decide +kernel
theorem dX12_value_0 : decode cX12_value 0 = .ok (.aload_n 0, 1) := by decide +kernel
theorem dX12_value_1 : decode cX12_value 1 = .ok (.iload_n 1, 1) := by decide +kernel
theorem dX12_value_2 : decode cX12_value 2 = .ok (.invokevirtual 103, 3) := by decide +kernel
theorem dX12_value_5 : decode cX12_value 5 = .ok (.ifCond .eq 7, 3) := by decide +kernel
theorem dX12_value_8 : decode cX12_value 8 = .ok (.iconst (-1), 1) := by decide +kernel
theorem dX12_value_9 : decode cX12_value 9 = .ok (.goto 9, 3) := by decide +kernel
theorem dX12_value_12 : decode cX12_value 12 = .ok (.aload_n 0, 1) := by decide +kernel
theorem dX12_value_13 : decode cX12_value 13 = .ok (.getfield 31, 3) := by decide +kernel
theorem dX12_value_16 : decode cX12_value 16 = .ok (.iload_n 1, 1) := by decide +kernel
theorem dX12_value_17 : decode cX12_value 17 = .ok (.iaload, 1) := by decide +kernel
theorem dX12_value_18 : decode cX12_value 18 = .ok (.ireturn, 1) := by decide +kernel
theorem dX12_keep_0 : decode cX12_keep 0 = .ok (.aload_n 0, 1) := by decide +kernel
theorem dX12_keep_1 : decode cX12_keep 1 = .ok (.getfield 93, 3) := by decide +kernel
theorem dX12_keep_4 : decode cX12_keep 4 = .ok (.ifCond .ne 6, 3) := by decide +kernel
theorem dX12_keep_7 : decode cX12_keep 7 = .ok (.bipush (-3), 2) := by decide +kernel
theorem dX12_keep_9 : decode cX12_keep 9 = .ok (.ireturn, 1) := by decide +kernel
theorem dX12_keep_10 : decode cX12_keep 10 = .ok (.aload_n 0, 1) := by decide +kernel
theorem dX12_keep_11 : decode cX12_keep 11 = .ok (.getfield 100, 3) := by decide +kernel
theorem dX12_keep_14 : decode cX12_keep 14 = .ok (.iconst 3, 1) := by decide +kernel
theorem dX12_keep_15 : decode cX12_keep 15 = .ok (.if_icmp .ne 6, 3) := by decide +kernel
theorem dX12_keep_18 : decode cX12_keep 18 = .ok (.bipush (-4), 2) := by decide +kernel
theorem dX12_keep_20 : decode cX12_keep 20 = .ok (.ireturn, 1) := by decide +kernel
theorem dX12_keep_21 : decode cX12_keep 21 = .ok (.iconst 0, 1) := by decide +kernel
theorem dX12_keep_22 : decode cX12_keep 22 = .ok (.istore_n 1, 1) := by decide +kernel
theorem dX12_keep_23 : decode cX12_keep 23 = .ok (.iload_n 1, 1) := by decide +kernel
theorem dX12_keep_24 : decode cX12_keep 24 = .ok (.bipush 6, 2) := by decide +kernel
theorem dX12_keep_26 : decode cX12_keep 26 = .ok (.if_icmp .ge 49, 3) := by decide +kernel
theorem dX12_keep_29 : decode cX12_keep 29 = .ok (.aload_n 0, 1) := by decide +kernel
theorem dX12_keep_30 : decode cX12_keep 30 = .ok (.getfield 52, 3) := by decide +kernel
theorem dX12_keep_33 : decode cX12_keep 33 = .ok (.bipush 6, 2) := by decide +kernel
theorem dX12_keep_35 : decode cX12_keep 35 = .ok (.aload_n 0, 1) := by decide +kernel
theorem dX12_keep_36 : decode cX12_keep 36 = .ok (.getfield 100, 3) := by decide +kernel
theorem dX12_keep_39 : decode cX12_keep 39 = .ok (.imul, 1) := by decide +kernel
theorem dX12_keep_40 : decode cX12_keep 40 = .ok (.iload_n 1, 1) := by decide +kernel
theorem dX12_keep_41 : decode cX12_keep 41 = .ok (.iadd, 1) := by decide +kernel
theorem dX12_keep_42 : decode cX12_keep 42 = .ok (.aload_n 0, 1) := by decide +kernel
theorem dX12_keep_43 : decode cX12_keep 43 = .ok (.getfield 31, 3) := by decide +kernel
theorem dX12_keep_46 : decode cX12_keep 46 = .ok (.iload_n 1, 1) := by decide +kernel
theorem dX12_keep_47 : decode cX12_keep 47 = .ok (.iaload, 1) := by decide +kernel
theorem dX12_keep_48 : decode cX12_keep 48 = .ok (.iastore, 1) := by decide +kernel
theorem dX12_keep_49 : decode cX12_keep 49 = .ok (.aload_n 0, 1) := by decide +kernel
theorem dX12_keep_50 : decode cX12_keep 50 = .ok (.getfield 55, 3) := by decide +kernel
theorem dX12_keep_53 : decode cX12_keep 53 = .ok (.bipush 6, 2) := by decide +kernel
theorem dX12_keep_55 : decode cX12_keep 55 = .ok (.aload_n 0, 1) := by decide +kernel
theorem dX12_keep_56 : decode cX12_keep 56 = .ok (.getfield 100, 3) := by decide +kernel
theorem dX12_keep_59 : decode cX12_keep 59 = .ok (.imul, 1) := by decide +kernel
theorem dX12_keep_60 : decode cX12_keep 60 = .ok (.iload_n 1, 1) := by decide +kernel
theorem dX12_keep_61 : decode cX12_keep 61 = .ok (.iadd, 1) := by decide +kernel
theorem dX12_keep_62 : decode cX12_keep 62 = .ok (.aload_n 0, 1) := by decide +kernel
theorem dX12_keep_63 : decode cX12_keep 63 = .ok (.getfield 37, 3) := by decide +kernel
theorem dX12_keep_66 : decode cX12_keep 66 = .ok (.iload_n 1, 1) := by decide +kernel
theorem dX12_keep_67 : decode cX12_keep 67 = .ok (.iaload, 1) := by decide +kernel
theorem dX12_keep_68 : decode cX12_keep 68 = .ok (.iastore, 1) := by decide +kernel
theorem dX12_keep_69 : decode cX12_keep 69 = .ok (.iinc 1 1, 3) := by decide +kernel
theorem dX12_keep_72 : decode cX12_keep 72 = .ok (.goto (-49), 3) := by decide +kernel
theorem dX12_keep_75 : decode cX12_keep 75 = .ok (.aload_n 0, 1) := by decide +kernel
theorem dX12_keep_76 : decode cX12_keep 76 = .ok (.aload_n 0, 1) := by decide +kernel
theorem dX12_keep_77 : decode cX12_keep 77 = .ok (.getfield 100, 3) := by decide +kernel
theorem dX12_keep_80 : decode cX12_keep 80 = .ok (.putfield 58, 3) := by decide +kernel
theorem dX12_keep_83 : decode cX12_keep 83 = .ok (.aload_n 0, 1) := by decide +kernel
theorem dX12_keep_84 : decode cX12_keep 84 = .ok (.dup, 1) := by decide +kernel
theorem dX12_keep_85 : decode cX12_keep 85 = .ok (.getfield 100, 3) := by decide +kernel
theorem dX12_keep_88 : decode cX12_keep 88 = .ok (.iconst 1, 1) := by decide +kernel
theorem dX12_keep_89 : decode cX12_keep 89 = .ok (.iadd, 1) := by decide +kernel
theorem dX12_keep_90 : decode cX12_keep 90 = .ok (.putfield 100, 3) := by decide +kernel
theorem dX12_keep_93 : decode cX12_keep 93 = .ok (.aload_n 0, 1) := by decide +kernel
theorem dX12_keep_94 : decode cX12_keep 94 = .ok (.getfield 58, 3) := by decide +kernel
theorem dX12_keep_97 : decode cX12_keep 97 = .ok (.ireturn, 1) := by decide +kernel
theorem dX12_base_0 : decode cX12_base 0 = .ok (.iload_n 1, 1) := by decide +kernel
theorem dX12_base_1 : decode cX12_base 1 = .ok (.iconst 0, 1) := by decide +kernel
theorem dX12_base_2 : decode cX12_base 2 = .ok (.aload_n 0, 1) := by decide +kernel
theorem dX12_base_3 : decode cX12_base 3 = .ok (.getfield 100, 3) := by decide +kernel
theorem dX12_base_6 : decode cX12_base 6 = .ok (.iconst 1, 1) := by decide +kernel
theorem dX12_base_7 : decode cX12_base 7 = .ok (.isub, 1) := by decide +kernel
theorem dX12_base_8 : decode cX12_base 8 = .ok (.invokestatic 96, 3) := by decide +kernel
theorem dX12_base_11 : decode cX12_base 11 = .ok (.ifCond .eq 5, 3) := by decide +kernel
theorem dX12_base_14 : decode cX12_base 14 = .ok (.iconst (-1), 1) := by decide +kernel
theorem dX12_base_15 : decode cX12_base 15 = .ok (.ireturn, 1) := by decide +kernel
theorem dX12_base_16 : decode cX12_base 16 = .ok (.aload_n 0, 1) := by decide +kernel
theorem dX12_base_17 : decode cX12_base 17 = .ok (.getfield 58, 3) := by decide +kernel
theorem dX12_base_20 : decode cX12_base 20 = .ok (.istore_n 2, 1) := by decide +kernel
theorem dX12_base_21 : decode cX12_base 21 = .ok (.aload_n 0, 1) := by decide +kernel
theorem dX12_base_22 : decode cX12_base 22 = .ok (.iload_n 1, 1) := by decide +kernel
theorem dX12_base_23 : decode cX12_base 23 = .ok (.putfield 58, 3) := by decide +kernel
theorem dX12_base_26 : decode cX12_base 26 = .ok (.iload_n 2, 1) := by decide +kernel
theorem dX12_base_27 : decode cX12_base 27 = .ok (.ireturn, 1) := by decide +kernel
theorem dX12_old_0 : decode cX12_old 0 = .ok (.iload_n 1, 1) := by decide +kernel
theorem dX12_old_1 : decode cX12_old 1 = .ok (.iconst 0, 1) := by decide +kernel
theorem dX12_old_2 : decode cX12_old 2 = .ok (.aload_n 0, 1) := by decide +kernel
theorem dX12_old_3 : decode cX12_old 3 = .ok (.getfield 100, 3) := by decide +kernel
theorem dX12_old_6 : decode cX12_old 6 = .ok (.iconst 1, 1) := by decide +kernel
theorem dX12_old_7 : decode cX12_old 7 = .ok (.isub, 1) := by decide +kernel
theorem dX12_old_8 : decode cX12_old 8 = .ok (.invokestatic 96, 3) := by decide +kernel
theorem dX12_old_11 : decode cX12_old 11 = .ok (.ifCond .ne 11, 3) := by decide +kernel
theorem dX12_old_14 : decode cX12_old 14 = .ok (.aload_n 0, 1) := by decide +kernel
theorem dX12_old_15 : decode cX12_old 15 = .ok (.iload_n 2, 1) := by decide +kernel
theorem dX12_old_16 : decode cX12_old 16 = .ok (.invokevirtual 103, 3) := by decide +kernel
theorem dX12_old_19 : decode cX12_old 19 = .ok (.ifCond .eq 7, 3) := by decide +kernel
theorem dX12_old_22 : decode cX12_old 22 = .ok (.iconst (-1), 1) := by decide +kernel
theorem dX12_old_23 : decode cX12_old 23 = .ok (.goto 14, 3) := by decide +kernel
theorem dX12_old_26 : decode cX12_old 26 = .ok (.aload_n 0, 1) := by decide +kernel
theorem dX12_old_27 : decode cX12_old 27 = .ok (.getfield 52, 3) := by decide +kernel
theorem dX12_old_30 : decode cX12_old 30 = .ok (.bipush 6, 2) := by decide +kernel
theorem dX12_old_32 : decode cX12_old 32 = .ok (.iload_n 1, 1) := by decide +kernel
theorem dX12_old_33 : decode cX12_old 33 = .ok (.imul, 1) := by decide +kernel
theorem dX12_old_34 : decode cX12_old 34 = .ok (.iload_n 2, 1) := by decide +kernel
theorem dX12_old_35 : decode cX12_old 35 = .ok (.iadd, 1) := by decide +kernel
theorem dX12_old_36 : decode cX12_old 36 = .ok (.iaload, 1) := by decide +kernel
theorem dX12_old_37 : decode cX12_old 37 = .ok (.ireturn, 1) := by decide +kernel
theorem dX12_run_0 : decode cX12_run 0 = .ok (.aload_n 0, 1) := by decide +kernel
theorem dX12_run_1 : decode cX12_run 1 = .ok (.getfield 93, 3) := by decide +kernel
theorem dX12_run_4 : decode cX12_run 4 = .ok (.ifCond .ne 6, 3) := by decide +kernel
theorem dX12_run_7 : decode cX12_run 7 = .ok (.bipush (-3), 2) := by decide +kernel
theorem dX12_run_9 : decode cX12_run 9 = .ok (.ireturn, 1) := by decide +kernel
theorem dX12_run_10 : decode cX12_run 10 = .ok (.aload_n 0, 1) := by decide +kernel
theorem dX12_run_11 : decode cX12_run 11 = .ok (.invokevirtual 148, 3) := by decide +kernel
theorem dX12_run_14 : decode cX12_run 14 = .ok (.ifCond .ne 6, 3) := by decide +kernel
theorem dX12_run_17 : decode cX12_run 17 = .ok (.bipush (-5), 2) := by decide +kernel
theorem dX12_run_19 : decode cX12_run 19 = .ok (.ireturn, 1) := by decide +kernel
theorem dX12_run_20 : decode cX12_run 20 = .ok (.aload_n 0, 1) := by decide +kernel
theorem dX12_run_21 : decode cX12_run 21 = .ok (.getfield 151, 3) := by decide +kernel
theorem dX12_run_24 : decode cX12_run 24 = .ok (.bipush 8, 2) := by decide +kernel
theorem dX12_run_26 : decode cX12_run 26 = .ok (.if_icmp .ne 66, 3) := by decide +kernel
theorem dX12_run_29 : decode cX12_run 29 = .ok (.iconst 0, 1) := by decide +kernel
theorem dX12_run_30 : decode cX12_run 30 = .ok (.istore_n 1, 1) := by decide +kernel
theorem dX12_run_31 : decode cX12_run 31 = .ok (.iload_n 1, 1) := by decide +kernel
theorem dX12_run_32 : decode cX12_run 32 = .ok (.bipush 42, 2) := by decide +kernel
theorem dX12_run_34 : decode cX12_run 34 = .ok (.if_icmp .ge 24, 3) := by decide +kernel
theorem dX12_run_37 : decode cX12_run 37 = .ok (.aload_n 0, 1) := by decide +kernel
theorem dX12_run_38 : decode cX12_run 38 = .ok (.getfield 65, 3) := by decide +kernel
theorem dX12_run_41 : decode cX12_run 41 = .ok (.iload_n 1, 1) := by decide +kernel
theorem dX12_run_42 : decode cX12_run 42 = .ok (.aload_n 0, 1) := by decide +kernel
theorem dX12_run_43 : decode cX12_run 43 = .ok (.getfield 65, 3) := by decide +kernel
theorem dX12_run_46 : decode cX12_run 46 = .ok (.iload_n 1, 1) := by decide +kernel
theorem dX12_run_47 : decode cX12_run 47 = .ok (.bipush 6, 2) := by decide +kernel
theorem dX12_run_49 : decode cX12_run 49 = .ok (.iadd, 1) := by decide +kernel
theorem dX12_run_50 : decode cX12_run 50 = .ok (.iaload, 1) := by decide +kernel
theorem dX12_run_51 : decode cX12_run 51 = .ok (.iastore, 1) := by decide +kernel
theorem dX12_run_52 : decode cX12_run 52 = .ok (.iinc 1 1, 3) := by decide +kernel
theorem dX12_run_55 : decode cX12_run 55 = .ok (.goto (-24), 3) := by decide +kernel
theorem dX12_run_58 : decode cX12_run 58 = .ok (.iconst 0, 1) := by decide +kernel
theorem dX12_run_59 : decode cX12_run 59 = .ok (.istore_n 1, 1) := by decide +kernel
theorem dX12_run_60 : decode cX12_run 60 = .ok (.iload_n 1, 1) := by decide +kernel
theorem dX12_run_61 : decode cX12_run 61 = .ok (.bipush 7, 2) := by decide +kernel
theorem dX12_run_63 : decode cX12_run 63 = .ok (.if_icmp .ge 23, 3) := by decide +kernel
theorem dX12_run_66 : decode cX12_run 66 = .ok (.aload_n 0, 1) := by decide +kernel
theorem dX12_run_67 : decode cX12_run 67 = .ok (.getfield 62, 3) := by decide +kernel
theorem dX12_run_70 : decode cX12_run 70 = .ok (.iload_n 1, 1) := by decide +kernel
theorem dX12_run_71 : decode cX12_run 71 = .ok (.aload_n 0, 1) := by decide +kernel
theorem dX12_run_72 : decode cX12_run 72 = .ok (.getfield 62, 3) := by decide +kernel
theorem dX12_run_75 : decode cX12_run 75 = .ok (.iload_n 1, 1) := by decide +kernel
theorem dX12_run_76 : decode cX12_run 76 = .ok (.iconst 1, 1) := by decide +kernel
theorem dX12_run_77 : decode cX12_run 77 = .ok (.iadd, 1) := by decide +kernel
theorem dX12_run_78 : decode cX12_run 78 = .ok (.iaload, 1) := by decide +kernel
theorem dX12_run_79 : decode cX12_run 79 = .ok (.iastore, 1) := by decide +kernel
theorem dX12_run_80 : decode cX12_run 80 = .ok (.iinc 1 1, 3) := by decide +kernel
theorem dX12_run_83 : decode cX12_run 83 = .ok (.goto (-23), 3) := by decide +kernel
theorem dX12_run_86 : decode cX12_run 86 = .ok (.aload_n 0, 1) := by decide +kernel
theorem dX12_run_87 : decode cX12_run 87 = .ok (.bipush 7, 2) := by decide +kernel
theorem dX12_run_89 : decode cX12_run 89 = .ok (.putfield 151, 3) := by decide +kernel
theorem dX12_run_92 : decode cX12_run 92 = .ok (.aload_n 0, 1) := by decide +kernel
theorem dX12_run_93 : decode cX12_run 93 = .ok (.getfield 62, 3) := by decide +kernel
theorem dX12_run_96 : decode cX12_run 96 = .ok (.aload_n 0, 1) := by decide +kernel
theorem dX12_run_97 : decode cX12_run 97 = .ok (.getfield 151, 3) := by decide +kernel
theorem dX12_run_100 : decode cX12_run 100 = .ok (.aload_n 0, 1) := by decide +kernel
theorem dX12_run_101 : decode cX12_run 101 = .ok (.getfield 93, 3) := by decide +kernel
theorem dX12_run_104 : decode cX12_run 104 = .ok (.iastore, 1) := by decide +kernel
theorem dX12_run_105 : decode cX12_run 105 = .ok (.iconst 0, 1) := by decide +kernel
theorem dX12_run_106 : decode cX12_run 106 = .ok (.istore_n 1, 1) := by decide +kernel
theorem dX12_run_107 : decode cX12_run 107 = .ok (.iload_n 1, 1) := by decide +kernel
theorem dX12_run_108 : decode cX12_run 108 = .ok (.aload_n 0, 1) := by decide +kernel
theorem dX12_run_109 : decode cX12_run 109 = .ok (.getfield 93, 3) := by decide +kernel
theorem dX12_run_112 : decode cX12_run 112 = .ok (.if_icmp .ge 41, 3) := by decide +kernel
theorem dX12_run_115 : decode cX12_run 115 = .ok (.aload_n 0, 1) := by decide +kernel
theorem dX12_run_116 : decode cX12_run 116 = .ok (.getfield 65, 3) := by decide +kernel
theorem dX12_run_119 : decode cX12_run 119 = .ok (.bipush 6, 2) := by decide +kernel
theorem dX12_run_121 : decode cX12_run 121 = .ok (.aload_n 0, 1) := by decide +kernel
theorem dX12_run_122 : decode cX12_run 122 = .ok (.getfield 151, 3) := by decide +kernel
theorem dX12_run_125 : decode cX12_run 125 = .ok (.imul, 1) := by decide +kernel
theorem dX12_run_126 : decode cX12_run 126 = .ok (.iload_n 1, 1) := by decide +kernel
theorem dX12_run_127 : decode cX12_run 127 = .ok (.iadd, 1) := by decide +kernel
theorem dX12_run_128 : decode cX12_run 128 = .ok (.aload_n 0, 1) := by decide +kernel
theorem dX12_run_129 : decode cX12_run 129 = .ok (.getfield 31, 3) := by decide +kernel
theorem dX12_run_132 : decode cX12_run 132 = .ok (.iload_n 1, 1) := by decide +kernel
theorem dX12_run_133 : decode cX12_run 133 = .ok (.iaload, 1) := by decide +kernel
theorem dX12_run_134 : decode cX12_run 134 = .ok (.iastore, 1) := by decide +kernel
theorem dX12_run_135 : decode cX12_run 135 = .ok (.aload_n 0, 1) := by decide +kernel
theorem dX12_run_136 : decode cX12_run 136 = .ok (.getfield 31, 3) := by decide +kernel
theorem dX12_run_139 : decode cX12_run 139 = .ok (.iload_n 1, 1) := by decide +kernel
theorem dX12_run_140 : decode cX12_run 140 = .ok (.aload_n 0, 1) := by decide +kernel
theorem dX12_run_141 : decode cX12_run 141 = .ok (.getfield 71, 3) := by decide +kernel
theorem dX12_run_144 : decode cX12_run 144 = .ok (.iload_n 1, 1) := by decide +kernel
theorem dX12_run_145 : decode cX12_run 145 = .ok (.iaload, 1) := by decide +kernel
theorem dX12_run_146 : decode cX12_run 146 = .ok (.iastore, 1) := by decide +kernel
theorem dX12_run_147 : decode cX12_run 147 = .ok (.iinc 1 1, 3) := by decide +kernel
theorem dX12_run_150 : decode cX12_run 150 = .ok (.goto (-43), 3) := by decide +kernel
theorem dX12_run_153 : decode cX12_run 153 = .ok (.aload_n 0, 1) := by decide +kernel
theorem dX12_run_154 : decode cX12_run 154 = .ok (.dup, 1) := by decide +kernel
theorem dX12_run_155 : decode cX12_run 155 = .ok (.getfield 151, 3) := by decide +kernel
theorem dX12_run_158 : decode cX12_run 158 = .ok (.iconst 1, 1) := by decide +kernel
theorem dX12_run_159 : decode cX12_run 159 = .ok (.iadd, 1) := by decide +kernel
theorem dX12_run_160 : decode cX12_run 160 = .ok (.putfield 151, 3) := by decide +kernel
theorem dX12_run_163 : decode cX12_run 163 = .ok (.aload_n 0, 1) := by decide +kernel
theorem dX12_run_164 : decode cX12_run 164 = .ok (.aload_n 0, 1) := by decide +kernel
theorem dX12_run_165 : decode cX12_run 165 = .ok (.getfield 31, 3) := by decide +kernel
theorem dX12_run_168 : decode cX12_run 168 = .ok (.invokevirtual 138, 3) := by decide +kernel
theorem dX12_run_171 : decode cX12_run 171 = .ok (.ireturn, 1) := by decide +kernel
theorem dX12_undo_0 : decode cX12_undo 0 = .ok (.aload_n 0, 1) := by decide +kernel
theorem dX12_undo_1 : decode cX12_undo 1 = .ok (.getfield 151, 3) := by decide +kernel
theorem dX12_undo_4 : decode cX12_undo 4 = .ok (.ifCond .ne 6, 3) := by decide +kernel
theorem dX12_undo_7 : decode cX12_undo 7 = .ok (.bipush (-3), 2) := by decide +kernel
theorem dX12_undo_9 : decode cX12_undo 9 = .ok (.ireturn, 1) := by decide +kernel
theorem dX12_undo_10 : decode cX12_undo 10 = .ok (.aload_n 0, 1) := by decide +kernel
theorem dX12_undo_11 : decode cX12_undo 11 = .ok (.dup, 1) := by decide +kernel
theorem dX12_undo_12 : decode cX12_undo 12 = .ok (.getfield 151, 3) := by decide +kernel
theorem dX12_undo_15 : decode cX12_undo 15 = .ok (.iconst 1, 1) := by decide +kernel
theorem dX12_undo_16 : decode cX12_undo 16 = .ok (.isub, 1) := by decide +kernel
theorem dX12_undo_17 : decode cX12_undo 17 = .ok (.putfield 151, 3) := by decide +kernel
theorem dX12_undo_20 : decode cX12_undo 20 = .ok (.iconst 0, 1) := by decide +kernel
theorem dX12_undo_21 : decode cX12_undo 21 = .ok (.istore_n 1, 1) := by decide +kernel
theorem dX12_undo_22 : decode cX12_undo 22 = .ok (.iload_n 1, 1) := by decide +kernel
theorem dX12_undo_23 : decode cX12_undo 23 = .ok (.aload_n 0, 1) := by decide +kernel
theorem dX12_undo_24 : decode cX12_undo 24 = .ok (.getfield 62, 3) := by decide +kernel
theorem dX12_undo_27 : decode cX12_undo 27 = .ok (.aload_n 0, 1) := by decide +kernel
theorem dX12_undo_28 : decode cX12_undo 28 = .ok (.getfield 151, 3) := by decide +kernel
theorem dX12_undo_31 : decode cX12_undo 31 = .ok (.iaload, 1) := by decide +kernel
theorem dX12_undo_32 : decode cX12_undo 32 = .ok (.if_icmp .ge 29, 3) := by decide +kernel
theorem dX12_undo_35 : decode cX12_undo 35 = .ok (.aload_n 0, 1) := by decide +kernel
theorem dX12_undo_36 : decode cX12_undo 36 = .ok (.getfield 31, 3) := by decide +kernel
theorem dX12_undo_39 : decode cX12_undo 39 = .ok (.iload_n 1, 1) := by decide +kernel
theorem dX12_undo_40 : decode cX12_undo 40 = .ok (.aload_n 0, 1) := by decide +kernel
theorem dX12_undo_41 : decode cX12_undo 41 = .ok (.getfield 65, 3) := by decide +kernel
theorem dX12_undo_44 : decode cX12_undo 44 = .ok (.bipush 6, 2) := by decide +kernel
theorem dX12_undo_46 : decode cX12_undo 46 = .ok (.aload_n 0, 1) := by decide +kernel
theorem dX12_undo_47 : decode cX12_undo 47 = .ok (.getfield 151, 3) := by decide +kernel
theorem dX12_undo_50 : decode cX12_undo 50 = .ok (.imul, 1) := by decide +kernel
theorem dX12_undo_51 : decode cX12_undo 51 = .ok (.iload_n 1, 1) := by decide +kernel
theorem dX12_undo_52 : decode cX12_undo 52 = .ok (.iadd, 1) := by decide +kernel
theorem dX12_undo_53 : decode cX12_undo 53 = .ok (.iaload, 1) := by decide +kernel
theorem dX12_undo_54 : decode cX12_undo 54 = .ok (.iastore, 1) := by decide +kernel
theorem dX12_undo_55 : decode cX12_undo 55 = .ok (.iinc 1 1, 3) := by decide +kernel
theorem dX12_undo_58 : decode cX12_undo 58 = .ok (.goto (-36), 3) := by decide +kernel
theorem dX12_undo_61 : decode cX12_undo 61 = .ok (.aload_n 0, 1) := by decide +kernel
theorem dX12_undo_62 : decode cX12_undo 62 = .ok (.getfield 151, 3) := by decide +kernel
theorem dX12_undo_65 : decode cX12_undo 65 = .ok (.ireturn, 1) := by decide +kernel
theorem dX12_ones_0 : decode cX12_ones 0 = .ok (.iconst 0, 1) := by decide +kernel
theorem dX12_ones_1 : decode cX12_ones 1 = .ok (.istore_n 1, 1) := by decide +kernel
theorem dX12_ones_2 : decode cX12_ones 2 = .ok (.iconst 0, 1) := by decide +kernel
theorem dX12_ones_3 : decode cX12_ones 3 = .ok (.istore_n 2, 1) := by decide +kernel
theorem dX12_ones_4 : decode cX12_ones 4 = .ok (.iload_n 2, 1) := by decide +kernel
theorem dX12_ones_5 : decode cX12_ones 5 = .ok (.bipush 12, 2) := by decide +kernel
theorem dX12_ones_7 : decode cX12_ones 7 = .ok (.if_icmp .ge 17, 3) := by decide +kernel
theorem dX12_ones_10 : decode cX12_ones 10 = .ok (.iload_n 1, 1) := by decide +kernel
theorem dX12_ones_11 : decode cX12_ones 11 = .ok (.iload_n 0, 1) := by decide +kernel
theorem dX12_ones_12 : decode cX12_ones 12 = .ok (.iload_n 2, 1) := by decide +kernel
theorem dX12_ones_13 : decode cX12_ones 13 = .ok (.ishr, 1) := by decide +kernel
theorem dX12_ones_14 : decode cX12_ones 14 = .ok (.iconst 1, 1) := by decide +kernel
theorem dX12_ones_15 : decode cX12_ones 15 = .ok (.iand, 1) := by decide +kernel
theorem dX12_ones_16 : decode cX12_ones 16 = .ok (.iadd, 1) := by decide +kernel
theorem dX12_ones_17 : decode cX12_ones 17 = .ok (.istore_n 1, 1) := by decide +kernel
theorem dX12_ones_18 : decode cX12_ones 18 = .ok (.iinc 2 1, 3) := by decide +kernel
theorem dX12_ones_21 : decode cX12_ones 21 = .ok (.goto (-17), 3) := by decide +kernel
theorem dX12_ones_24 : decode cX12_ones 24 = .ok (.iload_n 1, 1) := by decide +kernel
theorem dX12_ones_25 : decode cX12_ones 25 = .ok (.ireturn, 1) := by decide +kernel
theorem dX12_movedBits_0 : decode cX12_movedBits 0 = .ok (.iconst 0, 1) := by decide +kernel
theorem dX12_movedBits_1 : decode cX12_movedBits 1 = .ok (.istore_n 1, 1) := by decide +kernel
theorem dX12_movedBits_2 : decode cX12_movedBits 2 = .ok (.iconst 0, 1) := by decide +kernel
theorem dX12_movedBits_3 : decode cX12_movedBits 3 = .ok (.istore_n 2, 1) := by decide +kernel
theorem dX12_movedBits_4 : decode cX12_movedBits 4 = .ok (.iload_n 2, 1) := by decide +kernel
theorem dX12_movedBits_5 : decode cX12_movedBits 5 = .ok (.aload_n 0, 1) := by decide +kernel
theorem dX12_movedBits_6 : decode cX12_movedBits 6 = .ok (.getfield 93, 3) := by decide +kernel
theorem dX12_movedBits_9 : decode cX12_movedBits 9 = .ok (.if_icmp .ge 31, 3) := by decide +kernel
theorem dX12_movedBits_12 : decode cX12_movedBits 12 = .ok (.iload_n 1, 1) := by decide +kernel
theorem dX12_movedBits_13 : decode cX12_movedBits 13 = .ok (.aload_n 0, 1) := by decide +kernel
theorem dX12_movedBits_14 : decode cX12_movedBits 14 = .ok (.aload_n 0, 1) := by decide +kernel
theorem dX12_movedBits_15 : decode cX12_movedBits 15 = .ok (.getfield 31, 3) := by decide +kernel
theorem dX12_movedBits_18 : decode cX12_movedBits 18 = .ok (.iload_n 2, 1) := by decide +kernel
theorem dX12_movedBits_19 : decode cX12_movedBits 19 = .ok (.invokevirtual 124, 3) := by decide +kernel
theorem dX12_movedBits_22 : decode cX12_movedBits 22 = .ok (.ifCond .eq 9, 3) := by decide +kernel
theorem dX12_movedBits_25 : decode cX12_movedBits 25 = .ok (.iconst 1, 1) := by decide +kernel
theorem dX12_movedBits_26 : decode cX12_movedBits 26 = .ok (.iload_n 2, 1) := by decide +kernel
theorem dX12_movedBits_27 : decode cX12_movedBits 27 = .ok (.ishl, 1) := by decide +kernel
theorem dX12_movedBits_28 : decode cX12_movedBits 28 = .ok (.goto 4, 3) := by decide +kernel
theorem dX12_movedBits_31 : decode cX12_movedBits 31 = .ok (.iconst 0, 1) := by decide +kernel
theorem dX12_movedBits_32 : decode cX12_movedBits 32 = .ok (.ior, 1) := by decide +kernel
theorem dX12_movedBits_33 : decode cX12_movedBits 33 = .ok (.istore_n 1, 1) := by decide +kernel
theorem dX12_movedBits_34 : decode cX12_movedBits 34 = .ok (.iinc 2 1, 3) := by decide +kernel
theorem dX12_movedBits_37 : decode cX12_movedBits 37 = .ok (.goto (-33), 3) := by decide +kernel
theorem dX12_movedBits_40 : decode cX12_movedBits 40 = .ok (.iload_n 1, 1) := by decide +kernel
theorem dX12_movedBits_41 : decode cX12_movedBits 41 = .ok (.ireturn, 1) := by decide +kernel
theorem dX12_told_0 : decode cX12_told 0 = .ok (.iload_n 1, 1) := by decide +kernel
theorem dX12_told_1 : decode cX12_told 1 = .ok (.tableswitch 121 0 7 #[47, 56, 65, 73, 78, 90, 99, 116], 47) := by decide +kernel
theorem dX12_told_48 : decode cX12_told 48 = .ok (.aload_n 0, 1) := by decide +kernel
theorem dX12_told_49 : decode cX12_told 49 = .ok (.aload_n 0, 1) := by decide +kernel
theorem dX12_told_50 : decode cX12_told 50 = .ok (.getfield 31, 3) := by decide +kernel
theorem dX12_told_53 : decode cX12_told 53 = .ok (.invokevirtual 138, 3) := by decide +kernel
theorem dX12_told_56 : decode cX12_told 56 = .ok (.ireturn, 1) := by decide +kernel
theorem dX12_told_57 : decode cX12_told 57 = .ok (.aload_n 0, 1) := by decide +kernel
theorem dX12_told_58 : decode cX12_told 58 = .ok (.aload_n 0, 1) := by decide +kernel
theorem dX12_told_59 : decode cX12_told 59 = .ok (.getfield 31, 3) := by decide +kernel
theorem dX12_told_62 : decode cX12_told 62 = .ok (.invokevirtual 141, 3) := by decide +kernel
theorem dX12_told_65 : decode cX12_told 65 = .ok (.ireturn, 1) := by decide +kernel
theorem dX12_told_66 : decode cX12_told 66 = .ok (.aload_n 0, 1) := by decide +kernel
theorem dX12_told_67 : decode cX12_told 67 = .ok (.invokevirtual 154, 3) := by decide +kernel
theorem dX12_told_70 : decode cX12_told 70 = .ok (.invokestatic 158, 3) := by decide +kernel
theorem dX12_told_73 : decode cX12_told 73 = .ok (.ireturn, 1) := by decide +kernel
theorem dX12_told_74 : decode cX12_told 74 = .ok (.aload_n 0, 1) := by decide +kernel
theorem dX12_told_75 : decode cX12_told 75 = .ok (.invokevirtual 154, 3) := by decide +kernel
theorem dX12_told_78 : decode cX12_told 78 = .ok (.ireturn, 1) := by decide +kernel
theorem dX12_told_79 : decode cX12_told 79 = .ok (.aload_n 0, 1) := by decide +kernel
theorem dX12_told_80 : decode cX12_told 80 = .ok (.aload_n 0, 1) := by decide +kernel
theorem dX12_told_81 : decode cX12_told 81 = .ok (.getfield 31, 3) := by decide +kernel
theorem dX12_told_84 : decode cX12_told 84 = .ok (.invokevirtual 134, 3) := by decide +kernel
theorem dX12_told_87 : decode cX12_told 87 = .ok (.invokestatic 158, 3) := by decide +kernel
theorem dX12_told_90 : decode cX12_told 90 = .ok (.ireturn, 1) := by decide +kernel
theorem dX12_told_91 : decode cX12_told 91 = .ok (.aload_n 0, 1) := by decide +kernel
theorem dX12_told_92 : decode cX12_told 92 = .ok (.aload_n 0, 1) := by decide +kernel
theorem dX12_told_93 : decode cX12_told 93 = .ok (.getfield 31, 3) := by decide +kernel
theorem dX12_told_96 : decode cX12_told 96 = .ok (.invokevirtual 134, 3) := by decide +kernel
theorem dX12_told_99 : decode cX12_told 99 = .ok (.ireturn, 1) := by decide +kernel
theorem dX12_told_100 : decode cX12_told 100 = .ok (.aload_n 0, 1) := by decide +kernel
theorem dX12_told_101 : decode cX12_told 101 = .ok (.aload_n 0, 1) := by decide +kernel
theorem dX12_told_102 : decode cX12_told 102 = .ok (.getfield 31, 3) := by decide +kernel
theorem dX12_told_105 : decode cX12_told 105 = .ok (.invokevirtual 130, 3) := by decide +kernel
theorem dX12_told_108 : decode cX12_told 108 = .ok (.ifCond .eq 7, 3) := by decide +kernel
theorem dX12_told_111 : decode cX12_told 111 = .ok (.iconst 1, 1) := by decide +kernel
theorem dX12_told_112 : decode cX12_told 112 = .ok (.goto 4, 3) := by decide +kernel
theorem dX12_told_115 : decode cX12_told 115 = .ok (.iconst 0, 1) := by decide +kernel
theorem dX12_told_116 : decode cX12_told 116 = .ok (.ireturn, 1) := by decide +kernel
theorem dX12_told_117 : decode cX12_told 117 = .ok (.aload_n 0, 1) := by decide +kernel
theorem dX12_told_118 : decode cX12_told 118 = .ok (.getfield 58, 3) := by decide +kernel
theorem dX12_told_121 : decode cX12_told 121 = .ok (.ireturn, 1) := by decide +kernel
theorem dX12_told_122 : decode cX12_told 122 = .ok (.bipush (-2), 2) := by decide +kernel
theorem dX12_told_124 : decode cX12_told 124 = .ok (.ireturn, 1) := by decide +kernel
theorem dX12_near_0 : decode cX12_near 0 = .ok (.iload_n 1, 1) := by decide +kernel
theorem dX12_near_1 : decode cX12_near 1 = .ok (.iconst 0, 1) := by decide +kernel
theorem dX12_near_2 : decode cX12_near 2 = .ok (.sipush 2000, 3) := by decide +kernel
theorem dX12_near_5 : decode cX12_near 5 = .ok (.invokestatic 96, 3) := by decide +kernel
theorem dX12_near_8 : decode cX12_near 8 = .ok (.ifCond .eq 6, 3) := by decide +kernel
theorem dX12_near_11 : decode cX12_near 11 = .ok (.bipush (-2), 2) := by decide +kernel
theorem dX12_near_13 : decode cX12_near 13 = .ok (.ireturn, 1) := by decide +kernel
theorem dX12_near_14 : decode cX12_near 14 = .ok (.aload_n 0, 1) := by decide +kernel
theorem dX12_near_15 : decode cX12_near 15 = .ok (.getfield 93, 3) := by decide +kernel
theorem dX12_near_18 : decode cX12_near 18 = .ok (.ifCond .ne 6, 3) := by decide +kernel
theorem dX12_near_21 : decode cX12_near 21 = .ok (.bipush (-3), 2) := by decide +kernel
theorem dX12_near_23 : decode cX12_near 23 = .ok (.ireturn, 1) := by decide +kernel
theorem dX12_near_24 : decode cX12_near 24 = .ok (.iconst 0, 1) := by decide +kernel
theorem dX12_near_25 : decode cX12_near 25 = .ok (.istore_n 2, 1) := by decide +kernel
theorem dX12_near_26 : decode cX12_near 26 = .ok (.iconst 1, 1) := by decide +kernel
theorem dX12_near_27 : decode cX12_near 27 = .ok (.istore_n 3, 1) := by decide +kernel
theorem dX12_near_28 : decode cX12_near 28 = .ok (.aload_n 0, 1) := by decide +kernel
theorem dX12_near_29 : decode cX12_near 29 = .ok (.invokevirtual 127, 3) := by decide +kernel
theorem dX12_near_32 : decode cX12_near 32 = .ok (.iload_n 3, 1) := by decide +kernel
theorem dX12_near_33 : decode cX12_near 33 = .ok (.ifCond .eq 53, 3) := by decide +kernel
theorem dX12_near_36 : decode cX12_near 36 = .ok (.iload_n 2, 1) := by decide +kernel
theorem dX12_near_37 : decode cX12_near 37 = .ok (.aload_n 0, 1) := by decide +kernel
theorem dX12_near_38 : decode cX12_near 38 = .ok (.aload_n 0, 1) := by decide +kernel
theorem dX12_near_39 : decode cX12_near 39 = .ok (.getfield 68, 3) := by decide +kernel
theorem dX12_near_42 : decode cX12_near 42 = .ok (.invokevirtual 130, 3) := by decide +kernel
theorem dX12_near_45 : decode cX12_near 45 = .ok (.ifCond .eq 30, 3) := by decide +kernel
theorem dX12_near_48 : decode cX12_near 48 = .ok (.aload_n 0, 1) := by decide +kernel
theorem dX12_near_49 : decode cX12_near 49 = .ok (.aload_n 0, 1) := by decide +kernel
theorem dX12_near_50 : decode cX12_near 50 = .ok (.getfield 68, 3) := by decide +kernel
theorem dX12_near_53 : decode cX12_near 53 = .ok (.invokevirtual 134, 3) := by decide +kernel
theorem dX12_near_56 : decode cX12_near 56 = .ok (.ifCond .ne 19, 3) := by decide +kernel
theorem dX12_near_59 : decode cX12_near 59 = .ok (.aload_n 0, 1) := by decide +kernel
theorem dX12_near_60 : decode cX12_near 60 = .ok (.aload_n 0, 1) := by decide +kernel
theorem dX12_near_61 : decode cX12_near 61 = .ok (.getfield 68, 3) := by decide +kernel
theorem dX12_near_64 : decode cX12_near 64 = .ok (.invokevirtual 138, 3) := by decide +kernel
theorem dX12_near_67 : decode cX12_near 67 = .ok (.iload_n 1, 1) := by decide +kernel
theorem dX12_near_68 : decode cX12_near 68 = .ok (.if_icmp .gt 7, 3) := by decide +kernel
theorem dX12_near_71 : decode cX12_near 71 = .ok (.iconst 1, 1) := by decide +kernel
theorem dX12_near_72 : decode cX12_near 72 = .ok (.goto 4, 3) := by decide +kernel
theorem dX12_near_75 : decode cX12_near 75 = .ok (.iconst 0, 1) := by decide +kernel
theorem dX12_near_76 : decode cX12_near 76 = .ok (.iadd, 1) := by decide +kernel
theorem dX12_near_77 : decode cX12_near 77 = .ok (.istore_n 2, 1) := by decide +kernel
theorem dX12_near_78 : decode cX12_near 78 = .ok (.aload_n 0, 1) := by decide +kernel
theorem dX12_near_79 : decode cX12_near 79 = .ok (.invokevirtual 144, 3) := by decide +kernel
theorem dX12_near_82 : decode cX12_near 82 = .ok (.istore_n 3, 1) := by decide +kernel
theorem dX12_near_83 : decode cX12_near 83 = .ok (.goto (-51), 3) := by decide +kernel
theorem dX12_near_86 : decode cX12_near 86 = .ok (.iload_n 2, 1) := by decide +kernel
theorem dX12_near_87 : decode cX12_near 87 = .ok (.ireturn, 1) := by decide +kernel
theorem dX12_least_0 : decode cX12_least 0 = .ok (.aload_n 0, 1) := by decide +kernel
theorem dX12_least_1 : decode cX12_least 1 = .ok (.getfield 93, 3) := by decide +kernel
theorem dX12_least_4 : decode cX12_least 4 = .ok (.ifCond .ne 8, 3) := by decide +kernel
theorem dX12_least_7 : decode cX12_least 7 = .ok (.bipush (-3), 2) := by decide +kernel
theorem dX12_least_9 : decode cX12_least 9 = .ok (.goto 8, 3) := by decide +kernel
theorem dX12_least_12 : decode cX12_least 12 = .ok (.aload_n 0, 1) := by decide +kernel
theorem dX12_least_13 : decode cX12_least 13 = .ok (.iconst (-1), 1) := by decide +kernel
theorem dX12_least_14 : decode cX12_least 14 = .ok (.invokevirtual 162, 3) := by decide +kernel
theorem dX12_least_17 : decode cX12_least 17 = .ok (.ireturn, 1) := by decide +kernel
theorem dX12_without_0 : decode cX12_without 0 = .ok (.iload_n 1, 1) := by decide +kernel
theorem dX12_without_1 : decode cX12_without 1 = .ok (.iconst 0, 1) := by decide +kernel
theorem dX12_without_2 : decode cX12_without 2 = .ok (.aload_n 0, 1) := by decide +kernel
theorem dX12_without_3 : decode cX12_without 3 = .ok (.getfield 114, 3) := by decide +kernel
theorem dX12_without_6 : decode cX12_without 6 = .ok (.iconst 1, 1) := by decide +kernel
theorem dX12_without_7 : decode cX12_without 7 = .ok (.isub, 1) := by decide +kernel
theorem dX12_without_8 : decode cX12_without 8 = .ok (.invokestatic 96, 3) := by decide +kernel
theorem dX12_without_11 : decode cX12_without 11 = .ok (.ifCond .eq 5, 3) := by decide +kernel
theorem dX12_without_14 : decode cX12_without 14 = .ok (.iconst (-1), 1) := by decide +kernel
theorem dX12_without_15 : decode cX12_without 15 = .ok (.ireturn, 1) := by decide +kernel
theorem dX12_without_16 : decode cX12_without 16 = .ok (.aload_n 0, 1) := by decide +kernel
theorem dX12_without_17 : decode cX12_without 17 = .ok (.getfield 93, 3) := by decide +kernel
theorem dX12_without_20 : decode cX12_without 20 = .ok (.ifCond .ne 8, 3) := by decide +kernel
theorem dX12_without_23 : decode cX12_without 23 = .ok (.bipush (-3), 2) := by decide +kernel
theorem dX12_without_25 : decode cX12_without 25 = .ok (.goto 8, 3) := by decide +kernel
theorem dX12_without_28 : decode cX12_without 28 = .ok (.aload_n 0, 1) := by decide +kernel
theorem dX12_without_29 : decode cX12_without 29 = .ok (.iload_n 1, 1) := by decide +kernel
theorem dX12_without_30 : decode cX12_without 30 = .ok (.invokevirtual 162, 3) := by decide +kernel
theorem dX12_without_33 : decode cX12_without 33 = .ok (.ireturn, 1) := by decide +kernel
theorem dX12_spare_0 : decode cX12_spare 0 = .ok (.iload_n 1, 1) := by decide +kernel
theorem dX12_spare_1 : decode cX12_spare 1 = .ok (.iconst 0, 1) := by decide +kernel
theorem dX12_spare_2 : decode cX12_spare 2 = .ok (.iconst 3, 1) := by decide +kernel
theorem dX12_spare_3 : decode cX12_spare 3 = .ok (.invokestatic 96, 3) := by decide +kernel
theorem dX12_spare_6 : decode cX12_spare 6 = .ok (.ifCond .eq 6, 3) := by decide +kernel
theorem dX12_spare_9 : decode cX12_spare 9 = .ok (.bipush (-2), 2) := by decide +kernel
theorem dX12_spare_11 : decode cX12_spare 11 = .ok (.ireturn, 1) := by decide +kernel
theorem dX12_spare_12 : decode cX12_spare 12 = .ok (.aload_n 0, 1) := by decide +kernel
theorem dX12_spare_13 : decode cX12_spare 13 = .ok (.getfield 93, 3) := by decide +kernel
theorem dX12_spare_16 : decode cX12_spare 16 = .ok (.ifCond .ne 6, 3) := by decide +kernel
theorem dX12_spare_19 : decode cX12_spare 19 = .ok (.bipush (-3), 2) := by decide +kernel
theorem dX12_spare_21 : decode cX12_spare 21 = .ok (.ireturn, 1) := by decide +kernel
theorem dX12_spare_22 : decode cX12_spare 22 = .ok (.aload_n 0, 1) := by decide +kernel
theorem dX12_spare_23 : decode cX12_spare 23 = .ok (.getfield 34, 3) := by decide +kernel
theorem dX12_spare_26 : decode cX12_spare 26 = .ok (.iload_n 1, 1) := by decide +kernel
theorem dX12_spare_27 : decode cX12_spare 27 = .ok (.iaload, 1) := by decide +kernel
theorem dX12_spare_28 : decode cX12_spare 28 = .ok (.istore_n 2, 1) := by decide +kernel
theorem dX12_spare_29 : decode cX12_spare 29 = .ok (.aload_n 0, 1) := by decide +kernel
theorem dX12_spare_30 : decode cX12_spare 30 = .ok (.getfield 34, 3) := by decide +kernel
theorem dX12_spare_33 : decode cX12_spare 33 = .ok (.iload_n 1, 1) := by decide +kernel
theorem dX12_spare_34 : decode cX12_spare 34 = .ok (.iconst 0, 1) := by decide +kernel
theorem dX12_spare_35 : decode cX12_spare 35 = .ok (.iastore, 1) := by decide +kernel
theorem dX12_spare_36 : decode cX12_spare 36 = .ok (.aload_n 0, 1) := by decide +kernel
theorem dX12_spare_37 : decode cX12_spare 37 = .ok (.iconst (-1), 1) := by decide +kernel
theorem dX12_spare_38 : decode cX12_spare 38 = .ok (.invokevirtual 162, 3) := by decide +kernel
theorem dX12_spare_41 : decode cX12_spare 41 = .ok (.istore_n 3, 1) := by decide +kernel
theorem dX12_spare_42 : decode cX12_spare 42 = .ok (.aload_n 0, 1) := by decide +kernel
theorem dX12_spare_43 : decode cX12_spare 43 = .ok (.getfield 34, 3) := by decide +kernel
theorem dX12_spare_46 : decode cX12_spare 46 = .ok (.iload_n 1, 1) := by decide +kernel
theorem dX12_spare_47 : decode cX12_spare 47 = .ok (.iload_n 2, 1) := by decide +kernel
theorem dX12_spare_48 : decode cX12_spare 48 = .ok (.iastore, 1) := by decide +kernel
theorem dX12_spare_49 : decode cX12_spare 49 = .ok (.iload_n 3, 1) := by decide +kernel
theorem dX12_spare_50 : decode cX12_spare 50 = .ok (.ireturn, 1) := by decide +kernel
theorem dX12_why_0 : decode cX12_why 0 = .ok (.aload_n 0, 1) := by decide +kernel
theorem dX12_why_1 : decode cX12_why 1 = .ok (.iload_n 1, 1) := by decide +kernel
theorem dX12_why_2 : decode cX12_why 2 = .ok (.invokevirtual 103, 3) := by decide +kernel
theorem dX12_why_5 : decode cX12_why 5 = .ok (.ifCond .eq 5, 3) := by decide +kernel
theorem dX12_why_8 : decode cX12_why 8 = .ok (.iconst (-1), 1) := by decide +kernel
theorem dX12_why_9 : decode cX12_why 9 = .ok (.ireturn, 1) := by decide +kernel
theorem dX12_why_10 : decode cX12_why 10 = .ok (.aload_n 0, 1) := by decide +kernel
theorem dX12_why_11 : decode cX12_why 11 = .ok (.aload_n 0, 1) := by decide +kernel
theorem dX12_why_12 : decode cX12_why 12 = .ok (.getfield 31, 3) := by decide +kernel
theorem dX12_why_15 : decode cX12_why 15 = .ok (.iload_n 1, 1) := by decide +kernel
theorem dX12_why_16 : decode cX12_why 16 = .ok (.invokevirtual 124, 3) := by decide +kernel
theorem dX12_why_19 : decode cX12_why 19 = .ok (.ifCond .ne 6, 3) := by decide +kernel
theorem dX12_why_22 : decode cX12_why 22 = .ok (.bipush (-3), 2) := by decide +kernel
theorem dX12_why_24 : decode cX12_why 24 = .ok (.ireturn, 1) := by decide +kernel
theorem dX12_why_25 : decode cX12_why 25 = .ok (.iconst 0, 1) := by decide +kernel
theorem dX12_why_26 : decode cX12_why 26 = .ok (.istore_n 2, 1) := by decide +kernel
theorem dX12_why_27 : decode cX12_why 27 = .ok (.iload_n 2, 1) := by decide +kernel
theorem dX12_why_28 : decode cX12_why 28 = .ok (.aload_n 0, 1) := by decide +kernel
theorem dX12_why_29 : decode cX12_why 29 = .ok (.getfield 111, 3) := by decide +kernel
theorem dX12_why_32 : decode cX12_why 32 = .ok (.if_icmp .ge 97, 3) := by decide +kernel
theorem dX12_why_35 : decode cX12_why 35 = .ok (.aload_n 0, 1) := by decide +kernel
theorem dX12_why_36 : decode cX12_why 36 = .ok (.getfield 37, 3) := by decide +kernel
theorem dX12_why_39 : decode cX12_why 39 = .ok (.iload_n 2, 1) := by decide +kernel
theorem dX12_why_40 : decode cX12_why 40 = .ok (.iaload, 1) := by decide +kernel
theorem dX12_why_41 : decode cX12_why 41 = .ok (.istore_n 3, 1) := by decide +kernel
theorem dX12_why_42 : decode cX12_why 42 = .ok (.aload_n 0, 1) := by decide +kernel
theorem dX12_why_43 : decode cX12_why 43 = .ok (.getfield 55, 3) := by decide +kernel
theorem dX12_why_46 : decode cX12_why 46 = .ok (.bipush 6, 2) := by decide +kernel
theorem dX12_why_48 : decode cX12_why 48 = .ok (.aload_n 0, 1) := by decide +kernel
theorem dX12_why_49 : decode cX12_why 49 = .ok (.getfield 58, 3) := by decide +kernel
theorem dX12_why_52 : decode cX12_why 52 = .ok (.imul, 1) := by decide +kernel
theorem dX12_why_53 : decode cX12_why 53 = .ok (.iload_n 2, 1) := by decide +kernel
theorem dX12_why_54 : decode cX12_why 54 = .ok (.iadd, 1) := by decide +kernel
theorem dX12_why_55 : decode cX12_why 55 = .ok (.iaload, 1) := by decide +kernel
theorem dX12_why_56 : decode cX12_why 56 = .ok (.istore 4, 2) := by decide +kernel
theorem dX12_why_58 : decode cX12_why 58 = .ok (.iload_n 3, 1) := by decide +kernel
theorem dX12_why_59 : decode cX12_why 59 = .ok (.iload 4, 2) := by decide +kernel
theorem dX12_why_61 : decode cX12_why 61 = .ok (.if_icmp .eq 62, 3) := by decide +kernel
theorem dX12_why_64 : decode cX12_why 64 = .ok (.aload_n 0, 1) := by decide +kernel
theorem dX12_why_65 : decode cX12_why 65 = .ok (.getfield 37, 3) := by decide +kernel
theorem dX12_why_68 : decode cX12_why 68 = .ok (.iload_n 2, 1) := by decide +kernel
theorem dX12_why_69 : decode cX12_why 69 = .ok (.iload 4, 2) := by decide +kernel
theorem dX12_why_71 : decode cX12_why 71 = .ok (.iastore, 1) := by decide +kernel
theorem dX12_why_72 : decode cX12_why 72 = .ok (.aload_n 0, 1) := by decide +kernel
theorem dX12_why_73 : decode cX12_why 73 = .ok (.invokevirtual 148, 3) := by decide +kernel
theorem dX12_why_76 : decode cX12_why 76 = .ok (.ifCond .eq 30, 3) := by decide +kernel
theorem dX12_why_79 : decode cX12_why 79 = .ok (.aload_n 0, 1) := by decide +kernel
theorem dX12_why_80 : decode cX12_why 80 = .ok (.getfield 71, 3) := by decide +kernel
theorem dX12_why_83 : decode cX12_why 83 = .ok (.iload_n 1, 1) := by decide +kernel
theorem dX12_why_84 : decode cX12_why 84 = .ok (.iaload, 1) := by decide +kernel
theorem dX12_why_85 : decode cX12_why 85 = .ok (.aload_n 0, 1) := by decide +kernel
theorem dX12_why_86 : decode cX12_why 86 = .ok (.getfield 52, 3) := by decide +kernel
theorem dX12_why_89 : decode cX12_why 89 = .ok (.bipush 6, 2) := by decide +kernel
theorem dX12_why_91 : decode cX12_why 91 = .ok (.aload_n 0, 1) := by decide +kernel
theorem dX12_why_92 : decode cX12_why 92 = .ok (.getfield 58, 3) := by decide +kernel
theorem dX12_why_95 : decode cX12_why 95 = .ok (.imul, 1) := by decide +kernel
theorem dX12_why_96 : decode cX12_why 96 = .ok (.iload_n 1, 1) := by decide +kernel
theorem dX12_why_97 : decode cX12_why 97 = .ok (.iadd, 1) := by decide +kernel
theorem dX12_why_98 : decode cX12_why 98 = .ok (.iaload, 1) := by decide +kernel
theorem dX12_why_99 : decode cX12_why 99 = .ok (.if_icmp .ne 7, 3) := by decide +kernel
theorem dX12_why_102 : decode cX12_why 102 = .ok (.iconst 1, 1) := by decide +kernel
theorem dX12_why_103 : decode cX12_why 103 = .ok (.goto 4, 3) := by decide +kernel
theorem dX12_why_106 : decode cX12_why 106 = .ok (.iconst 0, 1) := by decide +kernel
theorem dX12_why_107 : decode cX12_why 107 = .ok (.istore 5, 2) := by decide +kernel
theorem dX12_why_109 : decode cX12_why 109 = .ok (.aload_n 0, 1) := by decide +kernel
theorem dX12_why_110 : decode cX12_why 110 = .ok (.getfield 37, 3) := by decide +kernel
theorem dX12_why_113 : decode cX12_why 113 = .ok (.iload_n 2, 1) := by decide +kernel
theorem dX12_why_114 : decode cX12_why 114 = .ok (.iload_n 3, 1) := by decide +kernel
theorem dX12_why_115 : decode cX12_why 115 = .ok (.iastore, 1) := by decide +kernel
theorem dX12_why_116 : decode cX12_why 116 = .ok (.iload 5, 2) := by decide +kernel
theorem dX12_why_118 : decode cX12_why 118 = .ok (.ifCond .eq 5, 3) := by decide +kernel
theorem dX12_why_121 : decode cX12_why 121 = .ok (.iload_n 2, 1) := by decide +kernel
theorem dX12_why_122 : decode cX12_why 122 = .ok (.ireturn, 1) := by decide +kernel
theorem dX12_why_123 : decode cX12_why 123 = .ok (.iinc 2 1, 3) := by decide +kernel
theorem dX12_why_126 : decode cX12_why 126 = .ok (.goto (-99), 3) := by decide +kernel
theorem dX12_why_129 : decode cX12_why 129 = .ok (.bipush (-5), 2) := by decide +kernel
theorem dX12_why_131 : decode cX12_why 131 = .ok (.ireturn, 1) := by decide +kernel
theorem dX12_goOn_0 : decode cX12_goOn 0 = .ok (.iload_n 1, 1) := by decide +kernel
theorem dX12_goOn_1 : decode cX12_goOn 1 = .ok (.ifCond .ne 83, 3) := by decide +kernel
theorem dX12_goOn_4 : decode cX12_goOn 4 = .ok (.iload_n 3, 1) := by decide +kernel
theorem dX12_goOn_5 : decode cX12_goOn 5 = .ok (.aload_n 0, 1) := by decide +kernel
theorem dX12_goOn_6 : decode cX12_goOn 6 = .ok (.getfield 165, 3) := by decide +kernel
theorem dX12_goOn_9 : decode cX12_goOn 9 = .ok (.if_icmp .lt 20, 3) := by decide +kernel
theorem dX12_goOn_12 : decode cX12_goOn 12 = .ok (.iload_n 3, 1) := by decide +kernel
theorem dX12_goOn_13 : decode cX12_goOn 13 = .ok (.aload_n 0, 1) := by decide +kernel
theorem dX12_goOn_14 : decode cX12_goOn 14 = .ok (.getfield 165, 3) := by decide +kernel
theorem dX12_goOn_17 : decode cX12_goOn 17 = .ok (.if_icmp .ne 66, 3) := by decide +kernel
theorem dX12_goOn_20 : decode cX12_goOn 20 = .ok (.iload 4, 2) := by decide +kernel
theorem dX12_goOn_22 : decode cX12_goOn 22 = .ok (.aload_n 0, 1) := by decide +kernel
theorem dX12_goOn_23 : decode cX12_goOn 23 = .ok (.getfield 168, 3) := by decide +kernel
theorem dX12_goOn_26 : decode cX12_goOn 26 = .ok (.if_icmp .ge 57, 3) := by decide +kernel
theorem dX12_goOn_29 : decode cX12_goOn 29 = .ok (.aload_n 0, 1) := by decide +kernel
theorem dX12_goOn_30 : decode cX12_goOn 30 = .ok (.iload_n 3, 1) := by decide +kernel
theorem dX12_goOn_31 : decode cX12_goOn 31 = .ok (.putfield 165, 3) := by decide +kernel
theorem dX12_goOn_34 : decode cX12_goOn 34 = .ok (.aload_n 0, 1) := by decide +kernel
theorem dX12_goOn_35 : decode cX12_goOn 35 = .ok (.iload 4, 2) := by decide +kernel
theorem dX12_goOn_37 : decode cX12_goOn 37 = .ok (.putfield 168, 3) := by decide +kernel
theorem dX12_goOn_40 : decode cX12_goOn 40 = .ok (.iconst 0, 1) := by decide +kernel
theorem dX12_goOn_41 : decode cX12_goOn 41 = .ok (.istore 5, 2) := by decide +kernel
theorem dX12_goOn_43 : decode cX12_goOn 43 = .ok (.iload 5, 2) := by decide +kernel
theorem dX12_goOn_45 : decode cX12_goOn 45 = .ok (.iload_n 2, 1) := by decide +kernel
theorem dX12_goOn_46 : decode cX12_goOn 46 = .ok (.if_icmp .ge 37, 3) := by decide +kernel
theorem dX12_goOn_49 : decode cX12_goOn 49 = .ok (.aload_n 0, 1) := by decide +kernel
theorem dX12_goOn_50 : decode cX12_goOn 50 = .ok (.getfield 80, 3) := by decide +kernel
theorem dX12_goOn_53 : decode cX12_goOn 53 = .ok (.iload 5, 2) := by decide +kernel
theorem dX12_goOn_55 : decode cX12_goOn 55 = .ok (.aload_n 0, 1) := by decide +kernel
theorem dX12_goOn_56 : decode cX12_goOn 56 = .ok (.getfield 77, 3) := by decide +kernel
theorem dX12_goOn_59 : decode cX12_goOn 59 = .ok (.iload 5, 2) := by decide +kernel
theorem dX12_goOn_61 : decode cX12_goOn 61 = .ok (.iaload, 1) := by decide +kernel
theorem dX12_goOn_62 : decode cX12_goOn 62 = .ok (.iastore, 1) := by decide +kernel
theorem dX12_goOn_63 : decode cX12_goOn 63 = .ok (.aload_n 0, 1) := by decide +kernel
theorem dX12_goOn_64 : decode cX12_goOn 64 = .ok (.getfield 83, 3) := by decide +kernel
theorem dX12_goOn_67 : decode cX12_goOn 67 = .ok (.iload 5, 2) := by decide +kernel
theorem dX12_goOn_69 : decode cX12_goOn 69 = .ok (.aload_n 0, 1) := by decide +kernel
theorem dX12_goOn_70 : decode cX12_goOn 70 = .ok (.getfield 86, 3) := by decide +kernel
theorem dX12_goOn_73 : decode cX12_goOn 73 = .ok (.iload 5, 2) := by decide +kernel
theorem dX12_goOn_75 : decode cX12_goOn 75 = .ok (.iaload, 1) := by decide +kernel
theorem dX12_goOn_76 : decode cX12_goOn 76 = .ok (.iastore, 1) := by decide +kernel
theorem dX12_goOn_77 : decode cX12_goOn 77 = .ok (.iinc 5 1, 3) := by decide +kernel
theorem dX12_goOn_80 : decode cX12_goOn 80 = .ok (.goto (-37), 3) := by decide +kernel
theorem dX12_goOn_83 : decode cX12_goOn 83 = .ok (.return_, 1) := by decide +kernel
theorem dX12_goOn_84 : decode cX12_goOn 84 = .ok (.iconst 0, 1) := by decide +kernel
theorem dX12_goOn_85 : decode cX12_goOn 85 = .ok (.istore 5, 2) := by decide +kernel
theorem dX12_goOn_87 : decode cX12_goOn 87 = .ok (.iload 5, 2) := by decide +kernel
theorem dX12_goOn_89 : decode cX12_goOn 89 = .ok (.aload_n 0, 1) := by decide +kernel
theorem dX12_goOn_90 : decode cX12_goOn 90 = .ok (.getfield 93, 3) := by decide +kernel
theorem dX12_goOn_93 : decode cX12_goOn 93 = .ok (.if_icmp .ge 116, 3) := by decide +kernel
theorem dX12_goOn_96 : decode cX12_goOn 96 = .ok (.iload_n 1, 1) := by decide +kernel
theorem dX12_goOn_97 : decode cX12_goOn 97 = .ok (.iload 5, 2) := by decide +kernel
theorem dX12_goOn_99 : decode cX12_goOn 99 = .ok (.ishr, 1) := by decide +kernel
theorem dX12_goOn_100 : decode cX12_goOn 100 = .ok (.iconst 1, 1) := by decide +kernel
theorem dX12_goOn_101 : decode cX12_goOn 101 = .ok (.iand, 1) := by decide +kernel
theorem dX12_goOn_102 : decode cX12_goOn 102 = .ok (.iconst 1, 1) := by decide +kernel
theorem dX12_goOn_103 : decode cX12_goOn 103 = .ok (.if_icmp .ne 100, 3) := by decide +kernel
theorem dX12_goOn_106 : decode cX12_goOn 106 = .ok (.aload_n 0, 1) := by decide +kernel
theorem dX12_goOn_107 : decode cX12_goOn 107 = .ok (.getfield 74, 3) := by decide +kernel
theorem dX12_goOn_110 : decode cX12_goOn 110 = .ok (.iload 5, 2) := by decide +kernel
theorem dX12_goOn_112 : decode cX12_goOn 112 = .ok (.aload_n 0, 1) := by decide +kernel
theorem dX12_goOn_113 : decode cX12_goOn 113 = .ok (.getfield 31, 3) := by decide +kernel
theorem dX12_goOn_116 : decode cX12_goOn 116 = .ok (.iload 5, 2) := by decide +kernel
theorem dX12_goOn_118 : decode cX12_goOn 118 = .ok (.iaload, 1) := by decide +kernel
theorem dX12_goOn_119 : decode cX12_goOn 119 = .ok (.iastore, 1) := by decide +kernel
theorem dX12_goOn_120 : decode cX12_goOn 120 = .ok (.aload_n 0, 1) := by decide +kernel
theorem dX12_goOn_121 : decode cX12_goOn 121 = .ok (.getfield 77, 3) := by decide +kernel
theorem dX12_goOn_124 : decode cX12_goOn 124 = .ok (.iload_n 2, 1) := by decide +kernel
theorem dX12_goOn_125 : decode cX12_goOn 125 = .ok (.iload 5, 2) := by decide +kernel
theorem dX12_goOn_127 : decode cX12_goOn 127 = .ok (.iastore, 1) := by decide +kernel
theorem dX12_goOn_128 : decode cX12_goOn 128 = .ok (.aload_n 0, 1) := by decide +kernel
theorem dX12_goOn_129 : decode cX12_goOn 129 = .ok (.aload_n 0, 1) := by decide +kernel
theorem dX12_goOn_130 : decode cX12_goOn 130 = .ok (.getfield 74, 3) := by decide +kernel
theorem dX12_goOn_133 : decode cX12_goOn 133 = .ok (.invokevirtual 134, 3) := by decide +kernel
theorem dX12_goOn_136 : decode cX12_goOn 136 = .ok (.invokestatic 158, 3) := by decide +kernel
theorem dX12_goOn_139 : decode cX12_goOn 139 = .ok (.istore 6, 2) := by decide +kernel
theorem dX12_goOn_141 : decode cX12_goOn 141 = .ok (.aload_n 0, 1) := by decide +kernel
theorem dX12_goOn_142 : decode cX12_goOn 142 = .ok (.getfield 86, 3) := by decide +kernel
theorem dX12_goOn_145 : decode cX12_goOn 145 = .ok (.iload_n 2, 1) := by decide +kernel
theorem dX12_goOn_146 : decode cX12_goOn 146 = .ok (.iload 6, 2) := by decide +kernel
theorem dX12_goOn_148 : decode cX12_goOn 148 = .ok (.iastore, 1) := by decide +kernel
theorem dX12_goOn_149 : decode cX12_goOn 149 = .ok (.aload_n 0, 1) := by decide +kernel
theorem dX12_goOn_150 : decode cX12_goOn 150 = .ok (.iload_n 1, 1) := by decide +kernel
theorem dX12_goOn_151 : decode cX12_goOn 151 = .ok (.iconst 1, 1) := by decide +kernel
theorem dX12_goOn_152 : decode cX12_goOn 152 = .ok (.iload 5, 2) := by decide +kernel
theorem dX12_goOn_154 : decode cX12_goOn 154 = .ok (.ishl, 1) := by decide +kernel
theorem dX12_goOn_155 : decode cX12_goOn 155 = .ok (.iconst (-1), 1) := by decide +kernel
theorem dX12_goOn_156 : decode cX12_goOn 156 = .ok (.ixor, 1) := by decide +kernel
theorem dX12_goOn_157 : decode cX12_goOn 157 = .ok (.iand, 1) := by decide +kernel
theorem dX12_goOn_158 : decode cX12_goOn 158 = .ok (.iload_n 2, 1) := by decide +kernel
theorem dX12_goOn_159 : decode cX12_goOn 159 = .ok (.iconst 1, 1) := by decide +kernel
theorem dX12_goOn_160 : decode cX12_goOn 160 = .ok (.iadd, 1) := by decide +kernel
theorem dX12_goOn_161 : decode cX12_goOn 161 = .ok (.iload 6, 2) := by decide +kernel
theorem dX12_goOn_163 : decode cX12_goOn 163 = .ok (.iload_n 3, 1) := by decide +kernel
theorem dX12_goOn_164 : decode cX12_goOn 164 = .ok (.if_icmp .le 8, 3) := by decide +kernel
theorem dX12_goOn_167 : decode cX12_goOn 167 = .ok (.iload 6, 2) := by decide +kernel
theorem dX12_goOn_169 : decode cX12_goOn 169 = .ok (.goto 4, 3) := by decide +kernel
theorem dX12_goOn_172 : decode cX12_goOn 172 = .ok (.iload_n 3, 1) := by decide +kernel
theorem dX12_goOn_173 : decode cX12_goOn 173 = .ok (.iload 4, 2) := by decide +kernel
theorem dX12_goOn_175 : decode cX12_goOn 175 = .ok (.iload 6, 2) := by decide +kernel
theorem dX12_goOn_177 : decode cX12_goOn 177 = .ok (.iadd, 1) := by decide +kernel
theorem dX12_goOn_178 : decode cX12_goOn 178 = .ok (.invokevirtual 171, 3) := by decide +kernel
theorem dX12_goOn_181 : decode cX12_goOn 181 = .ok (.aload_n 0, 1) := by decide +kernel
theorem dX12_goOn_182 : decode cX12_goOn 182 = .ok (.getfield 74, 3) := by decide +kernel
theorem dX12_goOn_185 : decode cX12_goOn 185 = .ok (.iload 5, 2) := by decide +kernel
theorem dX12_goOn_187 : decode cX12_goOn 187 = .ok (.aload_n 0, 1) := by decide +kernel
theorem dX12_goOn_188 : decode cX12_goOn 188 = .ok (.getfield 52, 3) := by decide +kernel
theorem dX12_goOn_191 : decode cX12_goOn 191 = .ok (.bipush 6, 2) := by decide +kernel
theorem dX12_goOn_193 : decode cX12_goOn 193 = .ok (.aload_n 0, 1) := by decide +kernel
theorem dX12_goOn_194 : decode cX12_goOn 194 = .ok (.getfield 58, 3) := by decide +kernel
theorem dX12_goOn_197 : decode cX12_goOn 197 = .ok (.imul, 1) := by decide +kernel
theorem dX12_goOn_198 : decode cX12_goOn 198 = .ok (.iload 5, 2) := by decide +kernel
theorem dX12_goOn_200 : decode cX12_goOn 200 = .ok (.iadd, 1) := by decide +kernel
theorem dX12_goOn_201 : decode cX12_goOn 201 = .ok (.iaload, 1) := by decide +kernel
theorem dX12_goOn_202 : decode cX12_goOn 202 = .ok (.iastore, 1) := by decide +kernel
theorem dX12_goOn_203 : decode cX12_goOn 203 = .ok (.iinc 5 1, 3) := by decide +kernel
theorem dX12_goOn_206 : decode cX12_goOn 206 = .ok (.goto (-119), 3) := by decide +kernel
theorem dX12_goOn_209 : decode cX12_goOn 209 = .ok (.return_, 1) := by decide +kernel
theorem dX12_findWay_0 : decode cX12_findWay 0 = .ok (.iconst 0, 1) := by decide +kernel
theorem dX12_findWay_1 : decode cX12_findWay 1 = .ok (.istore_n 1, 1) := by decide +kernel
theorem dX12_findWay_2 : decode cX12_findWay 2 = .ok (.iload_n 1, 1) := by decide +kernel
theorem dX12_findWay_3 : decode cX12_findWay 3 = .ok (.aload_n 0, 1) := by decide +kernel
theorem dX12_findWay_4 : decode cX12_findWay 4 = .ok (.getfield 93, 3) := by decide +kernel
theorem dX12_findWay_7 : decode cX12_findWay 7 = .ok (.if_icmp .ge 29, 3) := by decide +kernel
theorem dX12_findWay_10 : decode cX12_findWay 10 = .ok (.aload_n 0, 1) := by decide +kernel
theorem dX12_findWay_11 : decode cX12_findWay 11 = .ok (.getfield 74, 3) := by decide +kernel
theorem dX12_findWay_14 : decode cX12_findWay 14 = .ok (.iload_n 1, 1) := by decide +kernel
theorem dX12_findWay_15 : decode cX12_findWay 15 = .ok (.aload_n 0, 1) := by decide +kernel
theorem dX12_findWay_16 : decode cX12_findWay 16 = .ok (.getfield 52, 3) := by decide +kernel
theorem dX12_findWay_19 : decode cX12_findWay 19 = .ok (.bipush 6, 2) := by decide +kernel
theorem dX12_findWay_21 : decode cX12_findWay 21 = .ok (.aload_n 0, 1) := by decide +kernel
theorem dX12_findWay_22 : decode cX12_findWay 22 = .ok (.getfield 58, 3) := by decide +kernel
theorem dX12_findWay_25 : decode cX12_findWay 25 = .ok (.imul, 1) := by decide +kernel
theorem dX12_findWay_26 : decode cX12_findWay 26 = .ok (.iload_n 1, 1) := by decide +kernel
theorem dX12_findWay_27 : decode cX12_findWay 27 = .ok (.iadd, 1) := by decide +kernel
theorem dX12_findWay_28 : decode cX12_findWay 28 = .ok (.iaload, 1) := by decide +kernel
theorem dX12_findWay_29 : decode cX12_findWay 29 = .ok (.iastore, 1) := by decide +kernel
theorem dX12_findWay_30 : decode cX12_findWay 30 = .ok (.iinc 1 1, 3) := by decide +kernel
theorem dX12_findWay_33 : decode cX12_findWay 33 = .ok (.goto (-31), 3) := by decide +kernel
theorem dX12_findWay_36 : decode cX12_findWay 36 = .ok (.aload_n 0, 1) := by decide +kernel
theorem dX12_findWay_37 : decode cX12_findWay 37 = .ok (.bipush 100, 2) := by decide +kernel
theorem dX12_findWay_39 : decode cX12_findWay 39 = .ok (.putfield 165, 3) := by decide +kernel
theorem dX12_findWay_42 : decode cX12_findWay 42 = .ok (.aload_n 0, 1) := by decide +kernel
theorem dX12_findWay_43 : decode cX12_findWay 43 = .ok (.iconst 0, 1) := by decide +kernel
theorem dX12_findWay_44 : decode cX12_findWay 44 = .ok (.putfield 168, 3) := by decide +kernel
theorem dX12_findWay_47 : decode cX12_findWay 47 = .ok (.aload_n 0, 1) := by decide +kernel
theorem dX12_findWay_48 : decode cX12_findWay 48 = .ok (.invokevirtual 154, 3) := by decide +kernel
theorem dX12_findWay_51 : decode cX12_findWay 51 = .ok (.istore_n 1, 1) := by decide +kernel
theorem dX12_findWay_52 : decode cX12_findWay 52 = .ok (.aload_n 0, 1) := by decide +kernel
theorem dX12_findWay_53 : decode cX12_findWay 53 = .ok (.iload_n 1, 1) := by decide +kernel
theorem dX12_findWay_54 : decode cX12_findWay 54 = .ok (.iconst 0, 1) := by decide +kernel
theorem dX12_findWay_55 : decode cX12_findWay 55 = .ok (.iconst 0, 1) := by decide +kernel
theorem dX12_findWay_56 : decode cX12_findWay 56 = .ok (.iconst 0, 1) := by decide +kernel
theorem dX12_findWay_57 : decode cX12_findWay 57 = .ok (.invokevirtual 171, 3) := by decide +kernel
theorem dX12_findWay_60 : decode cX12_findWay 60 = .ok (.iload_n 1, 1) := by decide +kernel
theorem dX12_findWay_61 : decode cX12_findWay 61 = .ok (.invokestatic 158, 3) := by decide +kernel
theorem dX12_findWay_64 : decode cX12_findWay 64 = .ok (.ireturn, 1) := by decide +kernel
theorem dX12_way_0 : decode cX12_way 0 = .ok (.aload_n 0, 1) := by decide +kernel
theorem dX12_way_1 : decode cX12_way 1 = .ok (.getfield 58, 3) := by decide +kernel
theorem dX12_way_4 : decode cX12_way 4 = .ok (.bipush (-5), 2) := by decide +kernel
theorem dX12_way_6 : decode cX12_way 6 = .ok (.if_icmp .ne 6, 3) := by decide +kernel
theorem dX12_way_9 : decode cX12_way 9 = .ok (.bipush (-3), 2) := by decide +kernel
theorem dX12_way_11 : decode cX12_way 11 = .ok (.ireturn, 1) := by decide +kernel
theorem dX12_way_12 : decode cX12_way 12 = .ok (.aload_n 0, 1) := by decide +kernel
theorem dX12_way_13 : decode cX12_way 13 = .ok (.invokevirtual 175, 3) := by decide +kernel
theorem dX12_way_16 : decode cX12_way 16 = .ok (.istore_n 2, 1) := by decide +kernel
theorem dX12_way_17 : decode cX12_way 17 = .ok (.iload_n 1, 1) := by decide +kernel
theorem dX12_way_18 : decode cX12_way 18 = .ok (.iconst 0, 1) := by decide +kernel
theorem dX12_way_19 : decode cX12_way 19 = .ok (.iload_n 2, 1) := by decide +kernel
theorem dX12_way_20 : decode cX12_way 20 = .ok (.iconst 1, 1) := by decide +kernel
theorem dX12_way_21 : decode cX12_way 21 = .ok (.isub, 1) := by decide +kernel
theorem dX12_way_22 : decode cX12_way 22 = .ok (.invokestatic 96, 3) := by decide +kernel
theorem dX12_way_25 : decode cX12_way 25 = .ok (.ifCond .eq 8, 3) := by decide +kernel
theorem dX12_way_28 : decode cX12_way 28 = .ok (.bipush (-5), 2) := by decide +kernel
theorem dX12_way_30 : decode cX12_way 30 = .ok (.goto 9, 3) := by decide +kernel
theorem dX12_way_33 : decode cX12_way 33 = .ok (.aload_n 0, 1) := by decide +kernel
theorem dX12_way_34 : decode cX12_way 34 = .ok (.getfield 80, 3) := by decide +kernel
theorem dX12_way_37 : decode cX12_way 37 = .ok (.iload_n 1, 1) := by decide +kernel
theorem dX12_way_38 : decode cX12_way 38 = .ok (.iaload, 1) := by decide +kernel
theorem dX12_way_39 : decode cX12_way 39 = .ok (.ireturn, 1) := by decide +kernel
theorem dX12_broken_0 : decode cX12_broken 0 = .ok (.aload_n 0, 1) := by decide +kernel
theorem dX12_broken_1 : decode cX12_broken 1 = .ok (.getfield 58, 3) := by decide +kernel
theorem dX12_broken_4 : decode cX12_broken 4 = .ok (.bipush (-5), 2) := by decide +kernel
theorem dX12_broken_6 : decode cX12_broken 6 = .ok (.if_icmp .ne 6, 3) := by decide +kernel
theorem dX12_broken_9 : decode cX12_broken 9 = .ok (.bipush (-3), 2) := by decide +kernel
theorem dX12_broken_11 : decode cX12_broken 11 = .ok (.ireturn, 1) := by decide +kernel
theorem dX12_broken_12 : decode cX12_broken 12 = .ok (.aload_n 0, 1) := by decide +kernel
theorem dX12_broken_13 : decode cX12_broken 13 = .ok (.invokevirtual 175, 3) := by decide +kernel
theorem dX12_broken_16 : decode cX12_broken 16 = .ok (.istore_n 2, 1) := by decide +kernel
theorem dX12_broken_17 : decode cX12_broken 17 = .ok (.iload_n 1, 1) := by decide +kernel
theorem dX12_broken_18 : decode cX12_broken 18 = .ok (.iconst 0, 1) := by decide +kernel
theorem dX12_broken_19 : decode cX12_broken 19 = .ok (.iload_n 2, 1) := by decide +kernel
theorem dX12_broken_20 : decode cX12_broken 20 = .ok (.iconst 1, 1) := by decide +kernel
theorem dX12_broken_21 : decode cX12_broken 21 = .ok (.isub, 1) := by decide +kernel
theorem dX12_broken_22 : decode cX12_broken 22 = .ok (.invokestatic 96, 3) := by decide +kernel
theorem dX12_broken_25 : decode cX12_broken 25 = .ok (.ifCond .eq 8, 3) := by decide +kernel
theorem dX12_broken_28 : decode cX12_broken 28 = .ok (.bipush (-5), 2) := by decide +kernel
theorem dX12_broken_30 : decode cX12_broken 30 = .ok (.goto 9, 3) := by decide +kernel
theorem dX12_broken_33 : decode cX12_broken 33 = .ok (.aload_n 0, 1) := by decide +kernel
theorem dX12_broken_34 : decode cX12_broken 34 = .ok (.getfield 83, 3) := by decide +kernel
theorem dX12_broken_37 : decode cX12_broken 37 = .ok (.iload_n 1, 1) := by decide +kernel
theorem dX12_broken_38 : decode cX12_broken 38 = .ok (.iaload, 1) := by decide +kernel
theorem dX12_broken_39 : decode cX12_broken 39 = .ok (.ireturn, 1) := by decide +kernel
theorem dX12_clash_0 : decode cX12_clash 0 = .ok (.aload_n 0, 1) := by decide +kernel
theorem dX12_clash_1 : decode cX12_clash 1 = .ok (.getfield 93, 3) := by decide +kernel
theorem dX12_clash_4 : decode cX12_clash 4 = .ok (.ifCond .ne 6, 3) := by decide +kernel
theorem dX12_clash_7 : decode cX12_clash 7 = .ok (.bipush (-3), 2) := by decide +kernel
theorem dX12_clash_9 : decode cX12_clash 9 = .ok (.ireturn, 1) := by decide +kernel
theorem dX12_clash_10 : decode cX12_clash 10 = .ok (.iconst 0, 1) := by decide +kernel
theorem dX12_clash_11 : decode cX12_clash 11 = .ok (.istore_n 2, 1) := by decide +kernel
theorem dX12_clash_12 : decode cX12_clash 12 = .ok (.iload_n 2, 1) := by decide +kernel
theorem dX12_clash_13 : decode cX12_clash 13 = .ok (.sipush 4096, 3) := by decide +kernel
theorem dX12_clash_16 : decode cX12_clash 16 = .ok (.if_icmp .ge 16, 3) := by decide +kernel
theorem dX12_clash_19 : decode cX12_clash 19 = .ok (.aload_n 0, 1) := by decide +kernel
theorem dX12_clash_20 : decode cX12_clash 20 = .ok (.getfield 89, 3) := by decide +kernel
theorem dX12_clash_23 : decode cX12_clash 23 = .ok (.iload_n 2, 1) := by decide +kernel
theorem dX12_clash_24 : decode cX12_clash 24 = .ok (.iconst 0, 1) := by decide +kernel
theorem dX12_clash_25 : decode cX12_clash 25 = .ok (.bastore, 1) := by decide +kernel
theorem dX12_clash_26 : decode cX12_clash 26 = .ok (.iinc 2 1, 3) := by decide +kernel
theorem dX12_clash_29 : decode cX12_clash 29 = .ok (.goto (-17), 3) := by decide +kernel
theorem dX12_clash_32 : decode cX12_clash 32 = .ok (.iconst 1, 1) := by decide +kernel
theorem dX12_clash_33 : decode cX12_clash 33 = .ok (.istore_n 2, 1) := by decide +kernel
theorem dX12_clash_34 : decode cX12_clash 34 = .ok (.aload_n 0, 1) := by decide +kernel
theorem dX12_clash_35 : decode cX12_clash 35 = .ok (.invokevirtual 127, 3) := by decide +kernel
theorem dX12_clash_38 : decode cX12_clash 38 = .ok (.iload_n 2, 1) := by decide +kernel
theorem dX12_clash_39 : decode cX12_clash 39 = .ok (.ifCond .eq 36, 3) := by decide +kernel
theorem dX12_clash_42 : decode cX12_clash 42 = .ok (.aload_n 0, 1) := by decide +kernel
theorem dX12_clash_43 : decode cX12_clash 43 = .ok (.aload_n 0, 1) := by decide +kernel
theorem dX12_clash_44 : decode cX12_clash 44 = .ok (.getfield 68, 3) := by decide +kernel
theorem dX12_clash_47 : decode cX12_clash 47 = .ok (.invokevirtual 130, 3) := by decide +kernel
theorem dX12_clash_50 : decode cX12_clash 50 = .ok (.ifCond .eq 17, 3) := by decide +kernel
theorem dX12_clash_53 : decode cX12_clash 53 = .ok (.aload_n 0, 1) := by decide +kernel
theorem dX12_clash_54 : decode cX12_clash 54 = .ok (.getfield 89, 3) := by decide +kernel
theorem dX12_clash_57 : decode cX12_clash 57 = .ok (.aload_n 0, 1) := by decide +kernel
theorem dX12_clash_58 : decode cX12_clash 58 = .ok (.aload_n 0, 1) := by decide +kernel
theorem dX12_clash_59 : decode cX12_clash 59 = .ok (.getfield 68, 3) := by decide +kernel
theorem dX12_clash_62 : decode cX12_clash 62 = .ok (.invokevirtual 134, 3) := by decide +kernel
theorem dX12_clash_65 : decode cX12_clash 65 = .ok (.iconst 1, 1) := by decide +kernel
theorem dX12_clash_66 : decode cX12_clash 66 = .ok (.bastore, 1) := by decide +kernel
theorem dX12_clash_67 : decode cX12_clash 67 = .ok (.aload_n 0, 1) := by decide +kernel
theorem dX12_clash_68 : decode cX12_clash 68 = .ok (.invokevirtual 144, 3) := by decide +kernel
theorem dX12_clash_71 : decode cX12_clash 71 = .ok (.istore_n 2, 1) := by decide +kernel
theorem dX12_clash_72 : decode cX12_clash 72 = .ok (.goto (-34), 3) := by decide +kernel
theorem dX12_clash_75 : decode cX12_clash 75 = .ok (.iconst (-1), 1) := by decide +kernel
theorem dX12_clash_76 : decode cX12_clash 76 = .ok (.istore_n 3, 1) := by decide +kernel
theorem dX12_clash_77 : decode cX12_clash 77 = .ok (.iconst 0, 1) := by decide +kernel
theorem dX12_clash_78 : decode cX12_clash 78 = .ok (.istore 4, 2) := by decide +kernel
theorem dX12_clash_80 : decode cX12_clash 80 = .ok (.iload 4, 2) := by decide +kernel
theorem dX12_clash_82 : decode cX12_clash 82 = .ok (.aload_n 0, 1) := by decide +kernel
theorem dX12_clash_83 : decode cX12_clash 83 = .ok (.getfield 114, 3) := by decide +kernel
theorem dX12_clash_86 : decode cX12_clash 86 = .ok (.if_icmp .gt 20, 3) := by decide +kernel
theorem dX12_clash_89 : decode cX12_clash 89 = .ok (.iload_n 3, 1) := by decide +kernel
theorem dX12_clash_90 : decode cX12_clash 90 = .ok (.ifCond .ge 16, 3) := by decide +kernel
theorem dX12_clash_93 : decode cX12_clash 93 = .ok (.aload_n 0, 1) := by decide +kernel
theorem dX12_clash_94 : decode cX12_clash 94 = .ok (.iload 4, 2) := by decide +kernel
theorem dX12_clash_96 : decode cX12_clash 96 = .ok (.invokevirtual 178, 3) := by decide +kernel
theorem dX12_clash_99 : decode cX12_clash 99 = .ok (.istore_n 3, 1) := by decide +kernel
theorem dX12_clash_100 : decode cX12_clash 100 = .ok (.iinc 4 1, 3) := by decide +kernel
theorem dX12_clash_103 : decode cX12_clash 103 = .ok (.goto (-23), 3) := by decide +kernel
theorem dX12_clash_106 : decode cX12_clash 106 = .ok (.iload_n 3, 1) := by decide +kernel
theorem dX12_clash_107 : decode cX12_clash 107 = .ok (.ifCond .ge 6, 3) := by decide +kernel
theorem dX12_clash_110 : decode cX12_clash 110 = .ok (.bipush (-5), 2) := by decide +kernel
theorem dX12_clash_112 : decode cX12_clash 112 = .ok (.ireturn, 1) := by decide +kernel
theorem dX12_clash_113 : decode cX12_clash 113 = .ok (.iload_n 1, 1) := by decide +kernel
theorem dX12_clash_114 : decode cX12_clash 114 = .ok (.iconst (-1), 1) := by decide +kernel
theorem dX12_clash_115 : decode cX12_clash 115 = .ok (.if_icmp .ne 8, 3) := by decide +kernel
theorem dX12_clash_118 : decode cX12_clash 118 = .ok (.iload_n 3, 1) := by decide +kernel
theorem dX12_clash_119 : decode cX12_clash 119 = .ok (.invokestatic 158, 3) := by decide +kernel
theorem dX12_clash_122 : decode cX12_clash 122 = .ok (.ireturn, 1) := by decide +kernel
theorem dX12_clash_123 : decode cX12_clash 123 = .ok (.iconst 0, 1) := by decide +kernel
theorem dX12_clash_124 : decode cX12_clash 124 = .ok (.istore 4, 2) := by decide +kernel
theorem dX12_clash_126 : decode cX12_clash 126 = .ok (.iconst 0, 1) := by decide +kernel
theorem dX12_clash_127 : decode cX12_clash 127 = .ok (.istore 5, 2) := by decide +kernel
theorem dX12_clash_129 : decode cX12_clash 129 = .ok (.iload 5, 2) := by decide +kernel
theorem dX12_clash_131 : decode cX12_clash 131 = .ok (.bipush 12, 2) := by decide +kernel
theorem dX12_clash_133 : decode cX12_clash 133 = .ok (.if_icmp .ge 31, 3) := by decide +kernel
theorem dX12_clash_136 : decode cX12_clash 136 = .ok (.iload_n 3, 1) := by decide +kernel
theorem dX12_clash_137 : decode cX12_clash 137 = .ok (.iload 5, 2) := by decide +kernel
theorem dX12_clash_139 : decode cX12_clash 139 = .ok (.ishr, 1) := by decide +kernel
theorem dX12_clash_140 : decode cX12_clash 140 = .ok (.iconst 1, 1) := by decide +kernel
theorem dX12_clash_141 : decode cX12_clash 141 = .ok (.iand, 1) := by decide +kernel
theorem dX12_clash_142 : decode cX12_clash 142 = .ok (.iconst 1, 1) := by decide +kernel
theorem dX12_clash_143 : decode cX12_clash 143 = .ok (.if_icmp .ne 15, 3) := by decide +kernel
theorem dX12_clash_146 : decode cX12_clash 146 = .ok (.iload 4, 2) := by decide +kernel
theorem dX12_clash_148 : decode cX12_clash 148 = .ok (.iload_n 1, 1) := by decide +kernel
theorem dX12_clash_149 : decode cX12_clash 149 = .ok (.if_icmp .ne 6, 3) := by decide +kernel
theorem dX12_clash_152 : decode cX12_clash 152 = .ok (.iload 5, 2) := by decide +kernel
theorem dX12_clash_154 : decode cX12_clash 154 = .ok (.ireturn, 1) := by decide +kernel
theorem dX12_clash_155 : decode cX12_clash 155 = .ok (.iinc 4 1, 3) := by decide +kernel
theorem dX12_clash_158 : decode cX12_clash 158 = .ok (.iinc 5 1, 3) := by decide +kernel
theorem dX12_clash_161 : decode cX12_clash 161 = .ok (.goto (-32), 3) := by decide +kernel
theorem dX12_clash_164 : decode cX12_clash 164 = .ok (.bipush (-5), 2) := by decide +kernel
theorem dX12_clash_166 : decode cX12_clash 166 = .ok (.ireturn, 1) := by decide +kernel
theorem dX12_leastClash_0 : decode cX12_leastClash 0 = .ok (.iconst (-1), 1) := by decide +kernel
theorem dX12_leastClash_1 : decode cX12_leastClash 1 = .ok (.istore_n 2, 1) := by decide +kernel
theorem dX12_leastClash_2 : decode cX12_leastClash 2 = .ok (.iconst 0, 1) := by decide +kernel
theorem dX12_leastClash_3 : decode cX12_leastClash 3 = .ok (.istore_n 3, 1) := by decide +kernel
theorem dX12_leastClash_4 : decode cX12_leastClash 4 = .ok (.iload_n 3, 1) := by decide +kernel
theorem dX12_leastClash_5 : decode cX12_leastClash 5 = .ok (.iconst 1, 1) := by decide +kernel
theorem dX12_leastClash_6 : decode cX12_leastClash 6 = .ok (.aload_n 0, 1) := by decide +kernel
theorem dX12_leastClash_7 : decode cX12_leastClash 7 = .ok (.getfield 114, 3) := by decide +kernel
theorem dX12_leastClash_10 : decode cX12_leastClash 10 = .ok (.ishl, 1) := by decide +kernel
theorem dX12_leastClash_11 : decode cX12_leastClash 11 = .ok (.if_icmp .ge 39, 3) := by decide +kernel
theorem dX12_leastClash_14 : decode cX12_leastClash 14 = .ok (.iload_n 3, 1) := by decide +kernel
theorem dX12_leastClash_15 : decode cX12_leastClash 15 = .ok (.invokestatic 158, 3) := by decide +kernel
theorem dX12_leastClash_18 : decode cX12_leastClash 18 = .ok (.iload_n 1, 1) := by decide +kernel
theorem dX12_leastClash_19 : decode cX12_leastClash 19 = .ok (.if_icmp .ne 25, 3) := by decide +kernel
theorem dX12_leastClash_22 : decode cX12_leastClash 22 = .ok (.aload_n 0, 1) := by decide +kernel
theorem dX12_leastClash_23 : decode cX12_leastClash 23 = .ok (.iload_n 3, 1) := by decide +kernel
theorem dX12_leastClash_24 : decode cX12_leastClash 24 = .ok (.invokevirtual 181, 3) := by decide +kernel
theorem dX12_leastClash_27 : decode cX12_leastClash 27 = .ok (.ifCond .eq 17, 3) := by decide +kernel
theorem dX12_leastClash_30 : decode cX12_leastClash 30 = .ok (.iload_n 2, 1) := by decide +kernel
theorem dX12_leastClash_31 : decode cX12_leastClash 31 = .ok (.ifCond .lt 11, 3) := by decide +kernel
theorem dX12_leastClash_34 : decode cX12_leastClash 34 = .ok (.iload_n 3, 1) := by decide +kernel
theorem dX12_leastClash_35 : decode cX12_leastClash 35 = .ok (.iload_n 2, 1) := by decide +kernel
theorem dX12_leastClash_36 : decode cX12_leastClash 36 = .ok (.invokestatic 184, 3) := by decide +kernel
theorem dX12_leastClash_39 : decode cX12_leastClash 39 = .ok (.ifCond .eq 5, 3) := by decide +kernel
theorem dX12_leastClash_42 : decode cX12_leastClash 42 = .ok (.iload_n 3, 1) := by decide +kernel
theorem dX12_leastClash_43 : decode cX12_leastClash 43 = .ok (.istore_n 2, 1) := by decide +kernel
theorem dX12_leastClash_44 : decode cX12_leastClash 44 = .ok (.iinc 3 1, 3) := by decide +kernel
theorem dX12_leastClash_47 : decode cX12_leastClash 47 = .ok (.goto (-43), 3) := by decide +kernel
theorem dX12_leastClash_50 : decode cX12_leastClash 50 = .ok (.iload_n 2, 1) := by decide +kernel
theorem dX12_leastClash_51 : decode cX12_leastClash 51 = .ok (.ireturn, 1) := by decide +kernel
theorem dX12_isClash_0 : decode cX12_isClash 0 = .ok (.iconst 0, 1) := by decide +kernel
theorem dX12_isClash_1 : decode cX12_isClash 1 = .ok (.istore_n 2, 1) := by decide +kernel
theorem dX12_isClash_2 : decode cX12_isClash 2 = .ok (.iload_n 2, 1) := by decide +kernel
theorem dX12_isClash_3 : decode cX12_isClash 3 = .ok (.sipush 4096, 3) := by decide +kernel
theorem dX12_isClash_6 : decode cX12_isClash 6 = .ok (.if_icmp .ge 26, 3) := by decide +kernel
theorem dX12_isClash_9 : decode cX12_isClash 9 = .ok (.aload_n 0, 1) := by decide +kernel
theorem dX12_isClash_10 : decode cX12_isClash 10 = .ok (.getfield 89, 3) := by decide +kernel
theorem dX12_isClash_13 : decode cX12_isClash 13 = .ok (.iload_n 2, 1) := by decide +kernel
theorem dX12_isClash_14 : decode cX12_isClash 14 = .ok (.baload, 1) := by decide +kernel
theorem dX12_isClash_15 : decode cX12_isClash 15 = .ok (.ifCond .eq 11, 3) := by decide +kernel
theorem dX12_isClash_18 : decode cX12_isClash 18 = .ok (.iload_n 2, 1) := by decide +kernel
theorem dX12_isClash_19 : decode cX12_isClash 19 = .ok (.iload_n 1, 1) := by decide +kernel
theorem dX12_isClash_20 : decode cX12_isClash 20 = .ok (.iand, 1) := by decide +kernel
theorem dX12_isClash_21 : decode cX12_isClash 21 = .ok (.ifCond .ne 5, 3) := by decide +kernel
theorem dX12_isClash_24 : decode cX12_isClash 24 = .ok (.iconst 0, 1) := by decide +kernel
theorem dX12_isClash_25 : decode cX12_isClash 25 = .ok (.ireturn, 1) := by decide +kernel
theorem dX12_isClash_26 : decode cX12_isClash 26 = .ok (.iinc 2 1, 3) := by decide +kernel
theorem dX12_isClash_29 : decode cX12_isClash 29 = .ok (.goto (-27), 3) := by decide +kernel
theorem dX12_isClash_32 : decode cX12_isClash 32 = .ok (.iconst 1, 1) := by decide +kernel
theorem dX12_isClash_33 : decode cX12_isClash 33 = .ok (.ireturn, 1) := by decide +kernel
theorem dX12_isBefore_0 : decode cX12_isBefore 0 = .ok (.iload_n 0, 1) := by decide +kernel
theorem dX12_isBefore_1 : decode cX12_isBefore 1 = .ok (.iload_n 1, 1) := by decide +kernel
theorem dX12_isBefore_2 : decode cX12_isBefore 2 = .ok (.ixor, 1) := by decide +kernel
theorem dX12_isBefore_3 : decode cX12_isBefore 3 = .ok (.istore_n 2, 1) := by decide +kernel
theorem dX12_isBefore_4 : decode cX12_isBefore 4 = .ok (.iload_n 0, 1) := by decide +kernel
theorem dX12_isBefore_5 : decode cX12_isBefore 5 = .ok (.iload_n 2, 1) := by decide +kernel
theorem dX12_isBefore_6 : decode cX12_isBefore 6 = .ok (.iand, 1) := by decide +kernel
theorem dX12_isBefore_7 : decode cX12_isBefore 7 = .ok (.iload_n 2, 1) := by decide +kernel
theorem dX12_isBefore_8 : decode cX12_isBefore 8 = .ok (.ineg, 1) := by decide +kernel
theorem dX12_isBefore_9 : decode cX12_isBefore 9 = .ok (.iand, 1) := by decide +kernel
theorem dX12_isBefore_10 : decode cX12_isBefore 10 = .ok (.ifCond .eq 7, 3) := by decide +kernel
theorem dX12_isBefore_13 : decode cX12_isBefore 13 = .ok (.iconst 1, 1) := by decide +kernel
theorem dX12_isBefore_14 : decode cX12_isBefore 14 = .ok (.goto 4, 3) := by decide +kernel
theorem dX12_isBefore_17 : decode cX12_isBefore 17 = .ok (.iconst 0, 1) := by decide +kernel
theorem dX12_isBefore_18 : decode cX12_isBefore 18 = .ok (.ireturn, 1) := by decide +kernel
theorem dJ6_compare_7cf53_0 : decode cJ6_compare_7cf53 0 = .ok (.iload_n 0, 1) := by decide +kernel
theorem dJ6_compare_7cf53_1 : decode cJ6_compare_7cf53 1 = .ok (.iload_n 1, 1) := by decide +kernel
theorem dJ6_compare_7cf53_2 : decode cJ6_compare_7cf53 2 = .ok (.if_icmp .ge 7, 3) := by decide +kernel
theorem dJ6_compare_7cf53_5 : decode cJ6_compare_7cf53 5 = .ok (.iconst (-1), 1) := by decide +kernel
theorem dJ6_compare_7cf53_6 : decode cJ6_compare_7cf53 6 = .ok (.goto 13, 3) := by decide +kernel
theorem dJ6_compare_7cf53_9 : decode cJ6_compare_7cf53 9 = .ok (.iload_n 0, 1) := by decide +kernel
theorem dJ6_compare_7cf53_10 : decode cJ6_compare_7cf53 10 = .ok (.iload_n 1, 1) := by decide +kernel
theorem dJ6_compare_7cf53_11 : decode cJ6_compare_7cf53 11 = .ok (.if_icmp .ne 7, 3) := by decide +kernel
theorem dJ6_compare_7cf53_14 : decode cJ6_compare_7cf53 14 = .ok (.iconst 0, 1) := by decide +kernel
theorem dJ6_compare_7cf53_15 : decode cJ6_compare_7cf53 15 = .ok (.goto 4, 3) := by decide +kernel
theorem dJ6_compare_7cf53_18 : decode cJ6_compare_7cf53 18 = .ok (.iconst 1, 1) := by decide +kernel
theorem dJ6_compare_7cf53_19 : decode cJ6_compare_7cf53 19 = .ok (.ireturn, 1) := by decide +kernel
theorem dJ6_bitCount_0f7a4_0 : decode cJ6_bitCount_0f7a4 0 = .ok (.iload_n 0, 1) := by decide +kernel
theorem dJ6_bitCount_0f7a4_1 : decode cJ6_bitCount_0f7a4 1 = .ok (.iload_n 0, 1) := by decide +kernel
theorem dJ6_bitCount_0f7a4_2 : decode cJ6_bitCount_0f7a4 2 = .ok (.iconst 1, 1) := by decide +kernel
theorem dJ6_bitCount_0f7a4_3 : decode cJ6_bitCount_0f7a4 3 = .ok (.iushr, 1) := by decide +kernel
theorem dJ6_bitCount_0f7a4_4 : decode cJ6_bitCount_0f7a4 4 = .ok (.ldc_w 265, 3) := by decide +kernel
theorem dJ6_bitCount_0f7a4_7 : decode cJ6_bitCount_0f7a4 7 = .ok (.iand, 1) := by decide +kernel
theorem dJ6_bitCount_0f7a4_8 : decode cJ6_bitCount_0f7a4 8 = .ok (.isub, 1) := by decide +kernel
theorem dJ6_bitCount_0f7a4_9 : decode cJ6_bitCount_0f7a4 9 = .ok (.istore_n 0, 1) := by decide +kernel
theorem dJ6_bitCount_0f7a4_10 : decode cJ6_bitCount_0f7a4 10 = .ok (.iload_n 0, 1) := by decide +kernel
theorem dJ6_bitCount_0f7a4_11 : decode cJ6_bitCount_0f7a4 11 = .ok (.ldc_w 266, 3) := by decide +kernel
theorem dJ6_bitCount_0f7a4_14 : decode cJ6_bitCount_0f7a4 14 = .ok (.iand, 1) := by decide +kernel
theorem dJ6_bitCount_0f7a4_15 : decode cJ6_bitCount_0f7a4 15 = .ok (.iload_n 0, 1) := by decide +kernel
theorem dJ6_bitCount_0f7a4_16 : decode cJ6_bitCount_0f7a4 16 = .ok (.iconst 2, 1) := by decide +kernel
theorem dJ6_bitCount_0f7a4_17 : decode cJ6_bitCount_0f7a4 17 = .ok (.iushr, 1) := by decide +kernel
theorem dJ6_bitCount_0f7a4_18 : decode cJ6_bitCount_0f7a4 18 = .ok (.ldc_w 266, 3) := by decide +kernel
theorem dJ6_bitCount_0f7a4_21 : decode cJ6_bitCount_0f7a4 21 = .ok (.iand, 1) := by decide +kernel
theorem dJ6_bitCount_0f7a4_22 : decode cJ6_bitCount_0f7a4 22 = .ok (.iadd, 1) := by decide +kernel
theorem dJ6_bitCount_0f7a4_23 : decode cJ6_bitCount_0f7a4 23 = .ok (.istore_n 0, 1) := by decide +kernel
theorem dJ6_bitCount_0f7a4_24 : decode cJ6_bitCount_0f7a4 24 = .ok (.iload_n 0, 1) := by decide +kernel
theorem dJ6_bitCount_0f7a4_25 : decode cJ6_bitCount_0f7a4 25 = .ok (.iload_n 0, 1) := by decide +kernel
theorem dJ6_bitCount_0f7a4_26 : decode cJ6_bitCount_0f7a4 26 = .ok (.iconst 4, 1) := by decide +kernel
theorem dJ6_bitCount_0f7a4_27 : decode cJ6_bitCount_0f7a4 27 = .ok (.iushr, 1) := by decide +kernel
theorem dJ6_bitCount_0f7a4_28 : decode cJ6_bitCount_0f7a4 28 = .ok (.iadd, 1) := by decide +kernel
theorem dJ6_bitCount_0f7a4_29 : decode cJ6_bitCount_0f7a4 29 = .ok (.ldc_w 267, 3) := by decide +kernel
theorem dJ6_bitCount_0f7a4_32 : decode cJ6_bitCount_0f7a4 32 = .ok (.iand, 1) := by decide +kernel
theorem dJ6_bitCount_0f7a4_33 : decode cJ6_bitCount_0f7a4 33 = .ok (.istore_n 0, 1) := by decide +kernel
theorem dJ6_bitCount_0f7a4_34 : decode cJ6_bitCount_0f7a4 34 = .ok (.iload_n 0, 1) := by decide +kernel
theorem dJ6_bitCount_0f7a4_35 : decode cJ6_bitCount_0f7a4 35 = .ok (.iload_n 0, 1) := by decide +kernel
theorem dJ6_bitCount_0f7a4_36 : decode cJ6_bitCount_0f7a4 36 = .ok (.bipush 8, 2) := by decide +kernel
theorem dJ6_bitCount_0f7a4_38 : decode cJ6_bitCount_0f7a4 38 = .ok (.iushr, 1) := by decide +kernel
theorem dJ6_bitCount_0f7a4_39 : decode cJ6_bitCount_0f7a4 39 = .ok (.iadd, 1) := by decide +kernel
theorem dJ6_bitCount_0f7a4_40 : decode cJ6_bitCount_0f7a4 40 = .ok (.istore_n 0, 1) := by decide +kernel
theorem dJ6_bitCount_0f7a4_41 : decode cJ6_bitCount_0f7a4 41 = .ok (.iload_n 0, 1) := by decide +kernel
theorem dJ6_bitCount_0f7a4_42 : decode cJ6_bitCount_0f7a4 42 = .ok (.iload_n 0, 1) := by decide +kernel
theorem dJ6_bitCount_0f7a4_43 : decode cJ6_bitCount_0f7a4 43 = .ok (.bipush 16, 2) := by decide +kernel
theorem dJ6_bitCount_0f7a4_45 : decode cJ6_bitCount_0f7a4 45 = .ok (.iushr, 1) := by decide +kernel
theorem dJ6_bitCount_0f7a4_46 : decode cJ6_bitCount_0f7a4 46 = .ok (.iadd, 1) := by decide +kernel
theorem dJ6_bitCount_0f7a4_47 : decode cJ6_bitCount_0f7a4 47 = .ok (.istore_n 0, 1) := by decide +kernel
theorem dJ6_bitCount_0f7a4_48 : decode cJ6_bitCount_0f7a4 48 = .ok (.iload_n 0, 1) := by decide +kernel
theorem dJ6_bitCount_0f7a4_49 : decode cJ6_bitCount_0f7a4 49 = .ok (.bipush 63, 2) := by decide +kernel
theorem dJ6_bitCount_0f7a4_51 : decode cJ6_bitCount_0f7a4 51 = .ok (.iand, 1) := by decide +kernel
theorem dJ6_bitCount_0f7a4_52 : decode cJ6_bitCount_0f7a4 52 = .ok (.ireturn, 1) := by decide +kernel
theorem dJ9_abs_0f7a4_0 : decode cJ9_abs_0f7a4 0 = .ok (.iload_n 0, 1) := by decide +kernel
theorem dJ9_abs_0f7a4_1 : decode cJ9_abs_0f7a4 1 = .ok (.ifCond .ge 8, 3) := by decide +kernel
theorem dJ9_abs_0f7a4_4 : decode cJ9_abs_0f7a4 4 = .ok (.iload_n 0, 1) := by decide +kernel
theorem dJ9_abs_0f7a4_5 : decode cJ9_abs_0f7a4 5 = .ok (.ineg, 1) := by decide +kernel
theorem dJ9_abs_0f7a4_6 : decode cJ9_abs_0f7a4 6 = .ok (.goto 4, 3) := by decide +kernel
theorem dJ9_abs_0f7a4_9 : decode cJ9_abs_0f7a4 9 = .ok (.iload_n 0, 1) := by decide +kernel
theorem dJ9_abs_0f7a4_10 : decode cJ9_abs_0f7a4 10 = .ok (.ireturn, 1) := by decide +kernel
theorem dJ9_max_7cf53_0 : decode cJ9_max_7cf53 0 = .ok (.iload_n 0, 1) := by decide +kernel
theorem dJ9_max_7cf53_1 : decode cJ9_max_7cf53 1 = .ok (.iload_n 1, 1) := by decide +kernel
theorem dJ9_max_7cf53_2 : decode cJ9_max_7cf53 2 = .ok (.if_icmp .lt 7, 3) := by decide +kernel
theorem dJ9_max_7cf53_5 : decode cJ9_max_7cf53 5 = .ok (.iload_n 0, 1) := by decide +kernel
theorem dJ9_max_7cf53_6 : decode cJ9_max_7cf53 6 = .ok (.goto 4, 3) := by decide +kernel
theorem dJ9_max_7cf53_9 : decode cJ9_max_7cf53 9 = .ok (.iload_n 1, 1) := by decide +kernel
theorem dJ9_max_7cf53_10 : decode cJ9_max_7cf53 10 = .ok (.ireturn, 1) := by decide +kernel
theorem dJ9_min_7cf53_0 : decode cJ9_min_7cf53 0 = .ok (.iload_n 0, 1) := by decide +kernel
theorem dJ9_min_7cf53_1 : decode cJ9_min_7cf53 1 = .ok (.iload_n 1, 1) := by decide +kernel
theorem dJ9_min_7cf53_2 : decode cJ9_min_7cf53 2 = .ok (.if_icmp .gt 7, 3) := by decide +kernel
theorem dJ9_min_7cf53_5 : decode cJ9_min_7cf53 5 = .ok (.iload_n 0, 1) := by decide +kernel
theorem dJ9_min_7cf53_6 : decode cJ9_min_7cf53 6 = .ok (.goto 4, 3) := by decide +kernel
theorem dJ9_min_7cf53_9 : decode cJ9_min_7cf53 9 = .ok (.iload_n 1, 1) := by decide +kernel
theorem dJ9_min_7cf53_10 : decode cJ9_min_7cf53 10 = .ok (.ireturn, 1) := by decide +kernel
theorem dL_law_0 : decode cL_law 0 = .ok (.new 7, 3) := by decide +kernel
theorem dL_law_3 : decode cL_law 3 = .ok (.dup, 1) := by decide +kernel
theorem dL_law_4 : decode cL_law 4 = .ok (.invokespecial 9, 3) := by decide +kernel
theorem dL_law_7 : decode cL_law 7 = .ok (.astore_n 1, 1) := by decide +kernel
theorem dL_law_8 : decode cL_law 8 = .ok (.new 10, 3) := by decide +kernel
theorem dL_law_11 : decode cL_law 11 = .ok (.dup, 1) := by decide +kernel
theorem dL_law_12 : decode cL_law 12 = .ok (.invokespecial 12, 3) := by decide +kernel
theorem dL_law_15 : decode cL_law 15 = .ok (.astore_n 2, 1) := by decide +kernel
theorem dL_law_16 : decode cL_law 16 = .ok (.iconst 0, 1) := by decide +kernel
theorem dL_law_17 : decode cL_law 17 = .ok (.istore_n 3, 1) := by decide +kernel
theorem dL_law_18 : decode cL_law 18 = .ok (.iload_n 3, 1) := by decide +kernel
theorem dL_law_19 : decode cL_law 19 = .ok (.aload_n 0, 1) := by decide +kernel
theorem dL_law_20 : decode cL_law 20 = .ok (.arraylength, 1) := by decide +kernel
theorem dL_law_21 : decode cL_law 21 = .ok (.iconst 5, 1) := by decide +kernel
theorem dL_law_22 : decode cL_law 22 = .ok (.isub, 1) := by decide +kernel
theorem dL_law_23 : decode cL_law 23 = .ok (.if_icmp .gt 806, 3) := by decide +kernel
theorem dL_law_26 : decode cL_law 26 = .ok (.aload_n 0, 1) := by decide +kernel
theorem dL_law_27 : decode cL_law 27 = .ok (.iload_n 3, 1) := by decide +kernel
theorem dL_law_28 : decode cL_law 28 = .ok (.iaload, 1) := by decide +kernel
theorem dL_law_29 : decode cL_law 29 = .ok (.bipush 31, 2) := by decide +kernel
theorem dL_law_31 : decode cL_law 31 = .ok (.iand, 1) := by decide +kernel
theorem dL_law_32 : decode cL_law 32 = .ok (.tableswitch 791 0 24 #[116, 159, 202, 245, 278, 311, 334, 367, 420, 443, 476, 499, 512, 535, 568, 581, 594, 617, 640, 653, 676, 699, 722, 745, 768], 116) := by decide +kernel
theorem dL_law_148 : decode cL_law 148 = .ok (.aload_n 1, 1) := by decide +kernel
theorem dL_law_149 : decode cL_law 149 = .ok (.aload_n 0, 1) := by decide +kernel
theorem dL_law_150 : decode cL_law 150 = .ok (.iload_n 3, 1) := by decide +kernel
theorem dL_law_151 : decode cL_law 151 = .ok (.iconst 1, 1) := by decide +kernel
theorem dL_law_152 : decode cL_law 152 = .ok (.iadd, 1) := by decide +kernel
theorem dL_law_153 : decode cL_law 153 = .ok (.iaload, 1) := by decide +kernel
theorem dL_law_154 : decode cL_law 154 = .ok (.aload_n 0, 1) := by decide +kernel
theorem dL_law_155 : decode cL_law 155 = .ok (.iload_n 3, 1) := by decide +kernel
theorem dL_law_156 : decode cL_law 156 = .ok (.iconst 2, 1) := by decide +kernel
theorem dL_law_157 : decode cL_law 157 = .ok (.iadd, 1) := by decide +kernel
theorem dL_law_158 : decode cL_law 158 = .ok (.iaload, 1) := by decide +kernel
theorem dL_law_159 : decode cL_law 159 = .ok (.aload_n 0, 1) := by decide +kernel
theorem dL_law_160 : decode cL_law 160 = .ok (.iload_n 3, 1) := by decide +kernel
theorem dL_law_161 : decode cL_law 161 = .ok (.iconst 3, 1) := by decide +kernel
theorem dL_law_162 : decode cL_law 162 = .ok (.iadd, 1) := by decide +kernel
theorem dL_law_163 : decode cL_law 163 = .ok (.iaload, 1) := by decide +kernel
theorem dL_law_164 : decode cL_law 164 = .ok (.invokevirtual 13, 3) := by decide +kernel
theorem dL_law_167 : decode cL_law 167 = .ok (.aload_n 2, 1) := by decide +kernel
theorem dL_law_168 : decode cL_law 168 = .ok (.aload_n 0, 1) := by decide +kernel
theorem dL_law_169 : decode cL_law 169 = .ok (.iload_n 3, 1) := by decide +kernel
theorem dL_law_170 : decode cL_law 170 = .ok (.iconst 1, 1) := by decide +kernel
theorem dL_law_171 : decode cL_law 171 = .ok (.iadd, 1) := by decide +kernel
theorem dL_law_172 : decode cL_law 172 = .ok (.iaload, 1) := by decide +kernel
theorem dL_law_173 : decode cL_law 173 = .ok (.aload_n 0, 1) := by decide +kernel
theorem dL_law_174 : decode cL_law 174 = .ok (.iload_n 3, 1) := by decide +kernel
theorem dL_law_175 : decode cL_law 175 = .ok (.iconst 2, 1) := by decide +kernel
theorem dL_law_176 : decode cL_law 176 = .ok (.iadd, 1) := by decide +kernel
theorem dL_law_177 : decode cL_law 177 = .ok (.iaload, 1) := by decide +kernel
theorem dL_law_178 : decode cL_law 178 = .ok (.aload_n 0, 1) := by decide +kernel
theorem dL_law_179 : decode cL_law 179 = .ok (.iload_n 3, 1) := by decide +kernel
theorem dL_law_180 : decode cL_law 180 = .ok (.iconst 3, 1) := by decide +kernel
theorem dL_law_181 : decode cL_law 181 = .ok (.iadd, 1) := by decide +kernel
theorem dL_law_182 : decode cL_law 182 = .ok (.iaload, 1) := by decide +kernel
theorem dL_law_183 : decode cL_law 183 = .ok (.invokevirtual 17, 3) := by decide +kernel
theorem dL_law_186 : decode cL_law 186 = .ok (.if_icmp .eq 637, 3) := by decide +kernel
theorem dL_law_189 : decode cL_law 189 = .ok (.iconst 0, 1) := by decide +kernel
theorem dL_law_190 : decode cL_law 190 = .ok (.ireturn, 1) := by decide +kernel
theorem dL_law_191 : decode cL_law 191 = .ok (.aload_n 1, 1) := by decide +kernel
theorem dL_law_192 : decode cL_law 192 = .ok (.aload_n 0, 1) := by decide +kernel
theorem dL_law_193 : decode cL_law 193 = .ok (.iload_n 3, 1) := by decide +kernel
theorem dL_law_194 : decode cL_law 194 = .ok (.iconst 1, 1) := by decide +kernel
theorem dL_law_195 : decode cL_law 195 = .ok (.iadd, 1) := by decide +kernel
theorem dL_law_196 : decode cL_law 196 = .ok (.iaload, 1) := by decide +kernel
theorem dL_law_197 : decode cL_law 197 = .ok (.aload_n 0, 1) := by decide +kernel
theorem dL_law_198 : decode cL_law 198 = .ok (.iload_n 3, 1) := by decide +kernel
theorem dL_law_199 : decode cL_law 199 = .ok (.iconst 2, 1) := by decide +kernel
theorem dL_law_200 : decode cL_law 200 = .ok (.iadd, 1) := by decide +kernel
theorem dL_law_201 : decode cL_law 201 = .ok (.iaload, 1) := by decide +kernel
theorem dL_law_202 : decode cL_law 202 = .ok (.aload_n 0, 1) := by decide +kernel
theorem dL_law_203 : decode cL_law 203 = .ok (.iload_n 3, 1) := by decide +kernel
theorem dL_law_204 : decode cL_law 204 = .ok (.iconst 3, 1) := by decide +kernel
theorem dL_law_205 : decode cL_law 205 = .ok (.iadd, 1) := by decide +kernel
theorem dL_law_206 : decode cL_law 206 = .ok (.iaload, 1) := by decide +kernel
theorem dL_law_207 : decode cL_law 207 = .ok (.invokevirtual 18, 3) := by decide +kernel
theorem dL_law_210 : decode cL_law 210 = .ok (.aload_n 2, 1) := by decide +kernel
theorem dL_law_211 : decode cL_law 211 = .ok (.aload_n 0, 1) := by decide +kernel
theorem dL_law_212 : decode cL_law 212 = .ok (.iload_n 3, 1) := by decide +kernel
theorem dL_law_213 : decode cL_law 213 = .ok (.iconst 1, 1) := by decide +kernel
theorem dL_law_214 : decode cL_law 214 = .ok (.iadd, 1) := by decide +kernel
theorem dL_law_215 : decode cL_law 215 = .ok (.iaload, 1) := by decide +kernel
theorem dL_law_216 : decode cL_law 216 = .ok (.aload_n 0, 1) := by decide +kernel
theorem dL_law_217 : decode cL_law 217 = .ok (.iload_n 3, 1) := by decide +kernel
theorem dL_law_218 : decode cL_law 218 = .ok (.iconst 2, 1) := by decide +kernel
theorem dL_law_219 : decode cL_law 219 = .ok (.iadd, 1) := by decide +kernel
theorem dL_law_220 : decode cL_law 220 = .ok (.iaload, 1) := by decide +kernel
theorem dL_law_221 : decode cL_law 221 = .ok (.aload_n 0, 1) := by decide +kernel
theorem dL_law_222 : decode cL_law 222 = .ok (.iload_n 3, 1) := by decide +kernel
theorem dL_law_223 : decode cL_law 223 = .ok (.iconst 3, 1) := by decide +kernel
theorem dL_law_224 : decode cL_law 224 = .ok (.iadd, 1) := by decide +kernel
theorem dL_law_225 : decode cL_law 225 = .ok (.iaload, 1) := by decide +kernel
theorem dL_law_226 : decode cL_law 226 = .ok (.invokevirtual 21, 3) := by decide +kernel
theorem dL_law_229 : decode cL_law 229 = .ok (.if_icmp .eq 594, 3) := by decide +kernel
theorem dL_law_232 : decode cL_law 232 = .ok (.iconst 0, 1) := by decide +kernel
theorem dL_law_233 : decode cL_law 233 = .ok (.ireturn, 1) := by decide +kernel
theorem dL_law_234 : decode cL_law 234 = .ok (.aload_n 1, 1) := by decide +kernel
theorem dL_law_235 : decode cL_law 235 = .ok (.aload_n 0, 1) := by decide +kernel
theorem dL_law_236 : decode cL_law 236 = .ok (.iload_n 3, 1) := by decide +kernel
theorem dL_law_237 : decode cL_law 237 = .ok (.iconst 1, 1) := by decide +kernel
theorem dL_law_238 : decode cL_law 238 = .ok (.iadd, 1) := by decide +kernel
theorem dL_law_239 : decode cL_law 239 = .ok (.iaload, 1) := by decide +kernel
theorem dL_law_240 : decode cL_law 240 = .ok (.aload_n 0, 1) := by decide +kernel
theorem dL_law_241 : decode cL_law 241 = .ok (.iload_n 3, 1) := by decide +kernel
theorem dL_law_242 : decode cL_law 242 = .ok (.iconst 2, 1) := by decide +kernel
theorem dL_law_243 : decode cL_law 243 = .ok (.iadd, 1) := by decide +kernel
theorem dL_law_244 : decode cL_law 244 = .ok (.iaload, 1) := by decide +kernel
theorem dL_law_245 : decode cL_law 245 = .ok (.aload_n 0, 1) := by decide +kernel
theorem dL_law_246 : decode cL_law 246 = .ok (.iload_n 3, 1) := by decide +kernel
theorem dL_law_247 : decode cL_law 247 = .ok (.iconst 3, 1) := by decide +kernel
theorem dL_law_248 : decode cL_law 248 = .ok (.iadd, 1) := by decide +kernel
theorem dL_law_249 : decode cL_law 249 = .ok (.iaload, 1) := by decide +kernel
theorem dL_law_250 : decode cL_law 250 = .ok (.invokevirtual 22, 3) := by decide +kernel
theorem dL_law_253 : decode cL_law 253 = .ok (.aload_n 2, 1) := by decide +kernel
theorem dL_law_254 : decode cL_law 254 = .ok (.aload_n 0, 1) := by decide +kernel
theorem dL_law_255 : decode cL_law 255 = .ok (.iload_n 3, 1) := by decide +kernel
theorem dL_law_256 : decode cL_law 256 = .ok (.iconst 1, 1) := by decide +kernel
theorem dL_law_257 : decode cL_law 257 = .ok (.iadd, 1) := by decide +kernel
theorem dL_law_258 : decode cL_law 258 = .ok (.iaload, 1) := by decide +kernel
theorem dL_law_259 : decode cL_law 259 = .ok (.aload_n 0, 1) := by decide +kernel
theorem dL_law_260 : decode cL_law 260 = .ok (.iload_n 3, 1) := by decide +kernel
theorem dL_law_261 : decode cL_law 261 = .ok (.iconst 2, 1) := by decide +kernel
theorem dL_law_262 : decode cL_law 262 = .ok (.iadd, 1) := by decide +kernel
theorem dL_law_263 : decode cL_law 263 = .ok (.iaload, 1) := by decide +kernel
theorem dL_law_264 : decode cL_law 264 = .ok (.aload_n 0, 1) := by decide +kernel
theorem dL_law_265 : decode cL_law 265 = .ok (.iload_n 3, 1) := by decide +kernel
theorem dL_law_266 : decode cL_law 266 = .ok (.iconst 3, 1) := by decide +kernel
theorem dL_law_267 : decode cL_law 267 = .ok (.iadd, 1) := by decide +kernel
theorem dL_law_268 : decode cL_law 268 = .ok (.iaload, 1) := by decide +kernel
theorem dL_law_269 : decode cL_law 269 = .ok (.invokevirtual 25, 3) := by decide +kernel
theorem dL_law_272 : decode cL_law 272 = .ok (.if_icmp .eq 551, 3) := by decide +kernel
theorem dL_law_275 : decode cL_law 275 = .ok (.iconst 0, 1) := by decide +kernel
theorem dL_law_276 : decode cL_law 276 = .ok (.ireturn, 1) := by decide +kernel
theorem dL_law_277 : decode cL_law 277 = .ok (.aload_n 1, 1) := by decide +kernel
theorem dL_law_278 : decode cL_law 278 = .ok (.aload_n 0, 1) := by decide +kernel
theorem dL_law_279 : decode cL_law 279 = .ok (.iload_n 3, 1) := by decide +kernel
theorem dL_law_280 : decode cL_law 280 = .ok (.iconst 1, 1) := by decide +kernel
theorem dL_law_281 : decode cL_law 281 = .ok (.iadd, 1) := by decide +kernel
theorem dL_law_282 : decode cL_law 282 = .ok (.iaload, 1) := by decide +kernel
theorem dL_law_283 : decode cL_law 283 = .ok (.aload_n 0, 1) := by decide +kernel
theorem dL_law_284 : decode cL_law 284 = .ok (.iload_n 3, 1) := by decide +kernel
theorem dL_law_285 : decode cL_law 285 = .ok (.iconst 2, 1) := by decide +kernel
theorem dL_law_286 : decode cL_law 286 = .ok (.iadd, 1) := by decide +kernel
theorem dL_law_287 : decode cL_law 287 = .ok (.iaload, 1) := by decide +kernel
theorem dL_law_288 : decode cL_law 288 = .ok (.invokevirtual 26, 3) := by decide +kernel
theorem dL_law_291 : decode cL_law 291 = .ok (.aload_n 2, 1) := by decide +kernel
theorem dL_law_292 : decode cL_law 292 = .ok (.aload_n 0, 1) := by decide +kernel
theorem dL_law_293 : decode cL_law 293 = .ok (.iload_n 3, 1) := by decide +kernel
theorem dL_law_294 : decode cL_law 294 = .ok (.iconst 1, 1) := by decide +kernel
theorem dL_law_295 : decode cL_law 295 = .ok (.iadd, 1) := by decide +kernel
theorem dL_law_296 : decode cL_law 296 = .ok (.iaload, 1) := by decide +kernel
theorem dL_law_297 : decode cL_law 297 = .ok (.aload_n 0, 1) := by decide +kernel
theorem dL_law_298 : decode cL_law 298 = .ok (.iload_n 3, 1) := by decide +kernel
theorem dL_law_299 : decode cL_law 299 = .ok (.iconst 2, 1) := by decide +kernel
theorem dL_law_300 : decode cL_law 300 = .ok (.iadd, 1) := by decide +kernel
theorem dL_law_301 : decode cL_law 301 = .ok (.iaload, 1) := by decide +kernel
theorem dL_law_302 : decode cL_law 302 = .ok (.invokevirtual 30, 3) := by decide +kernel
theorem dL_law_305 : decode cL_law 305 = .ok (.if_icmp .eq 518, 3) := by decide +kernel
theorem dL_law_308 : decode cL_law 308 = .ok (.iconst 0, 1) := by decide +kernel
theorem dL_law_309 : decode cL_law 309 = .ok (.ireturn, 1) := by decide +kernel
theorem dL_law_310 : decode cL_law 310 = .ok (.aload_n 1, 1) := by decide +kernel
theorem dL_law_311 : decode cL_law 311 = .ok (.aload_n 0, 1) := by decide +kernel
theorem dL_law_312 : decode cL_law 312 = .ok (.iload_n 3, 1) := by decide +kernel
theorem dL_law_313 : decode cL_law 313 = .ok (.iconst 1, 1) := by decide +kernel
theorem dL_law_314 : decode cL_law 314 = .ok (.iadd, 1) := by decide +kernel
theorem dL_law_315 : decode cL_law 315 = .ok (.iaload, 1) := by decide +kernel
theorem dL_law_316 : decode cL_law 316 = .ok (.aload_n 0, 1) := by decide +kernel
theorem dL_law_317 : decode cL_law 317 = .ok (.iload_n 3, 1) := by decide +kernel
theorem dL_law_318 : decode cL_law 318 = .ok (.iconst 2, 1) := by decide +kernel
theorem dL_law_319 : decode cL_law 319 = .ok (.iadd, 1) := by decide +kernel
theorem dL_law_320 : decode cL_law 320 = .ok (.iaload, 1) := by decide +kernel
theorem dL_law_321 : decode cL_law 321 = .ok (.invokevirtual 31, 3) := by decide +kernel
theorem dL_law_324 : decode cL_law 324 = .ok (.aload_n 2, 1) := by decide +kernel
theorem dL_law_325 : decode cL_law 325 = .ok (.aload_n 0, 1) := by decide +kernel
theorem dL_law_326 : decode cL_law 326 = .ok (.iload_n 3, 1) := by decide +kernel
theorem dL_law_327 : decode cL_law 327 = .ok (.iconst 1, 1) := by decide +kernel
theorem dL_law_328 : decode cL_law 328 = .ok (.iadd, 1) := by decide +kernel
theorem dL_law_329 : decode cL_law 329 = .ok (.iaload, 1) := by decide +kernel
theorem dL_law_330 : decode cL_law 330 = .ok (.aload_n 0, 1) := by decide +kernel
theorem dL_law_331 : decode cL_law 331 = .ok (.iload_n 3, 1) := by decide +kernel
theorem dL_law_332 : decode cL_law 332 = .ok (.iconst 2, 1) := by decide +kernel
theorem dL_law_333 : decode cL_law 333 = .ok (.iadd, 1) := by decide +kernel
theorem dL_law_334 : decode cL_law 334 = .ok (.iaload, 1) := by decide +kernel
theorem dL_law_335 : decode cL_law 335 = .ok (.invokevirtual 34, 3) := by decide +kernel
theorem dL_law_338 : decode cL_law 338 = .ok (.if_icmp .eq 485, 3) := by decide +kernel
theorem dL_law_341 : decode cL_law 341 = .ok (.iconst 0, 1) := by decide +kernel
theorem dL_law_342 : decode cL_law 342 = .ok (.ireturn, 1) := by decide +kernel
theorem dL_law_343 : decode cL_law 343 = .ok (.aload_n 1, 1) := by decide +kernel
theorem dL_law_344 : decode cL_law 344 = .ok (.aload_n 0, 1) := by decide +kernel
theorem dL_law_345 : decode cL_law 345 = .ok (.iload_n 3, 1) := by decide +kernel
theorem dL_law_346 : decode cL_law 346 = .ok (.iconst 1, 1) := by decide +kernel
theorem dL_law_347 : decode cL_law 347 = .ok (.iadd, 1) := by decide +kernel
theorem dL_law_348 : decode cL_law 348 = .ok (.iaload, 1) := by decide +kernel
theorem dL_law_349 : decode cL_law 349 = .ok (.invokevirtual 35, 3) := by decide +kernel
theorem dL_law_352 : decode cL_law 352 = .ok (.aload_n 2, 1) := by decide +kernel
theorem dL_law_353 : decode cL_law 353 = .ok (.aload_n 0, 1) := by decide +kernel
theorem dL_law_354 : decode cL_law 354 = .ok (.iload_n 3, 1) := by decide +kernel
theorem dL_law_355 : decode cL_law 355 = .ok (.iconst 1, 1) := by decide +kernel
theorem dL_law_356 : decode cL_law 356 = .ok (.iadd, 1) := by decide +kernel
theorem dL_law_357 : decode cL_law 357 = .ok (.iaload, 1) := by decide +kernel
theorem dL_law_358 : decode cL_law 358 = .ok (.invokevirtual 39, 3) := by decide +kernel
theorem dL_law_361 : decode cL_law 361 = .ok (.if_icmp .eq 462, 3) := by decide +kernel
theorem dL_law_364 : decode cL_law 364 = .ok (.iconst 0, 1) := by decide +kernel
theorem dL_law_365 : decode cL_law 365 = .ok (.ireturn, 1) := by decide +kernel
theorem dL_law_366 : decode cL_law 366 = .ok (.aload_n 1, 1) := by decide +kernel
theorem dL_law_367 : decode cL_law 367 = .ok (.aload_n 0, 1) := by decide +kernel
theorem dL_law_368 : decode cL_law 368 = .ok (.iload_n 3, 1) := by decide +kernel
theorem dL_law_369 : decode cL_law 369 = .ok (.iconst 1, 1) := by decide +kernel
theorem dL_law_370 : decode cL_law 370 = .ok (.iadd, 1) := by decide +kernel
theorem dL_law_371 : decode cL_law 371 = .ok (.iaload, 1) := by decide +kernel
theorem dL_law_372 : decode cL_law 372 = .ok (.aload_n 0, 1) := by decide +kernel
theorem dL_law_373 : decode cL_law 373 = .ok (.iload_n 3, 1) := by decide +kernel
theorem dL_law_374 : decode cL_law 374 = .ok (.iconst 2, 1) := by decide +kernel
theorem dL_law_375 : decode cL_law 375 = .ok (.iadd, 1) := by decide +kernel
theorem dL_law_376 : decode cL_law 376 = .ok (.iaload, 1) := by decide +kernel
theorem dL_law_377 : decode cL_law 377 = .ok (.invokevirtual 40, 3) := by decide +kernel
theorem dL_law_380 : decode cL_law 380 = .ok (.aload_n 2, 1) := by decide +kernel
theorem dL_law_381 : decode cL_law 381 = .ok (.aload_n 0, 1) := by decide +kernel
theorem dL_law_382 : decode cL_law 382 = .ok (.iload_n 3, 1) := by decide +kernel
theorem dL_law_383 : decode cL_law 383 = .ok (.iconst 1, 1) := by decide +kernel
theorem dL_law_384 : decode cL_law 384 = .ok (.iadd, 1) := by decide +kernel
theorem dL_law_385 : decode cL_law 385 = .ok (.iaload, 1) := by decide +kernel
theorem dL_law_386 : decode cL_law 386 = .ok (.aload_n 0, 1) := by decide +kernel
theorem dL_law_387 : decode cL_law 387 = .ok (.iload_n 3, 1) := by decide +kernel
theorem dL_law_388 : decode cL_law 388 = .ok (.iconst 2, 1) := by decide +kernel
theorem dL_law_389 : decode cL_law 389 = .ok (.iadd, 1) := by decide +kernel
theorem dL_law_390 : decode cL_law 390 = .ok (.iaload, 1) := by decide +kernel
theorem dL_law_391 : decode cL_law 391 = .ok (.invokevirtual 43, 3) := by decide +kernel
theorem dL_law_394 : decode cL_law 394 = .ok (.if_icmp .eq 429, 3) := by decide +kernel
theorem dL_law_397 : decode cL_law 397 = .ok (.iconst 0, 1) := by decide +kernel
theorem dL_law_398 : decode cL_law 398 = .ok (.ireturn, 1) := by decide +kernel
theorem dL_law_399 : decode cL_law 399 = .ok (.aload_n 1, 1) := by decide +kernel
theorem dL_law_400 : decode cL_law 400 = .ok (.aload_n 0, 1) := by decide +kernel
theorem dL_law_401 : decode cL_law 401 = .ok (.iload_n 3, 1) := by decide +kernel
theorem dL_law_402 : decode cL_law 402 = .ok (.iconst 1, 1) := by decide +kernel
theorem dL_law_403 : decode cL_law 403 = .ok (.iadd, 1) := by decide +kernel
theorem dL_law_404 : decode cL_law 404 = .ok (.iaload, 1) := by decide +kernel
theorem dL_law_405 : decode cL_law 405 = .ok (.aload_n 0, 1) := by decide +kernel
theorem dL_law_406 : decode cL_law 406 = .ok (.iload_n 3, 1) := by decide +kernel
theorem dL_law_407 : decode cL_law 407 = .ok (.iconst 2, 1) := by decide +kernel
theorem dL_law_408 : decode cL_law 408 = .ok (.iadd, 1) := by decide +kernel
theorem dL_law_409 : decode cL_law 409 = .ok (.iaload, 1) := by decide +kernel
theorem dL_law_410 : decode cL_law 410 = .ok (.aload_n 0, 1) := by decide +kernel
theorem dL_law_411 : decode cL_law 411 = .ok (.iload_n 3, 1) := by decide +kernel
theorem dL_law_412 : decode cL_law 412 = .ok (.iconst 3, 1) := by decide +kernel
theorem dL_law_413 : decode cL_law 413 = .ok (.iadd, 1) := by decide +kernel
theorem dL_law_414 : decode cL_law 414 = .ok (.iaload, 1) := by decide +kernel
theorem dL_law_415 : decode cL_law 415 = .ok (.aload_n 0, 1) := by decide +kernel
theorem dL_law_416 : decode cL_law 416 = .ok (.iload_n 3, 1) := by decide +kernel
theorem dL_law_417 : decode cL_law 417 = .ok (.iconst 4, 1) := by decide +kernel
theorem dL_law_418 : decode cL_law 418 = .ok (.iadd, 1) := by decide +kernel
theorem dL_law_419 : decode cL_law 419 = .ok (.iaload, 1) := by decide +kernel
theorem dL_law_420 : decode cL_law 420 = .ok (.invokevirtual 44, 3) := by decide +kernel
theorem dL_law_423 : decode cL_law 423 = .ok (.aload_n 2, 1) := by decide +kernel
theorem dL_law_424 : decode cL_law 424 = .ok (.aload_n 0, 1) := by decide +kernel
theorem dL_law_425 : decode cL_law 425 = .ok (.iload_n 3, 1) := by decide +kernel
theorem dL_law_426 : decode cL_law 426 = .ok (.iconst 1, 1) := by decide +kernel
theorem dL_law_427 : decode cL_law 427 = .ok (.iadd, 1) := by decide +kernel
theorem dL_law_428 : decode cL_law 428 = .ok (.iaload, 1) := by decide +kernel
theorem dL_law_429 : decode cL_law 429 = .ok (.aload_n 0, 1) := by decide +kernel
theorem dL_law_430 : decode cL_law 430 = .ok (.iload_n 3, 1) := by decide +kernel
theorem dL_law_431 : decode cL_law 431 = .ok (.iconst 2, 1) := by decide +kernel
theorem dL_law_432 : decode cL_law 432 = .ok (.iadd, 1) := by decide +kernel
theorem dL_law_433 : decode cL_law 433 = .ok (.iaload, 1) := by decide +kernel
theorem dL_law_434 : decode cL_law 434 = .ok (.aload_n 0, 1) := by decide +kernel
theorem dL_law_435 : decode cL_law 435 = .ok (.iload_n 3, 1) := by decide +kernel
theorem dL_law_436 : decode cL_law 436 = .ok (.iconst 3, 1) := by decide +kernel
theorem dL_law_437 : decode cL_law 437 = .ok (.iadd, 1) := by decide +kernel
theorem dL_law_438 : decode cL_law 438 = .ok (.iaload, 1) := by decide +kernel
theorem dL_law_439 : decode cL_law 439 = .ok (.aload_n 0, 1) := by decide +kernel
theorem dL_law_440 : decode cL_law 440 = .ok (.iload_n 3, 1) := by decide +kernel
theorem dL_law_441 : decode cL_law 441 = .ok (.iconst 4, 1) := by decide +kernel
theorem dL_law_442 : decode cL_law 442 = .ok (.iadd, 1) := by decide +kernel
theorem dL_law_443 : decode cL_law 443 = .ok (.iaload, 1) := by decide +kernel
theorem dL_law_444 : decode cL_law 444 = .ok (.invokevirtual 48, 3) := by decide +kernel
theorem dL_law_447 : decode cL_law 447 = .ok (.if_icmp .eq 376, 3) := by decide +kernel
theorem dL_law_450 : decode cL_law 450 = .ok (.iconst 0, 1) := by decide +kernel
theorem dL_law_451 : decode cL_law 451 = .ok (.ireturn, 1) := by decide +kernel
theorem dL_law_452 : decode cL_law 452 = .ok (.aload_n 1, 1) := by decide +kernel
theorem dL_law_453 : decode cL_law 453 = .ok (.aload_n 0, 1) := by decide +kernel
theorem dL_law_454 : decode cL_law 454 = .ok (.iload_n 3, 1) := by decide +kernel
theorem dL_law_455 : decode cL_law 455 = .ok (.iconst 1, 1) := by decide +kernel
theorem dL_law_456 : decode cL_law 456 = .ok (.iadd, 1) := by decide +kernel
theorem dL_law_457 : decode cL_law 457 = .ok (.iaload, 1) := by decide +kernel
theorem dL_law_458 : decode cL_law 458 = .ok (.invokevirtual 49, 3) := by decide +kernel
theorem dL_law_461 : decode cL_law 461 = .ok (.aload_n 2, 1) := by decide +kernel
theorem dL_law_462 : decode cL_law 462 = .ok (.aload_n 0, 1) := by decide +kernel
theorem dL_law_463 : decode cL_law 463 = .ok (.iload_n 3, 1) := by decide +kernel
theorem dL_law_464 : decode cL_law 464 = .ok (.iconst 1, 1) := by decide +kernel
theorem dL_law_465 : decode cL_law 465 = .ok (.iadd, 1) := by decide +kernel
theorem dL_law_466 : decode cL_law 466 = .ok (.iaload, 1) := by decide +kernel
theorem dL_law_467 : decode cL_law 467 = .ok (.invokevirtual 52, 3) := by decide +kernel
theorem dL_law_470 : decode cL_law 470 = .ok (.if_icmp .eq 353, 3) := by decide +kernel
theorem dL_law_473 : decode cL_law 473 = .ok (.iconst 0, 1) := by decide +kernel
theorem dL_law_474 : decode cL_law 474 = .ok (.ireturn, 1) := by decide +kernel
theorem dL_law_475 : decode cL_law 475 = .ok (.aload_n 1, 1) := by decide +kernel
theorem dL_law_476 : decode cL_law 476 = .ok (.aload_n 0, 1) := by decide +kernel
theorem dL_law_477 : decode cL_law 477 = .ok (.iload_n 3, 1) := by decide +kernel
theorem dL_law_478 : decode cL_law 478 = .ok (.iconst 1, 1) := by decide +kernel
theorem dL_law_479 : decode cL_law 479 = .ok (.iadd, 1) := by decide +kernel
theorem dL_law_480 : decode cL_law 480 = .ok (.iaload, 1) := by decide +kernel
theorem dL_law_481 : decode cL_law 481 = .ok (.aload_n 0, 1) := by decide +kernel
theorem dL_law_482 : decode cL_law 482 = .ok (.iload_n 3, 1) := by decide +kernel
theorem dL_law_483 : decode cL_law 483 = .ok (.iconst 2, 1) := by decide +kernel
theorem dL_law_484 : decode cL_law 484 = .ok (.iadd, 1) := by decide +kernel
theorem dL_law_485 : decode cL_law 485 = .ok (.iaload, 1) := by decide +kernel
theorem dL_law_486 : decode cL_law 486 = .ok (.invokevirtual 53, 3) := by decide +kernel
theorem dL_law_489 : decode cL_law 489 = .ok (.aload_n 2, 1) := by decide +kernel
theorem dL_law_490 : decode cL_law 490 = .ok (.aload_n 0, 1) := by decide +kernel
theorem dL_law_491 : decode cL_law 491 = .ok (.iload_n 3, 1) := by decide +kernel
theorem dL_law_492 : decode cL_law 492 = .ok (.iconst 1, 1) := by decide +kernel
theorem dL_law_493 : decode cL_law 493 = .ok (.iadd, 1) := by decide +kernel
theorem dL_law_494 : decode cL_law 494 = .ok (.iaload, 1) := by decide +kernel
theorem dL_law_495 : decode cL_law 495 = .ok (.aload_n 0, 1) := by decide +kernel
theorem dL_law_496 : decode cL_law 496 = .ok (.iload_n 3, 1) := by decide +kernel
theorem dL_law_497 : decode cL_law 497 = .ok (.iconst 2, 1) := by decide +kernel
theorem dL_law_498 : decode cL_law 498 = .ok (.iadd, 1) := by decide +kernel
theorem dL_law_499 : decode cL_law 499 = .ok (.iaload, 1) := by decide +kernel
theorem dL_law_500 : decode cL_law 500 = .ok (.invokevirtual 56, 3) := by decide +kernel
theorem dL_law_503 : decode cL_law 503 = .ok (.if_icmp .eq 320, 3) := by decide +kernel
theorem dL_law_506 : decode cL_law 506 = .ok (.iconst 0, 1) := by decide +kernel
theorem dL_law_507 : decode cL_law 507 = .ok (.ireturn, 1) := by decide +kernel
theorem dL_law_508 : decode cL_law 508 = .ok (.aload_n 1, 1) := by decide +kernel
theorem dL_law_509 : decode cL_law 509 = .ok (.aload_n 0, 1) := by decide +kernel
theorem dL_law_510 : decode cL_law 510 = .ok (.iload_n 3, 1) := by decide +kernel
theorem dL_law_511 : decode cL_law 511 = .ok (.iconst 1, 1) := by decide +kernel
theorem dL_law_512 : decode cL_law 512 = .ok (.iadd, 1) := by decide +kernel
theorem dL_law_513 : decode cL_law 513 = .ok (.iaload, 1) := by decide +kernel
theorem dL_law_514 : decode cL_law 514 = .ok (.invokevirtual 57, 3) := by decide +kernel
theorem dL_law_517 : decode cL_law 517 = .ok (.aload_n 2, 1) := by decide +kernel
theorem dL_law_518 : decode cL_law 518 = .ok (.aload_n 0, 1) := by decide +kernel
theorem dL_law_519 : decode cL_law 519 = .ok (.iload_n 3, 1) := by decide +kernel
theorem dL_law_520 : decode cL_law 520 = .ok (.iconst 1, 1) := by decide +kernel
theorem dL_law_521 : decode cL_law 521 = .ok (.iadd, 1) := by decide +kernel
theorem dL_law_522 : decode cL_law 522 = .ok (.iaload, 1) := by decide +kernel
theorem dL_law_523 : decode cL_law 523 = .ok (.invokevirtual 60, 3) := by decide +kernel
theorem dL_law_526 : decode cL_law 526 = .ok (.if_icmp .eq 297, 3) := by decide +kernel
theorem dL_law_529 : decode cL_law 529 = .ok (.iconst 0, 1) := by decide +kernel
theorem dL_law_530 : decode cL_law 530 = .ok (.ireturn, 1) := by decide +kernel
theorem dL_law_531 : decode cL_law 531 = .ok (.aload_n 1, 1) := by decide +kernel
theorem dL_law_532 : decode cL_law 532 = .ok (.invokevirtual 61, 3) := by decide +kernel
theorem dL_law_535 : decode cL_law 535 = .ok (.aload_n 2, 1) := by decide +kernel
theorem dL_law_536 : decode cL_law 536 = .ok (.invokevirtual 65, 3) := by decide +kernel
theorem dL_law_539 : decode cL_law 539 = .ok (.if_icmp .eq 284, 3) := by decide +kernel
theorem dL_law_542 : decode cL_law 542 = .ok (.iconst 0, 1) := by decide +kernel
theorem dL_law_543 : decode cL_law 543 = .ok (.ireturn, 1) := by decide +kernel
theorem dL_law_544 : decode cL_law 544 = .ok (.aload_n 1, 1) := by decide +kernel
theorem dL_law_545 : decode cL_law 545 = .ok (.aload_n 0, 1) := by decide +kernel
theorem dL_law_546 : decode cL_law 546 = .ok (.iload_n 3, 1) := by decide +kernel
theorem dL_law_547 : decode cL_law 547 = .ok (.iconst 1, 1) := by decide +kernel
theorem dL_law_548 : decode cL_law 548 = .ok (.iadd, 1) := by decide +kernel
theorem dL_law_549 : decode cL_law 549 = .ok (.iaload, 1) := by decide +kernel
theorem dL_law_550 : decode cL_law 550 = .ok (.invokevirtual 66, 3) := by decide +kernel
theorem dL_law_553 : decode cL_law 553 = .ok (.aload_n 2, 1) := by decide +kernel
theorem dL_law_554 : decode cL_law 554 = .ok (.aload_n 0, 1) := by decide +kernel
theorem dL_law_555 : decode cL_law 555 = .ok (.iload_n 3, 1) := by decide +kernel
theorem dL_law_556 : decode cL_law 556 = .ok (.iconst 1, 1) := by decide +kernel
theorem dL_law_557 : decode cL_law 557 = .ok (.iadd, 1) := by decide +kernel
theorem dL_law_558 : decode cL_law 558 = .ok (.iaload, 1) := by decide +kernel
theorem dL_law_559 : decode cL_law 559 = .ok (.invokevirtual 69, 3) := by decide +kernel
theorem dL_law_562 : decode cL_law 562 = .ok (.if_icmp .eq 261, 3) := by decide +kernel
theorem dL_law_565 : decode cL_law 565 = .ok (.iconst 0, 1) := by decide +kernel
theorem dL_law_566 : decode cL_law 566 = .ok (.ireturn, 1) := by decide +kernel
theorem dL_law_567 : decode cL_law 567 = .ok (.aload_n 1, 1) := by decide +kernel
theorem dL_law_568 : decode cL_law 568 = .ok (.aload_n 0, 1) := by decide +kernel
theorem dL_law_569 : decode cL_law 569 = .ok (.iload_n 3, 1) := by decide +kernel
theorem dL_law_570 : decode cL_law 570 = .ok (.iconst 1, 1) := by decide +kernel
theorem dL_law_571 : decode cL_law 571 = .ok (.iadd, 1) := by decide +kernel
theorem dL_law_572 : decode cL_law 572 = .ok (.iaload, 1) := by decide +kernel
theorem dL_law_573 : decode cL_law 573 = .ok (.aload_n 0, 1) := by decide +kernel
theorem dL_law_574 : decode cL_law 574 = .ok (.iload_n 3, 1) := by decide +kernel
theorem dL_law_575 : decode cL_law 575 = .ok (.iconst 2, 1) := by decide +kernel
theorem dL_law_576 : decode cL_law 576 = .ok (.iadd, 1) := by decide +kernel
theorem dL_law_577 : decode cL_law 577 = .ok (.iaload, 1) := by decide +kernel
theorem dL_law_578 : decode cL_law 578 = .ok (.invokevirtual 70, 3) := by decide +kernel
theorem dL_law_581 : decode cL_law 581 = .ok (.aload_n 2, 1) := by decide +kernel
theorem dL_law_582 : decode cL_law 582 = .ok (.aload_n 0, 1) := by decide +kernel
theorem dL_law_583 : decode cL_law 583 = .ok (.iload_n 3, 1) := by decide +kernel
theorem dL_law_584 : decode cL_law 584 = .ok (.iconst 1, 1) := by decide +kernel
theorem dL_law_585 : decode cL_law 585 = .ok (.iadd, 1) := by decide +kernel
theorem dL_law_586 : decode cL_law 586 = .ok (.iaload, 1) := by decide +kernel
theorem dL_law_587 : decode cL_law 587 = .ok (.aload_n 0, 1) := by decide +kernel
theorem dL_law_588 : decode cL_law 588 = .ok (.iload_n 3, 1) := by decide +kernel
theorem dL_law_589 : decode cL_law 589 = .ok (.iconst 2, 1) := by decide +kernel
theorem dL_law_590 : decode cL_law 590 = .ok (.iadd, 1) := by decide +kernel
theorem dL_law_591 : decode cL_law 591 = .ok (.iaload, 1) := by decide +kernel
theorem dL_law_592 : decode cL_law 592 = .ok (.invokevirtual 73, 3) := by decide +kernel
theorem dL_law_595 : decode cL_law 595 = .ok (.if_icmp .eq 228, 3) := by decide +kernel
theorem dL_law_598 : decode cL_law 598 = .ok (.iconst 0, 1) := by decide +kernel
theorem dL_law_599 : decode cL_law 599 = .ok (.ireturn, 1) := by decide +kernel
theorem dL_law_600 : decode cL_law 600 = .ok (.aload_n 1, 1) := by decide +kernel
theorem dL_law_601 : decode cL_law 601 = .ok (.invokevirtual 74, 3) := by decide +kernel
theorem dL_law_604 : decode cL_law 604 = .ok (.aload_n 2, 1) := by decide +kernel
theorem dL_law_605 : decode cL_law 605 = .ok (.invokevirtual 77, 3) := by decide +kernel
theorem dL_law_608 : decode cL_law 608 = .ok (.if_icmp .eq 215, 3) := by decide +kernel
theorem dL_law_611 : decode cL_law 611 = .ok (.iconst 0, 1) := by decide +kernel
theorem dL_law_612 : decode cL_law 612 = .ok (.ireturn, 1) := by decide +kernel
theorem dL_law_613 : decode cL_law 613 = .ok (.aload_n 1, 1) := by decide +kernel
theorem dL_law_614 : decode cL_law 614 = .ok (.invokevirtual 78, 3) := by decide +kernel
theorem dL_law_617 : decode cL_law 617 = .ok (.aload_n 2, 1) := by decide +kernel
theorem dL_law_618 : decode cL_law 618 = .ok (.invokevirtual 81, 3) := by decide +kernel
theorem dL_law_621 : decode cL_law 621 = .ok (.if_icmp .eq 202, 3) := by decide +kernel
theorem dL_law_624 : decode cL_law 624 = .ok (.iconst 0, 1) := by decide +kernel
theorem dL_law_625 : decode cL_law 625 = .ok (.ireturn, 1) := by decide +kernel
theorem dL_law_626 : decode cL_law 626 = .ok (.aload_n 1, 1) := by decide +kernel
theorem dL_law_627 : decode cL_law 627 = .ok (.aload_n 0, 1) := by decide +kernel
theorem dL_law_628 : decode cL_law 628 = .ok (.iload_n 3, 1) := by decide +kernel
theorem dL_law_629 : decode cL_law 629 = .ok (.iconst 1, 1) := by decide +kernel
theorem dL_law_630 : decode cL_law 630 = .ok (.iadd, 1) := by decide +kernel
theorem dL_law_631 : decode cL_law 631 = .ok (.iaload, 1) := by decide +kernel
theorem dL_law_632 : decode cL_law 632 = .ok (.invokevirtual 82, 3) := by decide +kernel
theorem dL_law_635 : decode cL_law 635 = .ok (.aload_n 2, 1) := by decide +kernel
theorem dL_law_636 : decode cL_law 636 = .ok (.aload_n 0, 1) := by decide +kernel
theorem dL_law_637 : decode cL_law 637 = .ok (.iload_n 3, 1) := by decide +kernel
theorem dL_law_638 : decode cL_law 638 = .ok (.iconst 1, 1) := by decide +kernel
theorem dL_law_639 : decode cL_law 639 = .ok (.iadd, 1) := by decide +kernel
theorem dL_law_640 : decode cL_law 640 = .ok (.iaload, 1) := by decide +kernel
theorem dL_law_641 : decode cL_law 641 = .ok (.invokevirtual 85, 3) := by decide +kernel
theorem dL_law_644 : decode cL_law 644 = .ok (.if_icmp .eq 179, 3) := by decide +kernel
theorem dL_law_647 : decode cL_law 647 = .ok (.iconst 0, 1) := by decide +kernel
theorem dL_law_648 : decode cL_law 648 = .ok (.ireturn, 1) := by decide +kernel
theorem dL_law_649 : decode cL_law 649 = .ok (.aload_n 1, 1) := by decide +kernel
theorem dL_law_650 : decode cL_law 650 = .ok (.aload_n 0, 1) := by decide +kernel
theorem dL_law_651 : decode cL_law 651 = .ok (.iload_n 3, 1) := by decide +kernel
theorem dL_law_652 : decode cL_law 652 = .ok (.iconst 1, 1) := by decide +kernel
theorem dL_law_653 : decode cL_law 653 = .ok (.iadd, 1) := by decide +kernel
theorem dL_law_654 : decode cL_law 654 = .ok (.iaload, 1) := by decide +kernel
theorem dL_law_655 : decode cL_law 655 = .ok (.invokevirtual 86, 3) := by decide +kernel
theorem dL_law_658 : decode cL_law 658 = .ok (.aload_n 2, 1) := by decide +kernel
theorem dL_law_659 : decode cL_law 659 = .ok (.aload_n 0, 1) := by decide +kernel
theorem dL_law_660 : decode cL_law 660 = .ok (.iload_n 3, 1) := by decide +kernel
theorem dL_law_661 : decode cL_law 661 = .ok (.iconst 1, 1) := by decide +kernel
theorem dL_law_662 : decode cL_law 662 = .ok (.iadd, 1) := by decide +kernel
theorem dL_law_663 : decode cL_law 663 = .ok (.iaload, 1) := by decide +kernel
theorem dL_law_664 : decode cL_law 664 = .ok (.invokevirtual 89, 3) := by decide +kernel
theorem dL_law_667 : decode cL_law 667 = .ok (.if_icmp .eq 156, 3) := by decide +kernel
theorem dL_law_670 : decode cL_law 670 = .ok (.iconst 0, 1) := by decide +kernel
theorem dL_law_671 : decode cL_law 671 = .ok (.ireturn, 1) := by decide +kernel
theorem dL_law_672 : decode cL_law 672 = .ok (.aload_n 1, 1) := by decide +kernel
theorem dL_law_673 : decode cL_law 673 = .ok (.invokevirtual 90, 3) := by decide +kernel
theorem dL_law_676 : decode cL_law 676 = .ok (.aload_n 2, 1) := by decide +kernel
theorem dL_law_677 : decode cL_law 677 = .ok (.invokevirtual 93, 3) := by decide +kernel
theorem dL_law_680 : decode cL_law 680 = .ok (.if_icmp .eq 143, 3) := by decide +kernel
theorem dL_law_683 : decode cL_law 683 = .ok (.iconst 0, 1) := by decide +kernel
theorem dL_law_684 : decode cL_law 684 = .ok (.ireturn, 1) := by decide +kernel
theorem dL_law_685 : decode cL_law 685 = .ok (.aload_n 1, 1) := by decide +kernel
theorem dL_law_686 : decode cL_law 686 = .ok (.aload_n 0, 1) := by decide +kernel
theorem dL_law_687 : decode cL_law 687 = .ok (.iload_n 3, 1) := by decide +kernel
theorem dL_law_688 : decode cL_law 688 = .ok (.iconst 1, 1) := by decide +kernel
theorem dL_law_689 : decode cL_law 689 = .ok (.iadd, 1) := by decide +kernel
theorem dL_law_690 : decode cL_law 690 = .ok (.iaload, 1) := by decide +kernel
theorem dL_law_691 : decode cL_law 691 = .ok (.invokevirtual 94, 3) := by decide +kernel
theorem dL_law_694 : decode cL_law 694 = .ok (.aload_n 2, 1) := by decide +kernel
theorem dL_law_695 : decode cL_law 695 = .ok (.aload_n 0, 1) := by decide +kernel
theorem dL_law_696 : decode cL_law 696 = .ok (.iload_n 3, 1) := by decide +kernel
theorem dL_law_697 : decode cL_law 697 = .ok (.iconst 1, 1) := by decide +kernel
theorem dL_law_698 : decode cL_law 698 = .ok (.iadd, 1) := by decide +kernel
theorem dL_law_699 : decode cL_law 699 = .ok (.iaload, 1) := by decide +kernel
theorem dL_law_700 : decode cL_law 700 = .ok (.invokevirtual 97, 3) := by decide +kernel
theorem dL_law_703 : decode cL_law 703 = .ok (.if_icmp .eq 120, 3) := by decide +kernel
theorem dL_law_706 : decode cL_law 706 = .ok (.iconst 0, 1) := by decide +kernel
theorem dL_law_707 : decode cL_law 707 = .ok (.ireturn, 1) := by decide +kernel
theorem dL_law_708 : decode cL_law 708 = .ok (.aload_n 1, 1) := by decide +kernel
theorem dL_law_709 : decode cL_law 709 = .ok (.aload_n 0, 1) := by decide +kernel
theorem dL_law_710 : decode cL_law 710 = .ok (.iload_n 3, 1) := by decide +kernel
theorem dL_law_711 : decode cL_law 711 = .ok (.iconst 1, 1) := by decide +kernel
theorem dL_law_712 : decode cL_law 712 = .ok (.iadd, 1) := by decide +kernel
theorem dL_law_713 : decode cL_law 713 = .ok (.iaload, 1) := by decide +kernel
theorem dL_law_714 : decode cL_law 714 = .ok (.invokevirtual 98, 3) := by decide +kernel
theorem dL_law_717 : decode cL_law 717 = .ok (.aload_n 2, 1) := by decide +kernel
theorem dL_law_718 : decode cL_law 718 = .ok (.aload_n 0, 1) := by decide +kernel
theorem dL_law_719 : decode cL_law 719 = .ok (.iload_n 3, 1) := by decide +kernel
theorem dL_law_720 : decode cL_law 720 = .ok (.iconst 1, 1) := by decide +kernel
theorem dL_law_721 : decode cL_law 721 = .ok (.iadd, 1) := by decide +kernel
theorem dL_law_722 : decode cL_law 722 = .ok (.iaload, 1) := by decide +kernel
theorem dL_law_723 : decode cL_law 723 = .ok (.invokevirtual 101, 3) := by decide +kernel
theorem dL_law_726 : decode cL_law 726 = .ok (.if_icmp .eq 97, 3) := by decide +kernel
theorem dL_law_729 : decode cL_law 729 = .ok (.iconst 0, 1) := by decide +kernel
theorem dL_law_730 : decode cL_law 730 = .ok (.ireturn, 1) := by decide +kernel
theorem dL_law_731 : decode cL_law 731 = .ok (.aload_n 1, 1) := by decide +kernel
theorem dL_law_732 : decode cL_law 732 = .ok (.aload_n 0, 1) := by decide +kernel
theorem dL_law_733 : decode cL_law 733 = .ok (.iload_n 3, 1) := by decide +kernel
theorem dL_law_734 : decode cL_law 734 = .ok (.iconst 1, 1) := by decide +kernel
theorem dL_law_735 : decode cL_law 735 = .ok (.iadd, 1) := by decide +kernel
theorem dL_law_736 : decode cL_law 736 = .ok (.iaload, 1) := by decide +kernel
theorem dL_law_737 : decode cL_law 737 = .ok (.invokevirtual 102, 3) := by decide +kernel
theorem dL_law_740 : decode cL_law 740 = .ok (.aload_n 2, 1) := by decide +kernel
theorem dL_law_741 : decode cL_law 741 = .ok (.aload_n 0, 1) := by decide +kernel
theorem dL_law_742 : decode cL_law 742 = .ok (.iload_n 3, 1) := by decide +kernel
theorem dL_law_743 : decode cL_law 743 = .ok (.iconst 1, 1) := by decide +kernel
theorem dL_law_744 : decode cL_law 744 = .ok (.iadd, 1) := by decide +kernel
theorem dL_law_745 : decode cL_law 745 = .ok (.iaload, 1) := by decide +kernel
theorem dL_law_746 : decode cL_law 746 = .ok (.invokevirtual 105, 3) := by decide +kernel
theorem dL_law_749 : decode cL_law 749 = .ok (.if_icmp .eq 74, 3) := by decide +kernel
theorem dL_law_752 : decode cL_law 752 = .ok (.iconst 0, 1) := by decide +kernel
theorem dL_law_753 : decode cL_law 753 = .ok (.ireturn, 1) := by decide +kernel
theorem dL_law_754 : decode cL_law 754 = .ok (.aload_n 1, 1) := by decide +kernel
theorem dL_law_755 : decode cL_law 755 = .ok (.aload_n 0, 1) := by decide +kernel
theorem dL_law_756 : decode cL_law 756 = .ok (.iload_n 3, 1) := by decide +kernel
theorem dL_law_757 : decode cL_law 757 = .ok (.iconst 1, 1) := by decide +kernel
theorem dL_law_758 : decode cL_law 758 = .ok (.iadd, 1) := by decide +kernel
theorem dL_law_759 : decode cL_law 759 = .ok (.iaload, 1) := by decide +kernel
theorem dL_law_760 : decode cL_law 760 = .ok (.invokevirtual 106, 3) := by decide +kernel
theorem dL_law_763 : decode cL_law 763 = .ok (.aload_n 2, 1) := by decide +kernel
theorem dL_law_764 : decode cL_law 764 = .ok (.aload_n 0, 1) := by decide +kernel
theorem dL_law_765 : decode cL_law 765 = .ok (.iload_n 3, 1) := by decide +kernel
theorem dL_law_766 : decode cL_law 766 = .ok (.iconst 1, 1) := by decide +kernel
theorem dL_law_767 : decode cL_law 767 = .ok (.iadd, 1) := by decide +kernel
theorem dL_law_768 : decode cL_law 768 = .ok (.iaload, 1) := by decide +kernel
theorem dL_law_769 : decode cL_law 769 = .ok (.invokevirtual 109, 3) := by decide +kernel
theorem dL_law_772 : decode cL_law 772 = .ok (.if_icmp .eq 51, 3) := by decide +kernel
theorem dL_law_775 : decode cL_law 775 = .ok (.iconst 0, 1) := by decide +kernel
theorem dL_law_776 : decode cL_law 776 = .ok (.ireturn, 1) := by decide +kernel
theorem dL_law_777 : decode cL_law 777 = .ok (.aload_n 1, 1) := by decide +kernel
theorem dL_law_778 : decode cL_law 778 = .ok (.aload_n 0, 1) := by decide +kernel
theorem dL_law_779 : decode cL_law 779 = .ok (.iload_n 3, 1) := by decide +kernel
theorem dL_law_780 : decode cL_law 780 = .ok (.iconst 1, 1) := by decide +kernel
theorem dL_law_781 : decode cL_law 781 = .ok (.iadd, 1) := by decide +kernel
theorem dL_law_782 : decode cL_law 782 = .ok (.iaload, 1) := by decide +kernel
theorem dL_law_783 : decode cL_law 783 = .ok (.invokevirtual 110, 3) := by decide +kernel
theorem dL_law_786 : decode cL_law 786 = .ok (.aload_n 2, 1) := by decide +kernel
theorem dL_law_787 : decode cL_law 787 = .ok (.aload_n 0, 1) := by decide +kernel
theorem dL_law_788 : decode cL_law 788 = .ok (.iload_n 3, 1) := by decide +kernel
theorem dL_law_789 : decode cL_law 789 = .ok (.iconst 1, 1) := by decide +kernel
theorem dL_law_790 : decode cL_law 790 = .ok (.iadd, 1) := by decide +kernel
theorem dL_law_791 : decode cL_law 791 = .ok (.iaload, 1) := by decide +kernel
theorem dL_law_792 : decode cL_law 792 = .ok (.invokevirtual 113, 3) := by decide +kernel
theorem dL_law_795 : decode cL_law 795 = .ok (.if_icmp .eq 28, 3) := by decide +kernel
theorem dL_law_798 : decode cL_law 798 = .ok (.iconst 0, 1) := by decide +kernel
theorem dL_law_799 : decode cL_law 799 = .ok (.ireturn, 1) := by decide +kernel
theorem dL_law_800 : decode cL_law 800 = .ok (.aload_n 1, 1) := by decide +kernel
theorem dL_law_801 : decode cL_law 801 = .ok (.aload_n 0, 1) := by decide +kernel
theorem dL_law_802 : decode cL_law 802 = .ok (.iload_n 3, 1) := by decide +kernel
theorem dL_law_803 : decode cL_law 803 = .ok (.iconst 1, 1) := by decide +kernel
theorem dL_law_804 : decode cL_law 804 = .ok (.iadd, 1) := by decide +kernel
theorem dL_law_805 : decode cL_law 805 = .ok (.iaload, 1) := by decide +kernel
theorem dL_law_806 : decode cL_law 806 = .ok (.invokevirtual 114, 3) := by decide +kernel
theorem dL_law_809 : decode cL_law 809 = .ok (.aload_n 2, 1) := by decide +kernel
theorem dL_law_810 : decode cL_law 810 = .ok (.aload_n 0, 1) := by decide +kernel
theorem dL_law_811 : decode cL_law 811 = .ok (.iload_n 3, 1) := by decide +kernel
theorem dL_law_812 : decode cL_law 812 = .ok (.iconst 1, 1) := by decide +kernel
theorem dL_law_813 : decode cL_law 813 = .ok (.iadd, 1) := by decide +kernel
theorem dL_law_814 : decode cL_law 814 = .ok (.iaload, 1) := by decide +kernel
theorem dL_law_815 : decode cL_law 815 = .ok (.invokevirtual 117, 3) := by decide +kernel
theorem dL_law_818 : decode cL_law 818 = .ok (.if_icmp .eq 5, 3) := by decide +kernel
theorem dL_law_821 : decode cL_law 821 = .ok (.iconst 0, 1) := by decide +kernel
theorem dL_law_822 : decode cL_law 822 = .ok (.ireturn, 1) := by decide +kernel
theorem dL_law_823 : decode cL_law 823 = .ok (.iinc 3 5, 3) := by decide +kernel
theorem dL_law_826 : decode cL_law 826 = .ok (.goto (-808), 3) := by decide +kernel
theorem dL_law_829 : decode cL_law 829 = .ok (.iconst 1, 1) := by decide +kernel
theorem dL_law_830 : decode cL_law 830 = .ok (.ireturn, 1) := by decide +kernel
end
section
/-! the words that all methods share: the good ones of the tables -/
def ALL : List Cond := lw_tbl.filter goodWord
theorem all_in {w : Cond} (i : Nat) (h : lw_tbl[i]? = some w) (hg : goodWord w = true) : w ∈ ALL := List.mem_filter.mpr ⟨List.mem_of_getElem? h, hg⟩
theorem all_hts {args : Array Value} {s : State} (h : ∀ w ∈ lw_tbl, w.before args s = true) : ∀ w ∈ ALL, w.before args s = true := fun w hw => h w (List.mem_filter.mp hw).1
theorem good_sub {ws : List Cond} (h : ∀ w ∈ ws, w ∈ ALL) : GoodIn ALL ws := fun w hw => ⟨h w hw, good_of_word (List.mem_filter.mp (h w hw)).2⟩
theorem sys_words : (Cond.native arraycopyName ∈ ALL ∧ Cond.static arraycopyName ∈ ALL) ∧ Cond.initialized "java/lang/System" ∈ ALL := ⟨⟨(all_in 460 (by decide +kernel) (by decide +kernel)), (all_in 459 (by decide +kernel) (by decide +kernel))⟩, (all_in 45 (by decide +kernel) (by decide +kernel))⟩
theorem math_words : ((Cond.static Lib.Math.max.name ∈ ALL ∧ Cond.code Lib.Math.max.name Lib.Math.max.code 2 (some .int) ∈ ALL) ∧ (Cond.static Lib.Math.min.name ∈ ALL ∧ Cond.code Lib.Math.min.name Lib.Math.min.code 2 (some .int) ∈ ALL)) ∧ (Cond.static Lib.Math.abs.name ∈ ALL ∧ Cond.code Lib.Math.abs.name Lib.Math.abs.code 1 (some .int) ∈ ALL) ∧ Cond.initialized "java/lang/Math" ∈ ALL := ⟨⟨⟨(all_in 436 (by decide +kernel) (by decide +kernel)), (all_in 437 (by decide +kernel) (by decide +kernel))⟩, (all_in 705 (by decide +kernel) (by decide +kernel)), (all_in 706 (by decide +kernel) (by decide +kernel))⟩, ⟨(all_in 557 (by decide +kernel) (by decide +kernel)), (all_in 558 (by decide +kernel) (by decide +kernel))⟩, (all_in 44 (by decide +kernel) (by decide +kernel))⟩
/-! the flat memory: a cell has a place (a number), an int field or element an index; references are places -/
abbrev AV : Type := Int ⊕ Option Nat
abbrev Mem : Type := Nat → Int → Int
abbrev Shp : Type := Nat × Nat × List (Option Nat)
abbrev MD : Type := MethodName × ByteArray × Nat × Option FieldType
abbrev Wd : Type := (Nat → Nat) × va_G × ClassId × ClassId × ClassId
def vI (x : Int) : Value := .int (Int32.ofInt x)
abbrev inR (x : Int) : Prop := -2147483648 ≤ x ∧ x ≤ 2147483647
def okL (l : List AV) : Prop := ∀ x : Int, (Sum.inl x : AV) ∈ l → inR x
def okM (σ : Mem) : Prop := ∀ (c : Nat) (k : Int), inR (σ c k)
def av (Γ : Wd) : AV → Value
  | .inl x => vI x
  | .inr (some c) => .ref (Γ.1 c)
  | .inr none => .null
def shapes : List Shp := [(3, 10, [some 1, some 2, some 3, some 4, some 5, some 6, some 7, some 8, some 9, some 10, some 11, none]), (3, 3, [none, some 12, some 13, some 14, some 15, some 16, some 17, some 18, some 25]), (3, 7, [none, some 26, none, some 27, some 28, some 29, some 30, some 31, some 32]), (3, 4, [none, none, some 33, some 37]), (3, 5, [none, some 41, some 50]), (3, 8, [some 1, some 3]), (3, 9, [some 1, some 2, some 3, some 5, some 51, some 52, none, some 53, some 54, some 55]), (3, 0, [none, none, none, none, some 56]), (3, 2, [none, none]), (3, 1, [none, some 57]), (3, 6, [none, some 58, some 59, some 1, some 2, some 3, some 60, some 61, some 62, some 63]), (0, 6, []), (0, 6, []), (0, 6, []), (0, 6, []), (0, 6, []), (0, 6, []), (0, 6, []), (2, 6, [some 19]), (0, 6, []), (0, 6, []), (0, 6, []), (0, 6, []), (0, 6, []), (0, 6, []), (0, 4, []), (0, 6, []), (0, 12, []), (0, 12, []), (0, 12, []), (0, 12, []), (0, 6, []), (0, 6, []), (2, 3, [some 34]), (0, 6, []), (0, 6, []), (0, 6, []), (2, 3, [some 38]), (0, 6, []), (0, 6, []), (0, 6, []), (2, 8, [some 42]), (0, 6, []), (0, 6, []), (0, 6, []), (0, 6, []), (0, 6, []), (0, 6, []), (0, 6, []), (0, 6, []), (0, 8, []), (0, 6, []), (0, 4, []), (0, 4, []), (0, 6, []), (0, 7, []), (0, 6, []), (1, 4096, []), (0, 6, []), (0, 6, []), (0, 6, []), (0, 64, []), (0, 64, []), (0, 64, []), (3, 11, [none, some 65, some 66, some 67, some 68, some 69, some 70, some 71, some 72, some 73, none, some 74, none, some 75, some 76, some 77, some 78, none, none, some 79, some 80, none, none, some 81, some 82, some 83, some 84, some 85, some 86, some 87, some 88, some 89, none, none, some 90]), (0, 6, []), (0, 6, []), (0, 6, []), (0, 6, []), (0, 6, []), (0, 6, []), (0, 36, []), (0, 6, []), (0, 4, []), (0, 6, []), (0, 12, []), (0, 12, []), (0, 12, []), (0, 12, []), (0, 18, []), (0, 18, []), (0, 8, []), (0, 48, []), (0, 6, []), (0, 6, []), (0, 6, []), (0, 6, []), (0, 6, []), (0, 6, []), (0, 6, []), (1, 4096, [])]
def objF (Γ : Wd) (σ : Mem) (c : Nat) (k : Nat) (q : Option Nat) : Value := match q with | none => vI (σ c (k : Int)) | some r => .ref (Γ.1 r)
def intF (σ : Mem) (c : Nat) : Nat → Int32 := fun j => Int32.ofInt (σ c (j : Int))
def rowF (Γ : Wd) (n b : Nat) : Nat → Option Nat := fun j => if j < n then some (Γ.1 (b + j)) else none
def cellE (Γ : Wd) (σ : Mem) (c : Nat) : Shp → va_E
  | (0, n, _) => .inl (Γ.2.2.1, n, .inl (intF σ c))
  | (1, n, _) => .inl (Γ.2.2.2.1, n, .inl (intF σ c))
  | (2, n, fl) => .inl (Γ.2.2.2.2, n, .inr (.inr (.inr (.inr (rowF Γ n ((fl.headD none).getD 0))))))
  | (_, n, fl) => .inr (n, fl.mapIdx (objF Γ σ c))
def wl (Γ : Wd) (σ : Mem) : va_W := shapes.mapIdx (fun c q => (Γ.1 c, cellE Γ σ c q))
def wr (σ : Mem) (c : Nat) (i v : Int) : Mem := fun c' => if c' = c then (fun j => if j = i then v else σ c j) else σ c'
def cp (σ : Mem) (a : Nat) (sp : Int) (b : Nat) (dp n : Int) : Mem := fun c' => if c' = b then (fun j => if dp ≤ j ∧ j < dp + n then σ a (sp + (j - dp)) else σ b j) else σ c'
theorem wr_ne {σ : Mem} {c c' : Nat} {i v : Int} (h : c' ≠ c) : wr σ c i v c' = σ c' := by simp [wr, h]
theorem wr_eq {σ : Mem} {c : Nat} {i v : Int} : wr σ c i v c i = v := by simp [wr]
theorem wr_at {σ : Mem} {c : Nat} {i v j : Int} : wr σ c i v c j = if j = i then v else σ c j := by simp [wr]
theorem cp_ne {σ : Mem} {a b c' : Nat} {sp dp n : Int} (h : c' ≠ b) : cp σ a sp b dp n c' = σ c' := by simp [cp, h]
theorem cp_at {σ : Mem} {a b : Nat} {sp dp n j : Int} : cp σ a sp b dp n b j = if dp ≤ j ∧ j < dp + n then σ a (sp + (j - dp)) else σ b j := by simp [cp]
theorem wl_at {Γ : Wd} {σ : Mem} {c : Nat} {q : Shp} (h : shapes[c]? = some q) : (wl Γ σ)[c]? = some (Γ.1 c, cellE Γ σ c q) := by
  simp [wl, List.getElem?_mapIdx, h]
theorem wl_obj {Γ : Wd} {σ : Mem} {c ci : Nat} {fl : List (Option Nat)} (h : shapes[c]? = some (3, ci, fl)) : (wl Γ σ)[c]? = some (Γ.1 c, .inr (ci, fl.mapIdx (objF Γ σ c))) := wl_at h
theorem wl_int {Γ : Wd} {σ : Mem} {c n : Nat} (h : shapes[c]? = some (0, n, [])) : (wl Γ σ)[c]? = some (Γ.1 c, .inl (Γ.2.2.1, n, .inl (intF σ c))) := wl_at h
theorem wl_boo {Γ : Wd} {σ : Mem} {c n : Nat} (h : shapes[c]? = some (1, n, [])) : (wl Γ σ)[c]? = some (Γ.1 c, .inl (Γ.2.2.2.1, n, .inl (intF σ c))) := wl_at h
theorem wl_row {Γ : Wd} {σ : Mem} {c n b : Nat} (h : shapes[c]? = some (2, n, [some b])) : (wl Γ σ)[c]? = some (Γ.1 c, .inl (Γ.2.2.2.2, n, .inr (.inr (.inr (.inr (rowF Γ n b)))))) := wl_at h
theorem cellE_congr {Γ : Wd} {σ σ' : Mem} {c : Nat} (q : Shp) (h : σ' c = σ c) : cellE Γ σ' c q = cellE Γ σ c q := by
  obtain ⟨k, n, fl⟩ := q
  match k with
  | 0 =>
    have e : intF σ' c = intF σ c := by funext j; simp only [intF, h]
    simp only [cellE, e]
  | 1 =>
    have e : intF σ' c = intF σ c := by funext j; simp only [intF, h]
    simp only [cellE, e]
  | 2 => simp only [cellE]
  | k + 3 =>
    have e : objF Γ σ' c = objF Γ σ c := by funext k q; simp only [objF, h]
    simp only [cellE, e]
theorem wl_set {Γ : Wd} {σ σ' : Mem} {c : Nat} {q : Shp} {e : va_E} (h : shapes[c]? = some q) (hc : cellE Γ σ' c q = e) (ho : ∀ c', c' ≠ c → σ' c' = σ c') : (wl Γ σ).set c (Γ.1 c, e) = wl Γ σ' := by
  have hlt : c < shapes.length := (List.getElem?_eq_some_iff.mp h).1
  apply List.ext_getElem?
  intro i
  rw [List.getElem?_set]
  by_cases hi : c = i
  · subst hi
    have hl2 : c < (wl Γ σ).length := by simp [wl, hlt]
    rw [if_pos rfl, if_pos hl2, wl_at h, hc]
  · rw [if_neg hi]
    have hne : i ≠ c := fun q => hi q.symm
    simp only [wl, List.getElem?_mapIdx]
    cases hs : shapes[i]? with
    | none => rfl
    | some q' => simp only [Option.map_some, cellE_congr q' (ho i hne)]
theorem wl_D {Γ : Wd} {A : Nat → Prop} {σ : Mem} (h : va_D A (wl Γ σ)) (σ' : Mem) : va_D A (wl Γ σ') := by
  have key : ∀ (i : Nat) (p : Nat × va_E), (wl Γ σ')[i]? = some p → ∃ p', (wl Γ σ)[i]? = some p' ∧ p'.1 = p.1 := by
    intro i p hp
    simp only [wl, List.getElem?_mapIdx] at hp ⊢
    cases hs : shapes[i]? with
    | none => rw [hs] at hp; cases hp
    | some q =>
      rw [hs] at hp
      simp only [Option.map_some, Option.some.injEq] at hp
      exact ⟨_, rfl, by rw [← hp]⟩
  refine ⟨fun i j p q hp hq hpq => ?_, fun k q hq => ?_⟩
  · obtain ⟨p', h1, e1⟩ := key i p hp
    obtain ⟨q', h2, e2⟩ := key j q hq
    exact h.1 i j p' q' h1 h2 (by rw [e1, e2]; exact hpq)
  · obtain ⟨q', h2, e2⟩ := key k q hq
    rw [← e2]
    exact h.2 k q' h2
theorem wl_A {Γ : Wd} {σ : Mem} (σ' : Mem) {sz q : Nat} (h : va_A (wl Γ σ) sz q) : va_A (wl Γ σ') sz q := by
  rcases h with ⟨k, e, hk⟩ | h
  · refine Or.inl ?_
    simp only [wl, List.getElem?_mapIdx] at hk ⊢
    cases hs : shapes[k]? with
    | none => rw [hs] at hk; cases hk
    | some r =>
      rw [hs] at hk
      simp only [Option.map_some, Option.some.injEq, Prod.mk.injEq] at hk
      exact ⟨k, cellE Γ σ' k r, by rw [hs]; simp [hk.1]⟩
  · exact Or.inr h
/-! numbers -/
theorem r_to {x : Int} (h : inR x) : (Int32.ofInt x).toInt = x := Int32.toInt_ofInt_of_le h.1 (by have := h.2; omega)
theorem r_of (x : Int32) : inR x.toInt := ⟨Int32.le_toInt x, by have := Int32.toInt_lt x; omega⟩
theorem r_lt {a b : Int} (ha : inR a) (hb : inR b) : Int32.ofInt a < Int32.ofInt b ↔ a < b := by rw [Int32.lt_iff_toInt_lt, r_to ha, r_to hb]
theorem r_le {a b : Int} (ha : inR a) (hb : inR b) : Int32.ofInt a ≤ Int32.ofInt b ↔ a ≤ b := by rw [Int32.le_iff_toInt_le, r_to ha, r_to hb]
theorem r_eq {a b : Int} (ha : inR a) (hb : inR b) : Int32.ofInt a = Int32.ofInt b ↔ a = b := by rw [← Int32.toInt_inj, r_to ha, r_to hb]
theorem r_0 : inR 0 := ⟨by decide, by decide⟩
theorem r_in {i : Int} {n : Nat} (h0 : 0 ≤ i) (h1 : i < n) (hr : inR i) : vp_in (Int32.ofInt i) n := by rw [vp_in_iff, r_to hr]; exact ⟨h0, h1⟩
theorem r_cl {i : Int} (hr : inR i) : (Int32.ofInt i).toNatClampNeg = i.toNat := by rw [← Int32.toNat_toInt, r_to hr]
def band (a b : Int) : Int := (Int32.ofInt a &&& Int32.ofInt b).toInt
def bor (a b : Int) : Int := (Int32.ofInt a ||| Int32.ofInt b).toInt
def bxor (a b : Int) : Int := (Int32.ofInt a ^^^ Int32.ofInt b).toInt
def bshl (a b : Int) : Int := (Int32.ofInt a <<< (Int32.ofInt b &&& 31)).toInt
def bshr (a b : Int) : Int := (Int32.ofInt a >>> (Int32.ofInt b &&& 31)).toInt
theorem okL_cons {x : AV} {l : List AV} (h : ∀ z : Int, x = .inl z → inR z) (hl : okL l) : okL (x :: l) := fun z hz => (List.mem_cons.mp hz).elim (fun e => h z e.symm) (fun e => hl z e)
theorem okL_i {x : Int} {l : List AV} (h : inR x) (hl : okL l) : okL (.inl x :: l) := okL_cons (fun z e => by cases e; exact h) hl
theorem okL_r {c : Option Nat} {l : List AV} (hl : okL l) : okL (.inr c :: l) := okL_cons (fun z e => by cases e) hl
theorem okL_t {x : AV} {l : List AV} (h : okL (x :: l)) : okL l := fun z hz => h z (List.mem_cons_of_mem _ hz)
theorem okL_h {x : Int} {l : List AV} (h : okL (.inl x :: l)) : inR x := h x List.mem_cons_self
theorem okL_set {l : List AV} {x : AV} (i : Nat) (h : ∀ z : Int, x = .inl z → inR z) (hl : okL l) : okL (l.set i x) := fun z hz => (List.mem_or_eq_of_mem_set hz).elim (fun e => hl z e) (fun e => h z e.symm)
theorem okL_get {l : List AV} {x : Int} {i : Nat} (hl : okL l) (h : l[i]? = some (.inl x)) : inR x := hl x (List.mem_of_getElem? h)
theorem okM_wr {σ : Mem} {c : Nat} {i v : Int} (h : okM σ) (hv : inR v) : okM (wr σ c i v) := fun c' k => by
  unfold wr
  by_cases h1 : c' = c
  · rw [if_pos h1]
    by_cases h2 : k = i
    · simp only [h2, if_true]; exact hv
    · simp only [h2, if_false]; exact h c k
  · rw [if_neg h1]; exact h c' k
theorem okM_cp {σ : Mem} {a b : Nat} {sp dp n : Int} (h : okM σ) : okM (cp σ a sp b dp n) := fun c' k => by
  unfold cp
  by_cases h1 : c' = b
  · rw [if_pos h1]
    by_cases h2 : dp ≤ k ∧ k < dp + n
    · simp only [h2, and_self, if_true]; exact h _ _
    · simp only [h2, if_false]; exact h _ _
  · rw [if_neg h1]; exact h c' k
/-! locals -/
def Lh (Γ : Wd) (lsA : Array Slot) (nL : Nat) (ls : List AV) : Prop := lsA.size = nL ∧ lv_wf lsA ∧ ∀ (i : Nat) (v : AV), ls[i]? = some v → v ≠ .inr none → lsA[i]? = some (.val (av Γ v))
theorem Lh.get {Γ : Wd} {lsA : Array Slot} {nL : Nat} {ls : List AV} (h : Lh Γ lsA nL ls) {i : Nat} {v : AV} (hv : ls[i]? = some v) (hn : v ≠ .inr none) : lsA[i]? = some (.val (av Γ v)) := h.2.2 i v hv hn
def lvl (Γ : Wd) (ls : List AV) : List (Nat × Value) := (List.range ls.length).filterMap (fun i => match (ls[i]? : Option AV) with | some (Sum.inl x) => some (i, vI x) | some (Sum.inr (some c)) => some (i, Value.ref (Γ.1 c)) | _ => none)
theorem lvl_mem {Γ : Wd} {ls : List AV} {i : Nat} {v : AV} (hv : ls[i]? = some v) (hn : v ≠ .inr none) : (i, av Γ v) ∈ lvl Γ ls := by
  have hlt : i < ls.length := (List.getElem?_eq_some_iff.mp hv).1
  refine List.mem_filterMap.mpr ⟨i, List.mem_range.mpr hlt, ?_⟩
  rw [hv]
  match v, hn with
  | .inl x, _ => rfl
  | .inr (some c), _ => rfl
  | .inr none, hn => exact absurd rfl hn
theorem lvl_of {Γ : Wd} {ls : List AV} {q : Nat × Value} (h : q ∈ lvl Γ ls) : ∃ v, ls[q.1]? = some v ∧ v ≠ .inr none ∧ av Γ v = q.2 := by
  obtain ⟨i, -, hi⟩ := List.mem_filterMap.mp h
  match hls : ls[i]? with
  | some (.inl x) => rw [hls] at hi; simp only [Option.some.injEq] at hi; subst hi; exact ⟨_, hls, by simp, rfl⟩
  | some (.inr (some c)) => rw [hls] at hi; simp only [Option.some.injEq] at hi; subst hi; exact ⟨_, hls, by simp, rfl⟩
  | some (.inr none) => rw [hls] at hi; cases hi
  | none => rw [hls] at hi; cases hi
theorem Lh.has {Γ : Wd} {lsA : Array Slot} {nL : Nat} {ls : List AV} (h : Lh Γ lsA nL ls) : lv_has lsA nL (lvl Γ ls) := ⟨h.1, h.2.1, fun q hq => by
  obtain ⟨v, h1, h2, h3⟩ := lvl_of hq
  rw [← h3]
  exact h.2.2 q.1 v h1 h2⟩
theorem av_cat (Γ : Wd) (v : AV) : (av Γ v).category = 1 := by
  match v with
  | .inl x => rfl
  | .inr (some c) => rfl
  | .inr none => rfl
theorem Lh.set {Γ : Wd} {lsA' : Array Slot} {nL : Nat} {ls : List AV} {i : Nat} {x : AV} (hh : lv_has lsA' nL ((i, av Γ x) :: (lvl Γ ls).filter (fun q => !(q.1 == i) && !(q.1 + 1 == i && q.2.category == 2)))) : Lh Γ lsA' nL (ls.set i x) := by
  refine ⟨hh.1, hh.2.1, fun j v hv hn => ?_⟩
  by_cases hj : j = i
  · subst hj
    have hlt : j < ls.length := by
      have := (List.getElem?_eq_some_iff.mp hv).1
      simpa using this
    rw [List.getElem?_set_self hlt] at hv
    cases hv
    exact hh.2.2 (j, av Γ x) List.mem_cons_self
  · rw [List.getElem?_set_ne (fun q => hj q.symm)] at hv
    refine hh.2.2 (j, av Γ v) (List.mem_cons_of_mem _ (List.mem_filter.mpr ⟨lvl_mem hv hn, ?_⟩))
    simp [hj, av_cat]
/-! the judgement -/
abbrev nGoalH : MethodName := ⟨"NearPlans$Goal", "isHopeless", "(III)Z"⟩
abbrev nGoalR : MethodName := ⟨"NearPlans$Goal", "reach", "([IIII)V"⟩
abbrev tysG (Γ : Wd) : List (ClassId × FieldType) := [(Γ.2.2.1, .int), (Γ.2.2.2.1, .boolean), (Γ.2.2.2.2, .array .int)]
def KK (Γ : Wd) (U : State) : Prop := va_K Γ.2.1 vwCl (tysG Γ) U ∧ va_Nw (.declares nGoalH) U ∧ va_Nw (.declares nGoalR) U
abbrev rmOf (d : Nat) : Room := { frames := d, cells := 0, slots := 0, locals := 64 * d }
def Fx (Γ : Wd) (M : MD) (A : Nat → Prop) (p : Program) (s : State) (m : MethodId) (args : Array Value) (meth : Method) (c : Code) : Prop :=
  p.tables.exec = Jvm.exec ∧ c.code = M.2.1 ∧ c.maxLocals = M.2.2.1 ∧ meth.sig.returnType = M.2.2.2 ∧ s.vm.findClass M.1.cls = some m.cls ∧ (∀ w ∈ ALL, w.before args s = true) ∧ meth.locks = false ∧ KK Γ s ∧ (∀ σ, va_D A (wl Γ σ)) ∧ (∀ q, s.heap.size ≤ q → A q)
def Qc (Γ : Wd) (A : Nat → Prop) (Q : Option Int → Mem → Prop) : Array Value → State → Outcome → State → Prop := fun _ st oc t =>
  (∃ (r : Option Int) (σ' : Mem), oc = .returned (r.map vI) ∧ Q r σ' ∧ okM σ' ∧ (∀ x, r = some x → inR x) ∧ va_P Γ.2.1 vwCl (wl Γ σ') t.heap) ∧ va_F A st t
def V (M : MD) (d : Nat) (Q : Option Int → Mem → Prop) (pc : Nat) (ls st : List AV) (σ : Mem) : Prop :=
  okL ls → okL st → okM σ → ∀ (Γ : Wd) (A : Nat → Prop) (p : Program) (l : Launch) (e : Env) (s : State) (m : MethodId) (args : Array Value) (below : List Frame) (meth : Method) (c : Code), Fx Γ M A p s m args meth c → ∀ (H : Heap) (locs : List Loc) (lsA : Array Slot), va_P Γ.2.1 vwCl (wl Γ σ) H → va_S A s.heap H locs → Lh Γ lsA M.2.2.1 ls →
    W p l e (rmOf d) s m args below meth c H locs 0 0 (MQ below (Qc Γ A Q) args s 0 0 A) (F0 m pc lsA (st.map (av Γ)))
def wsM (M : MD) : List Cond := .code M.1 M.2.1 M.2.2.1 M.2.2.2 :: ALL
def Pcc (Γ : Wd) (vs : List AV) (sz : Nat) (σ : Mem) : Array Value → State → Prop := va_Pc (vs.map (av Γ)) (fun U => U.heap.size = sz ∧ va_P Γ.2.1 vwCl (wl Γ σ) U.heap ∧ KK Γ U ∧ va_D (fun _ => True) (wl Γ σ))
def Run (M : MD) (d : Nat) (vs : List AV) (σ : Mem) (Q : Option Int → Mem → Prop) : Prop :=
  okL vs → okM σ → ∀ (l : Launch) (Γ : Wd) (sz : Nat), Met l M.1 (wsM M) (rmOf d) (Pcc Γ vs sz σ) (Qc Γ (va_A (wl Γ σ) sz) Q) 0 0 (va_A (wl Γ σ) sz)
def RI (K : Int → Mem → Prop) : Option Int → Mem → Prop := fun r σ => ∃ x, r = some x ∧ K x σ
def RV (K : Mem → Prop) : Option Int → Mem → Prop := fun r σ => r = none ∧ K σ
theorem Lh.entry (Γ : Wd) (vs : List AV) (n : Nat) (ls : List AV) (hn : vs.length ≤ n) (hs : ls = vs ++ List.replicate (n - vs.length) (.inr none)) : Lh Γ ((lg_sl (vs.map (av Γ)) ++ List.replicate (n - (lg_sl (vs.map (av Γ))).length) Slot.unset).toArray) n ls := by
  have e : ∀ l : List AV, lg_sl (l.map (av Γ)) = l.map (fun v => Slot.val (av Γ v)) := by
    intro l
    induction l with
    | nil => rfl
    | cons a l ih =>
      show (if (av Γ a).category = 2 then _ else _) ++ lg_sl (l.map (av Γ)) = _
      rw [ih, av_cat]
      rfl
  have hlen : (lg_sl (vs.map (av Γ))).length = vs.length := by rw [e]; simp
  have h0 := lv_entry (vs.map (av Γ)) (n := n) (by rw [hlen]; exact hn)
  refine ⟨h0.1, h0.2.1, fun i v hv hne => ?_⟩
  subst hs
  have hlt : i < vs.length := by
    by_cases h : i < vs.length
    · exact h
    · rw [List.getElem?_append_right (by omega)] at hv
      rw [List.getElem?_replicate] at hv
      split at hv
      · cases hv; exact absurd rfl hne
      · cases hv
  rw [List.getElem?_append_left hlt] at hv
  simp only [List.getElem?_toArray]
  rw [List.getElem?_append_left (by rw [hlen]; exact hlt), e, List.getElem?_map, hv]
  rfl
theorem Run_of {M : MD} {d : Nat} {vs ls : List AV} {σ : Mem} {Q : Option Int → Mem → Prop} (hy : plainName M.1.cls = true) (hn : vs.length ≤ M.2.2.1) (hs : ls = vs ++ List.replicate (M.2.2.1 - vs.length) (.inr none)) (h : V M d Q 0 ls [] σ) : Run M d vs σ Q := by
  intro ov om l Γ sz
  refine Met.ofW (cc := M.2.1) (maxL := M.2.2.1) (ret := M.2.2.2) hy rfl ?_
  intro p e s m args below meth c s₁ B hml hv
  obtain ⟨rfl, hsz, hP, hK, hD0⟩ := hv
  have hts := atoms_spec (ws := wsM M) B.pre
  subst hsz
  have hD := hD0.self (sz := s.heap.size)
  rw [lg_entry_eq]
  have ols : okL ls := by
    rw [hs]
    intro z hz
    rcases List.mem_append.mp hz with h | h
    · exact ov z h
    · have := List.eq_of_mem_replicate h
      cases this
  refine h ols (fun z hz => by cases hz) om Γ (va_A (wl Γ σ) s.heap.size) p l e s m _ below meth c ⟨B.exec, B.bytes, hml, B.returns, findClass_of_methodNamed B.named, fun w hw => hts w (List.mem_cons_of_mem _ hw), B.notSynchronized, hK, fun σ' => wl_D hD σ', fun q h => Or.inr h⟩ s.heap [] _ hP va_S.rf (Lh.entry Γ vs _ ls hn hs)
theorem V_mono {M : MD} {d : Nat} {Q Q' : Option Int → Mem → Prop} {pc : Nat} {ls st : List AV} {σ : Mem} (hq : ∀ r σ', Q r σ' → Q' r σ') (h : V M d Q pc ls st σ) : V M d Q' pc ls st σ := by
  intro ol os om Γ A p l e s m args below meth c fx H locs lsA hP hS hL T hT X
  obtain ⟨t, h1, o, h2, h3, ⟨⟨r, σ', e1, e2, e3⟩, h4⟩, h5⟩ := h ol os om Γ A p l e s m args below meth c fx H locs lsA hP hS hL T hT X
  exact ⟨t, h1, o, h2, h3, ⟨⟨r, σ', e1, hq r σ' e2, e3⟩, h4⟩, h5⟩
/-- the numbers at hand are in range -/
theorem V_rng {M : MD} {d : Nat} {Q : Option Int → Mem → Prop} {pc : Nat} {ls st : List AV} {σ : Mem} (h : okL ls → okL st → okM σ → V M d Q pc ls st σ) : V M d Q pc ls st σ := fun ol os om => h ol os om ol os om
theorem Run_rng {M : MD} {d : Nat} {Q : Option Int → Mem → Prop} {vs : List AV} {σ : Mem} (h : okL vs → okM σ → Run M d vs σ Q) : Run M d vs σ Q := fun ol om => h ol om ol om
/-! the rows: constants and locals -/
theorem v_iconst {M : MD} {d : Nat} {Q : Option Int → Mem → Prop} {pc : Nat} {ls st : List AV} {σ : Mem} (pc' : Nat) {n : Int} (hdg : decode M.2.1 pc = .ok (.iconst n, 1)) (hq : pc + 1 = pc') (hv : Int32.ofInt n = Int32.ofInt n ∧ inR n) (k : V M d Q pc' ls (.inl n :: st) σ) : V M d Q pc ls st σ := by
  intro ol os om Γ A p l e s m args below meth c fx H locs lsA hP hS hL
  have fx0 := fx
  obtain ⟨hx, hb, hml, hr, hown, hts, hlk, hK, hD, hA⟩ := fx0
  subst hq
  exact lv_iconst hx hb hdg hv.1 (k ol (okL_i hv.2 os) om Γ A p l e s m args below meth c fx H locs lsA hP hS hL)
theorem v_bipush {M : MD} {d : Nat} {Q : Option Int → Mem → Prop} {pc : Nat} {ls st : List AV} {σ : Mem} (pc' : Nat) {n : Int} (hdg : decode M.2.1 pc = .ok (.bipush n, 2)) (hq : pc + 2 = pc') (hv : (Int8.ofInt n).toInt32 = Int32.ofInt n ∧ inR n) (k : V M d Q pc' ls (.inl n :: st) σ) : V M d Q pc ls st σ := by
  intro ol os om Γ A p l e s m args below meth c fx H locs lsA hP hS hL
  have fx0 := fx
  obtain ⟨hx, hb, hml, hr, hown, hts, hlk, hK, hD, hA⟩ := fx0
  subst hq
  exact lv_bipush hx hb hdg hv.1 (k ol (okL_i hv.2 os) om Γ A p l e s m args below meth c fx H locs lsA hP hS hL)
theorem v_sipush {M : MD} {d : Nat} {Q : Option Int → Mem → Prop} {pc : Nat} {ls st : List AV} {σ : Mem} (pc' : Nat) {n : Int} (hdg : decode M.2.1 pc = .ok (.sipush n, 3)) (hq : pc + 3 = pc') (hv : (Int16.ofInt n).toInt32 = Int32.ofInt n ∧ inR n) (k : V M d Q pc' ls (.inl n :: st) σ) : V M d Q pc ls st σ := by
  intro ol os om Γ A p l e s m args below meth c fx H locs lsA hP hS hL
  have fx0 := fx
  obtain ⟨hx, hb, hml, hr, hown, hts, hlk, hK, hD, hA⟩ := fx0
  subst hq
  exact lv_sipush hx hb hdg hv.1 (k ol (okL_i hv.2 os) om Γ A p l e s m args below meth c fx H locs lsA hP hS hL)
theorem v_iload0 {M : MD} {d : Nat} {Q : Option Int → Mem → Prop} {pc : Nat} {r st : List AV} {σ : Mem} {x : Int} (pc' : Nat) (hdg : decode M.2.1 pc = .ok (.iload_n 0, 1)) (hq : pc + 1 = pc') (k : V M d Q pc' ((.inl x) :: r) (.inl x :: st) σ) : V M d Q pc ((.inl x) :: r) st σ := by
  intro ol os om Γ A p l e s m args below meth c fx H locs lsA hP hS hL
  have fx0 := fx
  obtain ⟨hx, hb, hml, hr, hown, hts, hlk, hK, hD, hA⟩ := fx0
  subst hq
  exact lv_iload_n hx hb hdg rfl (hL.get (i := 0) rfl (by simp)) (k ol (okL_i (okL_get ol (i := 0) rfl) os) om Γ A p l e s m args below meth c fx H locs lsA hP hS hL)
theorem v_istore0 {M : MD} {d : Nat} {Q : Option Int → Mem → Prop} {pc : Nat} {r st : List AV} {σ : Mem} {o0 : AV} {x : Int} (pc' : Nat) (hdg : decode M.2.1 pc = .ok (.istore_n 0, 1)) (hq : pc + 1 = pc') (hn : 0 < M.2.2.1) (k : V M d Q pc' ((.inl x) :: r) st σ) : V M d Q pc (o0 :: r) (.inl x :: st) σ := by
  intro ol os om Γ A p l e s m args below meth c fx H locs lsA hP hS hL
  have fx0 := fx
  obtain ⟨hx, hb, hml, hr, hown, hts, hlk, hK, hD, hA⟩ := fx0
  subst hq
  exact lv_istore_n hx hb hdg rfl hL.has hn rfl (fun ls' h' => k (okL_set (l := o0 :: r) (x := .inl x) 0 (fun z e => by cases e; exact okL_h os) ol) (okL_t os) om Γ A p l e s m args below meth c fx H locs ls' hP hS (Lh.set (x := .inl x) h'))
theorem v_aload0 {M : MD} {d : Nat} {Q : Option Int → Mem → Prop} {pc : Nat} {r st : List AV} {σ : Mem} {x : Nat} (pc' : Nat) (hdg : decode M.2.1 pc = .ok (.aload_n 0, 1)) (hq : pc + 1 = pc') (k : V M d Q pc' ((.inr (some x)) :: r) (.inr (some x) :: st) σ) : V M d Q pc ((.inr (some x)) :: r) st σ := by
  intro ol os om Γ A p l e s m args below meth c fx H locs lsA hP hS hL
  have fx0 := fx
  obtain ⟨hx, hb, hml, hr, hown, hts, hlk, hK, hD, hA⟩ := fx0
  subst hq
  exact lv_aload_n hx hb hdg rfl (hL.get (i := 0) rfl (by simp)) (k ol (okL_r os) om Γ A p l e s m args below meth c fx H locs lsA hP hS hL)
theorem v_astore0 {M : MD} {d : Nat} {Q : Option Int → Mem → Prop} {pc : Nat} {r st : List AV} {σ : Mem} {o0 : AV} {x : Nat} (pc' : Nat) (hdg : decode M.2.1 pc = .ok (.astore_n 0, 1)) (hq : pc + 1 = pc') (hn : 0 < M.2.2.1) (k : V M d Q pc' ((.inr (some x)) :: r) st σ) : V M d Q pc (o0 :: r) (.inr (some x) :: st) σ := by
  intro ol os om Γ A p l e s m args below meth c fx H locs lsA hP hS hL
  have fx0 := fx
  obtain ⟨hx, hb, hml, hr, hown, hts, hlk, hK, hD, hA⟩ := fx0
  subst hq
  exact lv_astore_n hx hb hdg rfl hL.has hn rfl (fun ls' h' => k (okL_set (l := o0 :: r) (x := .inr (some x)) 0 (fun z e => by cases e) ol) (okL_t os) om Γ A p l e s m args below meth c fx H locs ls' hP hS (Lh.set (x := .inr (some x)) h'))
theorem v_iinc0 {M : MD} {d : Nat} {Q : Option Int → Mem → Prop} {pc : Nat} {r st : List AV} {σ : Mem} {x v : Int} (pc' : Nat) {n : Int} (hdg : decode M.2.1 pc = .ok (.iinc 0 n, 3)) (hq : pc + 3 = pc') (hn : 0 < M.2.2.1) (hv : x + n = v) (hr0 : inR v) (k : V M d Q pc' ((.inl v) :: r) st σ) : V M d Q pc ((.inl x) :: r) st σ := by
  intro ol os om Γ A p l e s m args below meth c fx H locs lsA hP hS hL
  have fx0 := fx
  obtain ⟨hx, hb, hml, hr, hown, hts, hlk, hK, hD, hA⟩ := fx0
  subst hq
  obtain ⟨k0, hk0⟩ := List.getElem?_of_mem (lvl_mem (Γ := Γ) (ls := (.inl x) :: r) (i := 0) (v := .inl x) rfl (by simp))
  exact lv_iinc (v := Int32.ofInt v) hx hb hdg hL.has hk0 (by rw [← Int32.ofInt_add, hv]) hn rfl (fun ls' h' => k (okL_set (l := (.inl x) :: r) (x := .inl v) 0 (fun z e => by cases e; exact hr0) ol) os om Γ A p l e s m args below meth c fx H locs ls' hP hS (Lh.set (x := .inl v) h'))
theorem v_iload1 {M : MD} {d : Nat} {Q : Option Int → Mem → Prop} {pc : Nat} {r st : List AV} {σ : Mem} {x0 : AV} {x : Int} (pc' : Nat) (hdg : decode M.2.1 pc = .ok (.iload_n 1, 1)) (hq : pc + 1 = pc') (k : V M d Q pc' (x0 :: (.inl x) :: r) (.inl x :: st) σ) : V M d Q pc (x0 :: (.inl x) :: r) st σ := by
  intro ol os om Γ A p l e s m args below meth c fx H locs lsA hP hS hL
  have fx0 := fx
  obtain ⟨hx, hb, hml, hr, hown, hts, hlk, hK, hD, hA⟩ := fx0
  subst hq
  exact lv_iload_n hx hb hdg rfl (hL.get (i := 1) rfl (by simp)) (k ol (okL_i (okL_get ol (i := 1) rfl) os) om Γ A p l e s m args below meth c fx H locs lsA hP hS hL)
theorem v_istore1 {M : MD} {d : Nat} {Q : Option Int → Mem → Prop} {pc : Nat} {r st : List AV} {σ : Mem} {x0 : AV} {o0 : AV} {x : Int} (pc' : Nat) (hdg : decode M.2.1 pc = .ok (.istore_n 1, 1)) (hq : pc + 1 = pc') (hn : 1 < M.2.2.1) (k : V M d Q pc' (x0 :: (.inl x) :: r) st σ) : V M d Q pc (x0 :: o0 :: r) (.inl x :: st) σ := by
  intro ol os om Γ A p l e s m args below meth c fx H locs lsA hP hS hL
  have fx0 := fx
  obtain ⟨hx, hb, hml, hr, hown, hts, hlk, hK, hD, hA⟩ := fx0
  subst hq
  exact lv_istore_n hx hb hdg rfl hL.has hn rfl (fun ls' h' => k (okL_set (l := x0 :: o0 :: r) (x := .inl x) 1 (fun z e => by cases e; exact okL_h os) ol) (okL_t os) om Γ A p l e s m args below meth c fx H locs ls' hP hS (Lh.set (x := .inl x) h'))
theorem v_aload1 {M : MD} {d : Nat} {Q : Option Int → Mem → Prop} {pc : Nat} {r st : List AV} {σ : Mem} {x0 : AV} {x : Nat} (pc' : Nat) (hdg : decode M.2.1 pc = .ok (.aload_n 1, 1)) (hq : pc + 1 = pc') (k : V M d Q pc' (x0 :: (.inr (some x)) :: r) (.inr (some x) :: st) σ) : V M d Q pc (x0 :: (.inr (some x)) :: r) st σ := by
  intro ol os om Γ A p l e s m args below meth c fx H locs lsA hP hS hL
  have fx0 := fx
  obtain ⟨hx, hb, hml, hr, hown, hts, hlk, hK, hD, hA⟩ := fx0
  subst hq
  exact lv_aload_n hx hb hdg rfl (hL.get (i := 1) rfl (by simp)) (k ol (okL_r os) om Γ A p l e s m args below meth c fx H locs lsA hP hS hL)
theorem v_astore1 {M : MD} {d : Nat} {Q : Option Int → Mem → Prop} {pc : Nat} {r st : List AV} {σ : Mem} {x0 : AV} {o0 : AV} {x : Nat} (pc' : Nat) (hdg : decode M.2.1 pc = .ok (.astore_n 1, 1)) (hq : pc + 1 = pc') (hn : 1 < M.2.2.1) (k : V M d Q pc' (x0 :: (.inr (some x)) :: r) st σ) : V M d Q pc (x0 :: o0 :: r) (.inr (some x) :: st) σ := by
  intro ol os om Γ A p l e s m args below meth c fx H locs lsA hP hS hL
  have fx0 := fx
  obtain ⟨hx, hb, hml, hr, hown, hts, hlk, hK, hD, hA⟩ := fx0
  subst hq
  exact lv_astore_n hx hb hdg rfl hL.has hn rfl (fun ls' h' => k (okL_set (l := x0 :: o0 :: r) (x := .inr (some x)) 1 (fun z e => by cases e) ol) (okL_t os) om Γ A p l e s m args below meth c fx H locs ls' hP hS (Lh.set (x := .inr (some x)) h'))
theorem v_iinc1 {M : MD} {d : Nat} {Q : Option Int → Mem → Prop} {pc : Nat} {r st : List AV} {σ : Mem} {x0 : AV} {x v : Int} (pc' : Nat) {n : Int} (hdg : decode M.2.1 pc = .ok (.iinc 1 n, 3)) (hq : pc + 3 = pc') (hn : 1 < M.2.2.1) (hv : x + n = v) (hr0 : inR v) (k : V M d Q pc' (x0 :: (.inl v) :: r) st σ) : V M d Q pc (x0 :: (.inl x) :: r) st σ := by
  intro ol os om Γ A p l e s m args below meth c fx H locs lsA hP hS hL
  have fx0 := fx
  obtain ⟨hx, hb, hml, hr, hown, hts, hlk, hK, hD, hA⟩ := fx0
  subst hq
  obtain ⟨k0, hk0⟩ := List.getElem?_of_mem (lvl_mem (Γ := Γ) (ls := x0 :: (.inl x) :: r) (i := 1) (v := .inl x) rfl (by simp))
  exact lv_iinc (v := Int32.ofInt v) hx hb hdg hL.has hk0 (by rw [← Int32.ofInt_add, hv]) hn rfl (fun ls' h' => k (okL_set (l := x0 :: (.inl x) :: r) (x := .inl v) 1 (fun z e => by cases e; exact hr0) ol) os om Γ A p l e s m args below meth c fx H locs ls' hP hS (Lh.set (x := .inl v) h'))
theorem v_iload2 {M : MD} {d : Nat} {Q : Option Int → Mem → Prop} {pc : Nat} {r st : List AV} {σ : Mem} {x0 x1 : AV} {x : Int} (pc' : Nat) (hdg : decode M.2.1 pc = .ok (.iload_n 2, 1)) (hq : pc + 1 = pc') (k : V M d Q pc' (x0 :: x1 :: (.inl x) :: r) (.inl x :: st) σ) : V M d Q pc (x0 :: x1 :: (.inl x) :: r) st σ := by
  intro ol os om Γ A p l e s m args below meth c fx H locs lsA hP hS hL
  have fx0 := fx
  obtain ⟨hx, hb, hml, hr, hown, hts, hlk, hK, hD, hA⟩ := fx0
  subst hq
  exact lv_iload_n hx hb hdg rfl (hL.get (i := 2) rfl (by simp)) (k ol (okL_i (okL_get ol (i := 2) rfl) os) om Γ A p l e s m args below meth c fx H locs lsA hP hS hL)
theorem v_istore2 {M : MD} {d : Nat} {Q : Option Int → Mem → Prop} {pc : Nat} {r st : List AV} {σ : Mem} {x0 x1 : AV} {o0 : AV} {x : Int} (pc' : Nat) (hdg : decode M.2.1 pc = .ok (.istore_n 2, 1)) (hq : pc + 1 = pc') (hn : 2 < M.2.2.1) (k : V M d Q pc' (x0 :: x1 :: (.inl x) :: r) st σ) : V M d Q pc (x0 :: x1 :: o0 :: r) (.inl x :: st) σ := by
  intro ol os om Γ A p l e s m args below meth c fx H locs lsA hP hS hL
  have fx0 := fx
  obtain ⟨hx, hb, hml, hr, hown, hts, hlk, hK, hD, hA⟩ := fx0
  subst hq
  exact lv_istore_n hx hb hdg rfl hL.has hn rfl (fun ls' h' => k (okL_set (l := x0 :: x1 :: o0 :: r) (x := .inl x) 2 (fun z e => by cases e; exact okL_h os) ol) (okL_t os) om Γ A p l e s m args below meth c fx H locs ls' hP hS (Lh.set (x := .inl x) h'))
theorem v_aload2 {M : MD} {d : Nat} {Q : Option Int → Mem → Prop} {pc : Nat} {r st : List AV} {σ : Mem} {x0 x1 : AV} {x : Nat} (pc' : Nat) (hdg : decode M.2.1 pc = .ok (.aload_n 2, 1)) (hq : pc + 1 = pc') (k : V M d Q pc' (x0 :: x1 :: (.inr (some x)) :: r) (.inr (some x) :: st) σ) : V M d Q pc (x0 :: x1 :: (.inr (some x)) :: r) st σ := by
  intro ol os om Γ A p l e s m args below meth c fx H locs lsA hP hS hL
  have fx0 := fx
  obtain ⟨hx, hb, hml, hr, hown, hts, hlk, hK, hD, hA⟩ := fx0
  subst hq
  exact lv_aload_n hx hb hdg rfl (hL.get (i := 2) rfl (by simp)) (k ol (okL_r os) om Γ A p l e s m args below meth c fx H locs lsA hP hS hL)
theorem v_astore2 {M : MD} {d : Nat} {Q : Option Int → Mem → Prop} {pc : Nat} {r st : List AV} {σ : Mem} {x0 x1 : AV} {o0 : AV} {x : Nat} (pc' : Nat) (hdg : decode M.2.1 pc = .ok (.astore_n 2, 1)) (hq : pc + 1 = pc') (hn : 2 < M.2.2.1) (k : V M d Q pc' (x0 :: x1 :: (.inr (some x)) :: r) st σ) : V M d Q pc (x0 :: x1 :: o0 :: r) (.inr (some x) :: st) σ := by
  intro ol os om Γ A p l e s m args below meth c fx H locs lsA hP hS hL
  have fx0 := fx
  obtain ⟨hx, hb, hml, hr, hown, hts, hlk, hK, hD, hA⟩ := fx0
  subst hq
  exact lv_astore_n hx hb hdg rfl hL.has hn rfl (fun ls' h' => k (okL_set (l := x0 :: x1 :: o0 :: r) (x := .inr (some x)) 2 (fun z e => by cases e) ol) (okL_t os) om Γ A p l e s m args below meth c fx H locs ls' hP hS (Lh.set (x := .inr (some x)) h'))
theorem v_iinc2 {M : MD} {d : Nat} {Q : Option Int → Mem → Prop} {pc : Nat} {r st : List AV} {σ : Mem} {x0 x1 : AV} {x v : Int} (pc' : Nat) {n : Int} (hdg : decode M.2.1 pc = .ok (.iinc 2 n, 3)) (hq : pc + 3 = pc') (hn : 2 < M.2.2.1) (hv : x + n = v) (hr0 : inR v) (k : V M d Q pc' (x0 :: x1 :: (.inl v) :: r) st σ) : V M d Q pc (x0 :: x1 :: (.inl x) :: r) st σ := by
  intro ol os om Γ A p l e s m args below meth c fx H locs lsA hP hS hL
  have fx0 := fx
  obtain ⟨hx, hb, hml, hr, hown, hts, hlk, hK, hD, hA⟩ := fx0
  subst hq
  obtain ⟨k0, hk0⟩ := List.getElem?_of_mem (lvl_mem (Γ := Γ) (ls := x0 :: x1 :: (.inl x) :: r) (i := 2) (v := .inl x) rfl (by simp))
  exact lv_iinc (v := Int32.ofInt v) hx hb hdg hL.has hk0 (by rw [← Int32.ofInt_add, hv]) hn rfl (fun ls' h' => k (okL_set (l := x0 :: x1 :: (.inl x) :: r) (x := .inl v) 2 (fun z e => by cases e; exact hr0) ol) os om Γ A p l e s m args below meth c fx H locs ls' hP hS (Lh.set (x := .inl v) h'))
theorem v_iload3 {M : MD} {d : Nat} {Q : Option Int → Mem → Prop} {pc : Nat} {r st : List AV} {σ : Mem} {x0 x1 x2 : AV} {x : Int} (pc' : Nat) (hdg : decode M.2.1 pc = .ok (.iload_n 3, 1)) (hq : pc + 1 = pc') (k : V M d Q pc' (x0 :: x1 :: x2 :: (.inl x) :: r) (.inl x :: st) σ) : V M d Q pc (x0 :: x1 :: x2 :: (.inl x) :: r) st σ := by
  intro ol os om Γ A p l e s m args below meth c fx H locs lsA hP hS hL
  have fx0 := fx
  obtain ⟨hx, hb, hml, hr, hown, hts, hlk, hK, hD, hA⟩ := fx0
  subst hq
  exact lv_iload_n hx hb hdg rfl (hL.get (i := 3) rfl (by simp)) (k ol (okL_i (okL_get ol (i := 3) rfl) os) om Γ A p l e s m args below meth c fx H locs lsA hP hS hL)
theorem v_istore3 {M : MD} {d : Nat} {Q : Option Int → Mem → Prop} {pc : Nat} {r st : List AV} {σ : Mem} {x0 x1 x2 : AV} {o0 : AV} {x : Int} (pc' : Nat) (hdg : decode M.2.1 pc = .ok (.istore_n 3, 1)) (hq : pc + 1 = pc') (hn : 3 < M.2.2.1) (k : V M d Q pc' (x0 :: x1 :: x2 :: (.inl x) :: r) st σ) : V M d Q pc (x0 :: x1 :: x2 :: o0 :: r) (.inl x :: st) σ := by
  intro ol os om Γ A p l e s m args below meth c fx H locs lsA hP hS hL
  have fx0 := fx
  obtain ⟨hx, hb, hml, hr, hown, hts, hlk, hK, hD, hA⟩ := fx0
  subst hq
  exact lv_istore_n hx hb hdg rfl hL.has hn rfl (fun ls' h' => k (okL_set (l := x0 :: x1 :: x2 :: o0 :: r) (x := .inl x) 3 (fun z e => by cases e; exact okL_h os) ol) (okL_t os) om Γ A p l e s m args below meth c fx H locs ls' hP hS (Lh.set (x := .inl x) h'))
theorem v_aload3 {M : MD} {d : Nat} {Q : Option Int → Mem → Prop} {pc : Nat} {r st : List AV} {σ : Mem} {x0 x1 x2 : AV} {x : Nat} (pc' : Nat) (hdg : decode M.2.1 pc = .ok (.aload_n 3, 1)) (hq : pc + 1 = pc') (k : V M d Q pc' (x0 :: x1 :: x2 :: (.inr (some x)) :: r) (.inr (some x) :: st) σ) : V M d Q pc (x0 :: x1 :: x2 :: (.inr (some x)) :: r) st σ := by
  intro ol os om Γ A p l e s m args below meth c fx H locs lsA hP hS hL
  have fx0 := fx
  obtain ⟨hx, hb, hml, hr, hown, hts, hlk, hK, hD, hA⟩ := fx0
  subst hq
  exact lv_aload_n hx hb hdg rfl (hL.get (i := 3) rfl (by simp)) (k ol (okL_r os) om Γ A p l e s m args below meth c fx H locs lsA hP hS hL)
theorem v_astore3 {M : MD} {d : Nat} {Q : Option Int → Mem → Prop} {pc : Nat} {r st : List AV} {σ : Mem} {x0 x1 x2 : AV} {o0 : AV} {x : Nat} (pc' : Nat) (hdg : decode M.2.1 pc = .ok (.astore_n 3, 1)) (hq : pc + 1 = pc') (hn : 3 < M.2.2.1) (k : V M d Q pc' (x0 :: x1 :: x2 :: (.inr (some x)) :: r) st σ) : V M d Q pc (x0 :: x1 :: x2 :: o0 :: r) (.inr (some x) :: st) σ := by
  intro ol os om Γ A p l e s m args below meth c fx H locs lsA hP hS hL
  have fx0 := fx
  obtain ⟨hx, hb, hml, hr, hown, hts, hlk, hK, hD, hA⟩ := fx0
  subst hq
  exact lv_astore_n hx hb hdg rfl hL.has hn rfl (fun ls' h' => k (okL_set (l := x0 :: x1 :: x2 :: o0 :: r) (x := .inr (some x)) 3 (fun z e => by cases e) ol) (okL_t os) om Γ A p l e s m args below meth c fx H locs ls' hP hS (Lh.set (x := .inr (some x)) h'))
theorem v_iinc3 {M : MD} {d : Nat} {Q : Option Int → Mem → Prop} {pc : Nat} {r st : List AV} {σ : Mem} {x0 x1 x2 : AV} {x v : Int} (pc' : Nat) {n : Int} (hdg : decode M.2.1 pc = .ok (.iinc 3 n, 3)) (hq : pc + 3 = pc') (hn : 3 < M.2.2.1) (hv : x + n = v) (hr0 : inR v) (k : V M d Q pc' (x0 :: x1 :: x2 :: (.inl v) :: r) st σ) : V M d Q pc (x0 :: x1 :: x2 :: (.inl x) :: r) st σ := by
  intro ol os om Γ A p l e s m args below meth c fx H locs lsA hP hS hL
  have fx0 := fx
  obtain ⟨hx, hb, hml, hr, hown, hts, hlk, hK, hD, hA⟩ := fx0
  subst hq
  obtain ⟨k0, hk0⟩ := List.getElem?_of_mem (lvl_mem (Γ := Γ) (ls := x0 :: x1 :: x2 :: (.inl x) :: r) (i := 3) (v := .inl x) rfl (by simp))
  exact lv_iinc (v := Int32.ofInt v) hx hb hdg hL.has hk0 (by rw [← Int32.ofInt_add, hv]) hn rfl (fun ls' h' => k (okL_set (l := x0 :: x1 :: x2 :: (.inl x) :: r) (x := .inl v) 3 (fun z e => by cases e; exact hr0) ol) os om Γ A p l e s m args below meth c fx H locs ls' hP hS (Lh.set (x := .inl v) h'))
theorem v_iload4 {M : MD} {d : Nat} {Q : Option Int → Mem → Prop} {pc : Nat} {r st : List AV} {σ : Mem} {x0 x1 x2 x3 : AV} {x : Int} (pc' : Nat) (hdg : decode M.2.1 pc = .ok (.iload 4, 2)) (hq : pc + 2 = pc') (k : V M d Q pc' (x0 :: x1 :: x2 :: x3 :: (.inl x) :: r) (.inl x :: st) σ) : V M d Q pc (x0 :: x1 :: x2 :: x3 :: (.inl x) :: r) st σ := by
  intro ol os om Γ A p l e s m args below meth c fx H locs lsA hP hS hL
  have fx0 := fx
  obtain ⟨hx, hb, hml, hr, hown, hts, hlk, hK, hD, hA⟩ := fx0
  subst hq
  exact lv_iload hx hb hdg (hL.get (i := 4) rfl (by simp)) (k ol (okL_i (okL_get ol (i := 4) rfl) os) om Γ A p l e s m args below meth c fx H locs lsA hP hS hL)
theorem v_istore4 {M : MD} {d : Nat} {Q : Option Int → Mem → Prop} {pc : Nat} {r st : List AV} {σ : Mem} {x0 x1 x2 x3 : AV} {o0 : AV} {x : Int} (pc' : Nat) (hdg : decode M.2.1 pc = .ok (.istore 4, 2)) (hq : pc + 2 = pc') (hn : 4 < M.2.2.1) (k : V M d Q pc' (x0 :: x1 :: x2 :: x3 :: (.inl x) :: r) st σ) : V M d Q pc (x0 :: x1 :: x2 :: x3 :: o0 :: r) (.inl x :: st) σ := by
  intro ol os om Γ A p l e s m args below meth c fx H locs lsA hP hS hL
  have fx0 := fx
  obtain ⟨hx, hb, hml, hr, hown, hts, hlk, hK, hD, hA⟩ := fx0
  subst hq
  exact lv_istore hx hb hdg hL.has hn rfl (fun ls' h' => k (okL_set (l := x0 :: x1 :: x2 :: x3 :: o0 :: r) (x := .inl x) 4 (fun z e => by cases e; exact okL_h os) ol) (okL_t os) om Γ A p l e s m args below meth c fx H locs ls' hP hS (Lh.set (x := .inl x) h'))
theorem v_aload4 {M : MD} {d : Nat} {Q : Option Int → Mem → Prop} {pc : Nat} {r st : List AV} {σ : Mem} {x0 x1 x2 x3 : AV} {x : Nat} (pc' : Nat) (hdg : decode M.2.1 pc = .ok (.aload 4, 2)) (hq : pc + 2 = pc') (k : V M d Q pc' (x0 :: x1 :: x2 :: x3 :: (.inr (some x)) :: r) (.inr (some x) :: st) σ) : V M d Q pc (x0 :: x1 :: x2 :: x3 :: (.inr (some x)) :: r) st σ := by
  intro ol os om Γ A p l e s m args below meth c fx H locs lsA hP hS hL
  have fx0 := fx
  obtain ⟨hx, hb, hml, hr, hown, hts, hlk, hK, hD, hA⟩ := fx0
  subst hq
  exact lv_aload hx hb hdg (hL.get (i := 4) rfl (by simp)) (k ol (okL_r os) om Γ A p l e s m args below meth c fx H locs lsA hP hS hL)
theorem v_astore4 {M : MD} {d : Nat} {Q : Option Int → Mem → Prop} {pc : Nat} {r st : List AV} {σ : Mem} {x0 x1 x2 x3 : AV} {o0 : AV} {x : Nat} (pc' : Nat) (hdg : decode M.2.1 pc = .ok (.astore 4, 2)) (hq : pc + 2 = pc') (hn : 4 < M.2.2.1) (k : V M d Q pc' (x0 :: x1 :: x2 :: x3 :: (.inr (some x)) :: r) st σ) : V M d Q pc (x0 :: x1 :: x2 :: x3 :: o0 :: r) (.inr (some x) :: st) σ := by
  intro ol os om Γ A p l e s m args below meth c fx H locs lsA hP hS hL
  have fx0 := fx
  obtain ⟨hx, hb, hml, hr, hown, hts, hlk, hK, hD, hA⟩ := fx0
  subst hq
  exact lv_astore hx hb hdg hL.has hn rfl (fun ls' h' => k (okL_set (l := x0 :: x1 :: x2 :: x3 :: o0 :: r) (x := .inr (some x)) 4 (fun z e => by cases e) ol) (okL_t os) om Γ A p l e s m args below meth c fx H locs ls' hP hS (Lh.set (x := .inr (some x)) h'))
theorem v_iinc4 {M : MD} {d : Nat} {Q : Option Int → Mem → Prop} {pc : Nat} {r st : List AV} {σ : Mem} {x0 x1 x2 x3 : AV} {x v : Int} (pc' : Nat) {n : Int} (hdg : decode M.2.1 pc = .ok (.iinc 4 n, 3)) (hq : pc + 3 = pc') (hn : 4 < M.2.2.1) (hv : x + n = v) (hr0 : inR v) (k : V M d Q pc' (x0 :: x1 :: x2 :: x3 :: (.inl v) :: r) st σ) : V M d Q pc (x0 :: x1 :: x2 :: x3 :: (.inl x) :: r) st σ := by
  intro ol os om Γ A p l e s m args below meth c fx H locs lsA hP hS hL
  have fx0 := fx
  obtain ⟨hx, hb, hml, hr, hown, hts, hlk, hK, hD, hA⟩ := fx0
  subst hq
  obtain ⟨k0, hk0⟩ := List.getElem?_of_mem (lvl_mem (Γ := Γ) (ls := x0 :: x1 :: x2 :: x3 :: (.inl x) :: r) (i := 4) (v := .inl x) rfl (by simp))
  exact lv_iinc (v := Int32.ofInt v) hx hb hdg hL.has hk0 (by rw [← Int32.ofInt_add, hv]) hn rfl (fun ls' h' => k (okL_set (l := x0 :: x1 :: x2 :: x3 :: (.inl x) :: r) (x := .inl v) 4 (fun z e => by cases e; exact hr0) ol) os om Γ A p l e s m args below meth c fx H locs ls' hP hS (Lh.set (x := .inl v) h'))
theorem v_iload5 {M : MD} {d : Nat} {Q : Option Int → Mem → Prop} {pc : Nat} {r st : List AV} {σ : Mem} {x0 x1 x2 x3 x4 : AV} {x : Int} (pc' : Nat) (hdg : decode M.2.1 pc = .ok (.iload 5, 2)) (hq : pc + 2 = pc') (k : V M d Q pc' (x0 :: x1 :: x2 :: x3 :: x4 :: (.inl x) :: r) (.inl x :: st) σ) : V M d Q pc (x0 :: x1 :: x2 :: x3 :: x4 :: (.inl x) :: r) st σ := by
  intro ol os om Γ A p l e s m args below meth c fx H locs lsA hP hS hL
  have fx0 := fx
  obtain ⟨hx, hb, hml, hr, hown, hts, hlk, hK, hD, hA⟩ := fx0
  subst hq
  exact lv_iload hx hb hdg (hL.get (i := 5) rfl (by simp)) (k ol (okL_i (okL_get ol (i := 5) rfl) os) om Γ A p l e s m args below meth c fx H locs lsA hP hS hL)
theorem v_istore5 {M : MD} {d : Nat} {Q : Option Int → Mem → Prop} {pc : Nat} {r st : List AV} {σ : Mem} {x0 x1 x2 x3 x4 : AV} {o0 : AV} {x : Int} (pc' : Nat) (hdg : decode M.2.1 pc = .ok (.istore 5, 2)) (hq : pc + 2 = pc') (hn : 5 < M.2.2.1) (k : V M d Q pc' (x0 :: x1 :: x2 :: x3 :: x4 :: (.inl x) :: r) st σ) : V M d Q pc (x0 :: x1 :: x2 :: x3 :: x4 :: o0 :: r) (.inl x :: st) σ := by
  intro ol os om Γ A p l e s m args below meth c fx H locs lsA hP hS hL
  have fx0 := fx
  obtain ⟨hx, hb, hml, hr, hown, hts, hlk, hK, hD, hA⟩ := fx0
  subst hq
  exact lv_istore hx hb hdg hL.has hn rfl (fun ls' h' => k (okL_set (l := x0 :: x1 :: x2 :: x3 :: x4 :: o0 :: r) (x := .inl x) 5 (fun z e => by cases e; exact okL_h os) ol) (okL_t os) om Γ A p l e s m args below meth c fx H locs ls' hP hS (Lh.set (x := .inl x) h'))
theorem v_aload5 {M : MD} {d : Nat} {Q : Option Int → Mem → Prop} {pc : Nat} {r st : List AV} {σ : Mem} {x0 x1 x2 x3 x4 : AV} {x : Nat} (pc' : Nat) (hdg : decode M.2.1 pc = .ok (.aload 5, 2)) (hq : pc + 2 = pc') (k : V M d Q pc' (x0 :: x1 :: x2 :: x3 :: x4 :: (.inr (some x)) :: r) (.inr (some x) :: st) σ) : V M d Q pc (x0 :: x1 :: x2 :: x3 :: x4 :: (.inr (some x)) :: r) st σ := by
  intro ol os om Γ A p l e s m args below meth c fx H locs lsA hP hS hL
  have fx0 := fx
  obtain ⟨hx, hb, hml, hr, hown, hts, hlk, hK, hD, hA⟩ := fx0
  subst hq
  exact lv_aload hx hb hdg (hL.get (i := 5) rfl (by simp)) (k ol (okL_r os) om Γ A p l e s m args below meth c fx H locs lsA hP hS hL)
theorem v_astore5 {M : MD} {d : Nat} {Q : Option Int → Mem → Prop} {pc : Nat} {r st : List AV} {σ : Mem} {x0 x1 x2 x3 x4 : AV} {o0 : AV} {x : Nat} (pc' : Nat) (hdg : decode M.2.1 pc = .ok (.astore 5, 2)) (hq : pc + 2 = pc') (hn : 5 < M.2.2.1) (k : V M d Q pc' (x0 :: x1 :: x2 :: x3 :: x4 :: (.inr (some x)) :: r) st σ) : V M d Q pc (x0 :: x1 :: x2 :: x3 :: x4 :: o0 :: r) (.inr (some x) :: st) σ := by
  intro ol os om Γ A p l e s m args below meth c fx H locs lsA hP hS hL
  have fx0 := fx
  obtain ⟨hx, hb, hml, hr, hown, hts, hlk, hK, hD, hA⟩ := fx0
  subst hq
  exact lv_astore hx hb hdg hL.has hn rfl (fun ls' h' => k (okL_set (l := x0 :: x1 :: x2 :: x3 :: x4 :: o0 :: r) (x := .inr (some x)) 5 (fun z e => by cases e) ol) (okL_t os) om Γ A p l e s m args below meth c fx H locs ls' hP hS (Lh.set (x := .inr (some x)) h'))
theorem v_iinc5 {M : MD} {d : Nat} {Q : Option Int → Mem → Prop} {pc : Nat} {r st : List AV} {σ : Mem} {x0 x1 x2 x3 x4 : AV} {x v : Int} (pc' : Nat) {n : Int} (hdg : decode M.2.1 pc = .ok (.iinc 5 n, 3)) (hq : pc + 3 = pc') (hn : 5 < M.2.2.1) (hv : x + n = v) (hr0 : inR v) (k : V M d Q pc' (x0 :: x1 :: x2 :: x3 :: x4 :: (.inl v) :: r) st σ) : V M d Q pc (x0 :: x1 :: x2 :: x3 :: x4 :: (.inl x) :: r) st σ := by
  intro ol os om Γ A p l e s m args below meth c fx H locs lsA hP hS hL
  have fx0 := fx
  obtain ⟨hx, hb, hml, hr, hown, hts, hlk, hK, hD, hA⟩ := fx0
  subst hq
  obtain ⟨k0, hk0⟩ := List.getElem?_of_mem (lvl_mem (Γ := Γ) (ls := x0 :: x1 :: x2 :: x3 :: x4 :: (.inl x) :: r) (i := 5) (v := .inl x) rfl (by simp))
  exact lv_iinc (v := Int32.ofInt v) hx hb hdg hL.has hk0 (by rw [← Int32.ofInt_add, hv]) hn rfl (fun ls' h' => k (okL_set (l := x0 :: x1 :: x2 :: x3 :: x4 :: (.inl x) :: r) (x := .inl v) 5 (fun z e => by cases e; exact hr0) ol) os om Γ A p l e s m args below meth c fx H locs ls' hP hS (Lh.set (x := .inl v) h'))
theorem v_iload6 {M : MD} {d : Nat} {Q : Option Int → Mem → Prop} {pc : Nat} {r st : List AV} {σ : Mem} {x0 x1 x2 x3 x4 x5 : AV} {x : Int} (pc' : Nat) (hdg : decode M.2.1 pc = .ok (.iload 6, 2)) (hq : pc + 2 = pc') (k : V M d Q pc' (x0 :: x1 :: x2 :: x3 :: x4 :: x5 :: (.inl x) :: r) (.inl x :: st) σ) : V M d Q pc (x0 :: x1 :: x2 :: x3 :: x4 :: x5 :: (.inl x) :: r) st σ := by
  intro ol os om Γ A p l e s m args below meth c fx H locs lsA hP hS hL
  have fx0 := fx
  obtain ⟨hx, hb, hml, hr, hown, hts, hlk, hK, hD, hA⟩ := fx0
  subst hq
  exact lv_iload hx hb hdg (hL.get (i := 6) rfl (by simp)) (k ol (okL_i (okL_get ol (i := 6) rfl) os) om Γ A p l e s m args below meth c fx H locs lsA hP hS hL)
theorem v_istore6 {M : MD} {d : Nat} {Q : Option Int → Mem → Prop} {pc : Nat} {r st : List AV} {σ : Mem} {x0 x1 x2 x3 x4 x5 : AV} {o0 : AV} {x : Int} (pc' : Nat) (hdg : decode M.2.1 pc = .ok (.istore 6, 2)) (hq : pc + 2 = pc') (hn : 6 < M.2.2.1) (k : V M d Q pc' (x0 :: x1 :: x2 :: x3 :: x4 :: x5 :: (.inl x) :: r) st σ) : V M d Q pc (x0 :: x1 :: x2 :: x3 :: x4 :: x5 :: o0 :: r) (.inl x :: st) σ := by
  intro ol os om Γ A p l e s m args below meth c fx H locs lsA hP hS hL
  have fx0 := fx
  obtain ⟨hx, hb, hml, hr, hown, hts, hlk, hK, hD, hA⟩ := fx0
  subst hq
  exact lv_istore hx hb hdg hL.has hn rfl (fun ls' h' => k (okL_set (l := x0 :: x1 :: x2 :: x3 :: x4 :: x5 :: o0 :: r) (x := .inl x) 6 (fun z e => by cases e; exact okL_h os) ol) (okL_t os) om Γ A p l e s m args below meth c fx H locs ls' hP hS (Lh.set (x := .inl x) h'))
theorem v_aload6 {M : MD} {d : Nat} {Q : Option Int → Mem → Prop} {pc : Nat} {r st : List AV} {σ : Mem} {x0 x1 x2 x3 x4 x5 : AV} {x : Nat} (pc' : Nat) (hdg : decode M.2.1 pc = .ok (.aload 6, 2)) (hq : pc + 2 = pc') (k : V M d Q pc' (x0 :: x1 :: x2 :: x3 :: x4 :: x5 :: (.inr (some x)) :: r) (.inr (some x) :: st) σ) : V M d Q pc (x0 :: x1 :: x2 :: x3 :: x4 :: x5 :: (.inr (some x)) :: r) st σ := by
  intro ol os om Γ A p l e s m args below meth c fx H locs lsA hP hS hL
  have fx0 := fx
  obtain ⟨hx, hb, hml, hr, hown, hts, hlk, hK, hD, hA⟩ := fx0
  subst hq
  exact lv_aload hx hb hdg (hL.get (i := 6) rfl (by simp)) (k ol (okL_r os) om Γ A p l e s m args below meth c fx H locs lsA hP hS hL)
theorem v_astore6 {M : MD} {d : Nat} {Q : Option Int → Mem → Prop} {pc : Nat} {r st : List AV} {σ : Mem} {x0 x1 x2 x3 x4 x5 : AV} {o0 : AV} {x : Nat} (pc' : Nat) (hdg : decode M.2.1 pc = .ok (.astore 6, 2)) (hq : pc + 2 = pc') (hn : 6 < M.2.2.1) (k : V M d Q pc' (x0 :: x1 :: x2 :: x3 :: x4 :: x5 :: (.inr (some x)) :: r) st σ) : V M d Q pc (x0 :: x1 :: x2 :: x3 :: x4 :: x5 :: o0 :: r) (.inr (some x) :: st) σ := by
  intro ol os om Γ A p l e s m args below meth c fx H locs lsA hP hS hL
  have fx0 := fx
  obtain ⟨hx, hb, hml, hr, hown, hts, hlk, hK, hD, hA⟩ := fx0
  subst hq
  exact lv_astore hx hb hdg hL.has hn rfl (fun ls' h' => k (okL_set (l := x0 :: x1 :: x2 :: x3 :: x4 :: x5 :: o0 :: r) (x := .inr (some x)) 6 (fun z e => by cases e) ol) (okL_t os) om Γ A p l e s m args below meth c fx H locs ls' hP hS (Lh.set (x := .inr (some x)) h'))
theorem v_iinc6 {M : MD} {d : Nat} {Q : Option Int → Mem → Prop} {pc : Nat} {r st : List AV} {σ : Mem} {x0 x1 x2 x3 x4 x5 : AV} {x v : Int} (pc' : Nat) {n : Int} (hdg : decode M.2.1 pc = .ok (.iinc 6 n, 3)) (hq : pc + 3 = pc') (hn : 6 < M.2.2.1) (hv : x + n = v) (hr0 : inR v) (k : V M d Q pc' (x0 :: x1 :: x2 :: x3 :: x4 :: x5 :: (.inl v) :: r) st σ) : V M d Q pc (x0 :: x1 :: x2 :: x3 :: x4 :: x5 :: (.inl x) :: r) st σ := by
  intro ol os om Γ A p l e s m args below meth c fx H locs lsA hP hS hL
  have fx0 := fx
  obtain ⟨hx, hb, hml, hr, hown, hts, hlk, hK, hD, hA⟩ := fx0
  subst hq
  obtain ⟨k0, hk0⟩ := List.getElem?_of_mem (lvl_mem (Γ := Γ) (ls := x0 :: x1 :: x2 :: x3 :: x4 :: x5 :: (.inl x) :: r) (i := 6) (v := .inl x) rfl (by simp))
  exact lv_iinc (v := Int32.ofInt v) hx hb hdg hL.has hk0 (by rw [← Int32.ofInt_add, hv]) hn rfl (fun ls' h' => k (okL_set (l := x0 :: x1 :: x2 :: x3 :: x4 :: x5 :: (.inl x) :: r) (x := .inl v) 6 (fun z e => by cases e; exact hr0) ol) os om Γ A p l e s m args below meth c fx H locs ls' hP hS (Lh.set (x := .inl v) h'))
theorem v_iload7 {M : MD} {d : Nat} {Q : Option Int → Mem → Prop} {pc : Nat} {r st : List AV} {σ : Mem} {x0 x1 x2 x3 x4 x5 x6 : AV} {x : Int} (pc' : Nat) (hdg : decode M.2.1 pc = .ok (.iload 7, 2)) (hq : pc + 2 = pc') (k : V M d Q pc' (x0 :: x1 :: x2 :: x3 :: x4 :: x5 :: x6 :: (.inl x) :: r) (.inl x :: st) σ) : V M d Q pc (x0 :: x1 :: x2 :: x3 :: x4 :: x5 :: x6 :: (.inl x) :: r) st σ := by
  intro ol os om Γ A p l e s m args below meth c fx H locs lsA hP hS hL
  have fx0 := fx
  obtain ⟨hx, hb, hml, hr, hown, hts, hlk, hK, hD, hA⟩ := fx0
  subst hq
  exact lv_iload hx hb hdg (hL.get (i := 7) rfl (by simp)) (k ol (okL_i (okL_get ol (i := 7) rfl) os) om Γ A p l e s m args below meth c fx H locs lsA hP hS hL)
theorem v_istore7 {M : MD} {d : Nat} {Q : Option Int → Mem → Prop} {pc : Nat} {r st : List AV} {σ : Mem} {x0 x1 x2 x3 x4 x5 x6 : AV} {o0 : AV} {x : Int} (pc' : Nat) (hdg : decode M.2.1 pc = .ok (.istore 7, 2)) (hq : pc + 2 = pc') (hn : 7 < M.2.2.1) (k : V M d Q pc' (x0 :: x1 :: x2 :: x3 :: x4 :: x5 :: x6 :: (.inl x) :: r) st σ) : V M d Q pc (x0 :: x1 :: x2 :: x3 :: x4 :: x5 :: x6 :: o0 :: r) (.inl x :: st) σ := by
  intro ol os om Γ A p l e s m args below meth c fx H locs lsA hP hS hL
  have fx0 := fx
  obtain ⟨hx, hb, hml, hr, hown, hts, hlk, hK, hD, hA⟩ := fx0
  subst hq
  exact lv_istore hx hb hdg hL.has hn rfl (fun ls' h' => k (okL_set (l := x0 :: x1 :: x2 :: x3 :: x4 :: x5 :: x6 :: o0 :: r) (x := .inl x) 7 (fun z e => by cases e; exact okL_h os) ol) (okL_t os) om Γ A p l e s m args below meth c fx H locs ls' hP hS (Lh.set (x := .inl x) h'))
theorem v_aload7 {M : MD} {d : Nat} {Q : Option Int → Mem → Prop} {pc : Nat} {r st : List AV} {σ : Mem} {x0 x1 x2 x3 x4 x5 x6 : AV} {x : Nat} (pc' : Nat) (hdg : decode M.2.1 pc = .ok (.aload 7, 2)) (hq : pc + 2 = pc') (k : V M d Q pc' (x0 :: x1 :: x2 :: x3 :: x4 :: x5 :: x6 :: (.inr (some x)) :: r) (.inr (some x) :: st) σ) : V M d Q pc (x0 :: x1 :: x2 :: x3 :: x4 :: x5 :: x6 :: (.inr (some x)) :: r) st σ := by
  intro ol os om Γ A p l e s m args below meth c fx H locs lsA hP hS hL
  have fx0 := fx
  obtain ⟨hx, hb, hml, hr, hown, hts, hlk, hK, hD, hA⟩ := fx0
  subst hq
  exact lv_aload hx hb hdg (hL.get (i := 7) rfl (by simp)) (k ol (okL_r os) om Γ A p l e s m args below meth c fx H locs lsA hP hS hL)
theorem v_astore7 {M : MD} {d : Nat} {Q : Option Int → Mem → Prop} {pc : Nat} {r st : List AV} {σ : Mem} {x0 x1 x2 x3 x4 x5 x6 : AV} {o0 : AV} {x : Nat} (pc' : Nat) (hdg : decode M.2.1 pc = .ok (.astore 7, 2)) (hq : pc + 2 = pc') (hn : 7 < M.2.2.1) (k : V M d Q pc' (x0 :: x1 :: x2 :: x3 :: x4 :: x5 :: x6 :: (.inr (some x)) :: r) st σ) : V M d Q pc (x0 :: x1 :: x2 :: x3 :: x4 :: x5 :: x6 :: o0 :: r) (.inr (some x) :: st) σ := by
  intro ol os om Γ A p l e s m args below meth c fx H locs lsA hP hS hL
  have fx0 := fx
  obtain ⟨hx, hb, hml, hr, hown, hts, hlk, hK, hD, hA⟩ := fx0
  subst hq
  exact lv_astore hx hb hdg hL.has hn rfl (fun ls' h' => k (okL_set (l := x0 :: x1 :: x2 :: x3 :: x4 :: x5 :: x6 :: o0 :: r) (x := .inr (some x)) 7 (fun z e => by cases e) ol) (okL_t os) om Γ A p l e s m args below meth c fx H locs ls' hP hS (Lh.set (x := .inr (some x)) h'))
theorem v_iinc7 {M : MD} {d : Nat} {Q : Option Int → Mem → Prop} {pc : Nat} {r st : List AV} {σ : Mem} {x0 x1 x2 x3 x4 x5 x6 : AV} {x v : Int} (pc' : Nat) {n : Int} (hdg : decode M.2.1 pc = .ok (.iinc 7 n, 3)) (hq : pc + 3 = pc') (hn : 7 < M.2.2.1) (hv : x + n = v) (hr0 : inR v) (k : V M d Q pc' (x0 :: x1 :: x2 :: x3 :: x4 :: x5 :: x6 :: (.inl v) :: r) st σ) : V M d Q pc (x0 :: x1 :: x2 :: x3 :: x4 :: x5 :: x6 :: (.inl x) :: r) st σ := by
  intro ol os om Γ A p l e s m args below meth c fx H locs lsA hP hS hL
  have fx0 := fx
  obtain ⟨hx, hb, hml, hr, hown, hts, hlk, hK, hD, hA⟩ := fx0
  subst hq
  obtain ⟨k0, hk0⟩ := List.getElem?_of_mem (lvl_mem (Γ := Γ) (ls := x0 :: x1 :: x2 :: x3 :: x4 :: x5 :: x6 :: (.inl x) :: r) (i := 7) (v := .inl x) rfl (by simp))
  exact lv_iinc (v := Int32.ofInt v) hx hb hdg hL.has hk0 (by rw [← Int32.ofInt_add, hv]) hn rfl (fun ls' h' => k (okL_set (l := x0 :: x1 :: x2 :: x3 :: x4 :: x5 :: x6 :: (.inl x) :: r) (x := .inl v) 7 (fun z e => by cases e; exact hr0) ol) os om Γ A p l e s m args below meth c fx H locs ls' hP hS (Lh.set (x := .inl v) h'))
theorem v_iload8 {M : MD} {d : Nat} {Q : Option Int → Mem → Prop} {pc : Nat} {r st : List AV} {σ : Mem} {x0 x1 x2 x3 x4 x5 x6 x7 : AV} {x : Int} (pc' : Nat) (hdg : decode M.2.1 pc = .ok (.iload 8, 2)) (hq : pc + 2 = pc') (k : V M d Q pc' (x0 :: x1 :: x2 :: x3 :: x4 :: x5 :: x6 :: x7 :: (.inl x) :: r) (.inl x :: st) σ) : V M d Q pc (x0 :: x1 :: x2 :: x3 :: x4 :: x5 :: x6 :: x7 :: (.inl x) :: r) st σ := by
  intro ol os om Γ A p l e s m args below meth c fx H locs lsA hP hS hL
  have fx0 := fx
  obtain ⟨hx, hb, hml, hr, hown, hts, hlk, hK, hD, hA⟩ := fx0
  subst hq
  exact lv_iload hx hb hdg (hL.get (i := 8) rfl (by simp)) (k ol (okL_i (okL_get ol (i := 8) rfl) os) om Γ A p l e s m args below meth c fx H locs lsA hP hS hL)
theorem v_istore8 {M : MD} {d : Nat} {Q : Option Int → Mem → Prop} {pc : Nat} {r st : List AV} {σ : Mem} {x0 x1 x2 x3 x4 x5 x6 x7 : AV} {o0 : AV} {x : Int} (pc' : Nat) (hdg : decode M.2.1 pc = .ok (.istore 8, 2)) (hq : pc + 2 = pc') (hn : 8 < M.2.2.1) (k : V M d Q pc' (x0 :: x1 :: x2 :: x3 :: x4 :: x5 :: x6 :: x7 :: (.inl x) :: r) st σ) : V M d Q pc (x0 :: x1 :: x2 :: x3 :: x4 :: x5 :: x6 :: x7 :: o0 :: r) (.inl x :: st) σ := by
  intro ol os om Γ A p l e s m args below meth c fx H locs lsA hP hS hL
  have fx0 := fx
  obtain ⟨hx, hb, hml, hr, hown, hts, hlk, hK, hD, hA⟩ := fx0
  subst hq
  exact lv_istore hx hb hdg hL.has hn rfl (fun ls' h' => k (okL_set (l := x0 :: x1 :: x2 :: x3 :: x4 :: x5 :: x6 :: x7 :: o0 :: r) (x := .inl x) 8 (fun z e => by cases e; exact okL_h os) ol) (okL_t os) om Γ A p l e s m args below meth c fx H locs ls' hP hS (Lh.set (x := .inl x) h'))
theorem v_aload8 {M : MD} {d : Nat} {Q : Option Int → Mem → Prop} {pc : Nat} {r st : List AV} {σ : Mem} {x0 x1 x2 x3 x4 x5 x6 x7 : AV} {x : Nat} (pc' : Nat) (hdg : decode M.2.1 pc = .ok (.aload 8, 2)) (hq : pc + 2 = pc') (k : V M d Q pc' (x0 :: x1 :: x2 :: x3 :: x4 :: x5 :: x6 :: x7 :: (.inr (some x)) :: r) (.inr (some x) :: st) σ) : V M d Q pc (x0 :: x1 :: x2 :: x3 :: x4 :: x5 :: x6 :: x7 :: (.inr (some x)) :: r) st σ := by
  intro ol os om Γ A p l e s m args below meth c fx H locs lsA hP hS hL
  have fx0 := fx
  obtain ⟨hx, hb, hml, hr, hown, hts, hlk, hK, hD, hA⟩ := fx0
  subst hq
  exact lv_aload hx hb hdg (hL.get (i := 8) rfl (by simp)) (k ol (okL_r os) om Γ A p l e s m args below meth c fx H locs lsA hP hS hL)
theorem v_astore8 {M : MD} {d : Nat} {Q : Option Int → Mem → Prop} {pc : Nat} {r st : List AV} {σ : Mem} {x0 x1 x2 x3 x4 x5 x6 x7 : AV} {o0 : AV} {x : Nat} (pc' : Nat) (hdg : decode M.2.1 pc = .ok (.astore 8, 2)) (hq : pc + 2 = pc') (hn : 8 < M.2.2.1) (k : V M d Q pc' (x0 :: x1 :: x2 :: x3 :: x4 :: x5 :: x6 :: x7 :: (.inr (some x)) :: r) st σ) : V M d Q pc (x0 :: x1 :: x2 :: x3 :: x4 :: x5 :: x6 :: x7 :: o0 :: r) (.inr (some x) :: st) σ := by
  intro ol os om Γ A p l e s m args below meth c fx H locs lsA hP hS hL
  have fx0 := fx
  obtain ⟨hx, hb, hml, hr, hown, hts, hlk, hK, hD, hA⟩ := fx0
  subst hq
  exact lv_astore hx hb hdg hL.has hn rfl (fun ls' h' => k (okL_set (l := x0 :: x1 :: x2 :: x3 :: x4 :: x5 :: x6 :: x7 :: o0 :: r) (x := .inr (some x)) 8 (fun z e => by cases e) ol) (okL_t os) om Γ A p l e s m args below meth c fx H locs ls' hP hS (Lh.set (x := .inr (some x)) h'))
theorem v_iinc8 {M : MD} {d : Nat} {Q : Option Int → Mem → Prop} {pc : Nat} {r st : List AV} {σ : Mem} {x0 x1 x2 x3 x4 x5 x6 x7 : AV} {x v : Int} (pc' : Nat) {n : Int} (hdg : decode M.2.1 pc = .ok (.iinc 8 n, 3)) (hq : pc + 3 = pc') (hn : 8 < M.2.2.1) (hv : x + n = v) (hr0 : inR v) (k : V M d Q pc' (x0 :: x1 :: x2 :: x3 :: x4 :: x5 :: x6 :: x7 :: (.inl v) :: r) st σ) : V M d Q pc (x0 :: x1 :: x2 :: x3 :: x4 :: x5 :: x6 :: x7 :: (.inl x) :: r) st σ := by
  intro ol os om Γ A p l e s m args below meth c fx H locs lsA hP hS hL
  have fx0 := fx
  obtain ⟨hx, hb, hml, hr, hown, hts, hlk, hK, hD, hA⟩ := fx0
  subst hq
  obtain ⟨k0, hk0⟩ := List.getElem?_of_mem (lvl_mem (Γ := Γ) (ls := x0 :: x1 :: x2 :: x3 :: x4 :: x5 :: x6 :: x7 :: (.inl x) :: r) (i := 8) (v := .inl x) rfl (by simp))
  exact lv_iinc (v := Int32.ofInt v) hx hb hdg hL.has hk0 (by rw [← Int32.ofInt_add, hv]) hn rfl (fun ls' h' => k (okL_set (l := x0 :: x1 :: x2 :: x3 :: x4 :: x5 :: x6 :: x7 :: (.inl x) :: r) (x := .inl v) 8 (fun z e => by cases e; exact hr0) ol) os om Γ A p l e s m args below meth c fx H locs ls' hP hS (Lh.set (x := .inl v) h'))
theorem v_iload9 {M : MD} {d : Nat} {Q : Option Int → Mem → Prop} {pc : Nat} {r st : List AV} {σ : Mem} {x0 x1 x2 x3 x4 x5 x6 x7 x8 : AV} {x : Int} (pc' : Nat) (hdg : decode M.2.1 pc = .ok (.iload 9, 2)) (hq : pc + 2 = pc') (k : V M d Q pc' (x0 :: x1 :: x2 :: x3 :: x4 :: x5 :: x6 :: x7 :: x8 :: (.inl x) :: r) (.inl x :: st) σ) : V M d Q pc (x0 :: x1 :: x2 :: x3 :: x4 :: x5 :: x6 :: x7 :: x8 :: (.inl x) :: r) st σ := by
  intro ol os om Γ A p l e s m args below meth c fx H locs lsA hP hS hL
  have fx0 := fx
  obtain ⟨hx, hb, hml, hr, hown, hts, hlk, hK, hD, hA⟩ := fx0
  subst hq
  exact lv_iload hx hb hdg (hL.get (i := 9) rfl (by simp)) (k ol (okL_i (okL_get ol (i := 9) rfl) os) om Γ A p l e s m args below meth c fx H locs lsA hP hS hL)
theorem v_istore9 {M : MD} {d : Nat} {Q : Option Int → Mem → Prop} {pc : Nat} {r st : List AV} {σ : Mem} {x0 x1 x2 x3 x4 x5 x6 x7 x8 : AV} {o0 : AV} {x : Int} (pc' : Nat) (hdg : decode M.2.1 pc = .ok (.istore 9, 2)) (hq : pc + 2 = pc') (hn : 9 < M.2.2.1) (k : V M d Q pc' (x0 :: x1 :: x2 :: x3 :: x4 :: x5 :: x6 :: x7 :: x8 :: (.inl x) :: r) st σ) : V M d Q pc (x0 :: x1 :: x2 :: x3 :: x4 :: x5 :: x6 :: x7 :: x8 :: o0 :: r) (.inl x :: st) σ := by
  intro ol os om Γ A p l e s m args below meth c fx H locs lsA hP hS hL
  have fx0 := fx
  obtain ⟨hx, hb, hml, hr, hown, hts, hlk, hK, hD, hA⟩ := fx0
  subst hq
  exact lv_istore hx hb hdg hL.has hn rfl (fun ls' h' => k (okL_set (l := x0 :: x1 :: x2 :: x3 :: x4 :: x5 :: x6 :: x7 :: x8 :: o0 :: r) (x := .inl x) 9 (fun z e => by cases e; exact okL_h os) ol) (okL_t os) om Γ A p l e s m args below meth c fx H locs ls' hP hS (Lh.set (x := .inl x) h'))
theorem v_aload9 {M : MD} {d : Nat} {Q : Option Int → Mem → Prop} {pc : Nat} {r st : List AV} {σ : Mem} {x0 x1 x2 x3 x4 x5 x6 x7 x8 : AV} {x : Nat} (pc' : Nat) (hdg : decode M.2.1 pc = .ok (.aload 9, 2)) (hq : pc + 2 = pc') (k : V M d Q pc' (x0 :: x1 :: x2 :: x3 :: x4 :: x5 :: x6 :: x7 :: x8 :: (.inr (some x)) :: r) (.inr (some x) :: st) σ) : V M d Q pc (x0 :: x1 :: x2 :: x3 :: x4 :: x5 :: x6 :: x7 :: x8 :: (.inr (some x)) :: r) st σ := by
  intro ol os om Γ A p l e s m args below meth c fx H locs lsA hP hS hL
  have fx0 := fx
  obtain ⟨hx, hb, hml, hr, hown, hts, hlk, hK, hD, hA⟩ := fx0
  subst hq
  exact lv_aload hx hb hdg (hL.get (i := 9) rfl (by simp)) (k ol (okL_r os) om Γ A p l e s m args below meth c fx H locs lsA hP hS hL)
theorem v_astore9 {M : MD} {d : Nat} {Q : Option Int → Mem → Prop} {pc : Nat} {r st : List AV} {σ : Mem} {x0 x1 x2 x3 x4 x5 x6 x7 x8 : AV} {o0 : AV} {x : Nat} (pc' : Nat) (hdg : decode M.2.1 pc = .ok (.astore 9, 2)) (hq : pc + 2 = pc') (hn : 9 < M.2.2.1) (k : V M d Q pc' (x0 :: x1 :: x2 :: x3 :: x4 :: x5 :: x6 :: x7 :: x8 :: (.inr (some x)) :: r) st σ) : V M d Q pc (x0 :: x1 :: x2 :: x3 :: x4 :: x5 :: x6 :: x7 :: x8 :: o0 :: r) (.inr (some x) :: st) σ := by
  intro ol os om Γ A p l e s m args below meth c fx H locs lsA hP hS hL
  have fx0 := fx
  obtain ⟨hx, hb, hml, hr, hown, hts, hlk, hK, hD, hA⟩ := fx0
  subst hq
  exact lv_astore hx hb hdg hL.has hn rfl (fun ls' h' => k (okL_set (l := x0 :: x1 :: x2 :: x3 :: x4 :: x5 :: x6 :: x7 :: x8 :: o0 :: r) (x := .inr (some x)) 9 (fun z e => by cases e) ol) (okL_t os) om Γ A p l e s m args below meth c fx H locs ls' hP hS (Lh.set (x := .inr (some x)) h'))
theorem v_iinc9 {M : MD} {d : Nat} {Q : Option Int → Mem → Prop} {pc : Nat} {r st : List AV} {σ : Mem} {x0 x1 x2 x3 x4 x5 x6 x7 x8 : AV} {x v : Int} (pc' : Nat) {n : Int} (hdg : decode M.2.1 pc = .ok (.iinc 9 n, 3)) (hq : pc + 3 = pc') (hn : 9 < M.2.2.1) (hv : x + n = v) (hr0 : inR v) (k : V M d Q pc' (x0 :: x1 :: x2 :: x3 :: x4 :: x5 :: x6 :: x7 :: x8 :: (.inl v) :: r) st σ) : V M d Q pc (x0 :: x1 :: x2 :: x3 :: x4 :: x5 :: x6 :: x7 :: x8 :: (.inl x) :: r) st σ := by
  intro ol os om Γ A p l e s m args below meth c fx H locs lsA hP hS hL
  have fx0 := fx
  obtain ⟨hx, hb, hml, hr, hown, hts, hlk, hK, hD, hA⟩ := fx0
  subst hq
  obtain ⟨k0, hk0⟩ := List.getElem?_of_mem (lvl_mem (Γ := Γ) (ls := x0 :: x1 :: x2 :: x3 :: x4 :: x5 :: x6 :: x7 :: x8 :: (.inl x) :: r) (i := 9) (v := .inl x) rfl (by simp))
  exact lv_iinc (v := Int32.ofInt v) hx hb hdg hL.has hk0 (by rw [← Int32.ofInt_add, hv]) hn rfl (fun ls' h' => k (okL_set (l := x0 :: x1 :: x2 :: x3 :: x4 :: x5 :: x6 :: x7 :: x8 :: (.inl x) :: r) (x := .inl v) 9 (fun z e => by cases e; exact hr0) ol) os om Γ A p l e s m args below meth c fx H locs ls' hP hS (Lh.set (x := .inl v) h'))
theorem v_iload10 {M : MD} {d : Nat} {Q : Option Int → Mem → Prop} {pc : Nat} {r st : List AV} {σ : Mem} {x0 x1 x2 x3 x4 x5 x6 x7 x8 x9 : AV} {x : Int} (pc' : Nat) (hdg : decode M.2.1 pc = .ok (.iload 10, 2)) (hq : pc + 2 = pc') (k : V M d Q pc' (x0 :: x1 :: x2 :: x3 :: x4 :: x5 :: x6 :: x7 :: x8 :: x9 :: (.inl x) :: r) (.inl x :: st) σ) : V M d Q pc (x0 :: x1 :: x2 :: x3 :: x4 :: x5 :: x6 :: x7 :: x8 :: x9 :: (.inl x) :: r) st σ := by
  intro ol os om Γ A p l e s m args below meth c fx H locs lsA hP hS hL
  have fx0 := fx
  obtain ⟨hx, hb, hml, hr, hown, hts, hlk, hK, hD, hA⟩ := fx0
  subst hq
  exact lv_iload hx hb hdg (hL.get (i := 10) rfl (by simp)) (k ol (okL_i (okL_get ol (i := 10) rfl) os) om Γ A p l e s m args below meth c fx H locs lsA hP hS hL)
theorem v_istore10 {M : MD} {d : Nat} {Q : Option Int → Mem → Prop} {pc : Nat} {r st : List AV} {σ : Mem} {x0 x1 x2 x3 x4 x5 x6 x7 x8 x9 : AV} {o0 : AV} {x : Int} (pc' : Nat) (hdg : decode M.2.1 pc = .ok (.istore 10, 2)) (hq : pc + 2 = pc') (hn : 10 < M.2.2.1) (k : V M d Q pc' (x0 :: x1 :: x2 :: x3 :: x4 :: x5 :: x6 :: x7 :: x8 :: x9 :: (.inl x) :: r) st σ) : V M d Q pc (x0 :: x1 :: x2 :: x3 :: x4 :: x5 :: x6 :: x7 :: x8 :: x9 :: o0 :: r) (.inl x :: st) σ := by
  intro ol os om Γ A p l e s m args below meth c fx H locs lsA hP hS hL
  have fx0 := fx
  obtain ⟨hx, hb, hml, hr, hown, hts, hlk, hK, hD, hA⟩ := fx0
  subst hq
  exact lv_istore hx hb hdg hL.has hn rfl (fun ls' h' => k (okL_set (l := x0 :: x1 :: x2 :: x3 :: x4 :: x5 :: x6 :: x7 :: x8 :: x9 :: o0 :: r) (x := .inl x) 10 (fun z e => by cases e; exact okL_h os) ol) (okL_t os) om Γ A p l e s m args below meth c fx H locs ls' hP hS (Lh.set (x := .inl x) h'))
theorem v_aload10 {M : MD} {d : Nat} {Q : Option Int → Mem → Prop} {pc : Nat} {r st : List AV} {σ : Mem} {x0 x1 x2 x3 x4 x5 x6 x7 x8 x9 : AV} {x : Nat} (pc' : Nat) (hdg : decode M.2.1 pc = .ok (.aload 10, 2)) (hq : pc + 2 = pc') (k : V M d Q pc' (x0 :: x1 :: x2 :: x3 :: x4 :: x5 :: x6 :: x7 :: x8 :: x9 :: (.inr (some x)) :: r) (.inr (some x) :: st) σ) : V M d Q pc (x0 :: x1 :: x2 :: x3 :: x4 :: x5 :: x6 :: x7 :: x8 :: x9 :: (.inr (some x)) :: r) st σ := by
  intro ol os om Γ A p l e s m args below meth c fx H locs lsA hP hS hL
  have fx0 := fx
  obtain ⟨hx, hb, hml, hr, hown, hts, hlk, hK, hD, hA⟩ := fx0
  subst hq
  exact lv_aload hx hb hdg (hL.get (i := 10) rfl (by simp)) (k ol (okL_r os) om Γ A p l e s m args below meth c fx H locs lsA hP hS hL)
theorem v_astore10 {M : MD} {d : Nat} {Q : Option Int → Mem → Prop} {pc : Nat} {r st : List AV} {σ : Mem} {x0 x1 x2 x3 x4 x5 x6 x7 x8 x9 : AV} {o0 : AV} {x : Nat} (pc' : Nat) (hdg : decode M.2.1 pc = .ok (.astore 10, 2)) (hq : pc + 2 = pc') (hn : 10 < M.2.2.1) (k : V M d Q pc' (x0 :: x1 :: x2 :: x3 :: x4 :: x5 :: x6 :: x7 :: x8 :: x9 :: (.inr (some x)) :: r) st σ) : V M d Q pc (x0 :: x1 :: x2 :: x3 :: x4 :: x5 :: x6 :: x7 :: x8 :: x9 :: o0 :: r) (.inr (some x) :: st) σ := by
  intro ol os om Γ A p l e s m args below meth c fx H locs lsA hP hS hL
  have fx0 := fx
  obtain ⟨hx, hb, hml, hr, hown, hts, hlk, hK, hD, hA⟩ := fx0
  subst hq
  exact lv_astore hx hb hdg hL.has hn rfl (fun ls' h' => k (okL_set (l := x0 :: x1 :: x2 :: x3 :: x4 :: x5 :: x6 :: x7 :: x8 :: x9 :: o0 :: r) (x := .inr (some x)) 10 (fun z e => by cases e) ol) (okL_t os) om Γ A p l e s m args below meth c fx H locs ls' hP hS (Lh.set (x := .inr (some x)) h'))
theorem v_iinc10 {M : MD} {d : Nat} {Q : Option Int → Mem → Prop} {pc : Nat} {r st : List AV} {σ : Mem} {x0 x1 x2 x3 x4 x5 x6 x7 x8 x9 : AV} {x v : Int} (pc' : Nat) {n : Int} (hdg : decode M.2.1 pc = .ok (.iinc 10 n, 3)) (hq : pc + 3 = pc') (hn : 10 < M.2.2.1) (hv : x + n = v) (hr0 : inR v) (k : V M d Q pc' (x0 :: x1 :: x2 :: x3 :: x4 :: x5 :: x6 :: x7 :: x8 :: x9 :: (.inl v) :: r) st σ) : V M d Q pc (x0 :: x1 :: x2 :: x3 :: x4 :: x5 :: x6 :: x7 :: x8 :: x9 :: (.inl x) :: r) st σ := by
  intro ol os om Γ A p l e s m args below meth c fx H locs lsA hP hS hL
  have fx0 := fx
  obtain ⟨hx, hb, hml, hr, hown, hts, hlk, hK, hD, hA⟩ := fx0
  subst hq
  obtain ⟨k0, hk0⟩ := List.getElem?_of_mem (lvl_mem (Γ := Γ) (ls := x0 :: x1 :: x2 :: x3 :: x4 :: x5 :: x6 :: x7 :: x8 :: x9 :: (.inl x) :: r) (i := 10) (v := .inl x) rfl (by simp))
  exact lv_iinc (v := Int32.ofInt v) hx hb hdg hL.has hk0 (by rw [← Int32.ofInt_add, hv]) hn rfl (fun ls' h' => k (okL_set (l := x0 :: x1 :: x2 :: x3 :: x4 :: x5 :: x6 :: x7 :: x8 :: x9 :: (.inl x) :: r) (x := .inl v) 10 (fun z e => by cases e; exact hr0) ol) os om Γ A p l e s m args below meth c fx H locs ls' hP hS (Lh.set (x := .inl v) h'))
theorem v_iload11 {M : MD} {d : Nat} {Q : Option Int → Mem → Prop} {pc : Nat} {r st : List AV} {σ : Mem} {x0 x1 x2 x3 x4 x5 x6 x7 x8 x9 x10 : AV} {x : Int} (pc' : Nat) (hdg : decode M.2.1 pc = .ok (.iload 11, 2)) (hq : pc + 2 = pc') (k : V M d Q pc' (x0 :: x1 :: x2 :: x3 :: x4 :: x5 :: x6 :: x7 :: x8 :: x9 :: x10 :: (.inl x) :: r) (.inl x :: st) σ) : V M d Q pc (x0 :: x1 :: x2 :: x3 :: x4 :: x5 :: x6 :: x7 :: x8 :: x9 :: x10 :: (.inl x) :: r) st σ := by
  intro ol os om Γ A p l e s m args below meth c fx H locs lsA hP hS hL
  have fx0 := fx
  obtain ⟨hx, hb, hml, hr, hown, hts, hlk, hK, hD, hA⟩ := fx0
  subst hq
  exact lv_iload hx hb hdg (hL.get (i := 11) rfl (by simp)) (k ol (okL_i (okL_get ol (i := 11) rfl) os) om Γ A p l e s m args below meth c fx H locs lsA hP hS hL)
theorem v_istore11 {M : MD} {d : Nat} {Q : Option Int → Mem → Prop} {pc : Nat} {r st : List AV} {σ : Mem} {x0 x1 x2 x3 x4 x5 x6 x7 x8 x9 x10 : AV} {o0 : AV} {x : Int} (pc' : Nat) (hdg : decode M.2.1 pc = .ok (.istore 11, 2)) (hq : pc + 2 = pc') (hn : 11 < M.2.2.1) (k : V M d Q pc' (x0 :: x1 :: x2 :: x3 :: x4 :: x5 :: x6 :: x7 :: x8 :: x9 :: x10 :: (.inl x) :: r) st σ) : V M d Q pc (x0 :: x1 :: x2 :: x3 :: x4 :: x5 :: x6 :: x7 :: x8 :: x9 :: x10 :: o0 :: r) (.inl x :: st) σ := by
  intro ol os om Γ A p l e s m args below meth c fx H locs lsA hP hS hL
  have fx0 := fx
  obtain ⟨hx, hb, hml, hr, hown, hts, hlk, hK, hD, hA⟩ := fx0
  subst hq
  exact lv_istore hx hb hdg hL.has hn rfl (fun ls' h' => k (okL_set (l := x0 :: x1 :: x2 :: x3 :: x4 :: x5 :: x6 :: x7 :: x8 :: x9 :: x10 :: o0 :: r) (x := .inl x) 11 (fun z e => by cases e; exact okL_h os) ol) (okL_t os) om Γ A p l e s m args below meth c fx H locs ls' hP hS (Lh.set (x := .inl x) h'))
theorem v_aload11 {M : MD} {d : Nat} {Q : Option Int → Mem → Prop} {pc : Nat} {r st : List AV} {σ : Mem} {x0 x1 x2 x3 x4 x5 x6 x7 x8 x9 x10 : AV} {x : Nat} (pc' : Nat) (hdg : decode M.2.1 pc = .ok (.aload 11, 2)) (hq : pc + 2 = pc') (k : V M d Q pc' (x0 :: x1 :: x2 :: x3 :: x4 :: x5 :: x6 :: x7 :: x8 :: x9 :: x10 :: (.inr (some x)) :: r) (.inr (some x) :: st) σ) : V M d Q pc (x0 :: x1 :: x2 :: x3 :: x4 :: x5 :: x6 :: x7 :: x8 :: x9 :: x10 :: (.inr (some x)) :: r) st σ := by
  intro ol os om Γ A p l e s m args below meth c fx H locs lsA hP hS hL
  have fx0 := fx
  obtain ⟨hx, hb, hml, hr, hown, hts, hlk, hK, hD, hA⟩ := fx0
  subst hq
  exact lv_aload hx hb hdg (hL.get (i := 11) rfl (by simp)) (k ol (okL_r os) om Γ A p l e s m args below meth c fx H locs lsA hP hS hL)
theorem v_astore11 {M : MD} {d : Nat} {Q : Option Int → Mem → Prop} {pc : Nat} {r st : List AV} {σ : Mem} {x0 x1 x2 x3 x4 x5 x6 x7 x8 x9 x10 : AV} {o0 : AV} {x : Nat} (pc' : Nat) (hdg : decode M.2.1 pc = .ok (.astore 11, 2)) (hq : pc + 2 = pc') (hn : 11 < M.2.2.1) (k : V M d Q pc' (x0 :: x1 :: x2 :: x3 :: x4 :: x5 :: x6 :: x7 :: x8 :: x9 :: x10 :: (.inr (some x)) :: r) st σ) : V M d Q pc (x0 :: x1 :: x2 :: x3 :: x4 :: x5 :: x6 :: x7 :: x8 :: x9 :: x10 :: o0 :: r) (.inr (some x) :: st) σ := by
  intro ol os om Γ A p l e s m args below meth c fx H locs lsA hP hS hL
  have fx0 := fx
  obtain ⟨hx, hb, hml, hr, hown, hts, hlk, hK, hD, hA⟩ := fx0
  subst hq
  exact lv_astore hx hb hdg hL.has hn rfl (fun ls' h' => k (okL_set (l := x0 :: x1 :: x2 :: x3 :: x4 :: x5 :: x6 :: x7 :: x8 :: x9 :: x10 :: o0 :: r) (x := .inr (some x)) 11 (fun z e => by cases e) ol) (okL_t os) om Γ A p l e s m args below meth c fx H locs ls' hP hS (Lh.set (x := .inr (some x)) h'))
theorem v_iinc11 {M : MD} {d : Nat} {Q : Option Int → Mem → Prop} {pc : Nat} {r st : List AV} {σ : Mem} {x0 x1 x2 x3 x4 x5 x6 x7 x8 x9 x10 : AV} {x v : Int} (pc' : Nat) {n : Int} (hdg : decode M.2.1 pc = .ok (.iinc 11 n, 3)) (hq : pc + 3 = pc') (hn : 11 < M.2.2.1) (hv : x + n = v) (hr0 : inR v) (k : V M d Q pc' (x0 :: x1 :: x2 :: x3 :: x4 :: x5 :: x6 :: x7 :: x8 :: x9 :: x10 :: (.inl v) :: r) st σ) : V M d Q pc (x0 :: x1 :: x2 :: x3 :: x4 :: x5 :: x6 :: x7 :: x8 :: x9 :: x10 :: (.inl x) :: r) st σ := by
  intro ol os om Γ A p l e s m args below meth c fx H locs lsA hP hS hL
  have fx0 := fx
  obtain ⟨hx, hb, hml, hr, hown, hts, hlk, hK, hD, hA⟩ := fx0
  subst hq
  obtain ⟨k0, hk0⟩ := List.getElem?_of_mem (lvl_mem (Γ := Γ) (ls := x0 :: x1 :: x2 :: x3 :: x4 :: x5 :: x6 :: x7 :: x8 :: x9 :: x10 :: (.inl x) :: r) (i := 11) (v := .inl x) rfl (by simp))
  exact lv_iinc (v := Int32.ofInt v) hx hb hdg hL.has hk0 (by rw [← Int32.ofInt_add, hv]) hn rfl (fun ls' h' => k (okL_set (l := x0 :: x1 :: x2 :: x3 :: x4 :: x5 :: x6 :: x7 :: x8 :: x9 :: x10 :: (.inl x) :: r) (x := .inl v) 11 (fun z e => by cases e; exact hr0) ol) os om Γ A p l e s m args below meth c fx H locs ls' hP hS (Lh.set (x := .inl v) h'))
theorem v_iload12 {M : MD} {d : Nat} {Q : Option Int → Mem → Prop} {pc : Nat} {r st : List AV} {σ : Mem} {x0 x1 x2 x3 x4 x5 x6 x7 x8 x9 x10 x11 : AV} {x : Int} (pc' : Nat) (hdg : decode M.2.1 pc = .ok (.iload 12, 2)) (hq : pc + 2 = pc') (k : V M d Q pc' (x0 :: x1 :: x2 :: x3 :: x4 :: x5 :: x6 :: x7 :: x8 :: x9 :: x10 :: x11 :: (.inl x) :: r) (.inl x :: st) σ) : V M d Q pc (x0 :: x1 :: x2 :: x3 :: x4 :: x5 :: x6 :: x7 :: x8 :: x9 :: x10 :: x11 :: (.inl x) :: r) st σ := by
  intro ol os om Γ A p l e s m args below meth c fx H locs lsA hP hS hL
  have fx0 := fx
  obtain ⟨hx, hb, hml, hr, hown, hts, hlk, hK, hD, hA⟩ := fx0
  subst hq
  exact lv_iload hx hb hdg (hL.get (i := 12) rfl (by simp)) (k ol (okL_i (okL_get ol (i := 12) rfl) os) om Γ A p l e s m args below meth c fx H locs lsA hP hS hL)
theorem v_istore12 {M : MD} {d : Nat} {Q : Option Int → Mem → Prop} {pc : Nat} {r st : List AV} {σ : Mem} {x0 x1 x2 x3 x4 x5 x6 x7 x8 x9 x10 x11 : AV} {o0 : AV} {x : Int} (pc' : Nat) (hdg : decode M.2.1 pc = .ok (.istore 12, 2)) (hq : pc + 2 = pc') (hn : 12 < M.2.2.1) (k : V M d Q pc' (x0 :: x1 :: x2 :: x3 :: x4 :: x5 :: x6 :: x7 :: x8 :: x9 :: x10 :: x11 :: (.inl x) :: r) st σ) : V M d Q pc (x0 :: x1 :: x2 :: x3 :: x4 :: x5 :: x6 :: x7 :: x8 :: x9 :: x10 :: x11 :: o0 :: r) (.inl x :: st) σ := by
  intro ol os om Γ A p l e s m args below meth c fx H locs lsA hP hS hL
  have fx0 := fx
  obtain ⟨hx, hb, hml, hr, hown, hts, hlk, hK, hD, hA⟩ := fx0
  subst hq
  exact lv_istore hx hb hdg hL.has hn rfl (fun ls' h' => k (okL_set (l := x0 :: x1 :: x2 :: x3 :: x4 :: x5 :: x6 :: x7 :: x8 :: x9 :: x10 :: x11 :: o0 :: r) (x := .inl x) 12 (fun z e => by cases e; exact okL_h os) ol) (okL_t os) om Γ A p l e s m args below meth c fx H locs ls' hP hS (Lh.set (x := .inl x) h'))
theorem v_aload12 {M : MD} {d : Nat} {Q : Option Int → Mem → Prop} {pc : Nat} {r st : List AV} {σ : Mem} {x0 x1 x2 x3 x4 x5 x6 x7 x8 x9 x10 x11 : AV} {x : Nat} (pc' : Nat) (hdg : decode M.2.1 pc = .ok (.aload 12, 2)) (hq : pc + 2 = pc') (k : V M d Q pc' (x0 :: x1 :: x2 :: x3 :: x4 :: x5 :: x6 :: x7 :: x8 :: x9 :: x10 :: x11 :: (.inr (some x)) :: r) (.inr (some x) :: st) σ) : V M d Q pc (x0 :: x1 :: x2 :: x3 :: x4 :: x5 :: x6 :: x7 :: x8 :: x9 :: x10 :: x11 :: (.inr (some x)) :: r) st σ := by
  intro ol os om Γ A p l e s m args below meth c fx H locs lsA hP hS hL
  have fx0 := fx
  obtain ⟨hx, hb, hml, hr, hown, hts, hlk, hK, hD, hA⟩ := fx0
  subst hq
  exact lv_aload hx hb hdg (hL.get (i := 12) rfl (by simp)) (k ol (okL_r os) om Γ A p l e s m args below meth c fx H locs lsA hP hS hL)
theorem v_astore12 {M : MD} {d : Nat} {Q : Option Int → Mem → Prop} {pc : Nat} {r st : List AV} {σ : Mem} {x0 x1 x2 x3 x4 x5 x6 x7 x8 x9 x10 x11 : AV} {o0 : AV} {x : Nat} (pc' : Nat) (hdg : decode M.2.1 pc = .ok (.astore 12, 2)) (hq : pc + 2 = pc') (hn : 12 < M.2.2.1) (k : V M d Q pc' (x0 :: x1 :: x2 :: x3 :: x4 :: x5 :: x6 :: x7 :: x8 :: x9 :: x10 :: x11 :: (.inr (some x)) :: r) st σ) : V M d Q pc (x0 :: x1 :: x2 :: x3 :: x4 :: x5 :: x6 :: x7 :: x8 :: x9 :: x10 :: x11 :: o0 :: r) (.inr (some x) :: st) σ := by
  intro ol os om Γ A p l e s m args below meth c fx H locs lsA hP hS hL
  have fx0 := fx
  obtain ⟨hx, hb, hml, hr, hown, hts, hlk, hK, hD, hA⟩ := fx0
  subst hq
  exact lv_astore hx hb hdg hL.has hn rfl (fun ls' h' => k (okL_set (l := x0 :: x1 :: x2 :: x3 :: x4 :: x5 :: x6 :: x7 :: x8 :: x9 :: x10 :: x11 :: o0 :: r) (x := .inr (some x)) 12 (fun z e => by cases e) ol) (okL_t os) om Γ A p l e s m args below meth c fx H locs ls' hP hS (Lh.set (x := .inr (some x)) h'))
theorem v_iinc12 {M : MD} {d : Nat} {Q : Option Int → Mem → Prop} {pc : Nat} {r st : List AV} {σ : Mem} {x0 x1 x2 x3 x4 x5 x6 x7 x8 x9 x10 x11 : AV} {x v : Int} (pc' : Nat) {n : Int} (hdg : decode M.2.1 pc = .ok (.iinc 12 n, 3)) (hq : pc + 3 = pc') (hn : 12 < M.2.2.1) (hv : x + n = v) (hr0 : inR v) (k : V M d Q pc' (x0 :: x1 :: x2 :: x3 :: x4 :: x5 :: x6 :: x7 :: x8 :: x9 :: x10 :: x11 :: (.inl v) :: r) st σ) : V M d Q pc (x0 :: x1 :: x2 :: x3 :: x4 :: x5 :: x6 :: x7 :: x8 :: x9 :: x10 :: x11 :: (.inl x) :: r) st σ := by
  intro ol os om Γ A p l e s m args below meth c fx H locs lsA hP hS hL
  have fx0 := fx
  obtain ⟨hx, hb, hml, hr, hown, hts, hlk, hK, hD, hA⟩ := fx0
  subst hq
  obtain ⟨k0, hk0⟩ := List.getElem?_of_mem (lvl_mem (Γ := Γ) (ls := x0 :: x1 :: x2 :: x3 :: x4 :: x5 :: x6 :: x7 :: x8 :: x9 :: x10 :: x11 :: (.inl x) :: r) (i := 12) (v := .inl x) rfl (by simp))
  exact lv_iinc (v := Int32.ofInt v) hx hb hdg hL.has hk0 (by rw [← Int32.ofInt_add, hv]) hn rfl (fun ls' h' => k (okL_set (l := x0 :: x1 :: x2 :: x3 :: x4 :: x5 :: x6 :: x7 :: x8 :: x9 :: x10 :: x11 :: (.inl x) :: r) (x := .inl v) 12 (fun z e => by cases e; exact hr0) ol) os om Γ A p l e s m args below meth c fx H locs ls' hP hS (Lh.set (x := .inl v) h'))
theorem v_iload13 {M : MD} {d : Nat} {Q : Option Int → Mem → Prop} {pc : Nat} {r st : List AV} {σ : Mem} {x0 x1 x2 x3 x4 x5 x6 x7 x8 x9 x10 x11 x12 : AV} {x : Int} (pc' : Nat) (hdg : decode M.2.1 pc = .ok (.iload 13, 2)) (hq : pc + 2 = pc') (k : V M d Q pc' (x0 :: x1 :: x2 :: x3 :: x4 :: x5 :: x6 :: x7 :: x8 :: x9 :: x10 :: x11 :: x12 :: (.inl x) :: r) (.inl x :: st) σ) : V M d Q pc (x0 :: x1 :: x2 :: x3 :: x4 :: x5 :: x6 :: x7 :: x8 :: x9 :: x10 :: x11 :: x12 :: (.inl x) :: r) st σ := by
  intro ol os om Γ A p l e s m args below meth c fx H locs lsA hP hS hL
  have fx0 := fx
  obtain ⟨hx, hb, hml, hr, hown, hts, hlk, hK, hD, hA⟩ := fx0
  subst hq
  exact lv_iload hx hb hdg (hL.get (i := 13) rfl (by simp)) (k ol (okL_i (okL_get ol (i := 13) rfl) os) om Γ A p l e s m args below meth c fx H locs lsA hP hS hL)
theorem v_istore13 {M : MD} {d : Nat} {Q : Option Int → Mem → Prop} {pc : Nat} {r st : List AV} {σ : Mem} {x0 x1 x2 x3 x4 x5 x6 x7 x8 x9 x10 x11 x12 : AV} {o0 : AV} {x : Int} (pc' : Nat) (hdg : decode M.2.1 pc = .ok (.istore 13, 2)) (hq : pc + 2 = pc') (hn : 13 < M.2.2.1) (k : V M d Q pc' (x0 :: x1 :: x2 :: x3 :: x4 :: x5 :: x6 :: x7 :: x8 :: x9 :: x10 :: x11 :: x12 :: (.inl x) :: r) st σ) : V M d Q pc (x0 :: x1 :: x2 :: x3 :: x4 :: x5 :: x6 :: x7 :: x8 :: x9 :: x10 :: x11 :: x12 :: o0 :: r) (.inl x :: st) σ := by
  intro ol os om Γ A p l e s m args below meth c fx H locs lsA hP hS hL
  have fx0 := fx
  obtain ⟨hx, hb, hml, hr, hown, hts, hlk, hK, hD, hA⟩ := fx0
  subst hq
  exact lv_istore hx hb hdg hL.has hn rfl (fun ls' h' => k (okL_set (l := x0 :: x1 :: x2 :: x3 :: x4 :: x5 :: x6 :: x7 :: x8 :: x9 :: x10 :: x11 :: x12 :: o0 :: r) (x := .inl x) 13 (fun z e => by cases e; exact okL_h os) ol) (okL_t os) om Γ A p l e s m args below meth c fx H locs ls' hP hS (Lh.set (x := .inl x) h'))
theorem v_aload13 {M : MD} {d : Nat} {Q : Option Int → Mem → Prop} {pc : Nat} {r st : List AV} {σ : Mem} {x0 x1 x2 x3 x4 x5 x6 x7 x8 x9 x10 x11 x12 : AV} {x : Nat} (pc' : Nat) (hdg : decode M.2.1 pc = .ok (.aload 13, 2)) (hq : pc + 2 = pc') (k : V M d Q pc' (x0 :: x1 :: x2 :: x3 :: x4 :: x5 :: x6 :: x7 :: x8 :: x9 :: x10 :: x11 :: x12 :: (.inr (some x)) :: r) (.inr (some x) :: st) σ) : V M d Q pc (x0 :: x1 :: x2 :: x3 :: x4 :: x5 :: x6 :: x7 :: x8 :: x9 :: x10 :: x11 :: x12 :: (.inr (some x)) :: r) st σ := by
  intro ol os om Γ A p l e s m args below meth c fx H locs lsA hP hS hL
  have fx0 := fx
  obtain ⟨hx, hb, hml, hr, hown, hts, hlk, hK, hD, hA⟩ := fx0
  subst hq
  exact lv_aload hx hb hdg (hL.get (i := 13) rfl (by simp)) (k ol (okL_r os) om Γ A p l e s m args below meth c fx H locs lsA hP hS hL)
theorem v_astore13 {M : MD} {d : Nat} {Q : Option Int → Mem → Prop} {pc : Nat} {r st : List AV} {σ : Mem} {x0 x1 x2 x3 x4 x5 x6 x7 x8 x9 x10 x11 x12 : AV} {o0 : AV} {x : Nat} (pc' : Nat) (hdg : decode M.2.1 pc = .ok (.astore 13, 2)) (hq : pc + 2 = pc') (hn : 13 < M.2.2.1) (k : V M d Q pc' (x0 :: x1 :: x2 :: x3 :: x4 :: x5 :: x6 :: x7 :: x8 :: x9 :: x10 :: x11 :: x12 :: (.inr (some x)) :: r) st σ) : V M d Q pc (x0 :: x1 :: x2 :: x3 :: x4 :: x5 :: x6 :: x7 :: x8 :: x9 :: x10 :: x11 :: x12 :: o0 :: r) (.inr (some x) :: st) σ := by
  intro ol os om Γ A p l e s m args below meth c fx H locs lsA hP hS hL
  have fx0 := fx
  obtain ⟨hx, hb, hml, hr, hown, hts, hlk, hK, hD, hA⟩ := fx0
  subst hq
  exact lv_astore hx hb hdg hL.has hn rfl (fun ls' h' => k (okL_set (l := x0 :: x1 :: x2 :: x3 :: x4 :: x5 :: x6 :: x7 :: x8 :: x9 :: x10 :: x11 :: x12 :: o0 :: r) (x := .inr (some x)) 13 (fun z e => by cases e) ol) (okL_t os) om Γ A p l e s m args below meth c fx H locs ls' hP hS (Lh.set (x := .inr (some x)) h'))
theorem v_iinc13 {M : MD} {d : Nat} {Q : Option Int → Mem → Prop} {pc : Nat} {r st : List AV} {σ : Mem} {x0 x1 x2 x3 x4 x5 x6 x7 x8 x9 x10 x11 x12 : AV} {x v : Int} (pc' : Nat) {n : Int} (hdg : decode M.2.1 pc = .ok (.iinc 13 n, 3)) (hq : pc + 3 = pc') (hn : 13 < M.2.2.1) (hv : x + n = v) (hr0 : inR v) (k : V M d Q pc' (x0 :: x1 :: x2 :: x3 :: x4 :: x5 :: x6 :: x7 :: x8 :: x9 :: x10 :: x11 :: x12 :: (.inl v) :: r) st σ) : V M d Q pc (x0 :: x1 :: x2 :: x3 :: x4 :: x5 :: x6 :: x7 :: x8 :: x9 :: x10 :: x11 :: x12 :: (.inl x) :: r) st σ := by
  intro ol os om Γ A p l e s m args below meth c fx H locs lsA hP hS hL
  have fx0 := fx
  obtain ⟨hx, hb, hml, hr, hown, hts, hlk, hK, hD, hA⟩ := fx0
  subst hq
  obtain ⟨k0, hk0⟩ := List.getElem?_of_mem (lvl_mem (Γ := Γ) (ls := x0 :: x1 :: x2 :: x3 :: x4 :: x5 :: x6 :: x7 :: x8 :: x9 :: x10 :: x11 :: x12 :: (.inl x) :: r) (i := 13) (v := .inl x) rfl (by simp))
  exact lv_iinc (v := Int32.ofInt v) hx hb hdg hL.has hk0 (by rw [← Int32.ofInt_add, hv]) hn rfl (fun ls' h' => k (okL_set (l := x0 :: x1 :: x2 :: x3 :: x4 :: x5 :: x6 :: x7 :: x8 :: x9 :: x10 :: x11 :: x12 :: (.inl x) :: r) (x := .inl v) 13 (fun z e => by cases e; exact hr0) ol) os om Γ A p l e s m args below meth c fx H locs ls' hP hS (Lh.set (x := .inl v) h'))
theorem v_iload14 {M : MD} {d : Nat} {Q : Option Int → Mem → Prop} {pc : Nat} {r st : List AV} {σ : Mem} {x0 x1 x2 x3 x4 x5 x6 x7 x8 x9 x10 x11 x12 x13 : AV} {x : Int} (pc' : Nat) (hdg : decode M.2.1 pc = .ok (.iload 14, 2)) (hq : pc + 2 = pc') (k : V M d Q pc' (x0 :: x1 :: x2 :: x3 :: x4 :: x5 :: x6 :: x7 :: x8 :: x9 :: x10 :: x11 :: x12 :: x13 :: (.inl x) :: r) (.inl x :: st) σ) : V M d Q pc (x0 :: x1 :: x2 :: x3 :: x4 :: x5 :: x6 :: x7 :: x8 :: x9 :: x10 :: x11 :: x12 :: x13 :: (.inl x) :: r) st σ := by
  intro ol os om Γ A p l e s m args below meth c fx H locs lsA hP hS hL
  have fx0 := fx
  obtain ⟨hx, hb, hml, hr, hown, hts, hlk, hK, hD, hA⟩ := fx0
  subst hq
  exact lv_iload hx hb hdg (hL.get (i := 14) rfl (by simp)) (k ol (okL_i (okL_get ol (i := 14) rfl) os) om Γ A p l e s m args below meth c fx H locs lsA hP hS hL)
theorem v_istore14 {M : MD} {d : Nat} {Q : Option Int → Mem → Prop} {pc : Nat} {r st : List AV} {σ : Mem} {x0 x1 x2 x3 x4 x5 x6 x7 x8 x9 x10 x11 x12 x13 : AV} {o0 : AV} {x : Int} (pc' : Nat) (hdg : decode M.2.1 pc = .ok (.istore 14, 2)) (hq : pc + 2 = pc') (hn : 14 < M.2.2.1) (k : V M d Q pc' (x0 :: x1 :: x2 :: x3 :: x4 :: x5 :: x6 :: x7 :: x8 :: x9 :: x10 :: x11 :: x12 :: x13 :: (.inl x) :: r) st σ) : V M d Q pc (x0 :: x1 :: x2 :: x3 :: x4 :: x5 :: x6 :: x7 :: x8 :: x9 :: x10 :: x11 :: x12 :: x13 :: o0 :: r) (.inl x :: st) σ := by
  intro ol os om Γ A p l e s m args below meth c fx H locs lsA hP hS hL
  have fx0 := fx
  obtain ⟨hx, hb, hml, hr, hown, hts, hlk, hK, hD, hA⟩ := fx0
  subst hq
  exact lv_istore hx hb hdg hL.has hn rfl (fun ls' h' => k (okL_set (l := x0 :: x1 :: x2 :: x3 :: x4 :: x5 :: x6 :: x7 :: x8 :: x9 :: x10 :: x11 :: x12 :: x13 :: o0 :: r) (x := .inl x) 14 (fun z e => by cases e; exact okL_h os) ol) (okL_t os) om Γ A p l e s m args below meth c fx H locs ls' hP hS (Lh.set (x := .inl x) h'))
theorem v_aload14 {M : MD} {d : Nat} {Q : Option Int → Mem → Prop} {pc : Nat} {r st : List AV} {σ : Mem} {x0 x1 x2 x3 x4 x5 x6 x7 x8 x9 x10 x11 x12 x13 : AV} {x : Nat} (pc' : Nat) (hdg : decode M.2.1 pc = .ok (.aload 14, 2)) (hq : pc + 2 = pc') (k : V M d Q pc' (x0 :: x1 :: x2 :: x3 :: x4 :: x5 :: x6 :: x7 :: x8 :: x9 :: x10 :: x11 :: x12 :: x13 :: (.inr (some x)) :: r) (.inr (some x) :: st) σ) : V M d Q pc (x0 :: x1 :: x2 :: x3 :: x4 :: x5 :: x6 :: x7 :: x8 :: x9 :: x10 :: x11 :: x12 :: x13 :: (.inr (some x)) :: r) st σ := by
  intro ol os om Γ A p l e s m args below meth c fx H locs lsA hP hS hL
  have fx0 := fx
  obtain ⟨hx, hb, hml, hr, hown, hts, hlk, hK, hD, hA⟩ := fx0
  subst hq
  exact lv_aload hx hb hdg (hL.get (i := 14) rfl (by simp)) (k ol (okL_r os) om Γ A p l e s m args below meth c fx H locs lsA hP hS hL)
theorem v_astore14 {M : MD} {d : Nat} {Q : Option Int → Mem → Prop} {pc : Nat} {r st : List AV} {σ : Mem} {x0 x1 x2 x3 x4 x5 x6 x7 x8 x9 x10 x11 x12 x13 : AV} {o0 : AV} {x : Nat} (pc' : Nat) (hdg : decode M.2.1 pc = .ok (.astore 14, 2)) (hq : pc + 2 = pc') (hn : 14 < M.2.2.1) (k : V M d Q pc' (x0 :: x1 :: x2 :: x3 :: x4 :: x5 :: x6 :: x7 :: x8 :: x9 :: x10 :: x11 :: x12 :: x13 :: (.inr (some x)) :: r) st σ) : V M d Q pc (x0 :: x1 :: x2 :: x3 :: x4 :: x5 :: x6 :: x7 :: x8 :: x9 :: x10 :: x11 :: x12 :: x13 :: o0 :: r) (.inr (some x) :: st) σ := by
  intro ol os om Γ A p l e s m args below meth c fx H locs lsA hP hS hL
  have fx0 := fx
  obtain ⟨hx, hb, hml, hr, hown, hts, hlk, hK, hD, hA⟩ := fx0
  subst hq
  exact lv_astore hx hb hdg hL.has hn rfl (fun ls' h' => k (okL_set (l := x0 :: x1 :: x2 :: x3 :: x4 :: x5 :: x6 :: x7 :: x8 :: x9 :: x10 :: x11 :: x12 :: x13 :: o0 :: r) (x := .inr (some x)) 14 (fun z e => by cases e) ol) (okL_t os) om Γ A p l e s m args below meth c fx H locs ls' hP hS (Lh.set (x := .inr (some x)) h'))
theorem v_iinc14 {M : MD} {d : Nat} {Q : Option Int → Mem → Prop} {pc : Nat} {r st : List AV} {σ : Mem} {x0 x1 x2 x3 x4 x5 x6 x7 x8 x9 x10 x11 x12 x13 : AV} {x v : Int} (pc' : Nat) {n : Int} (hdg : decode M.2.1 pc = .ok (.iinc 14 n, 3)) (hq : pc + 3 = pc') (hn : 14 < M.2.2.1) (hv : x + n = v) (hr0 : inR v) (k : V M d Q pc' (x0 :: x1 :: x2 :: x3 :: x4 :: x5 :: x6 :: x7 :: x8 :: x9 :: x10 :: x11 :: x12 :: x13 :: (.inl v) :: r) st σ) : V M d Q pc (x0 :: x1 :: x2 :: x3 :: x4 :: x5 :: x6 :: x7 :: x8 :: x9 :: x10 :: x11 :: x12 :: x13 :: (.inl x) :: r) st σ := by
  intro ol os om Γ A p l e s m args below meth c fx H locs lsA hP hS hL
  have fx0 := fx
  obtain ⟨hx, hb, hml, hr, hown, hts, hlk, hK, hD, hA⟩ := fx0
  subst hq
  obtain ⟨k0, hk0⟩ := List.getElem?_of_mem (lvl_mem (Γ := Γ) (ls := x0 :: x1 :: x2 :: x3 :: x4 :: x5 :: x6 :: x7 :: x8 :: x9 :: x10 :: x11 :: x12 :: x13 :: (.inl x) :: r) (i := 14) (v := .inl x) rfl (by simp))
  exact lv_iinc (v := Int32.ofInt v) hx hb hdg hL.has hk0 (by rw [← Int32.ofInt_add, hv]) hn rfl (fun ls' h' => k (okL_set (l := x0 :: x1 :: x2 :: x3 :: x4 :: x5 :: x6 :: x7 :: x8 :: x9 :: x10 :: x11 :: x12 :: x13 :: (.inl x) :: r) (x := .inl v) 14 (fun z e => by cases e; exact hr0) ol) os om Γ A p l e s m args below meth c fx H locs ls' hP hS (Lh.set (x := .inl v) h'))
theorem v_iload15 {M : MD} {d : Nat} {Q : Option Int → Mem → Prop} {pc : Nat} {r st : List AV} {σ : Mem} {x0 x1 x2 x3 x4 x5 x6 x7 x8 x9 x10 x11 x12 x13 x14 : AV} {x : Int} (pc' : Nat) (hdg : decode M.2.1 pc = .ok (.iload 15, 2)) (hq : pc + 2 = pc') (k : V M d Q pc' (x0 :: x1 :: x2 :: x3 :: x4 :: x5 :: x6 :: x7 :: x8 :: x9 :: x10 :: x11 :: x12 :: x13 :: x14 :: (.inl x) :: r) (.inl x :: st) σ) : V M d Q pc (x0 :: x1 :: x2 :: x3 :: x4 :: x5 :: x6 :: x7 :: x8 :: x9 :: x10 :: x11 :: x12 :: x13 :: x14 :: (.inl x) :: r) st σ := by
  intro ol os om Γ A p l e s m args below meth c fx H locs lsA hP hS hL
  have fx0 := fx
  obtain ⟨hx, hb, hml, hr, hown, hts, hlk, hK, hD, hA⟩ := fx0
  subst hq
  exact lv_iload hx hb hdg (hL.get (i := 15) rfl (by simp)) (k ol (okL_i (okL_get ol (i := 15) rfl) os) om Γ A p l e s m args below meth c fx H locs lsA hP hS hL)
theorem v_istore15 {M : MD} {d : Nat} {Q : Option Int → Mem → Prop} {pc : Nat} {r st : List AV} {σ : Mem} {x0 x1 x2 x3 x4 x5 x6 x7 x8 x9 x10 x11 x12 x13 x14 : AV} {o0 : AV} {x : Int} (pc' : Nat) (hdg : decode M.2.1 pc = .ok (.istore 15, 2)) (hq : pc + 2 = pc') (hn : 15 < M.2.2.1) (k : V M d Q pc' (x0 :: x1 :: x2 :: x3 :: x4 :: x5 :: x6 :: x7 :: x8 :: x9 :: x10 :: x11 :: x12 :: x13 :: x14 :: (.inl x) :: r) st σ) : V M d Q pc (x0 :: x1 :: x2 :: x3 :: x4 :: x5 :: x6 :: x7 :: x8 :: x9 :: x10 :: x11 :: x12 :: x13 :: x14 :: o0 :: r) (.inl x :: st) σ := by
  intro ol os om Γ A p l e s m args below meth c fx H locs lsA hP hS hL
  have fx0 := fx
  obtain ⟨hx, hb, hml, hr, hown, hts, hlk, hK, hD, hA⟩ := fx0
  subst hq
  exact lv_istore hx hb hdg hL.has hn rfl (fun ls' h' => k (okL_set (l := x0 :: x1 :: x2 :: x3 :: x4 :: x5 :: x6 :: x7 :: x8 :: x9 :: x10 :: x11 :: x12 :: x13 :: x14 :: o0 :: r) (x := .inl x) 15 (fun z e => by cases e; exact okL_h os) ol) (okL_t os) om Γ A p l e s m args below meth c fx H locs ls' hP hS (Lh.set (x := .inl x) h'))
theorem v_aload15 {M : MD} {d : Nat} {Q : Option Int → Mem → Prop} {pc : Nat} {r st : List AV} {σ : Mem} {x0 x1 x2 x3 x4 x5 x6 x7 x8 x9 x10 x11 x12 x13 x14 : AV} {x : Nat} (pc' : Nat) (hdg : decode M.2.1 pc = .ok (.aload 15, 2)) (hq : pc + 2 = pc') (k : V M d Q pc' (x0 :: x1 :: x2 :: x3 :: x4 :: x5 :: x6 :: x7 :: x8 :: x9 :: x10 :: x11 :: x12 :: x13 :: x14 :: (.inr (some x)) :: r) (.inr (some x) :: st) σ) : V M d Q pc (x0 :: x1 :: x2 :: x3 :: x4 :: x5 :: x6 :: x7 :: x8 :: x9 :: x10 :: x11 :: x12 :: x13 :: x14 :: (.inr (some x)) :: r) st σ := by
  intro ol os om Γ A p l e s m args below meth c fx H locs lsA hP hS hL
  have fx0 := fx
  obtain ⟨hx, hb, hml, hr, hown, hts, hlk, hK, hD, hA⟩ := fx0
  subst hq
  exact lv_aload hx hb hdg (hL.get (i := 15) rfl (by simp)) (k ol (okL_r os) om Γ A p l e s m args below meth c fx H locs lsA hP hS hL)
theorem v_astore15 {M : MD} {d : Nat} {Q : Option Int → Mem → Prop} {pc : Nat} {r st : List AV} {σ : Mem} {x0 x1 x2 x3 x4 x5 x6 x7 x8 x9 x10 x11 x12 x13 x14 : AV} {o0 : AV} {x : Nat} (pc' : Nat) (hdg : decode M.2.1 pc = .ok (.astore 15, 2)) (hq : pc + 2 = pc') (hn : 15 < M.2.2.1) (k : V M d Q pc' (x0 :: x1 :: x2 :: x3 :: x4 :: x5 :: x6 :: x7 :: x8 :: x9 :: x10 :: x11 :: x12 :: x13 :: x14 :: (.inr (some x)) :: r) st σ) : V M d Q pc (x0 :: x1 :: x2 :: x3 :: x4 :: x5 :: x6 :: x7 :: x8 :: x9 :: x10 :: x11 :: x12 :: x13 :: x14 :: o0 :: r) (.inr (some x) :: st) σ := by
  intro ol os om Γ A p l e s m args below meth c fx H locs lsA hP hS hL
  have fx0 := fx
  obtain ⟨hx, hb, hml, hr, hown, hts, hlk, hK, hD, hA⟩ := fx0
  subst hq
  exact lv_astore hx hb hdg hL.has hn rfl (fun ls' h' => k (okL_set (l := x0 :: x1 :: x2 :: x3 :: x4 :: x5 :: x6 :: x7 :: x8 :: x9 :: x10 :: x11 :: x12 :: x13 :: x14 :: o0 :: r) (x := .inr (some x)) 15 (fun z e => by cases e) ol) (okL_t os) om Γ A p l e s m args below meth c fx H locs ls' hP hS (Lh.set (x := .inr (some x)) h'))
theorem v_iinc15 {M : MD} {d : Nat} {Q : Option Int → Mem → Prop} {pc : Nat} {r st : List AV} {σ : Mem} {x0 x1 x2 x3 x4 x5 x6 x7 x8 x9 x10 x11 x12 x13 x14 : AV} {x v : Int} (pc' : Nat) {n : Int} (hdg : decode M.2.1 pc = .ok (.iinc 15 n, 3)) (hq : pc + 3 = pc') (hn : 15 < M.2.2.1) (hv : x + n = v) (hr0 : inR v) (k : V M d Q pc' (x0 :: x1 :: x2 :: x3 :: x4 :: x5 :: x6 :: x7 :: x8 :: x9 :: x10 :: x11 :: x12 :: x13 :: x14 :: (.inl v) :: r) st σ) : V M d Q pc (x0 :: x1 :: x2 :: x3 :: x4 :: x5 :: x6 :: x7 :: x8 :: x9 :: x10 :: x11 :: x12 :: x13 :: x14 :: (.inl x) :: r) st σ := by
  intro ol os om Γ A p l e s m args below meth c fx H locs lsA hP hS hL
  have fx0 := fx
  obtain ⟨hx, hb, hml, hr, hown, hts, hlk, hK, hD, hA⟩ := fx0
  subst hq
  obtain ⟨k0, hk0⟩ := List.getElem?_of_mem (lvl_mem (Γ := Γ) (ls := x0 :: x1 :: x2 :: x3 :: x4 :: x5 :: x6 :: x7 :: x8 :: x9 :: x10 :: x11 :: x12 :: x13 :: x14 :: (.inl x) :: r) (i := 15) (v := .inl x) rfl (by simp))
  exact lv_iinc (v := Int32.ofInt v) hx hb hdg hL.has hk0 (by rw [← Int32.ofInt_add, hv]) hn rfl (fun ls' h' => k (okL_set (l := x0 :: x1 :: x2 :: x3 :: x4 :: x5 :: x6 :: x7 :: x8 :: x9 :: x10 :: x11 :: x12 :: x13 :: x14 :: (.inl x) :: r) (x := .inl v) 15 (fun z e => by cases e; exact hr0) ol) os om Γ A p l e s m args below meth c fx H locs ls' hP hS (Lh.set (x := .inl v) h'))
/-! arithmetic -/
theorem v_iadd {M : MD} {d : Nat} {Q : Option Int → Mem → Prop} {pc : Nat} {ls st : List AV} {σ : Mem} {a b : Int} (pc' : Nat) (hdg : decode M.2.1 pc = .ok (.iadd, 1)) (hq : pc + 1 = pc') (hr0 : inR (a + b)) (k : V M d Q pc' ls (.inl (a + b) :: st) σ) : V M d Q pc ls (.inl b :: .inl a :: st) σ := by
  intro ol os om Γ A p l e s m args below meth c fx H locs lsA hP hS hL
  have fx0 := fx
  obtain ⟨hx, hb, hml, hr, hown, hts, hlk, hK, hD, hA⟩ := fx0
  subst hq
  have k0 := k ol (okL_i hr0 (okL_t (okL_t os))) om Γ A p l e s m args below meth c fx H locs lsA hP hS hL
  refine lv_iadd hx hb hdg ?_
  rw [← Int32.ofInt_add]
  exact k0
theorem v_isub {M : MD} {d : Nat} {Q : Option Int → Mem → Prop} {pc : Nat} {ls st : List AV} {σ : Mem} {a b : Int} (pc' : Nat) (hdg : decode M.2.1 pc = .ok (.isub, 1)) (hq : pc + 1 = pc') (hr0 : inR (a - b)) (k : V M d Q pc' ls (.inl (a - b) :: st) σ) : V M d Q pc ls (.inl b :: .inl a :: st) σ := by
  intro ol os om Γ A p l e s m args below meth c fx H locs lsA hP hS hL
  have fx0 := fx
  obtain ⟨hx, hb, hml, hr, hown, hts, hlk, hK, hD, hA⟩ := fx0
  subst hq
  have k0 := k ol (okL_i hr0 (okL_t (okL_t os))) om Γ A p l e s m args below meth c fx H locs lsA hP hS hL
  refine lv_isub hx hb hdg ?_
  rw [← Int32.ofInt_sub]
  exact k0
theorem v_imul {M : MD} {d : Nat} {Q : Option Int → Mem → Prop} {pc : Nat} {ls st : List AV} {σ : Mem} {a b : Int} (pc' : Nat) (hdg : decode M.2.1 pc = .ok (.imul, 1)) (hq : pc + 1 = pc') (hr0 : inR (a * b)) (k : V M d Q pc' ls (.inl (a * b) :: st) σ) : V M d Q pc ls (.inl b :: .inl a :: st) σ := by
  intro ol os om Γ A p l e s m args below meth c fx H locs lsA hP hS hL
  have fx0 := fx
  obtain ⟨hx, hb, hml, hr, hown, hts, hlk, hK, hD, hA⟩ := fx0
  subst hq
  have k0 := k ol (okL_i hr0 (okL_t (okL_t os))) om Γ A p l e s m args below meth c fx H locs lsA hP hS hL
  refine lv_imul hx hb hdg ?_
  rw [← Int32.ofInt_mul]
  exact k0
theorem v_ineg {M : MD} {d : Nat} {Q : Option Int → Mem → Prop} {pc : Nat} {ls st : List AV} {σ : Mem} {a : Int} (pc' : Nat) (hdg : decode M.2.1 pc = .ok (.ineg, 1)) (hq : pc + 1 = pc') (hr0 : inR (-a)) (k : V M d Q pc' ls (.inl (-a) :: st) σ) : V M d Q pc ls (.inl a :: st) σ := by
  intro ol os om Γ A p l e s m args below meth c fx H locs lsA hP hS hL
  have fx0 := fx
  obtain ⟨hx, hb, hml, hr, hown, hts, hlk, hK, hD, hA⟩ := fx0
  subst hq
  have k0 := k ol (okL_i hr0 (okL_t os)) om Γ A p l e s m args below meth c fx H locs lsA hP hS hL
  refine lv_ineg hx hb hdg ?_
  have ee : (0 : Int32) - Int32.ofInt a = Int32.ofInt (-a) := by rw [Int32.ofInt_neg, Int32.zero_sub]
  first | (rw [ee]; exact k0) | (rw [← Int32.ofInt_neg]; exact k0)
theorem v_iand {M : MD} {d : Nat} {Q : Option Int → Mem → Prop} {pc : Nat} {ls st : List AV} {σ : Mem} {a b : Int} (pc' : Nat) (hdg : decode M.2.1 pc = .ok (.iand, 1)) (hq : pc + 1 = pc') (k : V M d Q pc' ls (.inl (band a b) :: st) σ) : V M d Q pc ls (.inl b :: .inl a :: st) σ := by
  intro ol os om Γ A p l e s m args below meth c fx H locs lsA hP hS hL
  have fx0 := fx
  obtain ⟨hx, hb, hml, hr, hown, hts, hlk, hK, hD, hA⟩ := fx0
  subst hq
  have k0 := k ol (okL_i (r_of _) (okL_t (okL_t os))) om Γ A p l e s m args below meth c fx H locs lsA hP hS hL
  refine lv_iand hx hb hdg ?_
  have ee : av Γ (.inl (band a b)) = _ := congrArg Value.int (Int32.ofInt_toInt _)
  rw [List.map_cons, ee] at k0
  exact k0
theorem v_ior {M : MD} {d : Nat} {Q : Option Int → Mem → Prop} {pc : Nat} {ls st : List AV} {σ : Mem} {a b : Int} (pc' : Nat) (hdg : decode M.2.1 pc = .ok (.ior, 1)) (hq : pc + 1 = pc') (k : V M d Q pc' ls (.inl (bor a b) :: st) σ) : V M d Q pc ls (.inl b :: .inl a :: st) σ := by
  intro ol os om Γ A p l e s m args below meth c fx H locs lsA hP hS hL
  have fx0 := fx
  obtain ⟨hx, hb, hml, hr, hown, hts, hlk, hK, hD, hA⟩ := fx0
  subst hq
  have k0 := k ol (okL_i (r_of _) (okL_t (okL_t os))) om Γ A p l e s m args below meth c fx H locs lsA hP hS hL
  refine lv_ior hx hb hdg ?_
  have ee : av Γ (.inl (bor a b)) = _ := congrArg Value.int (Int32.ofInt_toInt _)
  rw [List.map_cons, ee] at k0
  exact k0
theorem v_ixor {M : MD} {d : Nat} {Q : Option Int → Mem → Prop} {pc : Nat} {ls st : List AV} {σ : Mem} {a b : Int} (pc' : Nat) (hdg : decode M.2.1 pc = .ok (.ixor, 1)) (hq : pc + 1 = pc') (k : V M d Q pc' ls (.inl (bxor a b) :: st) σ) : V M d Q pc ls (.inl b :: .inl a :: st) σ := by
  intro ol os om Γ A p l e s m args below meth c fx H locs lsA hP hS hL
  have fx0 := fx
  obtain ⟨hx, hb, hml, hr, hown, hts, hlk, hK, hD, hA⟩ := fx0
  subst hq
  have k0 := k ol (okL_i (r_of _) (okL_t (okL_t os))) om Γ A p l e s m args below meth c fx H locs lsA hP hS hL
  refine lv_ixor hx hb hdg ?_
  have ee : av Γ (.inl (bxor a b)) = _ := congrArg Value.int (Int32.ofInt_toInt _)
  rw [List.map_cons, ee] at k0
  exact k0
theorem v_ishl {M : MD} {d : Nat} {Q : Option Int → Mem → Prop} {pc : Nat} {ls st : List AV} {σ : Mem} {a b : Int} (pc' : Nat) (hdg : decode M.2.1 pc = .ok (.ishl, 1)) (hq : pc + 1 = pc') (k : V M d Q pc' ls (.inl (bshl a b) :: st) σ) : V M d Q pc ls (.inl b :: .inl a :: st) σ := by
  intro ol os om Γ A p l e s m args below meth c fx H locs lsA hP hS hL
  have fx0 := fx
  obtain ⟨hx, hb, hml, hr, hown, hts, hlk, hK, hD, hA⟩ := fx0
  subst hq
  have k0 := k ol (okL_i (r_of _) (okL_t (okL_t os))) om Γ A p l e s m args below meth c fx H locs lsA hP hS hL
  refine lv_ishl hx hb hdg ?_
  have ee : av Γ (.inl (bshl a b)) = _ := congrArg Value.int (Int32.ofInt_toInt _)
  rw [List.map_cons, ee] at k0
  exact k0
theorem v_ishr {M : MD} {d : Nat} {Q : Option Int → Mem → Prop} {pc : Nat} {ls st : List AV} {σ : Mem} {a b : Int} (pc' : Nat) (hdg : decode M.2.1 pc = .ok (.ishr, 1)) (hq : pc + 1 = pc') (k : V M d Q pc' ls (.inl (bshr a b) :: st) σ) : V M d Q pc ls (.inl b :: .inl a :: st) σ := by
  intro ol os om Γ A p l e s m args below meth c fx H locs lsA hP hS hL
  have fx0 := fx
  obtain ⟨hx, hb, hml, hr, hown, hts, hlk, hK, hD, hA⟩ := fx0
  subst hq
  have k0 := k ol (okL_i (r_of _) (okL_t (okL_t os))) om Γ A p l e s m args below meth c fx H locs lsA hP hS hL
  refine lv_ishr hx hb hdg ?_
  have ee : av Γ (.inl (bshr a b)) = _ := congrArg Value.int (Int32.ofInt_toInt _)
  rw [List.map_cons, ee] at k0
  exact k0
theorem v_dup {M : MD} {d : Nat} {Q : Option Int → Mem → Prop} {pc : Nat} {ls st : List AV} {σ : Mem} {x : AV} (pc' : Nat) (hdg : decode M.2.1 pc = .ok (.dup, 1)) (hq : pc + 1 = pc') (k : V M d Q pc' ls (x :: x :: st) σ) : V M d Q pc ls (x :: st) σ := by
  intro ol os om Γ A p l e s m args below meth c fx H locs lsA hP hS hL
  have fx0 := fx
  obtain ⟨hx, hb, hml, hr, hown, hts, hlk, hK, hD, hA⟩ := fx0
  subst hq
  exact lv_dup hx hb hdg (av_cat Γ x) (k ol (okL_cons (fun z ee => os z (by rw [ee]; exact List.mem_cons_self)) os) om Γ A p l e s m args below meth c fx H locs lsA hP hS hL)
theorem v_dup2 {M : MD} {d : Nat} {Q : Option Int → Mem → Prop} {pc : Nat} {ls st : List AV} {σ : Mem} {x y : AV} (pc' : Nat) (hdg : decode M.2.1 pc = .ok (.dup2, 1)) (hq : pc + 1 = pc') (k : V M d Q pc' ls (x :: y :: x :: y :: st) σ) : V M d Q pc ls (x :: y :: st) σ := by
  intro ol os om Γ A p l e s m args below meth c fx H locs lsA hP hS hL
  have fx0 := fx
  obtain ⟨hx, hb, hml, hr, hown, hts, hlk, hK, hD, hA⟩ := fx0
  subst hq
  exact lv_dup2_11 hx hb hdg (av_cat Γ x) (av_cat Γ y) (k ol (okL_cons (fun z ee => os z (by rw [ee]; exact List.mem_cons_self)) (okL_cons (fun z ee => os z (by rw [ee]; exact List.mem_cons_of_mem _ List.mem_cons_self)) os)) om Γ A p l e s m args below meth c fx H locs lsA hP hS hL)
/-! branches -/
theorem v_icmp_eq {M : MD} {d : Nat} {Q : Option Int → Mem → Prop} {pc : Nat} {ls st : List AV} {σ : Mem} {a b : Int} {off : Int} (tgt pc' : Nat) (hdg : decode M.2.1 pc = .ok (.if_icmp .eq off, 3)) (ht : (pc : Int) + off = (tgt : Int)) (hq : pc + 3 = pc') (kt : a = b → V M d Q tgt ls st σ) (kf : ¬ (a = b) → V M d Q pc' ls st σ) : V M d Q pc ls (.inl b :: .inl a :: st) σ := by
  intro ol os om Γ A p l e s m args below meth c fx H locs lsA hP hS hL
  have fx0 := fx
  obtain ⟨hx, hb, hml, hr, hown, hts, hlk, hK, hD, hA⟩ := fx0
  subst hq
  have hi := r_eq (okL_h (okL_t os)) (okL_h os)
  have okt := okL_t (okL_t os)
  refine lv_icmp_eq hx hb hdg ht (fun h => kt ?_ ol okt om Γ A p l e s m args below meth c fx H locs lsA hP hS hL) (fun h => kf ?_ ol okt om Γ A p l e s m args below meth c fx H locs lsA hP hS hL)
  · first | exact hi.mp h | exact fun q => h (hi.mpr q)
  · first | exact fun q => h (hi.mpr q) | exact fun q => q (hi.mp (Classical.not_not.mp h)) | exact fun q => absurd (hi.mp (by first | exact h | exact Classical.not_not.mp h)) q
theorem v_if_eq {M : MD} {d : Nat} {Q : Option Int → Mem → Prop} {pc : Nat} {ls st : List AV} {σ : Mem} {a : Int} {off : Int} (tgt pc' : Nat) (hdg : decode M.2.1 pc = .ok (.ifCond .eq off, 3)) (ht : (pc : Int) + off = (tgt : Int)) (hq : pc + 3 = pc') (kt : a = 0 → V M d Q tgt ls st σ) (kf : ¬ (a = 0) → V M d Q pc' ls st σ) : V M d Q pc ls (.inl a :: st) σ := by
  intro ol os om Γ A p l e s m args below meth c fx H locs lsA hP hS hL
  have fx0 := fx
  obtain ⟨hx, hb, hml, hr, hown, hts, hlk, hK, hD, hA⟩ := fx0
  subst hq
  have hi := r_eq (okL_h os) r_0
  have okt := okL_t os
  refine lv_if_eq hx hb hdg ht (fun h => kt ?_ ol okt om Γ A p l e s m args below meth c fx H locs lsA hP hS hL) (fun h => kf ?_ ol okt om Γ A p l e s m args below meth c fx H locs lsA hP hS hL)
  · first | exact hi.mp h | exact fun q => h (hi.mpr q)
  · first | exact fun q => h (hi.mpr q) | exact fun q => q (hi.mp (Classical.not_not.mp h)) | exact fun q => absurd (hi.mp (by first | exact h | exact Classical.not_not.mp h)) q
theorem v_icmp_ne {M : MD} {d : Nat} {Q : Option Int → Mem → Prop} {pc : Nat} {ls st : List AV} {σ : Mem} {a b : Int} {off : Int} (tgt pc' : Nat) (hdg : decode M.2.1 pc = .ok (.if_icmp .ne off, 3)) (ht : (pc : Int) + off = (tgt : Int)) (hq : pc + 3 = pc') (kt : a ≠ b → V M d Q tgt ls st σ) (kf : ¬ (a ≠ b) → V M d Q pc' ls st σ) : V M d Q pc ls (.inl b :: .inl a :: st) σ := by
  intro ol os om Γ A p l e s m args below meth c fx H locs lsA hP hS hL
  have fx0 := fx
  obtain ⟨hx, hb, hml, hr, hown, hts, hlk, hK, hD, hA⟩ := fx0
  subst hq
  have hi := r_eq (okL_h (okL_t os)) (okL_h os)
  have okt := okL_t (okL_t os)
  refine lv_icmp_ne hx hb hdg ht (fun h => kt ?_ ol okt om Γ A p l e s m args below meth c fx H locs lsA hP hS hL) (fun h => kf ?_ ol okt om Γ A p l e s m args below meth c fx H locs lsA hP hS hL)
  · first | exact hi.mp h | exact fun q => h (hi.mpr q)
  · first | exact fun q => h (hi.mpr q) | exact fun q => q (hi.mp (Classical.not_not.mp h)) | exact fun q => absurd (hi.mp (by first | exact h | exact Classical.not_not.mp h)) q
theorem v_if_ne {M : MD} {d : Nat} {Q : Option Int → Mem → Prop} {pc : Nat} {ls st : List AV} {σ : Mem} {a : Int} {off : Int} (tgt pc' : Nat) (hdg : decode M.2.1 pc = .ok (.ifCond .ne off, 3)) (ht : (pc : Int) + off = (tgt : Int)) (hq : pc + 3 = pc') (kt : a ≠ 0 → V M d Q tgt ls st σ) (kf : ¬ (a ≠ 0) → V M d Q pc' ls st σ) : V M d Q pc ls (.inl a :: st) σ := by
  intro ol os om Γ A p l e s m args below meth c fx H locs lsA hP hS hL
  have fx0 := fx
  obtain ⟨hx, hb, hml, hr, hown, hts, hlk, hK, hD, hA⟩ := fx0
  subst hq
  have hi := r_eq (okL_h os) r_0
  have okt := okL_t os
  refine lv_if_ne hx hb hdg ht (fun h => kt ?_ ol okt om Γ A p l e s m args below meth c fx H locs lsA hP hS hL) (fun h => kf ?_ ol okt om Γ A p l e s m args below meth c fx H locs lsA hP hS hL)
  · first | exact hi.mp h | exact fun q => h (hi.mpr q)
  · first | exact fun q => h (hi.mpr q) | exact fun q => q (hi.mp (Classical.not_not.mp h)) | exact fun q => absurd (hi.mp (by first | exact h | exact Classical.not_not.mp h)) q
theorem v_icmp_lt {M : MD} {d : Nat} {Q : Option Int → Mem → Prop} {pc : Nat} {ls st : List AV} {σ : Mem} {a b : Int} {off : Int} (tgt pc' : Nat) (hdg : decode M.2.1 pc = .ok (.if_icmp .lt off, 3)) (ht : (pc : Int) + off = (tgt : Int)) (hq : pc + 3 = pc') (kt : a < b → V M d Q tgt ls st σ) (kf : ¬ (a < b) → V M d Q pc' ls st σ) : V M d Q pc ls (.inl b :: .inl a :: st) σ := by
  intro ol os om Γ A p l e s m args below meth c fx H locs lsA hP hS hL
  have fx0 := fx
  obtain ⟨hx, hb, hml, hr, hown, hts, hlk, hK, hD, hA⟩ := fx0
  subst hq
  have hi := r_lt (okL_h (okL_t os)) (okL_h os)
  have okt := okL_t (okL_t os)
  refine lv_icmp_lt hx hb hdg ht (fun h => kt ?_ ol okt om Γ A p l e s m args below meth c fx H locs lsA hP hS hL) (fun h => kf ?_ ol okt om Γ A p l e s m args below meth c fx H locs lsA hP hS hL)
  · first | exact hi.mp h | exact fun q => h (hi.mpr q)
  · first | exact fun q => h (hi.mpr q) | exact fun q => q (hi.mp (Classical.not_not.mp h)) | exact fun q => absurd (hi.mp (by first | exact h | exact Classical.not_not.mp h)) q
theorem v_if_lt {M : MD} {d : Nat} {Q : Option Int → Mem → Prop} {pc : Nat} {ls st : List AV} {σ : Mem} {a : Int} {off : Int} (tgt pc' : Nat) (hdg : decode M.2.1 pc = .ok (.ifCond .lt off, 3)) (ht : (pc : Int) + off = (tgt : Int)) (hq : pc + 3 = pc') (kt : a < 0 → V M d Q tgt ls st σ) (kf : ¬ (a < 0) → V M d Q pc' ls st σ) : V M d Q pc ls (.inl a :: st) σ := by
  intro ol os om Γ A p l e s m args below meth c fx H locs lsA hP hS hL
  have fx0 := fx
  obtain ⟨hx, hb, hml, hr, hown, hts, hlk, hK, hD, hA⟩ := fx0
  subst hq
  have hi := r_lt (okL_h os) r_0
  have okt := okL_t os
  refine lv_if_lt hx hb hdg ht (fun h => kt ?_ ol okt om Γ A p l e s m args below meth c fx H locs lsA hP hS hL) (fun h => kf ?_ ol okt om Γ A p l e s m args below meth c fx H locs lsA hP hS hL)
  · first | exact hi.mp h | exact fun q => h (hi.mpr q)
  · first | exact fun q => h (hi.mpr q) | exact fun q => q (hi.mp (Classical.not_not.mp h)) | exact fun q => absurd (hi.mp (by first | exact h | exact Classical.not_not.mp h)) q
theorem v_icmp_ge {M : MD} {d : Nat} {Q : Option Int → Mem → Prop} {pc : Nat} {ls st : List AV} {σ : Mem} {a b : Int} {off : Int} (tgt pc' : Nat) (hdg : decode M.2.1 pc = .ok (.if_icmp .ge off, 3)) (ht : (pc : Int) + off = (tgt : Int)) (hq : pc + 3 = pc') (kt : b ≤ a → V M d Q tgt ls st σ) (kf : ¬ (b ≤ a) → V M d Q pc' ls st σ) : V M d Q pc ls (.inl b :: .inl a :: st) σ := by
  intro ol os om Γ A p l e s m args below meth c fx H locs lsA hP hS hL
  have fx0 := fx
  obtain ⟨hx, hb, hml, hr, hown, hts, hlk, hK, hD, hA⟩ := fx0
  subst hq
  have hi := r_le (okL_h os) (okL_h (okL_t os))
  have okt := okL_t (okL_t os)
  refine lv_icmp_ge hx hb hdg ht (fun h => kt ?_ ol okt om Γ A p l e s m args below meth c fx H locs lsA hP hS hL) (fun h => kf ?_ ol okt om Γ A p l e s m args below meth c fx H locs lsA hP hS hL)
  · first | exact hi.mp h | exact fun q => h (hi.mpr q)
  · first | exact fun q => h (hi.mpr q) | exact fun q => q (hi.mp (Classical.not_not.mp h)) | exact fun q => absurd (hi.mp (by first | exact h | exact Classical.not_not.mp h)) q
theorem v_if_ge {M : MD} {d : Nat} {Q : Option Int → Mem → Prop} {pc : Nat} {ls st : List AV} {σ : Mem} {a : Int} {off : Int} (tgt pc' : Nat) (hdg : decode M.2.1 pc = .ok (.ifCond .ge off, 3)) (ht : (pc : Int) + off = (tgt : Int)) (hq : pc + 3 = pc') (kt : 0 ≤ a → V M d Q tgt ls st σ) (kf : ¬ (0 ≤ a) → V M d Q pc' ls st σ) : V M d Q pc ls (.inl a :: st) σ := by
  intro ol os om Γ A p l e s m args below meth c fx H locs lsA hP hS hL
  have fx0 := fx
  obtain ⟨hx, hb, hml, hr, hown, hts, hlk, hK, hD, hA⟩ := fx0
  subst hq
  have hi := r_le r_0 (okL_h os)
  have okt := okL_t os
  refine lv_if_ge hx hb hdg ht (fun h => kt ?_ ol okt om Γ A p l e s m args below meth c fx H locs lsA hP hS hL) (fun h => kf ?_ ol okt om Γ A p l e s m args below meth c fx H locs lsA hP hS hL)
  · first | exact hi.mp h | exact fun q => h (hi.mpr q)
  · first | exact fun q => h (hi.mpr q) | exact fun q => q (hi.mp (Classical.not_not.mp h)) | exact fun q => absurd (hi.mp (by first | exact h | exact Classical.not_not.mp h)) q
theorem v_icmp_gt {M : MD} {d : Nat} {Q : Option Int → Mem → Prop} {pc : Nat} {ls st : List AV} {σ : Mem} {a b : Int} {off : Int} (tgt pc' : Nat) (hdg : decode M.2.1 pc = .ok (.if_icmp .gt off, 3)) (ht : (pc : Int) + off = (tgt : Int)) (hq : pc + 3 = pc') (kt : b < a → V M d Q tgt ls st σ) (kf : ¬ (b < a) → V M d Q pc' ls st σ) : V M d Q pc ls (.inl b :: .inl a :: st) σ := by
  intro ol os om Γ A p l e s m args below meth c fx H locs lsA hP hS hL
  have fx0 := fx
  obtain ⟨hx, hb, hml, hr, hown, hts, hlk, hK, hD, hA⟩ := fx0
  subst hq
  have hi := r_lt (okL_h os) (okL_h (okL_t os))
  have okt := okL_t (okL_t os)
  refine lv_icmp_gt hx hb hdg ht (fun h => kt ?_ ol okt om Γ A p l e s m args below meth c fx H locs lsA hP hS hL) (fun h => kf ?_ ol okt om Γ A p l e s m args below meth c fx H locs lsA hP hS hL)
  · first | exact hi.mp h | exact fun q => h (hi.mpr q)
  · first | exact fun q => h (hi.mpr q) | exact fun q => q (hi.mp (Classical.not_not.mp h)) | exact fun q => absurd (hi.mp (by first | exact h | exact Classical.not_not.mp h)) q
theorem v_if_gt {M : MD} {d : Nat} {Q : Option Int → Mem → Prop} {pc : Nat} {ls st : List AV} {σ : Mem} {a : Int} {off : Int} (tgt pc' : Nat) (hdg : decode M.2.1 pc = .ok (.ifCond .gt off, 3)) (ht : (pc : Int) + off = (tgt : Int)) (hq : pc + 3 = pc') (kt : 0 < a → V M d Q tgt ls st σ) (kf : ¬ (0 < a) → V M d Q pc' ls st σ) : V M d Q pc ls (.inl a :: st) σ := by
  intro ol os om Γ A p l e s m args below meth c fx H locs lsA hP hS hL
  have fx0 := fx
  obtain ⟨hx, hb, hml, hr, hown, hts, hlk, hK, hD, hA⟩ := fx0
  subst hq
  have hi := r_lt r_0 (okL_h os)
  have okt := okL_t os
  refine lv_if_gt hx hb hdg ht (fun h => kt ?_ ol okt om Γ A p l e s m args below meth c fx H locs lsA hP hS hL) (fun h => kf ?_ ol okt om Γ A p l e s m args below meth c fx H locs lsA hP hS hL)
  · first | exact hi.mp h | exact fun q => h (hi.mpr q)
  · first | exact fun q => h (hi.mpr q) | exact fun q => q (hi.mp (Classical.not_not.mp h)) | exact fun q => absurd (hi.mp (by first | exact h | exact Classical.not_not.mp h)) q
theorem v_icmp_le {M : MD} {d : Nat} {Q : Option Int → Mem → Prop} {pc : Nat} {ls st : List AV} {σ : Mem} {a b : Int} {off : Int} (tgt pc' : Nat) (hdg : decode M.2.1 pc = .ok (.if_icmp .le off, 3)) (ht : (pc : Int) + off = (tgt : Int)) (hq : pc + 3 = pc') (kt : a ≤ b → V M d Q tgt ls st σ) (kf : ¬ (a ≤ b) → V M d Q pc' ls st σ) : V M d Q pc ls (.inl b :: .inl a :: st) σ := by
  intro ol os om Γ A p l e s m args below meth c fx H locs lsA hP hS hL
  have fx0 := fx
  obtain ⟨hx, hb, hml, hr, hown, hts, hlk, hK, hD, hA⟩ := fx0
  subst hq
  have hi := r_le (okL_h (okL_t os)) (okL_h os)
  have okt := okL_t (okL_t os)
  refine lv_icmp_le hx hb hdg ht (fun h => kt ?_ ol okt om Γ A p l e s m args below meth c fx H locs lsA hP hS hL) (fun h => kf ?_ ol okt om Γ A p l e s m args below meth c fx H locs lsA hP hS hL)
  · first | exact hi.mp h | exact fun q => h (hi.mpr q)
  · first | exact fun q => h (hi.mpr q) | exact fun q => q (hi.mp (Classical.not_not.mp h)) | exact fun q => absurd (hi.mp (by first | exact h | exact Classical.not_not.mp h)) q
theorem v_if_le {M : MD} {d : Nat} {Q : Option Int → Mem → Prop} {pc : Nat} {ls st : List AV} {σ : Mem} {a : Int} {off : Int} (tgt pc' : Nat) (hdg : decode M.2.1 pc = .ok (.ifCond .le off, 3)) (ht : (pc : Int) + off = (tgt : Int)) (hq : pc + 3 = pc') (kt : a ≤ 0 → V M d Q tgt ls st σ) (kf : ¬ (a ≤ 0) → V M d Q pc' ls st σ) : V M d Q pc ls (.inl a :: st) σ := by
  intro ol os om Γ A p l e s m args below meth c fx H locs lsA hP hS hL
  have fx0 := fx
  obtain ⟨hx, hb, hml, hr, hown, hts, hlk, hK, hD, hA⟩ := fx0
  subst hq
  have hi := r_le (okL_h os) r_0
  have okt := okL_t os
  refine lv_if_le hx hb hdg ht (fun h => kt ?_ ol okt om Γ A p l e s m args below meth c fx H locs lsA hP hS hL) (fun h => kf ?_ ol okt om Γ A p l e s m args below meth c fx H locs lsA hP hS hL)
  · first | exact hi.mp h | exact fun q => h (hi.mpr q)
  · first | exact fun q => h (hi.mpr q) | exact fun q => q (hi.mp (Classical.not_not.mp h)) | exact fun q => absurd (hi.mp (by first | exact h | exact Classical.not_not.mp h)) q
theorem v_goto {M : MD} {d : Nat} {Q : Option Int → Mem → Prop} {pc : Nat} {ls st : List AV} {σ : Mem} {off : Int} (tgt : Nat) (hdg : decode M.2.1 pc = .ok (.goto off, 3)) (ht : (pc : Int) + off = (tgt : Int)) (k : V M d Q tgt ls st σ) : V M d Q pc ls st σ := by
  intro ol os om Γ A p l e s m args below meth c fx H locs lsA hP hS hL
  have fx0 := fx
  obtain ⟨hx, hb, hml, hr, hown, hts, hlk, hK, hD, hA⟩ := fx0
  exact lv_goto hx hb hdg ht (k ol os om Γ A p l e s m args below meth c fx H locs lsA hP hS hL)
theorem v_tabIn {M : MD} {d : Nat} {Q : Option Int → Mem → Prop} {pc : Nat} {ls st : List AV} {σ : Mem} {dflt lo hi : Int} {offs : Array Int} {len : Nat} {a off : Int} (tgt : Nat) (hdg : decode M.2.1 pc = .ok (.tableswitch dflt lo hi offs, len)) (h1 : ¬ a < lo) (h2 : ¬ hi < a) (ho : offs[(a - lo).toNat]? = some off) (ht : (pc : Int) + off = (tgt : Int)) (k : V M d Q tgt ls st σ) : V M d Q pc ls (.inl a :: st) σ := by
  intro ol os om Γ A p l e s m args below meth c fx H locs lsA hP hS hL
  have fx0 := fx
  obtain ⟨hx, hb, hml, hr, hown, hts, hlk, hK, hD, hA⟩ := fx0
  have ee := r_to (okL_h os)
  exact lv_tableIn hx hb hdg (by rw [ee]; exact h1) (by rw [ee]; exact h2) (by rw [ee]; exact ho) ht (k ol (okL_t os) om Γ A p l e s m args below meth c fx H locs lsA hP hS hL)
theorem v_tabOut {M : MD} {d : Nat} {Q : Option Int → Mem → Prop} {pc : Nat} {ls st : List AV} {σ : Mem} {dflt lo hi : Int} {offs : Array Int} {len : Nat} {a : Int} (tgt : Nat) (hdg : decode M.2.1 pc = .ok (.tableswitch dflt lo hi offs, len)) (h : a < lo ∨ hi < a) (ht : (pc : Int) + dflt = (tgt : Int)) (k : V M d Q tgt ls st σ) : V M d Q pc ls (.inl a :: st) σ := by
  intro ol os om Γ A p l e s m args below meth c fx H locs lsA hP hS hL
  have fx0 := fx
  obtain ⟨hx, hb, hml, hr, hown, hts, hlk, hK, hD, hA⟩ := fx0
  have ee := r_to (okL_h os)
  exact lv_tableOut hx hb hdg (by rw [ee]; exact h) ht (k ol (okL_t os) om Γ A p l e s m args below meth c fx H locs lsA hP hS hL)
end
section
/-! fields and arrays -/
def FL (own : String) (idx ci k : Nat) : Prop := ∃ (C : String) (T : u_T) (N : Nat), vwCl[ci]? = some (C, T, N) ∧ k < N ∧ (∀ w ∈ u_ws C T N, w ∈ ALL) ∧ Cond.fieldLink own idx (T k).1 (T k).2.1 (T k).2.2.1 ∈ ALL
def FP (own : String) (idx ci k : Nat) (ty : FieldType) : Prop := ∃ (C : String) (T : u_T) (N : Nat) (ty0 : Nat → FieldType), vwCl[ci]? = some (C, T, N) ∧ k < N ∧ (∀ w ∈ u_ws C T N, w ∈ ALL) ∧ Cond.fieldLink own idx (T k).1 (T k).2.1 (T k).2.2.1 ∈ ALL ∧ (∀ k, k < N → parseFieldDescriptor (T k).2.2.1 = some (ty0 k)) ∧ (∀ a, a < N → ∀ b, b < N → a ≠ b → (T a).2.1 ≠ (T b).2.1) ∧ (T k).2.2.2 = false ∧ parseFieldDescriptor (T k).2.2.1 = some ty
theorem v_getI {M : MD} {d : Nat} {Q : Option Int → Mem → Prop} {pc : Nat} {ls st : List AV} {σ : Mem} {cx ci k idx : Nat} {fl : List (Option Nat)} (pc' : Nat) (kI : Int) (hdg : decode M.2.1 pc = .ok (.getfield idx, 3)) (hq : pc + 3 = pc') (hf : FL M.1.cls idx ci k) (hs : shapes[cx]? = some (3, ci, fl)) (hk : fl[k]? = some none) (hkI : (k : Int) = kI) (kk : V M d Q pc' ls (.inl (σ cx kI) :: st) σ) : V M d Q pc ls (.inr (some cx) :: st) σ := by
  intro ol os om Γ A p l e s m args below meth c fx H locs lsA hP hS hL
  have fx0 := fx
  obtain ⟨hx, hb, hml, hr, hown, hts, hlk, hK, hD, hA⟩ := fx0
  subst hq
  subst hkI
  obtain ⟨C, T, N, h1, h2, h3, h4⟩ := hf
  refine va_get (D := Γ.2.1) (ci := ci) (v := vI (σ cx (k : Int))) (C := C) (T := T) (N := N) hx hb hts h3 hown hK.1 hP cx (wl_obj hs) h1 k h2 (hts _ h4) (fun _ h9 => h9) (by rw [List.getElem?_mapIdx, hk]; rfl) hdg ?_
  exact kk ol (okL_i (om _ _) (okL_t os)) om Γ A p l e s m args below meth c fx H locs lsA hP hS hL
theorem v_getR {M : MD} {d : Nat} {Q : Option Int → Mem → Prop} {pc : Nat} {ls st : List AV} {σ : Mem} {cx ci k idx : Nat} {fl : List (Option Nat)} {q0 : Nat} (pc' : Nat) (hdg : decode M.2.1 pc = .ok (.getfield idx, 3)) (hq : pc + 3 = pc') (hf : FL M.1.cls idx ci k) (hs : shapes[cx]? = some (3, ci, fl)) (hk : fl[k]? = some (some q0)) (kk : V M d Q pc' ls (.inr (some q0) :: st) σ) : V M d Q pc ls (.inr (some cx) :: st) σ := by
  intro ol os om Γ A p l e s m args below meth c fx H locs lsA hP hS hL
  have fx0 := fx
  obtain ⟨hx, hb, hml, hr, hown, hts, hlk, hK, hD, hA⟩ := fx0
  subst hq
  obtain ⟨C, T, N, h1, h2, h3, h4⟩ := hf
  refine va_get (D := Γ.2.1) (ci := ci) (v := .ref (Γ.1 q0)) (C := C) (T := T) (N := N) hx hb hts h3 hown hK.1 hP cx (wl_obj hs) h1 k h2 (hts _ h4) (fun _ h9 => h9) (by rw [List.getElem?_mapIdx, hk]; rfl) hdg ?_
  exact kk ol (okL_r (okL_t os)) om Γ A p l e s m args below meth c fx H locs lsA hP hS hL
theorem obj_set {Γ : Wd} {σ : Mem} {cx ci k : Nat} {fl : List (Option Nat)} {v : Int} (hk : fl[k]? = some none) : cellE Γ (wr σ cx (k : Int) v) cx (3, ci, fl) = .inr (ci, (fl.mapIdx (objF Γ σ cx)).set k (vI v)) := by
  have hlt : k < fl.length := (List.getElem?_eq_some_iff.mp hk).1
  show Sum.inr (ci, _) = _
  congr 2
  apply List.ext_getElem?
  intro i
  by_cases hi : k = i
  · subst hi
    rw [List.getElem?_set_self (by simpa using hlt), List.getElem?_mapIdx, hk]
    simp [wr, objF]
  · rw [List.getElem?_set_ne hi]
    simp only [List.getElem?_mapIdx]
    have hne : ¬ ((i : Int) = (k : Int)) := by omega
    cases fl[i]? with
    | none => rfl
    | some q => cases q with
      | none => simp [wr, objF, hne]
      | some r => rfl
theorem v_putG {M : MD} {d : Nat} {Q : Option Int → Mem → Prop} {pc : Nat} {ls st : List AV} {σ : Mem} {cx ci k idx : Nat} {fl : List (Option Nat)} {v : Int} (ty : FieldType) (pc' : Nat) (kI : Int) (hdg : decode M.2.1 pc = .ok (.putfield idx, 3)) (hq : pc + 3 = pc') (hf : FP M.1.cls idx ci k ty) (hs : shapes[cx]? = some (3, ci, fl)) (hk : fl[k]? = some none) (hkI : (k : Int) = kI) (hn : narrow ty (vI v) = vI v) (hfit : fits ty (vI v) = true) (kk : V M d Q pc' ls st (wr σ cx kI v)) : V M d Q pc ls (.inl v :: .inr (some cx) :: st) σ := by
  intro ol os om Γ A p l e s m args below meth c fx H locs lsA hP hS hL
  have fx0 := fx
  obtain ⟨hx, hb, hml, hr, hown, hts, hlk, hK, hD, hA⟩ := fx0
  subst hq
  subst hkI
  obtain ⟨C, T, N, ty0, h1, h2, h3, h4, h5, h6, h7, h8⟩ := hf
  have hlt : k < fl.length := (List.getElem?_eq_some_iff.mp hk).1
  refine va_put (D := Γ.2.1) (ci := ci) (v := vI v) (ty := ty) (C := C) (T := T) (N := N) hx hb hts h3 ty0 h5 h6 hown hK.1 hP (hD σ) hS cx (wl_obj hs) h1 k h2 (hts _ h4) (fun _ h9 => h9) h7 h8 hn hfit (by rw [List.length_mapIdx]; exact hlt) hdg (fun H1 locs1 hP1 _ hS1 => ?_)
  have ee := wl_set (Γ := Γ) (σ := σ) (σ' := wr σ cx (k : Int) v) hs (obj_set hk) (fun c' h => wr_ne h)
  exact kk ol (okL_t (okL_t os)) (okM_wr om (okL_h os)) Γ A p l e s m args below meth c fx H1 locs1 lsA (by rw [← ee]; exact hP1) hS1 hL
theorem v_putI {M : MD} {d : Nat} {Q : Option Int → Mem → Prop} {pc : Nat} {ls st : List AV} {σ : Mem} {cx ci k idx : Nat} {fl : List (Option Nat)} {v : Int} (pc' : Nat) (kI : Int) (hdg : decode M.2.1 pc = .ok (.putfield idx, 3)) (hq : pc + 3 = pc') (hf : FP M.1.cls idx ci k .int) (hs : shapes[cx]? = some (3, ci, fl)) (hk : fl[k]? = some none) (hkI : (k : Int) = kI) (kk : V M d Q pc' ls st (wr σ cx kI v)) : V M d Q pc ls (.inl v :: .inr (some cx) :: st) σ :=
  v_putG .int pc' kI hdg hq hf hs hk hkI (vp_nar_int _) rfl kk
theorem nar_b {v : Int} (h : v = 0 ∨ v = 1) : narrow .boolean (vI v) = vI v ∧ fits .boolean (vI v) = true := by
  rcases h with rfl | rfl <;> exact ⟨by decide +kernel, by decide +kernel⟩
theorem v_putZ {M : MD} {d : Nat} {Q : Option Int → Mem → Prop} {pc : Nat} {ls st : List AV} {σ : Mem} {cx ci k idx : Nat} {fl : List (Option Nat)} {v : Int} (pc' : Nat) (kI : Int) (hdg : decode M.2.1 pc = .ok (.putfield idx, 3)) (hq : pc + 3 = pc') (hf : FP M.1.cls idx ci k .boolean) (hs : shapes[cx]? = some (3, ci, fl)) (hk : fl[k]? = some none) (hkI : (k : Int) = kI) (hv : v = 0 ∨ v = 1) (kk : V M d Q pc' ls st (wr σ cx kI v)) : V M d Q pc ls (.inl v :: .inr (some cx) :: st) σ :=
  v_putG .boolean pc' kI hdg hq hf hs hk hkI (nar_b hv).1 (nar_b hv).2 kk
theorem v_iald {M : MD} {d : Nat} {Q : Option Int → Mem → Prop} {pc : Nat} {ls st : List AV} {σ : Mem} {cx n : Nat} {i : Int} (pc' : Nat) (hdg : decode M.2.1 pc = .ok (.iaload, 1)) (hq : pc + 1 = pc') (hs : shapes[cx]? = some (0, n, [])) (hi : 0 ≤ i ∧ i < (n : Int)) (kk : V M d Q pc' ls (.inl (σ cx i) :: st) σ) : V M d Q pc ls (.inl i :: .inr (some cx) :: st) σ := by
  intro ol os om Γ A p l e s m args below meth c fx H locs lsA hP hS hL
  have fx0 := fx
  obtain ⟨hx, hb, hml, hr, hown, hts, hlk, hK, hD, hA⟩ := fx0
  subst hq
  have hri := okL_h os
  have ee : intF σ cx (Int32.ofInt i).toNatClampNeg = Int32.ofInt (σ cx i) := by unfold intF; rw [r_cl hri, Int.toNat_of_nonneg hi.1]
  refine va_iald (D := Γ.2.1) hx hb hK.1 hP cx 0 (wl_int hs) rfl (r_in hi.1 hi.2 hri) hdg ?_
  rw [ee]
  exact kk ol (okL_i (om _ _) (okL_t (okL_t os))) om Γ A p l e s m args below meth c fx H locs lsA hP hS hL
theorem v_zald {M : MD} {d : Nat} {Q : Option Int → Mem → Prop} {pc : Nat} {ls st : List AV} {σ : Mem} {cx n : Nat} {i : Int} (pc' : Nat) (hdg : decode M.2.1 pc = .ok (.baload, 1)) (hq : pc + 1 = pc') (hs : shapes[cx]? = some (1, n, [])) (hi : 0 ≤ i ∧ i < (n : Int)) (kk : V M d Q pc' ls (.inl (σ cx i) :: st) σ) : V M d Q pc ls (.inl i :: .inr (some cx) :: st) σ := by
  intro ol os om Γ A p l e s m args below meth c fx H locs lsA hP hS hL
  have fx0 := fx
  obtain ⟨hx, hb, hml, hr, hown, hts, hlk, hK, hD, hA⟩ := fx0
  subst hq
  have hri := okL_h os
  have ee : intF σ cx (Int32.ofInt i).toNatClampNeg = Int32.ofInt (σ cx i) := by unfold intF; rw [r_cl hri, Int.toNat_of_nonneg hi.1]
  refine va_zald (D := Γ.2.1) hx hb hK.1 hP cx 1 (wl_boo hs) rfl (r_in hi.1 hi.2 hri) hdg ?_
  rw [ee]
  exact kk ol (okL_i (om _ _) (okL_t (okL_t os))) om Γ A p l e s m args below meth c fx H locs lsA hP hS hL
theorem arr_setM {σ : Mem} {cx : Nat} {i v : Int} (hi : 0 ≤ i) (hr : inR i) : intF (wr σ cx i v) cx = upd (intF σ cx) (Int32.ofInt i).toNatClampNeg (Int32.ofInt v) := by
  funext j
  rw [r_cl hr]
  unfold upd intF
  by_cases hj : j = i.toNat
  · rw [if_pos hj, hj, Int.toNat_of_nonneg hi, wr_eq]
  · have hne : ¬ ((j : Int) = i) := by omega
    rw [if_neg hj, wr_at, if_neg hne]
theorem v_iast {M : MD} {d : Nat} {Q : Option Int → Mem → Prop} {pc : Nat} {ls st : List AV} {σ : Mem} {cx n : Nat} {i v : Int} (pc' : Nat) (hdg : decode M.2.1 pc = .ok (.iastore, 1)) (hq : pc + 1 = pc') (hs : shapes[cx]? = some (0, n, [])) (hi : 0 ≤ i ∧ i < (n : Int)) (kk : V M d Q pc' ls st (wr σ cx i v)) : V M d Q pc ls (.inl v :: .inl i :: .inr (some cx) :: st) σ := by
  intro ol os om Γ A p l e s m args below meth c fx H locs lsA hP hS hL
  have fx0 := fx
  obtain ⟨hx, hb, hml, hr, hown, hts, hlk, hK, hD, hA⟩ := fx0
  subst hq
  have hri := okL_h (okL_t os)
  refine va_iast (D := Γ.2.1) hx hb hK.1 hP (hD σ) hS cx 0 (wl_int hs) rfl (r_in hi.1 hi.2 hri) hdg (fun H1 locs1 hP1 _ hS1 => ?_)
  have ee := wl_set (Γ := Γ) (σ := σ) (σ' := wr σ cx i v) (e := .inl (Γ.2.2.1, n, .inl (upd (intF σ cx) (Int32.ofInt i).toNatClampNeg (Int32.ofInt v)))) hs (by rw [← arr_setM hi.1 hri]; rfl) (fun c' h => wr_ne h)
  exact kk ol (okL_t (okL_t (okL_t os))) (okM_wr om (okL_h os)) Γ A p l e s m args below meth c fx H1 locs1 lsA (by rw [← ee]; exact hP1) hS1 hL
theorem v_zast {M : MD} {d : Nat} {Q : Option Int → Mem → Prop} {pc : Nat} {ls st : List AV} {σ : Mem} {cx n : Nat} {i v : Int} (pc' : Nat) (hdg : decode M.2.1 pc = .ok (.bastore, 1)) (hq : pc + 1 = pc') (hs : shapes[cx]? = some (1, n, [])) (hi : 0 ≤ i ∧ i < (n : Int)) (hv : v = 0 ∨ v = 1) (kk : V M d Q pc' ls st (wr σ cx i v)) : V M d Q pc ls (.inl v :: .inl i :: .inr (some cx) :: st) σ := by
  intro ol os om Γ A p l e s m args below meth c fx H locs lsA hP hS hL
  have fx0 := fx
  obtain ⟨hx, hb, hml, hr, hown, hts, hlk, hK, hD, hA⟩ := fx0
  subst hq
  have hri := okL_h (okL_t os)
  have hnv : vp_nar .boolean (Int32.ofInt v) = Int32.ofInt v := by rcases hv with rfl | rfl <;> decide +kernel
  refine va_zast (D := Γ.2.1) hx hb hK.1 hP (hD σ) hS cx 1 (wl_boo hs) rfl (r_in hi.1 hi.2 hri) hdg (fun H1 locs1 hP1 _ hS1 => ?_)
  rw [hnv] at hP1
  have ee := wl_set (Γ := Γ) (σ := σ) (σ' := wr σ cx i v) (e := .inl (Γ.2.2.2.1, n, .inl (upd (intF σ cx) (Int32.ofInt i).toNatClampNeg (Int32.ofInt v)))) hs (by rw [← arr_setM hi.1 hri]; rfl) (fun c' h => wr_ne h)
  exact kk ol (okL_t (okL_t (okL_t os))) (okM_wr om (okL_h os)) Γ A p l e s m args below meth c fx H1 locs1 lsA (by rw [← ee]; exact hP1) hS1 hL
theorem v_aald {M : MD} {d : Nat} {Q : Option Int → Mem → Prop} {pc : Nat} {ls st : List AV} {σ : Mem} {cx n b : Nat} {i : Int} (pc' : Nat) (hdg : decode M.2.1 pc = .ok (.aaload, 1)) (hq : pc + 1 = pc') (hs : shapes[cx]? = some (2, n, [some b])) (hi : 0 ≤ i ∧ i < (n : Int)) (kk : V M d Q pc' ls (.inr (some (b + i.toNat)) :: st) σ) : V M d Q pc ls (.inl i :: .inr (some cx) :: st) σ := by
  intro ol os om Γ A p l e s m args below meth c fx H locs lsA hP hS hL
  have fx0 := fx
  obtain ⟨hx, hb, hml, hr, hown, hts, hlk, hK, hD, hA⟩ := fx0
  subst hq
  have hri := okL_h os
  have hin := r_in (n := n) hi.1 hi.2 hri
  have hlt : (Int32.ofInt i).toNatClampNeg < n := Nat.not_le.mp fun q => hin (Or.inr q)
  have hv : va_rf (rowF Γ n b (Int32.ofInt i).toNatClampNeg) = .ref (Γ.1 (b + i.toNat)) := by unfold rowF; rw [if_pos hlt, r_cl hri]; rfl
  refine W.aald (v := .ref (Γ.1 (b + i.toNat))) (ty := .array .int) hx hb (hP cx _ (wl_row hs)) ((hK.1.2 2 _ rfl).1 n (fun j => va_rf (rowF Γ n b j))) rfl (fun q => by cases q) (by show ¬ (Int32.ofInt i < 0 ∨ (arrV _ _ _).slots.size ≤ _); rw [arrV_size]; exact hin) (by show (arrV _ _ _).slots[_]? = _; rw [arrV_read _ _ hlt]; exact congrArg some hv) rfl rfl hdg ?_
  exact kk ol (okL_r (okL_t (okL_t os))) om Γ A p l e s m args below meth c fx H locs lsA hP hS hL
theorem v_copy {M : MD} {d : Nat} {Q : Option Int → Mem → Prop} {pc : Nat} {ls : List AV} {σ : Mem} {a b na nb idx : Nat} {sp dp n : Int} (pc' : Nat) (hdg : decode M.2.1 pc = .ok (.invokestatic idx, 3)) (hq : pc + 3 = pc') (hl0 : Cond.methodLink M.1.cls idx arraycopyName ∈ ALL) (hd : 1 ≤ d) (hsa : shapes[a]? = some (0, na, [])) (hsb : shapes[b]? = some (0, nb, [])) (hi : 0 ≤ sp ∧ 0 ≤ dp ∧ 0 ≤ n ∧ sp + n ≤ (na : Int) ∧ dp + n ≤ (nb : Int)) (kk : V M d Q pc' ls [] (cp σ a sp b dp n)) : V M d Q pc ls [.inl n, .inl dp, .inr (some b), .inl sp, .inr (some a)] σ := by
  intro ol os om Γ A p l e s m args below meth c fx H locs lsA hP hS hL
  have fx0 := fx
  obtain ⟨hx, hb, hml, hr, hown, hts, hlk, hK, hD, hA⟩ := fx0
  subst hq
  obtain ⟨i1, i2, i3, i4, i5⟩ := hi
  have rn := okL_h os
  have rd := okL_h (okL_t os)
  have rs := okL_h (okL_t (okL_t (okL_t os)))
  have z : ∀ {x : Int}, 0 ≤ x → inR x → ¬ Int32.ofInt x < 0 := fun h hr q => by
    have := (r_lt hr r_0).mp q
    omega
  have hfr : 1 ≤ (rmOf d).frames := hd
  have h9 : (([] : List Value).map fun v : Value => v.category).sum + (nativeFrameWords "java/lang/System" "arraycopy" 5 + 11) ≤ 64 := by decide +kernel
  have hlo : (([] : List Value).map fun v : Value => v.category).sum + (nativeFrameWords "java/lang/System" "arraycopy" 5 + 11) ≤ (rmOf d).locals := by
    show _ ≤ 64 * d
    omega
  refine va_copyi (R := rmOf d) (D := Γ.2.1) (ty := .int) (rest := []) hx hb (by rw [hml]; exact hL.1.symm) hown (hts _ hl0) (hts _ sys_words.1.1) (hts _ sys_words.1.2) (hts _ sys_words.2) hK.1 hP (hD σ) hS a b 0 0 (wl_int hsa) (wl_int hsb) rfl rfl rfl (z i1 rs) (z i2 rd) (z i3 rn) (by rw [r_cl rs, r_cl rn]; omega) (by rw [r_cl rd, r_cl rn]; omega) (fun _ _ => rfl) hfr hlo hdg (fun H1 locs1 hP1 _ hS1 => ?_)
  have ef : intF (cp σ a sp b dp n) b = va_cpy (intF σ a) (intF σ b) (Int32.ofInt sp).toNatClampNeg (Int32.ofInt dp).toNatClampNeg (Int32.ofInt n).toNatClampNeg := by
    funext j
    unfold intF
    rw [r_cl rs, r_cl rd, r_cl rn, cp_at]
    unfold va_cpy
    by_cases hj : dp ≤ (j : Int) ∧ (j : Int) < dp + n
    · have hj2 : dp.toNat ≤ j ∧ j < dp.toNat + n.toNat := by omega
      rw [if_pos hj, if_pos hj2]
      have e9 : ((sp.toNat + (j - dp.toNat) : Nat) : Int) = sp + ((j : Int) - dp) := by omega
      show _ = Int32.ofInt (σ a ((sp.toNat + (j - dp.toNat) : Nat) : Int))
      rw [e9]
    · have hj2 : ¬ (dp.toNat ≤ j ∧ j < dp.toNat + n.toNat) := by omega
      rw [if_neg hj, if_neg hj2]
  have ee := wl_set (Γ := Γ) (σ := σ) (σ' := cp σ a sp b dp n) (e := .inl (Γ.2.2.1, nb, .inl (va_cpy (intF σ a) (intF σ b) (Int32.ofInt sp).toNatClampNeg (Int32.ofInt dp).toNatClampNeg (Int32.ofInt n).toNatClampNeg))) hsb (by rw [← ef]; rfl) (fun c' h => cp_ne h)
  exact kk ol (fun z hz => by cases hz) (okM_cp om) Γ A p l e s m args below meth c fx H1 locs1 lsA (by rw [← ee]; exact hP1) hS1 hL
theorem cat_sum (Γ : Wd) (st : List AV) : ((st.map (av Γ)).map fun v => v.category).sum = st.length := by
  induction st with
  | nil => rfl
  | cons a l ih => simp only [List.map_cons, List.sum_cons, ih, av_cat, List.length_cons]; omega

theorem v_mmax {M : MD} {d : Nat} {Q : Option Int → Mem → Prop} {pc : Nat} {ls st : List AV} {σ : Mem} {a b : Int} {idx : Nat} (pc' : Nat) (hdg : decode M.2.1 pc = .ok (.invokestatic idx, 3)) (hq : pc + 3 = pc') (hl0 : Cond.methodLink M.1.cls idx Lib.Math.max.name ∈ ALL) (hd : 1 ≤ d) (hst : st.length ≤ 8) (kk : V M d Q pc' ls (.inl (max a b) :: st) σ) : V M d Q pc ls (.inl b :: .inl a :: st) σ := by
  intro ol os om Γ A p l e s m args below meth c fx H locs lsA hP hS hL
  have fx0 := fx
  obtain ⟨hx, hb, hml, hr, hown, hts, hlk, hK, hD, hA⟩ := fx0
  subst hq
  have rb := okL_h os
  have ra := okL_h (okL_t os)
  have rmx : inR (max a b) := by unfold inR at *; omega
  have k0 := kk ol (okL_i rmx (okL_t (okL_t os))) om Γ A p l e s m args below meth c fx H locs lsA hP hS hL
  refine va_mmax hx hb (by rw [hml]; exact hL.1.symm) hown (hts _ hl0) (hts _ math_words.1.1.1) (hts _ math_words.2.2) (hts _ math_words.1.1.2) (by show 1 ≤ d; exact hd) (by rw [cat_sum]; show st.length + 13 ≤ 64 * d; omega) (Nat.le_refl _) (Nat.le_refl _) hdg ?_
  have ee : ∀ z : Int32, z = Int32.ofInt (max a b) → W p l e (rmOf d) s m args below meth c H locs 0 0 (MQ below (Qc Γ A Q) args s 0 0 A) (F0 m (pc + 3) lsA (.int z :: st.map (av Γ))) := fun z hz => by rw [hz]; exact k0
  apply ee
  have hlt := r_lt ra rb
  have hlt2 := r_lt rb ra
  split
  · rename_i h
    first | (have := hlt.mp h; congr 1; omega) | (have := hlt2.mp h; congr 1; omega)
  · rename_i h
    first | (have : ¬ a < b := fun q => h (hlt.mpr q); congr 1; omega) | (have : ¬ b < a := fun q => h (hlt2.mpr q); congr 1; omega)
theorem v_mmin {M : MD} {d : Nat} {Q : Option Int → Mem → Prop} {pc : Nat} {ls st : List AV} {σ : Mem} {a b : Int} {idx : Nat} (pc' : Nat) (hdg : decode M.2.1 pc = .ok (.invokestatic idx, 3)) (hq : pc + 3 = pc') (hl0 : Cond.methodLink M.1.cls idx Lib.Math.min.name ∈ ALL) (hd : 1 ≤ d) (hst : st.length ≤ 8) (kk : V M d Q pc' ls (.inl (min a b) :: st) σ) : V M d Q pc ls (.inl b :: .inl a :: st) σ := by
  intro ol os om Γ A p l e s m args below meth c fx H locs lsA hP hS hL
  have fx0 := fx
  obtain ⟨hx, hb, hml, hr, hown, hts, hlk, hK, hD, hA⟩ := fx0
  subst hq
  have rb := okL_h os
  have ra := okL_h (okL_t os)
  have rmx : inR (min a b) := by unfold inR at *; omega
  have k0 := kk ol (okL_i rmx (okL_t (okL_t os))) om Γ A p l e s m args below meth c fx H locs lsA hP hS hL
  refine va_mmin hx hb (by rw [hml]; exact hL.1.symm) hown (hts _ hl0) (hts _ math_words.1.2.1) (hts _ math_words.2.2) (hts _ math_words.1.2.2) (by show 1 ≤ d; exact hd) (by rw [cat_sum]; show st.length + 13 ≤ 64 * d; omega) (Nat.le_refl _) (Nat.le_refl _) hdg ?_
  have ee : ∀ z : Int32, z = Int32.ofInt (min a b) → W p l e (rmOf d) s m args below meth c H locs 0 0 (MQ below (Qc Γ A Q) args s 0 0 A) (F0 m (pc + 3) lsA (.int z :: st.map (av Γ))) := fun z hz => by rw [hz]; exact k0
  apply ee
  have hlt := r_lt ra rb
  have hlt2 := r_lt rb ra
  split
  · rename_i h
    first | (have := hlt.mp h; congr 1; omega) | (have := hlt2.mp h; congr 1; omega)
  · rename_i h
    first | (have : ¬ a < b := fun q => h (hlt.mpr q); congr 1; omega) | (have : ¬ b < a := fun q => h (hlt2.mpr q); congr 1; omega)
theorem v_mabs {M : MD} {d : Nat} {Q : Option Int → Mem → Prop} {pc : Nat} {ls st : List AV} {σ : Mem} {a : Int} {idx : Nat} (pc' : Nat) (hdg : decode M.2.1 pc = .ok (.invokestatic idx, 3)) (hq : pc + 3 = pc') (hl0 : Cond.methodLink M.1.cls idx Lib.Math.abs.name ∈ ALL) (hd : 1 ≤ d) (hst : st.length ≤ 8) (hr0 : -2147483647 ≤ a) (kk : V M d Q pc' ls (.inl (if 0 ≤ a then a else -a) :: st) σ) : V M d Q pc ls (.inl a :: st) σ := by
  intro ol os om Γ A p l e s m args below meth c fx H locs lsA hP hS hL
  have fx0 := fx
  obtain ⟨hx, hb, hml, hr, hown, hts, hlk, hK, hD, hA⟩ := fx0
  subst hq
  have ra := okL_h os
  have rmx : inR (if 0 ≤ a then a else -a) := by unfold inR at *; split <;> omega
  have k0 := kk ol (okL_i rmx (okL_t os)) om Γ A p l e s m args below meth c fx H locs lsA hP hS hL
  refine va_mabs hx hb (by rw [hml]; exact hL.1.symm) hown (hts _ hl0) (hts _ math_words.2.1.1) (hts _ math_words.2.2) (hts _ math_words.2.1.2) (by show 1 ≤ d; exact hd) (by rw [cat_sum]; show st.length + 13 ≤ 64 * d; omega) (Nat.le_refl _) (Nat.le_refl _) hdg ?_
  have ee : ∀ z : Int32, z = Int32.ofInt (if 0 ≤ a then a else -a) → W p l e (rmOf d) s m args below meth c H locs 0 0 (MQ below (Qc Γ A Q) args s 0 0 A) (F0 m (pc + 3) lsA (.int z :: st.map (av Γ))) := fun z hz => by rw [hz]; exact k0
  apply ee
  have hle := r_le r_0 ra
  split
  · rename_i h
    rw [if_pos (hle.mp h)]
  · rename_i h
    rw [if_neg (fun q => h (hle.mpr q)), Int32.ofInt_neg, Int32.zero_sub]
/-! returns -/
theorem v_iret {M : MD} {d : Nat} {Q : Option Int → Mem → Prop} {pc : Nat} {ls : List AV} {σ : Mem} {x : Int} (hdg : decode M.2.1 pc = .ok (.ireturn, 1)) (hm : M.2.2.2 = some .int) (h : Q (some x) σ) : V M d Q pc ls [.inl x] σ := by
  intro ol os om Γ A p l e s m args below meth c fx H locs lsA hP hS hL
  have fx0 := fx
  obtain ⟨hx, hb, hml, hr, hown, hts, hlk, hK, hD, hA⟩ := fx0
  exact W.iret (Qc := Qc Γ A Q) (v := Int32.ofInt x) hx hb (hr.trans hm) (fun t ht hW => ⟨⟨some x, σ, rfl, h, om, (fun y e => by cases e; exact okL_h os), by rw [ht]; exact hP⟩, hS.F ht⟩) hS.2.2 hdg hlk
theorem v_zret {M : MD} {d : Nat} {Q : Option Int → Mem → Prop} {pc : Nat} {ls : List AV} {σ : Mem} {x : Int} (hdg : decode M.2.1 pc = .ok (.ireturn, 1)) (hm : M.2.2.2 = some .boolean) (hv : x = 0 ∨ x = 1) (h : Q (some x) σ) : V M d Q pc ls [.inl x] σ := by
  intro ol os om Γ A p l e s m args below meth c fx H locs lsA hP hS hL
  have fx0 := fx
  obtain ⟨hx, hb, hml, hr, hown, hts, hlk, hK, hD, hA⟩ := fx0
  exact W.zret (Qc := Qc Γ A Q) (v := Int32.ofInt x) hx hb (hr.trans hm) (nar_b hv).1 (fun t ht hW => ⟨⟨some x, σ, rfl, h, om, (fun y e => by cases e; exact okL_h os), by rw [ht]; exact hP⟩, hS.F ht⟩) hS.2.2 hdg hlk
theorem v_vret {M : MD} {d : Nat} {Q : Option Int → Mem → Prop} {pc : Nat} {ls : List AV} {σ : Mem} (hdg : decode M.2.1 pc = .ok (.return_, 1)) (hm : M.2.2.2 = none) (h : Q none σ) : V M d Q pc ls [] σ := by
  intro ol os om Γ A p l e s m args below meth c fx H locs lsA hP hS hL
  have fx0 := fx
  obtain ⟨hx, hb, hml, hr, hown, hts, hlk, hK, hD, hA⟩ := fx0
  exact W.vret (Qc := Qc Γ A Q) hx hb (hr.trans hm) (fun t ht hW => ⟨⟨none, σ, rfl, h, om, (fun y e => by cases e), by rw [ht]; exact hP⟩, hS.F ht⟩) hS.2.2 hdg hlk
theorem v_iretI {M : MD} {d : Nat} {K : Int → Mem → Prop} {pc : Nat} {ls : List AV} {σ : Mem} {x : Int} (hdg : decode M.2.1 pc = .ok (.ireturn, 1)) (hm : M.2.2.2 = some .int) (h : K x σ) : V M d (RI K) pc ls [.inl x] σ := v_iret hdg hm ⟨x, rfl, h⟩
theorem v_zretI {M : MD} {d : Nat} {K : Int → Mem → Prop} {pc : Nat} {ls : List AV} {σ : Mem} {x : Int} (hdg : decode M.2.1 pc = .ok (.ireturn, 1)) (hm : M.2.2.2 = some .boolean) (hv : x = 0 ∨ x = 1) (h : K x σ) : V M d (RI K) pc ls [.inl x] σ := v_zret hdg hm hv ⟨x, rfl, h⟩
theorem v_vretV {M : MD} {d : Nat} {K : Mem → Prop} {pc : Nat} {ls : List AV} {σ : Mem} (hdg : decode M.2.1 pc = .ok (.return_, 1)) (hm : M.2.2.2 = none) (h : K σ) : V M d (RV K) pc ls [] σ := v_vret hdg hm ⟨rfl, h⟩
/-! calls -/
theorem Pcc_blind (Γ : Wd) (vs : List AV) (sz : Nat) (σ : Mem) : FrameBlind (Pcc Γ vs sz σ) := fun a U g mk q => by
  obtain ⟨q0, q1, qP, qK, qD⟩ := q
  exact ⟨q0, q1, qP, ⟨va_K.moved (u := U) (U := U.calling g mk a) (Vm.Alike.refl U.vm) qK.1, va_Nw.same rfl (rfl : U.vm = (U.calling g mk a).vm) qK.2.1, va_Nw.same rfl (rfl : U.vm = (U.calling g mk a).vm) qK.2.2⟩, qD⟩
theorem KK.warm {Γ : Wd} {s U : State} (h : KK Γ s) (hW : s.WarmedH U.vm) : KK Γ U := ⟨va_K.moved hW.alike h.1, va_Nw.warmD hW h.2.1, va_Nw.warmD hW h.2.2⟩
theorem Pcc_use {Γ : Wd} {A : Nat → Prop} {vs : List AV} {σ : Mem} {H : Heap} {s : State} (hP : va_P Γ.2.1 vwCl (wl Γ σ) H) (hK : KK Γ s) (hD : va_D A (wl Γ σ)) (U : State) (hU : U.heap = H) (hW : s.WarmedH U.vm) : Pcc Γ vs H.size σ (vs.map (av Γ)).toArray U :=
  ⟨rfl, by rw [hU], by rw [hU]; exact hP, hK.warm hW, hD.weaken (fun _ _ _ _ => trivial)⟩
theorem free_in {Γ : Wd} {A : Nat → Prop} {σ : Mem} {H0 H : Heap} {locs : List Loc} (hD : va_D A (wl Γ σ)) (hS : va_S A H0 H locs) (hA : ∀ q, H0.size ≤ q → A q) : ∀ q, va_A (wl Γ σ) H.size q → A q := fun q h => by
  rcases h with ⟨k, e, hk⟩ | h
  · exact hD.2 k _ hk
  · exact hA q (Nat.le_trans hS.1 h)
theorem call_go {p : Program} {l : Launch} {e : Env} {R : Room} {s : State} {m : MethodId} {args : Array Value} {below : List Frame} {meth : Method} {c : Code} {H : Heap} {locs : List Loc} {QQ : State → Prop} {pc : Nat} {lsA : Array Slot} {st0 rest : List Value} {a : Array Value} {A A1 : Nat → Prop} {H0 : Heap} {Γ : Wd} {Q1 : Option Int → Mem → Prop} {cells slots : Nat}
    (hr : va_Run p l e R s m args below meth c H locs cells slots 0 0 (F0 m pc lsA st0) rest (Qc Γ A1 Q1 a) A1) (hS : va_S A H0 H locs) (hA : ∀ q, A1 q → A q)
    (kk : ∀ (r : Option Int) (σ' : Mem) (H1 : Heap) (locs1 : List Loc), Q1 r σ' → okM σ' → (∀ x, r = some x → inR x) → va_P Γ.2.1 vwCl (wl Γ σ') H1 → va_S A H0 H1 locs1 → W p l e R s m args below meth c H1 locs1 cells slots QQ (F0 m (pc + 3) lsA ((r.map vI).toList ++ rest))) : W p l e R s m args below meth c H locs cells slots QQ (F0 m pc lsA st0) := by
  intro T hT X
  obtain ⟨v, st₀, t, T', L, h0, X', hL, e1, e2, ⟨⟨r, σ', hv, hq, ho, hrr, hP1⟩, hz, hk⟩, st⟩ := hr T hT X
  cases hv
  rw [h0] at hz hk
  obtain ⟨t2, a1, b1⟩ := kk r σ' T'.heap (locs ++ L) hq ho hrr (by rw [e1]; exact hP1)
    ⟨Nat.le_trans hS.1 (by rw [e1]; exact hz), fun q h1 h2 => by rw [e1, hk q (Nat.lt_of_lt_of_le h1 hS.1) (fun z => h2 (hA q z))]; exact hS.2.1 q h1 h2, fun q hq => by
      rcases List.mem_append.mp hq with h | h
      · exact hS.2.2 q h
      · exact hA _ (hL q h)⟩ T' rfl X'
  exact ⟨t2, st t2 a1, b1⟩
def CV (own : String) (idx : Nat) (M' : MD) (n : Nat) : Prop := (Cond.methodLink own idx M'.1 ∈ ALL ∧ Cond.instanceMethod M'.1 ∈ ALL ∧ Cond.selects M'.1.cls M'.1 M'.1 ∈ ALL ∧ Cond.initialized M'.1.cls ∈ ALL ∧ Cond.code M'.1 M'.2.1 M'.2.2.1 M'.2.2.2 ∈ ALL) ∧ (M'.1.cls ≠ "java/lang/invoke/MethodHandle" ∧ M'.1.cls ≠ "java/lang/invoke/VarHandle" ∧ (parseMethodDescriptor M'.1.desc).map (fun d => d.parameters.length) = some n) ∧ M'.2.2.1 ≤ 40
def CS (own : String) (idx : Nat) (M' : MD) (n : Nat) : Prop := (Cond.methodLink own idx M'.1 ∈ ALL ∧ Cond.static M'.1 ∈ ALL ∧ Cond.initialized M'.1.cls ∈ ALL ∧ Cond.code M'.1 M'.2.1 M'.2.2.1 M'.2.2.2 ∈ ALL) ∧ (M'.1.cls ≠ "java/lang/invoke/MethodHandle" ∧ M'.1.cls ≠ "java/lang/invoke/VarHandle" ∧ (parseMethodDescriptor M'.1.desc).map (fun d => d.parameters.length) = some n) ∧ M'.2.2.1 ≤ 40
def CA (own : String) (idx : Nat) (x : MethodName) (M' : MD) (n : Nat) : Prop := (Cond.methodLink own idx x ∈ ALL ∧ Cond.sameMethod x.cls x.cls x.name x.desc ∈ ALL ∧ Cond.selects M'.1.cls x M'.1 ∈ ALL ∧ Cond.instanceMethod M'.1 ∈ ALL ∧ Cond.initialized M'.1.cls ∈ ALL ∧ Cond.code M'.1 M'.2.1 M'.2.2.1 M'.2.2.2 ∈ ALL) ∧ (x.cls ≠ "java/lang/invoke/MethodHandle" ∧ x.cls ≠ "java/lang/invoke/VarHandle" ∧ (parseMethodDescriptor x.desc).map (fun d => d.parameters.length) = some n) ∧ M'.2.2.1 ≤ 40
theorem ws_in {M' : MD} (h : Cond.code M'.1 M'.2.1 M'.2.2.1 M'.2.2.2 ∈ ALL) : ∀ w ∈ wsM M', w ∈ ALL := fun w hw => (List.mem_cons.mp hw).elim (fun e => e ▸ h) (fun e => e)
theorem v_callVg {M : MD} {d : Nat} {Q : Option Int → Mem → Prop} {pc : Nat} {ls st : List AV} {σ : Mem} {stk : List AV} (M' : MD) (as : List AV) {cR ci idx : Nat} {n : Nat} {fl : List (Option Nat)} {T : u_T} {N : Nat} (Q1 : Option Int → Mem → Prop) (hstk : stk = as.reverse ++ .inr (some cR) :: st) (hdg : decode M.2.1 pc = .ok (.invokevirtual idx, 3)) (hc : CV M.1.cls idx M' n) (hn : as.length = n) (hs : shapes[cR]? = some (3, ci, fl)) (hcl : vwCl[ci]? = some (M'.1.cls, T, N)) (hd : 1 ≤ d) (hst : st.length ≤ 8)
    (hrun : Run M' (d - 1) (.inr (some cR) :: as) σ Q1) (kk : ∀ r σ', Q1 r σ' → (∀ x, r = some x → inR x) → V M d Q (pc + 3) ls ((r.map Sum.inl).toList ++ st) σ') : V M d Q pc ls stk σ := by
  intro ol os om Γ A p l e s m args below meth c fx H locs lsA hP hS hL
  have fx0 := fx
  obtain ⟨hx, hb, hml, hr, hown, hts, hlk, hK, hD, hA⟩ := fx0
  subst hstk
  obtain ⟨⟨c1, c2, c3, c4, c5⟩, c6, c7⟩ := hc
  have okas : okL (.inr (some cR) :: as) := fun z hz => by
    rcases List.mem_cons.mp hz with h | h
    · cases h
    · exact os z (List.mem_append_left _ (List.mem_reverse.mpr h))
  have okst : okL st := fun z hz => os z (List.mem_append_right _ (List.mem_cons_of_mem _ hz))
  have hM := hrun okas om l Γ H.size
  have hGI : GoodIn ALL (wsV M.1.cls idx M'.1.cls M'.1 (wsM M')) := good_sub (fun w hw => by
    rcases List.mem_append.mp hw with h | h
    · simp only [List.mem_cons, List.not_mem_nil, or_false] at h
      rcases h with rfl | rfl | rfl | rfl
      · exact c1
      · exact c2
      · exact c3
      · exact c4
    · exact ws_in c5 w h)
  have hrun2 := va_runV (g := F0 m pc lsA ((as.reverse ++ .inr (some cR) :: st).map (av Γ))) (b := Γ.1 cR) (As := as.map (av Γ)) (rest := st.map (av Γ)) (e := e) (below := below) (meth := meth) (locs := locs) (cells := 0) (slots := 0) (R := rmOf d) ⟨hx, hb, hml, hown, hts⟩ hM (cwV n hts hGI rfl rfl rfl ⟨rfl, c6⟩ ⟨by show d - 1 + 1 ≤ d; omega, by show 8 + (M'.2.2.1 + 11) + 64 * (d - 1) ≤ 64 * d; omega⟩) ⟨Pcc_blind _ _ _ _, va_recv hK.1 hP hcl (wl_obj hs), Pcc_use hP hK (hD σ)⟩ rfl (by simpa using hn) hL.1 (by simp [av]) (lv_room (by rw [cat_sum]; exact hst)) hdg ⟨Nat.le_refl _, Nat.le_refl _⟩
  refine call_go hrun2 hS (free_in (hD σ) hS hA) (fun r σ' H1 locs1 hq ho hrr hP1 hS1 => ?_)
  have k0 := kk r σ' hq hrr ol (by
    cases r with
    | none => exact okst
    | some x => exact okL_i (hrr x rfl) okst) ho Γ A p l e s m args below meth c fx H1 locs1 lsA hP1 hS1 hL
  cases r with
  | none => exact k0
  | some x => exact k0
theorem v_callSg {M : MD} {d : Nat} {Q : Option Int → Mem → Prop} {pc : Nat} {ls st : List AV} {σ : Mem} {stk : List AV} (M' : MD) (as : List AV) {idx : Nat} {n : Nat} (Q1 : Option Int → Mem → Prop) (hstk : stk = as.reverse ++ st) (hdg : decode M.2.1 pc = .ok (.invokestatic idx, 3)) (hc : CS M.1.cls idx M' n) (hn : as.length = n) (hd : 1 ≤ d) (hst : st.length ≤ 8)
    (hrun : Run M' (d - 1) as σ Q1) (kk : ∀ r σ', Q1 r σ' → (∀ x, r = some x → inR x) → V M d Q (pc + 3) ls ((r.map Sum.inl).toList ++ st) σ') : V M d Q pc ls stk σ := by
  intro ol os om Γ A p l e s m args below meth c fx H locs lsA hP hS hL
  have fx0 := fx
  obtain ⟨hx, hb, hml, hr, hown, hts, hlk, hK, hD, hA⟩ := fx0
  subst hstk
  obtain ⟨⟨c1, c2, c4, c5⟩, c6, c7⟩ := hc
  have okas : okL as := fun z hz => os z (List.mem_append_left _ (List.mem_reverse.mpr hz))
  have okst : okL st := fun z hz => os z (List.mem_append_right _ hz)
  have hM := hrun okas om l Γ H.size
  have hGI : GoodIn ALL (va_wsS M.1.cls idx M'.1 (wsM M')) := good_sub (fun w hw => by
    rcases List.mem_append.mp hw with h | h
    · simp only [List.mem_cons, List.not_mem_nil, or_false] at h
      rcases h with rfl | rfl | rfl
      · exact c1
      · exact c2
      · exact c4
    · exact ws_in c5 w h)
  have hrun2 := va_runS (g := F0 m pc lsA ((as.reverse ++ st).map (av Γ))) (As := as.map (av Γ)) (rest := st.map (av Γ)) (e := e) (below := below) (meth := meth) (locs := locs) (cells := 0) (slots := 0) (R := rmOf d) ⟨hx, hb, hml, hown, hts⟩ hM (va_cwS n hts hGI rfl rfl rfl c6 ⟨by show d - 1 + 1 ≤ d; omega, by show 8 + (M'.2.2.1 + 11) + 64 * (d - 1) ≤ 64 * d; omega⟩) ⟨Pcc_blind _ _ _ _, Pcc_use hP hK (hD σ)⟩ rfl (by simpa using hn) hL.1 (by simp) (lv_room (by rw [cat_sum]; exact hst)) hdg ⟨Nat.le_refl _, Nat.le_refl _⟩
  refine call_go hrun2 hS (free_in (hD σ) hS hA) (fun r σ' H1 locs1 hq ho hrr hP1 hS1 => ?_)
  have k0 := kk r σ' hq hrr ol (by
    cases r with
    | none => exact okst
    | some x => exact okL_i (hrr x rfl) okst) ho Γ A p l e s m args below meth c fx H1 locs1 lsA hP1 hS1 hL
  cases r with
  | none => exact k0
  | some x => exact k0
theorem v_callAg {M : MD} {d : Nat} {Q : Option Int → Mem → Prop} {pc : Nat} {ls st : List AV} {σ : Mem} {stk : List AV} (x0 : MethodName) (M' : MD) (as : List AV) {cR ci idx : Nat} {n : Nat} {fl : List (Option Nat)} {T : u_T} {N : Nat} (Q1 : Option Int → Mem → Prop) (hx0 : x0 = nGoalH ∨ x0 = nGoalR) (hstk : stk = as.reverse ++ .inr (some cR) :: st) (hdg : decode M.2.1 pc = .ok (.invokevirtual idx, 3)) (hc : CA M.1.cls idx x0 M' n) (hn : as.length = n) (hs : shapes[cR]? = some (3, ci, fl)) (hcl : vwCl[ci]? = some (M'.1.cls, T, N)) (hd : 1 ≤ d) (hst : st.length ≤ 8)
    (hrun : Run M' (d - 1) (.inr (some cR) :: as) σ Q1) (kk : ∀ r σ', Q1 r σ' → (∀ x, r = some x → inR x) → V M d Q (pc + 3) ls ((r.map Sum.inl).toList ++ st) σ') : V M d Q pc ls stk σ := by
  intro ol os om Γ A p l e s m args below meth c fx H locs lsA hP hS hL
  have fx0 := fx
  obtain ⟨hx, hb, hml, hr, hown, hts, hlk, hK, hD, hA⟩ := fx0
  subst hstk
  obtain ⟨⟨c1, c2, c3, c3', c4, c5⟩, c6, c7⟩ := hc
  have okas : okL (.inr (some cR) :: as) := fun z hz => by
    rcases List.mem_cons.mp hz with h | h
    · cases h
    · exact os z (List.mem_append_left _ (List.mem_reverse.mpr h))
  have okst : okL st := fun z hz => os z (List.mem_append_right _ (List.mem_cons_of_mem _ hz))
  have hM := hrun okas om l Γ H.size
  have hGI : GoodIn ALL (va_wsU M.1.cls idx M'.1.cls x0.cls x0 M'.1 (wsM M')) := good_sub (fun w hw => by
    rcases List.mem_append.mp hw with h | h
    · simp only [List.mem_cons, List.not_mem_nil, or_false] at h
      rcases h with rfl | rfl | rfl | rfl | rfl
      · exact c1
      · exact c2
      · exact c3
      · exact c3'
      · exact c4
    · exact ws_in c5 w h)
  have hdecl : va_Nw (.declares ⟨x0.cls, x0.name, x0.desc⟩) s := by
    rcases hx0 with rfl | rfl
    · exact hK.2.1
    · exact hK.2.2
  have hrun2 := va_runU (g := F0 m pc lsA ((as.reverse ++ .inr (some cR) :: st).map (av Γ))) (b := Γ.1 cR) (As := as.map (av Γ)) (rest := st.map (av Γ)) (e := e) (below := below) (meth := meth) (locs := locs) (cells := 0) (slots := 0) (R := rmOf d) ⟨hx, hb, hml, hown, hts⟩ hM (va_cwA n hts hGI rfl rfl rfl hdecl c6 ⟨by show d - 1 + 1 ≤ d; omega, by show 8 + (M'.2.2.1 + 11) + 64 * (d - 1) ≤ 64 * d; omega⟩) ⟨Pcc_blind _ _ _ _, va_recv hK.1 hP hcl (wl_obj hs), Pcc_use hP hK (hD σ)⟩ rfl (by simpa using hn) hL.1 (by simp [av]) (lv_room (by rw [cat_sum]; exact hst)) hdg ⟨Nat.le_refl _, Nat.le_refl _⟩
  refine call_go hrun2 hS (free_in (hD σ) hS hA) (fun r σ' H1 locs1 hq ho hrr hP1 hS1 => ?_)
  have k0 := kk r σ' hq hrr ol (by
    cases r with
    | none => exact okst
    | some x => exact okL_i (hrr x rfl) okst) ho Γ A p l e s m args below meth c fx H1 locs1 lsA hP1 hS1 hL
  cases r with
  | none => exact k0
  | some x => exact k0
theorem v_cvI0 {M : MD} {d : Nat} {Q : Option Int → Mem → Prop} {pc : Nat} {ls st : List AV} {σ : Mem} {cR ci idx : Nat} {fl : List (Option Nat)} {T : u_T} {N : Nat} (M' : MD) (pc' : Nat) (hdg : decode M.2.1 pc = .ok (.invokevirtual idx, 3)) (hq : pc + 3 = pc') (hc : CV M.1.cls idx M' 0) (hs : shapes[cR]? = some (3, ci, fl)) (hcl : vwCl[ci]? = some (M'.1.cls, T, N)) (hd : 1 ≤ d) (hst : st.length ≤ 8) (hrun : Run M' (d - 1) (.inr (some cR) :: []) σ (RI fun x σ' => V M d Q pc' ls (.inl x :: st) σ')) : V M d Q pc ls (.inr (some cR) :: st) σ :=
  v_callVg M' [] _ rfl hdg hc rfl hs hcl hd hst hrun (fun r σ' ⟨x, hx, h⟩ _ => by subst hx; subst hq; exact h)
theorem v_csI0 {M : MD} {d : Nat} {Q : Option Int → Mem → Prop} {pc : Nat} {ls st : List AV} {σ : Mem} {idx : Nat} (M' : MD) (pc' : Nat) (hdg : decode M.2.1 pc = .ok (.invokestatic idx, 3)) (hq : pc + 3 = pc') (hc : CS M.1.cls idx M' 0) (hd : 1 ≤ d) (hst : st.length ≤ 8) (hrun : Run M' (d - 1) [] σ (RI fun x σ' => V M d Q pc' ls (.inl x :: st) σ')) : V M d Q pc ls (st) σ :=
  v_callSg M' [] _ rfl hdg hc rfl hd hst hrun (fun r σ' ⟨x, hx, h⟩ _ => by subst hx; subst hq; exact h)
theorem v_cvV0 {M : MD} {d : Nat} {Q : Option Int → Mem → Prop} {pc : Nat} {ls st : List AV} {σ : Mem} {cR ci idx : Nat} {fl : List (Option Nat)} {T : u_T} {N : Nat} (M' : MD) (pc' : Nat) (hdg : decode M.2.1 pc = .ok (.invokevirtual idx, 3)) (hq : pc + 3 = pc') (hc : CV M.1.cls idx M' 0) (hs : shapes[cR]? = some (3, ci, fl)) (hcl : vwCl[ci]? = some (M'.1.cls, T, N)) (hd : 1 ≤ d) (hst : st.length ≤ 8) (hrun : Run M' (d - 1) (.inr (some cR) :: []) σ (RV fun σ' => V M d Q pc' ls st σ')) : V M d Q pc ls (.inr (some cR) :: st) σ :=
  v_callVg M' [] _ rfl hdg hc rfl hs hcl hd hst hrun (fun r σ' ⟨hx, h⟩ _ => by subst hx; subst hq; exact h)
theorem v_csV0 {M : MD} {d : Nat} {Q : Option Int → Mem → Prop} {pc : Nat} {ls st : List AV} {σ : Mem} {idx : Nat} (M' : MD) (pc' : Nat) (hdg : decode M.2.1 pc = .ok (.invokestatic idx, 3)) (hq : pc + 3 = pc') (hc : CS M.1.cls idx M' 0) (hd : 1 ≤ d) (hst : st.length ≤ 8) (hrun : Run M' (d - 1) [] σ (RV fun σ' => V M d Q pc' ls st σ')) : V M d Q pc ls (st) σ :=
  v_callSg M' [] _ rfl hdg hc rfl hd hst hrun (fun r σ' ⟨hx, h⟩ _ => by subst hx; subst hq; exact h)
theorem v_cvI1 {M : MD} {d : Nat} {Q : Option Int → Mem → Prop} {pc : Nat} {ls st : List AV} {σ : Mem} {a1 : AV} {cR ci idx : Nat} {fl : List (Option Nat)} {T : u_T} {N : Nat} (M' : MD) (pc' : Nat) (hdg : decode M.2.1 pc = .ok (.invokevirtual idx, 3)) (hq : pc + 3 = pc') (hc : CV M.1.cls idx M' 1) (hs : shapes[cR]? = some (3, ci, fl)) (hcl : vwCl[ci]? = some (M'.1.cls, T, N)) (hd : 1 ≤ d) (hst : st.length ≤ 8) (hrun : Run M' (d - 1) (.inr (some cR) :: [a1]) σ (RI fun x σ' => V M d Q pc' ls (.inl x :: st) σ')) : V M d Q pc ls (a1 :: .inr (some cR) :: st) σ :=
  v_callVg M' [a1] _ rfl hdg hc rfl hs hcl hd hst hrun (fun r σ' ⟨x, hx, h⟩ _ => by subst hx; subst hq; exact h)
theorem v_csI1 {M : MD} {d : Nat} {Q : Option Int → Mem → Prop} {pc : Nat} {ls st : List AV} {σ : Mem} {a1 : AV} {idx : Nat} (M' : MD) (pc' : Nat) (hdg : decode M.2.1 pc = .ok (.invokestatic idx, 3)) (hq : pc + 3 = pc') (hc : CS M.1.cls idx M' 1) (hd : 1 ≤ d) (hst : st.length ≤ 8) (hrun : Run M' (d - 1) [a1] σ (RI fun x σ' => V M d Q pc' ls (.inl x :: st) σ')) : V M d Q pc ls (a1 :: st) σ :=
  v_callSg M' [a1] _ rfl hdg hc rfl hd hst hrun (fun r σ' ⟨x, hx, h⟩ _ => by subst hx; subst hq; exact h)
theorem v_cvV1 {M : MD} {d : Nat} {Q : Option Int → Mem → Prop} {pc : Nat} {ls st : List AV} {σ : Mem} {a1 : AV} {cR ci idx : Nat} {fl : List (Option Nat)} {T : u_T} {N : Nat} (M' : MD) (pc' : Nat) (hdg : decode M.2.1 pc = .ok (.invokevirtual idx, 3)) (hq : pc + 3 = pc') (hc : CV M.1.cls idx M' 1) (hs : shapes[cR]? = some (3, ci, fl)) (hcl : vwCl[ci]? = some (M'.1.cls, T, N)) (hd : 1 ≤ d) (hst : st.length ≤ 8) (hrun : Run M' (d - 1) (.inr (some cR) :: [a1]) σ (RV fun σ' => V M d Q pc' ls st σ')) : V M d Q pc ls (a1 :: .inr (some cR) :: st) σ :=
  v_callVg M' [a1] _ rfl hdg hc rfl hs hcl hd hst hrun (fun r σ' ⟨hx, h⟩ _ => by subst hx; subst hq; exact h)
theorem v_csV1 {M : MD} {d : Nat} {Q : Option Int → Mem → Prop} {pc : Nat} {ls st : List AV} {σ : Mem} {a1 : AV} {idx : Nat} (M' : MD) (pc' : Nat) (hdg : decode M.2.1 pc = .ok (.invokestatic idx, 3)) (hq : pc + 3 = pc') (hc : CS M.1.cls idx M' 1) (hd : 1 ≤ d) (hst : st.length ≤ 8) (hrun : Run M' (d - 1) [a1] σ (RV fun σ' => V M d Q pc' ls st σ')) : V M d Q pc ls (a1 :: st) σ :=
  v_callSg M' [a1] _ rfl hdg hc rfl hd hst hrun (fun r σ' ⟨hx, h⟩ _ => by subst hx; subst hq; exact h)
theorem v_cvI2 {M : MD} {d : Nat} {Q : Option Int → Mem → Prop} {pc : Nat} {ls st : List AV} {σ : Mem} {a1 a2 : AV} {cR ci idx : Nat} {fl : List (Option Nat)} {T : u_T} {N : Nat} (M' : MD) (pc' : Nat) (hdg : decode M.2.1 pc = .ok (.invokevirtual idx, 3)) (hq : pc + 3 = pc') (hc : CV M.1.cls idx M' 2) (hs : shapes[cR]? = some (3, ci, fl)) (hcl : vwCl[ci]? = some (M'.1.cls, T, N)) (hd : 1 ≤ d) (hst : st.length ≤ 8) (hrun : Run M' (d - 1) (.inr (some cR) :: [a1, a2]) σ (RI fun x σ' => V M d Q pc' ls (.inl x :: st) σ')) : V M d Q pc ls (a2 :: a1 :: .inr (some cR) :: st) σ :=
  v_callVg M' [a1, a2] _ rfl hdg hc rfl hs hcl hd hst hrun (fun r σ' ⟨x, hx, h⟩ _ => by subst hx; subst hq; exact h)
theorem v_csI2 {M : MD} {d : Nat} {Q : Option Int → Mem → Prop} {pc : Nat} {ls st : List AV} {σ : Mem} {a1 a2 : AV} {idx : Nat} (M' : MD) (pc' : Nat) (hdg : decode M.2.1 pc = .ok (.invokestatic idx, 3)) (hq : pc + 3 = pc') (hc : CS M.1.cls idx M' 2) (hd : 1 ≤ d) (hst : st.length ≤ 8) (hrun : Run M' (d - 1) [a1, a2] σ (RI fun x σ' => V M d Q pc' ls (.inl x :: st) σ')) : V M d Q pc ls (a2 :: a1 :: st) σ :=
  v_callSg M' [a1, a2] _ rfl hdg hc rfl hd hst hrun (fun r σ' ⟨x, hx, h⟩ _ => by subst hx; subst hq; exact h)
theorem v_cvV2 {M : MD} {d : Nat} {Q : Option Int → Mem → Prop} {pc : Nat} {ls st : List AV} {σ : Mem} {a1 a2 : AV} {cR ci idx : Nat} {fl : List (Option Nat)} {T : u_T} {N : Nat} (M' : MD) (pc' : Nat) (hdg : decode M.2.1 pc = .ok (.invokevirtual idx, 3)) (hq : pc + 3 = pc') (hc : CV M.1.cls idx M' 2) (hs : shapes[cR]? = some (3, ci, fl)) (hcl : vwCl[ci]? = some (M'.1.cls, T, N)) (hd : 1 ≤ d) (hst : st.length ≤ 8) (hrun : Run M' (d - 1) (.inr (some cR) :: [a1, a2]) σ (RV fun σ' => V M d Q pc' ls st σ')) : V M d Q pc ls (a2 :: a1 :: .inr (some cR) :: st) σ :=
  v_callVg M' [a1, a2] _ rfl hdg hc rfl hs hcl hd hst hrun (fun r σ' ⟨hx, h⟩ _ => by subst hx; subst hq; exact h)
theorem v_csV2 {M : MD} {d : Nat} {Q : Option Int → Mem → Prop} {pc : Nat} {ls st : List AV} {σ : Mem} {a1 a2 : AV} {idx : Nat} (M' : MD) (pc' : Nat) (hdg : decode M.2.1 pc = .ok (.invokestatic idx, 3)) (hq : pc + 3 = pc') (hc : CS M.1.cls idx M' 2) (hd : 1 ≤ d) (hst : st.length ≤ 8) (hrun : Run M' (d - 1) [a1, a2] σ (RV fun σ' => V M d Q pc' ls st σ')) : V M d Q pc ls (a2 :: a1 :: st) σ :=
  v_callSg M' [a1, a2] _ rfl hdg hc rfl hd hst hrun (fun r σ' ⟨hx, h⟩ _ => by subst hx; subst hq; exact h)
theorem v_cvI3 {M : MD} {d : Nat} {Q : Option Int → Mem → Prop} {pc : Nat} {ls st : List AV} {σ : Mem} {a1 a2 a3 : AV} {cR ci idx : Nat} {fl : List (Option Nat)} {T : u_T} {N : Nat} (M' : MD) (pc' : Nat) (hdg : decode M.2.1 pc = .ok (.invokevirtual idx, 3)) (hq : pc + 3 = pc') (hc : CV M.1.cls idx M' 3) (hs : shapes[cR]? = some (3, ci, fl)) (hcl : vwCl[ci]? = some (M'.1.cls, T, N)) (hd : 1 ≤ d) (hst : st.length ≤ 8) (hrun : Run M' (d - 1) (.inr (some cR) :: [a1, a2, a3]) σ (RI fun x σ' => V M d Q pc' ls (.inl x :: st) σ')) : V M d Q pc ls (a3 :: a2 :: a1 :: .inr (some cR) :: st) σ :=
  v_callVg M' [a1, a2, a3] _ rfl hdg hc rfl hs hcl hd hst hrun (fun r σ' ⟨x, hx, h⟩ _ => by subst hx; subst hq; exact h)
theorem v_csI3 {M : MD} {d : Nat} {Q : Option Int → Mem → Prop} {pc : Nat} {ls st : List AV} {σ : Mem} {a1 a2 a3 : AV} {idx : Nat} (M' : MD) (pc' : Nat) (hdg : decode M.2.1 pc = .ok (.invokestatic idx, 3)) (hq : pc + 3 = pc') (hc : CS M.1.cls idx M' 3) (hd : 1 ≤ d) (hst : st.length ≤ 8) (hrun : Run M' (d - 1) [a1, a2, a3] σ (RI fun x σ' => V M d Q pc' ls (.inl x :: st) σ')) : V M d Q pc ls (a3 :: a2 :: a1 :: st) σ :=
  v_callSg M' [a1, a2, a3] _ rfl hdg hc rfl hd hst hrun (fun r σ' ⟨x, hx, h⟩ _ => by subst hx; subst hq; exact h)
theorem v_caI3 {M : MD} {d : Nat} {Q : Option Int → Mem → Prop} {pc : Nat} {ls st : List AV} {σ : Mem} {a1 a2 a3 : AV} {cR ci idx : Nat} {fl : List (Option Nat)} {T : u_T} {N : Nat} (x0 : MethodName) (M' : MD) (pc' : Nat) (hx0 : x0 = nGoalH ∨ x0 = nGoalR) (hdg : decode M.2.1 pc = .ok (.invokevirtual idx, 3)) (hq : pc + 3 = pc') (hc : CA M.1.cls idx x0 M' 3) (hs : shapes[cR]? = some (3, ci, fl)) (hcl : vwCl[ci]? = some (M'.1.cls, T, N)) (hd : 1 ≤ d) (hst : st.length ≤ 8) (hrun : Run M' (d - 1) (.inr (some cR) :: [a1, a2, a3]) σ (RI fun x σ' => V M d Q pc' ls (.inl x :: st) σ')) : V M d Q pc ls (a3 :: a2 :: a1 :: .inr (some cR) :: st) σ :=
  v_callAg x0 M' [a1, a2, a3] _ hx0 rfl hdg hc rfl hs hcl hd hst hrun (fun r σ' ⟨x, hx, h⟩ _ => by subst hx; subst hq; exact h)
theorem v_cvV3 {M : MD} {d : Nat} {Q : Option Int → Mem → Prop} {pc : Nat} {ls st : List AV} {σ : Mem} {a1 a2 a3 : AV} {cR ci idx : Nat} {fl : List (Option Nat)} {T : u_T} {N : Nat} (M' : MD) (pc' : Nat) (hdg : decode M.2.1 pc = .ok (.invokevirtual idx, 3)) (hq : pc + 3 = pc') (hc : CV M.1.cls idx M' 3) (hs : shapes[cR]? = some (3, ci, fl)) (hcl : vwCl[ci]? = some (M'.1.cls, T, N)) (hd : 1 ≤ d) (hst : st.length ≤ 8) (hrun : Run M' (d - 1) (.inr (some cR) :: [a1, a2, a3]) σ (RV fun σ' => V M d Q pc' ls st σ')) : V M d Q pc ls (a3 :: a2 :: a1 :: .inr (some cR) :: st) σ :=
  v_callVg M' [a1, a2, a3] _ rfl hdg hc rfl hs hcl hd hst hrun (fun r σ' ⟨hx, h⟩ _ => by subst hx; subst hq; exact h)
theorem v_csV3 {M : MD} {d : Nat} {Q : Option Int → Mem → Prop} {pc : Nat} {ls st : List AV} {σ : Mem} {a1 a2 a3 : AV} {idx : Nat} (M' : MD) (pc' : Nat) (hdg : decode M.2.1 pc = .ok (.invokestatic idx, 3)) (hq : pc + 3 = pc') (hc : CS M.1.cls idx M' 3) (hd : 1 ≤ d) (hst : st.length ≤ 8) (hrun : Run M' (d - 1) [a1, a2, a3] σ (RV fun σ' => V M d Q pc' ls st σ')) : V M d Q pc ls (a3 :: a2 :: a1 :: st) σ :=
  v_callSg M' [a1, a2, a3] _ rfl hdg hc rfl hd hst hrun (fun r σ' ⟨hx, h⟩ _ => by subst hx; subst hq; exact h)
theorem v_caV3 {M : MD} {d : Nat} {Q : Option Int → Mem → Prop} {pc : Nat} {ls st : List AV} {σ : Mem} {a1 a2 a3 : AV} {cR ci idx : Nat} {fl : List (Option Nat)} {T : u_T} {N : Nat} (x0 : MethodName) (M' : MD) (pc' : Nat) (hx0 : x0 = nGoalH ∨ x0 = nGoalR) (hdg : decode M.2.1 pc = .ok (.invokevirtual idx, 3)) (hq : pc + 3 = pc') (hc : CA M.1.cls idx x0 M' 3) (hs : shapes[cR]? = some (3, ci, fl)) (hcl : vwCl[ci]? = some (M'.1.cls, T, N)) (hd : 1 ≤ d) (hst : st.length ≤ 8) (hrun : Run M' (d - 1) (.inr (some cR) :: [a1, a2, a3]) σ (RV fun σ' => V M d Q pc' ls st σ')) : V M d Q pc ls (a3 :: a2 :: a1 :: .inr (some cR) :: st) σ :=
  v_callAg x0 M' [a1, a2, a3] _ hx0 rfl hdg hc rfl hs hcl hd hst hrun (fun r σ' ⟨hx, h⟩ _ => by subst hx; subst hq; exact h)
theorem v_cvI4 {M : MD} {d : Nat} {Q : Option Int → Mem → Prop} {pc : Nat} {ls st : List AV} {σ : Mem} {a1 a2 a3 a4 : AV} {cR ci idx : Nat} {fl : List (Option Nat)} {T : u_T} {N : Nat} (M' : MD) (pc' : Nat) (hdg : decode M.2.1 pc = .ok (.invokevirtual idx, 3)) (hq : pc + 3 = pc') (hc : CV M.1.cls idx M' 4) (hs : shapes[cR]? = some (3, ci, fl)) (hcl : vwCl[ci]? = some (M'.1.cls, T, N)) (hd : 1 ≤ d) (hst : st.length ≤ 8) (hrun : Run M' (d - 1) (.inr (some cR) :: [a1, a2, a3, a4]) σ (RI fun x σ' => V M d Q pc' ls (.inl x :: st) σ')) : V M d Q pc ls (a4 :: a3 :: a2 :: a1 :: .inr (some cR) :: st) σ :=
  v_callVg M' [a1, a2, a3, a4] _ rfl hdg hc rfl hs hcl hd hst hrun (fun r σ' ⟨x, hx, h⟩ _ => by subst hx; subst hq; exact h)
theorem v_csI4 {M : MD} {d : Nat} {Q : Option Int → Mem → Prop} {pc : Nat} {ls st : List AV} {σ : Mem} {a1 a2 a3 a4 : AV} {idx : Nat} (M' : MD) (pc' : Nat) (hdg : decode M.2.1 pc = .ok (.invokestatic idx, 3)) (hq : pc + 3 = pc') (hc : CS M.1.cls idx M' 4) (hd : 1 ≤ d) (hst : st.length ≤ 8) (hrun : Run M' (d - 1) [a1, a2, a3, a4] σ (RI fun x σ' => V M d Q pc' ls (.inl x :: st) σ')) : V M d Q pc ls (a4 :: a3 :: a2 :: a1 :: st) σ :=
  v_callSg M' [a1, a2, a3, a4] _ rfl hdg hc rfl hd hst hrun (fun r σ' ⟨x, hx, h⟩ _ => by subst hx; subst hq; exact h)
theorem v_caI4 {M : MD} {d : Nat} {Q : Option Int → Mem → Prop} {pc : Nat} {ls st : List AV} {σ : Mem} {a1 a2 a3 a4 : AV} {cR ci idx : Nat} {fl : List (Option Nat)} {T : u_T} {N : Nat} (x0 : MethodName) (M' : MD) (pc' : Nat) (hx0 : x0 = nGoalH ∨ x0 = nGoalR) (hdg : decode M.2.1 pc = .ok (.invokevirtual idx, 3)) (hq : pc + 3 = pc') (hc : CA M.1.cls idx x0 M' 4) (hs : shapes[cR]? = some (3, ci, fl)) (hcl : vwCl[ci]? = some (M'.1.cls, T, N)) (hd : 1 ≤ d) (hst : st.length ≤ 8) (hrun : Run M' (d - 1) (.inr (some cR) :: [a1, a2, a3, a4]) σ (RI fun x σ' => V M d Q pc' ls (.inl x :: st) σ')) : V M d Q pc ls (a4 :: a3 :: a2 :: a1 :: .inr (some cR) :: st) σ :=
  v_callAg x0 M' [a1, a2, a3, a4] _ hx0 rfl hdg hc rfl hs hcl hd hst hrun (fun r σ' ⟨x, hx, h⟩ _ => by subst hx; subst hq; exact h)
theorem v_cvV4 {M : MD} {d : Nat} {Q : Option Int → Mem → Prop} {pc : Nat} {ls st : List AV} {σ : Mem} {a1 a2 a3 a4 : AV} {cR ci idx : Nat} {fl : List (Option Nat)} {T : u_T} {N : Nat} (M' : MD) (pc' : Nat) (hdg : decode M.2.1 pc = .ok (.invokevirtual idx, 3)) (hq : pc + 3 = pc') (hc : CV M.1.cls idx M' 4) (hs : shapes[cR]? = some (3, ci, fl)) (hcl : vwCl[ci]? = some (M'.1.cls, T, N)) (hd : 1 ≤ d) (hst : st.length ≤ 8) (hrun : Run M' (d - 1) (.inr (some cR) :: [a1, a2, a3, a4]) σ (RV fun σ' => V M d Q pc' ls st σ')) : V M d Q pc ls (a4 :: a3 :: a2 :: a1 :: .inr (some cR) :: st) σ :=
  v_callVg M' [a1, a2, a3, a4] _ rfl hdg hc rfl hs hcl hd hst hrun (fun r σ' ⟨hx, h⟩ _ => by subst hx; subst hq; exact h)
theorem v_csV4 {M : MD} {d : Nat} {Q : Option Int → Mem → Prop} {pc : Nat} {ls st : List AV} {σ : Mem} {a1 a2 a3 a4 : AV} {idx : Nat} (M' : MD) (pc' : Nat) (hdg : decode M.2.1 pc = .ok (.invokestatic idx, 3)) (hq : pc + 3 = pc') (hc : CS M.1.cls idx M' 4) (hd : 1 ≤ d) (hst : st.length ≤ 8) (hrun : Run M' (d - 1) [a1, a2, a3, a4] σ (RV fun σ' => V M d Q pc' ls st σ')) : V M d Q pc ls (a4 :: a3 :: a2 :: a1 :: st) σ :=
  v_callSg M' [a1, a2, a3, a4] _ rfl hdg hc rfl hd hst hrun (fun r σ' ⟨hx, h⟩ _ => by subst hx; subst hq; exact h)
theorem v_caV4 {M : MD} {d : Nat} {Q : Option Int → Mem → Prop} {pc : Nat} {ls st : List AV} {σ : Mem} {a1 a2 a3 a4 : AV} {cR ci idx : Nat} {fl : List (Option Nat)} {T : u_T} {N : Nat} (x0 : MethodName) (M' : MD) (pc' : Nat) (hx0 : x0 = nGoalH ∨ x0 = nGoalR) (hdg : decode M.2.1 pc = .ok (.invokevirtual idx, 3)) (hq : pc + 3 = pc') (hc : CA M.1.cls idx x0 M' 4) (hs : shapes[cR]? = some (3, ci, fl)) (hcl : vwCl[ci]? = some (M'.1.cls, T, N)) (hd : 1 ≤ d) (hst : st.length ≤ 8) (hrun : Run M' (d - 1) (.inr (some cR) :: [a1, a2, a3, a4]) σ (RV fun σ' => V M d Q pc' ls st σ')) : V M d Q pc ls (a4 :: a3 :: a2 :: a1 :: .inr (some cR) :: st) σ :=
  v_callAg x0 M' [a1, a2, a3, a4] _ hx0 rfl hdg hc rfl hs hcl hd hst hrun (fun r σ' ⟨hx, h⟩ _ => by subst hx; subst hq; exact h)
theorem v_cvI5 {M : MD} {d : Nat} {Q : Option Int → Mem → Prop} {pc : Nat} {ls st : List AV} {σ : Mem} {a1 a2 a3 a4 a5 : AV} {cR ci idx : Nat} {fl : List (Option Nat)} {T : u_T} {N : Nat} (M' : MD) (pc' : Nat) (hdg : decode M.2.1 pc = .ok (.invokevirtual idx, 3)) (hq : pc + 3 = pc') (hc : CV M.1.cls idx M' 5) (hs : shapes[cR]? = some (3, ci, fl)) (hcl : vwCl[ci]? = some (M'.1.cls, T, N)) (hd : 1 ≤ d) (hst : st.length ≤ 8) (hrun : Run M' (d - 1) (.inr (some cR) :: [a1, a2, a3, a4, a5]) σ (RI fun x σ' => V M d Q pc' ls (.inl x :: st) σ')) : V M d Q pc ls (a5 :: a4 :: a3 :: a2 :: a1 :: .inr (some cR) :: st) σ :=
  v_callVg M' [a1, a2, a3, a4, a5] _ rfl hdg hc rfl hs hcl hd hst hrun (fun r σ' ⟨x, hx, h⟩ _ => by subst hx; subst hq; exact h)
theorem v_csI5 {M : MD} {d : Nat} {Q : Option Int → Mem → Prop} {pc : Nat} {ls st : List AV} {σ : Mem} {a1 a2 a3 a4 a5 : AV} {idx : Nat} (M' : MD) (pc' : Nat) (hdg : decode M.2.1 pc = .ok (.invokestatic idx, 3)) (hq : pc + 3 = pc') (hc : CS M.1.cls idx M' 5) (hd : 1 ≤ d) (hst : st.length ≤ 8) (hrun : Run M' (d - 1) [a1, a2, a3, a4, a5] σ (RI fun x σ' => V M d Q pc' ls (.inl x :: st) σ')) : V M d Q pc ls (a5 :: a4 :: a3 :: a2 :: a1 :: st) σ :=
  v_callSg M' [a1, a2, a3, a4, a5] _ rfl hdg hc rfl hd hst hrun (fun r σ' ⟨x, hx, h⟩ _ => by subst hx; subst hq; exact h)
theorem v_cvV5 {M : MD} {d : Nat} {Q : Option Int → Mem → Prop} {pc : Nat} {ls st : List AV} {σ : Mem} {a1 a2 a3 a4 a5 : AV} {cR ci idx : Nat} {fl : List (Option Nat)} {T : u_T} {N : Nat} (M' : MD) (pc' : Nat) (hdg : decode M.2.1 pc = .ok (.invokevirtual idx, 3)) (hq : pc + 3 = pc') (hc : CV M.1.cls idx M' 5) (hs : shapes[cR]? = some (3, ci, fl)) (hcl : vwCl[ci]? = some (M'.1.cls, T, N)) (hd : 1 ≤ d) (hst : st.length ≤ 8) (hrun : Run M' (d - 1) (.inr (some cR) :: [a1, a2, a3, a4, a5]) σ (RV fun σ' => V M d Q pc' ls st σ')) : V M d Q pc ls (a5 :: a4 :: a3 :: a2 :: a1 :: .inr (some cR) :: st) σ :=
  v_callVg M' [a1, a2, a3, a4, a5] _ rfl hdg hc rfl hs hcl hd hst hrun (fun r σ' ⟨hx, h⟩ _ => by subst hx; subst hq; exact h)
theorem v_csV5 {M : MD} {d : Nat} {Q : Option Int → Mem → Prop} {pc : Nat} {ls st : List AV} {σ : Mem} {a1 a2 a3 a4 a5 : AV} {idx : Nat} (M' : MD) (pc' : Nat) (hdg : decode M.2.1 pc = .ok (.invokestatic idx, 3)) (hq : pc + 3 = pc') (hc : CS M.1.cls idx M' 5) (hd : 1 ≤ d) (hst : st.length ≤ 8) (hrun : Run M' (d - 1) [a1, a2, a3, a4, a5] σ (RV fun σ' => V M d Q pc' ls st σ')) : V M d Q pc ls (a5 :: a4 :: a3 :: a2 :: a1 :: st) σ :=
  v_callSg M' [a1, a2, a3, a4, a5] _ rfl hdg hc rfl hd hst hrun (fun r σ' ⟨hx, h⟩ _ => by subst hx; subst hq; exact h)
theorem v_getIe {M : MD} {d : Nat} {Q : Option Int → Mem → Prop} {pc : Nat} {ls st : List AV} {σ : Mem} {cx ci k idx : Nat} {fl : List (Option Nat)} (pc' : Nat) (kI val : Int) (hdg : decode M.2.1 pc = .ok (.getfield idx, 3)) (hq : pc + 3 = pc') (hf : FL M.1.cls idx ci k) (hs : shapes[cx]? = some (3, ci, fl)) (hk : fl[k]? = some none) (hkI : (k : Int) = kI) (hval : σ cx kI = val) (kk : V M d Q pc' ls (.inl val :: st) σ) : V M d Q pc ls (.inr (some cx) :: st) σ := by
  subst hval
  exact v_getI pc' kI hdg hq hf hs hk hkI kk
theorem v_ialde {M : MD} {d : Nat} {Q : Option Int → Mem → Prop} {pc : Nat} {ls st : List AV} {σ : Mem} {cx n : Nat} {i : Int} (pc' : Nat) (val : Int) (hdg : decode M.2.1 pc = .ok (.iaload, 1)) (hq : pc + 1 = pc') (hs : shapes[cx]? = some (0, n, [])) (hi : 0 ≤ i ∧ i < (n : Int)) (hval : σ cx i = val) (kk : V M d Q pc' ls (.inl val :: st) σ) : V M d Q pc ls (.inl i :: .inr (some cx) :: st) σ := by
  subst hval
  exact v_iald pc' hdg hq hs hi kk
theorem v_zalde {M : MD} {d : Nat} {Q : Option Int → Mem → Prop} {pc : Nat} {ls st : List AV} {σ : Mem} {cx n : Nat} {i : Int} (pc' : Nat) (val : Int) (hdg : decode M.2.1 pc = .ok (.baload, 1)) (hq : pc + 1 = pc') (hs : shapes[cx]? = some (1, n, [])) (hi : 0 ≤ i ∧ i < (n : Int)) (hval : σ cx i = val) (kk : V M d Q pc' ls (.inl val :: st) σ) : V M d Q pc ls (.inl i :: .inr (some cx) :: st) σ := by
  subst hval
  exact v_zald pc' hdg hq hs hi kk
theorem V_mem {M : MD} {d : Nat} {Q : Option Int → Mem → Prop} {pc : Nat} {ls st : List AV} {σ : Mem} {τ : Mem} (h : σ = τ) (k : V M d Q pc ls st τ) : V M d Q pc ls st σ := h ▸ k
theorem V_top {M : MD} {d : Nat} {Q : Option Int → Mem → Prop} {pc : Nat} {ls st : List AV} {σ : Mem} {x y : Int} (h : x = y) (k : V M d Q pc ls (.inl y :: st) σ) : V M d Q pc ls (.inl x :: st) σ := h ▸ k
end
section
abbrev mJ6_bitCount_0f7a4 : MD := (yJ6_bitCount_0f7a4, cJ6_bitCount_0f7a4, 1, (some .int))
theorem wc_J6_bitCount_0f7a4 : Cond.code yJ6_bitCount_0f7a4 cJ6_bitCount_0f7a4 1 (some .int) ∈ ALL := all_in 607 (by decide +kernel) (by decide +kernel)
theorem wi_J6_bitCount_0f7a4 : Cond.static yJ6_bitCount_0f7a4 ∈ ALL := all_in 606 (by decide +kernel) (by decide +kernel)
abbrev mJ6_compare_7cf53 : MD := (yJ6_compare_7cf53, cJ6_compare_7cf53, 2, (some .int))
theorem wc_J6_compare_7cf53 : Cond.code yJ6_compare_7cf53 cJ6_compare_7cf53 2 (some .int) ∈ ALL := all_in 745 (by decide +kernel) (by decide +kernel)
theorem wi_J6_compare_7cf53 : Cond.static yJ6_compare_7cf53 ∈ ALL := all_in 744 (by decide +kernel) (by decide +kernel)
abbrev mX0_begin : MD := (yX0_begin, cX0_begin, 2, none)
theorem wc_X0_begin : Cond.code yX0_begin cX0_begin 2 none ∈ ALL := all_in 485 (by decide +kernel) (by decide +kernel)
theorem wi_X0_begin : Cond.instanceMethod yX0_begin ∈ ALL := all_in 483 (by decide +kernel) (by decide +kernel)
theorem wse_X0_begin : Cond.selects yX0_begin.cls yX0_begin yX0_begin ∈ ALL := all_in 484 (by decide +kernel) (by decide +kernel)
abbrev mX0_isHopeless : MD := (yX0_isHopeless, cX0_isHopeless, 4, (some .boolean))
theorem wc_X0_isHopeless : Cond.code yX0_isHopeless cX0_isHopeless 4 (some .boolean) ∈ ALL := all_in 516 (by decide +kernel) (by decide +kernel)
theorem wi_X0_isHopeless : Cond.instanceMethod yX0_isHopeless ∈ ALL := all_in 515 (by decide +kernel) (by decide +kernel)
abbrev mX0_reach : MD := (yX0_reach, cX0_reach, 5, none)
theorem wc_X0_reach : Cond.code yX0_reach cX0_reach 5 none ∈ ALL := all_in 528 (by decide +kernel) (by decide +kernel)
theorem wi_X0_reach : Cond.instanceMethod yX0_reach ∈ ALL := all_in 527 (by decide +kernel) (by decide +kernel)
abbrev mX10_asNow : MD := (yX10_asNow, cX10_asNow, 1, none)
theorem wc_X10_asNow : Cond.code yX10_asNow cX10_asNow 1 none ∈ ALL := all_in 480 (by decide +kernel) (by decide +kernel)
theorem wi_X10_asNow : Cond.instanceMethod yX10_asNow ∈ ALL := all_in 478 (by decide +kernel) (by decide +kernel)
theorem wse_X10_asNow : Cond.selects yX10_asNow.cls yX10_asNow yX10_asNow ∈ ALL := all_in 479 (by decide +kernel) (by decide +kernel)
abbrev mX10_choose : MD := (yX10_choose, cX10_choose, 10, none)
theorem wc_X10_choose : Cond.code yX10_choose cX10_choose 10 none ∈ ALL := all_in 510 (by decide +kernel) (by decide +kernel)
theorem wi_X10_choose : Cond.instanceMethod yX10_choose ∈ ALL := all_in 509 (by decide +kernel) (by decide +kernel)
theorem wse_X10_choose : Cond.selects yX10_choose.cls yX10_choose yX10_choose ∈ ALL := all_in 0 (by decide +kernel) (by decide +kernel)
abbrev mX10_hold : MD := (yX10_hold, cX10_hold, 2, none)
theorem wc_X10_hold : Cond.code yX10_hold cX10_hold 2 none ∈ ALL := all_in 664 (by decide +kernel) (by decide +kernel)
theorem wi_X10_hold : Cond.instanceMethod yX10_hold ∈ ALL := all_in 662 (by decide +kernel) (by decide +kernel)
theorem wse_X10_hold : Cond.selects yX10_hold.cls yX10_hold yX10_hold ∈ ALL := all_in 663 (by decide +kernel) (by decide +kernel)
abbrev mX10_leaveOut : MD := (yX10_leaveOut, cX10_leaveOut, 2, none)
theorem wc_X10_leaveOut : Cond.code yX10_leaveOut cX10_leaveOut 2 none ∈ ALL := all_in 656 (by decide +kernel) (by decide +kernel)
theorem wi_X10_leaveOut : Cond.instanceMethod yX10_leaveOut ∈ ALL := all_in 654 (by decide +kernel) (by decide +kernel)
theorem wse_X10_leaveOut : Cond.selects yX10_leaveOut.cls yX10_leaveOut yX10_leaveOut ∈ ALL := all_in 655 (by decide +kernel) (by decide +kernel)
abbrev mX10_seek : MD := (yX10_seek, cX10_seek, 3, none)
theorem wc_X10_seek : Cond.code yX10_seek cX10_seek 3 none ∈ ALL := all_in 489 (by decide +kernel) (by decide +kernel)
theorem wi_X10_seek : Cond.instanceMethod yX10_seek ∈ ALL := all_in 487 (by decide +kernel) (by decide +kernel)
theorem wse_X10_seek : Cond.selects yX10_seek.cls yX10_seek yX10_seek ∈ ALL := all_in 488 (by decide +kernel) (by decide +kernel)
abbrev mX10_turnBack : MD := (yX10_turnBack, cX10_turnBack, 2, none)
theorem wc_X10_turnBack : Cond.code yX10_turnBack cX10_turnBack 2 none ∈ ALL := all_in 681 (by decide +kernel) (by decide +kernel)
theorem wi_X10_turnBack : Cond.instanceMethod yX10_turnBack ∈ ALL := all_in 679 (by decide +kernel) (by decide +kernel)
theorem wse_X10_turnBack : Cond.selects yX10_turnBack.cls yX10_turnBack yX10_turnBack ∈ ALL := all_in 680 (by decide +kernel) (by decide +kernel)
abbrev mX11_base : MD := (yX11_base, cX11_base, 3, (some .int))
theorem wc_X11_base : Cond.code yX11_base cX11_base 3 (some .int) ∈ ALL := all_in 464 (by decide +kernel) (by decide +kernel)
theorem wi_X11_base : Cond.instanceMethod yX11_base ∈ ALL := all_in 462 (by decide +kernel) (by decide +kernel)
theorem wse_X11_base : Cond.selects yX11_base.cls yX11_base yX11_base ∈ ALL := all_in 463 (by decide +kernel) (by decide +kernel)
abbrev mX11_bitAt : MD := (yX11_bitAt, cX11_bitAt, 4, (some .int))
theorem wc_X11_bitAt : Cond.code yX11_bitAt cX11_bitAt 4 (some .int) ∈ ALL := all_in 748 (by decide +kernel) (by decide +kernel)
theorem wi_X11_bitAt : Cond.static yX11_bitAt ∈ ALL := all_in 747 (by decide +kernel) (by decide +kernel)
abbrev mX11_broken : MD := (yX11_broken, cX11_broken, 2, (some .int))
theorem wc_X11_broken : Cond.code yX11_broken cX11_broken 2 (some .int) ∈ ALL := all_in 726 (by decide +kernel) (by decide +kernel)
theorem wi_X11_broken : Cond.instanceMethod yX11_broken ∈ ALL := all_in 724 (by decide +kernel) (by decide +kernel)
theorem wse_X11_broken : Cond.selects yX11_broken.cls yX11_broken yX11_broken ∈ ALL := all_in 725 (by decide +kernel) (by decide +kernel)
abbrev mX11_brokenNow : MD := (yX11_brokenNow, cX11_brokenNow, 1, (some .int))
theorem wc_X11_brokenNow : Cond.code yX11_brokenNow cX11_brokenNow 1 (some .int) ∈ ALL := all_in 614 (by decide +kernel) (by decide +kernel)
theorem wi_X11_brokenNow : Cond.instanceMethod yX11_brokenNow ∈ ALL := all_in 613 (by decide +kernel) (by decide +kernel)
theorem wse_X11_brokenNow : Cond.selects yX11_brokenNow.cls yX11_brokenNow yX11_brokenNow ∈ ALL := all_in 3 (by decide +kernel) (by decide +kernel)
abbrev mX11_change : MD := (yX11_change, cX11_change, 4, (some .int))
theorem wc_X11_change : Cond.code yX11_change cX11_change 4 (some .int) ∈ ALL := all_in 422 (by decide +kernel) (by decide +kernel)
theorem wi_X11_change : Cond.instanceMethod yX11_change ∈ ALL := all_in 420 (by decide +kernel) (by decide +kernel)
theorem wse_X11_change : Cond.selects yX11_change.cls yX11_change yX11_change ∈ ALL := all_in 421 (by decide +kernel) (by decide +kernel)
abbrev mX11_clash : MD := (yX11_clash, cX11_clash, 3, (some .int))
theorem wc_X11_clash : Cond.code yX11_clash cX11_clash 3 (some .int) ∈ ALL := all_in 730 (by decide +kernel) (by decide +kernel)
theorem wi_X11_clash : Cond.instanceMethod yX11_clash ∈ ALL := all_in 728 (by decide +kernel) (by decide +kernel)
theorem wse_X11_clash : Cond.selects yX11_clash.cls yX11_clash yX11_clash ∈ ALL := all_in 729 (by decide +kernel) (by decide +kernel)
abbrev mX11_decision : MD := (yX11_decision, cX11_decision, 5, (some .int))
theorem wc_X11_decision : Cond.code yX11_decision cX11_decision 5 (some .int) ∈ ALL := all_in 379 (by decide +kernel) (by decide +kernel)
theorem wi_X11_decision : Cond.instanceMethod yX11_decision ∈ ALL := all_in 377 (by decide +kernel) (by decide +kernel)
theorem wse_X11_decision : Cond.selects yX11_decision.cls yX11_decision yX11_decision ∈ ALL := all_in 378 (by decide +kernel) (by decide +kernel)
abbrev mX11_fact : MD := (yX11_fact, cX11_fact, 2, (some .int))
theorem wc_X11_fact : Cond.code yX11_fact cX11_fact 2 (some .int) ∈ ALL := all_in 414 (by decide +kernel) (by decide +kernel)
theorem wi_X11_fact : Cond.instanceMethod yX11_fact ∈ ALL := all_in 412 (by decide +kernel) (by decide +kernel)
theorem wse_X11_fact : Cond.selects yX11_fact.cls yX11_fact yX11_fact ∈ ALL := all_in 413 (by decide +kernel) (by decide +kernel)
abbrev mX11_first : MD := (yX11_first, cX11_first, 3, (some .int))
theorem wc_X11_first : Cond.code yX11_first cX11_first 3 (some .int) ∈ ALL := all_in 441 (by decide +kernel) (by decide +kernel)
theorem wi_X11_first : Cond.instanceMethod yX11_first ∈ ALL := all_in 439 (by decide +kernel) (by decide +kernel)
theorem wse_X11_first : Cond.selects yX11_first.cls yX11_first yX11_first ∈ ALL := all_in 440 (by decide +kernel) (by decide +kernel)
abbrev mX11_keep : MD := (yX11_keep, cX11_keep, 1, (some .int))
theorem wc_X11_keep : Cond.code yX11_keep cX11_keep 1 (some .int) ∈ ALL := all_in 453 (by decide +kernel) (by decide +kernel)
theorem wi_X11_keep : Cond.instanceMethod yX11_keep ∈ ALL := all_in 451 (by decide +kernel) (by decide +kernel)
theorem wse_X11_keep : Cond.selects yX11_keep.cls yX11_keep yX11_keep ∈ ALL := all_in 452 (by decide +kernel) (by decide +kernel)
abbrev mX11_least : MD := (yX11_least, cX11_least, 1, (some .int))
theorem wc_X11_least : Cond.code yX11_least cX11_least 1 (some .int) ∈ ALL := all_in 640 (by decide +kernel) (by decide +kernel)
theorem wi_X11_least : Cond.instanceMethod yX11_least ∈ ALL := all_in 638 (by decide +kernel) (by decide +kernel)
theorem wse_X11_least : Cond.selects yX11_least.cls yX11_least yX11_least ∈ ALL := all_in 639 (by decide +kernel) (by decide +kernel)
abbrev mX11_leastCost : MD := (yX11_leastCost, cX11_leastCost, 1, (some .int))
theorem wc_X11_leastCost : Cond.code yX11_leastCost cX11_leastCost 1 (some .int) ∈ ALL := all_in 644 (by decide +kernel) (by decide +kernel)
theorem wi_X11_leastCost : Cond.instanceMethod yX11_leastCost ∈ ALL := all_in 643 (by decide +kernel) (by decide +kernel)
theorem wse_X11_leastCost : Cond.selects yX11_leastCost.cls yX11_leastCost yX11_leastCost ∈ ALL := all_in 5 (by decide +kernel) (by decide +kernel)
abbrev mX11_limit : MD := (yX11_limit, cX11_limit, 4, (some .int))
theorem wc_X11_limit : Cond.code yX11_limit cX11_limit 4 (some .int) ∈ ALL := all_in 410 (by decide +kernel) (by decide +kernel)
theorem wi_X11_limit : Cond.instanceMethod yX11_limit ∈ ALL := all_in 408 (by decide +kernel) (by decide +kernel)
theorem wse_X11_limit : Cond.selects yX11_limit.cls yX11_limit yX11_limit ∈ ALL := all_in 409 (by decide +kernel) (by decide +kernel)
abbrev mX11_near : MD := (yX11_near, cX11_near, 2, (some .int))
theorem wc_X11_near : Cond.code yX11_near cX11_near 2 (some .int) ∈ ALL := all_in 632 (by decide +kernel) (by decide +kernel)
theorem wi_X11_near : Cond.instanceMethod yX11_near ∈ ALL := all_in 630 (by decide +kernel) (by decide +kernel)
theorem wse_X11_near : Cond.selects yX11_near.cls yX11_near yX11_near ∈ ALL := all_in 631 (by decide +kernel) (by decide +kernel)
abbrev mX11_old : MD := (yX11_old, cX11_old, 3, (some .int))
theorem wc_X11_old : Cond.code yX11_old cX11_old 3 (some .int) ∈ ALL := all_in 472 (by decide +kernel) (by decide +kernel)
theorem wi_X11_old : Cond.instanceMethod yX11_old ∈ ALL := all_in 470 (by decide +kernel) (by decide +kernel)
theorem wse_X11_old : Cond.selects yX11_old.cls yX11_old yX11_old ∈ ALL := all_in 471 (by decide +kernel) (by decide +kernel)
abbrev mX11_pin : MD := (yX11_pin, cX11_pin, 3, (some .int))
theorem wc_X11_pin : Cond.code yX11_pin cX11_pin 3 (some .int) ∈ ALL := all_in 402 (by decide +kernel) (by decide +kernel)
theorem wi_X11_pin : Cond.instanceMethod yX11_pin ∈ ALL := all_in 400 (by decide +kernel) (by decide +kernel)
theorem wse_X11_pin : Cond.selects yX11_pin.cls yX11_pin yX11_pin ∈ ALL := all_in 401 (by decide +kernel) (by decide +kernel)
abbrev mX11_put : MD := (yX11_put, cX11_put, 4, (some .int))
theorem wc_X11_put : Cond.code yX11_put cX11_put 4 (some .int) ∈ ALL := all_in 445 (by decide +kernel) (by decide +kernel)
theorem wi_X11_put : Cond.instanceMethod yX11_put ∈ ALL := all_in 443 (by decide +kernel) (by decide +kernel)
theorem wse_X11_put : Cond.selects yX11_put.cls yX11_put yX11_put ∈ ALL := all_in 444 (by decide +kernel) (by decide +kernel)
abbrev mX11_rule : MD := (yX11_rule, cX11_rule, 5, (some .int))
theorem wc_X11_rule : Cond.code yX11_rule cX11_rule 5 (some .int) ∈ ALL := all_in 430 (by decide +kernel) (by decide +kernel)
theorem wi_X11_rule : Cond.instanceMethod yX11_rule ∈ ALL := all_in 428 (by decide +kernel) (by decide +kernel)
theorem wse_X11_rule : Cond.selects yX11_rule.cls yX11_rule yX11_rule ∈ ALL := all_in 429 (by decide +kernel) (by decide +kernel)
abbrev mX11_run : MD := (yX11_run, cX11_run, 1, (some .int))
theorem wc_X11_run : Cond.code yX11_run cX11_run 1 (some .int) ∈ ALL := all_in 476 (by decide +kernel) (by decide +kernel)
theorem wi_X11_run : Cond.instanceMethod yX11_run ∈ ALL := all_in 474 (by decide +kernel) (by decide +kernel)
theorem wse_X11_run : Cond.selects yX11_run.cls yX11_run yX11_run ∈ ALL := all_in 475 (by decide +kernel) (by decide +kernel)
abbrev mX11_spare : MD := (yX11_spare, cX11_spare, 2, (some .int))
theorem wc_X11_spare : Cond.code yX11_spare cX11_spare 2 (some .int) ∈ ALL := all_in 660 (by decide +kernel) (by decide +kernel)
theorem wi_X11_spare : Cond.instanceMethod yX11_spare ∈ ALL := all_in 658 (by decide +kernel) (by decide +kernel)
theorem wse_X11_spare : Cond.selects yX11_spare.cls yX11_spare yX11_spare ∈ ALL := all_in 659 (by decide +kernel) (by decide +kernel)
abbrev mX11_staysWithout : MD := (yX11_staysWithout, cX11_staysWithout, 3, (some .boolean))
theorem wc_X11_staysWithout : Cond.code yX11_staysWithout cX11_staysWithout 3 (some .boolean) ∈ ALL := all_in 677 (by decide +kernel) (by decide +kernel)
theorem wi_X11_staysWithout : Cond.instanceMethod yX11_staysWithout ∈ ALL := all_in 676 (by decide +kernel) (by decide +kernel)
theorem wse_X11_staysWithout : Cond.selects yX11_staysWithout.cls yX11_staysWithout yX11_staysWithout ∈ ALL := all_in 6 (by decide +kernel) (by decide +kernel)
abbrev mX11_told : MD := (yX11_told, cX11_told, 2, (some .int))
theorem wc_X11_told : Cond.code yX11_told cX11_told 2 (some .int) ∈ ALL := all_in 591 (by decide +kernel) (by decide +kernel)
theorem wi_X11_told : Cond.instanceMethod yX11_told ∈ ALL := all_in 589 (by decide +kernel) (by decide +kernel)
theorem wse_X11_told : Cond.selects yX11_told.cls yX11_told yX11_told ∈ ALL := all_in 590 (by decide +kernel) (by decide +kernel)
abbrev mX11_undo : MD := (yX11_undo, cX11_undo, 1, (some .int))
theorem wc_X11_undo : Cond.code yX11_undo cX11_undo 1 (some .int) ∈ ALL := all_in 583 (by decide +kernel) (by decide +kernel)
theorem wi_X11_undo : Cond.instanceMethod yX11_undo ∈ ALL := all_in 581 (by decide +kernel) (by decide +kernel)
theorem wse_X11_undo : Cond.selects yX11_undo.cls yX11_undo yX11_undo ∈ ALL := all_in 582 (by decide +kernel) (by decide +kernel)
abbrev mX11_value : MD := (yX11_value, cX11_value, 2, (some .int))
theorem wc_X11_value : Cond.code yX11_value cX11_value 2 (some .int) ∈ ALL := all_in 449 (by decide +kernel) (by decide +kernel)
theorem wi_X11_value : Cond.instanceMethod yX11_value ∈ ALL := all_in 447 (by decide +kernel) (by decide +kernel)
theorem wse_X11_value : Cond.selects yX11_value.cls yX11_value yX11_value ∈ ALL := all_in 448 (by decide +kernel) (by decide +kernel)
abbrev mX11_way : MD := (yX11_way, cX11_way, 2, (some .int))
theorem wc_X11_way : Cond.code yX11_way cX11_way 2 (some .int) ∈ ALL := all_in 686 (by decide +kernel) (by decide +kernel)
theorem wi_X11_way : Cond.instanceMethod yX11_way ∈ ALL := all_in 684 (by decide +kernel) (by decide +kernel)
theorem wse_X11_way : Cond.selects yX11_way.cls yX11_way yX11_way ∈ ALL := all_in 685 (by decide +kernel) (by decide +kernel)
abbrev mX11_weight : MD := (yX11_weight, cX11_weight, 4, (some .int))
theorem wc_X11_weight : Cond.code yX11_weight cX11_weight 4 (some .int) ∈ ALL := all_in 390 (by decide +kernel) (by decide +kernel)
theorem wi_X11_weight : Cond.instanceMethod yX11_weight ∈ ALL := all_in 388 (by decide +kernel) (by decide +kernel)
theorem wse_X11_weight : Cond.selects yX11_weight.cls yX11_weight yX11_weight ∈ ALL := all_in 389 (by decide +kernel) (by decide +kernel)
abbrev mX11_why : MD := (yX11_why, cX11_why, 3, (some .int))
theorem wc_X11_why : Cond.code yX11_why cX11_why 3 (some .int) ∈ ALL := all_in 668 (by decide +kernel) (by decide +kernel)
theorem wi_X11_why : Cond.instanceMethod yX11_why ∈ ALL := all_in 666 (by decide +kernel) (by decide +kernel)
theorem wse_X11_why : Cond.selects yX11_why.cls yX11_why yX11_why ∈ ALL := all_in 667 (by decide +kernel) (by decide +kernel)
abbrev mX11_within : MD := (yX11_within, cX11_within, 3, (some .boolean))
theorem wc_X11_within : Cond.code yX11_within cX11_within 3 (some .boolean) ∈ ALL := all_in 382 (by decide +kernel) (by decide +kernel)
theorem wi_X11_within : Cond.static yX11_within ∈ ALL := all_in 381 (by decide +kernel) (by decide +kernel)
abbrev mX11_without : MD := (yX11_without, cX11_without, 2, (some .int))
theorem wc_X11_without : Cond.code yX11_without cX11_without 2 (some .int) ∈ ALL := all_in 648 (by decide +kernel) (by decide +kernel)
theorem wi_X11_without : Cond.instanceMethod yX11_without ∈ ALL := all_in 646 (by decide +kernel) (by decide +kernel)
theorem wse_X11_without : Cond.selects yX11_without.cls yX11_without yX11_without ∈ ALL := all_in 647 (by decide +kernel) (by decide +kernel)
abbrev mX11_worth : MD := (yX11_worth, cX11_worth, 5, (some .int))
theorem wc_X11_worth : Cond.code yX11_worth cX11_worth 5 (some .int) ∈ ALL := all_in 398 (by decide +kernel) (by decide +kernel)
theorem wi_X11_worth : Cond.instanceMethod yX11_worth ∈ ALL := all_in 396 (by decide +kernel) (by decide +kernel)
theorem wse_X11_worth : Cond.selects yX11_worth.cls yX11_worth yX11_worth ∈ ALL := all_in 397 (by decide +kernel) (by decide +kernel)
abbrev mX12_base : MD := (yX12_base, cX12_base, 3, (some .int))
theorem wc_X12_base : Cond.code yX12_base cX12_base 3 (some .int) ∈ ALL := all_in 923 (by decide +kernel) (by decide +kernel)
theorem wi_X12_base : Cond.instanceMethod yX12_base ∈ ALL := all_in 921 (by decide +kernel) (by decide +kernel)
theorem wse_X12_base : Cond.selects yX12_base.cls yX12_base yX12_base ∈ ALL := all_in 922 (by decide +kernel) (by decide +kernel)
abbrev mX12_broken : MD := (yX12_broken, cX12_broken, 3, (some .int))
theorem wc_X12_broken : Cond.code yX12_broken cX12_broken 3 (some .int) ∈ ALL := all_in 1022 (by decide +kernel) (by decide +kernel)
theorem wi_X12_broken : Cond.instanceMethod yX12_broken ∈ ALL := all_in 1020 (by decide +kernel) (by decide +kernel)
theorem wse_X12_broken : Cond.selects yX12_broken.cls yX12_broken yX12_broken ∈ ALL := all_in 1021 (by decide +kernel) (by decide +kernel)
abbrev mX12_brokenOf : MD := (yX12_brokenOf, cX12_brokenOf, 4, (some .int))
theorem wc_X12_brokenOf : Cond.code yX12_brokenOf cX12_brokenOf 4 (some .int) ∈ ALL := all_in 951 (by decide +kernel) (by decide +kernel)
theorem wi_X12_brokenOf : Cond.instanceMethod yX12_brokenOf ∈ ALL := all_in 950 (by decide +kernel) (by decide +kernel)
theorem wse_X12_brokenOf : Cond.selects yX12_brokenOf.cls yX12_brokenOf yX12_brokenOf ∈ ALL := all_in 19 (by decide +kernel) (by decide +kernel)
abbrev mX12_change : MD := (yX12_change, cX12_change, 4, (some .int))
theorem wc_X12_change : Cond.code yX12_change cX12_change 4 (some .int) ∈ ALL := all_in 899 (by decide +kernel) (by decide +kernel)
theorem wi_X12_change : Cond.instanceMethod yX12_change ∈ ALL := all_in 897 (by decide +kernel) (by decide +kernel)
theorem wse_X12_change : Cond.selects yX12_change.cls yX12_change yX12_change ∈ ALL := all_in 898 (by decide +kernel) (by decide +kernel)
abbrev mX12_clash : MD := (yX12_clash, cX12_clash, 6, (some .int))
theorem wc_X12_clash : Cond.code yX12_clash cX12_clash 6 (some .int) ∈ ALL := all_in 1026 (by decide +kernel) (by decide +kernel)
theorem wi_X12_clash : Cond.instanceMethod yX12_clash ∈ ALL := all_in 1024 (by decide +kernel) (by decide +kernel)
theorem wse_X12_clash : Cond.selects yX12_clash.cls yX12_clash yX12_clash ∈ ALL := all_in 1025 (by decide +kernel) (by decide +kernel)
abbrev mX12_costOf : MD := (yX12_costOf, cX12_costOf, 5, (some .int))
theorem wc_X12_costOf : Cond.code yX12_costOf cX12_costOf 5 (some .int) ∈ ALL := all_in 959 (by decide +kernel) (by decide +kernel)
theorem wi_X12_costOf : Cond.instanceMethod yX12_costOf ∈ ALL := all_in 958 (by decide +kernel) (by decide +kernel)
theorem wse_X12_costOf : Cond.selects yX12_costOf.cls yX12_costOf yX12_costOf ∈ ALL := all_in 21 (by decide +kernel) (by decide +kernel)
abbrev mX12_decision : MD := (yX12_decision, cX12_decision, 5, (some .int))
theorem wc_X12_decision : Cond.code yX12_decision cX12_decision 5 (some .int) ∈ ALL := all_in 864 (by decide +kernel) (by decide +kernel)
theorem wi_X12_decision : Cond.instanceMethod yX12_decision ∈ ALL := all_in 862 (by decide +kernel) (by decide +kernel)
theorem wse_X12_decision : Cond.selects yX12_decision.cls yX12_decision yX12_decision ∈ ALL := all_in 863 (by decide +kernel) (by decide +kernel)
abbrev mX12_fact : MD := (yX12_fact, cX12_fact, 2, (some .int))
theorem wc_X12_fact : Cond.code yX12_fact cX12_fact 2 (some .int) ∈ ALL := all_in 895 (by decide +kernel) (by decide +kernel)
theorem wi_X12_fact : Cond.instanceMethod yX12_fact ∈ ALL := all_in 893 (by decide +kernel) (by decide +kernel)
theorem wse_X12_fact : Cond.selects yX12_fact.cls yX12_fact yX12_fact ∈ ALL := all_in 894 (by decide +kernel) (by decide +kernel)
abbrev mX12_findBest : MD := (yX12_findBest, cX12_findBest, 9, (some .boolean))
theorem wc_X12_findBest : Cond.code yX12_findBest cX12_findBest 9 (some .boolean) ∈ ALL := all_in 935 (by decide +kernel) (by decide +kernel)
theorem wi_X12_findBest : Cond.instanceMethod yX12_findBest ∈ ALL := all_in 934 (by decide +kernel) (by decide +kernel)
theorem wse_X12_findBest : Cond.selects yX12_findBest.cls yX12_findBest yX12_findBest ∈ ALL := all_in 15 (by decide +kernel) (by decide +kernel)
abbrev mX12_findWay : MD := (yX12_findWay, cX12_findWay, 2, (some .int))
theorem wc_X12_findWay : Cond.code yX12_findWay cX12_findWay 2 (some .int) ∈ ALL := all_in 1014 (by decide +kernel) (by decide +kernel)
theorem wi_X12_findWay : Cond.instanceMethod yX12_findWay ∈ ALL := all_in 1013 (by decide +kernel) (by decide +kernel)
theorem wse_X12_findWay : Cond.selects yX12_findWay.cls yX12_findWay yX12_findWay ∈ ALL := all_in 26 (by decide +kernel) (by decide +kernel)
abbrev mX12_first : MD := (yX12_first, cX12_first, 3, (some .int))
theorem wc_X12_first : Cond.code yX12_first cX12_first 3 (some .int) ∈ ALL := all_in 907 (by decide +kernel) (by decide +kernel)
theorem wi_X12_first : Cond.instanceMethod yX12_first ∈ ALL := all_in 905 (by decide +kernel) (by decide +kernel)
theorem wse_X12_first : Cond.selects yX12_first.cls yX12_first yX12_first ∈ ALL := all_in 906 (by decide +kernel) (by decide +kernel)
abbrev mX12_firstPlan : MD := (yX12_firstPlan, cX12_firstPlan, 2, none)
theorem wc_X12_firstPlan : Cond.code yX12_firstPlan cX12_firstPlan 2 none ∈ ALL := all_in 939 (by decide +kernel) (by decide +kernel)
theorem wi_X12_firstPlan : Cond.instanceMethod yX12_firstPlan ∈ ALL := all_in 938 (by decide +kernel) (by decide +kernel)
theorem wse_X12_firstPlan : Cond.selects yX12_firstPlan.cls yX12_firstPlan yX12_firstPlan ∈ ALL := all_in 16 (by decide +kernel) (by decide +kernel)
abbrev mX12_goOn : MD := (yX12_goOn, cX12_goOn, 7, none)
theorem wc_X12_goOn : Cond.code yX12_goOn cX12_goOn 7 none ∈ ALL := all_in 1018 (by decide +kernel) (by decide +kernel)
theorem wi_X12_goOn : Cond.instanceMethod yX12_goOn ∈ ALL := all_in 1017 (by decide +kernel) (by decide +kernel)
theorem wse_X12_goOn : Cond.selects yX12_goOn.cls yX12_goOn yX12_goOn ∈ ALL := all_in 27 (by decide +kernel) (by decide +kernel)
abbrev mX12_isAllowed : MD := (yX12_isAllowed, cX12_isAllowed, 5, (some .boolean))
theorem wc_X12_isAllowed : Cond.code yX12_isAllowed cX12_isAllowed 5 (some .boolean) ∈ ALL := all_in 943 (by decide +kernel) (by decide +kernel)
theorem wi_X12_isAllowed : Cond.instanceMethod yX12_isAllowed ∈ ALL := all_in 942 (by decide +kernel) (by decide +kernel)
theorem wse_X12_isAllowed : Cond.selects yX12_isAllowed.cls yX12_isAllowed yX12_isAllowed ∈ ALL := all_in 17 (by decide +kernel) (by decide +kernel)
abbrev mX12_isBefore : MD := (yX12_isBefore, cX12_isBefore, 3, (some .boolean))
theorem wc_X12_isBefore : Cond.code yX12_isBefore cX12_isBefore 3 (some .boolean) ∈ ALL := all_in 1037 (by decide +kernel) (by decide +kernel)
theorem wi_X12_isBefore : Cond.static yX12_isBefore ∈ ALL := all_in 1036 (by decide +kernel) (by decide +kernel)
abbrev mX12_isClash : MD := (yX12_isClash, cX12_isClash, 3, (some .boolean))
theorem wc_X12_isClash : Cond.code yX12_isClash cX12_isClash 3 (some .boolean) ∈ ALL := all_in 1034 (by decide +kernel) (by decide +kernel)
theorem wi_X12_isClash : Cond.instanceMethod yX12_isClash ∈ ALL := all_in 1033 (by decide +kernel) (by decide +kernel)
theorem wse_X12_isClash : Cond.selects yX12_isClash.cls yX12_isClash yX12_isClash ∈ ALL := all_in 29 (by decide +kernel) (by decide +kernel)
abbrev mX12_isMoved : MD := (yX12_isMoved, cX12_isMoved, 3, (some .boolean))
theorem wc_X12_isMoved : Cond.code yX12_isMoved cX12_isMoved 3 (some .boolean) ∈ ALL := all_in 947 (by decide +kernel) (by decide +kernel)
theorem wi_X12_isMoved : Cond.instanceMethod yX12_isMoved ∈ ALL := all_in 946 (by decide +kernel) (by decide +kernel)
theorem wse_X12_isMoved : Cond.selects yX12_isMoved.cls yX12_isMoved yX12_isMoved ∈ ALL := all_in 18 (by decide +kernel) (by decide +kernel)
abbrev mX12_keep : MD := (yX12_keep, cX12_keep, 2, (some .int))
theorem wc_X12_keep : Cond.code yX12_keep cX12_keep 2 (some .int) ∈ ALL := all_in 919 (by decide +kernel) (by decide +kernel)
theorem wi_X12_keep : Cond.instanceMethod yX12_keep ∈ ALL := all_in 917 (by decide +kernel) (by decide +kernel)
theorem wse_X12_keep : Cond.selects yX12_keep.cls yX12_keep yX12_keep ∈ ALL := all_in 918 (by decide +kernel) (by decide +kernel)
abbrev mX12_keeps : MD := (yX12_keeps, cX12_keeps, 7, (some .boolean))
theorem wc_X12_keeps : Cond.code yX12_keeps cX12_keeps 7 (some .boolean) ∈ ALL := all_in 955 (by decide +kernel) (by decide +kernel)
theorem wi_X12_keeps : Cond.instanceMethod yX12_keeps ∈ ALL := all_in 954 (by decide +kernel) (by decide +kernel)
theorem wse_X12_keeps : Cond.selects yX12_keeps.cls yX12_keeps yX12_keeps ∈ ALL := all_in 20 (by decide +kernel) (by decide +kernel)
abbrev mX12_least : MD := (yX12_least, cX12_least, 1, (some .int))
theorem wc_X12_least : Cond.code yX12_least cX12_least 1 (some .int) ∈ ALL := all_in 990 (by decide +kernel) (by decide +kernel)
theorem wi_X12_least : Cond.instanceMethod yX12_least ∈ ALL := all_in 988 (by decide +kernel) (by decide +kernel)
theorem wse_X12_least : Cond.selects yX12_least.cls yX12_least yX12_least ∈ ALL := all_in 989 (by decide +kernel) (by decide +kernel)
abbrev mX12_leastClash : MD := (yX12_leastClash, cX12_leastClash, 4, (some .int))
theorem wc_X12_leastClash : Cond.code yX12_leastClash cX12_leastClash 4 (some .int) ∈ ALL := all_in 1030 (by decide +kernel) (by decide +kernel)
theorem wi_X12_leastClash : Cond.instanceMethod yX12_leastClash ∈ ALL := all_in 1029 (by decide +kernel) (by decide +kernel)
theorem wse_X12_leastClash : Cond.selects yX12_leastClash.cls yX12_leastClash yX12_leastClash ∈ ALL := all_in 28 (by decide +kernel) (by decide +kernel)
abbrev mX12_leastOf : MD := (yX12_leastOf, cX12_leastOf, 6, (some .int))
theorem wc_X12_leastOf : Cond.code yX12_leastOf cX12_leastOf 6 (some .int) ∈ ALL := all_in 994 (by decide +kernel) (by decide +kernel)
theorem wi_X12_leastOf : Cond.instanceMethod yX12_leastOf ∈ ALL := all_in 993 (by decide +kernel) (by decide +kernel)
theorem wse_X12_leastOf : Cond.selects yX12_leastOf.cls yX12_leastOf yX12_leastOf ∈ ALL := all_in 25 (by decide +kernel) (by decide +kernel)
abbrev mX12_limit : MD := (yX12_limit, cX12_limit, 4, (some .int))
theorem wc_X12_limit : Cond.code yX12_limit cX12_limit 4 (some .int) ∈ ALL := all_in 891 (by decide +kernel) (by decide +kernel)
theorem wi_X12_limit : Cond.instanceMethod yX12_limit ∈ ALL := all_in 889 (by decide +kernel) (by decide +kernel)
theorem wse_X12_limit : Cond.selects yX12_limit.cls yX12_limit yX12_limit ∈ ALL := all_in 890 (by decide +kernel) (by decide +kernel)
abbrev mX12_mayHave : MD := (yX12_mayHave, cX12_mayHave, 3, (some .boolean))
theorem wc_X12_mayHave : Cond.code yX12_mayHave cX12_mayHave 3 (some .boolean) ∈ ALL := all_in 887 (by decide +kernel) (by decide +kernel)
theorem wi_X12_mayHave : Cond.instanceMethod yX12_mayHave ∈ ALL := all_in 886 (by decide +kernel) (by decide +kernel)
theorem wse_X12_mayHave : Cond.selects yX12_mayHave.cls yX12_mayHave yX12_mayHave ∈ ALL := all_in 14 (by decide +kernel) (by decide +kernel)
abbrev mX12_movedBits : MD := (yX12_movedBits, cX12_movedBits, 3, (some .int))
theorem wc_X12_movedBits : Cond.code yX12_movedBits cX12_movedBits 3 (some .int) ∈ ALL := all_in 979 (by decide +kernel) (by decide +kernel)
theorem wi_X12_movedBits : Cond.instanceMethod yX12_movedBits ∈ ALL := all_in 978 (by decide +kernel) (by decide +kernel)
theorem wse_X12_movedBits : Cond.selects yX12_movedBits.cls yX12_movedBits yX12_movedBits ∈ ALL := all_in 24 (by decide +kernel) (by decide +kernel)
abbrev mX12_near : MD := (yX12_near, cX12_near, 4, (some .int))
theorem wc_X12_near : Cond.code yX12_near cX12_near 4 (some .int) ∈ ALL := all_in 986 (by decide +kernel) (by decide +kernel)
theorem wi_X12_near : Cond.instanceMethod yX12_near ∈ ALL := all_in 984 (by decide +kernel) (by decide +kernel)
theorem wse_X12_near : Cond.selects yX12_near.cls yX12_near yX12_near ∈ ALL := all_in 985 (by decide +kernel) (by decide +kernel)
abbrev mX12_nextPlan : MD := (yX12_nextPlan, cX12_nextPlan, 2, (some .boolean))
theorem wc_X12_nextPlan : Cond.code yX12_nextPlan cX12_nextPlan 2 (some .boolean) ∈ ALL := all_in 967 (by decide +kernel) (by decide +kernel)
theorem wi_X12_nextPlan : Cond.instanceMethod yX12_nextPlan ∈ ALL := all_in 966 (by decide +kernel) (by decide +kernel)
theorem wse_X12_nextPlan : Cond.selects yX12_nextPlan.cls yX12_nextPlan yX12_nextPlan ∈ ALL := all_in 23 (by decide +kernel) (by decide +kernel)
abbrev mX12_noDecision : MD := (yX12_noDecision, cX12_noDecision, 2, (some .boolean))
theorem wc_X12_noDecision : Cond.code yX12_noDecision cX12_noDecision 2 (some .boolean) ∈ ALL := all_in 875 (by decide +kernel) (by decide +kernel)
theorem wi_X12_noDecision : Cond.instanceMethod yX12_noDecision ∈ ALL := all_in 874 (by decide +kernel) (by decide +kernel)
theorem wse_X12_noDecision : Cond.selects yX12_noDecision.cls yX12_noDecision yX12_noDecision ∈ ALL := all_in 13 (by decide +kernel) (by decide +kernel)
abbrev mX12_old : MD := (yX12_old, cX12_old, 3, (some .int))
theorem wc_X12_old : Cond.code yX12_old cX12_old 3 (some .int) ∈ ALL := all_in 927 (by decide +kernel) (by decide +kernel)
theorem wi_X12_old : Cond.instanceMethod yX12_old ∈ ALL := all_in 925 (by decide +kernel) (by decide +kernel)
theorem wse_X12_old : Cond.selects yX12_old.cls yX12_old yX12_old ∈ ALL := all_in 926 (by decide +kernel) (by decide +kernel)
abbrev mX12_ones : MD := (yX12_ones, cX12_ones, 3, (some .int))
theorem wc_X12_ones : Cond.code yX12_ones cX12_ones 3 (some .int) ∈ ALL := all_in 982 (by decide +kernel) (by decide +kernel)
theorem wi_X12_ones : Cond.static yX12_ones ∈ ALL := all_in 981 (by decide +kernel) (by decide +kernel)
abbrev mX12_out : MD := (yX12_out, cX12_out, 3, (some .boolean))
theorem wc_X12_out : Cond.code yX12_out cX12_out 3 (some .boolean) ∈ ALL := all_in 867 (by decide +kernel) (by decide +kernel)
theorem wi_X12_out : Cond.static yX12_out ∈ ALL := all_in 866 (by decide +kernel) (by decide +kernel)
abbrev mX12_pin : MD := (yX12_pin, cX12_pin, 3, (some .int))
theorem wc_X12_pin : Cond.code yX12_pin cX12_pin 3 (some .int) ∈ ALL := all_in 883 (by decide +kernel) (by decide +kernel)
theorem wi_X12_pin : Cond.instanceMethod yX12_pin ∈ ALL := all_in 881 (by decide +kernel) (by decide +kernel)
theorem wse_X12_pin : Cond.selects yX12_pin.cls yX12_pin yX12_pin ∈ ALL := all_in 882 (by decide +kernel) (by decide +kernel)
abbrev mX12_put : MD := (yX12_put, cX12_put, 4, (some .int))
theorem wc_X12_put : Cond.code yX12_put cX12_put 4 (some .int) ∈ ALL := all_in 911 (by decide +kernel) (by decide +kernel)
theorem wi_X12_put : Cond.instanceMethod yX12_put ∈ ALL := all_in 909 (by decide +kernel) (by decide +kernel)
theorem wse_X12_put : Cond.selects yX12_put.cls yX12_put yX12_put ∈ ALL := all_in 910 (by decide +kernel) (by decide +kernel)
abbrev mX12_rule : MD := (yX12_rule, cX12_rule, 5, (some .int))
theorem wc_X12_rule : Cond.code yX12_rule cX12_rule 5 (some .int) ∈ ALL := all_in 903 (by decide +kernel) (by decide +kernel)
theorem wi_X12_rule : Cond.instanceMethod yX12_rule ∈ ALL := all_in 901 (by decide +kernel) (by decide +kernel)
theorem wse_X12_rule : Cond.selects yX12_rule.cls yX12_rule yX12_rule ∈ ALL := all_in 902 (by decide +kernel) (by decide +kernel)
abbrev mX12_run : MD := (yX12_run, cX12_run, 2, (some .int))
theorem wc_X12_run : Cond.code yX12_run cX12_run 2 (some .int) ∈ ALL := all_in 931 (by decide +kernel) (by decide +kernel)
theorem wi_X12_run : Cond.instanceMethod yX12_run ∈ ALL := all_in 929 (by decide +kernel) (by decide +kernel)
theorem wse_X12_run : Cond.selects yX12_run.cls yX12_run yX12_run ∈ ALL := all_in 930 (by decide +kernel) (by decide +kernel)
abbrev mX12_spare : MD := (yX12_spare, cX12_spare, 4, (some .int))
theorem wc_X12_spare : Cond.code yX12_spare cX12_spare 4 (some .int) ∈ ALL := all_in 1002 (by decide +kernel) (by decide +kernel)
theorem wi_X12_spare : Cond.instanceMethod yX12_spare ∈ ALL := all_in 1000 (by decide +kernel) (by decide +kernel)
theorem wse_X12_spare : Cond.selects yX12_spare.cls yX12_spare yX12_spare ∈ ALL := all_in 1001 (by decide +kernel) (by decide +kernel)
abbrev mX12_told : MD := (yX12_told, cX12_told, 2, (some .int))
theorem wc_X12_told : Cond.code yX12_told cX12_told 2 (some .int) ∈ ALL := all_in 975 (by decide +kernel) (by decide +kernel)
theorem wi_X12_told : Cond.instanceMethod yX12_told ∈ ALL := all_in 973 (by decide +kernel) (by decide +kernel)
theorem wse_X12_told : Cond.selects yX12_told.cls yX12_told yX12_told ∈ ALL := all_in 974 (by decide +kernel) (by decide +kernel)
abbrev mX12_undo : MD := (yX12_undo, cX12_undo, 2, (some .int))
theorem wc_X12_undo : Cond.code yX12_undo cX12_undo 2 (some .int) ∈ ALL := all_in 971 (by decide +kernel) (by decide +kernel)
theorem wi_X12_undo : Cond.instanceMethod yX12_undo ∈ ALL := all_in 969 (by decide +kernel) (by decide +kernel)
theorem wse_X12_undo : Cond.selects yX12_undo.cls yX12_undo yX12_undo ∈ ALL := all_in 970 (by decide +kernel) (by decide +kernel)
abbrev mX12_value : MD := (yX12_value, cX12_value, 2, (some .int))
theorem wc_X12_value : Cond.code yX12_value cX12_value 2 (some .int) ∈ ALL := all_in 915 (by decide +kernel) (by decide +kernel)
theorem wi_X12_value : Cond.instanceMethod yX12_value ∈ ALL := all_in 913 (by decide +kernel) (by decide +kernel)
theorem wse_X12_value : Cond.selects yX12_value.cls yX12_value yX12_value ∈ ALL := all_in 914 (by decide +kernel) (by decide +kernel)
abbrev mX12_way : MD := (yX12_way, cX12_way, 3, (some .int))
theorem wc_X12_way : Cond.code yX12_way cX12_way 3 (some .int) ∈ ALL := all_in 1010 (by decide +kernel) (by decide +kernel)
theorem wi_X12_way : Cond.instanceMethod yX12_way ∈ ALL := all_in 1008 (by decide +kernel) (by decide +kernel)
theorem wse_X12_way : Cond.selects yX12_way.cls yX12_way yX12_way ∈ ALL := all_in 1009 (by decide +kernel) (by decide +kernel)
abbrev mX12_weight : MD := (yX12_weight, cX12_weight, 4, (some .int))
theorem wc_X12_weight : Cond.code yX12_weight cX12_weight 4 (some .int) ∈ ALL := all_in 871 (by decide +kernel) (by decide +kernel)
theorem wi_X12_weight : Cond.instanceMethod yX12_weight ∈ ALL := all_in 869 (by decide +kernel) (by decide +kernel)
theorem wse_X12_weight : Cond.selects yX12_weight.cls yX12_weight yX12_weight ∈ ALL := all_in 870 (by decide +kernel) (by decide +kernel)
abbrev mX12_why : MD := (yX12_why, cX12_why, 6, (some .int))
theorem wc_X12_why : Cond.code yX12_why cX12_why 6 (some .int) ∈ ALL := all_in 1006 (by decide +kernel) (by decide +kernel)
theorem wi_X12_why : Cond.instanceMethod yX12_why ∈ ALL := all_in 1004 (by decide +kernel) (by decide +kernel)
theorem wse_X12_why : Cond.selects yX12_why.cls yX12_why yX12_why ∈ ALL := all_in 1005 (by decide +kernel) (by decide +kernel)
abbrev mX12_without : MD := (yX12_without, cX12_without, 2, (some .int))
theorem wc_X12_without : Cond.code yX12_without cX12_without 2 (some .int) ∈ ALL := all_in 998 (by decide +kernel) (by decide +kernel)
theorem wi_X12_without : Cond.instanceMethod yX12_without ∈ ALL := all_in 996 (by decide +kernel) (by decide +kernel)
theorem wse_X12_without : Cond.selects yX12_without.cls yX12_without yX12_without ∈ ALL := all_in 997 (by decide +kernel) (by decide +kernel)
abbrev mX12_worth : MD := (yX12_worth, cX12_worth, 5, (some .int))
theorem wc_X12_worth : Cond.code yX12_worth cX12_worth 5 (some .int) ∈ ALL := all_in 879 (by decide +kernel) (by decide +kernel)
theorem wi_X12_worth : Cond.instanceMethod yX12_worth ∈ ALL := all_in 877 (by decide +kernel) (by decide +kernel)
theorem wse_X12_worth : Cond.selects yX12_worth.cls yX12_worth yX12_worth ∈ ALL := all_in 878 (by decide +kernel) (by decide +kernel)
abbrev mX12_worthOf : MD := (yX12_worthOf, cX12_worthOf, 4, (some .int))
theorem wc_X12_worthOf : Cond.code yX12_worthOf cX12_worthOf 4 (some .int) ∈ ALL := all_in 963 (by decide +kernel) (by decide +kernel)
theorem wi_X12_worthOf : Cond.instanceMethod yX12_worthOf ∈ ALL := all_in 962 (by decide +kernel) (by decide +kernel)
theorem wse_X12_worthOf : Cond.selects yX12_worthOf.cls yX12_worthOf yX12_worthOf ∈ ALL := all_in 22 (by decide +kernel) (by decide +kernel)
abbrev mX1_begin : MD := (yX1_begin, cX1_begin, 3, none)
theorem wc_X1_begin : Cond.code yX1_begin cX1_begin 3 none ∈ ALL := all_in 734 (by decide +kernel) (by decide +kernel)
theorem wi_X1_begin : Cond.instanceMethod yX1_begin ∈ ALL := all_in 732 (by decide +kernel) (by decide +kernel)
theorem wse_X1_begin : Cond.selects yX1_begin.cls yX1_begin yX1_begin ∈ ALL := all_in 733 (by decide +kernel) (by decide +kernel)
abbrev mX1_isHopeless : MD := (yX1_isHopeless, cX1_isHopeless, 4, (some .boolean))
theorem wc_X1_isHopeless : Cond.code yX1_isHopeless cX1_isHopeless 4 (some .boolean) ∈ ALL := all_in 519 (by decide +kernel) (by decide +kernel)
theorem wi_X1_isHopeless : Cond.instanceMethod yX1_isHopeless ∈ ALL := all_in 518 (by decide +kernel) (by decide +kernel)
abbrev mX1_isLess : MD := (yX1_isLess, cX1_isLess, 4, (some .boolean))
theorem wc_X1_isLess : Cond.code yX1_isLess cX1_isLess 4 (some .boolean) ∈ ALL := all_in 741 (by decide +kernel) (by decide +kernel)
theorem wi_X1_isLess : Cond.static yX1_isLess ∈ ALL := all_in 740 (by decide +kernel) (by decide +kernel)
abbrev mX1_leastSet : MD := (yX1_leastSet, cX1_leastSet, 3, (some .int))
theorem wc_X1_leastSet : Cond.code yX1_leastSet cX1_leastSet 3 (some .int) ∈ ALL := all_in 738 (by decide +kernel) (by decide +kernel)
theorem wi_X1_leastSet : Cond.instanceMethod yX1_leastSet ∈ ALL := all_in 736 (by decide +kernel) (by decide +kernel)
theorem wse_X1_leastSet : Cond.selects yX1_leastSet.cls yX1_leastSet yX1_leastSet ∈ ALL := all_in 737 (by decide +kernel) (by decide +kernel)
abbrev mX1_reach : MD := (yX1_reach, cX1_reach, 7, none)
theorem wc_X1_reach : Cond.code yX1_reach cX1_reach 7 none ∈ ALL := all_in 532 (by decide +kernel) (by decide +kernel)
theorem wi_X1_reach : Cond.instanceMethod yX1_reach ∈ ALL := all_in 531 (by decide +kernel) (by decide +kernel)
abbrev mX2_begin : MD := (yX2_begin, cX2_begin, 2, none)
theorem wc_X2_begin : Cond.code yX2_begin cX2_begin 2 none ∈ ALL := all_in 636 (by decide +kernel) (by decide +kernel)
theorem wi_X2_begin : Cond.instanceMethod yX2_begin ∈ ALL := all_in 634 (by decide +kernel) (by decide +kernel)
theorem wse_X2_begin : Cond.selects yX2_begin.cls yX2_begin yX2_begin ∈ ALL := all_in 635 (by decide +kernel) (by decide +kernel)
abbrev mX2_isHopeless : MD := (yX2_isHopeless, cX2_isHopeless, 4, (some .boolean))
theorem wc_X2_isHopeless : Cond.code yX2_isHopeless cX2_isHopeless 4 (some .boolean) ∈ ALL := all_in 522 (by decide +kernel) (by decide +kernel)
theorem wi_X2_isHopeless : Cond.instanceMethod yX2_isHopeless ∈ ALL := all_in 521 (by decide +kernel) (by decide +kernel)
abbrev mX2_reach : MD := (yX2_reach, cX2_reach, 5, none)
theorem wc_X2_reach : Cond.code yX2_reach cX2_reach 5 none ∈ ALL := all_in 535 (by decide +kernel) (by decide +kernel)
theorem wi_X2_reach : Cond.instanceMethod yX2_reach ∈ ALL := all_in 534 (by decide +kernel) (by decide +kernel)
abbrev mX3_add : MD := (yX3_add, cX3_add, 5, (some .int))
theorem wc_X3_add : Cond.code yX3_add cX3_add 5 (some .int) ∈ ALL := all_in 386 (by decide +kernel) (by decide +kernel)
theorem wi_X3_add : Cond.instanceMethod yX3_add ∈ ALL := all_in 384 (by decide +kernel) (by decide +kernel)
theorem wse_X3_add : Cond.selects yX3_add.cls yX3_add yX3_add ∈ ALL := all_in 385 (by decide +kernel) (by decide +kernel)
abbrev mX3_has : MD := (yX3_has, cX3_has, 2, (some .boolean))
theorem wc_X3_has : Cond.code yX3_has cX3_has 2 (some .boolean) ∈ ALL := all_in 394 (by decide +kernel) (by decide +kernel)
theorem wi_X3_has : Cond.instanceMethod yX3_has ∈ ALL := all_in 392 (by decide +kernel) (by decide +kernel)
theorem wse_X3_has : Cond.selects yX3_has.cls yX3_has yX3_has ∈ ALL := all_in 393 (by decide +kernel) (by decide +kernel)
abbrev mX3_mayHave : MD := (yX3_mayHave, cX3_mayHave, 3, (some .boolean))
theorem wc_X3_mayHave : Cond.code yX3_mayHave cX3_mayHave 3 (some .boolean) ∈ ALL := all_in 406 (by decide +kernel) (by decide +kernel)
theorem wi_X3_mayHave : Cond.instanceMethod yX3_mayHave ∈ ALL := all_in 404 (by decide +kernel) (by decide +kernel)
theorem wse_X3_mayHave : Cond.selects yX3_mayHave.cls yX3_mayHave yX3_mayHave ∈ ALL := all_in 405 (by decide +kernel) (by decide +kernel)
abbrev mX3_pinLets : MD := (yX3_pinLets, cX3_pinLets, 3, (some .boolean))
theorem wc_X3_pinLets : Cond.code yX3_pinLets cX3_pinLets 3 (some .boolean) ∈ ALL := all_in 497 (by decide +kernel) (by decide +kernel)
theorem wi_X3_pinLets : Cond.instanceMethod yX3_pinLets ∈ ALL := all_in 495 (by decide +kernel) (by decide +kernel)
theorem wse_X3_pinLets : Cond.selects yX3_pinLets.cls yX3_pinLets yX3_pinLets ∈ ALL := all_in 496 (by decide +kernel) (by decide +kernel)
abbrev mX5_add : MD := (yX5_add, cX5_add, 3, (some .int))
theorem wc_X5_add : Cond.code yX5_add cX5_add 3 (some .int) ∈ ALL := all_in 457 (by decide +kernel) (by decide +kernel)
theorem wi_X5_add : Cond.instanceMethod yX5_add ∈ ALL := all_in 455 (by decide +kernel) (by decide +kernel)
theorem wse_X5_add : Cond.selects yX5_add.cls yX5_add yX5_add ∈ ALL := all_in 456 (by decide +kernel) (by decide +kernel)
abbrev mX5_factThen : MD := (yX5_factThen, cX5_factThen, 2, (some .int))
theorem wc_X5_factThen : Cond.code yX5_factThen cX5_factThen 2 (some .int) ∈ ALL := all_in 673 (by decide +kernel) (by decide +kernel)
theorem wi_X5_factThen : Cond.instanceMethod yX5_factThen ∈ ALL := all_in 671 (by decide +kernel) (by decide +kernel)
theorem wse_X5_factThen : Cond.selects yX5_factThen.cls yX5_factThen yX5_factThen ∈ ALL := all_in 672 (by decide +kernel) (by decide +kernel)
abbrev mX5_has : MD := (yX5_has, cX5_has, 2, (some .boolean))
theorem wc_X5_has : Cond.code yX5_has cX5_has 2 (some .boolean) ∈ ALL := all_in 468 (by decide +kernel) (by decide +kernel)
theorem wi_X5_has : Cond.instanceMethod yX5_has ∈ ALL := all_in 466 (by decide +kernel) (by decide +kernel)
theorem wse_X5_has : Cond.selects yX5_has.cls yX5_has yX5_has ∈ ALL := all_in 467 (by decide +kernel) (by decide +kernel)
abbrev mX5_hasBase : MD := (yX5_hasBase, cX5_hasBase, 1, (some .boolean))
theorem wc_X5_hasBase : Cond.code yX5_hasBase cX5_hasBase 1 (some .boolean) ∈ ALL := all_in 543 (by decide +kernel) (by decide +kernel)
theorem wi_X5_hasBase : Cond.instanceMethod yX5_hasBase ∈ ALL := all_in 541 (by decide +kernel) (by decide +kernel)
theorem wse_X5_hasBase : Cond.selects yX5_hasBase.cls yX5_hasBase yX5_hasBase ∈ ALL := all_in 542 (by decide +kernel) (by decide +kernel)
abbrev mX5_moves : MD := (yX5_moves, cX5_moves, 3, (some .boolean))
theorem wc_X5_moves : Cond.code yX5_moves cX5_moves 3 (some .boolean) ∈ ALL := all_in 539 (by decide +kernel) (by decide +kernel)
theorem wi_X5_moves : Cond.instanceMethod yX5_moves ∈ ALL := all_in 537 (by decide +kernel) (by decide +kernel)
theorem wse_X5_moves : Cond.selects yX5_moves.cls yX5_moves yX5_moves ∈ ALL := all_in 538 (by decide +kernel) (by decide +kernel)
abbrev mX5_valueThen : MD := (yX5_valueThen, cX5_valueThen, 2, (some .int))
theorem wc_X5_valueThen : Cond.code yX5_valueThen cX5_valueThen 2 (some .int) ∈ ALL := all_in 567 (by decide +kernel) (by decide +kernel)
theorem wi_X5_valueThen : Cond.instanceMethod yX5_valueThen ∈ ALL := all_in 565 (by decide +kernel) (by decide +kernel)
theorem wse_X5_valueThen : Cond.selects yX5_valueThen.cls yX5_valueThen yX5_valueThen ∈ ALL := all_in 566 (by decide +kernel) (by decide +kernel)
abbrev mX6_forgetOldest : MD := (yX6_forgetOldest, cX6_forgetOldest, 2, none)
theorem wc_X6_forgetOldest : Cond.code yX6_forgetOldest cX6_forgetOldest 2 none ∈ ALL := all_in 577 (by decide +kernel) (by decide +kernel)
theorem wi_X6_forgetOldest : Cond.instanceMethod yX6_forgetOldest ∈ ALL := all_in 576 (by decide +kernel) (by decide +kernel)
theorem wse_X6_forgetOldest : Cond.selects yX6_forgetOldest.cls yX6_forgetOldest yX6_forgetOldest ∈ ALL := all_in 2 (by decide +kernel) (by decide +kernel)
abbrev mX6_pop : MD := (yX6_pop, cX6_pop, 2, none)
theorem wc_X6_pop : Cond.code yX6_pop cX6_pop 2 none ∈ ALL := all_in 587 (by decide +kernel) (by decide +kernel)
theorem wi_X6_pop : Cond.instanceMethod yX6_pop ∈ ALL := all_in 585 (by decide +kernel) (by decide +kernel)
theorem wse_X6_pop : Cond.selects yX6_pop.cls yX6_pop yX6_pop ∈ ALL := all_in 586 (by decide +kernel) (by decide +kernel)
abbrev mX6_push : MD := (yX6_push, cX6_push, 3, none)
theorem wc_X6_push : Cond.code yX6_push cX6_push 3 none ∈ ALL := all_in 573 (by decide +kernel) (by decide +kernel)
theorem wi_X6_push : Cond.instanceMethod yX6_push ∈ ALL := all_in 571 (by decide +kernel) (by decide +kernel)
theorem wse_X6_push : Cond.selects yX6_push.cls yX6_push yX6_push ∈ ALL := all_in 572 (by decide +kernel) (by decide +kernel)
abbrev mX7_brokenWith : MD := (yX7_brokenWith, cX7_brokenWith, 4, (some .int))
theorem wc_X7_brokenWith : Cond.code yX7_brokenWith cX7_brokenWith 4 (some .int) ∈ ALL := all_in 695 (by decide +kernel) (by decide +kernel)
theorem wi_X7_brokenWith : Cond.instanceMethod yX7_brokenWith ∈ ALL := all_in 694 (by decide +kernel) (by decide +kernel)
theorem wse_X7_brokenWith : Cond.selects yX7_brokenWith.cls yX7_brokenWith yX7_brokenWith ∈ ALL := all_in 7 (by decide +kernel) (by decide +kernel)
abbrev mX7_find : MD := (yX7_find, cX7_find, 4, none)
theorem wc_X7_find : Cond.code yX7_find cX7_find 4 none ∈ ALL := all_in 691 (by decide +kernel) (by decide +kernel)
theorem wi_X7_find : Cond.instanceMethod yX7_find ∈ ALL := all_in 689 (by decide +kernel) (by decide +kernel)
theorem wse_X7_find : Cond.selects yX7_find.cls yX7_find yX7_find ∈ ALL := all_in 690 (by decide +kernel) (by decide +kernel)
abbrev mX7_findPeaks : MD := (yX7_findPeaks, cX7_findPeaks, 6, none)
theorem wc_X7_findPeaks : Cond.code yX7_findPeaks cX7_findPeaks 6 none ∈ ALL := all_in 702 (by decide +kernel) (by decide +kernel)
theorem wi_X7_findPeaks : Cond.instanceMethod yX7_findPeaks ∈ ALL := all_in 701 (by decide +kernel) (by decide +kernel)
theorem wse_X7_findPeaks : Cond.selects yX7_findPeaks.cls yX7_findPeaks yX7_findPeaks ∈ ALL := all_in 8 (by decide +kernel) (by decide +kernel)
abbrev mX7_findSums : MD := (yX7_findSums, cX7_findSums, 5, none)
theorem wc_X7_findSums : Cond.code yX7_findSums cX7_findSums 5 none ∈ ALL := all_in 710 (by decide +kernel) (by decide +kernel)
theorem wi_X7_findSums : Cond.instanceMethod yX7_findSums ∈ ALL := all_in 709 (by decide +kernel) (by decide +kernel)
theorem wse_X7_findSums : Cond.selects yX7_findSums.cls yX7_findSums yX7_findSums ∈ ALL := all_in 9 (by decide +kernel) (by decide +kernel)
abbrev mX7_follow : MD := (yX7_follow, cX7_follow, 5, none)
theorem wc_X7_follow : Cond.code yX7_follow cX7_follow 5 none ∈ ALL := all_in 718 (by decide +kernel) (by decide +kernel)
theorem wi_X7_follow : Cond.instanceMethod yX7_follow ∈ ALL := all_in 717 (by decide +kernel) (by decide +kernel)
theorem wse_X7_follow : Cond.selects yX7_follow.cls yX7_follow yX7_follow ∈ ALL := all_in 11 (by decide +kernel) (by decide +kernel)
abbrev mX7_leastStep : MD := (yX7_leastStep, cX7_leastStep, 5, (some .int))
theorem wc_X7_leastStep : Cond.code yX7_leastStep cX7_leastStep 5 (some .int) ∈ ALL := all_in 722 (by decide +kernel) (by decide +kernel)
theorem wi_X7_leastStep : Cond.instanceMethod yX7_leastStep ∈ ALL := all_in 721 (by decide +kernel) (by decide +kernel)
theorem wse_X7_leastStep : Cond.selects yX7_leastStep.cls yX7_leastStep yX7_leastStep ∈ ALL := all_in 12 (by decide +kernel) (by decide +kernel)
abbrev mX7_sumThrough : MD := (yX7_sumThrough, cX7_sumThrough, 2, (some .int))
theorem wc_X7_sumThrough : Cond.code yX7_sumThrough cX7_sumThrough 2 (some .int) ∈ ALL := all_in 714 (by decide +kernel) (by decide +kernel)
theorem wi_X7_sumThrough : Cond.instanceMethod yX7_sumThrough ∈ ALL := all_in 713 (by decide +kernel) (by decide +kernel)
theorem wse_X7_sumThrough : Cond.selects yX7_sumThrough.cls yX7_sumThrough yX7_sumThrough ∈ ALL := all_in 10 (by decide +kernel) (by decide +kernel)
abbrev mX8_add : MD := (yX8_add, cX8_add, 6, (some .int))
theorem wc_X8_add : Cond.code yX8_add cX8_add 6 (some .int) ∈ ALL := all_in 434 (by decide +kernel) (by decide +kernel)
theorem wi_X8_add : Cond.instanceMethod yX8_add ∈ ALL := all_in 432 (by decide +kernel) (by decide +kernel)
theorem wse_X8_add : Cond.selects yX8_add.cls yX8_add yX8_add ∈ ALL := all_in 433 (by decide +kernel) (by decide +kernel)
abbrev mX8_addFact : MD := (yX8_addFact, cX8_addFact, 2, (some .int))
theorem wc_X8_addFact : Cond.code yX8_addFact cX8_addFact 2 (some .int) ∈ ALL := all_in 418 (by decide +kernel) (by decide +kernel)
theorem wi_X8_addFact : Cond.instanceMethod yX8_addFact ∈ ALL := all_in 416 (by decide +kernel) (by decide +kernel)
theorem wse_X8_addFact : Cond.selects yX8_addFact.cls yX8_addFact yX8_addFact ∈ ALL := all_in 417 (by decide +kernel) (by decide +kernel)
abbrev mX8_brokenAt : MD := (yX8_brokenAt, cX8_brokenAt, 7, (some .int))
theorem wc_X8_brokenAt : Cond.code yX8_brokenAt cX8_brokenAt 7 (some .int) ∈ ALL := all_in 548 (by decide +kernel) (by decide +kernel)
theorem wi_X8_brokenAt : Cond.instanceMethod yX8_brokenAt ∈ ALL := all_in 546 (by decide +kernel) (by decide +kernel)
theorem wse_X8_brokenAt : Cond.selects yX8_brokenAt.cls yX8_brokenAt yX8_brokenAt ∈ ALL := all_in 547 (by decide +kernel) (by decide +kernel)
abbrev mX8_brokenByNone : MD := (yX8_brokenByNone, cX8_brokenByNone, 4, (some .int))
theorem wc_X8_brokenByNone : Cond.code yX8_brokenByNone cX8_brokenByNone 4 (some .int) ∈ ALL := all_in 506 (by decide +kernel) (by decide +kernel)
theorem wi_X8_brokenByNone : Cond.instanceMethod yX8_brokenByNone ∈ ALL := all_in 504 (by decide +kernel) (by decide +kernel)
theorem wse_X8_brokenByNone : Cond.selects yX8_brokenByNone.cls yX8_brokenByNone yX8_brokenByNone ∈ ALL := all_in 505 (by decide +kernel) (by decide +kernel)
abbrev mX8_brokenIn : MD := (yX8_brokenIn, cX8_brokenIn, 6, (some .int))
theorem wc_X8_brokenIn : Cond.code yX8_brokenIn cX8_brokenIn 6 (some .int) ∈ ALL := all_in 618 (by decide +kernel) (by decide +kernel)
theorem wi_X8_brokenIn : Cond.instanceMethod yX8_brokenIn ∈ ALL := all_in 616 (by decide +kernel) (by decide +kernel)
theorem wse_X8_brokenIn : Cond.selects yX8_brokenIn.cls yX8_brokenIn yX8_brokenIn ∈ ALL := all_in 617 (by decide +kernel) (by decide +kernel)
abbrev mX8_has : MD := (yX8_has, cX8_has, 2, (some .boolean))
theorem wc_X8_has : Cond.code yX8_has cX8_has 2 (some .boolean) ∈ ALL := all_in 652 (by decide +kernel) (by decide +kernel)
theorem wi_X8_has : Cond.instanceMethod yX8_has ∈ ALL := all_in 650 (by decide +kernel) (by decide +kernel)
theorem wse_X8_has : Cond.selects yX8_has.cls yX8_has yX8_has ∈ ALL := all_in 651 (by decide +kernel) (by decide +kernel)
abbrev mX8_hasFact : MD := (yX8_hasFact, cX8_hasFact, 2, (some .boolean))
theorem wc_X8_hasFact : Cond.code yX8_hasFact cX8_hasFact 2 (some .boolean) ∈ ALL := all_in 426 (by decide +kernel) (by decide +kernel)
theorem wi_X8_hasFact : Cond.instanceMethod yX8_hasFact ∈ ALL := all_in 424 (by decide +kernel) (by decide +kernel)
theorem wse_X8_hasFact : Cond.selects yX8_hasFact.cls yX8_hasFact yX8_hasFact ∈ ALL := all_in 425 (by decide +kernel) (by decide +kernel)
abbrev mX8_isKept : MD := (yX8_isKept, cX8_isKept, 7, (some .boolean))
theorem wc_X8_isKept : Cond.code yX8_isKept cX8_isKept 7 (some .boolean) ∈ ALL := all_in 552 (by decide +kernel) (by decide +kernel)
theorem wi_X8_isKept : Cond.instanceMethod yX8_isKept ∈ ALL := all_in 551 (by decide +kernel) (by decide +kernel)
theorem wse_X8_isKept : Cond.selects yX8_isKept.cls yX8_isKept yX8_isKept ∈ ALL := all_in 1 (by decide +kernel) (by decide +kernel)
abbrev mX8_timesUpTo : MD := (yX8_timesUpTo, cX8_timesUpTo, 5, (some .int))
theorem wc_X8_timesUpTo : Cond.code yX8_timesUpTo cX8_timesUpTo 5 (some .int) ∈ ALL := all_in 555 (by decide +kernel) (by decide +kernel)
theorem wi_X8_timesUpTo : Cond.static yX8_timesUpTo ∈ ALL := all_in 554 (by decide +kernel) (by decide +kernel)
abbrev mX9_costAt : MD := (yX9_costAt, cX9_costAt, 4, (some .int))
theorem wc_X9_costAt : Cond.code yX9_costAt cX9_costAt 4 (some .int) ∈ ALL := all_in 562 (by decide +kernel) (by decide +kernel)
theorem wi_X9_costAt : Cond.instanceMethod yX9_costAt ∈ ALL := all_in 560 (by decide +kernel) (by decide +kernel)
theorem wse_X9_costAt : Cond.selects yX9_costAt.cls yX9_costAt yX9_costAt ∈ ALL := all_in 561 (by decide +kernel) (by decide +kernel)
abbrev mX9_costOf : MD := (yX9_costOf, cX9_costOf, 4, (some .int))
theorem wc_X9_costOf : Cond.code yX9_costOf cX9_costOf 4 (some .int) ∈ ALL := all_in 595 (by decide +kernel) (by decide +kernel)
theorem wi_X9_costOf : Cond.instanceMethod yX9_costOf ∈ ALL := all_in 593 (by decide +kernel) (by decide +kernel)
theorem wse_X9_costOf : Cond.selects yX9_costOf.cls yX9_costOf yX9_costOf ∈ ALL := all_in 594 (by decide +kernel) (by decide +kernel)
abbrev mX9_isAllowed : MD := (yX9_isAllowed, cX9_isAllowed, 3, (some .boolean))
theorem wc_X9_isAllowed : Cond.code yX9_isAllowed cX9_isAllowed 3 (some .boolean) ∈ ALL := all_in 624 (by decide +kernel) (by decide +kernel)
theorem wi_X9_isAllowed : Cond.instanceMethod yX9_isAllowed ∈ ALL := all_in 622 (by decide +kernel) (by decide +kernel)
theorem wse_X9_isAllowed : Cond.selects yX9_isAllowed.cls yX9_isAllowed yX9_isAllowed ∈ ALL := all_in 623 (by decide +kernel) (by decide +kernel)
abbrev mX9_mostWorthAt : MD := (yX9_mostWorthAt, cX9_mostWorthAt, 4, (some .int))
theorem wc_X9_mostWorthAt : Cond.code yX9_mostWorthAt cX9_mostWorthAt 4 (some .int) ∈ ALL := all_in 493 (by decide +kernel) (by decide +kernel)
theorem wi_X9_mostWorthAt : Cond.instanceMethod yX9_mostWorthAt ∈ ALL := all_in 491 (by decide +kernel) (by decide +kernel)
theorem wse_X9_mostWorthAt : Cond.selects yX9_mostWorthAt.cls yX9_mostWorthAt yX9_mostWorthAt ∈ ALL := all_in 492 (by decide +kernel) (by decide +kernel)
abbrev mX9_movedBits : MD := (yX9_movedBits, cX9_movedBits, 4, (some .int))
theorem wc_X9_movedBits : Cond.code yX9_movedBits cX9_movedBits 4 (some .int) ∈ ALL := all_in 604 (by decide +kernel) (by decide +kernel)
theorem wi_X9_movedBits : Cond.instanceMethod yX9_movedBits ∈ ALL := all_in 602 (by decide +kernel) (by decide +kernel)
theorem wse_X9_movedBits : Cond.selects yX9_movedBits.cls yX9_movedBits yX9_movedBits ∈ ALL := all_in 603 (by decide +kernel) (by decide +kernel)
abbrev mX9_movedOf : MD := (yX9_movedOf, cX9_movedOf, 5, (some .int))
theorem wc_X9_movedOf : Cond.code yX9_movedOf cX9_movedOf 5 (some .int) ∈ ALL := all_in 628 (by decide +kernel) (by decide +kernel)
theorem wi_X9_movedOf : Cond.instanceMethod yX9_movedOf ∈ ALL := all_in 627 (by decide +kernel) (by decide +kernel)
theorem wse_X9_movedOf : Cond.selects yX9_movedOf.cls yX9_movedOf yX9_movedOf ∈ ALL := all_in 4 (by decide +kernel) (by decide +kernel)
abbrev mX9_worthAt : MD := (yX9_worthAt, cX9_worthAt, 3, (some .int))
theorem wc_X9_worthAt : Cond.code yX9_worthAt cX9_worthAt 3 (some .int) ∈ ALL := all_in 501 (by decide +kernel) (by decide +kernel)
theorem wi_X9_worthAt : Cond.instanceMethod yX9_worthAt ∈ ALL := all_in 499 (by decide +kernel) (by decide +kernel)
theorem wse_X9_worthAt : Cond.selects yX9_worthAt.cls yX9_worthAt yX9_worthAt ∈ ALL := all_in 500 (by decide +kernel) (by decide +kernel)
abbrev mX9_worthOf : MD := (yX9_worthOf, cX9_worthOf, 4, (some .int))
theorem wc_X9_worthOf : Cond.code yX9_worthOf cX9_worthOf 4 (some .int) ∈ ALL := all_in 600 (by decide +kernel) (by decide +kernel)
theorem wi_X9_worthOf : Cond.instanceMethod yX9_worthOf ∈ ALL := all_in 598 (by decide +kernel) (by decide +kernel)
theorem wse_X9_worthOf : Cond.selects yX9_worthOf.cls yX9_worthOf yX9_worthOf ∈ ALL := all_in 599 (by decide +kernel) (by decide +kernel)
theorem wn_X0 : Cond.initialized RX0 ∈ ALL := all_in 39 (by decide +kernel) (by decide +kernel)
theorem wn_X1 : Cond.initialized RX1 ∈ ALL := all_in 41 (by decide +kernel) (by decide +kernel)
theorem wn_X2 : Cond.initialized RX2 ∈ ALL := all_in 40 (by decide +kernel) (by decide +kernel)
theorem wn_X3 : Cond.initialized RX3 ∈ ALL := all_in 32 (by decide +kernel) (by decide +kernel)
theorem wn_X4 : Cond.initialized RX4 ∈ ALL := all_in 38 (by decide +kernel) (by decide +kernel)
theorem wn_X5 : Cond.initialized RX5 ∈ ALL := all_in 34 (by decide +kernel) (by decide +kernel)
theorem wn_X6 : Cond.initialized RX6 ∈ ALL := all_in 35 (by decide +kernel) (by decide +kernel)
theorem wn_X7 : Cond.initialized RX7 ∈ ALL := all_in 42 (by decide +kernel) (by decide +kernel)
theorem wn_X8 : Cond.initialized RX8 ∈ ALL := all_in 33 (by decide +kernel) (by decide +kernel)
theorem wn_X9 : Cond.initialized RX9 ∈ ALL := all_in 36 (by decide +kernel) (by decide +kernel)
theorem wn_X10 : Cond.initialized RX10 ∈ ALL := all_in 37 (by decide +kernel) (by decide +kernel)
theorem wn_X11 : Cond.initialized RX11 ∈ ALL := all_in 31 (by decide +kernel) (by decide +kernel)
theorem wn_X12 : Cond.initialized RX12 ∈ ALL := all_in 43 (by decide +kernel) (by decide +kernel)
theorem wn_J6 : Cond.initialized RJ6 ∈ ALL := all_in 46 (by decide +kernel) (by decide +kernel)
theorem inlX0 : ∀ w ∈ wsX00, w ∈ ALL := by decide +kernel
theorem inlX1 : ∀ w ∈ wsX10, w ∈ ALL := by decide +kernel
theorem inlX2 : ∀ w ∈ wsX20, w ∈ ALL := by decide +kernel
theorem inlX3 : ∀ w ∈ wsX30, w ∈ ALL := by decide +kernel
theorem inlX5 : ∀ w ∈ wsX50, w ∈ ALL := by decide +kernel
theorem inlX6 : ∀ w ∈ wsX60, w ∈ ALL := by decide +kernel
theorem inlX7 : ∀ w ∈ wsX70, w ∈ ALL := by decide +kernel
theorem inlX8 : ∀ w ∈ wsX80, w ∈ ALL := by decide +kernel
theorem inlX9 : ∀ w ∈ wsX90, w ∈ ALL := by decide +kernel
theorem inlX10 : ∀ w ∈ wsX100, w ∈ ALL := by decide +kernel
theorem inlX11 : ∀ w ∈ wsX110, w ∈ ALL := by decide +kernel
theorem inlX12 : ∀ w ∈ wsX120, w ∈ ALL := by decide +kernel
theorem fX0_9 : FL RX0 9 0 0 := ⟨RX0, TX0, 5, rfl, by decide, inlX0, all_in 252 (by decide +kernel) (by decide +kernel)⟩
theorem fX0_15 : FL RX0 15 0 1 := ⟨RX0, TX0, 5, rfl, by decide, inlX0, all_in 254 (by decide +kernel) (by decide +kernel)⟩
theorem fX0_19 : FL RX0 19 0 2 := ⟨RX0, TX0, 5, rfl, by decide, inlX0, all_in 256 (by decide +kernel) (by decide +kernel)⟩
theorem fX0_22 : FL RX0 22 0 3 := ⟨RX0, TX0, 5, rfl, by decide, inlX0, all_in 257 (by decide +kernel) (by decide +kernel)⟩
theorem fX0_25 : FL RX0 25 0 4 := ⟨RX0, TX0, 5, rfl, by decide, inlX0, all_in 258 (by decide +kernel) (by decide +kernel)⟩
theorem fX1_9 : FL RX1 9 1 0 := ⟨RX1, TX1, 2, rfl, by decide, inlX1, all_in 291 (by decide +kernel) (by decide +kernel)⟩
theorem fX1_15 : FL RX1 15 1 1 := ⟨RX1, TX1, 2, rfl, by decide, inlX1, all_in 292 (by decide +kernel) (by decide +kernel)⟩
theorem fX10_9 : FL RX10 9 9 4 := ⟨RX10, TX10, 10, rfl, by decide, inlX10, all_in 216 (by decide +kernel) (by decide +kernel)⟩
theorem fX10_15 : FL RX10 15 9 5 := ⟨RX10, TX10, 10, rfl, by decide, inlX10, all_in 217 (by decide +kernel) (by decide +kernel)⟩
theorem fX10_18 : FL RX10 18 9 6 := ⟨RX10, TX10, 10, rfl, by decide, inlX10, all_in 218 (by decide +kernel) (by decide +kernel)⟩
theorem fX10_22 : FL RX10 22 9 7 := ⟨RX10, TX10, 10, rfl, by decide, inlX10, all_in 219 (by decide +kernel) (by decide +kernel)⟩
theorem fX10_25 : FL RX10 25 9 8 := ⟨RX10, TX10, 10, rfl, by decide, inlX10, all_in 220 (by decide +kernel) (by decide +kernel)⟩
theorem fX10_28 : FL RX10 28 9 9 := ⟨RX10, TX10, 10, rfl, by decide, inlX10, all_in 221 (by decide +kernel) (by decide +kernel)⟩
theorem fX10_31 : FL RX10 31 9 0 := ⟨RX10, TX10, 10, rfl, by decide, inlX10, all_in 212 (by decide +kernel) (by decide +kernel)⟩
theorem fX10_35 : FL RX10 35 9 1 := ⟨RX10, TX10, 10, rfl, by decide, inlX10, all_in 213 (by decide +kernel) (by decide +kernel)⟩
theorem fX10_39 : FL RX10 39 9 2 := ⟨RX10, TX10, 10, rfl, by decide, inlX10, all_in 214 (by decide +kernel) (by decide +kernel)⟩
theorem fX10_43 : FL RX10 43 9 3 := ⟨RX10, TX10, 10, rfl, by decide, inlX10, all_in 215 (by decide +kernel) (by decide +kernel)⟩
theorem fX10_47 : FL RX10 47 7 1 := ⟨RX8, TX8, 9, rfl, by decide, inlX8, all_in 121 (by decide +kernel) (by decide +kernel)⟩
theorem fX10_56 : FL RX10 56 3 8 := ⟨RX3, TX3, 9, rfl, by decide, inlX3, all_in 89 (by decide +kernel) (by decide +kernel)⟩
theorem fX10_59 : FL RX10 59 7 2 := ⟨RX8, TX8, 9, rfl, by decide, inlX8, all_in 125 (by decide +kernel) (by decide +kernel)⟩
theorem fX10_68 : FL RX10 68 3 0 := ⟨RX3, TX3, 9, rfl, by decide, inlX3, all_in 67 (by decide +kernel) (by decide +kernel)⟩
theorem fX10_92 : FL RX10 92 3 3 := ⟨RX3, TX3, 9, rfl, by decide, inlX3, all_in 75 (by decide +kernel) (by decide +kernel)⟩
theorem fX10_95 : FL RX10 95 3 1 := ⟨RX3, TX3, 9, rfl, by decide, inlX3, all_in 70 (by decide +kernel) (by decide +kernel)⟩
theorem fX10_98 : FL RX10 98 3 2 := ⟨RX3, TX3, 9, rfl, by decide, inlX3, all_in 73 (by decide +kernel) (by decide +kernel)⟩
theorem fX11_12 : FL RX11 12 10 0 := ⟨RX11, TX11, 12, rfl, by decide, inlX11, all_in 339 (by decide +kernel) (by decide +kernel)⟩
theorem fX11_19 : FL RX11 19 10 1 := ⟨RX11, TX11, 12, rfl, by decide, inlX11, all_in 340 (by decide +kernel) (by decide +kernel)⟩
theorem fX11_26 : FL RX11 26 10 2 := ⟨RX11, TX11, 12, rfl, by decide, inlX11, all_in 341 (by decide +kernel) (by decide +kernel)⟩
theorem fX11_33 : FL RX11 33 10 3 := ⟨RX11, TX11, 12, rfl, by decide, inlX11, all_in 342 (by decide +kernel) (by decide +kernel)⟩
theorem fX11_42 : FL RX11 42 10 4 := ⟨RX11, TX11, 12, rfl, by decide, inlX11, all_in 343 (by decide +kernel) (by decide +kernel)⟩
theorem fX11_51 : FL RX11 51 10 5 := ⟨RX11, TX11, 12, rfl, by decide, inlX11, all_in 344 (by decide +kernel) (by decide +kernel)⟩
theorem fX11_58 : FL RX11 58 10 6 := ⟨RX11, TX11, 12, rfl, by decide, inlX11, all_in 345 (by decide +kernel) (by decide +kernel)⟩
theorem fX11_65 : FL RX11 65 10 7 := ⟨RX11, TX11, 12, rfl, by decide, inlX11, all_in 346 (by decide +kernel) (by decide +kernel)⟩
theorem fX11_72 : FL RX11 72 10 8 := ⟨RX11, TX11, 12, rfl, by decide, inlX11, all_in 347 (by decide +kernel) (by decide +kernel)⟩
theorem fX11_81 : FL RX11 81 10 9 := ⟨RX11, TX11, 12, rfl, by decide, inlX11, all_in 348 (by decide +kernel) (by decide +kernel)⟩
theorem fX11_85 : FL RX11 85 10 10 := ⟨RX11, TX11, 12, rfl, by decide, inlX11, all_in 349 (by decide +kernel) (by decide +kernel)⟩
theorem fX11_89 : FL RX11 89 10 11 := ⟨RX11, TX11, 12, rfl, by decide, inlX11, all_in 350 (by decide +kernel) (by decide +kernel)⟩
theorem fX11_97 : FL RX11 97 4 0 := ⟨RX5, TX5, 4, rfl, by decide, inlX5, all_in 160 (by decide +kernel) (by decide +kernel)⟩
theorem fX11_101 : FL RX11 101 3 0 := ⟨RX3, TX3, 9, rfl, by decide, inlX3, all_in 64 (by decide +kernel) (by decide +kernel)⟩
theorem fX11_110 : FL RX11 110 3 4 := ⟨RX3, TX3, 9, rfl, by decide, inlX3, all_in 79 (by decide +kernel) (by decide +kernel)⟩
theorem fX11_113 : FL RX11 113 3 5 := ⟨RX3, TX3, 9, rfl, by decide, inlX3, all_in 82 (by decide +kernel) (by decide +kernel)⟩
theorem fX11_116 : FL RX11 116 3 7 := ⟨RX3, TX3, 9, rfl, by decide, inlX3, all_in 87 (by decide +kernel) (by decide +kernel)⟩
theorem fX11_124 : FL RX11 124 3 6 := ⟨RX3, TX3, 9, rfl, by decide, inlX3, all_in 84 (by decide +kernel) (by decide +kernel)⟩
theorem fX11_127 : FL RX11 127 3 8 := ⟨RX3, TX3, 9, rfl, by decide, inlX3, all_in 90 (by decide +kernel) (by decide +kernel)⟩
theorem fX11_130 : FL RX11 130 7 0 := ⟨RX8, TX8, 9, rfl, by decide, inlX8, all_in 119 (by decide +kernel) (by decide +kernel)⟩
theorem fX11_140 : FL RX11 140 7 1 := ⟨RX8, TX8, 9, rfl, by decide, inlX8, all_in 123 (by decide +kernel) (by decide +kernel)⟩
theorem fX11_143 : FL RX11 143 7 2 := ⟨RX8, TX8, 9, rfl, by decide, inlX8, all_in 126 (by decide +kernel) (by decide +kernel)⟩
theorem fX11_151 : FL RX11 151 4 1 := ⟨RX5, TX5, 4, rfl, by decide, inlX5, all_in 162 (by decide +kernel) (by decide +kernel)⟩
theorem fX11_154 : FL RX11 154 4 2 := ⟨RX5, TX5, 4, rfl, by decide, inlX5, all_in 164 (by decide +kernel) (by decide +kernel)⟩
theorem fX11_168 : FL RX11 168 0 0 := ⟨RX0, TX0, 5, rfl, by decide, inlX0, all_in 253 (by decide +kernel) (by decide +kernel)⟩
theorem fX11_175 : FL RX11 175 0 4 := ⟨RX0, TX0, 5, rfl, by decide, inlX0, all_in 259 (by decide +kernel) (by decide +kernel)⟩
theorem fX11_184 : FL RX11 184 0 1 := ⟨RX0, TX0, 5, rfl, by decide, inlX0, all_in 255 (by decide +kernel) (by decide +kernel)⟩
theorem fX11_187 : FL RX11 187 5 0 := ⟨RX6, TX6, 3, rfl, by decide, inlX6, all_in 183 (by decide +kernel) (by decide +kernel)⟩
theorem fX11_218 : FL RX11 218 2 0 := ⟨RX2, TX2, 2, rfl, by decide, inlX2, all_in 278 (by decide +kernel) (by decide +kernel)⟩
theorem fX11_245 : FL RX11 245 6 0 := ⟨RX7, TX7, 10, rfl, by decide, inlX7, all_in 306 (by decide +kernel) (by decide +kernel)⟩
theorem fX11_248 : FL RX11 248 6 1 := ⟨RX7, TX7, 10, rfl, by decide, inlX7, all_in 308 (by decide +kernel) (by decide +kernel)⟩
theorem fX11_251 : FL RX11 251 6 2 := ⟨RX7, TX7, 10, rfl, by decide, inlX7, all_in 310 (by decide +kernel) (by decide +kernel)⟩
theorem fX12_7 : FL RX12 7 11 1 := ⟨RX12, TX12, 35, rfl, by decide, inlX12, all_in 756 (by decide +kernel) (by decide +kernel)⟩
theorem fX12_13 : FL RX12 13 11 2 := ⟨RX12, TX12, 35, rfl, by decide, inlX12, all_in 757 (by decide +kernel) (by decide +kernel)⟩
theorem fX12_16 : FL RX12 16 11 3 := ⟨RX12, TX12, 35, rfl, by decide, inlX12, all_in 758 (by decide +kernel) (by decide +kernel)⟩
theorem fX12_19 : FL RX12 19 11 4 := ⟨RX12, TX12, 35, rfl, by decide, inlX12, all_in 759 (by decide +kernel) (by decide +kernel)⟩
theorem fX12_22 : FL RX12 22 11 5 := ⟨RX12, TX12, 35, rfl, by decide, inlX12, all_in 760 (by decide +kernel) (by decide +kernel)⟩
theorem fX12_25 : FL RX12 25 11 6 := ⟨RX12, TX12, 35, rfl, by decide, inlX12, all_in 761 (by decide +kernel) (by decide +kernel)⟩
theorem fX12_28 : FL RX12 28 11 7 := ⟨RX12, TX12, 35, rfl, by decide, inlX12, all_in 762 (by decide +kernel) (by decide +kernel)⟩
theorem fX12_31 : FL RX12 31 11 8 := ⟨RX12, TX12, 35, rfl, by decide, inlX12, all_in 763 (by decide +kernel) (by decide +kernel)⟩
theorem fX12_34 : FL RX12 34 11 9 := ⟨RX12, TX12, 35, rfl, by decide, inlX12, all_in 764 (by decide +kernel) (by decide +kernel)⟩
theorem fX12_37 : FL RX12 37 11 11 := ⟨RX12, TX12, 35, rfl, by decide, inlX12, all_in 766 (by decide +kernel) (by decide +kernel)⟩
theorem fX12_40 : FL RX12 40 11 13 := ⟨RX12, TX12, 35, rfl, by decide, inlX12, all_in 768 (by decide +kernel) (by decide +kernel)⟩
theorem fX12_43 : FL RX12 43 11 14 := ⟨RX12, TX12, 35, rfl, by decide, inlX12, all_in 769 (by decide +kernel) (by decide +kernel)⟩
theorem fX12_46 : FL RX12 46 11 15 := ⟨RX12, TX12, 35, rfl, by decide, inlX12, all_in 770 (by decide +kernel) (by decide +kernel)⟩
theorem fX12_49 : FL RX12 49 11 16 := ⟨RX12, TX12, 35, rfl, by decide, inlX12, all_in 771 (by decide +kernel) (by decide +kernel)⟩
theorem fX12_52 : FL RX12 52 11 19 := ⟨RX12, TX12, 35, rfl, by decide, inlX12, all_in 774 (by decide +kernel) (by decide +kernel)⟩
theorem fX12_55 : FL RX12 55 11 20 := ⟨RX12, TX12, 35, rfl, by decide, inlX12, all_in 775 (by decide +kernel) (by decide +kernel)⟩
theorem fX12_58 : FL RX12 58 11 21 := ⟨RX12, TX12, 35, rfl, by decide, inlX12, all_in 776 (by decide +kernel) (by decide +kernel)⟩
theorem fX12_62 : FL RX12 62 11 23 := ⟨RX12, TX12, 35, rfl, by decide, inlX12, all_in 778 (by decide +kernel) (by decide +kernel)⟩
theorem fX12_65 : FL RX12 65 11 24 := ⟨RX12, TX12, 35, rfl, by decide, inlX12, all_in 779 (by decide +kernel) (by decide +kernel)⟩
theorem fX12_68 : FL RX12 68 11 25 := ⟨RX12, TX12, 35, rfl, by decide, inlX12, all_in 780 (by decide +kernel) (by decide +kernel)⟩
theorem fX12_71 : FL RX12 71 11 26 := ⟨RX12, TX12, 35, rfl, by decide, inlX12, all_in 781 (by decide +kernel) (by decide +kernel)⟩
theorem fX12_74 : FL RX12 74 11 27 := ⟨RX12, TX12, 35, rfl, by decide, inlX12, all_in 782 (by decide +kernel) (by decide +kernel)⟩
theorem fX12_77 : FL RX12 77 11 28 := ⟨RX12, TX12, 35, rfl, by decide, inlX12, all_in 783 (by decide +kernel) (by decide +kernel)⟩
theorem fX12_80 : FL RX12 80 11 29 := ⟨RX12, TX12, 35, rfl, by decide, inlX12, all_in 784 (by decide +kernel) (by decide +kernel)⟩
theorem fX12_83 : FL RX12 83 11 30 := ⟨RX12, TX12, 35, rfl, by decide, inlX12, all_in 785 (by decide +kernel) (by decide +kernel)⟩
theorem fX12_86 : FL RX12 86 11 31 := ⟨RX12, TX12, 35, rfl, by decide, inlX12, all_in 786 (by decide +kernel) (by decide +kernel)⟩
theorem fX12_89 : FL RX12 89 11 34 := ⟨RX12, TX12, 35, rfl, by decide, inlX12, all_in 789 (by decide +kernel) (by decide +kernel)⟩
theorem fX12_93 : FL RX12 93 11 0 := ⟨RX12, TX12, 35, rfl, by decide, inlX12, all_in 755 (by decide +kernel) (by decide +kernel)⟩
theorem fX12_100 : FL RX12 100 11 18 := ⟨RX12, TX12, 35, rfl, by decide, inlX12, all_in 773 (by decide +kernel) (by decide +kernel)⟩
theorem fX12_111 : FL RX12 111 11 10 := ⟨RX12, TX12, 35, rfl, by decide, inlX12, all_in 765 (by decide +kernel) (by decide +kernel)⟩
theorem fX12_114 : FL RX12 114 11 12 := ⟨RX12, TX12, 35, rfl, by decide, inlX12, all_in 767 (by decide +kernel) (by decide +kernel)⟩
theorem fX12_117 : FL RX12 117 11 17 := ⟨RX12, TX12, 35, rfl, by decide, inlX12, all_in 772 (by decide +kernel) (by decide +kernel)⟩
theorem fX12_151 : FL RX12 151 11 22 := ⟨RX12, TX12, 35, rfl, by decide, inlX12, all_in 777 (by decide +kernel) (by decide +kernel)⟩
theorem fX12_165 : FL RX12 165 11 32 := ⟨RX12, TX12, 35, rfl, by decide, inlX12, all_in 787 (by decide +kernel) (by decide +kernel)⟩
theorem fX12_168 : FL RX12 168 11 33 := ⟨RX12, TX12, 35, rfl, by decide, inlX12, all_in 788 (by decide +kernel) (by decide +kernel)⟩
theorem fX2_7 : FL RX2 7 2 0 := ⟨RX2, TX2, 2, rfl, by decide, inlX2, all_in 277 (by decide +kernel) (by decide +kernel)⟩
theorem fX2_13 : FL RX2 13 2 1 := ⟨RX2, TX2, 2, rfl, by decide, inlX2, all_in 279 (by decide +kernel) (by decide +kernel)⟩
theorem fX3_9 : FL RX3 9 3 0 := ⟨RX3, TX3, 9, rfl, by decide, inlX3, all_in 63 (by decide +kernel) (by decide +kernel)⟩
theorem fX3_15 : FL RX3 15 3 1 := ⟨RX3, TX3, 9, rfl, by decide, inlX3, all_in 68 (by decide +kernel) (by decide +kernel)⟩
theorem fX3_19 : FL RX3 19 3 2 := ⟨RX3, TX3, 9, rfl, by decide, inlX3, all_in 71 (by decide +kernel) (by decide +kernel)⟩
theorem fX3_22 : FL RX3 22 3 3 := ⟨RX3, TX3, 9, rfl, by decide, inlX3, all_in 74 (by decide +kernel) (by decide +kernel)⟩
theorem fX3_25 : FL RX3 25 3 4 := ⟨RX3, TX3, 9, rfl, by decide, inlX3, all_in 77 (by decide +kernel) (by decide +kernel)⟩
theorem fX3_31 : FL RX3 31 3 6 := ⟨RX3, TX3, 9, rfl, by decide, inlX3, all_in 83 (by decide +kernel) (by decide +kernel)⟩
theorem fX5_9 : FL RX5 9 4 0 := ⟨RX5, TX5, 4, rfl, by decide, inlX5, all_in 159 (by decide +kernel) (by decide +kernel)⟩
theorem fX5_15 : FL RX5 15 4 1 := ⟨RX5, TX5, 4, rfl, by decide, inlX5, all_in 161 (by decide +kernel) (by decide +kernel)⟩
theorem fX5_20 : FL RX5 20 4 2 := ⟨RX5, TX5, 4, rfl, by decide, inlX5, all_in 163 (by decide +kernel) (by decide +kernel)⟩
theorem fX5_23 : FL RX5 23 4 3 := ⟨RX5, TX5, 4, rfl, by decide, inlX5, all_in 165 (by decide +kernel) (by decide +kernel)⟩
theorem fX6_9 : FL RX6 9 5 0 := ⟨RX6, TX6, 3, rfl, by decide, inlX6, all_in 182 (by decide +kernel) (by decide +kernel)⟩
theorem fX6_17 : FL RX6 17 5 1 := ⟨RX6, TX6, 3, rfl, by decide, inlX6, all_in 184 (by decide +kernel) (by decide +kernel)⟩
theorem fX6_20 : FL RX6 20 5 2 := ⟨RX6, TX6, 3, rfl, by decide, inlX6, all_in 185 (by decide +kernel) (by decide +kernel)⟩
theorem fX7_9 : FL RX7 9 6 0 := ⟨RX7, TX7, 10, rfl, by decide, inlX7, all_in 305 (by decide +kernel) (by decide +kernel)⟩
theorem fX7_15 : FL RX7 15 6 1 := ⟨RX7, TX7, 10, rfl, by decide, inlX7, all_in 307 (by decide +kernel) (by decide +kernel)⟩
theorem fX7_19 : FL RX7 19 6 2 := ⟨RX7, TX7, 10, rfl, by decide, inlX7, all_in 309 (by decide +kernel) (by decide +kernel)⟩
theorem fX7_22 : FL RX7 22 6 6 := ⟨RX7, TX7, 10, rfl, by decide, inlX7, all_in 314 (by decide +kernel) (by decide +kernel)⟩
theorem fX7_25 : FL RX7 25 6 7 := ⟨RX7, TX7, 10, rfl, by decide, inlX7, all_in 315 (by decide +kernel) (by decide +kernel)⟩
theorem fX7_28 : FL RX7 28 6 8 := ⟨RX7, TX7, 10, rfl, by decide, inlX7, all_in 316 (by decide +kernel) (by decide +kernel)⟩
theorem fX7_31 : FL RX7 31 6 9 := ⟨RX7, TX7, 10, rfl, by decide, inlX7, all_in 317 (by decide +kernel) (by decide +kernel)⟩
theorem fX7_34 : FL RX7 34 6 3 := ⟨RX7, TX7, 10, rfl, by decide, inlX7, all_in 311 (by decide +kernel) (by decide +kernel)⟩
theorem fX7_38 : FL RX7 38 6 4 := ⟨RX7, TX7, 10, rfl, by decide, inlX7, all_in 312 (by decide +kernel) (by decide +kernel)⟩
theorem fX7_42 : FL RX7 42 6 5 := ⟨RX7, TX7, 10, rfl, by decide, inlX7, all_in 313 (by decide +kernel) (by decide +kernel)⟩
theorem fX7_60 : FL RX7 60 3 0 := ⟨RX3, TX3, 9, rfl, by decide, inlX3, all_in 65 (by decide +kernel) (by decide +kernel)⟩
theorem fX7_71 : FL RX7 71 7 1 := ⟨RX8, TX8, 9, rfl, by decide, inlX8, all_in 122 (by decide +kernel) (by decide +kernel)⟩
theorem fX8_9 : FL RX8 9 7 0 := ⟨RX8, TX8, 9, rfl, by decide, inlX8, all_in 118 (by decide +kernel) (by decide +kernel)⟩
theorem fX8_15 : FL RX8 15 7 1 := ⟨RX8, TX8, 9, rfl, by decide, inlX8, all_in 120 (by decide +kernel) (by decide +kernel)⟩
theorem fX8_19 : FL RX8 19 7 2 := ⟨RX8, TX8, 9, rfl, by decide, inlX8, all_in 124 (by decide +kernel) (by decide +kernel)⟩
theorem fX8_22 : FL RX8 22 7 3 := ⟨RX8, TX8, 9, rfl, by decide, inlX8, all_in 127 (by decide +kernel) (by decide +kernel)⟩
theorem fX8_25 : FL RX8 25 7 4 := ⟨RX8, TX8, 9, rfl, by decide, inlX8, all_in 128 (by decide +kernel) (by decide +kernel)⟩
theorem fX8_28 : FL RX8 28 7 5 := ⟨RX8, TX8, 9, rfl, by decide, inlX8, all_in 129 (by decide +kernel) (by decide +kernel)⟩
theorem fX8_31 : FL RX8 31 7 6 := ⟨RX8, TX8, 9, rfl, by decide, inlX8, all_in 130 (by decide +kernel) (by decide +kernel)⟩
theorem fX8_34 : FL RX8 34 7 7 := ⟨RX8, TX8, 9, rfl, by decide, inlX8, all_in 131 (by decide +kernel) (by decide +kernel)⟩
theorem fX8_37 : FL RX8 37 7 8 := ⟨RX8, TX8, 9, rfl, by decide, inlX8, all_in 132 (by decide +kernel) (by decide +kernel)⟩
theorem fX9_9 : FL RX9 9 8 0 := ⟨RX9, TX9, 2, rfl, by decide, inlX9, all_in 199 (by decide +kernel) (by decide +kernel)⟩
theorem fX9_15 : FL RX9 15 8 1 := ⟨RX9, TX9, 2, rfl, by decide, inlX9, all_in 200 (by decide +kernel) (by decide +kernel)⟩
theorem fX9_34 : FL RX9 34 3 4 := ⟨RX3, TX3, 9, rfl, by decide, inlX3, all_in 78 (by decide +kernel) (by decide +kernel)⟩
theorem fX9_40 : FL RX9 40 3 5 := ⟨RX3, TX3, 9, rfl, by decide, inlX3, all_in 81 (by decide +kernel) (by decide +kernel)⟩
theorem fX9_43 : FL RX9 43 3 0 := ⟨RX3, TX3, 9, rfl, by decide, inlX3, all_in 66 (by decide +kernel) (by decide +kernel)⟩
theorem fX9_51 : FL RX9 51 3 7 := ⟨RX3, TX3, 9, rfl, by decide, inlX3, all_in 86 (by decide +kernel) (by decide +kernel)⟩
theorem fX9_58 : FL RX9 58 3 1 := ⟨RX3, TX3, 9, rfl, by decide, inlX3, all_in 69 (by decide +kernel) (by decide +kernel)⟩
theorem fX9_61 : FL RX9 61 3 2 := ⟨RX3, TX3, 9, rfl, by decide, inlX3, all_in 72 (by decide +kernel) (by decide +kernel)⟩
theorem fX9_74 : FL RX9 74 3 8 := ⟨RX3, TX3, 9, rfl, by decide, inlX3, all_in 91 (by decide +kernel) (by decide +kernel)⟩
theorem fX9_77 : FL RX9 77 3 3 := ⟨RX3, TX3, 9, rfl, by decide, inlX3, all_in 76 (by decide +kernel) (by decide +kernel)⟩
theorem pX0_9 : FP RX0 9 0 0 .boolean := ⟨RX0, TX0, 5, tyX0, rfl, by decide, inlX0, all_in 252 (by decide +kernel) (by decide +kernel), tyX0_ok, nmX0, by decide +kernel, by decide +kernel⟩
theorem pX0_15 : FP RX0 15 0 1 .int := ⟨RX0, TX0, 5, tyX0, rfl, by decide, inlX0, all_in 254 (by decide +kernel) (by decide +kernel), tyX0_ok, nmX0, by decide +kernel, by decide +kernel⟩
theorem pX0_19 : FP RX0 19 0 2 .int := ⟨RX0, TX0, 5, tyX0, rfl, by decide, inlX0, all_in 256 (by decide +kernel) (by decide +kernel), tyX0_ok, nmX0, by decide +kernel, by decide +kernel⟩
theorem pX0_22 : FP RX0 22 0 3 .boolean := ⟨RX0, TX0, 5, tyX0, rfl, by decide, inlX0, all_in 257 (by decide +kernel) (by decide +kernel), tyX0_ok, nmX0, by decide +kernel, by decide +kernel⟩
theorem pX1_9 : FP RX1 9 1 0 .int := ⟨RX1, TX1, 2, tyX1, rfl, by decide, inlX1, all_in 291 (by decide +kernel) (by decide +kernel), tyX1_ok, nmX1, by decide +kernel, by decide +kernel⟩
theorem pX10_18 : FP RX10 18 9 6 .int := ⟨RX10, TX10, 10, tyX10, rfl, by decide, inlX10, all_in 218 (by decide +kernel) (by decide +kernel), tyX10_ok, nmX10, by decide +kernel, by decide +kernel⟩
theorem pX11_89 : FP RX11 89 10 11 .boolean := ⟨RX11, TX11, 12, tyX11, rfl, by decide, inlX11, all_in 350 (by decide +kernel) (by decide +kernel), tyX11_ok, nmX11, by decide +kernel, by decide +kernel⟩
theorem pX11_151 : FP RX11 151 4 1 .int := ⟨RX5, TX5, 4, tyX5, rfl, by decide, inlX5, all_in 162 (by decide +kernel) (by decide +kernel), tyX5_ok, nmX5, by decide +kernel, by decide +kernel⟩
theorem pX12_58 : FP RX12 58 11 21 .int := ⟨RX12, TX12, 35, tyX12, rfl, by decide, inlX12, all_in 776 (by decide +kernel) (by decide +kernel), tyX12_ok, nmX12, by decide +kernel, by decide +kernel⟩
theorem pX12_93 : FP RX12 93 11 0 .int := ⟨RX12, TX12, 35, tyX12, rfl, by decide, inlX12, all_in 755 (by decide +kernel) (by decide +kernel), tyX12_ok, nmX12, by decide +kernel, by decide +kernel⟩
theorem pX12_100 : FP RX12 100 11 18 .int := ⟨RX12, TX12, 35, tyX12, rfl, by decide, inlX12, all_in 773 (by decide +kernel) (by decide +kernel), tyX12_ok, nmX12, by decide +kernel, by decide +kernel⟩
theorem pX12_111 : FP RX12 111 11 10 .int := ⟨RX12, TX12, 35, tyX12, rfl, by decide, inlX12, all_in 765 (by decide +kernel) (by decide +kernel), tyX12_ok, nmX12, by decide +kernel, by decide +kernel⟩
theorem pX12_114 : FP RX12 114 11 12 .int := ⟨RX12, TX12, 35, tyX12, rfl, by decide, inlX12, all_in 767 (by decide +kernel) (by decide +kernel), tyX12_ok, nmX12, by decide +kernel, by decide +kernel⟩
theorem pX12_117 : FP RX12 117 11 17 .int := ⟨RX12, TX12, 35, tyX12, rfl, by decide, inlX12, all_in 772 (by decide +kernel) (by decide +kernel), tyX12_ok, nmX12, by decide +kernel, by decide +kernel⟩
theorem pX12_151 : FP RX12 151 11 22 .int := ⟨RX12, TX12, 35, tyX12, rfl, by decide, inlX12, all_in 777 (by decide +kernel) (by decide +kernel), tyX12_ok, nmX12, by decide +kernel, by decide +kernel⟩
theorem pX12_165 : FP RX12 165 11 32 .int := ⟨RX12, TX12, 35, tyX12, rfl, by decide, inlX12, all_in 787 (by decide +kernel) (by decide +kernel), tyX12_ok, nmX12, by decide +kernel, by decide +kernel⟩
theorem pX12_168 : FP RX12 168 11 33 .int := ⟨RX12, TX12, 35, tyX12, rfl, by decide, inlX12, all_in 788 (by decide +kernel) (by decide +kernel), tyX12_ok, nmX12, by decide +kernel, by decide +kernel⟩
theorem pX2_7 : FP RX2 7 2 0 .int := ⟨RX2, TX2, 2, tyX2, rfl, by decide, inlX2, all_in 277 (by decide +kernel) (by decide +kernel), tyX2_ok, nmX2, by decide +kernel, by decide +kernel⟩
theorem pX2_13 : FP RX2 13 2 1 .int := ⟨RX2, TX2, 2, tyX2, rfl, by decide, inlX2, all_in 279 (by decide +kernel) (by decide +kernel), tyX2_ok, nmX2, by decide +kernel, by decide +kernel⟩
theorem pX3_9 : FP RX3 9 3 0 .int := ⟨RX3, TX3, 9, tyX3, rfl, by decide, inlX3, all_in 63 (by decide +kernel) (by decide +kernel), tyX3_ok, nmX3, by decide +kernel, by decide +kernel⟩
theorem pX5_9 : FP RX5 9 4 0 .int := ⟨RX5, TX5, 4, tyX5, rfl, by decide, inlX5, all_in 159 (by decide +kernel) (by decide +kernel), tyX5_ok, nmX5, by decide +kernel, by decide +kernel⟩
theorem pX5_15 : FP RX5 15 4 1 .int := ⟨RX5, TX5, 4, tyX5, rfl, by decide, inlX5, all_in 161 (by decide +kernel) (by decide +kernel), tyX5_ok, nmX5, by decide +kernel, by decide +kernel⟩
theorem pX6_9 : FP RX6 9 5 0 .int := ⟨RX6, TX6, 3, tyX6, rfl, by decide, inlX6, all_in 182 (by decide +kernel) (by decide +kernel), tyX6_ok, nmX6, by decide +kernel, by decide +kernel⟩
theorem pX7_9 : FP RX7 9 6 0 .int := ⟨RX7, TX7, 10, tyX7, rfl, by decide, inlX7, all_in 305 (by decide +kernel) (by decide +kernel), tyX7_ok, nmX7, by decide +kernel, by decide +kernel⟩
theorem pX8_9 : FP RX8 9 7 0 .int := ⟨RX8, TX8, 9, tyX8, rfl, by decide, inlX8, all_in 118 (by decide +kernel) (by decide +kernel), tyX8_ok, nmX8, by decide +kernel, by decide +kernel⟩
theorem pX8_19 : FP RX8 19 7 2 .int := ⟨RX8, TX8, 9, tyX8, rfl, by decide, inlX8, all_in 124 (by decide +kernel) (by decide +kernel), tyX8_ok, nmX8, by decide +kernel, by decide +kernel⟩
theorem kX10_62 : CV RX10 62 mX5_factThen 1 := ⟨⟨all_in 682 (by decide +kernel) (by decide +kernel), wi_X5_factThen, wse_X5_factThen, wn_X5, wc_X5_factThen⟩, by decide +kernel, by decide +kernel⟩
theorem kX10_69 : CV RX10 69 mX9_mostWorthAt 1 := ⟨⟨all_in 490 (by decide +kernel) (by decide +kernel), wi_X9_mostWorthAt, wse_X9_mostWorthAt, wn_X9, wc_X9_mostWorthAt⟩, by decide +kernel, by decide +kernel⟩
theorem kX10_74 : CV RX10 74 mX8_brokenByNone 1 := ⟨⟨all_in 503 (by decide +kernel) (by decide +kernel), wi_X8_brokenByNone, wse_X8_brokenByNone, wn_X8, wc_X8_brokenByNone⟩, by decide +kernel, by decide +kernel⟩
theorem kX10_78 : CV RX10 78 mX10_choose 5 := ⟨⟨all_in 507 (by decide +kernel) (by decide +kernel), wi_X10_choose, wse_X10_choose, wn_X10, wc_X10_choose⟩, by decide +kernel, by decide +kernel⟩
theorem kX10_101 : CV RX10 101 mX5_moves 2 := ⟨⟨all_in 536 (by decide +kernel) (by decide +kernel), wi_X5_moves, wse_X5_moves, wn_X5, wc_X5_moves⟩, by decide +kernel, by decide +kernel⟩
theorem kX10_105 : CV RX10 105 mX3_pinLets 2 := ⟨⟨all_in 544 (by decide +kernel) (by decide +kernel), wi_X3_pinLets, wse_X3_pinLets, wn_X3, wc_X3_pinLets⟩, by decide +kernel, by decide +kernel⟩
theorem kX10_108 : CV RX10 108 mX8_brokenAt 3 := ⟨⟨all_in 545 (by decide +kernel) (by decide +kernel), wi_X8_brokenAt, wse_X8_brokenAt, wn_X8, wc_X8_brokenAt⟩, by decide +kernel, by decide +kernel⟩
theorem kX10_112 : CV RX10 112 mX9_costAt 2 := ⟨⟨all_in 559 (by decide +kernel) (by decide +kernel), wi_X9_costAt, wse_X9_costAt, wn_X9, wc_X9_costAt⟩, by decide +kernel, by decide +kernel⟩
theorem kX10_116 : CV RX10 116 mX9_worthAt 2 := ⟨⟨all_in 569 (by decide +kernel) (by decide +kernel), wi_X9_worthAt, wse_X9_worthAt, wn_X9, wc_X9_worthAt⟩, by decide +kernel, by decide +kernel⟩
theorem kX11_102 : CV RX11 102 mX3_add 3 := ⟨⟨all_in 383 (by decide +kernel) (by decide +kernel), wi_X3_add, wse_X3_add, wn_X3, wc_X3_add⟩, by decide +kernel, by decide +kernel⟩
theorem kX11_106 : CV RX11 106 mX3_has 1 := ⟨⟨all_in 391 (by decide +kernel) (by decide +kernel), wi_X3_has, wse_X3_has, wn_X3, wc_X3_has⟩, by decide +kernel, by decide +kernel⟩
theorem kX11_120 : CV RX11 120 mX3_mayHave 2 := ⟨⟨all_in 403 (by decide +kernel) (by decide +kernel), wi_X3_mayHave, wse_X3_mayHave, wn_X3, wc_X3_mayHave⟩, by decide +kernel, by decide +kernel⟩
theorem kX11_133 : CV RX11 133 mX8_addFact 1 := ⟨⟨all_in 415 (by decide +kernel) (by decide +kernel), wi_X8_addFact, wse_X8_addFact, wn_X8, wc_X8_addFact⟩, by decide +kernel, by decide +kernel⟩
theorem kX11_137 : CV RX11 137 mX8_hasFact 1 := ⟨⟨all_in 423 (by decide +kernel) (by decide +kernel), wi_X8_hasFact, wse_X8_hasFact, wn_X8, wc_X8_hasFact⟩, by decide +kernel, by decide +kernel⟩
theorem kX11_144 : CV RX11 144 mX8_add 4 := ⟨⟨all_in 431 (by decide +kernel) (by decide +kernel), wi_X8_add, wse_X8_add, wn_X8, wc_X8_add⟩, by decide +kernel, by decide +kernel⟩
theorem kX11_147 : CV RX11 147 mX5_add 2 := ⟨⟨all_in 454 (by decide +kernel) (by decide +kernel), wi_X5_add, wse_X5_add, wn_X5, wc_X5_add⟩, by decide +kernel, by decide +kernel⟩
theorem kX11_150 : CV RX11 150 mX5_has 1 := ⟨⟨all_in 465 (by decide +kernel) (by decide +kernel), wi_X5_has, wse_X5_has, wn_X5, wc_X5_has⟩, by decide +kernel, by decide +kernel⟩
theorem kX11_157 : CV RX11 157 mX10_asNow 0 := ⟨⟨all_in 477 (by decide +kernel) (by decide +kernel), wi_X10_asNow, wse_X10_asNow, wn_X10, wc_X10_asNow⟩, by decide +kernel, by decide +kernel⟩
theorem kX11_160 : CV RX11 160 mX0_begin 1 := ⟨⟨all_in 482 (by decide +kernel) (by decide +kernel), wi_X0_begin, wse_X0_begin, wn_X0, wc_X0_begin⟩, by decide +kernel, by decide +kernel⟩
theorem kX11_164 : CV RX11 164 mX10_seek 1 := ⟨⟨all_in 486 (by decide +kernel) (by decide +kernel), wi_X10_seek, wse_X10_seek, wn_X10, wc_X10_seek⟩, by decide +kernel, by decide +kernel⟩
theorem kX11_171 : CV RX11 171 mX6_push 2 := ⟨⟨all_in 570 (by decide +kernel) (by decide +kernel), wi_X6_push, wse_X6_push, wn_X6, wc_X6_push⟩, by decide +kernel, by decide +kernel⟩
theorem kX11_188 : CV RX11 188 mX6_pop 1 := ⟨⟨all_in 584 (by decide +kernel) (by decide +kernel), wi_X6_pop, wse_X6_pop, wn_X6, wc_X6_pop⟩, by decide +kernel, by decide +kernel⟩
theorem kX11_192 : CV RX11 192 mX9_costOf 1 := ⟨⟨all_in 592 (by decide +kernel) (by decide +kernel), wi_X9_costOf, wse_X9_costOf, wn_X9, wc_X9_costOf⟩, by decide +kernel, by decide +kernel⟩
theorem kX11_196 : CV RX11 196 mX9_worthOf 1 := ⟨⟨all_in 597 (by decide +kernel) (by decide +kernel), wi_X9_worthOf, wse_X9_worthOf, wn_X9, wc_X9_worthOf⟩, by decide +kernel, by decide +kernel⟩
theorem kX11_199 : CV RX11 199 mX9_movedBits 1 := ⟨⟨all_in 601 (by decide +kernel) (by decide +kernel), wi_X9_movedBits, wse_X9_movedBits, wn_X9, wc_X9_movedBits⟩, by decide +kernel, by decide +kernel⟩
theorem kX11_207 : CV RX11 207 mX11_brokenNow 0 := ⟨⟨all_in 611 (by decide +kernel) (by decide +kernel), wi_X11_brokenNow, wse_X11_brokenNow, wn_X11, wc_X11_brokenNow⟩, by decide +kernel, by decide +kernel⟩
theorem kX11_211 : CV RX11 211 mX9_isAllowed 1 := ⟨⟨all_in 621 (by decide +kernel) (by decide +kernel), wi_X9_isAllowed, wse_X9_isAllowed, wn_X9, wc_X9_isAllowed⟩, by decide +kernel, by decide +kernel⟩
theorem kX11_215 : CV RX11 215 mX2_begin 1 := ⟨⟨all_in 633 (by decide +kernel) (by decide +kernel), wi_X2_begin, wse_X2_begin, wn_X2, wc_X2_begin⟩, by decide +kernel, by decide +kernel⟩
theorem kX11_219 : CV RX11 219 mX11_leastCost 0 := ⟨⟨all_in 641 (by decide +kernel) (by decide +kernel), wi_X11_leastCost, wse_X11_leastCost, wn_X11, wc_X11_leastCost⟩, by decide +kernel, by decide +kernel⟩
theorem kX11_222 : CV RX11 222 mX8_has 1 := ⟨⟨all_in 649 (by decide +kernel) (by decide +kernel), wi_X8_has, wse_X8_has, wn_X8, wc_X8_has⟩, by decide +kernel, by decide +kernel⟩
theorem kX11_223 : CV RX11 223 mX10_leaveOut 1 := ⟨⟨all_in 653 (by decide +kernel) (by decide +kernel), wi_X10_leaveOut, wse_X10_leaveOut, wn_X10, wc_X10_leaveOut⟩, by decide +kernel, by decide +kernel⟩
theorem kX11_226 : CV RX11 226 mX10_hold 1 := ⟨⟨all_in 661 (by decide +kernel) (by decide +kernel), wi_X10_hold, wse_X10_hold, wn_X10, wc_X10_hold⟩, by decide +kernel, by decide +kernel⟩
theorem kX11_229 : CV RX11 229 mX5_moves 2 := ⟨⟨all_in 669 (by decide +kernel) (by decide +kernel), wi_X5_moves, wse_X5_moves, wn_X5, wc_X5_moves⟩, by decide +kernel, by decide +kernel⟩
theorem kX11_232 : CV RX11 232 mX5_factThen 1 := ⟨⟨all_in 670 (by decide +kernel) (by decide +kernel), wi_X5_factThen, wse_X5_factThen, wn_X5, wc_X5_factThen⟩, by decide +kernel, by decide +kernel⟩
theorem kX11_235 : CV RX11 235 mX11_staysWithout 2 := ⟨⟨all_in 674 (by decide +kernel) (by decide +kernel), wi_X11_staysWithout, wse_X11_staysWithout, wn_X11, wc_X11_staysWithout⟩, by decide +kernel, by decide +kernel⟩
theorem kX11_238 : CV RX11 238 mX5_hasBase 0 := ⟨⟨all_in 687 (by decide +kernel) (by decide +kernel), wi_X5_hasBase, wse_X5_hasBase, wn_X5, wc_X5_hasBase⟩, by decide +kernel, by decide +kernel⟩
theorem kX11_242 : CV RX11 242 mX7_find 2 := ⟨⟨all_in 688 (by decide +kernel) (by decide +kernel), wi_X7_find, wse_X7_find, wn_X7, wc_X7_find⟩, by decide +kernel, by decide +kernel⟩
theorem kX11_254 : CV RX11 254 mX1_begin 1 := ⟨⟨all_in 731 (by decide +kernel) (by decide +kernel), wi_X1_begin, wse_X1_begin, wn_X1, wc_X1_begin⟩, by decide +kernel, by decide +kernel⟩
theorem kX11_255 : CV RX11 255 mX1_leastSet 0 := ⟨⟨all_in 735 (by decide +kernel) (by decide +kernel), wi_X1_leastSet, wse_X1_leastSet, wn_X1, wc_X1_leastSet⟩, by decide +kernel, by decide +kernel⟩
theorem kX11_262 : CV RX11 262 mX8_brokenIn 3 := ⟨⟨all_in 615 (by decide +kernel) (by decide +kernel), wi_X8_brokenIn, wse_X8_brokenIn, wn_X8, wc_X8_brokenIn⟩, by decide +kernel, by decide +kernel⟩
theorem kX11_266 : CV RX11 266 mX10_turnBack 1 := ⟨⟨all_in 678 (by decide +kernel) (by decide +kernel), wi_X10_turnBack, wse_X10_turnBack, wn_X10, wc_X10_turnBack⟩, by decide +kernel, by decide +kernel⟩
theorem kX12_103 : CV RX12 103 mX12_noDecision 1 := ⟨⟨all_in 872 (by decide +kernel) (by decide +kernel), wi_X12_noDecision, wse_X12_noDecision, wn_X12, wc_X12_noDecision⟩, by decide +kernel, by decide +kernel⟩
theorem kX12_107 : CV RX12 107 mX12_mayHave 2 := ⟨⟨all_in 884 (by decide +kernel) (by decide +kernel), wi_X12_mayHave, wse_X12_mayHave, wn_X12, wc_X12_mayHave⟩, by decide +kernel, by decide +kernel⟩
theorem kX12_120 : CV RX12 120 mX12_keeps 2 := ⟨⟨all_in 952 (by decide +kernel) (by decide +kernel), wi_X12_keeps, wse_X12_keeps, wn_X12, wc_X12_keeps⟩, by decide +kernel, by decide +kernel⟩
theorem kX12_124 : CV RX12 124 mX12_isMoved 2 := ⟨⟨all_in 944 (by decide +kernel) (by decide +kernel), wi_X12_isMoved, wse_X12_isMoved, wn_X12, wc_X12_isMoved⟩, by decide +kernel, by decide +kernel⟩
theorem kX12_127 : CV RX12 127 mX12_firstPlan 0 := ⟨⟨all_in 936 (by decide +kernel) (by decide +kernel), wi_X12_firstPlan, wse_X12_firstPlan, wn_X12, wc_X12_firstPlan⟩, by decide +kernel, by decide +kernel⟩
theorem kX12_130 : CV RX12 130 mX12_isAllowed 1 := ⟨⟨all_in 940 (by decide +kernel) (by decide +kernel), wi_X12_isAllowed, wse_X12_isAllowed, wn_X12, wc_X12_isAllowed⟩, by decide +kernel, by decide +kernel⟩
theorem kX12_134 : CV RX12 134 mX12_brokenOf 1 := ⟨⟨all_in 948 (by decide +kernel) (by decide +kernel), wi_X12_brokenOf, wse_X12_brokenOf, wn_X12, wc_X12_brokenOf⟩, by decide +kernel, by decide +kernel⟩
theorem kX12_138 : CV RX12 138 mX12_costOf 1 := ⟨⟨all_in 956 (by decide +kernel) (by decide +kernel), wi_X12_costOf, wse_X12_costOf, wn_X12, wc_X12_costOf⟩, by decide +kernel, by decide +kernel⟩
theorem kX12_141 : CV RX12 141 mX12_worthOf 1 := ⟨⟨all_in 960 (by decide +kernel) (by decide +kernel), wi_X12_worthOf, wse_X12_worthOf, wn_X12, wc_X12_worthOf⟩, by decide +kernel, by decide +kernel⟩
theorem kX12_144 : CV RX12 144 mX12_nextPlan 0 := ⟨⟨all_in 964 (by decide +kernel) (by decide +kernel), wi_X12_nextPlan, wse_X12_nextPlan, wn_X12, wc_X12_nextPlan⟩, by decide +kernel, by decide +kernel⟩
theorem kX12_148 : CV RX12 148 mX12_findBest 0 := ⟨⟨all_in 932 (by decide +kernel) (by decide +kernel), wi_X12_findBest, wse_X12_findBest, wn_X12, wc_X12_findBest⟩, by decide +kernel, by decide +kernel⟩
theorem kX12_154 : CV RX12 154 mX12_movedBits 0 := ⟨⟨all_in 976 (by decide +kernel) (by decide +kernel), wi_X12_movedBits, wse_X12_movedBits, wn_X12, wc_X12_movedBits⟩, by decide +kernel, by decide +kernel⟩
theorem kX12_162 : CV RX12 162 mX12_leastOf 1 := ⟨⟨all_in 991 (by decide +kernel) (by decide +kernel), wi_X12_leastOf, wse_X12_leastOf, wn_X12, wc_X12_leastOf⟩, by decide +kernel, by decide +kernel⟩
theorem kX12_171 : CV RX12 171 mX12_goOn 4 := ⟨⟨all_in 1015 (by decide +kernel) (by decide +kernel), wi_X12_goOn, wse_X12_goOn, wn_X12, wc_X12_goOn⟩, by decide +kernel, by decide +kernel⟩
theorem kX12_175 : CV RX12 175 mX12_findWay 0 := ⟨⟨all_in 1011 (by decide +kernel) (by decide +kernel), wi_X12_findWay, wse_X12_findWay, wn_X12, wc_X12_findWay⟩, by decide +kernel, by decide +kernel⟩
theorem kX12_178 : CV RX12 178 mX12_leastClash 1 := ⟨⟨all_in 1027 (by decide +kernel) (by decide +kernel), wi_X12_leastClash, wse_X12_leastClash, wn_X12, wc_X12_leastClash⟩, by decide +kernel, by decide +kernel⟩
theorem kX12_181 : CV RX12 181 mX12_isClash 1 := ⟨⟨all_in 1031 (by decide +kernel) (by decide +kernel), wi_X12_isClash, wse_X12_isClash, wn_X12, wc_X12_isClash⟩, by decide +kernel, by decide +kernel⟩
theorem kX5_32 : CV RX5 32 mX5_hasBase 0 := ⟨⟨all_in 540 (by decide +kernel) (by decide +kernel), wi_X5_hasBase, wse_X5_hasBase, wn_X5, wc_X5_hasBase⟩, by decide +kernel, by decide +kernel⟩
theorem kX6_24 : CV RX6 24 mX6_forgetOldest 0 := ⟨⟨all_in 574 (by decide +kernel) (by decide +kernel), wi_X6_forgetOldest, wse_X6_forgetOldest, wn_X6, wc_X6_forgetOldest⟩, by decide +kernel, by decide +kernel⟩
theorem kX7_46 : CV RX7 46 mX7_brokenWith 2 := ⟨⟨all_in 692 (by decide +kernel) (by decide +kernel), wi_X7_brokenWith, wse_X7_brokenWith, wn_X7, wc_X7_brokenWith⟩, by decide +kernel, by decide +kernel⟩
theorem kX7_50 : CV RX7 50 mX7_findPeaks 1 := ⟨⟨all_in 699 (by decide +kernel) (by decide +kernel), wi_X7_findPeaks, wse_X7_findPeaks, wn_X7, wc_X7_findPeaks⟩, by decide +kernel, by decide +kernel⟩
theorem kX7_54 : CV RX7 54 mX7_findSums 1 := ⟨⟨all_in 707 (by decide +kernel) (by decide +kernel), wi_X7_findSums, wse_X7_findSums, wn_X7, wc_X7_findSums⟩, by decide +kernel, by decide +kernel⟩
theorem kX7_57 : CV RX7 57 mX7_follow 1 := ⟨⟨all_in 715 (by decide +kernel) (by decide +kernel), wi_X7_follow, wse_X7_follow, wn_X7, wc_X7_follow⟩, by decide +kernel, by decide +kernel⟩
theorem kX7_65 : CV RX7 65 mX5_valueThen 1 := ⟨⟨all_in 696 (by decide +kernel) (by decide +kernel), wi_X5_valueThen, wse_X5_valueThen, wn_X5, wc_X5_valueThen⟩, by decide +kernel, by decide +kernel⟩
theorem kX7_76 : CV RX7 76 mX8_brokenIn 3 := ⟨⟨all_in 697 (by decide +kernel) (by decide +kernel), wi_X8_brokenIn, wse_X8_brokenIn, wn_X8, wc_X8_brokenIn⟩, by decide +kernel, by decide +kernel⟩
theorem kX7_94 : CV RX7 94 mX7_sumThrough 1 := ⟨⟨all_in 711 (by decide +kernel) (by decide +kernel), wi_X7_sumThrough, wse_X7_sumThrough, wn_X7, wc_X7_sumThrough⟩, by decide +kernel, by decide +kernel⟩
theorem kX7_97 : CV RX7 97 mX7_leastStep 2 := ⟨⟨all_in 719 (by decide +kernel) (by decide +kernel), wi_X7_leastStep, wse_X7_leastStep, wn_X7, wc_X7_leastStep⟩, by decide +kernel, by decide +kernel⟩
theorem kX8_46 : CV RX8 46 mX8_brokenByNone 1 := ⟨⟨all_in 619 (by decide +kernel) (by decide +kernel), wi_X8_brokenByNone, wse_X8_brokenByNone, wn_X8, wc_X8_brokenByNone⟩, by decide +kernel, by decide +kernel⟩
theorem kX8_50 : CV RX8 50 mX8_brokenAt 3 := ⟨⟨all_in 620 (by decide +kernel) (by decide +kernel), wi_X8_brokenAt, wse_X8_brokenAt, wn_X8, wc_X8_brokenAt⟩, by decide +kernel, by decide +kernel⟩
theorem kX8_54 : CV RX8 54 mX8_isKept 4 := ⟨⟨all_in 549 (by decide +kernel) (by decide +kernel), wi_X8_isKept, wse_X8_isKept, wn_X8, wc_X8_isKept⟩, by decide +kernel, by decide +kernel⟩
theorem kX9_19 : CV RX9 19 mX5_moves 2 := ⟨⟨all_in 563 (by decide +kernel) (by decide +kernel), wi_X5_moves, wse_X5_moves, wn_X5, wc_X5_moves⟩, by decide +kernel, by decide +kernel⟩
theorem kX9_25 : CV RX9 25 mX5_valueThen 1 := ⟨⟨all_in 564 (by decide +kernel) (by decide +kernel), wi_X5_valueThen, wse_X5_valueThen, wn_X5, wc_X5_valueThen⟩, by decide +kernel, by decide +kernel⟩
theorem kX9_47 : CV RX9 47 mX9_costAt 2 := ⟨⟨all_in 596 (by decide +kernel) (by decide +kernel), wi_X9_costAt, wse_X9_costAt, wn_X9, wc_X9_costAt⟩, by decide +kernel, by decide +kernel⟩
theorem kX9_55 : CV RX9 55 mX9_worthAt 2 := ⟨⟨all_in 498 (by decide +kernel) (by decide +kernel), wi_X9_worthAt, wse_X9_worthAt, wn_X9, wc_X9_worthAt⟩, by decide +kernel, by decide +kernel⟩
theorem kX9_64 : CV RX9 64 mX3_pinLets 2 := ⟨⟨all_in 494 (by decide +kernel) (by decide +kernel), wi_X3_pinLets, wse_X3_pinLets, wn_X3, wc_X3_pinLets⟩, by decide +kernel, by decide +kernel⟩
theorem kX9_70 : CV RX9 70 mX9_movedOf 2 := ⟨⟨all_in 625 (by decide +kernel) (by decide +kernel), wi_X9_movedOf, wse_X9_movedOf, wn_X9, wc_X9_movedOf⟩, by decide +kernel, by decide +kernel⟩
theorem kX1_19 : CS RX1 19 mX1_isLess 2 := ⟨⟨all_in 739 (by decide +kernel) (by decide +kernel), wi_X1_isLess, wn_X1, wc_X1_isLess⟩, by decide +kernel, by decide +kernel⟩
theorem kX1_23 : CS RX1 23 mJ6_bitCount_0f7a4 1 := ⟨⟨all_in 742 (by decide +kernel) (by decide +kernel), wi_J6_bitCount_0f7a4, wn_J6, wc_J6_bitCount_0f7a4⟩, by decide +kernel, by decide +kernel⟩
theorem kX1_29 : CS RX1 29 mJ6_compare_7cf53 2 := ⟨⟨all_in 743 (by decide +kernel) (by decide +kernel), wi_J6_compare_7cf53, wn_J6, wc_J6_compare_7cf53⟩, by decide +kernel, by decide +kernel⟩
theorem kX11_93 : CS RX11 93 mX11_within 3 := ⟨⟨all_in 380 (by decide +kernel) (by decide +kernel), wi_X11_within, wn_X11, wc_X11_within⟩, by decide +kernel, by decide +kernel⟩
theorem kX11_202 : CS RX11 202 mJ6_bitCount_0f7a4 1 := ⟨⟨all_in 605 (by decide +kernel) (by decide +kernel), wi_J6_bitCount_0f7a4, wn_J6, wc_J6_bitCount_0f7a4⟩, by decide +kernel, by decide +kernel⟩
theorem kX11_258 : CS RX11 258 mX11_bitAt 2 := ⟨⟨all_in 746 (by decide +kernel) (by decide +kernel), wi_X11_bitAt, wn_X11, wc_X11_bitAt⟩, by decide +kernel, by decide +kernel⟩
theorem kX12_96 : CS RX12 96 mX12_out 3 := ⟨⟨all_in 865 (by decide +kernel) (by decide +kernel), wi_X12_out, wn_X12, wc_X12_out⟩, by decide +kernel, by decide +kernel⟩
theorem kX12_158 : CS RX12 158 mX12_ones 1 := ⟨⟨all_in 980 (by decide +kernel) (by decide +kernel), wi_X12_ones, wn_X12, wc_X12_ones⟩, by decide +kernel, by decide +kernel⟩
theorem kX12_184 : CS RX12 184 mX12_isBefore 2 := ⟨⟨all_in 1035 (by decide +kernel) (by decide +kernel), wi_X12_isBefore, wn_X12, wc_X12_isBefore⟩, by decide +kernel, by decide +kernel⟩
theorem kX7_80 : CS RX7 80 mJ6_bitCount_0f7a4 1 := ⟨⟨all_in 698 (by decide +kernel) (by decide +kernel), wi_J6_bitCount_0f7a4, wn_J6, wc_J6_bitCount_0f7a4⟩, by decide +kernel, by decide +kernel⟩
theorem kX8_58 : CS RX8 58 mX8_timesUpTo 3 := ⟨⟨all_in 553 (by decide +kernel) (by decide +kernel), wi_X8_timesUpTo, wn_X8, wc_X8_timesUpTo⟩, by decide +kernel, by decide +kernel⟩
theorem kX0_29 : Cond.methodLink RX0 29 arraycopyName ∈ ALL := all_in 529 (by decide +kernel) (by decide +kernel)
theorem kX10_50 : Cond.methodLink RX10 50 arraycopyName ∈ ALL := all_in 481 (by decide +kernel) (by decide +kernel)
theorem kX11_178 : Cond.methodLink RX11 178 arraycopyName ∈ ALL := all_in 579 (by decide +kernel) (by decide +kernel)
theorem kX5_26 : Cond.methodLink RX5 26 arraycopyName ∈ ALL := all_in 458 (by decide +kernel) (by decide +kernel)
theorem kX6_27 : Cond.methodLink RX6 27 arraycopyName ∈ ALL := all_in 578 (by decide +kernel) (by decide +kernel)
theorem kX7_85 : Cond.methodLink RX7 85 Lib.Math.max.name ∈ ALL := all_in 703 (by decide +kernel) (by decide +kernel)
theorem kX7_91 : Cond.methodLink RX7 91 Lib.Math.min.name ∈ ALL := all_in 704 (by decide +kernel) (by decide +kernel)
theorem kX8_40 : Cond.methodLink RX8 40 Lib.Math.max.name ∈ ALL := all_in 435 (by decide +kernel) (by decide +kernel)
theorem kX8_62 : Cond.methodLink RX8 62 Lib.Math.abs.name ∈ ALL := all_in 556 (by decide +kernel) (by decide +kernel)
theorem kX9_29 : Cond.methodLink RX9 29 Lib.Math.abs.name ∈ ALL := all_in 568 (by decide +kernel) (by decide +kernel)
theorem kX9_67 : Cond.methodLink RX9 67 Lib.Math.max.name ∈ ALL := all_in 502 (by decide +kernel) (by decide +kernel)
theorem kX10_82_0 : CA RX10 82 nGoalH mX0_isHopeless 3 := ⟨⟨all_in 511 (by decide +kernel) (by decide +kernel), all_in 513 (by decide +kernel) (by decide +kernel), all_in 514 (by decide +kernel) (by decide +kernel), wi_X0_isHopeless, wn_X0, wc_X0_isHopeless⟩, by decide +kernel, by decide +kernel⟩
theorem kX10_82_1 : CA RX10 82 nGoalH mX1_isHopeless 3 := ⟨⟨all_in 511 (by decide +kernel) (by decide +kernel), all_in 513 (by decide +kernel) (by decide +kernel), all_in 517 (by decide +kernel) (by decide +kernel), wi_X1_isHopeless, wn_X1, wc_X1_isHopeless⟩, by decide +kernel, by decide +kernel⟩
theorem kX10_82_2 : CA RX10 82 nGoalH mX2_isHopeless 3 := ⟨⟨all_in 511 (by decide +kernel) (by decide +kernel), all_in 513 (by decide +kernel) (by decide +kernel), all_in 520 (by decide +kernel) (by decide +kernel), wi_X2_isHopeless, wn_X2, wc_X2_isHopeless⟩, by decide +kernel, by decide +kernel⟩
theorem kX10_88_0 : CA RX10 88 nGoalR mX0_reach 4 := ⟨⟨all_in 523 (by decide +kernel) (by decide +kernel), all_in 525 (by decide +kernel) (by decide +kernel), all_in 526 (by decide +kernel) (by decide +kernel), wi_X0_reach, wn_X0, wc_X0_reach⟩, by decide +kernel, by decide +kernel⟩
theorem kX10_88_1 : CA RX10 88 nGoalR mX1_reach 4 := ⟨⟨all_in 523 (by decide +kernel) (by decide +kernel), all_in 525 (by decide +kernel) (by decide +kernel), all_in 530 (by decide +kernel) (by decide +kernel), wi_X1_reach, wn_X1, wc_X1_reach⟩, by decide +kernel, by decide +kernel⟩
theorem kX10_88_2 : CA RX10 88 nGoalR mX2_reach 4 := ⟨⟨all_in 523 (by decide +kernel) (by decide +kernel), all_in 525 (by decide +kernel) (by decide +kernel), all_in 533 (by decide +kernel) (by decide +kernel), wi_X2_reach, wn_X2, wc_X2_reach⟩, by decide +kernel, by decide +kernel⟩
end
section
/-! sums, distances, bits: plain facts -/
def sumI (f : Int → Int) : Nat → Int
  | 0 => 0
  | k + 1 => sumI f k + f (k : Int)
theorem sumI_congr {f g : Int → Int} : ∀ {n : Nat}, (∀ k : Nat, k < n → f (k : Int) = g (k : Int)) → sumI f n = sumI g n
  | 0, _ => rfl
  | n + 1, h => by
    show sumI f n + f (n : Int) = sumI g n + g (n : Int)
    rw [sumI_congr (fun k hk => h k (Nat.lt_succ_of_lt hk)), h n (Nat.lt_succ_self n)]
theorem sumI_bnd {f : Int → Int} {m : Int} : ∀ {n : Nat}, (∀ k : Nat, k < n → 0 ≤ f (k : Int) ∧ f (k : Int) ≤ m) → 0 ≤ sumI f n ∧ sumI f n ≤ m * n
  | 0, _ => by simp [sumI]
  | n + 1, h => by
    have h1 := sumI_bnd (fun k hk => h k (Nat.lt_succ_of_lt hk))
    have h2 := h n (Nat.lt_succ_self n)
    show 0 ≤ sumI f n + f (n : Int) ∧ sumI f n + f (n : Int) ≤ m * ((n + 1 : Nat) : Int)
    have e : m * ((n + 1 : Nat) : Int) = m * n + m := by rw [Int.natCast_add, Int.mul_add]; simp
    rw [e]
    omega
theorem sumI_mono {f : Int → Int} : ∀ {n m : Nat}, (∀ k : Nat, k < m → 0 ≤ f (k : Int)) → n ≤ m → sumI f n ≤ sumI f m
  | n, 0, _, hn => by
    have : n = 0 := by omega
    subst this
    exact Int.le_refl _
  | n, m + 1, h, hn => by
    by_cases e : n = m + 1
    · subst e
      exact Int.le_refl _
    · have h1 := sumI_mono (n := n) (m := m) (fun k hk => h k (Nat.lt_succ_of_lt hk)) (by omega)
      have h2 := h m (Nat.lt_succ_self m)
      show sumI f n ≤ sumI f m + f (m : Int)
      omega
def dist (x y : Int) : Int := if y < x then x - y else y - x
theorem dist_abs (x y : Int) : (if 0 ≤ x - y then x - y else -(x - y)) = dist x y := by unfold dist; split <;> split <;> omega
theorem dist_bnd {x y : Int} (hx : 0 ≤ x ∧ x ≤ 5) (hy : 0 ≤ y ∧ y ≤ 5) : 0 ≤ dist x y ∧ dist x y ≤ 5 := by unfold dist; split <;> omega
theorem dist_symm (x y : Int) : dist x y = dist y x := by unfold dist; split <;> split <;> omega
/-- whether a plan p moves the decision d, the base being bs (none: -5), its values bv -/
def mv (bs : Int) (bv p : Int → Int) (d : Int) : Bool := decide (bs ≠ -5 ∧ p d ≠ bv d)
def cst (bs : Int) (bv wt pr p : Int → Int) (d : Int) : Int := if mv bs bv p d then wt d + pr d * dist (p d) (bv d) else 0
def one (b : Bool) : Int := if b then 1 else 0
theorem one_t : one true = 1 := rfl
theorem one_f : one false = 0 := rfl
theorem one_bnd (b : Bool) : 0 ≤ one b ∧ one b ≤ 1 := by cases b <;> simp [one]
/-- whether a rule holds for the plan p of n decisions -/
def rk (kd a b F : Int) (p : Int → Int) (n : Nat) : Bool :=
  if kd = 5 then decide (sumI (fun d => one (decide (p d = b))) n ≤ F) else if kd = 0 then decide (p a - p b ≤ F) else if kd = 1 then decide (p a + p b ≤ F) else if kd = 2 then decide (F ≤ p a + p b) else if kd = 3 then decide (F ≤ dist (p a) (p b)) else decide (dist (p a) (p b) ≤ F)
def bitsN (f : Nat → Bool) : Nat → Nat
  | 0 => 0
  | r + 1 => bitsN f r + if f r then 2 ^ r else 0
theorem bitsN_lt (f : Nat → Bool) : ∀ n, bitsN f n < 2 ^ n
  | 0 => by simp [bitsN]
  | n + 1 => by
    have h := bitsN_lt f n
    have e : 2 ^ (n + 1) = 2 ^ n + 2 ^ n := by rw [Nat.pow_succ]; omega
    show bitsN f n + (if f n then 2 ^ n else 0) < 2 ^ (n + 1)
    split <;> omega
theorem bitsN_congr {f g : Nat → Bool} : ∀ {n : Nat}, (∀ r, r < n → f r = g r) → bitsN f n = bitsN g n
  | 0, _ => rfl
  | n + 1, h => by
    show bitsN f n + (if f n then 2 ^ n else 0) = bitsN g n + (if g n then 2 ^ n else 0)
    rw [bitsN_congr (fun r hr => h r (Nat.lt_succ_of_lt hr)), h n (Nat.lt_succ_self n)]
theorem bitsN_test (f : Nat → Bool) : ∀ (n i : Nat), (bitsN f n).testBit i = (decide (i < n) && f i)
  | 0, i => by simp [bitsN]
  | n + 1, i => by
    have ih := bitsN_test f n i
    have hlt := bitsN_lt f n
    show (bitsN f n + if f n then 2 ^ n else 0).testBit i = _
    by_cases hi : i = n
    · subst hi
      cases hf : f i
      · simp [ih]
      · rw [if_pos rfl, Nat.add_comm, Nat.testBit_two_pow_add_eq, ih]
        simp
    · cases hf : f n
      · simp only [Bool.false_eq_true, if_false, Nat.add_zero, ih]
        by_cases h2 : i < n
        · simp [h2, Nat.lt_succ_of_lt h2]
        · have : ¬ i < n + 1 := by omega
          simp [h2, this]
      · rw [if_pos rfl]
        by_cases h2 : i < n
        · rw [Nat.add_comm, Nat.testBit_two_pow_add_gt h2, ih]
          simp [h2, Nat.lt_succ_of_lt h2]
        · have h3 : ¬ i < n + 1 := by omega
          have h4 : bitsN f n + 2 ^ n < 2 ^ i := by
            have e1 : 2 ^ (n + 1) = 2 ^ n + 2 ^ n := by rw [Nat.pow_succ]; omega
            have e2 : 2 ^ (n + 1) ≤ 2 ^ i := Nat.pow_le_pow_right (by omega) (by omega)
            omega
          rw [Nat.testBit_lt_two_pow h4]
          simp [h3]
theorem and_nI (a b : Nat) : nI a &&& nI b = nI (a &&& b) := by
  apply Int32.toBitVec_inj.1
  show BitVec.ofNat 32 a &&& BitVec.ofNat 32 b = BitVec.ofNat 32 (a &&& b)
  apply BitVec.eq_of_getLsbD_eq
  intro i hi
  simp [hi]
theorem or_nI (a b : Nat) : nI a ||| nI b = nI (a ||| b) := by
  apply Int32.toBitVec_inj.1
  show BitVec.ofNat 32 a ||| BitVec.ofNat 32 b = BitVec.ofNat 32 (a ||| b)
  apply BitVec.eq_of_getLsbD_eq
  intro i hi
  simp [hi]
theorem xor_nI (a b : Nat) : nI a ^^^ nI b = nI (a ^^^ b) := by
  apply Int32.toBitVec_inj.1
  show BitVec.ofNat 32 a ^^^ BitVec.ofNat 32 b = BitVec.ofNat 32 (a ^^^ b)
  apply BitVec.eq_of_getLsbD_eq
  intro i hi
  simp [hi]
theorem ofInt_nI (n : Nat) : Int32.ofInt (n : Int) = nI n := Int32.ofInt_eq_ofNat
theorem band_nat {m n : Nat} (hm : m < 2 ^ 31) : band (m : Int) (n : Int) = ((m &&& n : Nat) : Int) := by
  unfold band
  rw [ofInt_nI, ofInt_nI, and_nI, nI_toInt (Nat.lt_of_le_of_lt Nat.and_le_left hm)]
theorem bor_nat {m n : Nat} (hm : m < 2 ^ 31) (hn : n < 2 ^ 31) : bor (m : Int) (n : Int) = ((m ||| n : Nat) : Int) := by
  unfold bor
  rw [ofInt_nI, ofInt_nI, or_nI, nI_toInt (Nat.or_lt_two_pow hm hn)]
theorem bxor_nat {m n : Nat} (hm : m < 2 ^ 31) (hn : n < 2 ^ 31) : bxor (m : Int) (n : Int) = ((m ^^^ n : Nat) : Int) := by
  unfold bxor
  rw [ofInt_nI, ofInt_nI, xor_nI, nI_toInt (Nat.xor_lt_two_pow hm hn)]
theorem sh_amt : ∀ n, n < 32 → ((nI n &&& 31).toBitVec.smod 32).toNat = n := by decide +kernel
theorem bshl_nat {m r : Nat} (hr : r < 32) (h : m * 2 ^ r < 2 ^ 31) : bshl (m : Int) (r : Int) = ((m * 2 ^ r : Nat) : Int) := by
  unfold bshl
  rw [ofInt_nI, ofInt_nI, pk_shlN (nI r &&& 31) r (sh_amt r hr) (by omega), nI_toInt h]
theorem bshl_one {r : Nat} (hr : r < 31) : bshl 1 (r : Int) = ((2 ^ r : Nat) : Int) := by
  have h1 : 1 * 2 ^ r < 2 ^ 31 := by rw [Nat.one_mul]; exact Nat.pow_lt_pow_right (by omega) hr
  have h := bshl_nat (m := 1) (r := r) (by omega) h1
  rw [Nat.one_mul] at h
  exact h
theorem bshr_nat {m r : Nat} (hm : m < 2 ^ 31) (hr : r < 32) : bshr (m : Int) (r : Int) = ((m / 2 ^ r : Nat) : Int) := by
  unfold bshr
  rw [ofInt_nI, ofInt_nI, pk_shrN hm (nI r &&& 31) r (sh_amt r hr), nI_toInt (Nat.lt_of_le_of_lt (Nat.div_le_self _ _) hm)]
theorem bit_nat {m r : Nat} (hm : m < 2 ^ 31) (hr : r < 32) : band (bshr (m : Int) (r : Int)) 1 = one (m.testBit r) := by
  rw [bshr_nat hm hr]
  have h := band_nat (m := m / 2 ^ r) (n := 1) (Nat.lt_of_le_of_lt (Nat.div_le_self _ _) hm)
  have e : (((1 : Nat) : Int)) = 1 := rfl
  rw [e] at h
  rw [h, Nat.and_one_is_mod, Nat.testBit_eq_decide_div_mod_eq]
  unfold one
  by_cases h2 : m / 2 ^ r % 2 = 1
  · simp [h2]
  · have h3 : m / 2 ^ r % 2 = 0 := by omega
    simp [h3]
theorem bor_pow {m r : Nat} (hm : m < 2 ^ r) (hr : r < 30) : bor (m : Int) ((2 ^ r : Nat) : Int) = ((m + 2 ^ r : Nat) : Int) := by
  have hp : 2 ^ r < 2 ^ 31 := Nat.pow_lt_pow_right (by omega) (by omega)
  rw [bor_nat (by omega) hp]
  congr 1
  apply Nat.eq_of_testBit_eq
  intro i
  rw [Nat.testBit_or, Nat.testBit_two_pow, Nat.add_comm]
  by_cases h1 : i = r
  · subst h1
    rw [Nat.testBit_two_pow_add_eq, Nat.testBit_lt_two_pow hm]
    simp
  · by_cases h2 : i < r
    · rw [Nat.testBit_two_pow_add_gt h2]
      have : ¬ r = i := fun q => h1 q.symm
      simp [this]
    · have h3 : r < i := by omega
      have e1 : 2 ^ (r + 1) = 2 ^ r + 2 ^ r := by rw [Nat.pow_succ]; omega
      have e2 : 2 ^ (r + 1) ≤ 2 ^ i := Nat.pow_le_pow_right (by omega) (by omega)
      rw [Nat.testBit_lt_two_pow (x := m) (i := i) (by omega), Nat.testBit_lt_two_pow (x := 2 ^ r + m) (i := i) (by omega)]
      have : ¬ r = i := fun q => h1 q.symm
      simp [this]
theorem bor_zero {m : Nat} (hm : m < 2 ^ 31) : bor (m : Int) 0 = (m : Int) := by
  have h := bor_nat (m := m) (n := 0) hm (by decide)
  rw [Nat.or_zero] at h
  exact h
/-- the number of ones among the lowest k bits -/
def pop (m : Nat) (k : Nat) : Int := sumI (fun i => one (m.testBit i.toNat)) k
theorem pop_bnd (m k : Nat) : 0 ≤ pop m k ∧ pop m k ≤ k := by
  have h := sumI_bnd (f := fun i => one (m.testBit i.toNat)) (m := 1) (n := k) (fun _ _ => one_bnd _)
  unfold pop
  omega
end
section
set_option maxRecDepth 100000 in
set_option maxHeartbeats 4000000 in
theorem mul_bnd {a b A B : Int} (ha : 0 ≤ a ∧ a ≤ A) (hb : 0 ≤ b ∧ b ≤ B) : 0 ≤ a * b ∧ a * b ≤ A * B := ⟨Int.mul_nonneg ha.1 hb.1, Int.mul_le_mul ha.2 hb.2 hb.1 (by omega)⟩
theorem one_dt {p : Prop} [Decidable p] (h : p) : one (decide p) = 1 := by rw [decide_eq_true h]; rfl
theorem one_df {p : Prop} [Decidable p] (h : ¬ p) : one (decide p) = 0 := by rw [decide_eq_false h]; rfl
theorem sum_s {f : Int → Int} {i : Nat} {acc x : Int} (ha : acc = sumI f i) (hx : f (i : Int) = x) : acc + x = sumI f (i + 1) := by rw [sumI, ha, hx]
/-- the reference's memory is as its calls leave it: n decisions, R rules, F facts -/
def RW (σ : Mem) (n R F : Nat) : Prop := (σ 64 0 = n ∧ n ≤ 6 ∧ σ 64 12 = R ∧ R ≤ 12 ∧ σ 64 10 = F ∧ F ≤ 6) ∧
  (∀ r : Int, 0 ≤ r → r < R → 0 ≤ σ 75 r ∧ σ 75 r ≤ 5 ∧ 0 ≤ σ 78 r ∧ σ 78 r < F ∧ (σ 75 r = 5 → 0 ≤ σ 77 r ∧ σ 77 r ≤ 5) ∧ (σ 75 r ≠ 5 → 0 ≤ σ 76 r ∧ σ 76 r < n ∧ 0 ≤ σ 77 r ∧ σ 77 r < n)) ∧
  (∀ d : Int, 0 ≤ d → d < n → 0 ≤ σ 65 d ∧ σ 65 d ≤ σ 66 d ∧ σ 66 d ≤ 5 ∧ 0 ≤ σ 67 d ∧ σ 67 d ≤ 3 ∧ 0 ≤ σ 68 d ∧ σ 68 d ≤ 100 ∧ 0 ≤ σ 69 d ∧ σ 69 d ≤ 20 ∧ (σ 70 d = -5 ∨ (σ 65 d ≤ σ 70 d ∧ σ 70 d ≤ σ 66 d))) ∧
  (∀ i : Int, 0 ≤ i → i < 36 → 0 ≤ σ 71 i ∧ σ 71 i ≤ 100) ∧ (∀ p : Int, 0 ≤ p → p < 4 → 0 ≤ σ 73 p ∧ σ 73 p ≤ 6) ∧
  (σ 64 21 = -5 ∨ (0 ≤ σ 64 21 ∧ σ 64 21 < 3 ∧ ∀ d : Int, 0 ≤ d → d < n → 0 ≤ σ 79 (6 * σ 64 21 + d) ∧ σ 79 (6 * σ 64 21 + d) ≤ 5)) ∧ (σ 64 17 = 0 ∨ σ 64 17 = 1)
/-- a plan in a row -/
def RP (σ : Mem) (pp n : Nat) : Prop := ∀ i : Int, 0 ≤ i → i < n → 0 ≤ σ pp i ∧ σ pp i ≤ 5
abbrev rbv (σ : Mem) : Int → Int := fun d => σ 79 (6 * σ 64 21 + d)
abbrev rrk (σ : Mem) (p : Int → Int) (n : Nat) (r : Int) : Bool := rk (σ 75 r) (σ 76 r) (σ 77 r) (σ 74 (σ 78 r)) p n
/-- the rules that a plan breaks, as bits -/
def rbrk (σ : Mem) (p : Int → Int) (n R : Nat) : Nat := bitsN (fun r => !rrk σ p n (r : Int)) R
def rAlw (σ : Mem) (p : Int → Int) (n : Nat) : Prop := (∀ w : Int, 0 ≤ w → w < 4 → sumI (fun d => one (decide (σ 67 d = w) && mv (σ 64 21) (rbv σ) p d)) n ≤ σ 73 w) ∧ ∀ d : Int, 0 ≤ d → d < n → σ 65 d ≤ p d ∧ p d ≤ σ 66 d ∧ (σ 70 d = -5 ∨ σ 70 d = p d)
theorem rw_n {σ : Mem} {n R F : Nat} (h : RW σ n R F) : 0 ≤ σ 64 0 ∧ σ 64 0 ≤ 6 := by obtain ⟨⟨h1, h2, -⟩, -⟩ := h; omega
set_option maxRecDepth 100000 in
set_option maxHeartbeats 4000000 in
theorem X12_out {d : Nat} {a b c : Int} {σ : Mem} {K : Int → Mem → Prop} (ht : a < b ∨ c < a → K 1 σ) (hf : b ≤ a ∧ a ≤ c → K 0 σ) : Run mX12_out d [.inl a, .inl b, .inl c] σ (RI K) := by
  refine Run_of (ls := [.inl a, .inl b, .inl c]) (by decide) (Nat.le_of_ble_eq_true rfl) rfl ?_
  refine v_iload0 1 dX12_out_0 rfl ?_
  refine v_iload1 2 dX12_out_1 rfl ?_
  refine v_icmp_lt 10 5 dX12_out_2 rfl rfl (fun h2 => ?_) (fun h2 => ?_)
  · skip
    refine v_iconst 11 dX12_out_10 rfl ⟨by decide +kernel, by decide⟩ ?_
    refine v_goto 15 dX12_out_11 rfl ?_
    refine v_zretI dX12_out_15 rfl (Or.inr rfl) ?_
    first | exact ht (by omega) | exact hf (by omega)
  · skip
    refine v_iload0 6 dX12_out_5 rfl ?_
    refine v_iload2 7 dX12_out_6 rfl ?_
    refine v_icmp_le 14 10 dX12_out_7 rfl rfl (fun h7 => ?_) (fun h7 => ?_)
    · skip
      refine v_iconst 15 dX12_out_14 rfl ⟨by decide +kernel, by decide⟩ ?_
      refine v_zretI dX12_out_15 rfl (Or.inl rfl) ?_
      first | exact ht (by omega) | exact hf (by omega)
    · skip
      refine v_iconst 11 dX12_out_10 rfl ⟨by decide +kernel, by decide⟩ ?_
      refine v_goto 15 dX12_out_11 rfl ?_
      refine v_zretI dX12_out_15 rfl (Or.inr rfl) ?_
      first | exact ht (by omega) | exact hf (by omega)
set_option maxRecDepth 100000 in
set_option maxHeartbeats 4000000 in
theorem X12_noDecision {d : Nat} {k : Int} {σ : Mem} {K : Int → Mem → Prop} (hn : 0 ≤ σ 64 0 ∧ σ 64 0 ≤ 6) (hd : 1 ≤ d) (ht : k < 0 ∨ σ 64 0 ≤ k → K 1 σ) (hf : 0 ≤ k ∧ k < σ 64 0 → K 0 σ) : Run mX12_noDecision d [.inr (some 64), .inl k] σ (RI K) := by
  refine Run_of (ls := [.inr (some 64), .inl k]) (by decide) (Nat.le_of_ble_eq_true rfl) rfl ?_
  refine v_iload1 1 dX12_noDecision_0 rfl ?_
  refine v_iconst 2 dX12_noDecision_1 rfl ⟨by decide +kernel, by decide⟩ ?_
  refine v_aload0 3 dX12_noDecision_2 rfl ?_
  refine v_getI 6 0 dX12_noDecision_3 rfl fX12_93 rfl rfl rfl ?_
  refine v_iconst 7 dX12_noDecision_6 rfl ⟨by decide +kernel, by decide⟩ ?_
  refine v_isub 8 dX12_noDecision_7 rfl (⟨by omega, by omega⟩) ?_
  refine v_csI3 mX12_out 11 dX12_noDecision_8 rfl kX12_96 (by omega) (Nat.le_of_ble_eq_true rfl) ?_
  refine X12_out (fun h8 => ?_) (fun h8 => ?_)
  · skip
    refine v_zretI dX12_noDecision_11 rfl (Or.inr rfl) ?_
    first | exact ht (by omega) | exact hf (by omega)
  · skip
    refine v_zretI dX12_noDecision_11 rfl (Or.inl rfl) ?_
    first | exact ht (by omega) | exact hf (by omega)
set_option maxRecDepth 100000 in
set_option maxHeartbeats 4000000 in
theorem X12_mayHave {d : Nat} {k v : Int} {σ : Mem} {K : Int → Mem → Prop} (hk : 0 ≤ k ∧ k < 6) (hd : 1 ≤ d) (ht : σ 65 k ≤ v ∧ v ≤ σ 66 k → K 1 σ) (hf : v < σ 65 k ∨ σ 66 k < v → K 0 σ) : Run mX12_mayHave d [.inr (some 64), .inl k, .inl v] σ (RI K) := by
  refine Run_of (ls := [.inr (some 64), .inl k, .inl v]) (by decide) (Nat.le_of_ble_eq_true rfl) rfl ?_
  refine v_iload2 1 dX12_mayHave_0 rfl ?_
  refine v_aload0 2 dX12_mayHave_1 rfl ?_
  refine v_getR 5 dX12_mayHave_2 rfl fX12_7 rfl rfl ?_
  refine v_iload1 6 dX12_mayHave_5 rfl ?_
  refine v_iald 7 dX12_mayHave_6 rfl rfl (⟨by omega, by omega⟩) ?_
  refine v_aload0 8 dX12_mayHave_7 rfl ?_
  refine v_getR 11 dX12_mayHave_8 rfl fX12_13 rfl rfl ?_
  refine v_iload1 12 dX12_mayHave_11 rfl ?_
  refine v_iald 13 dX12_mayHave_12 rfl rfl (⟨by omega, by omega⟩) ?_
  refine v_csI3 mX12_out 16 dX12_mayHave_13 rfl kX12_96 (by omega) (Nat.le_of_ble_eq_true rfl) ?_
  refine X12_out (fun h13 => ?_) (fun h13 => ?_)
  · skip
    refine v_if_ne 23 19 dX12_mayHave_16 rfl rfl (fun _ => ?_) (fun h => absurd (by decide) h)
    refine v_iconst 24 dX12_mayHave_23 rfl ⟨by decide +kernel, by decide⟩ ?_
    refine v_zretI dX12_mayHave_24 rfl (Or.inl rfl) ?_
    first | exact ht (by omega) | exact hf (by omega)
  · skip
    refine v_if_ne 23 19 dX12_mayHave_16 rfl rfl (fun h => absurd h (by decide)) (fun _ => ?_)
    refine v_iconst 20 dX12_mayHave_19 rfl ⟨by decide +kernel, by decide⟩ ?_
    refine v_goto 24 dX12_mayHave_20 rfl ?_
    refine v_zretI dX12_mayHave_24 rfl (Or.inr rfl) ?_
    first | exact ht (by omega) | exact hf (by omega)
set_option maxRecDepth 100000 in
set_option maxHeartbeats 4000000 in
theorem X12_keeps {d : Nat} {pp n R F : Nat} {r : Int} {σ : Mem} {K : Int → Mem → Prop} (hw : RW σ n R F) (hpp : shapes[pp]? = some (0, 6, [])) (hp : RP σ pp n) (hr : 0 ≤ r ∧ r < R) (ht : rrk σ (σ pp) n r = true → K 1 σ) (hf : rrk σ (σ pp) n r = false → K 0 σ) : Run mX12_keeps d [.inr (some 64), .inr (some pp), .inl r] σ (RI K) := by
  have hw0 := hw
  obtain ⟨⟨hn, hn6, hR, hR12, hF, hF6⟩, hru, hde, hwo, hli, hba, hwf⟩ := hw0
  have hr1 := hru r hr.1 hr.2
  
  refine Run_of (ls := [.inr (some 64), .inr (some pp), .inl r, .inr none, .inr none, .inr none, .inr none]) (by decide) (Nat.le_of_ble_eq_true rfl) rfl ?_
  refine v_aload0 1 dX12_keeps_0 rfl ?_
  refine v_getR 4 dX12_keeps_1 rfl fX12_37 rfl rfl ?_
  refine v_aload0 5 dX12_keeps_4 rfl ?_
  refine v_getR 8 dX12_keeps_5 rfl fX12_49 rfl rfl ?_
  refine v_iload2 9 dX12_keeps_8 rfl ?_
  refine v_iald 10 dX12_keeps_9 rfl rfl (⟨by omega, by omega⟩) ?_
  refine v_iald 11 dX12_keeps_10 rfl rfl (⟨by omega, by omega⟩) ?_
  refine v_istore3 12 dX12_keeps_11 rfl (by decide) ?_
  refine v_aload0 13 dX12_keeps_12 rfl ?_
  refine v_getR 16 dX12_keeps_13 rfl fX12_40 rfl rfl ?_
  refine v_iload2 17 dX12_keeps_16 rfl ?_
  refine v_iald 18 dX12_keeps_17 rfl rfl (⟨by omega, by omega⟩) ?_
  refine v_iconst 19 dX12_keeps_18 rfl ⟨by decide +kernel, by decide⟩ ?_
  refine v_icmp_ne 78 22 dX12_keeps_19 rfl rfl (fun h19 => ?_) (fun h19 => ?_)
  · skip
    have hq := hr1.2.2.2.2.2 h19
    have hpa := hp _ hq.1 hq.2.1
    have hpb := hp _ hq.2.2.1 hq.2.2.2
    refine v_aload1 79 dX12_keeps_78 rfl ?_
    refine v_aload0 80 dX12_keeps_79 rfl ?_
    refine v_getR 83 dX12_keeps_80 rfl fX12_43 rfl rfl ?_
    refine v_iload2 84 dX12_keeps_83 rfl ?_
    refine v_iald 85 dX12_keeps_84 rfl rfl (⟨by omega, by omega⟩) ?_
    refine v_iald 86 dX12_keeps_85 rfl hpp (⟨by omega, by omega⟩) ?_
    refine v_istore4 88 dX12_keeps_86 rfl (by decide) ?_
    refine v_aload1 89 dX12_keeps_88 rfl ?_
    refine v_aload0 90 dX12_keeps_89 rfl ?_
    refine v_getR 93 dX12_keeps_90 rfl fX12_46 rfl rfl ?_
    refine v_iload2 94 dX12_keeps_93 rfl ?_
    refine v_iald 95 dX12_keeps_94 rfl rfl (⟨by omega, by omega⟩) ?_
    refine v_iald 96 dX12_keeps_95 rfl hpp (⟨by omega, by omega⟩) ?_
    refine v_istore5 98 dX12_keeps_96 rfl (by decide) ?_
    refine v_iload4 100 dX12_keeps_98 rfl ?_
    refine v_iload5 102 dX12_keeps_100 rfl ?_
    refine v_icmp_le 113 105 dX12_keeps_102 rfl rfl (fun h102 => ?_) (fun h102 => ?_)
    · skip
      refine v_iload5 115 dX12_keeps_113 rfl ?_
      refine v_iload4 117 dX12_keeps_115 rfl ?_
      refine v_isub 118 dX12_keeps_117 rfl (⟨by omega, by omega⟩) ?_
      refine v_istore6 120 dX12_keeps_118 rfl (by decide) ?_
      refine v_aload0 121 dX12_keeps_120 rfl ?_
      refine v_getR 124 dX12_keeps_121 rfl fX12_40 rfl rfl ?_
      refine v_iload2 125 dX12_keeps_124 rfl ?_
      refine v_iald 126 dX12_keeps_125 rfl rfl (⟨by omega, by omega⟩) ?_
      rcases (show σ 75 r = 0 ∨ σ 75 r = 1 ∨ σ 75 r = 2 ∨ σ 75 r = 3 ∨ σ 75 r = 4 by omega) with hsw | hsw | hsw | hsw | hsw
      · skip
        refine v_tabIn (off := 30) 156 dX12_keeps_126 (by omega) (by omega) (by rw [hsw]; rfl) rfl ?_
        refine v_iload4 158 dX12_keeps_156 rfl ?_
        refine v_iload5 160 dX12_keeps_158 rfl ?_
        refine v_isub 161 dX12_keeps_160 rfl (⟨by omega, by omega⟩) ?_
        refine v_iload3 162 dX12_keeps_161 rfl ?_
        refine v_icmp_gt 169 165 dX12_keeps_162 rfl rfl (fun h162 => ?_) (fun h162 => ?_)
        · skip
          refine v_iconst 170 dX12_keeps_169 rfl ⟨by decide +kernel, by decide⟩ ?_
          refine v_zretI dX12_keeps_170 rfl (Or.inl rfl) ?_
          exact hf (by simp only [rrk, rk, hsw]; exact decide_eq_false (by omega))
        · skip
          refine v_iconst 166 dX12_keeps_165 rfl ⟨by decide +kernel, by decide⟩ ?_
          refine v_goto 170 dX12_keeps_166 rfl ?_
          refine v_zretI dX12_keeps_170 rfl (Or.inr rfl) ?_
          exact ht (by simp only [rrk, rk, hsw]; exact decide_eq_true (by omega))
      · skip
        refine v_tabIn (off := 45) 171 dX12_keeps_126 (by omega) (by omega) (by rw [hsw]; rfl) rfl ?_
        refine v_iload4 173 dX12_keeps_171 rfl ?_
        refine v_iload5 175 dX12_keeps_173 rfl ?_
        refine v_iadd 176 dX12_keeps_175 rfl (⟨by omega, by omega⟩) ?_
        refine v_iload3 177 dX12_keeps_176 rfl ?_
        refine v_icmp_gt 184 180 dX12_keeps_177 rfl rfl (fun h177 => ?_) (fun h177 => ?_)
        · skip
          refine v_iconst 185 dX12_keeps_184 rfl ⟨by decide +kernel, by decide⟩ ?_
          refine v_zretI dX12_keeps_185 rfl (Or.inl rfl) ?_
          exact hf (by simp only [rrk, rk, hsw]; exact decide_eq_false (by omega))
        · skip
          refine v_iconst 181 dX12_keeps_180 rfl ⟨by decide +kernel, by decide⟩ ?_
          refine v_goto 185 dX12_keeps_181 rfl ?_
          refine v_zretI dX12_keeps_185 rfl (Or.inr rfl) ?_
          exact ht (by simp only [rrk, rk, hsw]; exact decide_eq_true (by omega))
      · skip
        refine v_tabIn (off := 60) 186 dX12_keeps_126 (by omega) (by omega) (by rw [hsw]; rfl) rfl ?_
        refine v_iload4 188 dX12_keeps_186 rfl ?_
        refine v_iload5 190 dX12_keeps_188 rfl ?_
        refine v_iadd 191 dX12_keeps_190 rfl (⟨by omega, by omega⟩) ?_
        refine v_iload3 192 dX12_keeps_191 rfl ?_
        refine v_icmp_lt 199 195 dX12_keeps_192 rfl rfl (fun h192 => ?_) (fun h192 => ?_)
        · skip
          refine v_iconst 200 dX12_keeps_199 rfl ⟨by decide +kernel, by decide⟩ ?_
          refine v_zretI dX12_keeps_200 rfl (Or.inl rfl) ?_
          exact hf (by simp only [rrk, rk, hsw]; exact decide_eq_false (by omega))
        · skip
          refine v_iconst 196 dX12_keeps_195 rfl ⟨by decide +kernel, by decide⟩ ?_
          refine v_goto 200 dX12_keeps_196 rfl ?_
          refine v_zretI dX12_keeps_200 rfl (Or.inr rfl) ?_
          exact ht (by simp only [rrk, rk, hsw]; exact decide_eq_true (by omega))
      · skip
        refine v_tabIn (off := 75) 201 dX12_keeps_126 (by omega) (by omega) (by rw [hsw]; rfl) rfl ?_
        refine v_iload6 203 dX12_keeps_201 rfl ?_
        refine v_iload3 204 dX12_keeps_203 rfl ?_
        refine v_icmp_lt 211 207 dX12_keeps_204 rfl rfl (fun h204 => ?_) (fun h204 => ?_)
        · skip
          refine v_iconst 212 dX12_keeps_211 rfl ⟨by decide +kernel, by decide⟩ ?_
          refine v_zretI dX12_keeps_212 rfl (Or.inl rfl) ?_
          exact hf (by simp only [rrk, rk, hsw]; exact decide_eq_false (by unfold dist; split <;> omega))
        · skip
          refine v_iconst 208 dX12_keeps_207 rfl ⟨by decide +kernel, by decide⟩ ?_
          refine v_goto 212 dX12_keeps_208 rfl ?_
          refine v_zretI dX12_keeps_212 rfl (Or.inr rfl) ?_
          exact ht (by simp only [rrk, rk, hsw]; exact decide_eq_true (by unfold dist; split <;> omega))
      · skip
        refine v_tabOut 213 dX12_keeps_126 (by omega) rfl ?_
        refine v_iload6 215 dX12_keeps_213 rfl ?_
        refine v_iload3 216 dX12_keeps_215 rfl ?_
        refine v_icmp_gt 223 219 dX12_keeps_216 rfl rfl (fun h216 => ?_) (fun h216 => ?_)
        · skip
          refine v_iconst 224 dX12_keeps_223 rfl ⟨by decide +kernel, by decide⟩ ?_
          refine v_zretI dX12_keeps_224 rfl (Or.inl rfl) ?_
          exact hf (by simp only [rrk, rk, hsw]; exact decide_eq_false (by unfold dist; split <;> omega))
        · skip
          refine v_iconst 220 dX12_keeps_219 rfl ⟨by decide +kernel, by decide⟩ ?_
          refine v_goto 224 dX12_keeps_220 rfl ?_
          refine v_zretI dX12_keeps_224 rfl (Or.inr rfl) ?_
          exact ht (by simp only [rrk, rk, hsw]; exact decide_eq_true (by unfold dist; split <;> omega))
    · skip
      refine v_iload4 107 dX12_keeps_105 rfl ?_
      refine v_iload5 109 dX12_keeps_107 rfl ?_
      refine v_isub 110 dX12_keeps_109 rfl (⟨by omega, by omega⟩) ?_
      refine v_goto 118 dX12_keeps_110 rfl ?_
      refine v_istore6 120 dX12_keeps_118 rfl (by decide) ?_
      refine v_aload0 121 dX12_keeps_120 rfl ?_
      refine v_getR 124 dX12_keeps_121 rfl fX12_40 rfl rfl ?_
      refine v_iload2 125 dX12_keeps_124 rfl ?_
      refine v_iald 126 dX12_keeps_125 rfl rfl (⟨by omega, by omega⟩) ?_
      rcases (show σ 75 r = 0 ∨ σ 75 r = 1 ∨ σ 75 r = 2 ∨ σ 75 r = 3 ∨ σ 75 r = 4 by omega) with hsw | hsw | hsw | hsw | hsw
      · skip
        refine v_tabIn (off := 30) 156 dX12_keeps_126 (by omega) (by omega) (by rw [hsw]; rfl) rfl ?_
        refine v_iload4 158 dX12_keeps_156 rfl ?_
        refine v_iload5 160 dX12_keeps_158 rfl ?_
        refine v_isub 161 dX12_keeps_160 rfl (⟨by omega, by omega⟩) ?_
        refine v_iload3 162 dX12_keeps_161 rfl ?_
        refine v_icmp_gt 169 165 dX12_keeps_162 rfl rfl (fun h162 => ?_) (fun h162 => ?_)
        · skip
          refine v_iconst 170 dX12_keeps_169 rfl ⟨by decide +kernel, by decide⟩ ?_
          refine v_zretI dX12_keeps_170 rfl (Or.inl rfl) ?_
          exact hf (by simp only [rrk, rk, hsw]; exact decide_eq_false (by omega))
        · skip
          refine v_iconst 166 dX12_keeps_165 rfl ⟨by decide +kernel, by decide⟩ ?_
          refine v_goto 170 dX12_keeps_166 rfl ?_
          refine v_zretI dX12_keeps_170 rfl (Or.inr rfl) ?_
          exact ht (by simp only [rrk, rk, hsw]; exact decide_eq_true (by omega))
      · skip
        refine v_tabIn (off := 45) 171 dX12_keeps_126 (by omega) (by omega) (by rw [hsw]; rfl) rfl ?_
        refine v_iload4 173 dX12_keeps_171 rfl ?_
        refine v_iload5 175 dX12_keeps_173 rfl ?_
        refine v_iadd 176 dX12_keeps_175 rfl (⟨by omega, by omega⟩) ?_
        refine v_iload3 177 dX12_keeps_176 rfl ?_
        refine v_icmp_gt 184 180 dX12_keeps_177 rfl rfl (fun h177 => ?_) (fun h177 => ?_)
        · skip
          refine v_iconst 185 dX12_keeps_184 rfl ⟨by decide +kernel, by decide⟩ ?_
          refine v_zretI dX12_keeps_185 rfl (Or.inl rfl) ?_
          exact hf (by simp only [rrk, rk, hsw]; exact decide_eq_false (by omega))
        · skip
          refine v_iconst 181 dX12_keeps_180 rfl ⟨by decide +kernel, by decide⟩ ?_
          refine v_goto 185 dX12_keeps_181 rfl ?_
          refine v_zretI dX12_keeps_185 rfl (Or.inr rfl) ?_
          exact ht (by simp only [rrk, rk, hsw]; exact decide_eq_true (by omega))
      · skip
        refine v_tabIn (off := 60) 186 dX12_keeps_126 (by omega) (by omega) (by rw [hsw]; rfl) rfl ?_
        refine v_iload4 188 dX12_keeps_186 rfl ?_
        refine v_iload5 190 dX12_keeps_188 rfl ?_
        refine v_iadd 191 dX12_keeps_190 rfl (⟨by omega, by omega⟩) ?_
        refine v_iload3 192 dX12_keeps_191 rfl ?_
        refine v_icmp_lt 199 195 dX12_keeps_192 rfl rfl (fun h192 => ?_) (fun h192 => ?_)
        · skip
          refine v_iconst 200 dX12_keeps_199 rfl ⟨by decide +kernel, by decide⟩ ?_
          refine v_zretI dX12_keeps_200 rfl (Or.inl rfl) ?_
          exact hf (by simp only [rrk, rk, hsw]; exact decide_eq_false (by omega))
        · skip
          refine v_iconst 196 dX12_keeps_195 rfl ⟨by decide +kernel, by decide⟩ ?_
          refine v_goto 200 dX12_keeps_196 rfl ?_
          refine v_zretI dX12_keeps_200 rfl (Or.inr rfl) ?_
          exact ht (by simp only [rrk, rk, hsw]; exact decide_eq_true (by omega))
      · skip
        refine v_tabIn (off := 75) 201 dX12_keeps_126 (by omega) (by omega) (by rw [hsw]; rfl) rfl ?_
        refine v_iload6 203 dX12_keeps_201 rfl ?_
        refine v_iload3 204 dX12_keeps_203 rfl ?_
        refine v_icmp_lt 211 207 dX12_keeps_204 rfl rfl (fun h204 => ?_) (fun h204 => ?_)
        · skip
          refine v_iconst 212 dX12_keeps_211 rfl ⟨by decide +kernel, by decide⟩ ?_
          refine v_zretI dX12_keeps_212 rfl (Or.inl rfl) ?_
          exact hf (by simp only [rrk, rk, hsw]; exact decide_eq_false (by unfold dist; split <;> omega))
        · skip
          refine v_iconst 208 dX12_keeps_207 rfl ⟨by decide +kernel, by decide⟩ ?_
          refine v_goto 212 dX12_keeps_208 rfl ?_
          refine v_zretI dX12_keeps_212 rfl (Or.inr rfl) ?_
          exact ht (by simp only [rrk, rk, hsw]; exact decide_eq_true (by unfold dist; split <;> omega))
      · skip
        refine v_tabOut 213 dX12_keeps_126 (by omega) rfl ?_
        refine v_iload6 215 dX12_keeps_213 rfl ?_
        refine v_iload3 216 dX12_keeps_215 rfl ?_
        refine v_icmp_gt 223 219 dX12_keeps_216 rfl rfl (fun h216 => ?_) (fun h216 => ?_)
        · skip
          refine v_iconst 224 dX12_keeps_223 rfl ⟨by decide +kernel, by decide⟩ ?_
          refine v_zretI dX12_keeps_224 rfl (Or.inl rfl) ?_
          exact hf (by simp only [rrk, rk, hsw]; exact decide_eq_false (by unfold dist; split <;> omega))
        · skip
          refine v_iconst 220 dX12_keeps_219 rfl ⟨by decide +kernel, by decide⟩ ?_
          refine v_goto 224 dX12_keeps_220 rfl ?_
          refine v_zretI dX12_keeps_224 rfl (Or.inr rfl) ?_
          exact ht (by simp only [rrk, rk, hsw]; exact decide_eq_true (by unfold dist; split <;> omega))
  · skip
    have h19 : σ 75 r = 5 := by omega
    have L : ∀ (k : Nat) (i : Nat) (acc : Int), n - i < k → i ≤ n → acc = sumI (fun d => one (decide (σ pp d = σ 77 r))) i → V mX12_keeps d (RI K) 28 [.inr (some 64), .inr (some pp), .inl r, .inl (σ 74 (σ 78 r)), .inl acc, .inl (i : Int), .inr none] [] σ := by
      intro k
      induction k with
      | zero => intros; omega
      | succ k ih =>
          intro i acc hk hi ha
          have hb1 := sumI_bnd (f := fun d => one (decide (σ pp d = σ 77 r))) (m := 1) (n := i) (fun _ _ => one_bnd _)
          refine v_iload5 30 dX12_keeps_28 rfl ?_
          refine v_aload0 31 dX12_keeps_30 rfl ?_
          refine v_getI 34 0 dX12_keeps_31 rfl fX12_93 rfl rfl rfl ?_
          refine v_icmp_ge 66 37 dX12_keeps_34 rfl rfl (fun h34 => ?_) (fun h34 => ?_)
          · skip
            obtain rfl : i = n := by omega
            refine v_iload4 68 dX12_keeps_66 rfl ?_
            refine v_iload3 69 dX12_keeps_68 rfl ?_
            refine v_icmp_gt 76 72 dX12_keeps_69 rfl rfl (fun h69 => ?_) (fun h69 => ?_)
            · skip
              refine v_iconst 77 dX12_keeps_76 rfl ⟨by decide +kernel, by decide⟩ ?_
              refine v_zretI dX12_keeps_77 rfl (Or.inl rfl) ?_
              exact hf (by rw [rrk, rk, if_pos h19, ← ha]; exact decide_eq_false (by omega))
            · skip
              refine v_iconst 73 dX12_keeps_72 rfl ⟨by decide +kernel, by decide⟩ ?_
              refine v_goto 77 dX12_keeps_73 rfl ?_
              refine v_zretI dX12_keeps_77 rfl (Or.inr rfl) ?_
              exact ht (by rw [rrk, rk, if_pos h19, ← ha]; exact decide_eq_true (by omega))
          · skip
            refine v_iload4 39 dX12_keeps_37 rfl ?_
            refine v_aload1 40 dX12_keeps_39 rfl ?_
            refine v_iload5 42 dX12_keeps_40 rfl ?_
            refine v_iald 43 dX12_keeps_42 rfl hpp (⟨by omega, by omega⟩) ?_
            refine v_aload0 44 dX12_keeps_43 rfl ?_
            refine v_getR 47 dX12_keeps_44 rfl fX12_46 rfl rfl ?_
            refine v_iload2 48 dX12_keeps_47 rfl ?_
            refine v_iald 49 dX12_keeps_48 rfl rfl (⟨by omega, by omega⟩) ?_
            refine v_icmp_ne 56 52 dX12_keeps_49 rfl rfl (fun h49 => ?_) (fun h49 => ?_)
            · skip
              refine v_iconst 57 dX12_keeps_56 rfl ⟨by decide +kernel, by decide⟩ ?_
              refine v_iadd 58 dX12_keeps_57 rfl (⟨by omega, by omega⟩) ?_
              refine v_istore4 60 dX12_keeps_58 rfl (by decide) ?_
              refine v_iinc5 63 dX12_keeps_60 rfl (by decide) rfl (⟨by omega, by omega⟩) ?_
              refine v_goto 28 dX12_keeps_63 rfl ?_
              exact ih (i + 1) _ (by omega) (by omega) (sum_s ha (by first | exact one_dt (by omega) | exact one_df (by omega)))
            · skip
              refine v_iconst 53 dX12_keeps_52 rfl ⟨by decide +kernel, by decide⟩ ?_
              refine v_goto 57 dX12_keeps_53 rfl ?_
              refine v_iadd 58 dX12_keeps_57 rfl (⟨by omega, by omega⟩) ?_
              refine v_istore4 60 dX12_keeps_58 rfl (by decide) ?_
              refine v_iinc5 63 dX12_keeps_60 rfl (by decide) rfl (⟨by omega, by omega⟩) ?_
              refine v_goto 28 dX12_keeps_63 rfl ?_
              exact ih (i + 1) _ (by omega) (by omega) (sum_s ha (by first | exact one_dt (by omega) | exact one_df (by omega)))
    refine v_iconst 23 dX12_keeps_22 rfl ⟨by decide +kernel, by decide⟩ ?_
    refine v_istore4 25 dX12_keeps_23 rfl (by decide) ?_
    refine v_iconst 26 dX12_keeps_25 rfl ⟨by decide +kernel, by decide⟩ ?_
    refine v_istore5 28 dX12_keeps_26 rfl (by decide) ?_
    exact L (n + 1) 0 _ (by omega) (by omega) rfl
set_option maxRecDepth 100000 in
set_option maxHeartbeats 4000000 in
theorem X12_brokenOf {d : Nat} {pp n R F : Nat} {σ : Mem} {K : Int → Mem → Prop} (hw : RW σ n R F) (hpp : shapes[pp]? = some (0, 6, [])) (hp : RP σ pp n) (hd : 1 ≤ d) (hk0 : K (rbrk σ (σ pp) n R : Int) σ) : Run mX12_brokenOf d [.inr (some 64), .inr (some pp)] σ (RI K) := by
  have hw0 := hw
  obtain ⟨⟨hn, hn6, hR, hR12, hF, hF6⟩, hru, hde, hwo, hli, hba, hwf⟩ := hw0
  refine Run_of (ls := [.inr (some 64), .inr (some pp), .inr none, .inr none]) (by decide) (Nat.le_of_ble_eq_true rfl) rfl ?_
  have L : ∀ (k : Nat) (i acc : Nat), R - i < k → i ≤ R → acc = bitsN (fun r => !rrk σ (σ pp) n (r : Int)) i → V mX12_brokenOf d (RI K) 4 [.inr (some 64), .inr (some pp), .inl (acc : Int), .inl (i : Int)] [] σ := by
    intro k
    induction k with
    | zero => intros; omega
    | succ k ih =>
        intro i acc hk hi ha
        have hb1 : acc < 2 ^ i := by rw [ha]; exact bitsN_lt _ _
        have hb2 : 2 ^ i ≤ 2 ^ 12 := Nat.pow_le_pow_right (by omega) (by omega)
        have hb3 : (2 : Nat) ^ 12 = 4096 := by decide
        refine v_iload3 5 dX12_brokenOf_4 rfl ?_
        refine v_aload0 6 dX12_brokenOf_5 rfl ?_
        refine v_getI 9 12 dX12_brokenOf_6 rfl fX12_114 rfl rfl rfl ?_
        refine v_icmp_ge 37 12 dX12_brokenOf_9 rfl rfl (fun h9 => ?_) (fun h9 => ?_)
        · skip
          refine v_iload2 38 dX12_brokenOf_37 rfl ?_
          refine v_iretI dX12_brokenOf_38 rfl ?_
          obtain rfl : i = R := by omega
          rw [ha]
          exact hk0
        · skip
          refine v_iload2 13 dX12_brokenOf_12 rfl ?_
          refine v_aload0 14 dX12_brokenOf_13 rfl ?_
          refine v_aload1 15 dX12_brokenOf_14 rfl ?_
          refine v_iload3 16 dX12_brokenOf_15 rfl ?_
          refine v_cvI2 mX12_keeps 19 dX12_brokenOf_16 rfl kX12_120 rfl rfl (by omega) (Nat.le_of_ble_eq_true rfl) ?_
          refine X12_keeps hw hpp hp (by omega) (fun h16 => ?_) (fun h16 => ?_)
          · skip
            refine v_if_eq 26 22 dX12_brokenOf_19 rfl rfl (fun h => absurd h (by decide)) (fun _ => ?_)
            refine v_iconst 23 dX12_brokenOf_22 rfl ⟨by decide +kernel, by decide⟩ ?_
            refine v_goto 29 dX12_brokenOf_23 rfl ?_
            first | rw [bshl_one (by omega : i < 31), bor_pow hb1 (by omega)] | skip
            refine v_ior 30 dX12_brokenOf_29 rfl ?_
            refine v_istore2 31 dX12_brokenOf_30 rfl (by decide) ?_
            refine v_iinc3 34 dX12_brokenOf_31 rfl (by decide) rfl (⟨by omega, by omega⟩) ?_
            refine v_goto 4 dX12_brokenOf_34 rfl ?_
            have e9 : ((i : Int) + 1) = ((i + 1 : Nat) : Int) := by omega
            first | rw [bor_zero (by omega : acc < 2 ^ 31)] | rw [bshl_one (by omega : i < 31), bor_pow hb1 (by omega)]
            exact ih (i + 1) _ (by omega) (by omega) (by simp only [bitsN, h16, ← ha, Bool.not_true, Bool.not_false, if_true, if_false, Bool.false_eq_true, reduceIte, Nat.add_zero])
          · skip
            refine v_if_eq 26 22 dX12_brokenOf_19 rfl rfl (fun _ => ?_) (fun h => absurd (by decide) h)
            refine v_iconst 27 dX12_brokenOf_26 rfl ⟨by decide +kernel, by decide⟩ ?_
            refine v_iload3 28 dX12_brokenOf_27 rfl ?_
            refine v_ishl 29 dX12_brokenOf_28 rfl ?_
            first | rw [bshl_one (by omega : i < 31), bor_pow hb1 (by omega)] | skip
            refine v_ior 30 dX12_brokenOf_29 rfl ?_
            refine v_istore2 31 dX12_brokenOf_30 rfl (by decide) ?_
            refine v_iinc3 34 dX12_brokenOf_31 rfl (by decide) rfl (⟨by omega, by omega⟩) ?_
            refine v_goto 4 dX12_brokenOf_34 rfl ?_
            have e9 : ((i : Int) + 1) = ((i + 1 : Nat) : Int) := by omega
            first | rw [bor_zero (by omega : acc < 2 ^ 31)] | rw [bshl_one (by omega : i < 31), bor_pow hb1 (by omega)]
            exact ih (i + 1) _ (by omega) (by omega) (by simp only [bitsN, h16, ← ha, Bool.not_true, Bool.not_false, if_true, if_false, Bool.false_eq_true, reduceIte, Nat.add_zero])
  refine v_iconst 1 dX12_brokenOf_0 rfl ⟨by decide +kernel, by decide⟩ ?_
  refine v_istore2 2 dX12_brokenOf_1 rfl (by decide) ?_
  refine v_iconst 3 dX12_brokenOf_2 rfl ⟨by decide +kernel, by decide⟩ ?_
  refine v_istore3 4 dX12_brokenOf_3 rfl (by decide) ?_
  exact L (R + 1) 0 0 (by omega) (by omega) rfl
set_option maxRecDepth 100000 in
set_option maxHeartbeats 4000000 in
theorem X12_isMoved {d : Nat} {pp n R F : Nat} {k : Int} {σ : Mem} {K : Int → Mem → Prop} (hw : RW σ n R F) (hpp : shapes[pp]? = some (0, 6, [])) (hp : RP σ pp n) (hk : 0 ≤ k ∧ k < n) (ht : mv (σ 64 21) (rbv σ) (σ pp) k = true → K 1 σ) (hf : mv (σ 64 21) (rbv σ) (σ pp) k = false → K 0 σ) : Run mX12_isMoved d [.inr (some 64), .inr (some pp), .inl k] σ (RI K) := by
  have hw0 := hw
  obtain ⟨⟨hn, hn6, hR, hR12, hF, hF6⟩, hru, hde, hwo, hli, hba, hwf⟩ := hw0
  refine Run_of (ls := [.inr (some 64), .inr (some pp), .inl k]) (by decide) (Nat.le_of_ble_eq_true rfl) rfl ?_
  refine v_aload0 1 dX12_isMoved_0 rfl ?_
  refine v_getI 4 21 dX12_isMoved_1 rfl fX12_58 rfl rfl rfl ?_
  refine v_bipush 6 dX12_isMoved_4 rfl ⟨by decide +kernel, by decide⟩ ?_
  refine v_icmp_eq 33 9 dX12_isMoved_6 rfl rfl (fun h6 => ?_) (fun h6 => ?_)
  · skip
    refine v_iconst 34 dX12_isMoved_33 rfl ⟨by decide +kernel, by decide⟩ ?_
    refine v_zretI dX12_isMoved_34 rfl (Or.inl rfl) ?_
    exact hf (by unfold mv rbv; exact decide_eq_false (fun q => by omega))
  · skip
    refine v_aload1 10 dX12_isMoved_9 rfl ?_
    refine v_iload2 11 dX12_isMoved_10 rfl ?_
    refine v_iald 12 dX12_isMoved_11 rfl hpp (⟨by omega, by omega⟩) ?_
    refine v_aload0 13 dX12_isMoved_12 rfl ?_
    refine v_getR 16 dX12_isMoved_13 rfl fX12_52 rfl rfl ?_
    refine v_bipush 18 dX12_isMoved_16 rfl ⟨by decide +kernel, by decide⟩ ?_
    refine v_aload0 19 dX12_isMoved_18 rfl ?_
    refine v_getI 22 21 dX12_isMoved_19 rfl fX12_58 rfl rfl rfl ?_
    refine v_imul 23 dX12_isMoved_22 rfl (⟨by omega, by omega⟩) ?_
    refine v_iload2 24 dX12_isMoved_23 rfl ?_
    refine v_iadd 25 dX12_isMoved_24 rfl (⟨by omega, by omega⟩) ?_
    refine v_iald 26 dX12_isMoved_25 rfl rfl (⟨by omega, by omega⟩) ?_
    refine v_icmp_eq 33 29 dX12_isMoved_26 rfl rfl (fun h26 => ?_) (fun h26 => ?_)
    · skip
      refine v_iconst 34 dX12_isMoved_33 rfl ⟨by decide +kernel, by decide⟩ ?_
      refine v_zretI dX12_isMoved_34 rfl (Or.inl rfl) ?_
      exact hf (by unfold mv rbv; exact decide_eq_false (fun q => by omega))
    · skip
      refine v_iconst 30 dX12_isMoved_29 rfl ⟨by decide +kernel, by decide⟩ ?_
      refine v_goto 34 dX12_isMoved_30 rfl ?_
      refine v_zretI dX12_isMoved_34 rfl (Or.inr rfl) ?_
      exact ht (by unfold mv rbv; exact decide_eq_true ⟨by omega, by omega⟩)
set_option maxRecDepth 100000 in
set_option maxHeartbeats 4000000 in
theorem X12_costOf {d : Nat} {pp n R F : Nat} {σ : Mem} {K : Int → Mem → Prop} (hw : RW σ n R F) (hpp : shapes[pp]? = some (0, 6, [])) (hp : RP σ pp n) (hd : 1 ≤ d) (hk0 : K (sumI (cst (σ 64 21) (rbv σ) (σ 68) (σ 69) (σ pp)) n) σ) : Run mX12_costOf d [.inr (some 64), .inr (some pp)] σ (RI K) := by
  have hw0 := hw
  obtain ⟨⟨hn, hn6, hR, hR12, hF, hF6⟩, hru, hde, hwo, hli, hba, hwf⟩ := hw0
  have hcb : ∀ k : Nat, k < n → 0 ≤ cst (σ 64 21) (rbv σ) (σ 68) (σ 69) (σ pp) (k : Int) ∧ cst (σ 64 21) (rbv σ) (σ 68) (σ 69) (σ pp) (k : Int) ≤ 200 := fun k hk => by
    unfold cst
    split
    · rename_i h
      have hmv : σ 64 21 ≠ -5 ∧ σ pp (k : Int) ≠ rbv σ (k : Int) := of_decide_eq_true h
      have hb0 := hba.resolve_left hmv.1
      have hb2 : 0 ≤ rbv σ (k : Int) ∧ rbv σ (k : Int) ≤ 5 := hb0.2.2 (k : Int) (by omega) (by omega)
      have hd1 := hde (k : Int) (by omega) (by omega)
      have hdb := dist_bnd (hp (k : Int) (by omega) (by omega)) hb2
      have hmb := mul_bnd (a := σ 69 (k : Int)) (A := 20) ⟨hd1.2.2.2.2.2.2.2.1, hd1.2.2.2.2.2.2.2.2.1⟩ hdb
      omega
    · omega
  refine Run_of (ls := [.inr (some 64), .inr (some pp), .inr none, .inr none, .inr none]) (by decide) (Nat.le_of_ble_eq_true rfl) rfl ?_
  have L : ∀ (k : Nat) (i : Nat) (acc : Int) (z : AV), n - i < k → i ≤ n → acc = sumI (cst (σ 64 21) (rbv σ) (σ 68) (σ 69) (σ pp)) i → V mX12_costOf d (RI K) 4 [.inr (some 64), .inr (some pp), .inl acc, .inl (i : Int), z] [] σ := by
    intro k
    induction k with
    | zero => intros; omega
    | succ k ih =>
        intro i acc z hk hi ha
        refine v_iload3 5 dX12_costOf_4 rfl ?_
        refine v_aload0 6 dX12_costOf_5 rfl ?_
        refine v_getI 9 0 dX12_costOf_6 rfl fX12_93 rfl rfl rfl ?_
        refine v_icmp_ge 77 12 dX12_costOf_9 rfl rfl (fun h9 => ?_) (fun h9 => ?_)
        · skip
          refine v_iload2 78 dX12_costOf_77 rfl ?_
          refine v_iretI dX12_costOf_78 rfl ?_
          obtain rfl : i = n := by omega
          rw [ha]
          exact hk0
        · skip
          have hb1 := sumI_bnd (f := cst (σ 64 21) (rbv σ) (σ 68) (σ 69) (σ pp)) (m := 200) (n := i) (fun k hk => hcb k (by omega))
          have hd1 := hde (i : Int) (by omega) (by omega)
          have hp1 := hp (i : Int) (by omega) (by omega)
          refine v_aload0 13 dX12_costOf_12 rfl ?_
          refine v_aload1 14 dX12_costOf_13 rfl ?_
          refine v_iload3 15 dX12_costOf_14 rfl ?_
          refine v_cvI2 mX12_isMoved 18 dX12_costOf_15 rfl kX12_124 rfl rfl (by omega) (Nat.le_of_ble_eq_true rfl) ?_
          refine X12_isMoved hw hpp hp (by omega) (fun h15 => ?_) (fun h15 => ?_)
          · skip
            refine v_if_eq 71 21 dX12_costOf_18 rfl rfl (fun h => absurd h (by decide)) (fun _ => ?_)
            have hmv : σ 64 21 ≠ -5 ∧ σ pp (i : Int) ≠ rbv σ (i : Int) := of_decide_eq_true h15
            have hb0 := hba.resolve_left hmv.1
            have hb2 : 0 ≤ rbv σ (i : Int) ∧ rbv σ (i : Int) ≤ 5 := hb0.2.2 (i : Int) (by omega) (by omega)
            have hb3 := hb0.2.2 (i : Int) (by omega) (by omega)
            refine v_aload1 22 dX12_costOf_21 rfl ?_
            refine v_iload3 23 dX12_costOf_22 rfl ?_
            refine v_iald 24 dX12_costOf_23 rfl hpp (⟨by omega, by omega⟩) ?_
            refine v_aload0 25 dX12_costOf_24 rfl ?_
            refine v_getR 28 dX12_costOf_25 rfl fX12_52 rfl rfl ?_
            refine v_bipush 30 dX12_costOf_28 rfl ⟨by decide +kernel, by decide⟩ ?_
            refine v_aload0 31 dX12_costOf_30 rfl ?_
            refine v_getI 34 21 dX12_costOf_31 rfl fX12_58 rfl rfl rfl ?_
            refine v_imul 35 dX12_costOf_34 rfl (⟨by omega, by omega⟩) ?_
            refine v_iload3 36 dX12_costOf_35 rfl ?_
            refine v_iadd 37 dX12_costOf_36 rfl (⟨by omega, by omega⟩) ?_
            refine v_iald 38 dX12_costOf_37 rfl rfl (⟨by omega, by omega⟩) ?_
            refine v_isub 39 dX12_costOf_38 rfl (⟨by omega, by omega⟩) ?_
            refine v_istore4 41 dX12_costOf_39 rfl (by decide) ?_
            refine v_iload2 42 dX12_costOf_41 rfl ?_
            refine v_aload0 43 dX12_costOf_42 rfl ?_
            refine v_getR 46 dX12_costOf_43 rfl fX12_19 rfl rfl ?_
            refine v_iload3 47 dX12_costOf_46 rfl ?_
            refine v_iald 48 dX12_costOf_47 rfl rfl (⟨by omega, by omega⟩) ?_
            refine v_aload0 49 dX12_costOf_48 rfl ?_
            refine v_getR 52 dX12_costOf_49 rfl fX12_22 rfl rfl ?_
            refine v_iload3 53 dX12_costOf_52 rfl ?_
            refine v_iald 54 dX12_costOf_53 rfl rfl (⟨by omega, by omega⟩) ?_
            refine v_iload4 56 dX12_costOf_54 rfl ?_
            refine v_if_ge 65 59 dX12_costOf_56 rfl rfl (fun h56 => ?_) (fun h56 => ?_)
            · skip
              have hfar : σ pp (i : Int) - σ 79 (6 * σ 64 21 + (i : Int)) = dist (σ pp (i : Int)) (rbv σ (i : Int)) := by unfold dist rbv; split <;> omega
              have hdb := dist_bnd hp1 hb2
              have hmb := mul_bnd (a := σ 69 (i : Int)) (A := 20) ⟨hd1.2.2.2.2.2.2.2.1, hd1.2.2.2.2.2.2.2.2.1⟩ hdb
              refine v_iload4 67 dX12_costOf_65 rfl ?_
              first | rw [hfar] | rw [hfar2]
              refine v_imul 68 dX12_costOf_67 rfl (⟨by omega, by omega⟩) ?_
              refine v_iadd 69 dX12_costOf_68 rfl (⟨by omega, by omega⟩) ?_
              refine v_iadd 70 dX12_costOf_69 rfl (⟨by omega, by omega⟩) ?_
              refine v_istore2 71 dX12_costOf_70 rfl (by decide) ?_
              refine v_iinc3 74 dX12_costOf_71 rfl (by decide) rfl (⟨by omega, by omega⟩) ?_
              refine v_goto 4 dX12_costOf_74 rfl ?_
              exact ih (i + 1) _ _ (by omega) (by omega) (by first | exact sum_s ha (by unfold cst; rw [if_pos h15]) | (rw [sumI, ← ha, cst, h15]; simp))
            · skip
              have hfar2 : -(σ pp (i : Int) - σ 79 (6 * σ 64 21 + (i : Int))) = dist (σ pp (i : Int)) (rbv σ (i : Int)) := by unfold dist rbv; split <;> omega
              have hdb := dist_bnd hp1 hb2
              have hmb := mul_bnd (a := σ 69 (i : Int)) (A := 20) ⟨hd1.2.2.2.2.2.2.2.1, hd1.2.2.2.2.2.2.2.2.1⟩ hdb
              refine v_iload4 61 dX12_costOf_59 rfl ?_
              refine v_ineg 62 dX12_costOf_61 rfl (⟨by omega, by omega⟩) ?_
              refine v_goto 67 dX12_costOf_62 rfl ?_
              first | rw [hfar] | rw [hfar2]
              refine v_imul 68 dX12_costOf_67 rfl (⟨by omega, by omega⟩) ?_
              refine v_iadd 69 dX12_costOf_68 rfl (⟨by omega, by omega⟩) ?_
              refine v_iadd 70 dX12_costOf_69 rfl (⟨by omega, by omega⟩) ?_
              refine v_istore2 71 dX12_costOf_70 rfl (by decide) ?_
              refine v_iinc3 74 dX12_costOf_71 rfl (by decide) rfl (⟨by omega, by omega⟩) ?_
              refine v_goto 4 dX12_costOf_74 rfl ?_
              exact ih (i + 1) _ _ (by omega) (by omega) (by first | exact sum_s ha (by unfold cst; rw [if_pos h15]) | (rw [sumI, ← ha, cst, h15]; simp))
          · skip
            refine v_if_eq 71 21 dX12_costOf_18 rfl rfl (fun _ => ?_) (fun h => absurd (by decide) h)
            refine v_iinc3 74 dX12_costOf_71 rfl (by decide) rfl (⟨by omega, by omega⟩) ?_
            refine v_goto 4 dX12_costOf_74 rfl ?_
            exact ih (i + 1) _ _ (by omega) (by omega) (by first | exact sum_s ha (by unfold cst; rw [if_pos h15]) | (rw [sumI, ← ha, cst, h15]; simp))
  refine v_iconst 1 dX12_costOf_0 rfl ⟨by decide +kernel, by decide⟩ ?_
  refine v_istore2 2 dX12_costOf_1 rfl (by decide) ?_
  refine v_iconst 3 dX12_costOf_2 rfl ⟨by decide +kernel, by decide⟩ ?_
  refine v_istore3 4 dX12_costOf_3 rfl (by decide) ?_
  exact L (n + 1) 0 _ _ (by omega) (by omega) rfl
set_option maxRecDepth 100000 in
set_option maxHeartbeats 4000000 in
theorem X12_worthOf {d : Nat} {pp n R F : Nat} {σ : Mem} {K : Int → Mem → Prop} (hw : RW σ n R F) (hpp : shapes[pp]? = some (0, 6, [])) (hp : RP σ pp n) (hk0 : K (sumI (fun d => σ 71 (6 * d + σ pp d)) n) σ) : Run mX12_worthOf d [.inr (some 64), .inr (some pp)] σ (RI K) := by
  have hw0 := hw
  obtain ⟨⟨hn, hn6, hR, hR12, hF, hF6⟩, hru, hde, hwo, hli, hba, hwf⟩ := hw0
  refine Run_of (ls := [.inr (some 64), .inr (some pp), .inr none, .inr none]) (by decide) (Nat.le_of_ble_eq_true rfl) rfl ?_
  have L : ∀ (k : Nat) (i : Nat) (acc : Int), n - i < k → i ≤ n → acc = sumI (fun d => σ 71 (6 * d + σ pp d)) i → V mX12_worthOf d (RI K) 4 [.inr (some 64), .inr (some pp), .inl acc, .inl (i : Int)] [] σ := by
    intro k
    induction k with
    | zero => intros; omega
    | succ k ih =>
        intro i acc hk hi ha
        refine v_iload3 5 dX12_worthOf_4 rfl ?_
        refine v_aload0 6 dX12_worthOf_5 rfl ?_
        refine v_getI 9 0 dX12_worthOf_6 rfl fX12_93 rfl rfl rfl ?_
        refine v_icmp_ge 34 12 dX12_worthOf_9 rfl rfl (fun h9 => ?_) (fun h9 => ?_)
        · skip
          refine v_iload2 35 dX12_worthOf_34 rfl ?_
          refine v_iretI dX12_worthOf_35 rfl ?_
          obtain rfl : i = n := by omega
          rw [ha]
          exact hk0
        · skip
          have hb1 := sumI_bnd (f := fun d => σ 71 (6 * d + σ pp d)) (m := 100) (n := i) (fun k hk => hwo _ (by have := hp (k : Int) (by omega) (by omega); omega) (by have := hp (k : Int) (by omega) (by omega); omega))
          have hp1 := hp (i : Int) (by omega) (by omega)
          have hw1 := hwo (6 * (i : Int) + σ pp (i : Int)) (by omega) (by omega)
          refine v_iload2 13 dX12_worthOf_12 rfl ?_
          refine v_aload0 14 dX12_worthOf_13 rfl ?_
          refine v_getR 17 dX12_worthOf_14 rfl fX12_28 rfl rfl ?_
          refine v_bipush 19 dX12_worthOf_17 rfl ⟨by decide +kernel, by decide⟩ ?_
          refine v_iload3 20 dX12_worthOf_19 rfl ?_
          refine v_imul 21 dX12_worthOf_20 rfl (⟨by omega, by omega⟩) ?_
          refine v_aload1 22 dX12_worthOf_21 rfl ?_
          refine v_iload3 23 dX12_worthOf_22 rfl ?_
          refine v_iald 24 dX12_worthOf_23 rfl hpp (⟨by omega, by omega⟩) ?_
          refine v_iadd 25 dX12_worthOf_24 rfl (⟨by omega, by omega⟩) ?_
          refine v_iald 26 dX12_worthOf_25 rfl rfl (⟨by omega, by omega⟩) ?_
          refine v_iadd 27 dX12_worthOf_26 rfl (⟨by omega, by omega⟩) ?_
          refine v_istore2 28 dX12_worthOf_27 rfl (by decide) ?_
          refine v_iinc3 31 dX12_worthOf_28 rfl (by decide) rfl (⟨by omega, by omega⟩) ?_
          refine v_goto 4 dX12_worthOf_31 rfl ?_
          exact ih (i + 1) _ (by omega) (by omega) (sum_s ha rfl)
  refine v_iconst 1 dX12_worthOf_0 rfl ⟨by decide +kernel, by decide⟩ ?_
  refine v_istore2 2 dX12_worthOf_1 rfl (by decide) ?_
  refine v_iconst 3 dX12_worthOf_2 rfl ⟨by decide +kernel, by decide⟩ ?_
  refine v_istore3 4 dX12_worthOf_3 rfl (by decide) ?_
  exact L (n + 1) 0 _ (by omega) (by omega) rfl
set_option maxRecDepth 100000 in
set_option maxHeartbeats 4000000 in
theorem X12_isAllowed {d : Nat} {pp n R F : Nat} {σ : Mem} {K : Int → Mem → Prop} (hw : RW σ n R F) (hpp : shapes[pp]? = some (0, 6, [])) (hp : RP σ pp n) (hd : 2 ≤ d) (ht : rAlw σ (σ pp) n → K 1 σ) (hf : ¬ rAlw σ (σ pp) n → K 0 σ) : Run mX12_isAllowed d [.inr (some 64), .inr (some pp)] σ (RI K) := by
  have hw0 := hw
  obtain ⟨⟨hn, hn6, hR, hR12, hF, hF6⟩, hru, hde, hwo, hli, hba, hwf⟩ := hw0
  refine Run_of (ls := [.inr (some 64), .inr (some pp), .inr none, .inr none, .inr none]) (by decide) (Nat.le_of_ble_eq_true rfl) rfl ?_
  have L3 : ∀ (k : Nat) (i : Nat) (y z : AV), n - i < k → i ≤ n → (∀ w2 : Int, 0 ≤ w2 → w2 < 4 → sumI (fun d => one (decide (σ 67 d = w2) && mv (σ 64 21) (rbv σ) (σ pp) d)) n ≤ σ 73 w2) → (∀ d : Int, 0 ≤ d → d < i → σ 65 d ≤ σ pp d ∧ σ pp d ≤ σ 66 d ∧ (σ 70 d = -5 ∨ σ 70 d = σ pp d)) → V mX12_isAllowed d (RI K) 76 [.inr (some 64), .inr (some pp), .inl (i : Int), y, z] [] σ := by
    intro k
    induction k with
    | zero => intros; omega
    | succ k ih =>
        intro i y z hk hi hA1 hA2
        refine v_iload2 77 dX12_isAllowed_76 rfl ?_
        refine v_aload0 78 dX12_isAllowed_77 rfl ?_
        refine v_getI 81 0 dX12_isAllowed_78 rfl fX12_93 rfl rfl rfl ?_
        refine v_icmp_ge 126 84 dX12_isAllowed_81 rfl rfl (fun h81 => ?_) (fun h81 => ?_)
        · skip
          refine v_iconst 127 dX12_isAllowed_126 rfl ⟨by decide +kernel, by decide⟩ ?_
          refine v_zretI dX12_isAllowed_127 rfl (Or.inr rfl) ?_
          exact ht ⟨hA1, fun d a b => hA2 d a (by omega)⟩
        · skip
          refine v_aload0 85 dX12_isAllowed_84 rfl ?_
          refine v_iload2 86 dX12_isAllowed_85 rfl ?_
          refine v_aload1 87 dX12_isAllowed_86 rfl ?_
          refine v_iload2 88 dX12_isAllowed_87 rfl ?_
          refine v_iald 89 dX12_isAllowed_88 rfl hpp (⟨by omega, by omega⟩) ?_
          refine v_cvI2 mX12_mayHave 92 dX12_isAllowed_89 rfl kX12_107 rfl rfl (by omega) (Nat.le_of_ble_eq_true rfl) ?_
          refine X12_mayHave (by omega) (by omega) (fun h89 => ?_) (fun h89 => ?_)
          · skip
            refine v_if_eq 118 95 dX12_isAllowed_92 rfl rfl (fun h => absurd h (by decide)) (fun _ => ?_)
            refine v_aload0 96 dX12_isAllowed_95 rfl ?_
            refine v_getR 99 dX12_isAllowed_96 rfl fX12_25 rfl rfl ?_
            refine v_iload2 100 dX12_isAllowed_99 rfl ?_
            refine v_iald 101 dX12_isAllowed_100 rfl rfl (⟨by omega, by omega⟩) ?_
            refine v_bipush 103 dX12_isAllowed_101 rfl ⟨by decide +kernel, by decide⟩ ?_
            refine v_icmp_eq 120 106 dX12_isAllowed_103 rfl rfl (fun h103 => ?_) (fun h103 => ?_)
            · skip
              refine v_iinc2 123 dX12_isAllowed_120 rfl (by decide) rfl (⟨by omega, by omega⟩) ?_
              refine v_goto 76 dX12_isAllowed_123 rfl ?_
              exact ih (i + 1) _ _ (by omega) (by omega) hA1 (fun d a b => by
                by_cases e : d = (i : Int)
                · subst e; exact ⟨by omega, by omega, by omega⟩
                · exact hA2 d a (by omega))
            · skip
              refine v_aload0 107 dX12_isAllowed_106 rfl ?_
              refine v_getR 110 dX12_isAllowed_107 rfl fX12_25 rfl rfl ?_
              refine v_iload2 111 dX12_isAllowed_110 rfl ?_
              refine v_iald 112 dX12_isAllowed_111 rfl rfl (⟨by omega, by omega⟩) ?_
              refine v_aload1 113 dX12_isAllowed_112 rfl ?_
              refine v_iload2 114 dX12_isAllowed_113 rfl ?_
              refine v_iald 115 dX12_isAllowed_114 rfl hpp (⟨by omega, by omega⟩) ?_
              refine v_icmp_eq 120 118 dX12_isAllowed_115 rfl rfl (fun h115 => ?_) (fun h115 => ?_)
              · skip
                refine v_iinc2 123 dX12_isAllowed_120 rfl (by decide) rfl (⟨by omega, by omega⟩) ?_
                refine v_goto 76 dX12_isAllowed_123 rfl ?_
                exact ih (i + 1) _ _ (by omega) (by omega) hA1 (fun d a b => by
                  by_cases e : d = (i : Int)
                  · subst e; exact ⟨by omega, by omega, by omega⟩
                  · exact hA2 d a (by omega))
              · skip
                refine v_iconst 119 dX12_isAllowed_118 rfl ⟨by decide +kernel, by decide⟩ ?_
                refine v_zretI dX12_isAllowed_119 rfl (Or.inl rfl) ?_
                exact hf (fun q => by have := q.2 (i : Int) (by omega) (by omega); omega)
          · skip
            refine v_if_eq 118 95 dX12_isAllowed_92 rfl rfl (fun _ => ?_) (fun h => absurd (by decide) h)
            refine v_iconst 119 dX12_isAllowed_118 rfl ⟨by decide +kernel, by decide⟩ ?_
            refine v_zretI dX12_isAllowed_119 rfl (Or.inl rfl) ?_
            exact hf (fun q => by have := q.2 (i : Int) (by omega) (by omega); omega)
  have L1 : ∀ (k : Nat) (w : Int) (y z : AV), (4 - w).toNat < k → 0 ≤ w → w ≤ 4 → (∀ w2 : Int, 0 ≤ w2 → w2 < w → sumI (fun d => one (decide (σ 67 d = w2) && mv (σ 64 21) (rbv σ) (σ pp) d)) n ≤ σ 73 w2) → V mX12_isAllowed d (RI K) 2 [.inr (some 64), .inr (some pp), .inl w, y, z] [] σ := by
    intro k
    induction k with
    | zero => intros; omega
    | succ k ih =>
        intro w y z hk hw0 hw4 hac
        refine v_iload2 3 dX12_isAllowed_2 rfl ?_
        refine v_iconst 4 dX12_isAllowed_3 rfl ⟨by decide +kernel, by decide⟩ ?_
        refine v_icmp_ge 74 7 dX12_isAllowed_4 rfl rfl (fun h4 => ?_) (fun h4 => ?_)
        · skip
          refine v_iconst 75 dX12_isAllowed_74 rfl ⟨by decide +kernel, by decide⟩ ?_
          refine v_istore2 76 dX12_isAllowed_75 rfl (by decide) ?_
          exact L3 (n + 1) 0 _ _ (by omega) (by omega) (fun w2 a b => hac w2 a (by omega)) (fun d a b => by omega)
        · skip
          refine v_iconst 8 dX12_isAllowed_7 rfl ⟨by decide +kernel, by decide⟩ ?_
          refine v_istore3 9 dX12_isAllowed_8 rfl (by decide) ?_
          refine v_iconst 10 dX12_isAllowed_9 rfl ⟨by decide +kernel, by decide⟩ ?_
          refine v_istore4 12 dX12_isAllowed_10 rfl (by decide) ?_
          have L2 : ∀ (k : Nat) (i : Nat) (acc : Int), n - i < k → i ≤ n → acc = sumI (fun d => one (decide (σ 67 d = w) && mv (σ 64 21) (rbv σ) (σ pp) d)) i → V mX12_isAllowed d (RI K) 12 [.inr (some 64), .inr (some pp), .inl w, .inl acc, .inl (i : Int)] [] σ := by
            intro k
            induction k with
            | zero => intros; omega
            | succ k ih2 =>
                intro i acc hk2 hi ha
                have hb1 := sumI_bnd (f := (fun d => one (decide (σ 67 d = w) && mv (σ 64 21) (rbv σ) (σ pp) d))) (m := 1) (n := i) (fun _ _ => one_bnd _)
                have hli1 := hli w hw0 (by omega)
                refine v_iload4 14 dX12_isAllowed_12 rfl ?_
                refine v_aload0 15 dX12_isAllowed_14 rfl ?_
                refine v_getI 18 0 dX12_isAllowed_15 rfl fX12_93 rfl rfl rfl ?_
                refine v_icmp_ge 56 21 dX12_isAllowed_18 rfl rfl (fun h18 => ?_) (fun h18 => ?_)
                · skip
                  obtain rfl : i = n := by omega
                  refine v_iload3 57 dX12_isAllowed_56 rfl ?_
                  refine v_aload0 58 dX12_isAllowed_57 rfl ?_
                  refine v_getR 61 dX12_isAllowed_58 rfl fX12_34 rfl rfl ?_
                  refine v_iload2 62 dX12_isAllowed_61 rfl ?_
                  refine v_iald 63 dX12_isAllowed_62 rfl rfl (⟨by omega, by omega⟩) ?_
                  refine v_icmp_le 68 66 dX12_isAllowed_63 rfl rfl (fun h63 => ?_) (fun h63 => ?_)
                  · skip
                    refine v_iinc2 71 dX12_isAllowed_68 rfl (by decide) rfl (⟨by omega, by omega⟩) ?_
                    refine v_goto 2 dX12_isAllowed_71 rfl ?_
                    exact ih (w + 1) _ _ (by omega) (by omega) (by omega) (fun w2 a b => by
                      by_cases e : w2 = w
                      · subst e; rw [← ha]; omega
                      · exact hac w2 a (by omega))
                  · skip
                    refine v_iconst 67 dX12_isAllowed_66 rfl ⟨by decide +kernel, by decide⟩ ?_
                    refine v_zretI dX12_isAllowed_67 rfl (Or.inl rfl) ?_
                    exact hf (fun q => by have := q.1 w hw0 (by omega); omega)
                · skip
                  refine v_iload3 22 dX12_isAllowed_21 rfl ?_
                  refine v_aload0 23 dX12_isAllowed_22 rfl ?_
                  refine v_getR 26 dX12_isAllowed_23 rfl fX12_16 rfl rfl ?_
                  refine v_iload4 28 dX12_isAllowed_26 rfl ?_
                  refine v_iald 29 dX12_isAllowed_28 rfl rfl (⟨by omega, by omega⟩) ?_
                  refine v_iload2 30 dX12_isAllowed_29 rfl ?_
                  refine v_icmp_ne 47 33 dX12_isAllowed_30 rfl rfl (fun h30 => ?_) (fun h30 => ?_)
                  · skip
                    refine v_iconst 48 dX12_isAllowed_47 rfl ⟨by decide +kernel, by decide⟩ ?_
                    refine v_iadd 49 dX12_isAllowed_48 rfl (⟨by omega, by omega⟩) ?_
                    refine v_istore3 50 dX12_isAllowed_49 rfl (by decide) ?_
                    refine v_iinc4 53 dX12_isAllowed_50 rfl (by decide) rfl (⟨by omega, by omega⟩) ?_
                    refine v_goto 12 dX12_isAllowed_53 rfl ?_
                    exact ih2 (i + 1) _ (by omega) (by omega) (sum_s ha (by first | (show one (decide _ && mv _ _ _ _) = 1; rw [h37, decide_eq_true (by omega : σ 67 (i : Int) = w)]; rfl) | (show one (decide _ && mv _ _ _ _) = 0; rw [h37, Bool.and_false]; rfl) | (show one (decide _ && mv _ _ _ _) = 0; rw [decide_eq_false (by omega : ¬ σ 67 (i : Int) = w), Bool.false_and]; rfl)))
                  · skip
                    refine v_aload0 34 dX12_isAllowed_33 rfl ?_
                    refine v_aload1 35 dX12_isAllowed_34 rfl ?_
                    refine v_iload4 37 dX12_isAllowed_35 rfl ?_
                    refine v_cvI2 mX12_isMoved 40 dX12_isAllowed_37 rfl kX12_124 rfl rfl (by omega) (Nat.le_of_ble_eq_true rfl) ?_
                    refine X12_isMoved hw hpp hp (by omega) (fun h37 => ?_) (fun h37 => ?_)
                    · skip
                      refine v_if_eq 47 43 dX12_isAllowed_40 rfl rfl (fun h => absurd h (by decide)) (fun _ => ?_)
                      refine v_iconst 44 dX12_isAllowed_43 rfl ⟨by decide +kernel, by decide⟩ ?_
                      refine v_goto 48 dX12_isAllowed_44 rfl ?_
                      refine v_iadd 49 dX12_isAllowed_48 rfl (⟨by omega, by omega⟩) ?_
                      refine v_istore3 50 dX12_isAllowed_49 rfl (by decide) ?_
                      refine v_iinc4 53 dX12_isAllowed_50 rfl (by decide) rfl (⟨by omega, by omega⟩) ?_
                      refine v_goto 12 dX12_isAllowed_53 rfl ?_
                      exact ih2 (i + 1) _ (by omega) (by omega) (sum_s ha (by first | (show one (decide _ && mv _ _ _ _) = 1; rw [h37, decide_eq_true (by omega : σ 67 (i : Int) = w)]; rfl) | (show one (decide _ && mv _ _ _ _) = 0; rw [h37, Bool.and_false]; rfl) | (show one (decide _ && mv _ _ _ _) = 0; rw [decide_eq_false (by omega : ¬ σ 67 (i : Int) = w), Bool.false_and]; rfl)))
                    · skip
                      refine v_if_eq 47 43 dX12_isAllowed_40 rfl rfl (fun _ => ?_) (fun h => absurd (by decide) h)
                      refine v_iconst 48 dX12_isAllowed_47 rfl ⟨by decide +kernel, by decide⟩ ?_
                      refine v_iadd 49 dX12_isAllowed_48 rfl (⟨by omega, by omega⟩) ?_
                      refine v_istore3 50 dX12_isAllowed_49 rfl (by decide) ?_
                      refine v_iinc4 53 dX12_isAllowed_50 rfl (by decide) rfl (⟨by omega, by omega⟩) ?_
                      refine v_goto 12 dX12_isAllowed_53 rfl ?_
                      exact ih2 (i + 1) _ (by omega) (by omega) (sum_s ha (by first | (show one (decide _ && mv _ _ _ _) = 1; rw [h37, decide_eq_true (by omega : σ 67 (i : Int) = w)]; rfl) | (show one (decide _ && mv _ _ _ _) = 0; rw [h37, Bool.and_false]; rfl) | (show one (decide _ && mv _ _ _ _) = 0; rw [decide_eq_false (by omega : ¬ σ 67 (i : Int) = w), Bool.false_and]; rfl)))
          exact L2 (n + 1) 0 _ (by omega) (by omega) rfl
  refine v_iconst 1 dX12_isAllowed_0 rfl ⟨by decide +kernel, by decide⟩ ?_
  refine v_istore2 2 dX12_isAllowed_1 rfl (by decide) ?_
  exact L1 5 0 _ _ (by decide) (by decide) (by decide) (fun w2 a b => by omega)
set_option maxRecDepth 100000 in
set_option maxHeartbeats 4000000 in
theorem X12_ones {d : Nat} {m : Nat} {σ : Mem} {K : Int → Mem → Prop} (hm : m < 4096) (hk0 : K (pop m 12) σ) : Run mX12_ones d [.inl (m : Int)] σ (RI K) := by
  refine Run_of (ls := [.inl (m : Int), .inr none, .inr none]) (by decide) (Nat.le_of_ble_eq_true rfl) rfl ?_
  have L : ∀ (k : Nat) (i : Nat) (acc : Int), 12 - i < k → i ≤ 12 → acc = pop m i → V mX12_ones d (RI K) 4 [.inl (m : Int), .inl acc, .inl (i : Int)] [] σ := by
    intro k
    induction k with
    | zero => intros; omega
    | succ k ih =>
        intro i acc hk hi ha
        have hb1 := pop_bnd m i
        refine v_iload2 5 dX12_ones_4 rfl ?_
        refine v_bipush 7 dX12_ones_5 rfl ⟨by decide +kernel, by decide⟩ ?_
        refine v_icmp_ge 24 10 dX12_ones_7 rfl rfl (fun h7 => ?_) (fun h7 => ?_)
        · skip
          refine v_iload1 25 dX12_ones_24 rfl ?_
          refine v_iretI dX12_ones_25 rfl ?_
          obtain rfl : i = 12 := by omega
          rw [ha]
          exact hk0
        · skip
          refine v_iload1 11 dX12_ones_10 rfl ?_
          refine v_iload0 12 dX12_ones_11 rfl ?_
          refine v_iload2 13 dX12_ones_12 rfl ?_
          refine v_ishr 14 dX12_ones_13 rfl ?_
          refine v_iconst 15 dX12_ones_14 rfl ⟨by decide +kernel, by decide⟩ ?_
          refine v_iand 16 dX12_ones_15 rfl ?_
          rw [bit_nat (by omega : m < 2 ^ 31) (by omega : i < 32)]
          have hb2 := one_bnd (m.testBit i)
          refine v_iadd 17 dX12_ones_16 rfl (⟨by omega, by omega⟩) ?_
          refine v_istore1 18 dX12_ones_17 rfl (by decide) ?_
          refine v_iinc2 21 dX12_ones_18 rfl (by decide) rfl (⟨by omega, by omega⟩) ?_
          refine v_goto 4 dX12_ones_21 rfl ?_
          exact ih (i + 1) _ (by omega) (by omega) (sum_s (f := fun i => one (m.testBit i.toNat)) ha rfl)
  refine v_iconst 1 dX12_ones_0 rfl ⟨by decide +kernel, by decide⟩ ?_
  refine v_istore1 2 dX12_ones_1 rfl (by decide) ?_
  refine v_iconst 3 dX12_ones_2 rfl ⟨by decide +kernel, by decide⟩ ?_
  refine v_istore2 4 dX12_ones_3 rfl (by decide) ?_
  exact L 13 0 _ (by decide) (by decide) rfl
set_option maxRecDepth 100000 in
set_option maxHeartbeats 4000000 in
def rmvb (σ : Mem) (n : Nat) : Nat := bitsN (fun d => mv (σ 64 21) (rbv σ) (σ 72) (d : Int)) n
set_option maxRecDepth 100000 in
set_option maxHeartbeats 4000000 in
theorem X12_movedBits {d : Nat} {n R F : Nat} {σ : Mem} {K : Int → Mem → Prop} (hw : RW σ n R F) (hp : RP σ 72 n) (hd : 1 ≤ d) (hk0 : K (rmvb σ n : Int) σ) : Run mX12_movedBits d [.inr (some 64)] σ (RI K) := by
  have hw0 := hw
  obtain ⟨⟨hn, hn6, hR, hR12, hF, hF6⟩, hru, hde, hwo, hli, hba, hwf⟩ := hw0
  refine Run_of (ls := [.inr (some 64), .inr none, .inr none]) (by decide) (Nat.le_of_ble_eq_true rfl) rfl ?_
  have L : ∀ (k : Nat) (i acc : Nat), n - i < k → i ≤ n → acc = bitsN (fun d => mv (σ 64 21) (rbv σ) (σ 72) (d : Int)) i → V mX12_movedBits d (RI K) 4 [.inr (some 64), .inl (acc : Int), .inl (i : Int)] [] σ := by
    intro k
    induction k with
    | zero => intros; omega
    | succ k ih =>
        intro i acc hk hi ha
        have hb1 : acc < 2 ^ i := by rw [ha]; exact bitsN_lt _ _
        have hb2 : 2 ^ i ≤ 2 ^ 12 := Nat.pow_le_pow_right (by omega) (by omega)
        have hb3 : (2 : Nat) ^ 12 = 4096 := by decide
        refine v_iload2 5 dX12_movedBits_4 rfl ?_
        refine v_aload0 6 dX12_movedBits_5 rfl ?_
        refine v_getI 9 0 dX12_movedBits_6 rfl fX12_93 rfl rfl rfl ?_
        refine v_icmp_ge 40 12 dX12_movedBits_9 rfl rfl (fun h9 => ?_) (fun h9 => ?_)
        · skip
          refine v_iload1 41 dX12_movedBits_40 rfl ?_
          refine v_iretI dX12_movedBits_41 rfl ?_
          obtain rfl : i = n := by omega
          rw [ha]
          exact hk0
        · skip
          refine v_iload1 13 dX12_movedBits_12 rfl ?_
          refine v_aload0 14 dX12_movedBits_13 rfl ?_
          refine v_aload0 15 dX12_movedBits_14 rfl ?_
          refine v_getR 18 dX12_movedBits_15 rfl fX12_31 rfl rfl ?_
          refine v_iload2 19 dX12_movedBits_18 rfl ?_
          refine v_cvI2 mX12_isMoved 22 dX12_movedBits_19 rfl kX12_124 rfl rfl (by omega) (Nat.le_of_ble_eq_true rfl) ?_
          refine X12_isMoved hw rfl hp (by omega) (fun h19 => ?_) (fun h19 => ?_)
          · skip
            refine v_if_eq 31 25 dX12_movedBits_22 rfl rfl (fun h => absurd h (by decide)) (fun _ => ?_)
            refine v_iconst 26 dX12_movedBits_25 rfl ⟨by decide +kernel, by decide⟩ ?_
            refine v_iload2 27 dX12_movedBits_26 rfl ?_
            refine v_ishl 28 dX12_movedBits_27 rfl ?_
            refine v_goto 32 dX12_movedBits_28 rfl ?_
            refine v_ior 33 dX12_movedBits_32 rfl ?_
            refine v_istore1 34 dX12_movedBits_33 rfl (by decide) ?_
            refine v_iinc2 37 dX12_movedBits_34 rfl (by decide) rfl (⟨by omega, by omega⟩) ?_
            refine v_goto 4 dX12_movedBits_37 rfl ?_
            first | rw [bor_zero (by omega : acc < 2 ^ 31)] | rw [bshl_one (by omega : i < 31), bor_pow hb1 (by omega)]
            exact ih (i + 1) _ (by omega) (by omega) (by simp only [bitsN, h19, ← ha, if_true, if_false, Bool.false_eq_true, reduceIte, Nat.add_zero])
          · skip
            refine v_if_eq 31 25 dX12_movedBits_22 rfl rfl (fun _ => ?_) (fun h => absurd (by decide) h)
            refine v_iconst 32 dX12_movedBits_31 rfl ⟨by decide +kernel, by decide⟩ ?_
            refine v_ior 33 dX12_movedBits_32 rfl ?_
            refine v_istore1 34 dX12_movedBits_33 rfl (by decide) ?_
            refine v_iinc2 37 dX12_movedBits_34 rfl (by decide) rfl (⟨by omega, by omega⟩) ?_
            refine v_goto 4 dX12_movedBits_37 rfl ?_
            first | rw [bor_zero (by omega : acc < 2 ^ 31)] | rw [bshl_one (by omega : i < 31), bor_pow hb1 (by omega)]
            exact ih (i + 1) _ (by omega) (by omega) (by simp only [bitsN, h19, ← ha, if_true, if_false, Bool.false_eq_true, reduceIte, Nat.add_zero])
  refine v_iconst 1 dX12_movedBits_0 rfl ⟨by decide +kernel, by decide⟩ ?_
  refine v_istore1 2 dX12_movedBits_1 rfl (by decide) ?_
  refine v_iconst 3 dX12_movedBits_2 rfl ⟨by decide +kernel, by decide⟩ ?_
  refine v_istore2 4 dX12_movedBits_3 rfl (by decide) ?_
  exact L (n + 1) 0 0 (by omega) (by omega) rfl
set_option maxRecDepth 100000 in
set_option maxHeartbeats 4000000 in
def isB (a b : Nat) : Prop := band (band (a : Int) (bxor (a : Int) (b : Int))) (-(bxor (a : Int) (b : Int))) ≠ 0
set_option maxRecDepth 100000 in
set_option maxHeartbeats 4000000 in
theorem X12_isBefore {d : Nat} {a b : Nat} {σ : Mem} {K : Int → Mem → Prop} (ha : a < 4096) (hb : b < 4096) (ht : isB a b → K 1 σ) (hf : ¬ isB a b → K 0 σ) : Run mX12_isBefore d [.inl (a : Int), .inl (b : Int)] σ (RI K) := by
  refine Run_of (ls := [.inl (a : Int), .inl (b : Int), .inr none]) (by decide) (Nat.le_of_ble_eq_true rfl) rfl ?_
  refine v_iload0 1 dX12_isBefore_0 rfl ?_
  refine v_iload1 2 dX12_isBefore_1 rfl ?_
  refine v_ixor 3 dX12_isBefore_2 rfl ?_
  refine v_istore2 4 dX12_isBefore_3 rfl (by decide) ?_
  have hx : bxor (a : Int) (b : Int) = ((a ^^^ b : Nat) : Int) := bxor_nat (by omega) (by omega)
  have hx2 : a ^^^ b < 2 ^ 12 := Nat.xor_lt_two_pow (by omega) (by omega)
  refine v_iload0 5 dX12_isBefore_4 rfl ?_
  refine v_iload2 6 dX12_isBefore_5 rfl ?_
  refine v_iand 7 dX12_isBefore_6 rfl ?_
  refine v_iload2 8 dX12_isBefore_7 rfl ?_
  refine v_ineg 9 dX12_isBefore_8 rfl (⟨by omega, by omega⟩) ?_
  refine v_iand 10 dX12_isBefore_9 rfl ?_
  refine v_if_eq 17 13 dX12_isBefore_10 rfl rfl (fun h10 => ?_) (fun h10 => ?_)
  · skip
    refine v_iconst 18 dX12_isBefore_17 rfl ⟨by decide +kernel, by decide⟩ ?_
    refine v_zretI dX12_isBefore_18 rfl (Or.inl rfl) ?_
    exact hf (by unfold isB; exact fun q => q h10)
  · skip
    refine v_iconst 14 dX12_isBefore_13 rfl ⟨by decide +kernel, by decide⟩ ?_
    refine v_goto 18 dX12_isBefore_14 rfl ?_
    refine v_zretI dX12_isBefore_18 rfl (Or.inr rfl) ?_
    exact ht (by unfold isB; assumption)
end
section
set_option maxRecDepth 100000 in
set_option maxHeartbeats 4000000 in
theorem X12_decision {d : Nat} {n : Nat} {lo hi pe : Int} {σ : Mem} {K : Int → Mem → Prop} (hn : σ 64 0 = n) (hn6 : n ≤ 6) (hd : 2 ≤ d) (o1 : (lo < 0 ∨ 5 < lo ∨ hi < 0 ∨ 5 < hi ∨ hi < lo ∨ pe < 0 ∨ 3 < pe) → K (-2) σ) (o2 : ¬ (lo < 0 ∨ 5 < lo ∨ hi < 0 ∨ 5 < hi ∨ hi < lo ∨ pe < 0 ∨ 3 < pe) ∧ 0 < σ 64 18 → K (-3) σ) (o3 : ¬ (lo < 0 ∨ 5 < lo ∨ hi < 0 ∨ 5 < hi ∨ hi < lo ∨ pe < 0 ∨ 3 < pe) ∧ σ 64 18 ≤ 0 ∧ n = 6 → K (-4) σ) (o4 : ¬ (lo < 0 ∨ 5 < lo ∨ hi < 0 ∨ 5 < hi ∨ hi < lo ∨ pe < 0 ∨ 3 < pe) ∧ σ 64 18 ≤ 0 ∧ n < 6 → K n (wr (wr (wr (wr (wr (wr (wr (wr σ 65 n lo) 66 n hi) 67 n pe) 68 n 1) 69 n 0) 70 n (-5)) 72 n lo) 64 0 (n + 1))) : Run mX12_decision d [.inr (some 64), .inl lo, .inl hi, .inl pe] σ (RI K) := by
  refine Run_of (ls := [.inr (some 64), .inl lo, .inl hi, .inl pe, .inr none]) (by decide) (Nat.le_of_ble_eq_true rfl) rfl ?_
  refine v_iload1 1 dX12_decision_0 rfl ?_
  refine v_iconst 2 dX12_decision_1 rfl ⟨by decide +kernel, by decide⟩ ?_
  refine v_iconst 3 dX12_decision_2 rfl ⟨by decide +kernel, by decide⟩ ?_
  refine v_csI3 mX12_out 6 dX12_decision_3 rfl kX12_96 (by omega) (Nat.le_of_ble_eq_true rfl) ?_
  refine X12_out (fun h3 => ?_) (fun h3 => ?_)
  · skip
    refine v_if_ne 32 9 dX12_decision_6 rfl rfl (fun _ => ?_) (fun h => absurd (by decide) h)
    refine v_bipush 34 dX12_decision_32 rfl ⟨by decide +kernel, by decide⟩ ?_
    refine v_iretI dX12_decision_34 rfl ?_
    first | exact o1 (by omega) | exact o2 (by omega) | exact o3 (by omega) | exact o4 (by omega)
  · skip
    refine v_if_ne 32 9 dX12_decision_6 rfl rfl (fun h => absurd h (by decide)) (fun _ => ?_)
    refine v_iload2 10 dX12_decision_9 rfl ?_
    refine v_iconst 11 dX12_decision_10 rfl ⟨by decide +kernel, by decide⟩ ?_
    refine v_iconst 12 dX12_decision_11 rfl ⟨by decide +kernel, by decide⟩ ?_
    refine v_csI3 mX12_out 15 dX12_decision_12 rfl kX12_96 (by omega) (Nat.le_of_ble_eq_true rfl) ?_
    refine X12_out (fun h12 => ?_) (fun h12 => ?_)
    · skip
      refine v_if_ne 32 18 dX12_decision_15 rfl rfl (fun _ => ?_) (fun h => absurd (by decide) h)
      refine v_bipush 34 dX12_decision_32 rfl ⟨by decide +kernel, by decide⟩ ?_
      refine v_iretI dX12_decision_34 rfl ?_
      first | exact o1 (by omega) | exact o2 (by omega) | exact o3 (by omega) | exact o4 (by omega)
    · skip
      refine v_if_ne 32 18 dX12_decision_15 rfl rfl (fun h => absurd h (by decide)) (fun _ => ?_)
      refine v_iload1 19 dX12_decision_18 rfl ?_
      refine v_iload2 20 dX12_decision_19 rfl ?_
      refine v_icmp_gt 32 23 dX12_decision_20 rfl rfl (fun h20 => ?_) (fun h20 => ?_)
      · skip
        refine v_bipush 34 dX12_decision_32 rfl ⟨by decide +kernel, by decide⟩ ?_
        refine v_iretI dX12_decision_34 rfl ?_
        first | exact o1 (by omega) | exact o2 (by omega) | exact o3 (by omega) | exact o4 (by omega)
      · skip
        refine v_iload3 24 dX12_decision_23 rfl ?_
        refine v_iconst 25 dX12_decision_24 rfl ⟨by decide +kernel, by decide⟩ ?_
        refine v_iconst 26 dX12_decision_25 rfl ⟨by decide +kernel, by decide⟩ ?_
        refine v_csI3 mX12_out 29 dX12_decision_26 rfl kX12_96 (by omega) (Nat.le_of_ble_eq_true rfl) ?_
        refine X12_out (fun h26 => ?_) (fun h26 => ?_)
        · skip
          refine v_if_eq 35 32 dX12_decision_29 rfl rfl (fun h => absurd h (by decide)) (fun _ => ?_)
          refine v_bipush 34 dX12_decision_32 rfl ⟨by decide +kernel, by decide⟩ ?_
          refine v_iretI dX12_decision_34 rfl ?_
          first | exact o1 (by omega) | exact o2 (by omega) | exact o3 (by omega) | exact o4 (by omega)
        · skip
          refine v_if_eq 35 32 dX12_decision_29 rfl rfl (fun _ => ?_) (fun h => absurd (by decide) h)
          refine v_aload0 36 dX12_decision_35 rfl ?_
          refine v_getI 39 18 dX12_decision_36 rfl fX12_100 rfl rfl rfl ?_
          refine v_if_le 45 42 dX12_decision_39 rfl rfl (fun h39 => ?_) (fun h39 => ?_)
          · skip
            refine v_aload0 46 dX12_decision_45 rfl ?_
            refine v_getI 49 0 dX12_decision_46 rfl fX12_93 rfl rfl rfl ?_
            refine v_bipush 51 dX12_decision_49 rfl ⟨by decide +kernel, by decide⟩ ?_
            refine v_icmp_ne 57 54 dX12_decision_51 rfl rfl (fun h51 => ?_) (fun h51 => ?_)
            · skip
              refine v_aload0 58 dX12_decision_57 rfl ?_
              refine v_getIe 61 0 (n) dX12_decision_58 rfl fX12_93 rfl rfl rfl (hn) ?_
              refine v_istore4 63 dX12_decision_61 rfl (by decide) ?_
              refine v_aload0 64 dX12_decision_63 rfl ?_
              refine v_getR 67 dX12_decision_64 rfl fX12_7 rfl rfl ?_
              refine v_iload4 69 dX12_decision_67 rfl ?_
              refine v_iload1 70 dX12_decision_69 rfl ?_
              refine v_iast 71 dX12_decision_70 rfl rfl (⟨by omega, by omega⟩) ?_
              refine v_aload0 72 dX12_decision_71 rfl ?_
              refine v_getR 75 dX12_decision_72 rfl fX12_13 rfl rfl ?_
              refine v_iload4 77 dX12_decision_75 rfl ?_
              refine v_iload2 78 dX12_decision_77 rfl ?_
              refine v_iast 79 dX12_decision_78 rfl rfl (⟨by omega, by omega⟩) ?_
              refine v_aload0 80 dX12_decision_79 rfl ?_
              refine v_getR 83 dX12_decision_80 rfl fX12_16 rfl rfl ?_
              refine v_iload4 85 dX12_decision_83 rfl ?_
              refine v_iload3 86 dX12_decision_85 rfl ?_
              refine v_iast 87 dX12_decision_86 rfl rfl (⟨by omega, by omega⟩) ?_
              refine v_aload0 88 dX12_decision_87 rfl ?_
              refine v_getR 91 dX12_decision_88 rfl fX12_19 rfl rfl ?_
              refine v_iload4 93 dX12_decision_91 rfl ?_
              refine v_iconst 94 dX12_decision_93 rfl ⟨by decide +kernel, by decide⟩ ?_
              refine v_iast 95 dX12_decision_94 rfl rfl (⟨by omega, by omega⟩) ?_
              refine v_aload0 96 dX12_decision_95 rfl ?_
              refine v_getR 99 dX12_decision_96 rfl fX12_22 rfl rfl ?_
              refine v_iload4 101 dX12_decision_99 rfl ?_
              refine v_iconst 102 dX12_decision_101 rfl ⟨by decide +kernel, by decide⟩ ?_
              refine v_iast 103 dX12_decision_102 rfl rfl (⟨by omega, by omega⟩) ?_
              refine v_aload0 104 dX12_decision_103 rfl ?_
              refine v_getR 107 dX12_decision_104 rfl fX12_25 rfl rfl ?_
              refine v_iload4 109 dX12_decision_107 rfl ?_
              refine v_bipush 111 dX12_decision_109 rfl ⟨by decide +kernel, by decide⟩ ?_
              refine v_iast 112 dX12_decision_111 rfl rfl (⟨by omega, by omega⟩) ?_
              refine v_aload0 113 dX12_decision_112 rfl ?_
              refine v_getR 116 dX12_decision_113 rfl fX12_31 rfl rfl ?_
              refine v_iload4 118 dX12_decision_116 rfl ?_
              refine v_iload1 119 dX12_decision_118 rfl ?_
              refine v_iast 120 dX12_decision_119 rfl rfl (⟨by omega, by omega⟩) ?_
              refine v_aload0 121 dX12_decision_120 rfl ?_
              refine v_dup 122 dX12_decision_121 rfl ?_
              refine v_getIe 125 0 (n) dX12_decision_122 rfl fX12_93 rfl rfl rfl (hn) ?_
              refine v_iconst 126 dX12_decision_125 rfl ⟨by decide +kernel, by decide⟩ ?_
              refine v_iadd 127 dX12_decision_126 rfl (⟨by omega, by omega⟩) ?_
              refine v_putI 130 0 dX12_decision_127 rfl pX12_93 rfl rfl rfl ?_
              refine v_iload4 132 dX12_decision_130 rfl ?_
              refine v_iretI dX12_decision_132 rfl ?_
              first | exact o1 (by omega) | exact o2 (by omega) | exact o3 (by omega) | exact o4 (by omega)
            · skip
              refine v_bipush 56 dX12_decision_54 rfl ⟨by decide +kernel, by decide⟩ ?_
              refine v_iretI dX12_decision_56 rfl ?_
              first | exact o1 (by omega) | exact o2 (by omega) | exact o3 (by omega) | exact o4 (by omega)
          · skip
            refine v_bipush 44 dX12_decision_42 rfl ⟨by decide +kernel, by decide⟩ ?_
            refine v_iretI dX12_decision_44 rfl ?_
            first | exact o1 (by omega) | exact o2 (by omega) | exact o3 (by omega) | exact o4 (by omega)
set_option maxRecDepth 100000 in
set_option maxHeartbeats 4000000 in
theorem X12_weight {d : Nat} {n : Nat} {k w p : Int} {σ : Mem} {K : Int → Mem → Prop} (hn : σ 64 0 = n) (hn6 : n ≤ 6) (hd : 2 ≤ d) (o1 : k < 0 ∨ (n : Int) ≤ k → K (-1) σ) (o2 : (0 ≤ k ∧ k < n) ∧ (w < 0 ∨ 100 < w ∨ p < 0 ∨ 20 < p) → K (-2) σ) (o3 : (0 ≤ k ∧ k < n) ∧ ¬ (w < 0 ∨ 100 < w ∨ p < 0 ∨ 20 < p) → K 1 (wr (wr σ 68 k w) 69 k p)) : Run mX12_weight d [.inr (some 64), .inl k, .inl w, .inl p] σ (RI K) := by
  refine Run_of (ls := [.inr (some 64), .inl k, .inl w, .inl p]) (by decide) (Nat.le_of_ble_eq_true rfl) rfl ?_
  refine v_aload0 1 dX12_weight_0 rfl ?_
  refine v_iload1 2 dX12_weight_1 rfl ?_
  refine v_cvI1 mX12_noDecision 5 dX12_weight_2 rfl kX12_103 rfl rfl (by omega) (Nat.le_of_ble_eq_true rfl) ?_
  refine X12_noDecision (by omega) (by omega) (fun h2 => ?_) (fun h2 => ?_)
  · skip
    refine v_if_eq 10 8 dX12_weight_5 rfl rfl (fun h => absurd h (by decide)) (fun _ => ?_)
    refine v_iconst 9 dX12_weight_8 rfl ⟨by decide +kernel, by decide⟩ ?_
    refine v_iretI dX12_weight_9 rfl ?_
    first | exact o1 (by omega) | exact o2 (by omega) | exact o3 (by omega)
  · skip
    refine v_if_eq 10 8 dX12_weight_5 rfl rfl (fun _ => ?_) (fun h => absurd (by decide) h)
    refine v_iload2 11 dX12_weight_10 rfl ?_
    refine v_iconst 12 dX12_weight_11 rfl ⟨by decide +kernel, by decide⟩ ?_
    refine v_bipush 14 dX12_weight_12 rfl ⟨by decide +kernel, by decide⟩ ?_
    refine v_csI3 mX12_out 17 dX12_weight_14 rfl kX12_96 (by omega) (Nat.le_of_ble_eq_true rfl) ?_
    refine X12_out (fun h14 => ?_) (fun h14 => ?_)
    · skip
      refine v_if_ne 30 20 dX12_weight_17 rfl rfl (fun _ => ?_) (fun h => absurd (by decide) h)
      refine v_bipush 32 dX12_weight_30 rfl ⟨by decide +kernel, by decide⟩ ?_
      refine v_iretI dX12_weight_32 rfl ?_
      first | exact o1 (by omega) | exact o2 (by omega) | exact o3 (by omega)
    · skip
      refine v_if_ne 30 20 dX12_weight_17 rfl rfl (fun h => absurd h (by decide)) (fun _ => ?_)
      refine v_iload3 21 dX12_weight_20 rfl ?_
      refine v_iconst 22 dX12_weight_21 rfl ⟨by decide +kernel, by decide⟩ ?_
      refine v_bipush 24 dX12_weight_22 rfl ⟨by decide +kernel, by decide⟩ ?_
      refine v_csI3 mX12_out 27 dX12_weight_24 rfl kX12_96 (by omega) (Nat.le_of_ble_eq_true rfl) ?_
      refine X12_out (fun h24 => ?_) (fun h24 => ?_)
      · skip
        refine v_if_eq 33 30 dX12_weight_27 rfl rfl (fun h => absurd h (by decide)) (fun _ => ?_)
        refine v_bipush 32 dX12_weight_30 rfl ⟨by decide +kernel, by decide⟩ ?_
        refine v_iretI dX12_weight_32 rfl ?_
        first | exact o1 (by omega) | exact o2 (by omega) | exact o3 (by omega)
      · skip
        refine v_if_eq 33 30 dX12_weight_27 rfl rfl (fun _ => ?_) (fun h => absurd (by decide) h)
        refine v_aload0 34 dX12_weight_33 rfl ?_
        refine v_getR 37 dX12_weight_34 rfl fX12_19 rfl rfl ?_
        refine v_iload1 38 dX12_weight_37 rfl ?_
        refine v_iload2 39 dX12_weight_38 rfl ?_
        refine v_iast 40 dX12_weight_39 rfl rfl (⟨by omega, by omega⟩) ?_
        refine v_aload0 41 dX12_weight_40 rfl ?_
        refine v_getR 44 dX12_weight_41 rfl fX12_22 rfl rfl ?_
        refine v_iload1 45 dX12_weight_44 rfl ?_
        refine v_iload3 46 dX12_weight_45 rfl ?_
        refine v_iast 47 dX12_weight_46 rfl rfl (⟨by omega, by omega⟩) ?_
        refine v_iconst 48 dX12_weight_47 rfl ⟨by decide +kernel, by decide⟩ ?_
        refine v_iretI dX12_weight_48 rfl ?_
        first | exact o1 (by omega) | exact o2 (by omega) | exact o3 (by omega)
set_option maxRecDepth 100000 in
set_option maxHeartbeats 4000000 in
theorem X12_worth {d : Nat} {n : Nat} {k v w : Int} {σ : Mem} {K : Int → Mem → Prop} (hn : σ 64 0 = n) (hn6 : n ≤ 6) (hd : 2 ≤ d) (o1 : k < 0 ∨ (n : Int) ≤ k → K (-1) σ) (o2 : (0 ≤ k ∧ k < n) ∧ (v < 0 ∨ 5 < v ∨ w < 0 ∨ 100 < w) → K (-2) σ) (o3 : (0 ≤ k ∧ k < n) ∧ ¬ (v < 0 ∨ 5 < v ∨ w < 0 ∨ 100 < w) → K (σ 71 (6 * k + v)) (wr σ 71 (6 * k + v) w)) : Run mX12_worth d [.inr (some 64), .inl k, .inl v, .inl w] σ (RI K) := by
  refine Run_of (ls := [.inr (some 64), .inl k, .inl v, .inl w, .inr none]) (by decide) (Nat.le_of_ble_eq_true rfl) rfl ?_
  refine v_aload0 1 dX12_worth_0 rfl ?_
  refine v_iload1 2 dX12_worth_1 rfl ?_
  refine v_cvI1 mX12_noDecision 5 dX12_worth_2 rfl kX12_103 rfl rfl (by omega) (Nat.le_of_ble_eq_true rfl) ?_
  refine X12_noDecision (by omega) (by omega) (fun h2 => ?_) (fun h2 => ?_)
  · skip
    refine v_if_eq 10 8 dX12_worth_5 rfl rfl (fun h => absurd h (by decide)) (fun _ => ?_)
    refine v_iconst 9 dX12_worth_8 rfl ⟨by decide +kernel, by decide⟩ ?_
    refine v_iretI dX12_worth_9 rfl ?_
    first | exact o1 (by omega) | exact o2 (by omega) | exact o3 (by omega)
  · skip
    refine v_if_eq 10 8 dX12_worth_5 rfl rfl (fun _ => ?_) (fun h => absurd (by decide) h)
    refine v_iload2 11 dX12_worth_10 rfl ?_
    refine v_iconst 12 dX12_worth_11 rfl ⟨by decide +kernel, by decide⟩ ?_
    refine v_iconst 13 dX12_worth_12 rfl ⟨by decide +kernel, by decide⟩ ?_
    refine v_csI3 mX12_out 16 dX12_worth_13 rfl kX12_96 (by omega) (Nat.le_of_ble_eq_true rfl) ?_
    refine X12_out (fun h13 => ?_) (fun h13 => ?_)
    · skip
      refine v_if_ne 29 19 dX12_worth_16 rfl rfl (fun _ => ?_) (fun h => absurd (by decide) h)
      refine v_bipush 31 dX12_worth_29 rfl ⟨by decide +kernel, by decide⟩ ?_
      refine v_iretI dX12_worth_31 rfl ?_
      first | exact o1 (by omega) | exact o2 (by omega) | exact o3 (by omega)
    · skip
      refine v_if_ne 29 19 dX12_worth_16 rfl rfl (fun h => absurd h (by decide)) (fun _ => ?_)
      refine v_iload3 20 dX12_worth_19 rfl ?_
      refine v_iconst 21 dX12_worth_20 rfl ⟨by decide +kernel, by decide⟩ ?_
      refine v_bipush 23 dX12_worth_21 rfl ⟨by decide +kernel, by decide⟩ ?_
      refine v_csI3 mX12_out 26 dX12_worth_23 rfl kX12_96 (by omega) (Nat.le_of_ble_eq_true rfl) ?_
      refine X12_out (fun h23 => ?_) (fun h23 => ?_)
      · skip
        refine v_if_eq 32 29 dX12_worth_26 rfl rfl (fun h => absurd h (by decide)) (fun _ => ?_)
        refine v_bipush 31 dX12_worth_29 rfl ⟨by decide +kernel, by decide⟩ ?_
        refine v_iretI dX12_worth_31 rfl ?_
        first | exact o1 (by omega) | exact o2 (by omega) | exact o3 (by omega)
      · skip
        refine v_if_eq 32 29 dX12_worth_26 rfl rfl (fun _ => ?_) (fun h => absurd (by decide) h)
        refine v_aload0 33 dX12_worth_32 rfl ?_
        refine v_getR 36 dX12_worth_33 rfl fX12_28 rfl rfl ?_
        refine v_bipush 38 dX12_worth_36 rfl ⟨by decide +kernel, by decide⟩ ?_
        refine v_iload1 39 dX12_worth_38 rfl ?_
        refine v_imul 40 dX12_worth_39 rfl (⟨by omega, by omega⟩) ?_
        refine v_iload2 41 dX12_worth_40 rfl ?_
        refine v_iadd 42 dX12_worth_41 rfl (⟨by omega, by omega⟩) ?_
        refine v_iald 43 dX12_worth_42 rfl rfl (⟨by omega, by omega⟩) ?_
        refine v_istore4 45 dX12_worth_43 rfl (by decide) ?_
        refine v_aload0 46 dX12_worth_45 rfl ?_
        refine v_getR 49 dX12_worth_46 rfl fX12_28 rfl rfl ?_
        refine v_bipush 51 dX12_worth_49 rfl ⟨by decide +kernel, by decide⟩ ?_
        refine v_iload1 52 dX12_worth_51 rfl ?_
        refine v_imul 53 dX12_worth_52 rfl (⟨by omega, by omega⟩) ?_
        refine v_iload2 54 dX12_worth_53 rfl ?_
        refine v_iadd 55 dX12_worth_54 rfl (⟨by omega, by omega⟩) ?_
        refine v_iload3 56 dX12_worth_55 rfl ?_
        refine v_iast 57 dX12_worth_56 rfl rfl (⟨by omega, by omega⟩) ?_
        refine v_iload4 59 dX12_worth_57 rfl ?_
        refine v_iretI dX12_worth_59 rfl ?_
        first | exact o1 (by omega) | exact o2 (by omega) | exact o3 (by omega)
set_option maxRecDepth 100000 in
set_option maxHeartbeats 4000000 in
theorem X12_pin {d : Nat} {n : Nat} {k v : Int} {σ : Mem} {K : Int → Mem → Prop} (hn : σ 64 0 = n) (hn6 : n ≤ 6) (hd : 2 ≤ d) (o1 : k < 0 ∨ (n : Int) ≤ k → K (-1) σ) (o2 : (0 ≤ k ∧ k < n) ∧ v ≠ -5 ∧ (v < σ 65 k ∨ σ 66 k < v) → K (-2) σ) (o3 : (0 ≤ k ∧ k < n) ∧ (v = -5 ∨ (σ 65 k ≤ v ∧ v ≤ σ 66 k)) → K 1 (wr σ 70 k v)) : Run mX12_pin d [.inr (some 64), .inl k, .inl v] σ (RI K) := by
  refine Run_of (ls := [.inr (some 64), .inl k, .inl v]) (by decide) (Nat.le_of_ble_eq_true rfl) rfl ?_
  refine v_aload0 1 dX12_pin_0 rfl ?_
  refine v_iload1 2 dX12_pin_1 rfl ?_
  refine v_cvI1 mX12_noDecision 5 dX12_pin_2 rfl kX12_103 rfl rfl (by omega) (Nat.le_of_ble_eq_true rfl) ?_
  refine X12_noDecision (by omega) (by omega) (fun h2 => ?_) (fun h2 => ?_)
  · skip
    refine v_if_eq 10 8 dX12_pin_5 rfl rfl (fun h => absurd h (by decide)) (fun _ => ?_)
    refine v_iconst 9 dX12_pin_8 rfl ⟨by decide +kernel, by decide⟩ ?_
    refine v_iretI dX12_pin_9 rfl ?_
    first | exact o1 (by omega) | exact o2 (by omega) | exact o3 (by omega)
  · skip
    refine v_if_eq 10 8 dX12_pin_5 rfl rfl (fun _ => ?_) (fun h => absurd (by decide) h)
    refine v_iload2 11 dX12_pin_10 rfl ?_
    refine v_bipush 13 dX12_pin_11 rfl ⟨by decide +kernel, by decide⟩ ?_
    refine v_icmp_eq 28 16 dX12_pin_13 rfl rfl (fun h13 => ?_) (fun h13 => ?_)
    · skip
      refine v_aload0 29 dX12_pin_28 rfl ?_
      refine v_getR 32 dX12_pin_29 rfl fX12_25 rfl rfl ?_
      refine v_iload1 33 dX12_pin_32 rfl ?_
      refine v_iload2 34 dX12_pin_33 rfl ?_
      refine v_iast 35 dX12_pin_34 rfl rfl (⟨by omega, by omega⟩) ?_
      refine v_iconst 36 dX12_pin_35 rfl ⟨by decide +kernel, by decide⟩ ?_
      refine v_iretI dX12_pin_36 rfl ?_
      first | exact o1 (by omega) | exact o2 (by omega) | exact o3 (by omega)
    · skip
      refine v_aload0 17 dX12_pin_16 rfl ?_
      refine v_iload1 18 dX12_pin_17 rfl ?_
      refine v_iload2 19 dX12_pin_18 rfl ?_
      refine v_cvI2 mX12_mayHave 22 dX12_pin_19 rfl kX12_107 rfl rfl (by omega) (Nat.le_of_ble_eq_true rfl) ?_
      refine X12_mayHave (by omega) (by omega) (fun h19 => ?_) (fun h19 => ?_)
      · skip
        refine v_if_ne 28 25 dX12_pin_22 rfl rfl (fun _ => ?_) (fun h => absurd (by decide) h)
        refine v_aload0 29 dX12_pin_28 rfl ?_
        refine v_getR 32 dX12_pin_29 rfl fX12_25 rfl rfl ?_
        refine v_iload1 33 dX12_pin_32 rfl ?_
        refine v_iload2 34 dX12_pin_33 rfl ?_
        refine v_iast 35 dX12_pin_34 rfl rfl (⟨by omega, by omega⟩) ?_
        refine v_iconst 36 dX12_pin_35 rfl ⟨by decide +kernel, by decide⟩ ?_
        refine v_iretI dX12_pin_36 rfl ?_
        first | exact o1 (by omega) | exact o2 (by omega) | exact o3 (by omega)
      · skip
        refine v_if_ne 28 25 dX12_pin_22 rfl rfl (fun h => absurd h (by decide)) (fun _ => ?_)
        refine v_bipush 27 dX12_pin_25 rfl ⟨by decide +kernel, by decide⟩ ?_
        refine v_iretI dX12_pin_27 rfl ?_
        first | exact o1 (by omega) | exact o2 (by omega) | exact o3 (by omega)
set_option maxRecDepth 100000 in
set_option maxHeartbeats 4000000 in
theorem X12_limit {d : Nat} {w v : Int} {σ : Mem} {K : Int → Mem → Prop} (hd : 2 ≤ d) (o1 : w < 0 ∨ 3 < w ∨ v < 0 ∨ 6 < v → K (-2) σ) (o2 : ¬ (w < 0 ∨ 3 < w ∨ v < 0 ∨ 6 < v) → K (σ 73 w) (wr σ 73 w v)) : Run mX12_limit d [.inr (some 64), .inl w, .inl v] σ (RI K) := by
  refine Run_of (ls := [.inr (some 64), .inl w, .inl v, .inr none]) (by decide) (Nat.le_of_ble_eq_true rfl) rfl ?_
  refine v_iload1 1 dX12_limit_0 rfl ?_
  refine v_iconst 2 dX12_limit_1 rfl ⟨by decide +kernel, by decide⟩ ?_
  refine v_iconst 3 dX12_limit_2 rfl ⟨by decide +kernel, by decide⟩ ?_
  refine v_csI3 mX12_out 6 dX12_limit_3 rfl kX12_96 (by omega) (Nat.le_of_ble_eq_true rfl) ?_
  refine X12_out (fun h3 => ?_) (fun h3 => ?_)
  · skip
    refine v_if_ne 19 9 dX12_limit_6 rfl rfl (fun _ => ?_) (fun h => absurd (by decide) h)
    refine v_bipush 21 dX12_limit_19 rfl ⟨by decide +kernel, by decide⟩ ?_
    refine v_iretI dX12_limit_21 rfl ?_
    first | exact o1 (by omega) | exact o2 (by omega)
  · skip
    refine v_if_ne 19 9 dX12_limit_6 rfl rfl (fun h => absurd h (by decide)) (fun _ => ?_)
    refine v_iload2 10 dX12_limit_9 rfl ?_
    refine v_iconst 11 dX12_limit_10 rfl ⟨by decide +kernel, by decide⟩ ?_
    refine v_bipush 13 dX12_limit_11 rfl ⟨by decide +kernel, by decide⟩ ?_
    refine v_csI3 mX12_out 16 dX12_limit_13 rfl kX12_96 (by omega) (Nat.le_of_ble_eq_true rfl) ?_
    refine X12_out (fun h13 => ?_) (fun h13 => ?_)
    · skip
      refine v_if_eq 22 19 dX12_limit_16 rfl rfl (fun h => absurd h (by decide)) (fun _ => ?_)
      refine v_bipush 21 dX12_limit_19 rfl ⟨by decide +kernel, by decide⟩ ?_
      refine v_iretI dX12_limit_21 rfl ?_
      first | exact o1 (by omega) | exact o2 (by omega)
    · skip
      refine v_if_eq 22 19 dX12_limit_16 rfl rfl (fun _ => ?_) (fun h => absurd (by decide) h)
      refine v_aload0 23 dX12_limit_22 rfl ?_
      refine v_getR 26 dX12_limit_23 rfl fX12_34 rfl rfl ?_
      refine v_iload1 27 dX12_limit_26 rfl ?_
      refine v_iald 28 dX12_limit_27 rfl rfl (⟨by omega, by omega⟩) ?_
      refine v_istore3 29 dX12_limit_28 rfl (by decide) ?_
      refine v_aload0 30 dX12_limit_29 rfl ?_
      refine v_getR 33 dX12_limit_30 rfl fX12_34 rfl rfl ?_
      refine v_iload1 34 dX12_limit_33 rfl ?_
      refine v_iload2 35 dX12_limit_34 rfl ?_
      refine v_iast 36 dX12_limit_35 rfl rfl (⟨by omega, by omega⟩) ?_
      refine v_iload3 37 dX12_limit_36 rfl ?_
      refine v_iretI dX12_limit_37 rfl ?_
      first | exact o1 (by omega) | exact o2 (by omega)
set_option maxRecDepth 100000 in
set_option maxHeartbeats 4000000 in
theorem X12_fact {d : Nat} {F : Nat} {v : Int} {σ : Mem} {K : Int → Mem → Prop} (hF : σ 64 10 = F) (hF6 : F ≤ 6) (hd : 2 ≤ d) (o1 : v < -20 ∨ 20 < v → K (-2) σ) (o2 : ¬ (v < -20 ∨ 20 < v) ∧ 0 < σ 64 18 → K (-3) σ) (o3 : ¬ (v < -20 ∨ 20 < v) ∧ σ 64 18 ≤ 0 ∧ F = 6 → K (-4) σ) (o4 : ¬ (v < -20 ∨ 20 < v) ∧ σ 64 18 ≤ 0 ∧ F < 6 → K F (wr (wr σ 74 F v) 64 10 (F + 1))) : Run mX12_fact d [.inr (some 64), .inl v] σ (RI K) := by
  refine Run_of (ls := [.inr (some 64), .inl v]) (by decide) (Nat.le_of_ble_eq_true rfl) rfl ?_
  refine v_iload1 1 dX12_fact_0 rfl ?_
  refine v_bipush 3 dX12_fact_1 rfl ⟨by decide +kernel, by decide⟩ ?_
  refine v_bipush 5 dX12_fact_3 rfl ⟨by decide +kernel, by decide⟩ ?_
  refine v_csI3 mX12_out 8 dX12_fact_5 rfl kX12_96 (by omega) (Nat.le_of_ble_eq_true rfl) ?_
  refine X12_out (fun h5 => ?_) (fun h5 => ?_)
  · skip
    refine v_if_eq 14 11 dX12_fact_8 rfl rfl (fun h => absurd h (by decide)) (fun _ => ?_)
    refine v_bipush 13 dX12_fact_11 rfl ⟨by decide +kernel, by decide⟩ ?_
    refine v_iretI dX12_fact_13 rfl ?_
    first | exact o1 (by omega) | exact o2 (by omega) | exact o3 (by omega) | (rw [show (F : Int) + 1 - 1 = F by omega]; exact o4 (by omega))
  · skip
    refine v_if_eq 14 11 dX12_fact_8 rfl rfl (fun _ => ?_) (fun h => absurd (by decide) h)
    refine v_aload0 15 dX12_fact_14 rfl ?_
    refine v_getI 18 18 dX12_fact_15 rfl fX12_100 rfl rfl rfl ?_
    refine v_if_le 24 21 dX12_fact_18 rfl rfl (fun h18 => ?_) (fun h18 => ?_)
    · skip
      refine v_aload0 25 dX12_fact_24 rfl ?_
      refine v_getIe 28 10 (F) dX12_fact_25 rfl fX12_111 rfl rfl rfl (hF) ?_
      refine v_bipush 30 dX12_fact_28 rfl ⟨by decide +kernel, by decide⟩ ?_
      refine v_icmp_ne 36 33 dX12_fact_30 rfl rfl (fun h30 => ?_) (fun h30 => ?_)
      · skip
        refine v_aload0 37 dX12_fact_36 rfl ?_
        refine v_getR 40 dX12_fact_37 rfl fX12_37 rfl rfl ?_
        refine v_aload0 41 dX12_fact_40 rfl ?_
        refine v_getIe 44 10 (F) dX12_fact_41 rfl fX12_111 rfl rfl rfl (hF) ?_
        refine v_iload1 45 dX12_fact_44 rfl ?_
        refine v_iast 46 dX12_fact_45 rfl rfl (⟨by omega, by omega⟩) ?_
        refine v_aload0 47 dX12_fact_46 rfl ?_
        refine v_dup 48 dX12_fact_47 rfl ?_
        refine v_getIe 51 10 (F) dX12_fact_48 rfl fX12_111 rfl rfl rfl (hF) ?_
        refine v_iconst 52 dX12_fact_51 rfl ⟨by decide +kernel, by decide⟩ ?_
        refine v_iadd 53 dX12_fact_52 rfl (⟨by omega, by omega⟩) ?_
        refine v_putI 56 10 dX12_fact_53 rfl pX12_111 rfl rfl rfl ?_
        refine v_aload0 57 dX12_fact_56 rfl ?_
        refine v_getIe 60 10 ((F : Int) + 1) dX12_fact_57 rfl fX12_111 rfl rfl rfl (rfl) ?_
        refine v_iconst 61 dX12_fact_60 rfl ⟨by decide +kernel, by decide⟩ ?_
        refine v_isub 62 dX12_fact_61 rfl (⟨by omega, by omega⟩) ?_
        refine v_iretI dX12_fact_62 rfl ?_
        first | exact o1 (by omega) | exact o2 (by omega) | exact o3 (by omega) | (rw [show (F : Int) + 1 - 1 = F by omega]; exact o4 (by omega))
      · skip
        refine v_bipush 35 dX12_fact_33 rfl ⟨by decide +kernel, by decide⟩ ?_
        refine v_iretI dX12_fact_35 rfl ?_
        first | exact o1 (by omega) | exact o2 (by omega) | exact o3 (by omega) | (rw [show (F : Int) + 1 - 1 = F by omega]; exact o4 (by omega))
    · skip
      refine v_bipush 23 dX12_fact_21 rfl ⟨by decide +kernel, by decide⟩ ?_
      refine v_iretI dX12_fact_23 rfl ?_
      first | exact o1 (by omega) | exact o2 (by omega) | exact o3 (by omega) | (rw [show (F : Int) + 1 - 1 = F by omega]; exact o4 (by omega))
set_option maxRecDepth 100000 in
set_option maxHeartbeats 4000000 in
theorem X12_change {d : Nat} {F : Nat} {k v : Int} {σ : Mem} {K : Int → Mem → Prop} (hF : σ 64 10 = F) (hF6 : F ≤ 6) (hd : 2 ≤ d) (o1 : k < 0 ∨ (F : Int) ≤ k → K (-1) σ) (o2 : (0 ≤ k ∧ k < F) ∧ (v < -20 ∨ 20 < v) → K (-2) σ) (o3 : (0 ≤ k ∧ k < F) ∧ ¬ (v < -20 ∨ 20 < v) → K (σ 74 k) (wr σ 74 k v)) : Run mX12_change d [.inr (some 64), .inl k, .inl v] σ (RI K) := by
  refine Run_of (ls := [.inr (some 64), .inl k, .inl v, .inr none]) (by decide) (Nat.le_of_ble_eq_true rfl) rfl ?_
  refine v_iload1 1 dX12_change_0 rfl ?_
  refine v_iconst 2 dX12_change_1 rfl ⟨by decide +kernel, by decide⟩ ?_
  refine v_aload0 3 dX12_change_2 rfl ?_
  refine v_getI 6 10 dX12_change_3 rfl fX12_111 rfl rfl rfl ?_
  refine v_iconst 7 dX12_change_6 rfl ⟨by decide +kernel, by decide⟩ ?_
  refine v_isub 8 dX12_change_7 rfl (⟨by omega, by omega⟩) ?_
  refine v_csI3 mX12_out 11 dX12_change_8 rfl kX12_96 (by omega) (Nat.le_of_ble_eq_true rfl) ?_
  refine X12_out (fun h8 => ?_) (fun h8 => ?_)
  · skip
    refine v_if_eq 16 14 dX12_change_11 rfl rfl (fun h => absurd h (by decide)) (fun _ => ?_)
    refine v_iconst 15 dX12_change_14 rfl ⟨by decide +kernel, by decide⟩ ?_
    refine v_iretI dX12_change_15 rfl ?_
    first | exact o1 (by omega) | exact o2 (by omega) | exact o3 (by omega)
  · skip
    refine v_if_eq 16 14 dX12_change_11 rfl rfl (fun _ => ?_) (fun h => absurd (by decide) h)
    refine v_iload2 17 dX12_change_16 rfl ?_
    refine v_bipush 19 dX12_change_17 rfl ⟨by decide +kernel, by decide⟩ ?_
    refine v_bipush 21 dX12_change_19 rfl ⟨by decide +kernel, by decide⟩ ?_
    refine v_csI3 mX12_out 24 dX12_change_21 rfl kX12_96 (by omega) (Nat.le_of_ble_eq_true rfl) ?_
    refine X12_out (fun h21 => ?_) (fun h21 => ?_)
    · skip
      refine v_if_eq 30 27 dX12_change_24 rfl rfl (fun h => absurd h (by decide)) (fun _ => ?_)
      refine v_bipush 29 dX12_change_27 rfl ⟨by decide +kernel, by decide⟩ ?_
      refine v_iretI dX12_change_29 rfl ?_
      first | exact o1 (by omega) | exact o2 (by omega) | exact o3 (by omega)
    · skip
      refine v_if_eq 30 27 dX12_change_24 rfl rfl (fun _ => ?_) (fun h => absurd (by decide) h)
      refine v_aload0 31 dX12_change_30 rfl ?_
      refine v_getR 34 dX12_change_31 rfl fX12_37 rfl rfl ?_
      refine v_iload1 35 dX12_change_34 rfl ?_
      refine v_iald 36 dX12_change_35 rfl rfl (⟨by omega, by omega⟩) ?_
      refine v_istore3 37 dX12_change_36 rfl (by decide) ?_
      refine v_aload0 38 dX12_change_37 rfl ?_
      refine v_getR 41 dX12_change_38 rfl fX12_37 rfl rfl ?_
      refine v_iload1 42 dX12_change_41 rfl ?_
      refine v_iload2 43 dX12_change_42 rfl ?_
      refine v_iast 44 dX12_change_43 rfl rfl (⟨by omega, by omega⟩) ?_
      refine v_iload3 45 dX12_change_44 rfl ?_
      refine v_iretI dX12_change_45 rfl ?_
      first | exact o1 (by omega) | exact o2 (by omega) | exact o3 (by omega)
set_option maxRecDepth 100000 in
set_option maxHeartbeats 4000000 in
theorem X12_rule {d : Nat} {n R F : Nat} {kd a b f : Int} {σ : Mem} {K : Int → Mem → Prop} (hn : σ 64 0 = n) (hn6 : n ≤ 6) (hd : 2 ≤ d) (hF : σ 64 10 = F) (hF6 : F ≤ 6) (hR : σ 64 12 = R) (hR12 : R ≤ 12) (o1 : (kd < 0 ∨ 5 < kd ∨ (kd = 5 ∧ (b < 0 ∨ 5 < b))) → K (-2) σ) (o2 : ¬ (kd < 0 ∨ 5 < kd ∨ (kd = 5 ∧ (b < 0 ∨ 5 < b))) ∧ ((kd ≠ 5 ∧ (a < 0 ∨ (n : Int) ≤ a ∨ b < 0 ∨ (n : Int) ≤ b)) ∨ f < 0 ∨ (F : Int) ≤ f) → K (-1) σ) (o3 : ¬ (kd < 0 ∨ 5 < kd ∨ (kd = 5 ∧ (b < 0 ∨ 5 < b))) ∧ ¬ ((kd ≠ 5 ∧ (a < 0 ∨ (n : Int) ≤ a ∨ b < 0 ∨ (n : Int) ≤ b)) ∨ f < 0 ∨ (F : Int) ≤ f) ∧ R = 12 → K (-4) σ) (o4 : ¬ (kd < 0 ∨ 5 < kd ∨ (kd = 5 ∧ (b < 0 ∨ 5 < b))) ∧ ¬ ((kd ≠ 5 ∧ (a < 0 ∨ (n : Int) ≤ a ∨ b < 0 ∨ (n : Int) ≤ b)) ∨ f < 0 ∨ (F : Int) ≤ f) ∧ R < 12 → K R (wr (wr (wr (wr (wr σ 75 R kd) 76 R a) 77 R b) 78 R f) 64 12 (R + 1))) : Run mX12_rule d [.inr (some 64), .inl kd, .inl a, .inl b, .inl f] σ (RI K) := by
  refine Run_of (ls := [.inr (some 64), .inl kd, .inl a, .inl b, .inl f]) (by decide) (Nat.le_of_ble_eq_true rfl) rfl ?_
  refine v_iload1 1 dX12_rule_0 rfl ?_
  refine v_iconst 2 dX12_rule_1 rfl ⟨by decide +kernel, by decide⟩ ?_
  refine v_iconst 3 dX12_rule_2 rfl ⟨by decide +kernel, by decide⟩ ?_
  refine v_csI3 mX12_out 6 dX12_rule_3 rfl kX12_96 (by omega) (Nat.le_of_ble_eq_true rfl) ?_
  refine X12_out (fun h3 => ?_) (fun h3 => ?_)
  · skip
    refine v_if_ne 23 9 dX12_rule_6 rfl rfl (fun _ => ?_) (fun h => absurd (by decide) h)
    refine v_bipush 25 dX12_rule_23 rfl ⟨by decide +kernel, by decide⟩ ?_
    refine v_iretI dX12_rule_25 rfl ?_
    first | exact o1 (by omega) | exact o2 (by omega) | exact o3 (by omega) | (rw [show (R : Int) + 1 - 1 = R by omega]; exact o4 (by omega))
  · skip
    refine v_if_ne 23 9 dX12_rule_6 rfl rfl (fun h => absurd h (by decide)) (fun _ => ?_)
    refine v_iload1 10 dX12_rule_9 rfl ?_
    refine v_iconst 11 dX12_rule_10 rfl ⟨by decide +kernel, by decide⟩ ?_
    refine v_icmp_ne 26 14 dX12_rule_11 rfl rfl (fun h11 => ?_) (fun h11 => ?_)
    · skip
      refine v_iload1 27 dX12_rule_26 rfl ?_
      refine v_iconst 28 dX12_rule_27 rfl ⟨by decide +kernel, by decide⟩ ?_
      refine v_icmp_ge 47 31 dX12_rule_28 rfl rfl (fun h28 => ?_) (fun h28 => ?_)
      · skip
        refine v_iload4 49 dX12_rule_47 rfl ?_
        refine v_iconst 50 dX12_rule_49 rfl ⟨by decide +kernel, by decide⟩ ?_
        refine v_aload0 51 dX12_rule_50 rfl ?_
        refine v_getI 54 10 dX12_rule_51 rfl fX12_111 rfl rfl rfl ?_
        refine v_iconst 55 dX12_rule_54 rfl ⟨by decide +kernel, by decide⟩ ?_
        refine v_isub 56 dX12_rule_55 rfl (⟨by omega, by omega⟩) ?_
        refine v_csI3 mX12_out 59 dX12_rule_56 rfl kX12_96 (by omega) (Nat.le_of_ble_eq_true rfl) ?_
        refine X12_out (fun h56 => ?_) (fun h56 => ?_)
        · skip
          refine v_if_eq 64 62 dX12_rule_59 rfl rfl (fun h => absurd h (by decide)) (fun _ => ?_)
          refine v_iconst 63 dX12_rule_62 rfl ⟨by decide +kernel, by decide⟩ ?_
          refine v_iretI dX12_rule_63 rfl ?_
          first | exact o1 (by omega) | exact o2 (by omega) | exact o3 (by omega) | (rw [show (R : Int) + 1 - 1 = R by omega]; exact o4 (by omega))
        · skip
          refine v_if_eq 64 62 dX12_rule_59 rfl rfl (fun _ => ?_) (fun h => absurd (by decide) h)
          refine v_aload0 65 dX12_rule_64 rfl ?_
          refine v_getIe 68 12 (R) dX12_rule_65 rfl fX12_114 rfl rfl rfl (hR) ?_
          refine v_bipush 70 dX12_rule_68 rfl ⟨by decide +kernel, by decide⟩ ?_
          refine v_icmp_ne 76 73 dX12_rule_70 rfl rfl (fun h70 => ?_) (fun h70 => ?_)
          · skip
            refine v_aload0 77 dX12_rule_76 rfl ?_
            refine v_getR 80 dX12_rule_77 rfl fX12_40 rfl rfl ?_
            refine v_aload0 81 dX12_rule_80 rfl ?_
            refine v_getIe 84 12 (R) dX12_rule_81 rfl fX12_114 rfl rfl rfl (hR) ?_
            refine v_iload1 85 dX12_rule_84 rfl ?_
            refine v_iast 86 dX12_rule_85 rfl rfl (⟨by omega, by omega⟩) ?_
            refine v_aload0 87 dX12_rule_86 rfl ?_
            refine v_getR 90 dX12_rule_87 rfl fX12_43 rfl rfl ?_
            refine v_aload0 91 dX12_rule_90 rfl ?_
            refine v_getIe 94 12 (R) dX12_rule_91 rfl fX12_114 rfl rfl rfl (hR) ?_
            refine v_iload2 95 dX12_rule_94 rfl ?_
            refine v_iast 96 dX12_rule_95 rfl rfl (⟨by omega, by omega⟩) ?_
            refine v_aload0 97 dX12_rule_96 rfl ?_
            refine v_getR 100 dX12_rule_97 rfl fX12_46 rfl rfl ?_
            refine v_aload0 101 dX12_rule_100 rfl ?_
            refine v_getIe 104 12 (R) dX12_rule_101 rfl fX12_114 rfl rfl rfl (hR) ?_
            refine v_iload3 105 dX12_rule_104 rfl ?_
            refine v_iast 106 dX12_rule_105 rfl rfl (⟨by omega, by omega⟩) ?_
            refine v_aload0 107 dX12_rule_106 rfl ?_
            refine v_getR 110 dX12_rule_107 rfl fX12_49 rfl rfl ?_
            refine v_aload0 111 dX12_rule_110 rfl ?_
            refine v_getIe 114 12 (R) dX12_rule_111 rfl fX12_114 rfl rfl rfl (hR) ?_
            refine v_iload4 116 dX12_rule_114 rfl ?_
            refine v_iast 117 dX12_rule_116 rfl rfl (⟨by omega, by omega⟩) ?_
            refine v_aload0 118 dX12_rule_117 rfl ?_
            refine v_dup 119 dX12_rule_118 rfl ?_
            refine v_getIe 122 12 (R) dX12_rule_119 rfl fX12_114 rfl rfl rfl (hR) ?_
            refine v_iconst 123 dX12_rule_122 rfl ⟨by decide +kernel, by decide⟩ ?_
            refine v_iadd 124 dX12_rule_123 rfl (⟨by omega, by omega⟩) ?_
            refine v_putI 127 12 dX12_rule_124 rfl pX12_114 rfl rfl rfl ?_
            refine v_aload0 128 dX12_rule_127 rfl ?_
            refine v_getIe 131 12 ((R : Int) + 1) dX12_rule_128 rfl fX12_114 rfl rfl rfl (rfl) ?_
            refine v_iconst 132 dX12_rule_131 rfl ⟨by decide +kernel, by decide⟩ ?_
            refine v_isub 133 dX12_rule_132 rfl (⟨by omega, by omega⟩) ?_
            refine v_iretI dX12_rule_133 rfl ?_
            first | exact o1 (by omega) | exact o2 (by omega) | exact o3 (by omega) | (rw [show (R : Int) + 1 - 1 = R by omega]; exact o4 (by omega))
          · skip
            refine v_bipush 75 dX12_rule_73 rfl ⟨by decide +kernel, by decide⟩ ?_
            refine v_iretI dX12_rule_75 rfl ?_
            first | exact o1 (by omega) | exact o2 (by omega) | exact o3 (by omega) | (rw [show (R : Int) + 1 - 1 = R by omega]; exact o4 (by omega))
      · skip
        refine v_aload0 32 dX12_rule_31 rfl ?_
        refine v_iload2 33 dX12_rule_32 rfl ?_
        refine v_cvI1 mX12_noDecision 36 dX12_rule_33 rfl kX12_103 rfl rfl (by omega) (Nat.le_of_ble_eq_true rfl) ?_
        refine X12_noDecision (by omega) (by omega) (fun h33 => ?_) (fun h33 => ?_)
        · skip
          refine v_if_ne 62 39 dX12_rule_36 rfl rfl (fun _ => ?_) (fun h => absurd (by decide) h)
          refine v_iconst 63 dX12_rule_62 rfl ⟨by decide +kernel, by decide⟩ ?_
          refine v_iretI dX12_rule_63 rfl ?_
          first | exact o1 (by omega) | exact o2 (by omega) | exact o3 (by omega) | (rw [show (R : Int) + 1 - 1 = R by omega]; exact o4 (by omega))
        · skip
          refine v_if_ne 62 39 dX12_rule_36 rfl rfl (fun h => absurd h (by decide)) (fun _ => ?_)
          refine v_aload0 40 dX12_rule_39 rfl ?_
          refine v_iload3 41 dX12_rule_40 rfl ?_
          refine v_cvI1 mX12_noDecision 44 dX12_rule_41 rfl kX12_103 rfl rfl (by omega) (Nat.le_of_ble_eq_true rfl) ?_
          refine X12_noDecision (by omega) (by omega) (fun h41 => ?_) (fun h41 => ?_)
          · skip
            refine v_if_ne 62 47 dX12_rule_44 rfl rfl (fun _ => ?_) (fun h => absurd (by decide) h)
            refine v_iconst 63 dX12_rule_62 rfl ⟨by decide +kernel, by decide⟩ ?_
            refine v_iretI dX12_rule_63 rfl ?_
            first | exact o1 (by omega) | exact o2 (by omega) | exact o3 (by omega) | (rw [show (R : Int) + 1 - 1 = R by omega]; exact o4 (by omega))
          · skip
            refine v_if_ne 62 47 dX12_rule_44 rfl rfl (fun h => absurd h (by decide)) (fun _ => ?_)
            refine v_iload4 49 dX12_rule_47 rfl ?_
            refine v_iconst 50 dX12_rule_49 rfl ⟨by decide +kernel, by decide⟩ ?_
            refine v_aload0 51 dX12_rule_50 rfl ?_
            refine v_getI 54 10 dX12_rule_51 rfl fX12_111 rfl rfl rfl ?_
            refine v_iconst 55 dX12_rule_54 rfl ⟨by decide +kernel, by decide⟩ ?_
            refine v_isub 56 dX12_rule_55 rfl (⟨by omega, by omega⟩) ?_
            refine v_csI3 mX12_out 59 dX12_rule_56 rfl kX12_96 (by omega) (Nat.le_of_ble_eq_true rfl) ?_
            refine X12_out (fun h56 => ?_) (fun h56 => ?_)
            · skip
              refine v_if_eq 64 62 dX12_rule_59 rfl rfl (fun h => absurd h (by decide)) (fun _ => ?_)
              refine v_iconst 63 dX12_rule_62 rfl ⟨by decide +kernel, by decide⟩ ?_
              refine v_iretI dX12_rule_63 rfl ?_
              first | exact o1 (by omega) | exact o2 (by omega) | exact o3 (by omega) | (rw [show (R : Int) + 1 - 1 = R by omega]; exact o4 (by omega))
            · skip
              refine v_if_eq 64 62 dX12_rule_59 rfl rfl (fun _ => ?_) (fun h => absurd (by decide) h)
              refine v_aload0 65 dX12_rule_64 rfl ?_
              refine v_getIe 68 12 (R) dX12_rule_65 rfl fX12_114 rfl rfl rfl (hR) ?_
              refine v_bipush 70 dX12_rule_68 rfl ⟨by decide +kernel, by decide⟩ ?_
              refine v_icmp_ne 76 73 dX12_rule_70 rfl rfl (fun h70 => ?_) (fun h70 => ?_)
              · skip
                refine v_aload0 77 dX12_rule_76 rfl ?_
                refine v_getR 80 dX12_rule_77 rfl fX12_40 rfl rfl ?_
                refine v_aload0 81 dX12_rule_80 rfl ?_
                refine v_getIe 84 12 (R) dX12_rule_81 rfl fX12_114 rfl rfl rfl (hR) ?_
                refine v_iload1 85 dX12_rule_84 rfl ?_
                refine v_iast 86 dX12_rule_85 rfl rfl (⟨by omega, by omega⟩) ?_
                refine v_aload0 87 dX12_rule_86 rfl ?_
                refine v_getR 90 dX12_rule_87 rfl fX12_43 rfl rfl ?_
                refine v_aload0 91 dX12_rule_90 rfl ?_
                refine v_getIe 94 12 (R) dX12_rule_91 rfl fX12_114 rfl rfl rfl (hR) ?_
                refine v_iload2 95 dX12_rule_94 rfl ?_
                refine v_iast 96 dX12_rule_95 rfl rfl (⟨by omega, by omega⟩) ?_
                refine v_aload0 97 dX12_rule_96 rfl ?_
                refine v_getR 100 dX12_rule_97 rfl fX12_46 rfl rfl ?_
                refine v_aload0 101 dX12_rule_100 rfl ?_
                refine v_getIe 104 12 (R) dX12_rule_101 rfl fX12_114 rfl rfl rfl (hR) ?_
                refine v_iload3 105 dX12_rule_104 rfl ?_
                refine v_iast 106 dX12_rule_105 rfl rfl (⟨by omega, by omega⟩) ?_
                refine v_aload0 107 dX12_rule_106 rfl ?_
                refine v_getR 110 dX12_rule_107 rfl fX12_49 rfl rfl ?_
                refine v_aload0 111 dX12_rule_110 rfl ?_
                refine v_getIe 114 12 (R) dX12_rule_111 rfl fX12_114 rfl rfl rfl (hR) ?_
                refine v_iload4 116 dX12_rule_114 rfl ?_
                refine v_iast 117 dX12_rule_116 rfl rfl (⟨by omega, by omega⟩) ?_
                refine v_aload0 118 dX12_rule_117 rfl ?_
                refine v_dup 119 dX12_rule_118 rfl ?_
                refine v_getIe 122 12 (R) dX12_rule_119 rfl fX12_114 rfl rfl rfl (hR) ?_
                refine v_iconst 123 dX12_rule_122 rfl ⟨by decide +kernel, by decide⟩ ?_
                refine v_iadd 124 dX12_rule_123 rfl (⟨by omega, by omega⟩) ?_
                refine v_putI 127 12 dX12_rule_124 rfl pX12_114 rfl rfl rfl ?_
                refine v_aload0 128 dX12_rule_127 rfl ?_
                refine v_getIe 131 12 ((R : Int) + 1) dX12_rule_128 rfl fX12_114 rfl rfl rfl (rfl) ?_
                refine v_iconst 132 dX12_rule_131 rfl ⟨by decide +kernel, by decide⟩ ?_
                refine v_isub 133 dX12_rule_132 rfl (⟨by omega, by omega⟩) ?_
                refine v_iretI dX12_rule_133 rfl ?_
                first | exact o1 (by omega) | exact o2 (by omega) | exact o3 (by omega) | (rw [show (R : Int) + 1 - 1 = R by omega]; exact o4 (by omega))
              · skip
                refine v_bipush 75 dX12_rule_73 rfl ⟨by decide +kernel, by decide⟩ ?_
                refine v_iretI dX12_rule_75 rfl ?_
                first | exact o1 (by omega) | exact o2 (by omega) | exact o3 (by omega) | (rw [show (R : Int) + 1 - 1 = R by omega]; exact o4 (by omega))
    · skip
      refine v_iload3 15 dX12_rule_14 rfl ?_
      refine v_iconst 16 dX12_rule_15 rfl ⟨by decide +kernel, by decide⟩ ?_
      refine v_iconst 17 dX12_rule_16 rfl ⟨by decide +kernel, by decide⟩ ?_
      refine v_csI3 mX12_out 20 dX12_rule_17 rfl kX12_96 (by omega) (Nat.le_of_ble_eq_true rfl) ?_
      refine X12_out (fun h17 => ?_) (fun h17 => ?_)
      · skip
        refine v_if_eq 26 23 dX12_rule_20 rfl rfl (fun h => absurd h (by decide)) (fun _ => ?_)
        refine v_bipush 25 dX12_rule_23 rfl ⟨by decide +kernel, by decide⟩ ?_
        refine v_iretI dX12_rule_25 rfl ?_
        first | exact o1 (by omega) | exact o2 (by omega) | exact o3 (by omega) | (rw [show (R : Int) + 1 - 1 = R by omega]; exact o4 (by omega))
      · skip
        refine v_if_eq 26 23 dX12_rule_20 rfl rfl (fun _ => ?_) (fun h => absurd (by decide) h)
        refine v_iload1 27 dX12_rule_26 rfl ?_
        refine v_iconst 28 dX12_rule_27 rfl ⟨by decide +kernel, by decide⟩ ?_
        refine v_icmp_ge 47 31 dX12_rule_28 rfl rfl (fun h28 => ?_) (fun h28 => ?_)
        · skip
          refine v_iload4 49 dX12_rule_47 rfl ?_
          refine v_iconst 50 dX12_rule_49 rfl ⟨by decide +kernel, by decide⟩ ?_
          refine v_aload0 51 dX12_rule_50 rfl ?_
          refine v_getI 54 10 dX12_rule_51 rfl fX12_111 rfl rfl rfl ?_
          refine v_iconst 55 dX12_rule_54 rfl ⟨by decide +kernel, by decide⟩ ?_
          refine v_isub 56 dX12_rule_55 rfl (⟨by omega, by omega⟩) ?_
          refine v_csI3 mX12_out 59 dX12_rule_56 rfl kX12_96 (by omega) (Nat.le_of_ble_eq_true rfl) ?_
          refine X12_out (fun h56 => ?_) (fun h56 => ?_)
          · skip
            refine v_if_eq 64 62 dX12_rule_59 rfl rfl (fun h => absurd h (by decide)) (fun _ => ?_)
            refine v_iconst 63 dX12_rule_62 rfl ⟨by decide +kernel, by decide⟩ ?_
            refine v_iretI dX12_rule_63 rfl ?_
            first | exact o1 (by omega) | exact o2 (by omega) | exact o3 (by omega) | (rw [show (R : Int) + 1 - 1 = R by omega]; exact o4 (by omega))
          · skip
            refine v_if_eq 64 62 dX12_rule_59 rfl rfl (fun _ => ?_) (fun h => absurd (by decide) h)
            refine v_aload0 65 dX12_rule_64 rfl ?_
            refine v_getIe 68 12 (R) dX12_rule_65 rfl fX12_114 rfl rfl rfl (hR) ?_
            refine v_bipush 70 dX12_rule_68 rfl ⟨by decide +kernel, by decide⟩ ?_
            refine v_icmp_ne 76 73 dX12_rule_70 rfl rfl (fun h70 => ?_) (fun h70 => ?_)
            · skip
              refine v_aload0 77 dX12_rule_76 rfl ?_
              refine v_getR 80 dX12_rule_77 rfl fX12_40 rfl rfl ?_
              refine v_aload0 81 dX12_rule_80 rfl ?_
              refine v_getIe 84 12 (R) dX12_rule_81 rfl fX12_114 rfl rfl rfl (hR) ?_
              refine v_iload1 85 dX12_rule_84 rfl ?_
              refine v_iast 86 dX12_rule_85 rfl rfl (⟨by omega, by omega⟩) ?_
              refine v_aload0 87 dX12_rule_86 rfl ?_
              refine v_getR 90 dX12_rule_87 rfl fX12_43 rfl rfl ?_
              refine v_aload0 91 dX12_rule_90 rfl ?_
              refine v_getIe 94 12 (R) dX12_rule_91 rfl fX12_114 rfl rfl rfl (hR) ?_
              refine v_iload2 95 dX12_rule_94 rfl ?_
              refine v_iast 96 dX12_rule_95 rfl rfl (⟨by omega, by omega⟩) ?_
              refine v_aload0 97 dX12_rule_96 rfl ?_
              refine v_getR 100 dX12_rule_97 rfl fX12_46 rfl rfl ?_
              refine v_aload0 101 dX12_rule_100 rfl ?_
              refine v_getIe 104 12 (R) dX12_rule_101 rfl fX12_114 rfl rfl rfl (hR) ?_
              refine v_iload3 105 dX12_rule_104 rfl ?_
              refine v_iast 106 dX12_rule_105 rfl rfl (⟨by omega, by omega⟩) ?_
              refine v_aload0 107 dX12_rule_106 rfl ?_
              refine v_getR 110 dX12_rule_107 rfl fX12_49 rfl rfl ?_
              refine v_aload0 111 dX12_rule_110 rfl ?_
              refine v_getIe 114 12 (R) dX12_rule_111 rfl fX12_114 rfl rfl rfl (hR) ?_
              refine v_iload4 116 dX12_rule_114 rfl ?_
              refine v_iast 117 dX12_rule_116 rfl rfl (⟨by omega, by omega⟩) ?_
              refine v_aload0 118 dX12_rule_117 rfl ?_
              refine v_dup 119 dX12_rule_118 rfl ?_
              refine v_getIe 122 12 (R) dX12_rule_119 rfl fX12_114 rfl rfl rfl (hR) ?_
              refine v_iconst 123 dX12_rule_122 rfl ⟨by decide +kernel, by decide⟩ ?_
              refine v_iadd 124 dX12_rule_123 rfl (⟨by omega, by omega⟩) ?_
              refine v_putI 127 12 dX12_rule_124 rfl pX12_114 rfl rfl rfl ?_
              refine v_aload0 128 dX12_rule_127 rfl ?_
              refine v_getIe 131 12 ((R : Int) + 1) dX12_rule_128 rfl fX12_114 rfl rfl rfl (rfl) ?_
              refine v_iconst 132 dX12_rule_131 rfl ⟨by decide +kernel, by decide⟩ ?_
              refine v_isub 133 dX12_rule_132 rfl (⟨by omega, by omega⟩) ?_
              refine v_iretI dX12_rule_133 rfl ?_
              first | exact o1 (by omega) | exact o2 (by omega) | exact o3 (by omega) | (rw [show (R : Int) + 1 - 1 = R by omega]; exact o4 (by omega))
            · skip
              refine v_bipush 75 dX12_rule_73 rfl ⟨by decide +kernel, by decide⟩ ?_
              refine v_iretI dX12_rule_75 rfl ?_
              first | exact o1 (by omega) | exact o2 (by omega) | exact o3 (by omega) | (rw [show (R : Int) + 1 - 1 = R by omega]; exact o4 (by omega))
        · skip
          refine v_aload0 32 dX12_rule_31 rfl ?_
          refine v_iload2 33 dX12_rule_32 rfl ?_
          refine v_cvI1 mX12_noDecision 36 dX12_rule_33 rfl kX12_103 rfl rfl (by omega) (Nat.le_of_ble_eq_true rfl) ?_
          refine X12_noDecision (by omega) (by omega) (fun h33 => ?_) (fun h33 => ?_)
          · skip
            refine v_if_ne 62 39 dX12_rule_36 rfl rfl (fun _ => ?_) (fun h => absurd (by decide) h)
            refine v_iconst 63 dX12_rule_62 rfl ⟨by decide +kernel, by decide⟩ ?_
            refine v_iretI dX12_rule_63 rfl ?_
            first | exact o1 (by omega) | exact o2 (by omega) | exact o3 (by omega) | (rw [show (R : Int) + 1 - 1 = R by omega]; exact o4 (by omega))
          · skip
            refine v_if_ne 62 39 dX12_rule_36 rfl rfl (fun h => absurd h (by decide)) (fun _ => ?_)
            refine v_aload0 40 dX12_rule_39 rfl ?_
            refine v_iload3 41 dX12_rule_40 rfl ?_
            refine v_cvI1 mX12_noDecision 44 dX12_rule_41 rfl kX12_103 rfl rfl (by omega) (Nat.le_of_ble_eq_true rfl) ?_
            refine X12_noDecision (by omega) (by omega) (fun h41 => ?_) (fun h41 => ?_)
            · skip
              refine v_if_ne 62 47 dX12_rule_44 rfl rfl (fun _ => ?_) (fun h => absurd (by decide) h)
              refine v_iconst 63 dX12_rule_62 rfl ⟨by decide +kernel, by decide⟩ ?_
              refine v_iretI dX12_rule_63 rfl ?_
              first | exact o1 (by omega) | exact o2 (by omega) | exact o3 (by omega) | (rw [show (R : Int) + 1 - 1 = R by omega]; exact o4 (by omega))
            · skip
              refine v_if_ne 62 47 dX12_rule_44 rfl rfl (fun h => absurd h (by decide)) (fun _ => ?_)
              refine v_iload4 49 dX12_rule_47 rfl ?_
              refine v_iconst 50 dX12_rule_49 rfl ⟨by decide +kernel, by decide⟩ ?_
              refine v_aload0 51 dX12_rule_50 rfl ?_
              refine v_getI 54 10 dX12_rule_51 rfl fX12_111 rfl rfl rfl ?_
              refine v_iconst 55 dX12_rule_54 rfl ⟨by decide +kernel, by decide⟩ ?_
              refine v_isub 56 dX12_rule_55 rfl (⟨by omega, by omega⟩) ?_
              refine v_csI3 mX12_out 59 dX12_rule_56 rfl kX12_96 (by omega) (Nat.le_of_ble_eq_true rfl) ?_
              refine X12_out (fun h56 => ?_) (fun h56 => ?_)
              · skip
                refine v_if_eq 64 62 dX12_rule_59 rfl rfl (fun h => absurd h (by decide)) (fun _ => ?_)
                refine v_iconst 63 dX12_rule_62 rfl ⟨by decide +kernel, by decide⟩ ?_
                refine v_iretI dX12_rule_63 rfl ?_
                first | exact o1 (by omega) | exact o2 (by omega) | exact o3 (by omega) | (rw [show (R : Int) + 1 - 1 = R by omega]; exact o4 (by omega))
              · skip
                refine v_if_eq 64 62 dX12_rule_59 rfl rfl (fun _ => ?_) (fun h => absurd (by decide) h)
                refine v_aload0 65 dX12_rule_64 rfl ?_
                refine v_getIe 68 12 (R) dX12_rule_65 rfl fX12_114 rfl rfl rfl (hR) ?_
                refine v_bipush 70 dX12_rule_68 rfl ⟨by decide +kernel, by decide⟩ ?_
                refine v_icmp_ne 76 73 dX12_rule_70 rfl rfl (fun h70 => ?_) (fun h70 => ?_)
                · skip
                  refine v_aload0 77 dX12_rule_76 rfl ?_
                  refine v_getR 80 dX12_rule_77 rfl fX12_40 rfl rfl ?_
                  refine v_aload0 81 dX12_rule_80 rfl ?_
                  refine v_getIe 84 12 (R) dX12_rule_81 rfl fX12_114 rfl rfl rfl (hR) ?_
                  refine v_iload1 85 dX12_rule_84 rfl ?_
                  refine v_iast 86 dX12_rule_85 rfl rfl (⟨by omega, by omega⟩) ?_
                  refine v_aload0 87 dX12_rule_86 rfl ?_
                  refine v_getR 90 dX12_rule_87 rfl fX12_43 rfl rfl ?_
                  refine v_aload0 91 dX12_rule_90 rfl ?_
                  refine v_getIe 94 12 (R) dX12_rule_91 rfl fX12_114 rfl rfl rfl (hR) ?_
                  refine v_iload2 95 dX12_rule_94 rfl ?_
                  refine v_iast 96 dX12_rule_95 rfl rfl (⟨by omega, by omega⟩) ?_
                  refine v_aload0 97 dX12_rule_96 rfl ?_
                  refine v_getR 100 dX12_rule_97 rfl fX12_46 rfl rfl ?_
                  refine v_aload0 101 dX12_rule_100 rfl ?_
                  refine v_getIe 104 12 (R) dX12_rule_101 rfl fX12_114 rfl rfl rfl (hR) ?_
                  refine v_iload3 105 dX12_rule_104 rfl ?_
                  refine v_iast 106 dX12_rule_105 rfl rfl (⟨by omega, by omega⟩) ?_
                  refine v_aload0 107 dX12_rule_106 rfl ?_
                  refine v_getR 110 dX12_rule_107 rfl fX12_49 rfl rfl ?_
                  refine v_aload0 111 dX12_rule_110 rfl ?_
                  refine v_getIe 114 12 (R) dX12_rule_111 rfl fX12_114 rfl rfl rfl (hR) ?_
                  refine v_iload4 116 dX12_rule_114 rfl ?_
                  refine v_iast 117 dX12_rule_116 rfl rfl (⟨by omega, by omega⟩) ?_
                  refine v_aload0 118 dX12_rule_117 rfl ?_
                  refine v_dup 119 dX12_rule_118 rfl ?_
                  refine v_getIe 122 12 (R) dX12_rule_119 rfl fX12_114 rfl rfl rfl (hR) ?_
                  refine v_iconst 123 dX12_rule_122 rfl ⟨by decide +kernel, by decide⟩ ?_
                  refine v_iadd 124 dX12_rule_123 rfl (⟨by omega, by omega⟩) ?_
                  refine v_putI 127 12 dX12_rule_124 rfl pX12_114 rfl rfl rfl ?_
                  refine v_aload0 128 dX12_rule_127 rfl ?_
                  refine v_getIe 131 12 ((R : Int) + 1) dX12_rule_128 rfl fX12_114 rfl rfl rfl (rfl) ?_
                  refine v_iconst 132 dX12_rule_131 rfl ⟨by decide +kernel, by decide⟩ ?_
                  refine v_isub 133 dX12_rule_132 rfl (⟨by omega, by omega⟩) ?_
                  refine v_iretI dX12_rule_133 rfl ?_
                  first | exact o1 (by omega) | exact o2 (by omega) | exact o3 (by omega) | (rw [show (R : Int) + 1 - 1 = R by omega]; exact o4 (by omega))
                · skip
                  refine v_bipush 75 dX12_rule_73 rfl ⟨by decide +kernel, by decide⟩ ?_
                  refine v_iretI dX12_rule_75 rfl ?_
                  first | exact o1 (by omega) | exact o2 (by omega) | exact o3 (by omega) | (rw [show (R : Int) + 1 - 1 = R by omega]; exact o4 (by omega))
set_option maxRecDepth 100000 in
set_option maxHeartbeats 4000000 in
theorem X12_first {d : Nat} {v : Int} {σ : Mem} {K : Int → Mem → Prop} (hd : 2 ≤ d) (o1 : v < 0 ∨ 1 < v → K (-2) σ) (o2 : 0 ≤ v ∧ v ≤ 1 → K (σ 64 17) (wr σ 64 17 v)) : Run mX12_first d [.inr (some 64), .inl v] σ (RI K) := by
  refine Run_of (ls := [.inr (some 64), .inl v, .inr none]) (by decide) (Nat.le_of_ble_eq_true rfl) rfl ?_
  refine v_iload1 1 dX12_first_0 rfl ?_
  refine v_iconst 2 dX12_first_1 rfl ⟨by decide +kernel, by decide⟩ ?_
  refine v_iconst 3 dX12_first_2 rfl ⟨by decide +kernel, by decide⟩ ?_
  refine v_csI3 mX12_out 6 dX12_first_3 rfl kX12_96 (by omega) (Nat.le_of_ble_eq_true rfl) ?_
  refine X12_out (fun h3 => ?_) (fun h3 => ?_)
  · skip
    refine v_if_eq 12 9 dX12_first_6 rfl rfl (fun h => absurd h (by decide)) (fun _ => ?_)
    refine v_bipush 11 dX12_first_9 rfl ⟨by decide +kernel, by decide⟩ ?_
    refine v_iretI dX12_first_11 rfl ?_
    first | exact o1 (by omega) | exact o2 (by omega)
  · skip
    refine v_if_eq 12 9 dX12_first_6 rfl rfl (fun _ => ?_) (fun h => absurd (by decide) h)
    refine v_aload0 13 dX12_first_12 rfl ?_
    refine v_getI 16 17 dX12_first_13 rfl fX12_117 rfl rfl rfl ?_
    refine v_istore2 17 dX12_first_16 rfl (by decide) ?_
    refine v_aload0 18 dX12_first_17 rfl ?_
    refine v_iload1 19 dX12_first_18 rfl ?_
    refine v_putI 22 17 dX12_first_19 rfl pX12_117 rfl rfl rfl ?_
    refine v_iload2 23 dX12_first_22 rfl ?_
    refine v_iretI dX12_first_23 rfl ?_
    first | exact o1 (by omega) | exact o2 (by omega)
set_option maxRecDepth 100000 in
set_option maxHeartbeats 4000000 in
theorem X12_put {d : Nat} {n : Nat} {k v : Int} {σ : Mem} {K : Int → Mem → Prop} (hn : σ 64 0 = n) (hn6 : n ≤ 6) (hd : 2 ≤ d) (o1 : k < 0 ∨ (n : Int) ≤ k → K (-1) σ) (o2 : (0 ≤ k ∧ k < n) ∧ (v < σ 65 k ∨ σ 66 k < v) → K (-2) σ) (o3 : (0 ≤ k ∧ k < n) ∧ (σ 65 k ≤ v ∧ v ≤ σ 66 k) → K (σ 72 k) (wr σ 72 k v)) : Run mX12_put d [.inr (some 64), .inl k, .inl v] σ (RI K) := by
  refine Run_of (ls := [.inr (some 64), .inl k, .inl v, .inr none]) (by decide) (Nat.le_of_ble_eq_true rfl) rfl ?_
  refine v_aload0 1 dX12_put_0 rfl ?_
  refine v_iload1 2 dX12_put_1 rfl ?_
  refine v_cvI1 mX12_noDecision 5 dX12_put_2 rfl kX12_103 rfl rfl (by omega) (Nat.le_of_ble_eq_true rfl) ?_
  refine X12_noDecision (by omega) (by omega) (fun h2 => ?_) (fun h2 => ?_)
  · skip
    refine v_if_eq 10 8 dX12_put_5 rfl rfl (fun h => absurd h (by decide)) (fun _ => ?_)
    refine v_iconst 9 dX12_put_8 rfl ⟨by decide +kernel, by decide⟩ ?_
    refine v_iretI dX12_put_9 rfl ?_
    first | exact o1 (by omega) | exact o2 (by omega) | exact o3 (by omega)
  · skip
    refine v_if_eq 10 8 dX12_put_5 rfl rfl (fun _ => ?_) (fun h => absurd (by decide) h)
    refine v_aload0 11 dX12_put_10 rfl ?_
    refine v_iload1 12 dX12_put_11 rfl ?_
    refine v_iload2 13 dX12_put_12 rfl ?_
    refine v_cvI2 mX12_mayHave 16 dX12_put_13 rfl kX12_107 rfl rfl (by omega) (Nat.le_of_ble_eq_true rfl) ?_
    refine X12_mayHave (by omega) (by omega) (fun h13 => ?_) (fun h13 => ?_)
    · skip
      refine v_if_ne 22 19 dX12_put_16 rfl rfl (fun _ => ?_) (fun h => absurd (by decide) h)
      refine v_aload0 23 dX12_put_22 rfl ?_
      refine v_getR 26 dX12_put_23 rfl fX12_31 rfl rfl ?_
      refine v_iload1 27 dX12_put_26 rfl ?_
      refine v_iald 28 dX12_put_27 rfl rfl (⟨by omega, by omega⟩) ?_
      refine v_istore3 29 dX12_put_28 rfl (by decide) ?_
      refine v_aload0 30 dX12_put_29 rfl ?_
      refine v_getR 33 dX12_put_30 rfl fX12_31 rfl rfl ?_
      refine v_iload1 34 dX12_put_33 rfl ?_
      refine v_iload2 35 dX12_put_34 rfl ?_
      refine v_iast 36 dX12_put_35 rfl rfl (⟨by omega, by omega⟩) ?_
      refine v_iload3 37 dX12_put_36 rfl ?_
      refine v_iretI dX12_put_37 rfl ?_
      first | exact o1 (by omega) | exact o2 (by omega) | exact o3 (by omega)
    · skip
      refine v_if_ne 22 19 dX12_put_16 rfl rfl (fun h => absurd h (by decide)) (fun _ => ?_)
      refine v_bipush 21 dX12_put_19 rfl ⟨by decide +kernel, by decide⟩ ?_
      refine v_iretI dX12_put_21 rfl ?_
      first | exact o1 (by omega) | exact o2 (by omega) | exact o3 (by omega)
set_option maxRecDepth 100000 in
set_option maxHeartbeats 4000000 in
theorem X12_value {d : Nat} {n : Nat} {k : Int} {σ : Mem} {K : Int → Mem → Prop} (hn : σ 64 0 = n) (hn6 : n ≤ 6) (hd : 2 ≤ d) (o1 : k < 0 ∨ (n : Int) ≤ k → K (-1) σ) (o2 : (0 ≤ k ∧ k < n) → K (σ 72 k) σ) : Run mX12_value d [.inr (some 64), .inl k] σ (RI K) := by
  refine Run_of (ls := [.inr (some 64), .inl k]) (by decide) (Nat.le_of_ble_eq_true rfl) rfl ?_
  refine v_aload0 1 dX12_value_0 rfl ?_
  refine v_iload1 2 dX12_value_1 rfl ?_
  refine v_cvI1 mX12_noDecision 5 dX12_value_2 rfl kX12_103 rfl rfl (by omega) (Nat.le_of_ble_eq_true rfl) ?_
  refine X12_noDecision (by omega) (by omega) (fun h2 => ?_) (fun h2 => ?_)
  · skip
    refine v_if_eq 12 8 dX12_value_5 rfl rfl (fun h => absurd h (by decide)) (fun _ => ?_)
    refine v_iconst 9 dX12_value_8 rfl ⟨by decide +kernel, by decide⟩ ?_
    refine v_goto 18 dX12_value_9 rfl ?_
    refine v_iretI dX12_value_18 rfl ?_
    first | exact o1 (by omega) | exact o2 (by omega)
  · skip
    refine v_if_eq 12 8 dX12_value_5 rfl rfl (fun _ => ?_) (fun h => absurd (by decide) h)
    refine v_aload0 13 dX12_value_12 rfl ?_
    refine v_getR 16 dX12_value_13 rfl fX12_31 rfl rfl ?_
    refine v_iload1 17 dX12_value_16 rfl ?_
    refine v_iald 18 dX12_value_17 rfl rfl (⟨by omega, by omega⟩) ?_
    refine v_iretI dX12_value_18 rfl ?_
    first | exact o1 (by omega) | exact o2 (by omega)
set_option maxRecDepth 100000 in
set_option maxHeartbeats 4000000 in
theorem X12_base {d : Nat} {kp : Nat} {k : Int} {σ : Mem} {K : Int → Mem → Prop} (hd : 2 ≤ d) (hkp : σ 64 18 = kp) (hkp3 : kp ≤ 3) (o1 : k < 0 ∨ (kp : Int) ≤ k → K (-1) σ) (o2 : (0 ≤ k ∧ k < kp) → K (σ 64 21) (wr σ 64 21 k)) : Run mX12_base d [.inr (some 64), .inl k] σ (RI K) := by
  refine Run_of (ls := [.inr (some 64), .inl k, .inr none]) (by decide) (Nat.le_of_ble_eq_true rfl) rfl ?_
  refine v_iload1 1 dX12_base_0 rfl ?_
  refine v_iconst 2 dX12_base_1 rfl ⟨by decide +kernel, by decide⟩ ?_
  refine v_aload0 3 dX12_base_2 rfl ?_
  refine v_getI 6 18 dX12_base_3 rfl fX12_100 rfl rfl rfl ?_
  refine v_iconst 7 dX12_base_6 rfl ⟨by decide +kernel, by decide⟩ ?_
  refine v_isub 8 dX12_base_7 rfl (⟨by omega, by omega⟩) ?_
  refine v_csI3 mX12_out 11 dX12_base_8 rfl kX12_96 (by omega) (Nat.le_of_ble_eq_true rfl) ?_
  refine X12_out (fun h8 => ?_) (fun h8 => ?_)
  · skip
    refine v_if_eq 16 14 dX12_base_11 rfl rfl (fun h => absurd h (by decide)) (fun _ => ?_)
    refine v_iconst 15 dX12_base_14 rfl ⟨by decide +kernel, by decide⟩ ?_
    refine v_iretI dX12_base_15 rfl ?_
    first | exact o1 (by omega) | exact o2 (by omega)
  · skip
    refine v_if_eq 16 14 dX12_base_11 rfl rfl (fun _ => ?_) (fun h => absurd (by decide) h)
    refine v_aload0 17 dX12_base_16 rfl ?_
    refine v_getI 20 21 dX12_base_17 rfl fX12_58 rfl rfl rfl ?_
    refine v_istore2 21 dX12_base_20 rfl (by decide) ?_
    refine v_aload0 22 dX12_base_21 rfl ?_
    refine v_iload1 23 dX12_base_22 rfl ?_
    refine v_putI 26 21 dX12_base_23 rfl pX12_58 rfl rfl rfl ?_
    refine v_iload2 27 dX12_base_26 rfl ?_
    refine v_iretI dX12_base_27 rfl ?_
    first | exact o1 (by omega) | exact o2 (by omega)
set_option maxRecDepth 100000 in
set_option maxHeartbeats 4000000 in
theorem X12_old {d : Nat} {n kp : Nat} {k j : Int} {σ : Mem} {K : Int → Mem → Prop} (hn : σ 64 0 = n) (hn6 : n ≤ 6) (hd : 2 ≤ d) (hkp : σ 64 18 = kp) (hkp3 : kp ≤ 3) (o1 : k < 0 ∨ (kp : Int) ≤ k ∨ j < 0 ∨ (n : Int) ≤ j → K (-1) σ) (o2 : 0 ≤ k ∧ k < kp ∧ 0 ≤ j ∧ j < n → K (σ 79 (6 * k + j)) σ) : Run mX12_old d [.inr (some 64), .inl k, .inl j] σ (RI K) := by
  refine Run_of (ls := [.inr (some 64), .inl k, .inl j]) (by decide) (Nat.le_of_ble_eq_true rfl) rfl ?_
  refine v_iload1 1 dX12_old_0 rfl ?_
  refine v_iconst 2 dX12_old_1 rfl ⟨by decide +kernel, by decide⟩ ?_
  refine v_aload0 3 dX12_old_2 rfl ?_
  refine v_getI 6 18 dX12_old_3 rfl fX12_100 rfl rfl rfl ?_
  refine v_iconst 7 dX12_old_6 rfl ⟨by decide +kernel, by decide⟩ ?_
  refine v_isub 8 dX12_old_7 rfl (⟨by omega, by omega⟩) ?_
  refine v_csI3 mX12_out 11 dX12_old_8 rfl kX12_96 (by omega) (Nat.le_of_ble_eq_true rfl) ?_
  refine X12_out (fun h8 => ?_) (fun h8 => ?_)
  · skip
    refine v_if_ne 22 14 dX12_old_11 rfl rfl (fun _ => ?_) (fun h => absurd (by decide) h)
    refine v_iconst 23 dX12_old_22 rfl ⟨by decide +kernel, by decide⟩ ?_
    refine v_goto 37 dX12_old_23 rfl ?_
    refine v_iretI dX12_old_37 rfl ?_
    first | exact o1 (by omega) | exact o2 (by omega)
  · skip
    refine v_if_ne 22 14 dX12_old_11 rfl rfl (fun h => absurd h (by decide)) (fun _ => ?_)
    refine v_aload0 15 dX12_old_14 rfl ?_
    refine v_iload2 16 dX12_old_15 rfl ?_
    refine v_cvI1 mX12_noDecision 19 dX12_old_16 rfl kX12_103 rfl rfl (by omega) (Nat.le_of_ble_eq_true rfl) ?_
    refine X12_noDecision (by omega) (by omega) (fun h16 => ?_) (fun h16 => ?_)
    · skip
      refine v_if_eq 26 22 dX12_old_19 rfl rfl (fun h => absurd h (by decide)) (fun _ => ?_)
      refine v_iconst 23 dX12_old_22 rfl ⟨by decide +kernel, by decide⟩ ?_
      refine v_goto 37 dX12_old_23 rfl ?_
      refine v_iretI dX12_old_37 rfl ?_
      first | exact o1 (by omega) | exact o2 (by omega)
    · skip
      refine v_if_eq 26 22 dX12_old_19 rfl rfl (fun _ => ?_) (fun h => absurd (by decide) h)
      refine v_aload0 27 dX12_old_26 rfl ?_
      refine v_getR 30 dX12_old_27 rfl fX12_52 rfl rfl ?_
      refine v_bipush 32 dX12_old_30 rfl ⟨by decide +kernel, by decide⟩ ?_
      refine v_iload1 33 dX12_old_32 rfl ?_
      refine v_imul 34 dX12_old_33 rfl (⟨by omega, by omega⟩) ?_
      refine v_iload2 35 dX12_old_34 rfl ?_
      refine v_iadd 36 dX12_old_35 rfl (⟨by omega, by omega⟩) ?_
      refine v_iald 37 dX12_old_36 rfl rfl (⟨by omega, by omega⟩) ?_
      refine v_iretI dX12_old_37 rfl ?_
      first | exact o1 (by omega) | exact o2 (by omega)
set_option maxRecDepth 100000 in
set_option maxHeartbeats 4000000 in
theorem X12_keep {d : Nat} {n kp : Nat} {σ : Mem} {K : Int → Mem → Prop} (hn : σ 64 0 = n) (hn6 : n ≤ 6) (hkp : σ 64 18 = kp) (hkp3 : kp ≤ 3) (o1 : n = 0 → K (-3) σ) (o2 : n ≠ 0 ∧ kp = 3 → K (-4) σ) (o3 : n ≠ 0 ∧ kp < 3 → ∀ τ : Mem, (∀ c, c ≠ 79 → c ≠ 80 → τ c = σ c) → (∀ j : Int, τ 79 j = if 6 * (kp : Int) ≤ j ∧ j < 6 * (kp : Int) + (6 : Nat) then σ 72 (j - 6 * (kp : Int)) else σ 79 j) → (∀ j : Int, τ 80 j = if 6 * (kp : Int) ≤ j ∧ j < 6 * (kp : Int) + (6 : Nat) then σ 74 (j - 6 * (kp : Int)) else σ 80 j) → K kp (wr (wr τ 64 21 kp) 64 18 (kp + 1))) : Run mX12_keep d [.inr (some 64)] σ (RI K) := by
  refine Run_of (ls := [.inr (some 64), .inr none]) (by decide) (Nat.le_of_ble_eq_true rfl) rfl ?_
  refine v_aload0 1 dX12_keep_0 rfl ?_
  refine v_getI 4 0 dX12_keep_1 rfl fX12_93 rfl rfl rfl ?_
  refine v_if_ne 10 7 dX12_keep_4 rfl rfl (fun h4 => ?_) (fun h4 => ?_)
  · skip
    refine v_aload0 11 dX12_keep_10 rfl ?_
    refine v_getI 14 18 dX12_keep_11 rfl fX12_100 rfl rfl rfl ?_
    refine v_iconst 15 dX12_keep_14 rfl ⟨by decide +kernel, by decide⟩ ?_
    refine v_icmp_ne 21 18 dX12_keep_15 rfl rfl (fun h15 => ?_) (fun h15 => ?_)
    · skip
      have L : ∀ (k : Nat) (i : Nat) (τ : Mem), 6 - i < k → i ≤ 6 → (∀ c, c ≠ 79 → c ≠ 80 → τ c = σ c) → (∀ j : Int, τ 79 j = if 6 * (kp : Int) ≤ j ∧ j < 6 * (kp : Int) + i then σ 72 (j - 6 * (kp : Int)) else σ 79 j) → (∀ j : Int, τ 80 j = if 6 * (kp : Int) ≤ j ∧ j < 6 * (kp : Int) + i then σ 74 (j - 6 * (kp : Int)) else σ 80 j) → V mX12_keep d (RI K) 23 [.inr (some 64), .inl (i : Int)] [] τ := by
        intro k
        induction k with
        | zero => intros; omega
        | succ k ih =>
            intro i τ hk hi g1 g2 g3
            refine v_iload1 24 dX12_keep_23 rfl ?_
            refine v_bipush 26 dX12_keep_24 rfl ⟨by decide +kernel, by decide⟩ ?_
            refine v_icmp_ge 75 29 dX12_keep_26 rfl rfl (fun h26 => ?_) (fun h26 => ?_)
            · skip
              refine v_aload0 76 dX12_keep_75 rfl ?_
              refine v_aload0 77 dX12_keep_76 rfl ?_
              refine v_getIe 80 18 (kp) dX12_keep_77 rfl fX12_100 rfl rfl rfl (by rw [g1 64 (by decide) (by decide)]; exact hkp) ?_
              refine v_putI 83 21 dX12_keep_80 rfl pX12_58 rfl rfl rfl ?_
              refine v_aload0 84 dX12_keep_83 rfl ?_
              refine v_dup 85 dX12_keep_84 rfl ?_
              refine v_getIe 88 18 (kp) dX12_keep_85 rfl fX12_100 rfl rfl rfl (by rw [wr_at, if_neg (by decide), g1 64 (by decide) (by decide)]; exact hkp) ?_
              refine v_iconst 89 dX12_keep_88 rfl ⟨by decide +kernel, by decide⟩ ?_
              refine v_iadd 90 dX12_keep_89 rfl (⟨by omega, by omega⟩) ?_
              refine v_putI 93 18 dX12_keep_90 rfl pX12_100 rfl rfl rfl ?_
              refine v_aload0 94 dX12_keep_93 rfl ?_
              refine v_getIe 97 21 (kp) dX12_keep_94 rfl fX12_58 rfl rfl rfl (by simp [wr]) ?_
              refine v_iretI dX12_keep_97 rfl ?_
              obtain rfl : i = 6 := by omega
              exact o3 ⟨by omega, by omega⟩ τ g1 g2 g3
            · skip
              refine v_aload0 30 dX12_keep_29 rfl ?_
              refine v_getR 33 dX12_keep_30 rfl fX12_52 rfl rfl ?_
              refine v_bipush 35 dX12_keep_33 rfl ⟨by decide +kernel, by decide⟩ ?_
              refine v_aload0 36 dX12_keep_35 rfl ?_
              refine v_getIe 39 18 (kp) dX12_keep_36 rfl fX12_100 rfl rfl rfl (by rw [g1 64 (by decide) (by decide)]; exact hkp) ?_
              refine v_imul 40 dX12_keep_39 rfl (⟨by omega, by omega⟩) ?_
              refine v_iload1 41 dX12_keep_40 rfl ?_
              refine v_iadd 42 dX12_keep_41 rfl (⟨by omega, by omega⟩) ?_
              refine v_aload0 43 dX12_keep_42 rfl ?_
              refine v_getR 46 dX12_keep_43 rfl fX12_31 rfl rfl ?_
              refine v_iload1 47 dX12_keep_46 rfl ?_
              refine v_ialde 48 (σ 72 (i : Int)) dX12_keep_47 rfl rfl (⟨by omega, by omega⟩) (by rw [g1 72 (by decide) (by decide)]) ?_
              refine v_iast 49 dX12_keep_48 rfl rfl (⟨by omega, by omega⟩) ?_
              refine v_aload0 50 dX12_keep_49 rfl ?_
              refine v_getR 53 dX12_keep_50 rfl fX12_55 rfl rfl ?_
              refine v_bipush 55 dX12_keep_53 rfl ⟨by decide +kernel, by decide⟩ ?_
              refine v_aload0 56 dX12_keep_55 rfl ?_
              refine v_getIe 59 18 (kp) dX12_keep_56 rfl fX12_100 rfl rfl rfl (by rw [wr_ne (by decide), g1 64 (by decide) (by decide)]; exact hkp) ?_
              refine v_imul 60 dX12_keep_59 rfl (⟨by omega, by omega⟩) ?_
              refine v_iload1 61 dX12_keep_60 rfl ?_
              refine v_iadd 62 dX12_keep_61 rfl (⟨by omega, by omega⟩) ?_
              refine v_aload0 63 dX12_keep_62 rfl ?_
              refine v_getR 66 dX12_keep_63 rfl fX12_37 rfl rfl ?_
              refine v_iload1 67 dX12_keep_66 rfl ?_
              refine v_ialde 68 (σ 74 (i : Int)) dX12_keep_67 rfl rfl (⟨by omega, by omega⟩) (by rw [wr_ne (by decide), g1 74 (by decide) (by decide)]) ?_
              refine v_iast 69 dX12_keep_68 rfl rfl (⟨by omega, by omega⟩) ?_
              refine v_iinc1 72 dX12_keep_69 rfl (by decide) rfl (⟨by omega, by omega⟩) ?_
              refine v_goto 23 dX12_keep_72 rfl ?_
              exact ih (i + 1) _ (by omega) (by omega) (fun c a b => by rw [wr_ne b, wr_ne a]; exact g1 c a b) (fun j => by
                have e1 := g2 j
                simp only [wr]
                by_cases ej : j = 6 * (kp : Int) + (i : Int)
                · subst ej
                  simp only [reduceIte, Nat.reduceEqDiff]
                  rw [if_pos (by omega)]
                  have e2 : 6 * (kp : Int) + (i : Int) - 6 * (kp : Int) = (i : Int) := by omega
                  rw [e2]
                · simp only [ej, reduceIte, Nat.reduceEqDiff, e1]
                  by_cases c1 : 6 * (kp : Int) ≤ j ∧ j < 6 * (kp : Int) + (i : Int)
                  · rw [if_pos c1, if_pos (by omega)]
                  · rw [if_neg c1, if_neg (by omega)]) (fun j => by
                have e1 := g3 j
                simp only [wr]
                by_cases ej : j = 6 * (kp : Int) + (i : Int)
                · subst ej
                  simp only [reduceIte, Nat.reduceEqDiff]
                  rw [if_pos (by omega)]
                  have e2 : 6 * (kp : Int) + (i : Int) - 6 * (kp : Int) = (i : Int) := by omega
                  rw [e2]
                · simp only [ej, reduceIte, Nat.reduceEqDiff, e1]
                  by_cases c1 : 6 * (kp : Int) ≤ j ∧ j < 6 * (kp : Int) + (i : Int)
                  · rw [if_pos c1, if_pos (by omega)]
                  · rw [if_neg c1, if_neg (by omega)])
      refine v_iconst 22 dX12_keep_21 rfl ⟨by decide +kernel, by decide⟩ ?_
      refine v_istore1 23 dX12_keep_22 rfl (by decide) ?_
      exact L 7 0 _ (by omega) (by omega) (fun _ _ _ => rfl) (fun j => by rw [if_neg (by omega)]) (fun j => by rw [if_neg (by omega)])
    · skip
      refine v_bipush 20 dX12_keep_18 rfl ⟨by decide +kernel, by decide⟩ ?_
      refine v_iretI dX12_keep_20 rfl ?_
      first | exact o1 (by omega) | exact o2 (by omega)
  · skip
    refine v_bipush 9 dX12_keep_7 rfl ⟨by decide +kernel, by decide⟩ ?_
    refine v_iretI dX12_keep_9 rfl ?_
    first | exact o1 (by omega) | exact o2 (by omega)
set_option maxRecDepth 100000 in
set_option maxHeartbeats 4000000 in
theorem X12_undo {d : Nat} {q : Nat} {u : Int} {σ : Mem} {K : Int → Mem → Prop} (hu : σ 64 22 = u) (hu8 : 0 ≤ u ∧ u ≤ 8) (hq : u ≠ 0 → σ 81 (u - 1) = q) (hq6 : q ≤ 6) (o1 : u = 0 → K (-3) σ) (o2 : u ≠ 0 → ∀ τ : Mem, (∀ c, c ≠ 72 → τ c = wr σ 64 22 (u - 1) c) → (∀ j : Int, τ 72 j = if 0 ≤ j ∧ j < q then σ 82 (6 * (u - 1) + j) else σ 72 j) → K (u - 1) τ) : Run mX12_undo d [.inr (some 64)] σ (RI K) := by
  refine Run_of (ls := [.inr (some 64), .inr none]) (by decide) (Nat.le_of_ble_eq_true rfl) rfl ?_
  refine v_aload0 1 dX12_undo_0 rfl ?_
  refine v_getI 4 22 dX12_undo_1 rfl fX12_151 rfl rfl rfl ?_
  refine v_if_ne 10 7 dX12_undo_4 rfl rfl (fun h4 => ?_) (fun h4 => ?_)
  · skip
    have hq := hq (by omega)
    have L : ∀ (k : Nat) (i : Nat) (τ : Mem), q - i < k → i ≤ q → (∀ c, c ≠ 72 → τ c = wr σ 64 22 (u - 1) c) → (∀ j : Int, τ 72 j = if 0 ≤ j ∧ j < i then σ 82 (6 * (u - 1) + j) else σ 72 j) → V mX12_undo d (RI K) 22 [.inr (some 64), .inl (i : Int)] [] τ := by
      intro k
      induction k with
      | zero => intros; omega
      | succ k ih =>
          intro i τ hk hi g1 g2
          have g0 : τ 64 22 = u - 1 := by rw [g1 64 (by decide), wr_eq]
          refine v_iload1 23 dX12_undo_22 rfl ?_
          refine v_aload0 24 dX12_undo_23 rfl ?_
          refine v_getR 27 dX12_undo_24 rfl fX12_62 rfl rfl ?_
          refine v_aload0 28 dX12_undo_27 rfl ?_
          refine v_getIe 31 22 (u - 1) dX12_undo_28 rfl fX12_151 rfl rfl rfl (g0) ?_
          refine v_ialde 32 (q) dX12_undo_31 rfl rfl (⟨by omega, by omega⟩) (by rw [g1 81 (by decide), wr_ne (by decide)]; exact hq) ?_
          refine v_icmp_ge 61 35 dX12_undo_32 rfl rfl (fun h32 => ?_) (fun h32 => ?_)
          · skip
            refine v_aload0 62 dX12_undo_61 rfl ?_
            refine v_getIe 65 22 (u - 1) dX12_undo_62 rfl fX12_151 rfl rfl rfl (g0) ?_
            refine v_iretI dX12_undo_65 rfl ?_
            obtain rfl : i = q := by omega
            exact o2 (by omega) τ g1 g2
          · skip
            refine v_aload0 36 dX12_undo_35 rfl ?_
            refine v_getR 39 dX12_undo_36 rfl fX12_31 rfl rfl ?_
            refine v_iload1 40 dX12_undo_39 rfl ?_
            refine v_aload0 41 dX12_undo_40 rfl ?_
            refine v_getR 44 dX12_undo_41 rfl fX12_65 rfl rfl ?_
            refine v_bipush 46 dX12_undo_44 rfl ⟨by decide +kernel, by decide⟩ ?_
            refine v_aload0 47 dX12_undo_46 rfl ?_
            refine v_getIe 50 22 (u - 1) dX12_undo_47 rfl fX12_151 rfl rfl rfl (g0) ?_
            refine v_imul 51 dX12_undo_50 rfl (⟨by omega, by omega⟩) ?_
            refine v_iload1 52 dX12_undo_51 rfl ?_
            refine v_iadd 53 dX12_undo_52 rfl (⟨by omega, by omega⟩) ?_
            refine v_ialde 54 (σ 82 (6 * (u - 1) + (i : Int))) dX12_undo_53 rfl rfl (⟨by omega, by omega⟩) (by rw [g1 82 (by decide), wr_ne (by decide)]) ?_
            refine v_iast 55 dX12_undo_54 rfl rfl (⟨by omega, by omega⟩) ?_
            refine v_iinc1 58 dX12_undo_55 rfl (by decide) rfl (⟨by omega, by omega⟩) ?_
            refine v_goto 22 dX12_undo_58 rfl ?_
            exact ih (i + 1) _ (by omega) (by omega) (fun c a => by rw [wr_ne a]; exact g1 c a) (fun j => by
              have e1 := g2 j
              simp only [wr]
              by_cases ej : j = (i : Int)
              · subst ej
                simp only [reduceIte]
                rw [if_pos (by omega)]
              · simp only [ej, reduceIte, e1]
                by_cases c1 : 0 ≤ j ∧ j < (i : Int)
                · rw [if_pos c1, if_pos (by omega)]
                · rw [if_neg c1, if_neg (by omega)])
    refine v_aload0 11 dX12_undo_10 rfl ?_
    refine v_dup 12 dX12_undo_11 rfl ?_
    refine v_getIe 15 22 (u) dX12_undo_12 rfl fX12_151 rfl rfl rfl (hu) ?_
    refine v_iconst 16 dX12_undo_15 rfl ⟨by decide +kernel, by decide⟩ ?_
    refine v_isub 17 dX12_undo_16 rfl (⟨by omega, by omega⟩) ?_
    refine v_putI 20 22 dX12_undo_17 rfl pX12_151 rfl rfl rfl ?_
    refine v_iconst 21 dX12_undo_20 rfl ⟨by decide +kernel, by decide⟩ ?_
    refine v_istore1 22 dX12_undo_21 rfl (by decide) ?_
    exact L (q + 1) 0 _ (by omega) (by omega) (fun _ _ => rfl) (fun j => by rw [if_neg (by omega), wr_ne (by decide)])
  · skip
    refine v_bipush 9 dX12_undo_7 rfl ⟨by decide +kernel, by decide⟩ ?_
    refine v_iretI dX12_undo_9 rfl ?_
    first | exact o1 (by omega)
end
section
/-! all plans, in the order of their values -/
noncomputable def cd (p : Prop) : Bool := @decide p (Classical.propDecidable p)
theorem cd_t {p : Prop} (h : p) : cd p = true := @decide_eq_true p (Classical.propDecidable p) h
theorem cd_f {p : Prop} (h : ¬ p) : cd p = false := @decide_eq_false p (Classical.propDecidable p) h
theorem cd_of {p : Prop} (h : cd p = true) : p := @of_decide_eq_true p (Classical.propDecidable p) h
theorem cd_nof {p : Prop} (h : cd p = false) : ¬ p := @of_decide_eq_false p (Classical.propDecidable p) h
theorem cd_congr {p q : Prop} (h : p ↔ q) : cd p = cd q := by rw [propext h]
def upto : Int → Nat → List Int
  | _, 0 => []
  | v, c + 1 => v :: upto (v + 1) c
theorem upto_mem : ∀ {c : Nat} {v x : Int}, x ∈ upto v c ↔ v ≤ x ∧ x < v + c
  | 0, v, x => by
    constructor
    · intro h; cases h
    · intro h; omega
  | c + 1, v, x => by
    show x ∈ v :: upto (v + 1) c ↔ _
    rw [List.mem_cons, upto_mem]
    omega
def fsv (lo pin : Int → Int) (d : Int) : Int := if pin d = -5 then lo d else pin d
def dom (lo hi pin : Int → Int) (d : Int) : List Int := if pin d = -5 then upto (lo d) (hi d - lo d + 1).toNat else [pin d]
def lst (a : Int → Int) : Nat → Nat → List Int
  | _, 0 => []
  | k, m + 1 => a (k : Int) :: lst a (k + 1) m
theorem lst_len (a : Int → Int) : ∀ (m k : Nat), (lst a k m).length = m
  | 0, _ => rfl
  | m + 1, k => by show (lst a (k + 1) m).length + 1 = m + 1; rw [lst_len a m]
theorem lst_get (a : Int → Int) : ∀ (m k j : Nat), j < m → (lst a k m)[j]? = some (a ((k + j : Nat) : Int))
  | 0, _, _, h => absurd h (Nat.not_lt_zero _)
  | m + 1, k, 0, _ => rfl
  | m + 1, k, j + 1, h => by
    show (lst a (k + 1) m)[j]? = _
    rw [lst_get a m (k + 1) j (by omega)]
    congr 3
    omega
theorem lst_congr {a b : Int → Int} : ∀ {m k : Nat}, (∀ j : Nat, k ≤ j → j < k + m → a (j : Int) = b (j : Int)) → lst a k m = lst b k m
  | 0, _, _ => rfl
  | m + 1, k, h => by
    show a (k : Int) :: lst a (k + 1) m = b (k : Int) :: lst b (k + 1) m
    rw [h k (Nat.le_refl _) (by omega), lst_congr (m := m) (k := k + 1) (fun j h1 h2 => h j (by omega) (by omega))]
theorem lst_inj {a b : Int → Int} : ∀ {m k : Nat}, lst a k m = lst b k m → ∀ j : Nat, k ≤ j → j < k + m → a (j : Int) = b (j : Int)
  | 0, k, _, j, h1, h2 => by omega
  | m + 1, k, h, j, h1, h2 => by
    have h' : a (k : Int) :: lst a (k + 1) m = b (k : Int) :: lst b (k + 1) m := h
    injection h' with e1 e2
    by_cases e : j = k
    · subst e; exact e1
    · exact lst_inj (m := m) (k := k + 1) e2 j (by omega) (by omega)
/-- a list as a function -/
def pf (l : List Int) : Int → Int := fun d => l.getD d.toNat 0
theorem pf_lst {a : Int → Int} {n j : Nat} (h : j < n) : pf (lst a 0 n) (j : Int) = a (j : Int) := by
  unfold pf
  rw [Int.toNat_natCast, List.getD_eq_getElem?_getD, lst_get a n 0 j h, Nat.zero_add]
  rfl
theorem lst_pf {l : List Int} {n : Nat} (h : l.length = n) : lst (pf l) 0 n = l := by
  apply List.ext_getElem?
  intro i
  by_cases hi : i < n
  · rw [lst_get _ n 0 i hi, Nat.zero_add]
    unfold pf
    rw [Int.toNat_natCast, List.getD_eq_getElem?_getD, List.getElem?_eq_getElem (by omega)]
    rfl
  · rw [List.getElem?_eq_none (by rw [lst_len]; omega), List.getElem?_eq_none (by omega)]
def En (lo hi pin : Int → Int) : Nat → Nat → List (List Int)
  | _, 0 => [[]]
  | k, m + 1 => (dom lo hi pin (k : Int)).flatMap (fun v => (En lo hi pin (k + 1) m).map (fun s => v :: s))
def nx (lo hi pin : Int → Int) : Nat → List Int → Option (List Int)
  | _, [] => none
  | k, v :: s => match nx lo hi pin (k + 1) s with
    | some s' => some (v :: s')
    | none => if pin (k : Int) = -5 ∧ v < hi (k : Int) then some ((v + 1) :: lst (fsv lo pin) (k + 1) s.length) else none
/-- L is all of them, one behind the other -/
def Chn (nxt : List Int → Option (List Int)) (f : List Int) (L : List (List Int)) : Prop := L.head? = some f ∧ ∀ (i : Nat) (x : List Int), L[i]? = some x → nxt x = L[i + 1]?
theorem En_ne {lo hi pin : Int → Int} : ∀ (m k : Nat), (∀ d : Nat, k ≤ d → d < k + m → lo (d : Int) ≤ hi (d : Int)) → En lo hi pin k m ≠ []
  | 0, _, _ => by simp [En]
  | m + 1, k, h => by
    have h1 := En_ne (pin := pin) m (k + 1) (fun d a b => h d (by omega) (by omega))
    have h2 := h k (Nat.le_refl _) (by omega)
    show (dom lo hi pin (k : Int)).flatMap _ ≠ []
    have hd : ∃ v r, dom lo hi pin (k : Int) = v :: r := by
      unfold dom
      by_cases hp : pin (k : Int) = -5
      · rw [if_pos hp]
        obtain ⟨c, hc⟩ : ∃ c, (hi (k : Int) - lo (k : Int) + 1).toNat = c + 1 := ⟨(hi (k : Int) - lo (k : Int)).toNat, by omega⟩
        rw [hc]
        exact ⟨_, _, rfl⟩
      · rw [if_neg hp]
        exact ⟨_, _, rfl⟩
    obtain ⟨v, r, e⟩ := hd
    rw [e, List.flatMap_cons]
    intro q
    have := (List.append_eq_nil_iff.mp q).1
    exact h1 (List.map_eq_nil_iff.mp this)
theorem Chn_blk {nxt : List Int → Option (List Int)} {nxt' : List Int → Option (List Int)} {f : List Int} {L' : List (List Int)} (hL : Chn nxt' f L') (loK hiK : Int)
    (hn1 : ∀ (v : Int) (s s' : List Int), s ∈ L' → nxt' s = some s' → nxt (v :: s) = some (v :: s')) (hn2 : ∀ (v : Int) (s : List Int), loK ≤ v → s ∈ L' → nxt' s = none → nxt (v :: s) = if v < hiK then some ((v + 1) :: f) else none) :
    ∀ (c : Nat) (v : Int), loK ≤ v → v + c = hiK → Chn nxt (v :: f) ((upto v (c + 1)).flatMap (fun v => L'.map (fun s => v :: s))) := by
  have hne : L' ≠ [] := by intro q; rw [q] at hL; cases hL.1
  have hhead : ∀ (v : Int), (L'.map (fun s => v :: s)).head? = some (v :: f) := fun v => by rw [List.head?_map, hL.1]; rfl
  intro c
  induction c with
  | zero =>
    intro v hlo hv
    have e : (upto v (0 + 1)).flatMap (fun v => L'.map (fun s => v :: s)) = L'.map (fun s => v :: s) := by simp [upto]
    rw [e]
    refine ⟨hhead v, fun i x hx => ?_⟩
    rw [List.getElem?_map] at hx ⊢
    cases hs : L'[i]? with
    | none => rw [hs] at hx; cases hx
    | some s =>
      rw [hs] at hx
      cases hx
      have h1 := hL.2 i s hs
      cases hs2 : L'[i + 1]? with
      | none =>
        rw [hs2] at h1
        show nxt (v :: s) = none
        rw [hn2 v s hlo (List.mem_of_getElem? hs) h1, if_neg (by omega)]
      | some s' =>
        rw [hs2] at h1
        exact hn1 v s s' (List.mem_of_getElem? hs) h1
  | succ c ih =>
    intro v hlo hv
    have ihv := ih (v + 1) (by omega) (by omega)
    have e : (upto v (c + 1 + 1)).flatMap (fun v => L'.map (fun s => v :: s)) = L'.map (fun s => v :: s) ++ (upto (v + 1) (c + 1)).flatMap (fun v => L'.map (fun s => v :: s)) := by
      show (v :: upto (v + 1) (c + 1)).flatMap _ = _
      rw [List.flatMap_cons]
    rw [e]
    generalize (upto (v + 1) (c + 1)).flatMap (fun v => L'.map (fun s => v :: s)) = Z at ihv ⊢
    refine ⟨?_, fun i x hx => ?_⟩
    · rw [List.head?_append, hhead v]
      rfl
    · by_cases hi : i < L'.length
      · rw [List.getElem?_append_left (by rw [List.length_map]; exact hi), List.getElem?_map] at hx
        cases hs : L'[i]? with
        | none => rw [hs] at hx; cases hx
        | some s =>
          rw [hs] at hx
          cases hx
          have h1 := hL.2 i s hs
          cases hs2 : L'[i + 1]? with
          | none =>
            rw [hs2] at h1
            have hlen : L'.length ≤ i + 1 := List.getElem?_eq_none_iff.mp hs2
            show nxt (v :: s) = _
            rw [hn2 v s hlo (List.mem_of_getElem? hs) h1, if_pos (by omega), List.getElem?_append_right (by rw [List.length_map]; exact hlen), List.length_map]
            have : i + 1 - L'.length = 0 := by omega
            rw [this, ← List.head?_eq_getElem?, ihv.1]
          | some s' =>
            rw [hs2] at h1
            have hlt : i + 1 < L'.length := (List.getElem?_eq_some_iff.mp hs2).1
            rw [List.getElem?_append_left (by rw [List.length_map]; exact hlt), List.getElem?_map, hs2]
            exact hn1 v s s' (List.mem_of_getElem? hs) h1
      · rw [List.getElem?_append_right (by rw [List.length_map]; omega), List.length_map] at hx
        rw [List.getElem?_append_right (by rw [List.length_map]; omega), List.length_map]
        have h2 := ihv.2 (i - L'.length) x hx
        rw [h2]
        congr 1
        omega
theorem En_len {lo hi pin : Int → Int} : ∀ (m k : Nat) (l : List Int), l ∈ En lo hi pin k m → l.length = m
  | 0, _, l, h => by
    have : l = [] := by simpa [En] using h
    rw [this]; rfl
  | m + 1, k, l, h => by
    obtain ⟨v, -, h2⟩ := List.mem_flatMap.mp h
    obtain ⟨s, h3, rfl⟩ := List.mem_map.mp h2
    rw [List.length_cons, En_len m (k + 1) s h3]
theorem En_chn {lo hi pin : Int → Int} : ∀ (m k : Nat), (∀ d : Nat, k ≤ d → d < k + m → lo (d : Int) ≤ hi (d : Int)) → Chn (nx lo hi pin k) (lst (fsv lo pin) k m) (En lo hi pin k m)
  | 0, k, _ => by
    refine ⟨rfl, fun i x hx => ?_⟩
    cases i with
    | zero => cases hx; rfl
    | succ i => cases hx
  | m + 1, k, h => by
    have ih := En_chn (lo := lo) (hi := hi) (pin := pin) m (k + 1) (fun d a b => h d (by omega) (by omega))
    have hk := h k (Nat.le_refl _) (by omega)
    show Chn (nx lo hi pin k) (fsv lo pin (k : Int) :: lst (fsv lo pin) (k + 1) m) ((dom lo hi pin (k : Int)).flatMap (fun v => (En lo hi pin (k + 1) m).map (fun s => v :: s)))
    have hn1 : ∀ (v : Int) (s s' : List Int), s ∈ En lo hi pin (k + 1) m → nx lo hi pin (k + 1) s = some s' → nx lo hi pin k (v :: s) = some (v :: s') := fun v s s' _ e => by
      show (match nx lo hi pin (k + 1) s with | some s' => some (v :: s') | none => _) = _
      rw [e]
    have hn2 : ∀ (v : Int) (s : List Int), s ∈ En lo hi pin (k + 1) m → nx lo hi pin (k + 1) s = none → nx lo hi pin k (v :: s) = if pin (k : Int) = -5 ∧ v < hi (k : Int) then some ((v + 1) :: lst (fsv lo pin) (k + 1) m) else none := fun v s hs e => by
      show (match nx lo hi pin (k + 1) s with | some s' => some (v :: s') | none => _) = _
      rw [e]
      show (if pin (k : Int) = -5 ∧ v < hi (k : Int) then some ((v + 1) :: lst (fsv lo pin) (k + 1) s.length) else none) = _
      rw [En_len m (k + 1) s hs]
    unfold dom fsv
    by_cases hp : pin (k : Int) = -5
    · rw [if_pos hp, if_pos hp]
      obtain ⟨c, hc⟩ : ∃ c, (hi (k : Int) - lo (k : Int) + 1).toNat = c + 1 := ⟨(hi (k : Int) - lo (k : Int)).toNat, by omega⟩
      rw [hc]
      exact Chn_blk ih (lo (k : Int)) (hi (k : Int)) hn1 (fun v s _ hs e => by rw [hn2 v s hs e]; simp [hp]) c (lo (k : Int)) (by omega) (by omega)
    · rw [if_neg hp, if_neg hp]
      have e : ([pin (k : Int)]).flatMap (fun v => (En lo hi pin (k + 1) m).map (fun s => v :: s)) = (upto (pin (k : Int)) (0 + 1)).flatMap (fun v => (En lo hi pin (k + 1) m).map (fun s => v :: s)) := rfl
      rw [e]
      exact Chn_blk ih (pin (k : Int)) (pin (k : Int)) hn1 (fun v s hv hs e => by
        rw [hn2 v s hs e]
        have h1 : ¬ (pin (k : Int) = -5 ∧ v < hi (k : Int)) := fun q => hp q.1
        rw [if_neg h1, if_neg (by omega)]) 0 (pin (k : Int)) (by omega) (by omega)
end
section
set_option maxRecDepth 100000 in
set_option maxHeartbeats 4000000 in
/-- the reference's own cells are the same -/
def CoreEq (σ τ : Mem) : Prop := ∀ c : Nat, 64 ≤ c → c ≤ 82 → τ c = σ c
theorem CoreEq.rf (σ : Mem) : CoreEq σ σ := fun _ _ _ => rfl
theorem CoreEq.tr {σ τ υ : Mem} (h : CoreEq σ τ) (h2 : CoreEq τ υ) : CoreEq σ υ := fun c a b => (h2 c a b).trans (h c a b)
theorem RW.core {σ τ : Mem} {n R F : Nat} (hw : RW σ n R F) (h : CoreEq σ τ) : RW τ n R F := by
  unfold RW at *
  rw [h 64 (by decide) (by decide), h 75 (by decide) (by decide), h 76 (by decide) (by decide), h 77 (by decide) (by decide), h 78 (by decide) (by decide), h 65 (by decide) (by decide), h 66 (by decide) (by decide), h 67 (by decide) (by decide), h 68 (by decide) (by decide), h 69 (by decide) (by decide), h 70 (by decide) (by decide), h 71 (by decide) (by decide), h 73 (by decide) (by decide), h 79 (by decide) (by decide)]
  exact hw
theorem rbrk_core {σ τ : Mem} (h : CoreEq σ τ) (p : Int → Int) (n R : Nat) : rbrk τ p n R = rbrk σ p n R := by
  unfold rbrk rrk
  rw [h 74 (by decide) (by decide), h 75 (by decide) (by decide), h 76 (by decide) (by decide), h 77 (by decide) (by decide), h 78 (by decide) (by decide)]
theorem rAlw_core {σ τ : Mem} (h : CoreEq σ τ) (p : Int → Int) (n : Nat) : rAlw τ p n ↔ rAlw σ p n := by
  unfold rAlw rbv
  rw [h 64 (by decide) (by decide), h 65 (by decide) (by decide), h 66 (by decide) (by decide), h 67 (by decide) (by decide), h 70 (by decide) (by decide), h 73 (by decide) (by decide), h 79 (by decide) (by decide)]
def rcost (σ : Mem) (n : Nat) (p : Int → Int) : Int := sumI (cst (σ 64 21) (rbv σ) (σ 68) (σ 69) p) n
def rwor (σ : Mem) (n : Nat) (p : Int → Int) : Int := sumI (fun d => σ 71 (6 * d + p d)) n
theorem rcost_core {σ τ : Mem} (h : CoreEq σ τ) (n : Nat) (p : Int → Int) : rcost τ n p = rcost σ n p := by
  unfold rcost rbv
  rw [h 64 (by decide) (by decide), h 68 (by decide) (by decide), h 69 (by decide) (by decide), h 79 (by decide) (by decide)]
theorem rwor_core {σ τ : Mem} (h : CoreEq σ τ) (n : Nat) (p : Int → Int) : rwor τ n p = rwor σ n p := by
  unfold rwor
  rw [h 71 (by decide) (by decide)]
/-! two plans that agree on the n decisions -/
theorem mv_congr {bs : Int} {bv p q : Int → Int} {d : Int} (h : p d = q d) : mv bs bv p d = mv bs bv q d := by unfold mv; rw [h]
theorem rcost_congr {σ : Mem} {n : Nat} {p q : Int → Int} (h : ∀ j : Nat, j < n → p (j : Int) = q (j : Int)) : rcost σ n p = rcost σ n q := sumI_congr (fun k hk => by unfold cst; rw [mv_congr (h k hk), h k hk])
theorem rwor_congr {σ : Mem} {n : Nat} {p q : Int → Int} (h : ∀ j : Nat, j < n → p (j : Int) = q (j : Int)) : rwor σ n p = rwor σ n q := sumI_congr (fun k hk => by show σ 71 (6 * (k : Int) + p (k : Int)) = σ 71 (6 * (k : Int) + q (k : Int)); rw [h k hk])
theorem rk_congr {kd a b F : Int} {p q : Int → Int} {n : Nat} (h : ∀ j : Nat, j < n → p (j : Int) = q (j : Int)) (hab : kd ≠ 5 → 0 ≤ a ∧ a < n ∧ 0 ≤ b ∧ b < n) : rk kd a b F p n = rk kd a b F q n := by
  unfold rk
  by_cases hk : kd = 5
  · rw [if_pos hk, if_pos hk, sumI_congr (g := fun d => one (decide (q d = b))) (fun k hk => by show one (decide (p (k : Int) = b)) = one (decide (q (k : Int) = b)); rw [h k hk])]
  · have hq := hab hk
    have ea := h a.toNat (by omega)
    have eb := h b.toNat (by omega)
    rw [Int.toNat_of_nonneg hq.1] at ea
    rw [Int.toNat_of_nonneg hq.2.2.1] at eb
    rw [if_neg hk, if_neg hk, ea, eb]
theorem rbrk_congr {σ : Mem} {n R F : Nat} (hw : RW σ n R F) {p q : Int → Int} (h : ∀ j : Nat, j < n → p (j : Int) = q (j : Int)) : rbrk σ p n R = rbrk σ q n R :=
  bitsN_congr (fun r hr => by
    show (!rk _ _ _ _ p n) = (!rk _ _ _ _ q n)
    rw [rk_congr h (fun hk => (hw.2.1 (r : Int) (by omega) (by omega)).2.2.2.2.2 hk)])
theorem rAlw_congr {σ : Mem} {n : Nat} {p q : Int → Int} (h : ∀ j : Nat, j < n → p (j : Int) = q (j : Int)) : rAlw σ p n ↔ rAlw σ q n := by
  unfold rAlw
  have e1 : ∀ w : Int, sumI (fun d => one (decide (σ 67 d = w) && mv (σ 64 21) (rbv σ) p d)) n = sumI (fun d => one (decide (σ 67 d = w) && mv (σ 64 21) (rbv σ) q d)) n := fun w => sumI_congr (fun k hk => by show one (_ && mv _ _ p _) = one (_ && mv _ _ q _); rw [mv_congr (h k hk)])
  have e2 : ∀ d : Int, 0 ≤ d → d < n → p d = q d := fun d a b => by
    have := h d.toNat (by omega)
    rw [Int.toNat_of_nonneg a] at this
    exact this
  constructor
  · rintro ⟨a, b⟩
    exact ⟨fun w x y => by rw [← e1]; exact a w x y, fun d x y => by rw [← e2 d x y]; exact b d x y⟩
  · rintro ⟨a, b⟩
    exact ⟨fun w x y => by rw [e1]; exact a w x y, fun d x y => by rw [e2 d x y]; exact b d x y⟩
/-! the next plan -/
theorem nx_stop {lo hi pin a : Int → Int} {i m : Nat} (h : nx lo hi pin (i + 1) (lst a (i + 1) m) = none) (h2 : ¬ (pin (i : Int) = -5 ∧ a (i : Int) < hi (i : Int))) : nx lo hi pin i (lst a i (m + 1)) = none := by
  show (match nx lo hi pin (i + 1) (lst a (i + 1) m) with | some s' => some (a (i : Int) :: s') | none => if pin (i : Int) = -5 ∧ a (i : Int) < hi (i : Int) then some ((a (i : Int) + 1) :: lst (fsv lo pin) (i + 1) (lst a (i + 1) m).length) else none) = none
  rw [h]
  exact if_neg h2
theorem nx_go0 {lo hi pin a b : Int → Int} {i m : Nat} (h : nx lo hi pin (i + 1) (lst a (i + 1) m) = none) (h2 : pin (i : Int) = -5 ∧ a (i : Int) < hi (i : Int)) (hb : b (i : Int) = a (i : Int) + 1) (hb2 : ∀ j : Nat, i < j → j < i + 1 + m → b (j : Int) = fsv lo pin (j : Int)) : nx lo hi pin i (lst a i (m + 1)) = some (lst b i (m + 1)) := by
  show (match nx lo hi pin (i + 1) (lst a (i + 1) m) with | some s' => some (a (i : Int) :: s') | none => if pin (i : Int) = -5 ∧ a (i : Int) < hi (i : Int) then some ((a (i : Int) + 1) :: lst (fsv lo pin) (i + 1) (lst a (i + 1) m).length) else none) = some (b (i : Int) :: lst b (i + 1) m)
  rw [h]
  show (if pin (i : Int) = -5 ∧ a (i : Int) < hi (i : Int) then some ((a (i : Int) + 1) :: lst (fsv lo pin) (i + 1) (lst a (i + 1) m).length) else none) = _
  rw [if_pos h2, lst_len, hb, lst_congr (a := b) (b := fsv lo pin) (fun j h1 h2 => hb2 j (by omega) (by omega))]
theorem nx_up {lo hi pin a b : Int → Int} : ∀ (i m : Nat), nx lo hi pin i (lst a i m) = some (lst b i m) → (∀ j : Nat, j < i → b (j : Int) = a (j : Int)) → nx lo hi pin 0 (lst a 0 (i + m)) = some (lst b 0 (i + m))
  | 0, m, h, _ => by rw [Nat.zero_add]; exact h
  | i + 1, m, h, hb => by
    have e : i + 1 + m = i + (m + 1) := by omega
    rw [e]
    refine nx_up i (m + 1) ?_ (fun j hj => hb j (by omega))
    show (match nx lo hi pin (i + 1) (lst a (i + 1) m) with | some s' => some (a (i : Int) :: s') | none => _) = some (b (i : Int) :: lst b (i + 1) m)
    rw [h, hb i (by omega)]
set_option maxRecDepth 100000 in
set_option maxHeartbeats 4000000 in
theorem X12_firstPlan {d : Nat} {n R F : Nat} {σ : Mem} {K : Mem → Prop} (hw : RW σ n R F) (hk0 : ∀ τ : Mem, (∀ c, c ≠ 83 → τ c = σ c) → (∀ j : Int, 0 ≤ j → j < n → τ 83 j = fsv (σ 65) (σ 70) j) → K τ) : Run mX12_firstPlan d [.inr (some 64)] σ (RV K) := by
  have hw0 := hw
  obtain ⟨⟨hn, hn6, hR, hR12, hF, hF6⟩, hru, hde, hwo, hli, hba, hwf⟩ := hw0
  refine Run_of (ls := [.inr (some 64), .inr none]) (by decide) (Nat.le_of_ble_eq_true rfl) rfl ?_
  have L : ∀ (k : Nat) (i : Nat) (τ : Mem), n - i < k → i ≤ n → (∀ c, c ≠ 83 → τ c = σ c) → (∀ j : Int, 0 ≤ j → j < i → τ 83 j = fsv (σ 65) (σ 70) j) → V mX12_firstPlan d (RV K) 2 [.inr (some 64), .inl (i : Int)] [] τ := by
    intro k
    induction k with
    | zero => intros; omega
    | succ k ih =>
        intro i τ hk hi g1 g2
        refine v_iload1 3 dX12_firstPlan_2 rfl ?_
        refine v_aload0 4 dX12_firstPlan_3 rfl ?_
        refine v_getIe 7 0 (n) dX12_firstPlan_4 rfl fX12_93 rfl rfl rfl (by rw [g1 64 (by decide)]; exact hn) ?_
        refine v_icmp_ge 48 10 dX12_firstPlan_7 rfl rfl (fun h7 => ?_) (fun h7 => ?_)
        · skip
          refine v_vretV dX12_firstPlan_48 rfl ?_
          exact hk0 τ g1 (fun j a b => g2 j a (by omega))
        · skip
          refine v_aload0 11 dX12_firstPlan_10 rfl ?_
          refine v_getR 14 dX12_firstPlan_11 rfl fX12_68 rfl rfl ?_
          refine v_iload1 15 dX12_firstPlan_14 rfl ?_
          refine v_aload0 16 dX12_firstPlan_15 rfl ?_
          refine v_getR 19 dX12_firstPlan_16 rfl fX12_25 rfl rfl ?_
          refine v_iload1 20 dX12_firstPlan_19 rfl ?_
          refine v_ialde 21 (σ 70 (i : Int)) dX12_firstPlan_20 rfl rfl (⟨by omega, by omega⟩) (by rw [g1 70 (by decide)]) ?_
          refine v_bipush 23 dX12_firstPlan_21 rfl ⟨by decide +kernel, by decide⟩ ?_
          refine v_icmp_ne 35 26 dX12_firstPlan_23 rfl rfl (fun h23 => ?_) (fun h23 => ?_)
          · skip
            refine v_aload0 36 dX12_firstPlan_35 rfl ?_
            refine v_getR 39 dX12_firstPlan_36 rfl fX12_25 rfl rfl ?_
            refine v_iload1 40 dX12_firstPlan_39 rfl ?_
            refine v_ialde 41 (σ 70 (i : Int)) dX12_firstPlan_40 rfl rfl (⟨by omega, by omega⟩) (by rw [g1 70 (by decide)]) ?_
            refine v_iast 42 dX12_firstPlan_41 rfl rfl (⟨by omega, by omega⟩) ?_
            refine v_iinc1 45 dX12_firstPlan_42 rfl (by decide) rfl (⟨by omega, by omega⟩) ?_
            refine v_goto 2 dX12_firstPlan_45 rfl ?_
            exact ih (i + 1) _ (by omega) (by omega) (fun c a => by rw [wr_ne a]; exact g1 c a) (fun j a b => by
              rw [wr_at]
              by_cases ej : j = (i : Int)
              · subst ej
                rw [if_pos rfl, fsv]
                first | (exfalso; omega) | rw [if_pos (by omega)] | rw [if_neg (by omega)]
              · rw [if_neg ej]
                exact g2 j a (by omega))
          · skip
            refine v_aload0 27 dX12_firstPlan_26 rfl ?_
            refine v_getR 30 dX12_firstPlan_27 rfl fX12_7 rfl rfl ?_
            refine v_iload1 31 dX12_firstPlan_30 rfl ?_
            refine v_ialde 32 (σ 65 (i : Int)) dX12_firstPlan_31 rfl rfl (⟨by omega, by omega⟩) (by rw [g1 65 (by decide)]) ?_
            refine v_goto 41 dX12_firstPlan_32 rfl ?_
            refine v_iast 42 dX12_firstPlan_41 rfl rfl (⟨by omega, by omega⟩) ?_
            refine v_iinc1 45 dX12_firstPlan_42 rfl (by decide) rfl (⟨by omega, by omega⟩) ?_
            refine v_goto 2 dX12_firstPlan_45 rfl ?_
            exact ih (i + 1) _ (by omega) (by omega) (fun c a => by rw [wr_ne a]; exact g1 c a) (fun j a b => by
              rw [wr_at]
              by_cases ej : j = (i : Int)
              · subst ej
                rw [if_pos rfl, fsv]
                first | (exfalso; omega) | rw [if_pos (by omega)] | rw [if_neg (by omega)]
              · rw [if_neg ej]
                exact g2 j a (by omega))
  refine v_iconst 1 dX12_firstPlan_0 rfl ⟨by decide +kernel, by decide⟩ ?_
  refine v_istore1 2 dX12_firstPlan_1 rfl (by decide) ?_
  exact L (n + 1) 0 _ (by omega) (by omega) (fun _ _ => rfl) (fun j a b => by omega)
set_option maxRecDepth 100000 in
set_option maxHeartbeats 4000000 in
theorem X12_nextPlan {d : Nat} {n R F : Nat} {σ : Mem} {K : Int → Mem → Prop} (hw : RW σ n R F) (hp : RP σ 83 n) (ht : ∀ τ : Mem, (∀ c, c ≠ 83 → τ c = σ c) → nx (σ 65) (σ 66) (σ 70) 0 (lst (σ 83) 0 n) = some (lst (τ 83) 0 n) → K 1 τ) (hf : ∀ τ : Mem, (∀ c, c ≠ 83 → τ c = σ c) → nx (σ 65) (σ 66) (σ 70) 0 (lst (σ 83) 0 n) = none → K 0 τ) : Run mX12_nextPlan d [.inr (some 64)] σ (RI K) := by
  have hw0 := hw
  obtain ⟨⟨hn, hn6, hR, hR12, hF, hF6⟩, hru, hde, hwo, hli, hba, hwf⟩ := hw0
  refine Run_of (ls := [.inr (some 64), .inr none]) (by decide) (Nat.le_of_ble_eq_true rfl) rfl ?_
  have L : ∀ (k : Nat) (i0 : Nat) (τ : Mem), i0 < k → i0 ≤ n → (∀ c, c ≠ 83 → τ c = σ c) → (∀ j : Int, 0 ≤ j → j < i0 → τ 83 j = σ 83 j) → (∀ j : Int, i0 ≤ j → j < n → τ 83 j = fsv (σ 65) (σ 70) j) → nx (σ 65) (σ 66) (σ 70) i0 (lst (σ 83) i0 (n - i0)) = none → V mX12_nextPlan d (RI K) 7 [.inr (some 64), .inl ((i0 : Int) - 1)] [] τ := by
    intro k
    induction k with
    | zero => intros; omega
    | succ k ih =>
        intro i0 τ hk hi g1 g2 g3 g4
        skip
        refine v_iload1 8 dX12_nextPlan_7 rfl ?_
        refine v_if_lt 87 11 dX12_nextPlan_8 rfl rfl (fun h8 => ?_) (fun h8 => ?_)
        · skip
          refine v_iconst 88 dX12_nextPlan_87 rfl ⟨by decide +kernel, by decide⟩ ?_
          refine v_zretI dX12_nextPlan_88 rfl (Or.inl rfl) ?_
          obtain rfl : i0 = 0 := by omega
          exact hf τ g1 g4
        · skip
          obtain ⟨i, rfl⟩ : ∃ i, i0 = i + 1 := ⟨i0 - 1, by omega⟩
          have ei : ((i + 1 : Nat) : Int) - 1 = (i : Int) := by omega
          rw [ei]
          have hd1 := hde (i : Int) (by omega) (by omega)
          have hp1 := hp (i : Int) (by omega) (by omega)
          have g2i := g2 (i : Int) (by omega) (by omega)
          refine v_aload0 12 dX12_nextPlan_11 rfl ?_
          refine v_getR 15 dX12_nextPlan_12 rfl fX12_25 rfl rfl ?_
          refine v_iload1 16 dX12_nextPlan_15 rfl ?_
          refine v_ialde 17 (σ 70 (i : Int)) dX12_nextPlan_16 rfl rfl (⟨by omega, by omega⟩) (by rw [g1 70 (by decide)]) ?_
          refine v_bipush 19 dX12_nextPlan_17 rfl ⟨by decide +kernel, by decide⟩ ?_
          refine v_icmp_ne 49 22 dX12_nextPlan_19 rfl rfl (fun h19 => ?_) (fun h19 => ?_)
          · skip
            refine v_aload0 50 dX12_nextPlan_49 rfl ?_
            refine v_getR 53 dX12_nextPlan_50 rfl fX12_68 rfl rfl ?_
            refine v_iload1 54 dX12_nextPlan_53 rfl ?_
            refine v_aload0 55 dX12_nextPlan_54 rfl ?_
            refine v_getR 58 dX12_nextPlan_55 rfl fX12_25 rfl rfl ?_
            refine v_iload1 59 dX12_nextPlan_58 rfl ?_
            refine v_ialde 60 (σ 70 (i : Int)) dX12_nextPlan_59 rfl rfl (⟨by omega, by omega⟩) (by rw [g1 70 (by decide)]) ?_
            refine v_bipush 62 dX12_nextPlan_60 rfl ⟨by decide +kernel, by decide⟩ ?_
            refine v_icmp_ne 74 65 dX12_nextPlan_62 rfl rfl (fun h62 => ?_) (fun h62 => ?_)
            · skip
              refine v_aload0 75 dX12_nextPlan_74 rfl ?_
              refine v_getR 78 dX12_nextPlan_75 rfl fX12_25 rfl rfl ?_
              refine v_iload1 79 dX12_nextPlan_78 rfl ?_
              refine v_ialde 80 (σ 70 (i : Int)) dX12_nextPlan_79 rfl rfl (⟨by omega, by omega⟩) (by rw [g1 70 (by decide)]) ?_
              refine v_iast 81 dX12_nextPlan_80 rfl rfl (⟨by omega, by omega⟩) ?_
              refine v_iinc1 84 dX12_nextPlan_81 rfl (by decide) rfl (⟨by omega, by omega⟩) ?_
              refine v_goto 7 dX12_nextPlan_84 rfl ?_
              have hm9 : n - i = (n - (i + 1)) + 1 := by omega
              exact ih i _ (by omega) (by omega) (fun c a => by rw [wr_ne a]; exact g1 c a) (fun j a b => by rw [wr_at, if_neg (by omega)]; exact g2 j a (by omega)) (fun j a b => by
                rw [wr_at]
                by_cases ej : j = (i : Int)
                · subst ej
                  rw [if_pos rfl, fsv]
                  first | (exfalso; omega) | rw [if_pos (by omega)] | rw [if_neg (by omega)]
                · rw [if_neg ej]
                  exact g3 j (by omega) b) (by rw [hm9]; exact nx_stop g4 (by rintro ⟨q1, q2⟩; have := g2 (i : Int) (by omega) (by omega); omega))
            · skip
              refine v_aload0 66 dX12_nextPlan_65 rfl ?_
              refine v_getR 69 dX12_nextPlan_66 rfl fX12_7 rfl rfl ?_
              refine v_iload1 70 dX12_nextPlan_69 rfl ?_
              refine v_ialde 71 (σ 65 (i : Int)) dX12_nextPlan_70 rfl rfl (⟨by omega, by omega⟩) (by rw [g1 65 (by decide)]) ?_
              refine v_goto 80 dX12_nextPlan_71 rfl ?_
              refine v_iast 81 dX12_nextPlan_80 rfl rfl (⟨by omega, by omega⟩) ?_
              refine v_iinc1 84 dX12_nextPlan_81 rfl (by decide) rfl (⟨by omega, by omega⟩) ?_
              refine v_goto 7 dX12_nextPlan_84 rfl ?_
              have hm9 : n - i = (n - (i + 1)) + 1 := by omega
              exact ih i _ (by omega) (by omega) (fun c a => by rw [wr_ne a]; exact g1 c a) (fun j a b => by rw [wr_at, if_neg (by omega)]; exact g2 j a (by omega)) (fun j a b => by
                rw [wr_at]
                by_cases ej : j = (i : Int)
                · subst ej
                  rw [if_pos rfl, fsv]
                  first | (exfalso; omega) | rw [if_pos (by omega)] | rw [if_neg (by omega)]
                · rw [if_neg ej]
                  exact g3 j (by omega) b) (by rw [hm9]; exact nx_stop g4 (by rintro ⟨q1, q2⟩; have := g2 (i : Int) (by omega) (by omega); omega))
          · skip
            refine v_aload0 23 dX12_nextPlan_22 rfl ?_
            refine v_getR 26 dX12_nextPlan_23 rfl fX12_68 rfl rfl ?_
            refine v_iload1 27 dX12_nextPlan_26 rfl ?_
            refine v_ialde 28 (σ 83 (i : Int)) dX12_nextPlan_27 rfl rfl (⟨by omega, by omega⟩) (g2i) ?_
            refine v_aload0 29 dX12_nextPlan_28 rfl ?_
            refine v_getR 32 dX12_nextPlan_29 rfl fX12_13 rfl rfl ?_
            refine v_iload1 33 dX12_nextPlan_32 rfl ?_
            refine v_ialde 34 (σ 66 (i : Int)) dX12_nextPlan_33 rfl rfl (⟨by omega, by omega⟩) (by rw [g1 66 (by decide)]) ?_
            refine v_icmp_ge 49 37 dX12_nextPlan_34 rfl rfl (fun h34 => ?_) (fun h34 => ?_)
            · skip
              refine v_aload0 50 dX12_nextPlan_49 rfl ?_
              refine v_getR 53 dX12_nextPlan_50 rfl fX12_68 rfl rfl ?_
              refine v_iload1 54 dX12_nextPlan_53 rfl ?_
              refine v_aload0 55 dX12_nextPlan_54 rfl ?_
              refine v_getR 58 dX12_nextPlan_55 rfl fX12_25 rfl rfl ?_
              refine v_iload1 59 dX12_nextPlan_58 rfl ?_
              refine v_ialde 60 (σ 70 (i : Int)) dX12_nextPlan_59 rfl rfl (⟨by omega, by omega⟩) (by rw [g1 70 (by decide)]) ?_
              refine v_bipush 62 dX12_nextPlan_60 rfl ⟨by decide +kernel, by decide⟩ ?_
              refine v_icmp_ne 74 65 dX12_nextPlan_62 rfl rfl (fun h62 => ?_) (fun h62 => ?_)
              · skip
                refine v_aload0 75 dX12_nextPlan_74 rfl ?_
                refine v_getR 78 dX12_nextPlan_75 rfl fX12_25 rfl rfl ?_
                refine v_iload1 79 dX12_nextPlan_78 rfl ?_
                refine v_ialde 80 (σ 70 (i : Int)) dX12_nextPlan_79 rfl rfl (⟨by omega, by omega⟩) (by rw [g1 70 (by decide)]) ?_
                refine v_iast 81 dX12_nextPlan_80 rfl rfl (⟨by omega, by omega⟩) ?_
                refine v_iinc1 84 dX12_nextPlan_81 rfl (by decide) rfl (⟨by omega, by omega⟩) ?_
                refine v_goto 7 dX12_nextPlan_84 rfl ?_
                have hm9 : n - i = (n - (i + 1)) + 1 := by omega
                exact ih i _ (by omega) (by omega) (fun c a => by rw [wr_ne a]; exact g1 c a) (fun j a b => by rw [wr_at, if_neg (by omega)]; exact g2 j a (by omega)) (fun j a b => by
                  rw [wr_at]
                  by_cases ej : j = (i : Int)
                  · subst ej
                    rw [if_pos rfl, fsv]
                    first | (exfalso; omega) | rw [if_pos (by omega)] | rw [if_neg (by omega)]
                  · rw [if_neg ej]
                    exact g3 j (by omega) b) (by rw [hm9]; exact nx_stop g4 (by rintro ⟨q1, q2⟩; have := g2 (i : Int) (by omega) (by omega); omega))
              · skip
                refine v_aload0 66 dX12_nextPlan_65 rfl ?_
                refine v_getR 69 dX12_nextPlan_66 rfl fX12_7 rfl rfl ?_
                refine v_iload1 70 dX12_nextPlan_69 rfl ?_
                refine v_ialde 71 (σ 65 (i : Int)) dX12_nextPlan_70 rfl rfl (⟨by omega, by omega⟩) (by rw [g1 65 (by decide)]) ?_
                refine v_goto 80 dX12_nextPlan_71 rfl ?_
                refine v_iast 81 dX12_nextPlan_80 rfl rfl (⟨by omega, by omega⟩) ?_
                refine v_iinc1 84 dX12_nextPlan_81 rfl (by decide) rfl (⟨by omega, by omega⟩) ?_
                refine v_goto 7 dX12_nextPlan_84 rfl ?_
                have hm9 : n - i = (n - (i + 1)) + 1 := by omega
                exact ih i _ (by omega) (by omega) (fun c a => by rw [wr_ne a]; exact g1 c a) (fun j a b => by rw [wr_at, if_neg (by omega)]; exact g2 j a (by omega)) (fun j a b => by
                  rw [wr_at]
                  by_cases ej : j = (i : Int)
                  · subst ej
                    rw [if_pos rfl, fsv]
                    first | (exfalso; omega) | rw [if_pos (by omega)] | rw [if_neg (by omega)]
                  · rw [if_neg ej]
                    exact g3 j (by omega) b) (by rw [hm9]; exact nx_stop g4 (by rintro ⟨q1, q2⟩; have := g2 (i : Int) (by omega) (by omega); omega))
            · skip
              refine v_aload0 38 dX12_nextPlan_37 rfl ?_
              refine v_getR 41 dX12_nextPlan_38 rfl fX12_68 rfl rfl ?_
              refine v_iload1 42 dX12_nextPlan_41 rfl ?_
              refine v_dup2 43 dX12_nextPlan_42 rfl ?_
              refine v_ialde 44 (σ 83 (i : Int)) dX12_nextPlan_43 rfl rfl (⟨by omega, by omega⟩) (g2i) ?_
              refine v_iconst 45 dX12_nextPlan_44 rfl ⟨by decide +kernel, by decide⟩ ?_
              refine v_iadd 46 dX12_nextPlan_45 rfl (⟨by omega, by omega⟩) ?_
              refine v_iast 47 dX12_nextPlan_46 rfl rfl (⟨by omega, by omega⟩) ?_
              refine v_iconst 48 dX12_nextPlan_47 rfl ⟨by decide +kernel, by decide⟩ ?_
              refine v_zretI dX12_nextPlan_48 rfl (Or.inr rfl) ?_
              refine ht _ (fun c a => by rw [wr_ne a]; exact g1 c a) ?_
              have hm8 : n = i + ((n - (i + 1)) + 1) := by omega
              have q9 := nx_go0 (m := n - (i + 1)) (b := wr τ 83 (i : Int) (σ 83 (i : Int) + 1) 83) g4 ⟨by omega, by omega⟩ wr_eq (fun j a b => by rw [wr_at, if_neg (by omega)]; exact g3 (j : Int) (by omega) (by omega))
              have q8 := nx_up i (n - (i + 1) + 1) q9 (fun j a => by rw [wr_at, if_neg (by omega)]; exact g2 (j : Int) (by omega) (by omega))
              rw [← hm8] at q8
              exact q8
  refine v_aload0 1 dX12_nextPlan_0 rfl ?_
  refine v_getIe 4 0 (n) dX12_nextPlan_1 rfl fX12_93 rfl rfl rfl (hn) ?_
  refine v_iconst 5 dX12_nextPlan_4 rfl ⟨by decide +kernel, by decide⟩ ?_
  refine v_isub 6 dX12_nextPlan_5 rfl (⟨by omega, by omega⟩) ?_
  refine v_istore1 7 dX12_nextPlan_6 rfl (by decide) ?_
  exact L (n + 1) n _ (by omega) (by omega) (fun _ _ => rfl) (fun _ _ _ => rfl) (fun j a b => by omega) (by rw [Nat.sub_self]; rfl)
end
section
theorem zz_last : True := trivial
end
