section
-- ===== PART A: goes FIRST, ahead of the names: the tables' words, and 'selects' of the private methods out of them =====
/-- a private method of a class that the tables say can be made, by its rows of tables_1 -/
def lw_okq (q : MethodName × Nat) : Prop := (q.1.cls ≠ "java/lang/invoke/MethodHandle" ∧ q.1.cls ≠ "java/lang/invoke/VarHandle") ∧ Cond.instantiable q.1.cls q.2 ∈ tables_1 ∧ Cond.privateMethod q.1 ∈ tables_1 ∧ Cond.instanceMethod q.1 ∈ tables_1
theorem lw_p0 : lw_okq (⟨"CodeProbes$Code", "take", "(LCodeProbes$Text;II)V"⟩, 3) := ⟨⟨by decide +kernel, by decide +kernel⟩, List.mem_of_getElem? (i := 48) (by decide +kernel), List.mem_of_getElem? (i := 324) (by decide +kernel), List.mem_of_getElem? (i := 325) (by decide +kernel)⟩
theorem lw_p1 : lw_okq (⟨"CodeProbes$Code", "firstAstray", "()I"⟩, 3) := ⟨⟨by decide +kernel, by decide +kernel⟩, List.mem_of_getElem? (i := 48) (by decide +kernel), List.mem_of_getElem? (i := 329) (by decide +kernel), List.mem_of_getElem? (i := 330) (by decide +kernel)⟩
theorem lw_p2 : lw_okq (⟨"CodeProbes$Stack", "put", "(I)Z"⟩, 2) := ⟨⟨by decide +kernel, by decide +kernel⟩, List.mem_of_getElem? (i := 228) (by decide +kernel), List.mem_of_getElem? (i := 514) (by decide +kernel), List.mem_of_getElem? (i := 515) (by decide +kernel)⟩
theorem lw_p3 : lw_okq (⟨"CodeProbes$Stack", "turnTop", "()Z"⟩, 2) := ⟨⟨by decide +kernel, by decide +kernel⟩, List.mem_of_getElem? (i := 228) (by decide +kernel), List.mem_of_getElem? (i := 518) (by decide +kernel), List.mem_of_getElem? (i := 519) (by decide +kernel)⟩
theorem lw_p4 : lw_okq (⟨"CodeProbes$Stack", "join", "(C)Z"⟩, 2) := ⟨⟨by decide +kernel, by decide +kernel⟩, List.mem_of_getElem? (i := 228) (by decide +kernel), List.mem_of_getElem? (i := 522) (by decide +kernel), List.mem_of_getElem? (i := 523) (by decide +kernel)⟩
theorem lw_p5 : lw_okq (⟨"CodeProbes", "stepWithProbes", "(LCodeProbes$Processor;)V"⟩, 8) := ⟨⟨by decide +kernel, by decide +kernel⟩, List.mem_of_getElem? (i := 19) (by decide +kernel), List.mem_of_getElem? (i := 561) (by decide +kernel), List.mem_of_getElem? (i := 562) (by decide +kernel)⟩
theorem lw_p6 : lw_okq (⟨"CodeProbes", "comeBy", "(LCodeProbes$Processor;LCodeProbes$Probe;)V"⟩, 8) := ⟨⟨by decide +kernel, by decide +kernel⟩, List.mem_of_getElem? (i := 19) (by decide +kernel), List.mem_of_getElem? (i := 570) (by decide +kernel), List.mem_of_getElem? (i := 571) (by decide +kernel)⟩
theorem lw_p7 : lw_okq (⟨"CodeProbes", "hit", "(LCodeProbes$Processor;LCodeProbes$Probe;)V"⟩, 8) := ⟨⟨by decide +kernel, by decide +kernel⟩, List.mem_of_getElem? (i := 19) (by decide +kernel), List.mem_of_getElem? (i := 574) (by decide +kernel), List.mem_of_getElem? (i := 575) (by decide +kernel)⟩
theorem lw_p8 : lw_okq (⟨"CodeProbes$Ring", "loseOldest", "()V"⟩, 5) := ⟨⟨by decide +kernel, by decide +kernel⟩, List.mem_of_getElem? (i := 92) (by decide +kernel), List.mem_of_getElem? (i := 582) (by decide +kernel), List.mem_of_getElem? (i := 583) (by decide +kernel)⟩
theorem lw_p9 : lw_okq (⟨"CodeProbes$Processor", "reckon", "(CILCodeProbes$Memory;)V"⟩, 8) := ⟨⟨by decide +kernel, by decide +kernel⟩, List.mem_of_getElem? (i := 86) (by decide +kernel), List.mem_of_getElem? (i := 602) (by decide +kernel), List.mem_of_getElem? (i := 603) (by decide +kernel)⟩
theorem lw_p10 : lw_okq (⟨"CodeProbes$Processor", "goingOn", "(CI)I"⟩, 8) := ⟨⟨by decide +kernel, by decide +kernel⟩, List.mem_of_getElem? (i := 86) (by decide +kernel), List.mem_of_getElem? (i := 611) (by decide +kernel), List.mem_of_getElem? (i := 612) (by decide +kernel)⟩
theorem lw_p11 : lw_okq (⟨"CodeProbes$Processor", "called", "(II)I"⟩, 8) := ⟨⟨by decide +kernel, by decide +kernel⟩, List.mem_of_getElem? (i := 86) (by decide +kernel), List.mem_of_getElem? (i := 616) (by decide +kernel), List.mem_of_getElem? (i := 617) (by decide +kernel)⟩
theorem lw_p12 : lw_okq (⟨"CodeProbes$Processor", "returned", "()I"⟩, 8) := ⟨⟨by decide +kernel, by decide +kernel⟩, List.mem_of_getElem? (i := 86) (by decide +kernel), List.mem_of_getElem? (i := 620) (by decide +kernel), List.mem_of_getElem? (i := 621) (by decide +kernel)⟩
theorem lw_p13 : lw_okq (⟨"CodeProbes", "leave", "(LCodeProbes$Processor;LCodeProbes$Probe;)V"⟩, 8) := ⟨⟨by decide +kernel, by decide +kernel⟩, List.mem_of_getElem? (i := 19) (by decide +kernel), List.mem_of_getElem? (i := 625) (by decide +kernel), List.mem_of_getElem? (i := 626) (by decide +kernel)⟩
theorem lw_p14 : lw_okq (⟨"CodeProbesModel", "one", "(II)V"⟩, 12) := ⟨⟨by decide +kernel, by decide +kernel⟩, List.mem_of_getElem? (i := 712) (by decide +kernel), List.mem_of_getElem? (i := 718) (by decide +kernel), List.mem_of_getElem? (i := 719) (by decide +kernel)⟩
theorem lw_p15 : lw_okq (⟨"CodeProbesModel", "none", "(I)V"⟩, 12) := ⟨⟨by decide +kernel, by decide +kernel⟩, List.mem_of_getElem? (i := 712) (by decide +kernel), List.mem_of_getElem? (i := 722) (by decide +kernel), List.mem_of_getElem? (i := 723) (by decide +kernel)⟩
def lw_privs_1 : List (MethodName × Nat) := [(⟨"CodeProbes$Code", "take", "(LCodeProbes$Text;II)V"⟩, 3), (⟨"CodeProbes$Code", "firstAstray", "()I"⟩, 3), (⟨"CodeProbes$Stack", "put", "(I)Z"⟩, 2), (⟨"CodeProbes$Stack", "turnTop", "()Z"⟩, 2), (⟨"CodeProbes$Stack", "join", "(C)Z"⟩, 2), (⟨"CodeProbes", "stepWithProbes", "(LCodeProbes$Processor;)V"⟩, 8), (⟨"CodeProbes", "comeBy", "(LCodeProbes$Processor;LCodeProbes$Probe;)V"⟩, 8), (⟨"CodeProbes", "hit", "(LCodeProbes$Processor;LCodeProbes$Probe;)V"⟩, 8), (⟨"CodeProbes$Ring", "loseOldest", "()V"⟩, 5), (⟨"CodeProbes$Processor", "reckon", "(CILCodeProbes$Memory;)V"⟩, 8), (⟨"CodeProbes$Processor", "goingOn", "(CI)I"⟩, 8), (⟨"CodeProbes$Processor", "called", "(II)I"⟩, 8), (⟨"CodeProbes$Processor", "returned", "()I"⟩, 8), (⟨"CodeProbes", "leave", "(LCodeProbes$Processor;LCodeProbes$Probe;)V"⟩, 8), (⟨"CodeProbesModel", "one", "(II)V"⟩, 12), (⟨"CodeProbesModel", "none", "(I)V"⟩, 12)]
theorem lw_r1 : ∀ q ∈ lw_privs_1, lw_okq q := List.forall_mem_cons.mpr ⟨lw_p0, List.forall_mem_cons.mpr ⟨lw_p1, List.forall_mem_cons.mpr ⟨lw_p2, List.forall_mem_cons.mpr ⟨lw_p3, List.forall_mem_cons.mpr ⟨lw_p4, List.forall_mem_cons.mpr ⟨lw_p5, List.forall_mem_cons.mpr ⟨lw_p6, List.forall_mem_cons.mpr ⟨lw_p7, List.forall_mem_cons.mpr ⟨lw_p8, List.forall_mem_cons.mpr ⟨lw_p9, List.forall_mem_cons.mpr ⟨lw_p10, List.forall_mem_cons.mpr ⟨lw_p11, List.forall_mem_cons.mpr ⟨lw_p12, List.forall_mem_cons.mpr ⟨lw_p13, List.forall_mem_cons.mpr ⟨lw_p14, List.forall_mem_cons.mpr ⟨lw_p15, fun _ h => absurd h List.not_mem_nil⟩⟩⟩⟩⟩⟩⟩⟩⟩⟩⟩⟩⟩⟩⟩⟩
theorem lw_p16 : lw_okq (⟨"CodeProbesModel", "two", "(II)V"⟩, 12) := ⟨⟨by decide +kernel, by decide +kernel⟩, List.mem_of_getElem? (i := 712) (by decide +kernel), List.mem_of_getElem? (i := 726) (by decide +kernel), List.mem_of_getElem? (i := 727) (by decide +kernel)⟩
theorem lw_p17 : lw_okq (⟨"CodeProbesModel", "empties", "()V"⟩, 12) := ⟨⟨by decide +kernel, by decide +kernel⟩, List.mem_of_getElem? (i := 712) (by decide +kernel), List.mem_of_getElem? (i := 730) (by decide +kernel), List.mem_of_getElem? (i := 731) (by decide +kernel)⟩
theorem lw_p18 : lw_okq (⟨"CodeProbesModel", "reads", "()I"⟩, 12) := ⟨⟨by decide +kernel, by decide +kernel⟩, List.mem_of_getElem? (i := 712) (by decide +kernel), List.mem_of_getElem? (i := 783) (by decide +kernel), List.mem_of_getElem? (i := 784) (by decide +kernel)⟩
theorem lw_p19 : lw_okq (⟨"CodeProbesModel", "wideAt", "(I)I"⟩, 12) := ⟨⟨by decide +kernel, by decide +kernel⟩, List.mem_of_getElem? (i := 712) (by decide +kernel), List.mem_of_getElem? (i := 787) (by decide +kernel), List.mem_of_getElem? (i := 788) (by decide +kernel)⟩
theorem lw_p20 : lw_okq (⟨"CodeProbesModel", "isFigure", "(II)Z"⟩, 12) := ⟨⟨by decide +kernel, by decide +kernel⟩, List.mem_of_getElem? (i := 712) (by decide +kernel), List.mem_of_getElem? (i := 791) (by decide +kernel), List.mem_of_getElem? (i := 792) (by decide +kernel)⟩
theorem lw_p21 : lw_okq (⟨"CodeProbesModel", "asks", "([IIII)I"⟩, 12) := ⟨⟨by decide +kernel, by decide +kernel⟩, List.mem_of_getElem? (i := 712) (by decide +kernel), List.mem_of_getElem? (i := 806) (by decide +kernel), List.mem_of_getElem? (i := 807) (by decide +kernel)⟩
theorem lw_p22 : lw_okq (⟨"CodeProbesModel", "comes", "(I)Z"⟩, 12) := ⟨⟨by decide +kernel, by decide +kernel⟩, List.mem_of_getElem? (i := 712) (by decide +kernel), List.mem_of_getElem? (i := 810) (by decide +kernel), List.mem_of_getElem? (i := 811) (by decide +kernel)⟩
theorem lw_p23 : lw_okq (⟨"CodeProbesModel", "takes", "(I)Z"⟩, 12) := ⟨⟨by decide +kernel, by decide +kernel⟩, List.mem_of_getElem? (i := 712) (by decide +kernel), List.mem_of_getElem? (i := 814) (by decide +kernel), List.mem_of_getElem? (i := 815) (by decide +kernel)⟩
theorem lw_p24 : lw_okq (⟨"CodeProbesModel", "isCell", "(I)Z"⟩, 12) := ⟨⟨by decide +kernel, by decide +kernel⟩, List.mem_of_getElem? (i := 712) (by decide +kernel), List.mem_of_getElem? (i := 829) (by decide +kernel), List.mem_of_getElem? (i := 830) (by decide +kernel)⟩
theorem lw_p25 : lw_okq (⟨"CodeProbesModel", "probeOn", "(I)I"⟩, 12) := ⟨⟨by decide +kernel, by decide +kernel⟩, List.mem_of_getElem? (i := 712) (by decide +kernel), List.mem_of_getElem? (i := 833) (by decide +kernel), List.mem_of_getElem? (i := 834) (by decide +kernel)⟩
theorem lw_p26 : lw_okq (⟨"CodeProbesModel", "manyThat", "(I)I"⟩, 12) := ⟨⟨by decide +kernel, by decide +kernel⟩, List.mem_of_getElem? (i := 712) (by decide +kernel), List.mem_of_getElem? (i := 840) (by decide +kernel), List.mem_of_getElem? (i := 841) (by decide +kernel)⟩
theorem lw_p27 : lw_okq (⟨"CodeProbesModel", "keeps", "()V"⟩, 12) := ⟨⟨by decide +kernel, by decide +kernel⟩, List.mem_of_getElem? (i := 712) (by decide +kernel), List.mem_of_getElem? (i := 844) (by decide +kernel), List.mem_of_getElem? (i := 845) (by decide +kernel)⟩
theorem lw_p28 : lw_okq (⟨"CodeProbesModel", "isProbe", "(I)Z"⟩, 12) := ⟨⟨by decide +kernel, by decide +kernel⟩, List.mem_of_getElem? (i := 712) (by decide +kernel), List.mem_of_getElem? (i := 852) (by decide +kernel), List.mem_of_getElem? (i := 853) (by decide +kernel)⟩
theorem lw_p29 : lw_okq (⟨"CodeProbesModel", "does", "(I)Z"⟩, 12) := ⟨⟨by decide +kernel, by decide +kernel⟩, List.mem_of_getElem? (i := 712) (by decide +kernel), List.mem_of_getElem? (i := 874) (by decide +kernel), List.mem_of_getElem? (i := 875) (by decide +kernel)⟩
theorem lw_p30 : lw_okq (⟨"CodeProbesModel", "isBegin", "(I)Z"⟩, 12) := ⟨⟨by decide +kernel, by decide +kernel⟩, List.mem_of_getElem? (i := 712) (by decide +kernel), List.mem_of_getElem? (i := 878) (by decide +kernel), List.mem_of_getElem? (i := 879) (by decide +kernel)⟩
theorem lw_p31 : lw_okq (⟨"CodeProbesModel", "meets", "(II)V"⟩, 12) := ⟨⟨by decide +kernel, by decide +kernel⟩, List.mem_of_getElem? (i := 712) (by decide +kernel), List.mem_of_getElem? (i := 882) (by decide +kernel), List.mem_of_getElem? (i := 883) (by decide +kernel)⟩
def lw_privs_2 : List (MethodName × Nat) := [(⟨"CodeProbesModel", "two", "(II)V"⟩, 12), (⟨"CodeProbesModel", "empties", "()V"⟩, 12), (⟨"CodeProbesModel", "reads", "()I"⟩, 12), (⟨"CodeProbesModel", "wideAt", "(I)I"⟩, 12), (⟨"CodeProbesModel", "isFigure", "(II)Z"⟩, 12), (⟨"CodeProbesModel", "asks", "([IIII)I"⟩, 12), (⟨"CodeProbesModel", "comes", "(I)Z"⟩, 12), (⟨"CodeProbesModel", "takes", "(I)Z"⟩, 12), (⟨"CodeProbesModel", "isCell", "(I)Z"⟩, 12), (⟨"CodeProbesModel", "probeOn", "(I)I"⟩, 12), (⟨"CodeProbesModel", "manyThat", "(I)I"⟩, 12), (⟨"CodeProbesModel", "keeps", "()V"⟩, 12), (⟨"CodeProbesModel", "isProbe", "(I)Z"⟩, 12), (⟨"CodeProbesModel", "does", "(I)Z"⟩, 12), (⟨"CodeProbesModel", "isBegin", "(I)Z"⟩, 12), (⟨"CodeProbesModel", "meets", "(II)V"⟩, 12)]
theorem lw_r2 : ∀ q ∈ lw_privs_2, lw_okq q := List.forall_mem_cons.mpr ⟨lw_p16, List.forall_mem_cons.mpr ⟨lw_p17, List.forall_mem_cons.mpr ⟨lw_p18, List.forall_mem_cons.mpr ⟨lw_p19, List.forall_mem_cons.mpr ⟨lw_p20, List.forall_mem_cons.mpr ⟨lw_p21, List.forall_mem_cons.mpr ⟨lw_p22, List.forall_mem_cons.mpr ⟨lw_p23, List.forall_mem_cons.mpr ⟨lw_p24, List.forall_mem_cons.mpr ⟨lw_p25, List.forall_mem_cons.mpr ⟨lw_p26, List.forall_mem_cons.mpr ⟨lw_p27, List.forall_mem_cons.mpr ⟨lw_p28, List.forall_mem_cons.mpr ⟨lw_p29, List.forall_mem_cons.mpr ⟨lw_p30, List.forall_mem_cons.mpr ⟨lw_p31, fun _ h => absurd h List.not_mem_nil⟩⟩⟩⟩⟩⟩⟩⟩⟩⟩⟩⟩⟩⟩⟩⟩
theorem lw_p32 : lw_okq (⟨"CodeProbesModel", "hits", "(II)V"⟩, 12) := ⟨⟨by decide +kernel, by decide +kernel⟩, List.mem_of_getElem? (i := 712) (by decide +kernel), List.mem_of_getElem? (i := 886) (by decide +kernel), List.mem_of_getElem? (i := 887) (by decide +kernel)⟩
theorem lw_p33 : lw_okq (⟨"CodeProbesModel", "goes", "([II)Z"⟩, 12) := ⟨⟨by decide +kernel, by decide +kernel⟩, List.mem_of_getElem? (i := 712) (by decide +kernel), List.mem_of_getElem? (i := 890) (by decide +kernel), List.mem_of_getElem? (i := 891) (by decide +kernel)⟩
theorem lw_p34 : lw_okq (⟨"CodeProbesModel", "turns", "([III)I"⟩, 12) := ⟨⟨by decide +kernel, by decide +kernel⟩, List.mem_of_getElem? (i := 712) (by decide +kernel), List.mem_of_getElem? (i := 894) (by decide +kernel), List.mem_of_getElem? (i := 895) (by decide +kernel)⟩
theorem lw_p35 : lw_okq (⟨"CodeProbesModel", "plain", "([III)I"⟩, 12) := ⟨⟨by decide +kernel, by decide +kernel⟩, List.mem_of_getElem? (i := 712) (by decide +kernel), List.mem_of_getElem? (i := 901) (by decide +kernel), List.mem_of_getElem? (i := 902) (by decide +kernel)⟩
theorem lw_p36 : lw_okq (⟨"CodeProbesModel", "frees", "(I)V"⟩, 12) := ⟨⟨by decide +kernel, by decide +kernel⟩, List.mem_of_getElem? (i := 712) (by decide +kernel), List.mem_of_getElem? (i := 905) (by decide +kernel), List.mem_of_getElem? (i := 906) (by decide +kernel)⟩
theorem lw_p37 : lw_okq (⟨"CodeProbesModel", "heldInAll", "()I"⟩, 12) := ⟨⟨by decide +kernel, by decide +kernel⟩, List.mem_of_getElem? (i := 712) (by decide +kernel), List.mem_of_getElem? (i := 949) (by decide +kernel), List.mem_of_getElem? (i := 950) (by decide +kernel)⟩
def lw_privs_3 : List (MethodName × Nat) := [(⟨"CodeProbesModel", "hits", "(II)V"⟩, 12), (⟨"CodeProbesModel", "goes", "([II)Z"⟩, 12), (⟨"CodeProbesModel", "turns", "([III)I"⟩, 12), (⟨"CodeProbesModel", "plain", "([III)I"⟩, 12), (⟨"CodeProbesModel", "frees", "(I)V"⟩, 12), (⟨"CodeProbesModel", "heldInAll", "()I"⟩, 12)]
theorem lw_r3 : ∀ q ∈ lw_privs_3, lw_okq q := List.forall_mem_cons.mpr ⟨lw_p32, List.forall_mem_cons.mpr ⟨lw_p33, List.forall_mem_cons.mpr ⟨lw_p34, List.forall_mem_cons.mpr ⟨lw_p35, List.forall_mem_cons.mpr ⟨lw_p36, List.forall_mem_cons.mpr ⟨lw_p37, fun _ h => absurd h List.not_mem_nil⟩⟩⟩⟩⟩⟩
def lw_privs : List (MethodName × Nat) := lw_privs_1 ++ (lw_privs_2 ++ (lw_privs_3))
def lw_tbl : List Cond := k2_sels lw_privs ++ tables_1
theorem lw_privs_ok : ∀ q ∈ lw_privs, lw_okq q := by
  show ∀ q ∈ lw_privs_1 ++ (lw_privs_2 ++ (lw_privs_3)), lw_okq q
  exact List.forall_mem_append.mpr ⟨lw_r1, List.forall_mem_append.mpr ⟨lw_r2, lw_r3⟩⟩
/-! names: printed by the task, cut to what is used here -/
def RX0 : String := "CodeProbes$Code"
def TX0 : u_T := fun k => match k with
  | 0 => ("CodeProbes$Code", "cells", "LCodeProbes$Text;", true)
  | 1 => ("CodeProbes$Code", "begins", "[Z", true)
  | _ => ("CodeProbes$Code", "instructions", "I", false)
def tyX0 : Nat → FieldType := fun k => match k with
  | 0 => .object "CodeProbes$Text"
  | 1 => .array .boolean
  | _ => .int
abbrev wsX00 : List Cond := u_ws RX0 TX0 3
theorem nmX0 : ∀ a, a < 3 → ∀ b, b < 3 → a ≠ b → (TX0 a).2.1 ≠ (TX0 b).2.1 := by decide +kernel
theorem tyX0_ok : ∀ k, k < 3 → parseFieldDescriptor (TX0 k).2.2.1 = some (tyX0 k) := by decide +kernel
abbrev cX0_init : ByteArray := prog_2_method_1_code
def yX0_init : MethodName := ⟨RX0, "<init>", "()V"⟩
abbrev cX0_readFrom : ByteArray := prog_2_method_2_code
def yX0_readFrom : MethodName := ⟨RX0, "readFrom", "(LCodeProbes$Text;)I"⟩
abbrev cX0_take : ByteArray := prog_2_method_3_code
def yX0_take : MethodName := ⟨RX0, "take", "(LCodeProbes$Text;II)V"⟩
abbrev cX0_firstAstray : ByteArray := prog_2_method_4_code
def yX0_firstAstray : MethodName := ⟨RX0, "firstAstray", "()I"⟩
abbrev cX0_widthAt : ByteArray := prog_2_method_5_code
def yX0_widthAt : MethodName := ⟨RX0, "widthAt", "(LCodeProbes$Text;I)I"⟩
abbrev cX0_has : ByteArray := prog_2_method_6_code
def yX0_has : MethodName := ⟨RX0, "has", "(I)Z"⟩
abbrev cX0_beginsAt : ByteArray := prog_2_method_7_code
def yX0_beginsAt : MethodName := ⟨RX0, "beginsAt", "(I)Z"⟩
abbrev cX0_letterAt : ByteArray := prog_2_method_8_code
def yX0_letterAt : MethodName := ⟨RX0, "letterAt", "(I)C"⟩
abbrev cX0_numberAt : ByteArray := prog_2_method_9_code
def yX0_numberAt : MethodName := ⟨RX0, "numberAt", "(I)I"⟩
def RX1 : String := "CodeProbes$History"
def TX1 : u_T := fun k => match k with
  | 0 => ("CodeProbes$History", "kept", "[LCodeProbes$State;", true)
  | 1 => ("CodeProbes$History", "latest", "I", false)
  | _ => ("CodeProbes$History", "size", "I", false)
def tyX1 : Nat → FieldType := fun k => match k with
  | 0 => .array (.object "CodeProbes$State")
  | 1 => .int
  | _ => .int
abbrev wsX10 : List Cond := u_ws RX1 TX1 3
theorem nmX1 : ∀ a, a < 3 → ∀ b, b < 3 → a ≠ b → (TX1 a).2.1 ≠ (TX1 b).2.1 := by decide +kernel
theorem tyX1_ok : ∀ k, k < 3 → parseFieldDescriptor (TX1 k).2.2.1 = some (tyX1 k) := by decide +kernel
abbrev cX1_init : ByteArray := prog_3_method_1_code
def yX1_init : MethodName := ⟨RX1, "<init>", "()V"⟩
abbrev cX1_keep : ByteArray := prog_3_method_2_code
def yX1_keep : MethodName := ⟨RX1, "keep", "(LCodeProbes$State;)V"⟩
abbrev cX1_giveBack : ByteArray := prog_3_method_3_code
def yX1_giveBack : MethodName := ⟨RX1, "giveBack", "(LCodeProbes$State;)V"⟩
abbrev cX1_clear : ByteArray := prog_3_method_4_code
def yX1_clear : MethodName := ⟨RX1, "clear", "()V"⟩
def RX2 : String := "CodeProbes$Memory"
def TX2 : u_T := fun k => match k with
  | _ => ("CodeProbes$Memory", "numbers", "[I", true)
def tyX2 : Nat → FieldType := fun k => match k with
  | _ => .array .int
abbrev wsX20 : List Cond := u_ws RX2 TX2 1
theorem nmX2 : ∀ a, a < 1 → ∀ b, b < 1 → a ≠ b → (TX2 a).2.1 ≠ (TX2 b).2.1 := by decide +kernel
theorem tyX2_ok : ∀ k, k < 1 → parseFieldDescriptor (TX2 k).2.2.1 = some (tyX2 k) := by decide +kernel
abbrev cX2_init : ByteArray := prog_4_method_1_code
def yX2_init : MethodName := ⟨RX2, "<init>", "()V"⟩
abbrev cX2_has : ByteArray := prog_4_method_2_code
def yX2_has : MethodName := ⟨RX2, "has", "(I)Z"⟩
abbrev cX2_get : ByteArray := prog_4_method_3_code
def yX2_get : MethodName := ⟨RX2, "get", "(I)I"⟩
abbrev cX2_put : ByteArray := prog_4_method_4_code
def yX2_put : MethodName := ⟨RX2, "put", "(II)V"⟩
abbrev cX2_together : ByteArray := prog_4_method_5_code
def yX2_together : MethodName := ⟨RX2, "together", "()I"⟩
abbrev cX2_clear : ByteArray := prog_4_method_6_code
def yX2_clear : MethodName := ⟨RX2, "clear", "()V"⟩
abbrev cX2_copyFrom : ByteArray := prog_4_method_7_code
def yX2_copyFrom : MethodName := ⟨RX2, "copyFrom", "(LCodeProbes$Memory;)V"⟩
def RX3 : String := "CodeProbes$Probe"
def TX3 : u_T := fun k => match k with
  | 0 => ("CodeProbes$Probe", "number", "I", true)
  | 1 => ("CodeProbes$Probe", "is", "I", false)
  | 2 => ("CodeProbes$Probe", "kind", "I", false)
  | 3 => ("CodeProbes$Probe", "cell", "I", false)
  | 4 => ("CodeProbes$Probe", "hits", "I", false)
  | 5 => ("CodeProbes$Probe", "filtered", "I", false)
  | 6 => ("CodeProbes$Probe", "missed", "I", false)
  | 7 => ("CodeProbes$Probe", "holds", "I", false)
  | _ => ("CodeProbes$Probe", "filter", "LCodeProbes$Text;", false)
def tyX3 : Nat → FieldType := fun k => match k with
  | 0 => .int
  | 1 => .int
  | 2 => .int
  | 3 => .int
  | 4 => .int
  | 5 => .int
  | 6 => .int
  | 7 => .int
  | _ => .object "CodeProbes$Text"
abbrev wsX30 : List Cond := u_ws RX3 TX3 9
theorem nmX3 : ∀ a, a < 9 → ∀ b, b < 9 → a ≠ b → (TX3 a).2.1 ≠ (TX3 b).2.1 := by decide +kernel
theorem tyX3_ok : ∀ k, k < 9 → parseFieldDescriptor (TX3 k).2.2.1 = some (tyX3 k) := by decide +kernel
abbrev cX3_init : ByteArray := prog_5_method_1_code
def yX3_init : MethodName := ⟨RX3, "<init>", "(I)V"⟩
abbrev cX3_layOn : ByteArray := prog_5_method_2_code
def yX3_layOn : MethodName := ⟨RX3, "layOn", "(II)V"⟩
abbrev cX3_goIfNobodyIsInside : ByteArray := prog_5_method_3_code
def yX3_goIfNobodyIsInside : MethodName := ⟨RX3, "goIfNobodyIsInside", "()V"⟩
abbrev cX3_tell : ByteArray := prog_5_method_4_code
def yX3_tell : MethodName := ⟨RX3, "tell", "(I)I"⟩
abbrev cX3_copyFrom : ByteArray := prog_5_method_5_code
def yX3_copyFrom : MethodName := ⟨RX3, "copyFrom", "(LCodeProbes$Probe;)V"⟩
def RX4 : String := "CodeProbes$Processor"
def TX4 : u_T := fun k => match k with
  | 0 => ("CodeProbes$Processor", "backs", "[I", true)
  | 1 => ("CodeProbes$Processor", "holders", "[I", true)
  | 2 => ("CodeProbes$Processor", "ring", "LCodeProbes$Ring;", true)
  | 3 => ("CodeProbes$Processor", "depth", "I", false)
  | 4 => ("CodeProbes$Processor", "cell", "I", false)
  | 5 => ("CodeProbes$Processor", "acc", "I", false)
  | 6 => ("CodeProbes$Processor", "halted", "Z", false)
  | _ => ("CodeProbes$Processor", "steps", "I", false)
def tyX4 : Nat → FieldType := fun k => match k with
  | 0 => .array .int
  | 1 => .array .int
  | 2 => .object "CodeProbes$Ring"
  | 3 => .int
  | 4 => .int
  | 5 => .int
  | 6 => .boolean
  | _ => .int
abbrev wsX40 : List Cond := u_ws RX4 TX4 8
theorem nmX4 : ∀ a, a < 8 → ∀ b, b < 8 → a ≠ b → (TX4 a).2.1 ≠ (TX4 b).2.1 := by decide +kernel
theorem tyX4_ok : ∀ k, k < 8 → parseFieldDescriptor (TX4 k).2.2.1 = some (tyX4 k) := by decide +kernel
abbrev cX4_init : ByteArray := prog_6_method_1_code
def yX4_init : MethodName := ⟨RX4, "<init>", "()V"⟩
abbrev cX4_isAtInstruction : ByteArray := prog_6_method_2_code
def yX4_isAtInstruction : MethodName := ⟨RX4, "isAtInstruction", "(LCodeProbes$Code;)Z"⟩
abbrev cX4_perform : ByteArray := prog_6_method_3_code
def yX4_perform : MethodName := ⟨RX4, "perform", "(LCodeProbes$Code;LCodeProbes$Memory;)V"⟩
abbrev cX4_reckon : ByteArray := prog_6_method_4_code
def yX4_reckon : MethodName := ⟨RX4, "reckon", "(CILCodeProbes$Memory;)V"⟩
abbrev cX4_goingOn : ByteArray := prog_6_method_5_code
def yX4_goingOn : MethodName := ⟨RX4, "goingOn", "(CI)I"⟩
abbrev cX4_called : ByteArray := prog_6_method_6_code
def yX4_called : MethodName := ⟨RX4, "called", "(II)I"⟩
abbrev cX4_returned : ByteArray := prog_6_method_7_code
def yX4_returned : MethodName := ⟨RX4, "returned", "()I"⟩
abbrev cX4_returnAt : ByteArray := prog_6_method_8_code
def yX4_returnAt : MethodName := ⟨RX4, "returnAt", "(I)I"⟩
abbrev cX4_holderAt : ByteArray := prog_6_method_9_code
def yX4_holderAt : MethodName := ⟨RX4, "holderAt", "(I)I"⟩
abbrev cX4_topHolder : ByteArray := prog_6_method_10_code
def yX4_topHolder : MethodName := ⟨RX4, "topHolder", "()I"⟩
abbrev cX4_holdTop : ByteArray := prog_6_method_11_code
def yX4_holdTop : MethodName := ⟨RX4, "holdTop", "(I)Z"⟩
abbrev cX4_goTo : ByteArray := prog_6_method_12_code
def yX4_goTo : MethodName := ⟨RX4, "goTo", "(II)V"⟩
abbrev cX4_tell : ByteArray := prog_6_method_13_code
def yX4_tell : MethodName := ⟨RX4, "tell", "(I)I"⟩
abbrev cX4_clear : ByteArray := prog_6_method_14_code
def yX4_clear : MethodName := ⟨RX4, "clear", "()V"⟩
abbrev cX4_copyFrom : ByteArray := prog_6_method_15_code
def yX4_copyFrom : MethodName := ⟨RX4, "copyFrom", "(LCodeProbes$Processor;)V"⟩
def RX5 : String := "CodeProbes$Ring"
def TX5 : u_T := fun k => match k with
  | 0 => ("CodeProbes$Ring", "probes", "[I", true)
  | 1 => ("CodeProbes$Ring", "accs", "[I", true)
  | 2 => ("CodeProbes$Ring", "steps", "[I", true)
  | 3 => ("CodeProbes$Ring", "size", "I", false)
  | _ => ("CodeProbes$Ring", "lost", "I", false)
def tyX5 : Nat → FieldType := fun k => match k with
  | 0 => .array .int
  | 1 => .array .int
  | 2 => .array .int
  | 3 => .int
  | _ => .int
abbrev wsX50 : List Cond := u_ws RX5 TX5 5
theorem nmX5 : ∀ a, a < 5 → ∀ b, b < 5 → a ≠ b → (TX5 a).2.1 ≠ (TX5 b).2.1 := by decide +kernel
theorem tyX5_ok : ∀ k, k < 5 → parseFieldDescriptor (TX5 k).2.2.1 = some (tyX5 k) := by decide +kernel
abbrev cX5_init : ByteArray := prog_7_method_1_code
def yX5_init : MethodName := ⟨RX5, "<init>", "()V"⟩
abbrev cX5_enter : ByteArray := prog_7_method_2_code
def yX5_enter : MethodName := ⟨RX5, "enter", "(III)V"⟩
abbrev cX5_loseOldest : ByteArray := prog_7_method_3_code
def yX5_loseOldest : MethodName := ⟨RX5, "loseOldest", "()V"⟩
abbrev cX5_tell : ByteArray := prog_7_method_4_code
def yX5_tell : MethodName := ⟨RX5, "tell", "(II)I"⟩
abbrev cX5_clear : ByteArray := prog_7_method_5_code
def yX5_clear : MethodName := ⟨RX5, "clear", "()V"⟩
abbrev cX5_copyFrom : ByteArray := prog_7_method_6_code
def yX5_copyFrom : MethodName := ⟨RX5, "copyFrom", "(LCodeProbes$Ring;)V"⟩
def RX6 : String := "CodeProbes$Stack"
def TX6 : u_T := fun k => match k with
  | 0 => ("CodeProbes$Stack", "numbers", "[I", true)
  | _ => ("CodeProbes$Stack", "height", "I", false)
def tyX6 : Nat → FieldType := fun k => match k with
  | 0 => .array .int
  | _ => .int
abbrev wsX60 : List Cond := u_ws RX6 TX6 2
theorem nmX6 : ∀ a, a < 2 → ∀ b, b < 2 → a ≠ b → (TX6 a).2.1 ≠ (TX6 b).2.1 := by decide +kernel
theorem tyX6_ok : ∀ k, k < 2 → parseFieldDescriptor (TX6 k).2.2.1 = some (tyX6 k) := by decide +kernel
abbrev cX6_init : ByteArray := prog_8_method_1_code
def yX6_init : MethodName := ⟨RX6, "<init>", "()V"⟩
abbrev cX6_ask : ByteArray := prog_8_method_2_code
def yX6_ask : MethodName := ⟨RX6, "ask", "(LCodeProbes$Text;ILCodeProbes$Memory;)I"⟩
abbrev cX6_put : ByteArray := prog_8_method_3_code
def yX6_put : MethodName := ⟨RX6, "put", "(I)Z"⟩
abbrev cX6_turnTop : ByteArray := prog_8_method_4_code
def yX6_turnTop : MethodName := ⟨RX6, "turnTop", "()Z"⟩
abbrev cX6_join : ByteArray := prog_8_method_5_code
def yX6_join : MethodName := ⟨RX6, "join", "(C)Z"⟩
abbrev cX6_joined : ByteArray := prog_8_method_6_code
def yX6_joined : MethodName := ⟨RX6, "joined", "(CII)I"⟩
def RX7 : String := "CodeProbes$State"
def TX7 : u_T := fun k => match k with
  | 0 => ("CodeProbes$State", "memory", "LCodeProbes$Memory;", true)
  | 1 => ("CodeProbes$State", "first", "LCodeProbes$Processor;", true)
  | 2 => ("CodeProbes$State", "second", "LCodeProbes$Processor;", true)
  | _ => ("CodeProbes$State", "probes", "[LCodeProbes$Probe;", true)
def tyX7 : Nat → FieldType := fun k => match k with
  | 0 => .object "CodeProbes$Memory"
  | 1 => .object "CodeProbes$Processor"
  | 2 => .object "CodeProbes$Processor"
  | _ => .array (.object "CodeProbes$Probe")
abbrev wsX70 : List Cond := u_ws RX7 TX7 4
theorem nmX7 : ∀ a, a < 4 → ∀ b, b < 4 → a ≠ b → (TX7 a).2.1 ≠ (TX7 b).2.1 := by decide +kernel
theorem tyX7_ok : ∀ k, k < 4 → parseFieldDescriptor (TX7 k).2.2.1 = some (tyX7 k) := by decide +kernel
abbrev cX7_init : ByteArray := prog_9_method_1_code
def yX7_init : MethodName := ⟨RX7, "<init>", "()V"⟩
abbrev cX7_processorOrNull : ByteArray := prog_9_method_2_code
def yX7_processorOrNull : MethodName := ⟨RX7, "processorOrNull", "(I)LCodeProbes$Processor;"⟩
abbrev cX7_probeOrNull : ByteArray := prog_9_method_3_code
def yX7_probeOrNull : MethodName := ⟨RX7, "probeOrNull", "(I)LCodeProbes$Probe;"⟩
abbrev cX7_probeNotGone : ByteArray := prog_9_method_4_code
def yX7_probeNotGone : MethodName := ⟨RX7, "probeNotGone", "(I)LCodeProbes$Probe;"⟩
abbrev cX7_probeOn : ByteArray := prog_9_method_5_code
def yX7_probeOn : MethodName := ⟨RX7, "probeOn", "(I)LCodeProbes$Probe;"⟩
abbrev cX7_probeIsOnAt : ByteArray := prog_9_method_6_code
def yX7_probeIsOnAt : MethodName := ⟨RX7, "probeIsOnAt", "(I)Z"⟩
abbrev cX7_lowestGone : ByteArray := prog_9_method_7_code
def yX7_lowestGone : MethodName := ⟨RX7, "lowestGone", "()LCodeProbes$Probe;"⟩
abbrev cX7_howManyAre : ByteArray := prog_9_method_8_code
def yX7_howManyAre : MethodName := ⟨RX7, "howManyAre", "(I)I"⟩
abbrev cX7_howManyHeld : ByteArray := prog_9_method_9_code
def yX7_howManyHeld : MethodName := ⟨RX7, "howManyHeld", "()I"⟩
abbrev cX7_letGoReturns : ByteArray := prog_9_method_10_code
def yX7_letGoReturns : MethodName := ⟨RX7, "letGoReturns", "(LCodeProbes$Processor;)I"⟩
abbrev cX7_clear : ByteArray := prog_9_method_11_code
def yX7_clear : MethodName := ⟨RX7, "clear", "()V"⟩
abbrev cX7_copyFrom : ByteArray := prog_9_method_12_code
def yX7_copyFrom : MethodName := ⟨RX7, "copyFrom", "(LCodeProbes$State;)V"⟩
def RX8 : String := "CodeProbes$Text"
def TX8 : u_T := fun k => match k with
  | 0 => ("CodeProbes$Text", "letters", "[C", true)
  | _ => ("CodeProbes$Text", "length", "I", false)
def tyX8 : Nat → FieldType := fun k => match k with
  | 0 => .array .char
  | _ => .int
abbrev wsX80 : List Cond := u_ws RX8 TX8 2
theorem nmX8 : ∀ a, a < 2 → ∀ b, b < 2 → a ≠ b → (TX8 a).2.1 ≠ (TX8 b).2.1 := by decide +kernel
theorem tyX8_ok : ∀ k, k < 2 → parseFieldDescriptor (TX8 k).2.2.1 = some (tyX8 k) := by decide +kernel
abbrev cX8_init : ByteArray := prog_10_method_1_code
def yX8_init : MethodName := ⟨RX8, "<init>", "(I)V"⟩
abbrev cX8_add : ByteArray := prog_10_method_2_code
def yX8_add : MethodName := ⟨RX8, "add", "(C)Z"⟩
abbrev cX8_clear : ByteArray := prog_10_method_3_code
def yX8_clear : MethodName := ⟨RX8, "clear", "()V"⟩
abbrev cX8_at : ByteArray := prog_10_method_4_code
def yX8_at : MethodName := ⟨RX8, "at", "(I)C"⟩
abbrev cX8_figureAt : ByteArray := prog_10_method_5_code
def yX8_figureAt : MethodName := ⟨RX8, "figureAt", "(I)I"⟩
abbrev cX8_copy : ByteArray := prog_10_method_6_code
def yX8_copy : MethodName := ⟨RX8, "copy", "()LCodeProbes$Text;"⟩
def RX9 : String := "CodeProbes"
def TX9 : u_T := fun k => match k with
  | 0 => ("CodeProbes", "text", "LCodeProbes$Text;", true)
  | 1 => ("CodeProbes", "laid", "LCodeProbes$Code;", true)
  | 2 => ("CodeProbes", "draft", "LCodeProbes$Code;", true)
  | 3 => ("CodeProbes", "now", "LCodeProbes$State;", true)
  | 4 => ("CodeProbes", "history", "LCodeProbes$History;", true)
  | 5 => ("CodeProbes", "stack", "LCodeProbes$Stack;", true)
  | 6 => ("CodeProbes", "everProcessor", "LCodeProbes$Processor;", true)
  | _ => ("CodeProbes", "everMemory", "LCodeProbes$Memory;", true)
def tyX9 : Nat → FieldType := fun k => match k with
  | 0 => .object "CodeProbes$Text"
  | 1 => .object "CodeProbes$Code"
  | 2 => .object "CodeProbes$Code"
  | 3 => .object "CodeProbes$State"
  | 4 => .object "CodeProbes$History"
  | 5 => .object "CodeProbes$Stack"
  | 6 => .object "CodeProbes$Processor"
  | _ => .object "CodeProbes$Memory"
abbrev wsX90 : List Cond := u_ws RX9 TX9 8
theorem nmX9 : ∀ a, a < 8 → ∀ b, b < 8 → a ≠ b → (TX9 a).2.1 ≠ (TX9 b).2.1 := by decide +kernel
theorem tyX9_ok : ∀ k, k < 8 → parseFieldDescriptor (TX9 k).2.2.1 = some (tyX9 k) := by decide +kernel
abbrev cX9_init : ByteArray := prog_1_method_1_code
def yX9_init : MethodName := ⟨RX9, "<init>", "()V"⟩
abbrev cX9_write : ByteArray := prog_1_method_2_code
def yX9_write : MethodName := ⟨RX9, "write", "(I)I"⟩
abbrev cX9_wipe : ByteArray := prog_1_method_3_code
def yX9_wipe : MethodName := ⟨RX9, "wipe", "()I"⟩
abbrev cX9_fault : ByteArray := prog_1_method_4_code
def yX9_fault : MethodName := ⟨RX9, "fault", "()I"⟩
abbrev cX9_lay : ByteArray := prog_1_method_5_code
def yX9_lay : MethodName := ⟨RX9, "lay", "()I"⟩
abbrev cX9_probe : ByteArray := prog_1_method_6_code
def yX9_probe : MethodName := ⟨RX9, "probe", "(II)I"⟩
abbrev cX9_turn : ByteArray := prog_1_method_7_code
def yX9_turn : MethodName := ⟨RX9, "turn", "(II)I"⟩
abbrev cX9_remove : ByteArray := prog_1_method_8_code
def yX9_remove : MethodName := ⟨RX9, "remove", "(I)I"⟩
abbrev cX9_filter : ByteArray := prog_1_method_9_code
def yX9_filter : MethodName := ⟨RX9, "filter", "(I)I"⟩
abbrev cX9_start : ByteArray := prog_1_method_10_code
def yX9_start : MethodName := ⟨RX9, "start", "(III)I"⟩
abbrev cX9_step : ByteArray := prog_1_method_11_code
def yX9_step : MethodName := ⟨RX9, "step", "(II)I"⟩
abbrev cX9_poke : ByteArray := prog_1_method_12_code
def yX9_poke : MethodName := ⟨RX9, "poke", "(II)I"⟩
abbrev cX9_undo : ByteArray := prog_1_method_13_code
def yX9_undo : MethodName := ⟨RX9, "undo", "()I"⟩
abbrev cX9_code : ByteArray := prog_1_method_14_code
def yX9_code : MethodName := ⟨RX9, "code", "(II)I"⟩
abbrev cX9_memory : ByteArray := prog_1_method_15_code
def yX9_memory : MethodName := ⟨RX9, "memory", "(I)I"⟩
abbrev cX9_processor : ByteArray := prog_1_method_16_code
def yX9_processor : MethodName := ⟨RX9, "processor", "(II)I"⟩
abbrev cX9_returns : ByteArray := prog_1_method_17_code
def yX9_returns : MethodName := ⟨RX9, "returns", "(III)I"⟩
abbrev cX9_ring : ByteArray := prog_1_method_18_code
def yX9_ring : MethodName := ⟨RX9, "ring", "(III)I"⟩
abbrev cX9_look : ByteArray := prog_1_method_19_code
def yX9_look : MethodName := ⟨RX9, "look", "(II)I"⟩
abbrev cX9_asked : ByteArray := prog_1_method_20_code
def yX9_asked : MethodName := ⟨RX9, "asked", "(I)I"⟩
abbrev cX9_ever : ByteArray := prog_1_method_21_code
def yX9_ever : MethodName := ⟨RX9, "ever", "(III)I"⟩
abbrev cX9_count : ByteArray := prog_1_method_22_code
def yX9_count : MethodName := ⟨RX9, "count", "(I)I"⟩
abbrev cX9_stepWithProbes : ByteArray := prog_1_method_23_code
def yX9_stepWithProbes : MethodName := ⟨RX9, "stepWithProbes", "(LCodeProbes$Processor;)V"⟩
abbrev cX9_comeBy : ByteArray := prog_1_method_24_code
def yX9_comeBy : MethodName := ⟨RX9, "comeBy", "(LCodeProbes$Processor;LCodeProbes$Probe;)V"⟩
abbrev cX9_leave : ByteArray := prog_1_method_25_code
def yX9_leave : MethodName := ⟨RX9, "leave", "(LCodeProbes$Processor;LCodeProbes$Probe;)V"⟩
abbrev cX9_hit : ByteArray := prog_1_method_26_code
def yX9_hit : MethodName := ⟨RX9, "hit", "(LCodeProbes$Processor;LCodeProbes$Probe;)V"⟩
abbrev cX9_within : ByteArray := prog_1_method_27_code
def yX9_within : MethodName := ⟨RX9, "within", "(III)Z"⟩
abbrev cX9_isNumber : ByteArray := prog_1_method_28_code
def yX9_isNumber : MethodName := ⟨RX9, "isNumber", "(I)Z"⟩
abbrev cX9_widthOf : ByteArray := prog_1_method_29_code
def yX9_widthOf : MethodName := ⟨RX9, "widthOf", "(C)I"⟩
def RX10 : String := "CodeProbesModel"
def TX10 : u_T := fun k => match k with
  | 0 => ("CodeProbesModel", "length", "I", false)
  | 1 => ("CodeProbesModel", "text", "[I", true)
  | 2 => ("CodeProbesModel", "cells", "I", false)
  | 3 => ("CodeProbesModel", "code", "[I", true)
  | 4 => ("CodeProbesModel", "begins", "[Z", true)
  | 5 => ("CodeProbesModel", "now", "[I", true)
  | 6 => ("CodeProbesModel", "aside", "[I", true)
  | 7 => ("CodeProbesModel", "was", "[I", true)
  | 8 => ("CodeProbesModel", "changes", "I", false)
  | 9 => ("CodeProbesModel", "readBegins", "[Z", true)
  | 10 => ("CodeProbesModel", "stack", "[I", true)
  | _ => ("CodeProbesModel", "deep", "I", false)
def tyX10 : Nat → FieldType := fun k => match k with
  | 0 => .int
  | 1 => .array .int
  | 2 => .int
  | 3 => .array .int
  | 4 => .array .boolean
  | 5 => .array .int
  | 6 => .array .int
  | 7 => .array .int
  | 8 => .int
  | 9 => .array .boolean
  | 10 => .array .int
  | _ => .int
abbrev wsX100 : List Cond := u_ws RX10 TX10 12
theorem nmX10 : ∀ a, a < 12 → ∀ b, b < 12 → a ≠ b → (TX10 a).2.1 ≠ (TX10 b).2.1 := by decide +kernel
theorem tyX10_ok : ∀ k, k < 12 → parseFieldDescriptor (TX10 k).2.2.1 = some (tyX10 k) := by decide +kernel
abbrev cX10_init : ByteArray := prog_12_method_1_code
def yX10_init : MethodName := ⟨RX10, "<init>", "()V"⟩
abbrev cX10_none : ByteArray := prog_12_method_2_code
def yX10_none : MethodName := ⟨RX10, "none", "(I)V"⟩
abbrev cX10_one : ByteArray := prog_12_method_3_code
def yX10_one : MethodName := ⟨RX10, "one", "(II)V"⟩
abbrev cX10_two : ByteArray := prog_12_method_4_code
def yX10_two : MethodName := ⟨RX10, "two", "(II)V"⟩
abbrev cX10_empties : ByteArray := prog_12_method_5_code
def yX10_empties : MethodName := ⟨RX10, "empties", "()V"⟩
abbrev cX10_isIn : ByteArray := prog_12_method_6_code
def yX10_isIn : MethodName := ⟨RX10, "isIn", "(III)Z"⟩
abbrev cX10_isFigure : ByteArray := prog_12_method_7_code
def yX10_isFigure : MethodName := ⟨RX10, "isFigure", "(II)Z"⟩
abbrev cX10_wideAt : ByteArray := prog_12_method_8_code
def yX10_wideAt : MethodName := ⟨RX10, "wideAt", "(I)I"⟩
abbrev cX10_reads : ByteArray := prog_12_method_9_code
def yX10_reads : MethodName := ⟨RX10, "reads", "()I"⟩
abbrev cX10_write : ByteArray := prog_12_method_10_code
def yX10_write : MethodName := ⟨RX10, "write", "(I)I"⟩
abbrev cX10_wipe : ByteArray := prog_12_method_11_code
def yX10_wipe : MethodName := ⟨RX10, "wipe", "()I"⟩
abbrev cX10_fault : ByteArray := prog_12_method_12_code
def yX10_fault : MethodName := ⟨RX10, "fault", "()I"⟩
abbrev cX10_lay : ByteArray := prog_12_method_13_code
def yX10_lay : MethodName := ⟨RX10, "lay", "()I"⟩
abbrev cX10_both : ByteArray := prog_12_method_14_code
def yX10_both : MethodName := ⟨RX10, "both", "(III)I"⟩
abbrev cX10_comes : ByteArray := prog_12_method_15_code
def yX10_comes : MethodName := ⟨RX10, "comes", "(I)Z"⟩
abbrev cX10_takes : ByteArray := prog_12_method_16_code
def yX10_takes : MethodName := ⟨RX10, "takes", "(I)Z"⟩
abbrev cX10_asks : ByteArray := prog_12_method_17_code
def yX10_asks : MethodName := ⟨RX10, "asks", "([IIII)I"⟩
abbrev cX10_asked : ByteArray := prog_12_method_18_code
def yX10_asked : MethodName := ⟨RX10, "asked", "(I)I"⟩
abbrev cX10_keeps : ByteArray := prog_12_method_19_code
def yX10_keeps : MethodName := ⟨RX10, "keeps", "()V"⟩
abbrev cX10_undo : ByteArray := prog_12_method_20_code
def yX10_undo : MethodName := ⟨RX10, "undo", "()I"⟩
abbrev cX10_processorAt : ByteArray := prog_12_method_21_code
def yX10_processorAt : MethodName := ⟨RX10, "processorAt", "(I)I"⟩
abbrev cX10_probeAt : ByteArray := prog_12_method_22_code
def yX10_probeAt : MethodName := ⟨RX10, "probeAt", "(I)I"⟩
abbrev cX10_isCell : ByteArray := prog_12_method_23_code
def yX10_isCell : MethodName := ⟨RX10, "isCell", "(I)Z"⟩
abbrev cX10_isBegin : ByteArray := prog_12_method_24_code
def yX10_isBegin : MethodName := ⟨RX10, "isBegin", "(I)Z"⟩
abbrev cX10_isProbe : ByteArray := prog_12_method_25_code
def yX10_isProbe : MethodName := ⟨RX10, "isProbe", "(I)Z"⟩
abbrev cX10_probeOn : ByteArray := prog_12_method_26_code
def yX10_probeOn : MethodName := ⟨RX10, "probeOn", "(I)I"⟩
abbrev cX10_manyThat : ByteArray := prog_12_method_27_code
def yX10_manyThat : MethodName := ⟨RX10, "manyThat", "(I)I"⟩
abbrev cX10_probe : ByteArray := prog_12_method_28_code
def yX10_probe : MethodName := ⟨RX10, "probe", "(II)I"⟩
abbrev cX10_turn : ByteArray := prog_12_method_29_code
def yX10_turn : MethodName := ⟨RX10, "turn", "(II)I"⟩
abbrev cX10_remove : ByteArray := prog_12_method_30_code
def yX10_remove : MethodName := ⟨RX10, "remove", "(I)I"⟩
abbrev cX10_filter : ByteArray := prog_12_method_31_code
def yX10_filter : MethodName := ⟨RX10, "filter", "(I)I"⟩
abbrev cX10_hits : ByteArray := prog_12_method_32_code
def yX10_hits : MethodName := ⟨RX10, "hits", "(II)V"⟩
abbrev cX10_frees : ByteArray := prog_12_method_33_code
def yX10_frees : MethodName := ⟨RX10, "frees", "(I)V"⟩
abbrev cX10_meets : ByteArray := prog_12_method_34_code
def yX10_meets : MethodName := ⟨RX10, "meets", "(II)V"⟩
abbrev cX10_figures : ByteArray := prog_12_method_35_code
def yX10_figures : MethodName := ⟨RX10, "figures", "([II)I"⟩
abbrev cX10_plain : ByteArray := prog_12_method_36_code
def yX10_plain : MethodName := ⟨RX10, "plain", "([III)I"⟩
abbrev cX10_turns : ByteArray := prog_12_method_37_code
def yX10_turns : MethodName := ⟨RX10, "turns", "([III)I"⟩
abbrev cX10_goes : ByteArray := prog_12_method_38_code
def yX10_goes : MethodName := ⟨RX10, "goes", "([II)Z"⟩
abbrev cX10_does : ByteArray := prog_12_method_39_code
def yX10_does : MethodName := ⟨RX10, "does", "(I)Z"⟩
abbrev cX10_isProcessor : ByteArray := prog_12_method_40_code
def yX10_isProcessor : MethodName := ⟨RX10, "isProcessor", "(I)Z"⟩
abbrev cX10_step : ByteArray := prog_12_method_41_code
def yX10_step : MethodName := ⟨RX10, "step", "(II)I"⟩
abbrev cX10_start : ByteArray := prog_12_method_42_code
def yX10_start : MethodName := ⟨RX10, "start", "(III)I"⟩
abbrev cX10_poke : ByteArray := prog_12_method_43_code
def yX10_poke : MethodName := ⟨RX10, "poke", "(II)I"⟩
abbrev cX10_code : ByteArray := prog_12_method_44_code
def yX10_code : MethodName := ⟨RX10, "code", "(II)I"⟩
abbrev cX10_memory : ByteArray := prog_12_method_45_code
def yX10_memory : MethodName := ⟨RX10, "memory", "(I)I"⟩
abbrev cX10_processor : ByteArray := prog_12_method_46_code
def yX10_processor : MethodName := ⟨RX10, "processor", "(II)I"⟩
abbrev cX10_returns : ByteArray := prog_12_method_47_code
def yX10_returns : MethodName := ⟨RX10, "returns", "(III)I"⟩
abbrev cX10_ring : ByteArray := prog_12_method_48_code
def yX10_ring : MethodName := ⟨RX10, "ring", "(III)I"⟩
abbrev cX10_look : ByteArray := prog_12_method_49_code
def yX10_look : MethodName := ⟨RX10, "look", "(II)I"⟩
abbrev cX10_ever : ByteArray := prog_12_method_50_code
def yX10_ever : MethodName := ⟨RX10, "ever", "(III)I"⟩
abbrev cX10_heldInAll : ByteArray := prog_12_method_51_code
def yX10_heldInAll : MethodName := ⟨RX10, "heldInAll", "()I"⟩
abbrev cX10_count : ByteArray := prog_12_method_52_code
def yX10_count : MethodName := ⟨RX10, "count", "(I)I"⟩
def RJ9 : String := "java/lang/Math"
abbrev cJ9_floorMod_7cf53 : ByteArray := prog_13_method_50_code
def yJ9_floorMod_7cf53 : MethodName := ⟨RJ9, "floorMod", "(II)I"⟩
abbrev cJ9_max_7cf53 : ByteArray := prog_13_method_65_code
def yJ9_max_7cf53 : MethodName := ⟨RJ9, "max", "(II)I"⟩
abbrev cJ9_min_7cf53 : ByteArray := prog_13_method_69_code
def yJ9_min_7cf53 : MethodName := ⟨RJ9, "min", "(II)I"⟩
def RJ0 : String := "java/lang/String"
abbrev cJ0_length_8abf5 : ByteArray := prog_14_method_54_code
def yJ0_length_8abf5 : MethodName := ⟨RJ0, "length", "()I"⟩
abbrev cJ0_charAt_5068e : ByteArray := prog_14_method_56_code
def yJ0_charAt_5068e : MethodName := ⟨RJ0, "charAt", "(I)C"⟩
abbrev cJ0_coder_7d493 : ByteArray := prog_14_method_152_code
def yJ0_coder_7d493 : MethodName := ⟨RJ0, "coder", "()B"⟩
abbrev cJ0_isLatin1_aae02 : ByteArray := prog_14_method_154_code
def yJ0_isLatin1_aae02 : MethodName := ⟨RJ0, "isLatin1", "()Z"⟩
abbrev cJ0_checkIndex_df160 : ByteArray := prog_14_method_155_code
def yJ0_checkIndex_df160 : MethodName := ⟨RJ0, "checkIndex", "(II)V"⟩
def RJ1 : String := "java/lang/StringLatin1"
abbrev cJ1_charAt_3b067 : ByteArray := prog_15_method_2_code
def yJ1_charAt_3b067 : MethodName := ⟨RJ1, "charAt", "([BI)C"⟩
def RJ2 : String := "java/lang/StringUTF16"
def RJ10 : String := "java/lang/System"
def RJ3 : String := "jdk/internal/util/Preconditions"
abbrev cJ3_checkIndex_8e157 : ByteArray := prog_18_method_11_code
def yJ3_checkIndex_8e157 : MethodName := ⟨RJ3, "checkIndex", "(IILjava/util/function/BiFunction;)I"⟩
def RL : String := "CodeProbesLaw"
abbrev cL_law : ByteArray := code
def yL_law : MethodName := ⟨RL, "law", "([I)Z"⟩
abbrev vwCl : List vw_C := [(RX0, TX0, 3), (RX1, TX1, 3), (RX2, TX2, 1), (RX3, TX3, 9), (RX4, TX4, 8), (RX5, TX5, 5), (RX6, TX6, 2), (RX7, TX7, 4), (RX8, TX8, 2), (RX9, TX9, 8), (RX10, TX10, 12)]
end
section
theorem dX0_init_0 : decode cX0_init 0 = .ok (.aload_n 0, 1) := by decide +kernel
theorem dX0_init_1 : decode cX0_init 1 = .ok (.invokespecial 3, 3) := by decide +kernel
theorem dX0_init_4 : decode cX0_init 4 = .ok (.aload_n 0, 1) := by decide +kernel
theorem dX0_init_5 : decode cX0_init 5 = .ok (.new 9, 3) := by decide +kernel
theorem dX0_init_8 : decode cX0_init 8 = .ok (.dup, 1) := by decide +kernel
theorem dX0_init_9 : decode cX0_init 9 = .ok (.bipush 60, 2) := by decide +kernel
theorem dX0_init_11 : decode cX0_init 11 = .ok (.invokespecial 11, 3) := by decide +kernel
theorem dX0_init_14 : decode cX0_init 14 = .ok (.putfield 14, 3) := by decide +kernel
theorem dX0_init_17 : decode cX0_init 17 = .ok (.aload_n 0, 1) := by decide +kernel
theorem dX0_init_18 : decode cX0_init 18 = .ok (.bipush 60, 2) := by decide +kernel
theorem dX0_init_20 : decode cX0_init 20 = .ok (.newarray .boolean, 2) := by decide +kernel
theorem dX0_init_22 : decode cX0_init 22 = .ok (.putfield 20, 3) := by decide +kernel
theorem dX0_init_25 : decode cX0_init 25 = .ok (.return_, 1) := by decide +kernel
theorem dX0_readFrom_0 : decode cX0_readFrom 0 = .ok (.aload_n 0, 1) := by decide +kernel
theorem dX0_readFrom_1 : decode cX0_readFrom 1 = .ok (.getfield 14, 3) := by decide +kernel
theorem dX0_readFrom_4 : decode cX0_readFrom 4 = .ok (.invokevirtual 24, 3) := by decide +kernel
theorem dX0_readFrom_7 : decode cX0_readFrom 7 = .ok (.iconst 0, 1) := by decide +kernel
theorem dX0_readFrom_8 : decode cX0_readFrom 8 = .ok (.istore_n 2, 1) := by decide +kernel
theorem dX0_readFrom_9 : decode cX0_readFrom 9 = .ok (.iload_n 2, 1) := by decide +kernel
theorem dX0_readFrom_10 : decode cX0_readFrom 10 = .ok (.aload_n 0, 1) := by decide +kernel
theorem dX0_readFrom_11 : decode cX0_readFrom 11 = .ok (.getfield 20, 3) := by decide +kernel
theorem dX0_readFrom_14 : decode cX0_readFrom 14 = .ok (.arraylength, 1) := by decide +kernel
theorem dX0_readFrom_15 : decode cX0_readFrom 15 = .ok (.if_icmp .ge 16, 3) := by decide +kernel
theorem dX0_readFrom_18 : decode cX0_readFrom 18 = .ok (.aload_n 0, 1) := by decide +kernel
theorem dX0_readFrom_19 : decode cX0_readFrom 19 = .ok (.getfield 20, 3) := by decide +kernel
theorem dX0_readFrom_22 : decode cX0_readFrom 22 = .ok (.iload_n 2, 1) := by decide +kernel
theorem dX0_readFrom_23 : decode cX0_readFrom 23 = .ok (.iconst 0, 1) := by decide +kernel
theorem dX0_readFrom_24 : decode cX0_readFrom 24 = .ok (.bastore, 1) := by decide +kernel
theorem dX0_readFrom_25 : decode cX0_readFrom 25 = .ok (.iinc 2 1, 3) := by decide +kernel
theorem dX0_readFrom_28 : decode cX0_readFrom 28 = .ok (.goto (-19), 3) := by decide +kernel
theorem dX0_readFrom_31 : decode cX0_readFrom 31 = .ok (.aload_n 0, 1) := by decide +kernel
theorem dX0_readFrom_32 : decode cX0_readFrom 32 = .ok (.iconst 0, 1) := by decide +kernel
theorem dX0_readFrom_33 : decode cX0_readFrom 33 = .ok (.putfield 27, 3) := by decide +kernel
theorem dX0_readFrom_36 : decode cX0_readFrom 36 = .ok (.iconst 0, 1) := by decide +kernel
theorem dX0_readFrom_37 : decode cX0_readFrom 37 = .ok (.istore_n 2, 1) := by decide +kernel
theorem dX0_readFrom_38 : decode cX0_readFrom 38 = .ok (.iload_n 2, 1) := by decide +kernel
theorem dX0_readFrom_39 : decode cX0_readFrom 39 = .ok (.aload_n 1, 1) := by decide +kernel
theorem dX0_readFrom_40 : decode cX0_readFrom 40 = .ok (.getfield 31, 3) := by decide +kernel
theorem dX0_readFrom_43 : decode cX0_readFrom 43 = .ok (.if_icmp .ge 37, 3) := by decide +kernel
theorem dX0_readFrom_46 : decode cX0_readFrom 46 = .ok (.aload_n 1, 1) := by decide +kernel
theorem dX0_readFrom_47 : decode cX0_readFrom 47 = .ok (.iload_n 2, 1) := by decide +kernel
theorem dX0_readFrom_48 : decode cX0_readFrom 48 = .ok (.invokestatic 34, 3) := by decide +kernel
theorem dX0_readFrom_51 : decode cX0_readFrom 51 = .ok (.istore_n 3, 1) := by decide +kernel
theorem dX0_readFrom_52 : decode cX0_readFrom 52 = .ok (.iload_n 3, 1) := by decide +kernel
theorem dX0_readFrom_53 : decode cX0_readFrom 53 = .ok (.ifCond .le 11, 3) := by decide +kernel
theorem dX0_readFrom_56 : decode cX0_readFrom 56 = .ok (.iload_n 2, 1) := by decide +kernel
theorem dX0_readFrom_57 : decode cX0_readFrom 57 = .ok (.iload_n 3, 1) := by decide +kernel
theorem dX0_readFrom_58 : decode cX0_readFrom 58 = .ok (.iadd, 1) := by decide +kernel
theorem dX0_readFrom_59 : decode cX0_readFrom 59 = .ok (.bipush 60, 2) := by decide +kernel
theorem dX0_readFrom_61 : decode cX0_readFrom 61 = .ok (.if_icmp .le 5, 3) := by decide +kernel
theorem dX0_readFrom_64 : decode cX0_readFrom 64 = .ok (.iload_n 2, 1) := by decide +kernel
theorem dX0_readFrom_65 : decode cX0_readFrom 65 = .ok (.ireturn, 1) := by decide +kernel
theorem dX0_readFrom_66 : decode cX0_readFrom 66 = .ok (.aload_n 0, 1) := by decide +kernel
theorem dX0_readFrom_67 : decode cX0_readFrom 67 = .ok (.aload_n 1, 1) := by decide +kernel
theorem dX0_readFrom_68 : decode cX0_readFrom 68 = .ok (.iload_n 2, 1) := by decide +kernel
theorem dX0_readFrom_69 : decode cX0_readFrom 69 = .ok (.iload_n 3, 1) := by decide +kernel
theorem dX0_readFrom_70 : decode cX0_readFrom 70 = .ok (.invokevirtual 38, 3) := by decide +kernel
theorem dX0_readFrom_73 : decode cX0_readFrom 73 = .ok (.iload_n 2, 1) := by decide +kernel
theorem dX0_readFrom_74 : decode cX0_readFrom 74 = .ok (.iload_n 3, 1) := by decide +kernel
theorem dX0_readFrom_75 : decode cX0_readFrom 75 = .ok (.iadd, 1) := by decide +kernel
theorem dX0_readFrom_76 : decode cX0_readFrom 76 = .ok (.istore_n 2, 1) := by decide +kernel
theorem dX0_readFrom_77 : decode cX0_readFrom 77 = .ok (.goto (-39), 3) := by decide +kernel
theorem dX0_readFrom_80 : decode cX0_readFrom 80 = .ok (.aload_n 0, 1) := by decide +kernel
theorem dX0_readFrom_81 : decode cX0_readFrom 81 = .ok (.invokevirtual 42, 3) := by decide +kernel
theorem dX0_readFrom_84 : decode cX0_readFrom 84 = .ok (.ireturn, 1) := by decide +kernel
theorem dX0_take_0 : decode cX0_take 0 = .ok (.iload_n 2, 1) := by decide +kernel
theorem dX0_take_1 : decode cX0_take 1 = .ok (.ifCond .lt 19, 3) := by decide +kernel
theorem dX0_take_4 : decode cX0_take 4 = .ok (.iload_n 2, 1) := by decide +kernel
theorem dX0_take_5 : decode cX0_take 5 = .ok (.aload_n 0, 1) := by decide +kernel
theorem dX0_take_6 : decode cX0_take 6 = .ok (.getfield 20, 3) := by decide +kernel
theorem dX0_take_9 : decode cX0_take 9 = .ok (.arraylength, 1) := by decide +kernel
theorem dX0_take_10 : decode cX0_take 10 = .ok (.if_icmp .ge 10, 3) := by decide +kernel
theorem dX0_take_13 : decode cX0_take 13 = .ok (.aload_n 0, 1) := by decide +kernel
theorem dX0_take_14 : decode cX0_take 14 = .ok (.getfield 20, 3) := by decide +kernel
theorem dX0_take_17 : decode cX0_take 17 = .ok (.iload_n 2, 1) := by decide +kernel
theorem dX0_take_18 : decode cX0_take 18 = .ok (.iconst 1, 1) := by decide +kernel
theorem dX0_take_19 : decode cX0_take 19 = .ok (.bastore, 1) := by decide +kernel
theorem dX0_take_20 : decode cX0_take 20 = .ok (.iconst 0, 1) := by decide +kernel
theorem dX0_take_21 : decode cX0_take 21 = .ok (.istore 4, 2) := by decide +kernel
theorem dX0_take_23 : decode cX0_take 23 = .ok (.iload 4, 2) := by decide +kernel
theorem dX0_take_25 : decode cX0_take 25 = .ok (.iload_n 3, 1) := by decide +kernel
theorem dX0_take_26 : decode cX0_take 26 = .ok (.if_icmp .ge 25, 3) := by decide +kernel
theorem dX0_take_29 : decode cX0_take 29 = .ok (.aload_n 0, 1) := by decide +kernel
theorem dX0_take_30 : decode cX0_take 30 = .ok (.getfield 14, 3) := by decide +kernel
theorem dX0_take_33 : decode cX0_take 33 = .ok (.aload_n 1, 1) := by decide +kernel
theorem dX0_take_34 : decode cX0_take 34 = .ok (.iload_n 2, 1) := by decide +kernel
theorem dX0_take_35 : decode cX0_take 35 = .ok (.iload 4, 2) := by decide +kernel
theorem dX0_take_37 : decode cX0_take 37 = .ok (.iadd, 1) := by decide +kernel
theorem dX0_take_38 : decode cX0_take 38 = .ok (.invokevirtual 46, 3) := by decide +kernel
theorem dX0_take_41 : decode cX0_take 41 = .ok (.invokevirtual 50, 3) := by decide +kernel
theorem dX0_take_44 : decode cX0_take 44 = .ok (.pop, 1) := by decide +kernel
theorem dX0_take_45 : decode cX0_take 45 = .ok (.iinc 4 1, 3) := by decide +kernel
theorem dX0_take_48 : decode cX0_take 48 = .ok (.goto (-25), 3) := by decide +kernel
theorem dX0_take_51 : decode cX0_take 51 = .ok (.aload_n 0, 1) := by decide +kernel
theorem dX0_take_52 : decode cX0_take 52 = .ok (.dup, 1) := by decide +kernel
theorem dX0_take_53 : decode cX0_take 53 = .ok (.getfield 27, 3) := by decide +kernel
theorem dX0_take_56 : decode cX0_take 56 = .ok (.iconst 1, 1) := by decide +kernel
theorem dX0_take_57 : decode cX0_take 57 = .ok (.iadd, 1) := by decide +kernel
theorem dX0_take_58 : decode cX0_take 58 = .ok (.putfield 27, 3) := by decide +kernel
theorem dX0_take_61 : decode cX0_take 61 = .ok (.return_, 1) := by decide +kernel
theorem dX0_firstAstray_0 : decode cX0_firstAstray 0 = .ok (.iconst 0, 1) := by decide +kernel
theorem dX0_firstAstray_1 : decode cX0_firstAstray 1 = .ok (.istore_n 1, 1) := by decide +kernel
theorem dX0_firstAstray_2 : decode cX0_firstAstray 2 = .ok (.iload_n 1, 1) := by decide +kernel
theorem dX0_firstAstray_3 : decode cX0_firstAstray 3 = .ok (.aload_n 0, 1) := by decide +kernel
theorem dX0_firstAstray_4 : decode cX0_firstAstray 4 = .ok (.getfield 14, 3) := by decide +kernel
theorem dX0_firstAstray_7 : decode cX0_firstAstray 7 = .ok (.getfield 31, 3) := by decide +kernel
theorem dX0_firstAstray_10 : decode cX0_firstAstray 10 = .ok (.if_icmp .ge 53, 3) := by decide +kernel
theorem dX0_firstAstray_13 : decode cX0_firstAstray 13 = .ok (.aload_n 0, 1) := by decide +kernel
theorem dX0_firstAstray_14 : decode cX0_firstAstray 14 = .ok (.iload_n 1, 1) := by decide +kernel
theorem dX0_firstAstray_15 : decode cX0_firstAstray 15 = .ok (.invokevirtual 54, 3) := by decide +kernel
theorem dX0_firstAstray_18 : decode cX0_firstAstray 18 = .ok (.ifCond .eq 19, 3) := by decide +kernel
theorem dX0_firstAstray_21 : decode cX0_firstAstray 21 = .ok (.aload_n 0, 1) := by decide +kernel
theorem dX0_firstAstray_22 : decode cX0_firstAstray 22 = .ok (.iload_n 1, 1) := by decide +kernel
theorem dX0_firstAstray_23 : decode cX0_firstAstray 23 = .ok (.invokevirtual 58, 3) := by decide +kernel
theorem dX0_firstAstray_26 : decode cX0_firstAstray 26 = .ok (.invokestatic 61, 3) := by decide +kernel
theorem dX0_firstAstray_29 : decode cX0_firstAstray 29 = .ok (.iconst 3, 1) := by decide +kernel
theorem dX0_firstAstray_30 : decode cX0_firstAstray 30 = .ok (.if_icmp .ne 7, 3) := by decide +kernel
theorem dX0_firstAstray_33 : decode cX0_firstAstray 33 = .ok (.iconst 1, 1) := by decide +kernel
theorem dX0_firstAstray_34 : decode cX0_firstAstray 34 = .ok (.goto 4, 3) := by decide +kernel
theorem dX0_firstAstray_37 : decode cX0_firstAstray 37 = .ok (.iconst 0, 1) := by decide +kernel
theorem dX0_firstAstray_38 : decode cX0_firstAstray 38 = .ok (.istore_n 2, 1) := by decide +kernel
theorem dX0_firstAstray_39 : decode cX0_firstAstray 39 = .ok (.iload_n 2, 1) := by decide +kernel
theorem dX0_firstAstray_40 : decode cX0_firstAstray 40 = .ok (.ifCond .eq 17, 3) := by decide +kernel
theorem dX0_firstAstray_43 : decode cX0_firstAstray 43 = .ok (.aload_n 0, 1) := by decide +kernel
theorem dX0_firstAstray_44 : decode cX0_firstAstray 44 = .ok (.aload_n 0, 1) := by decide +kernel
theorem dX0_firstAstray_45 : decode cX0_firstAstray 45 = .ok (.iload_n 1, 1) := by decide +kernel
theorem dX0_firstAstray_46 : decode cX0_firstAstray 46 = .ok (.invokevirtual 65, 3) := by decide +kernel
theorem dX0_firstAstray_49 : decode cX0_firstAstray 49 = .ok (.invokevirtual 54, 3) := by decide +kernel
theorem dX0_firstAstray_52 : decode cX0_firstAstray 52 = .ok (.ifCond .ne 5, 3) := by decide +kernel
theorem dX0_firstAstray_55 : decode cX0_firstAstray 55 = .ok (.iload_n 1, 1) := by decide +kernel
theorem dX0_firstAstray_56 : decode cX0_firstAstray 56 = .ok (.ireturn, 1) := by decide +kernel
theorem dX0_firstAstray_57 : decode cX0_firstAstray 57 = .ok (.iinc 1 1, 3) := by decide +kernel
theorem dX0_firstAstray_60 : decode cX0_firstAstray 60 = .ok (.goto (-58), 3) := by decide +kernel
theorem dX0_firstAstray_63 : decode cX0_firstAstray 63 = .ok (.bipush (-4), 2) := by decide +kernel
theorem dX0_firstAstray_65 : decode cX0_firstAstray 65 = .ok (.ireturn, 1) := by decide +kernel
theorem dX0_widthAt_0 : decode cX0_widthAt 0 = .ok (.aload_n 0, 1) := by decide +kernel
theorem dX0_widthAt_1 : decode cX0_widthAt 1 = .ok (.iload_n 1, 1) := by decide +kernel
theorem dX0_widthAt_2 : decode cX0_widthAt 2 = .ok (.invokevirtual 46, 3) := by decide +kernel
theorem dX0_widthAt_5 : decode cX0_widthAt 5 = .ok (.invokestatic 61, 3) := by decide +kernel
theorem dX0_widthAt_8 : decode cX0_widthAt 8 = .ok (.istore_n 2, 1) := by decide +kernel
theorem dX0_widthAt_9 : decode cX0_widthAt 9 = .ok (.iload_n 2, 1) := by decide +kernel
theorem dX0_widthAt_10 : decode cX0_widthAt 10 = .ok (.iconst 2, 1) := by decide +kernel
theorem dX0_widthAt_11 : decode cX0_widthAt 11 = .ok (.if_icmp .ne 25, 3) := by decide +kernel
theorem dX0_widthAt_14 : decode cX0_widthAt 14 = .ok (.aload_n 0, 1) := by decide +kernel
theorem dX0_widthAt_15 : decode cX0_widthAt 15 = .ok (.iload_n 1, 1) := by decide +kernel
theorem dX0_widthAt_16 : decode cX0_widthAt 16 = .ok (.iconst 1, 1) := by decide +kernel
theorem dX0_widthAt_17 : decode cX0_widthAt 17 = .ok (.iadd, 1) := by decide +kernel
theorem dX0_widthAt_18 : decode cX0_widthAt 18 = .ok (.invokevirtual 69, 3) := by decide +kernel
theorem dX0_widthAt_21 : decode cX0_widthAt 21 = .ok (.iconst 0, 1) := by decide +kernel
theorem dX0_widthAt_22 : decode cX0_widthAt 22 = .ok (.bipush 7, 2) := by decide +kernel
theorem dX0_widthAt_24 : decode cX0_widthAt 24 = .ok (.invokestatic 72, 3) := by decide +kernel
theorem dX0_widthAt_27 : decode cX0_widthAt 27 = .ok (.ifCond .eq 7, 3) := by decide +kernel
theorem dX0_widthAt_30 : decode cX0_widthAt 30 = .ok (.iconst 2, 1) := by decide +kernel
theorem dX0_widthAt_31 : decode cX0_widthAt 31 = .ok (.goto 4, 3) := by decide +kernel
theorem dX0_widthAt_34 : decode cX0_widthAt 34 = .ok (.iconst 0, 1) := by decide +kernel
theorem dX0_widthAt_35 : decode cX0_widthAt 35 = .ok (.ireturn, 1) := by decide +kernel
theorem dX0_widthAt_36 : decode cX0_widthAt 36 = .ok (.iload_n 2, 1) := by decide +kernel
theorem dX0_widthAt_37 : decode cX0_widthAt 37 = .ok (.iconst 3, 1) := by decide +kernel
theorem dX0_widthAt_38 : decode cX0_widthAt 38 = .ok (.if_icmp .ne 43, 3) := by decide +kernel
theorem dX0_widthAt_41 : decode cX0_widthAt 41 = .ok (.aload_n 0, 1) := by decide +kernel
theorem dX0_widthAt_42 : decode cX0_widthAt 42 = .ok (.iload_n 1, 1) := by decide +kernel
theorem dX0_widthAt_43 : decode cX0_widthAt 43 = .ok (.iconst 1, 1) := by decide +kernel
theorem dX0_widthAt_44 : decode cX0_widthAt 44 = .ok (.iadd, 1) := by decide +kernel
theorem dX0_widthAt_45 : decode cX0_widthAt 45 = .ok (.invokevirtual 69, 3) := by decide +kernel
theorem dX0_widthAt_48 : decode cX0_widthAt 48 = .ok (.bipush (-4), 2) := by decide +kernel
theorem dX0_widthAt_50 : decode cX0_widthAt 50 = .ok (.if_icmp .eq 19, 3) := by decide +kernel
theorem dX0_widthAt_53 : decode cX0_widthAt 53 = .ok (.aload_n 0, 1) := by decide +kernel
theorem dX0_widthAt_54 : decode cX0_widthAt 54 = .ok (.iload_n 1, 1) := by decide +kernel
theorem dX0_widthAt_55 : decode cX0_widthAt 55 = .ok (.iconst 2, 1) := by decide +kernel
theorem dX0_widthAt_56 : decode cX0_widthAt 56 = .ok (.iadd, 1) := by decide +kernel
theorem dX0_widthAt_57 : decode cX0_widthAt 57 = .ok (.invokevirtual 69, 3) := by decide +kernel
theorem dX0_widthAt_60 : decode cX0_widthAt 60 = .ok (.bipush (-4), 2) := by decide +kernel
theorem dX0_widthAt_62 : decode cX0_widthAt 62 = .ok (.if_icmp .eq 7, 3) := by decide +kernel
theorem dX0_widthAt_65 : decode cX0_widthAt 65 = .ok (.iconst 1, 1) := by decide +kernel
theorem dX0_widthAt_66 : decode cX0_widthAt 66 = .ok (.goto 4, 3) := by decide +kernel
theorem dX0_widthAt_69 : decode cX0_widthAt 69 = .ok (.iconst 0, 1) := by decide +kernel
theorem dX0_widthAt_70 : decode cX0_widthAt 70 = .ok (.istore_n 3, 1) := by decide +kernel
theorem dX0_widthAt_71 : decode cX0_widthAt 71 = .ok (.iload_n 3, 1) := by decide +kernel
theorem dX0_widthAt_72 : decode cX0_widthAt 72 = .ok (.ifCond .eq 7, 3) := by decide +kernel
theorem dX0_widthAt_75 : decode cX0_widthAt 75 = .ok (.iconst 3, 1) := by decide +kernel
theorem dX0_widthAt_76 : decode cX0_widthAt 76 = .ok (.goto 4, 3) := by decide +kernel
theorem dX0_widthAt_79 : decode cX0_widthAt 79 = .ok (.iconst 0, 1) := by decide +kernel
theorem dX0_widthAt_80 : decode cX0_widthAt 80 = .ok (.ireturn, 1) := by decide +kernel
theorem dX0_widthAt_81 : decode cX0_widthAt 81 = .ok (.iload_n 2, 1) := by decide +kernel
theorem dX0_widthAt_82 : decode cX0_widthAt 82 = .ok (.ireturn, 1) := by decide +kernel
theorem dX0_has_0 : decode cX0_has 0 = .ok (.iload_n 1, 1) := by decide +kernel
theorem dX0_has_1 : decode cX0_has 1 = .ok (.ifCond .lt 18, 3) := by decide +kernel
theorem dX0_has_4 : decode cX0_has 4 = .ok (.iload_n 1, 1) := by decide +kernel
theorem dX0_has_5 : decode cX0_has 5 = .ok (.aload_n 0, 1) := by decide +kernel
theorem dX0_has_6 : decode cX0_has 6 = .ok (.getfield 14, 3) := by decide +kernel
theorem dX0_has_9 : decode cX0_has 9 = .ok (.getfield 31, 3) := by decide +kernel
theorem dX0_has_12 : decode cX0_has 12 = .ok (.if_icmp .ge 7, 3) := by decide +kernel
theorem dX0_has_15 : decode cX0_has 15 = .ok (.iconst 1, 1) := by decide +kernel
theorem dX0_has_16 : decode cX0_has 16 = .ok (.goto 4, 3) := by decide +kernel
theorem dX0_has_19 : decode cX0_has 19 = .ok (.iconst 0, 1) := by decide +kernel
theorem dX0_has_20 : decode cX0_has 20 = .ok (.ireturn, 1) := by decide +kernel
theorem dX0_beginsAt_0 : decode cX0_beginsAt 0 = .ok (.aload_n 0, 1) := by decide +kernel
theorem dX0_beginsAt_1 : decode cX0_beginsAt 1 = .ok (.iload_n 1, 1) := by decide +kernel
theorem dX0_beginsAt_2 : decode cX0_beginsAt 2 = .ok (.invokevirtual 76, 3) := by decide +kernel
theorem dX0_beginsAt_5 : decode cX0_beginsAt 5 = .ok (.ifCond .eq 25, 3) := by decide +kernel
theorem dX0_beginsAt_8 : decode cX0_beginsAt 8 = .ok (.iload_n 1, 1) := by decide +kernel
theorem dX0_beginsAt_9 : decode cX0_beginsAt 9 = .ok (.aload_n 0, 1) := by decide +kernel
theorem dX0_beginsAt_10 : decode cX0_beginsAt 10 = .ok (.getfield 20, 3) := by decide +kernel
theorem dX0_beginsAt_13 : decode cX0_beginsAt 13 = .ok (.arraylength, 1) := by decide +kernel
theorem dX0_beginsAt_14 : decode cX0_beginsAt 14 = .ok (.if_icmp .ge 16, 3) := by decide +kernel
theorem dX0_beginsAt_17 : decode cX0_beginsAt 17 = .ok (.aload_n 0, 1) := by decide +kernel
theorem dX0_beginsAt_18 : decode cX0_beginsAt 18 = .ok (.getfield 20, 3) := by decide +kernel
theorem dX0_beginsAt_21 : decode cX0_beginsAt 21 = .ok (.iload_n 1, 1) := by decide +kernel
theorem dX0_beginsAt_22 : decode cX0_beginsAt 22 = .ok (.baload, 1) := by decide +kernel
theorem dX0_beginsAt_23 : decode cX0_beginsAt 23 = .ok (.ifCond .eq 7, 3) := by decide +kernel
theorem dX0_beginsAt_26 : decode cX0_beginsAt 26 = .ok (.iconst 1, 1) := by decide +kernel
theorem dX0_beginsAt_27 : decode cX0_beginsAt 27 = .ok (.goto 4, 3) := by decide +kernel
theorem dX0_beginsAt_30 : decode cX0_beginsAt 30 = .ok (.iconst 0, 1) := by decide +kernel
theorem dX0_beginsAt_31 : decode cX0_beginsAt 31 = .ok (.ireturn, 1) := by decide +kernel
theorem dX0_letterAt_0 : decode cX0_letterAt 0 = .ok (.aload_n 0, 1) := by decide +kernel
theorem dX0_letterAt_1 : decode cX0_letterAt 1 = .ok (.getfield 14, 3) := by decide +kernel
theorem dX0_letterAt_4 : decode cX0_letterAt 4 = .ok (.iload_n 1, 1) := by decide +kernel
theorem dX0_letterAt_5 : decode cX0_letterAt 5 = .ok (.invokevirtual 46, 3) := by decide +kernel
theorem dX0_letterAt_8 : decode cX0_letterAt 8 = .ok (.ireturn, 1) := by decide +kernel
theorem dX0_numberAt_0 : decode cX0_numberAt 0 = .ok (.aload_n 0, 1) := by decide +kernel
theorem dX0_numberAt_1 : decode cX0_numberAt 1 = .ok (.iload_n 1, 1) := by decide +kernel
theorem dX0_numberAt_2 : decode cX0_numberAt 2 = .ok (.invokevirtual 58, 3) := by decide +kernel
theorem dX0_numberAt_5 : decode cX0_numberAt 5 = .ok (.invokestatic 61, 3) := by decide +kernel
theorem dX0_numberAt_8 : decode cX0_numberAt 8 = .ok (.lookupswitch 64 #[(2, 28), (3, 39)], 28) := by decide +kernel
theorem dX0_numberAt_36 : decode cX0_numberAt 36 = .ok (.aload_n 0, 1) := by decide +kernel
theorem dX0_numberAt_37 : decode cX0_numberAt 37 = .ok (.getfield 14, 3) := by decide +kernel
theorem dX0_numberAt_40 : decode cX0_numberAt 40 = .ok (.iload_n 1, 1) := by decide +kernel
theorem dX0_numberAt_41 : decode cX0_numberAt 41 = .ok (.iconst 1, 1) := by decide +kernel
theorem dX0_numberAt_42 : decode cX0_numberAt 42 = .ok (.iadd, 1) := by decide +kernel
theorem dX0_numberAt_43 : decode cX0_numberAt 43 = .ok (.invokevirtual 69, 3) := by decide +kernel
theorem dX0_numberAt_46 : decode cX0_numberAt 46 = .ok (.ireturn, 1) := by decide +kernel
theorem dX0_numberAt_47 : decode cX0_numberAt 47 = .ok (.bipush 10, 2) := by decide +kernel
theorem dX0_numberAt_49 : decode cX0_numberAt 49 = .ok (.aload_n 0, 1) := by decide +kernel
theorem dX0_numberAt_50 : decode cX0_numberAt 50 = .ok (.getfield 14, 3) := by decide +kernel
theorem dX0_numberAt_53 : decode cX0_numberAt 53 = .ok (.iload_n 1, 1) := by decide +kernel
theorem dX0_numberAt_54 : decode cX0_numberAt 54 = .ok (.iconst 1, 1) := by decide +kernel
theorem dX0_numberAt_55 : decode cX0_numberAt 55 = .ok (.iadd, 1) := by decide +kernel
theorem dX0_numberAt_56 : decode cX0_numberAt 56 = .ok (.invokevirtual 69, 3) := by decide +kernel
theorem dX0_numberAt_59 : decode cX0_numberAt 59 = .ok (.imul, 1) := by decide +kernel
theorem dX0_numberAt_60 : decode cX0_numberAt 60 = .ok (.aload_n 0, 1) := by decide +kernel
theorem dX0_numberAt_61 : decode cX0_numberAt 61 = .ok (.getfield 14, 3) := by decide +kernel
theorem dX0_numberAt_64 : decode cX0_numberAt 64 = .ok (.iload_n 1, 1) := by decide +kernel
theorem dX0_numberAt_65 : decode cX0_numberAt 65 = .ok (.iconst 2, 1) := by decide +kernel
theorem dX0_numberAt_66 : decode cX0_numberAt 66 = .ok (.iadd, 1) := by decide +kernel
theorem dX0_numberAt_67 : decode cX0_numberAt 67 = .ok (.invokevirtual 69, 3) := by decide +kernel
theorem dX0_numberAt_70 : decode cX0_numberAt 70 = .ok (.iadd, 1) := by decide +kernel
theorem dX0_numberAt_71 : decode cX0_numberAt 71 = .ok (.ireturn, 1) := by decide +kernel
theorem dX0_numberAt_72 : decode cX0_numberAt 72 = .ok (.bipush (-4), 2) := by decide +kernel
theorem dX0_numberAt_74 : decode cX0_numberAt 74 = .ok (.ireturn, 1) := by decide +kernel
theorem dX1_init_0 : decode cX1_init 0 = .ok (.aload_n 0, 1) := by decide +kernel
theorem dX1_init_1 : decode cX1_init 1 = .ok (.invokespecial 3, 3) := by decide +kernel
theorem dX1_init_4 : decode cX1_init 4 = .ok (.aload_n 0, 1) := by decide +kernel
theorem dX1_init_5 : decode cX1_init 5 = .ok (.iconst 4, 1) := by decide +kernel
theorem dX1_init_6 : decode cX1_init 6 = .ok (.anewarray 9, 3) := by decide +kernel
theorem dX1_init_9 : decode cX1_init 9 = .ok (.putfield 11, 3) := by decide +kernel
theorem dX1_init_12 : decode cX1_init 12 = .ok (.iconst 0, 1) := by decide +kernel
theorem dX1_init_13 : decode cX1_init 13 = .ok (.istore_n 1, 1) := by decide +kernel
theorem dX1_init_14 : decode cX1_init 14 = .ok (.iload_n 1, 1) := by decide +kernel
theorem dX1_init_15 : decode cX1_init 15 = .ok (.iconst 4, 1) := by decide +kernel
theorem dX1_init_16 : decode cX1_init 16 = .ok (.if_icmp .ge 22, 3) := by decide +kernel
theorem dX1_init_19 : decode cX1_init 19 = .ok (.aload_n 0, 1) := by decide +kernel
theorem dX1_init_20 : decode cX1_init 20 = .ok (.getfield 11, 3) := by decide +kernel
theorem dX1_init_23 : decode cX1_init 23 = .ok (.iload_n 1, 1) := by decide +kernel
theorem dX1_init_24 : decode cX1_init 24 = .ok (.new 9, 3) := by decide +kernel
theorem dX1_init_27 : decode cX1_init 27 = .ok (.dup, 1) := by decide +kernel
theorem dX1_init_28 : decode cX1_init 28 = .ok (.invokespecial 17, 3) := by decide +kernel
theorem dX1_init_31 : decode cX1_init 31 = .ok (.aastore, 1) := by decide +kernel
theorem dX1_init_32 : decode cX1_init 32 = .ok (.iinc 1 1, 3) := by decide +kernel
theorem dX1_init_35 : decode cX1_init 35 = .ok (.goto (-21), 3) := by decide +kernel
theorem dX1_init_38 : decode cX1_init 38 = .ok (.return_, 1) := by decide +kernel
theorem dX1_keep_0 : decode cX1_keep 0 = .ok (.aload_n 0, 1) := by decide +kernel
theorem dX1_keep_1 : decode cX1_keep 1 = .ok (.aload_n 0, 1) := by decide +kernel
theorem dX1_keep_2 : decode cX1_keep 2 = .ok (.getfield 18, 3) := by decide +kernel
theorem dX1_keep_5 : decode cX1_keep 5 = .ok (.iconst 1, 1) := by decide +kernel
theorem dX1_keep_6 : decode cX1_keep 6 = .ok (.iadd, 1) := by decide +kernel
theorem dX1_keep_7 : decode cX1_keep 7 = .ok (.iconst 4, 1) := by decide +kernel
theorem dX1_keep_8 : decode cX1_keep 8 = .ok (.invokestatic 22, 3) := by decide +kernel
theorem dX1_keep_11 : decode cX1_keep 11 = .ok (.putfield 18, 3) := by decide +kernel
theorem dX1_keep_14 : decode cX1_keep 14 = .ok (.aload_n 0, 1) := by decide +kernel
theorem dX1_keep_15 : decode cX1_keep 15 = .ok (.getfield 11, 3) := by decide +kernel
theorem dX1_keep_18 : decode cX1_keep 18 = .ok (.aload_n 0, 1) := by decide +kernel
theorem dX1_keep_19 : decode cX1_keep 19 = .ok (.getfield 18, 3) := by decide +kernel
theorem dX1_keep_22 : decode cX1_keep 22 = .ok (.aaload, 1) := by decide +kernel
theorem dX1_keep_23 : decode cX1_keep 23 = .ok (.astore_n 2, 1) := by decide +kernel
theorem dX1_keep_24 : decode cX1_keep 24 = .ok (.aload_n 2, 1) := by decide +kernel
theorem dX1_keep_25 : decode cX1_keep 25 = .ok (.ifnull 8, 3) := by decide +kernel
theorem dX1_keep_28 : decode cX1_keep 28 = .ok (.aload_n 2, 1) := by decide +kernel
theorem dX1_keep_29 : decode cX1_keep 29 = .ok (.aload_n 1, 1) := by decide +kernel
theorem dX1_keep_30 : decode cX1_keep 30 = .ok (.invokevirtual 28, 3) := by decide +kernel
theorem dX1_keep_33 : decode cX1_keep 33 = .ok (.aload_n 0, 1) := by decide +kernel
theorem dX1_keep_34 : decode cX1_keep 34 = .ok (.aload_n 0, 1) := by decide +kernel
theorem dX1_keep_35 : decode cX1_keep 35 = .ok (.getfield 32, 3) := by decide +kernel
theorem dX1_keep_38 : decode cX1_keep 38 = .ok (.iconst 1, 1) := by decide +kernel
theorem dX1_keep_39 : decode cX1_keep 39 = .ok (.iadd, 1) := by decide +kernel
theorem dX1_keep_40 : decode cX1_keep 40 = .ok (.iconst 4, 1) := by decide +kernel
theorem dX1_keep_41 : decode cX1_keep 41 = .ok (.invokestatic 35, 3) := by decide +kernel
theorem dX1_keep_44 : decode cX1_keep 44 = .ok (.putfield 32, 3) := by decide +kernel
theorem dX1_keep_47 : decode cX1_keep 47 = .ok (.return_, 1) := by decide +kernel
theorem dX1_giveBack_0 : decode cX1_giveBack 0 = .ok (.aload_n 0, 1) := by decide +kernel
theorem dX1_giveBack_1 : decode cX1_giveBack 1 = .ok (.getfield 18, 3) := by decide +kernel
theorem dX1_giveBack_4 : decode cX1_giveBack 4 = .ok (.iconst 4, 1) := by decide +kernel
theorem dX1_giveBack_5 : decode cX1_giveBack 5 = .ok (.invokestatic 22, 3) := by decide +kernel
theorem dX1_giveBack_8 : decode cX1_giveBack 8 = .ok (.istore_n 2, 1) := by decide +kernel
theorem dX1_giveBack_9 : decode cX1_giveBack 9 = .ok (.aload_n 0, 1) := by decide +kernel
theorem dX1_giveBack_10 : decode cX1_giveBack 10 = .ok (.getfield 11, 3) := by decide +kernel
theorem dX1_giveBack_13 : decode cX1_giveBack 13 = .ok (.iload_n 2, 1) := by decide +kernel
theorem dX1_giveBack_14 : decode cX1_giveBack 14 = .ok (.aaload, 1) := by decide +kernel
theorem dX1_giveBack_15 : decode cX1_giveBack 15 = .ok (.astore_n 3, 1) := by decide +kernel
theorem dX1_giveBack_16 : decode cX1_giveBack 16 = .ok (.aload_n 0, 1) := by decide +kernel
theorem dX1_giveBack_17 : decode cX1_giveBack 17 = .ok (.getfield 32, 3) := by decide +kernel
theorem dX1_giveBack_20 : decode cX1_giveBack 20 = .ok (.ifCond .le 36, 3) := by decide +kernel
theorem dX1_giveBack_23 : decode cX1_giveBack 23 = .ok (.aload_n 3, 1) := by decide +kernel
theorem dX1_giveBack_24 : decode cX1_giveBack 24 = .ok (.ifnull 32, 3) := by decide +kernel
theorem dX1_giveBack_27 : decode cX1_giveBack 27 = .ok (.aload_n 1, 1) := by decide +kernel
theorem dX1_giveBack_28 : decode cX1_giveBack 28 = .ok (.aload_n 3, 1) := by decide +kernel
theorem dX1_giveBack_29 : decode cX1_giveBack 29 = .ok (.invokevirtual 28, 3) := by decide +kernel
theorem dX1_giveBack_32 : decode cX1_giveBack 32 = .ok (.aload_n 0, 1) := by decide +kernel
theorem dX1_giveBack_33 : decode cX1_giveBack 33 = .ok (.aload_n 0, 1) := by decide +kernel
theorem dX1_giveBack_34 : decode cX1_giveBack 34 = .ok (.getfield 18, 3) := by decide +kernel
theorem dX1_giveBack_37 : decode cX1_giveBack 37 = .ok (.iconst 1, 1) := by decide +kernel
theorem dX1_giveBack_38 : decode cX1_giveBack 38 = .ok (.isub, 1) := by decide +kernel
theorem dX1_giveBack_39 : decode cX1_giveBack 39 = .ok (.iconst 4, 1) := by decide +kernel
theorem dX1_giveBack_40 : decode cX1_giveBack 40 = .ok (.invokestatic 22, 3) := by decide +kernel
theorem dX1_giveBack_43 : decode cX1_giveBack 43 = .ok (.putfield 18, 3) := by decide +kernel
theorem dX1_giveBack_46 : decode cX1_giveBack 46 = .ok (.aload_n 0, 1) := by decide +kernel
theorem dX1_giveBack_47 : decode cX1_giveBack 47 = .ok (.dup, 1) := by decide +kernel
theorem dX1_giveBack_48 : decode cX1_giveBack 48 = .ok (.getfield 32, 3) := by decide +kernel
theorem dX1_giveBack_51 : decode cX1_giveBack 51 = .ok (.iconst 1, 1) := by decide +kernel
theorem dX1_giveBack_52 : decode cX1_giveBack 52 = .ok (.isub, 1) := by decide +kernel
theorem dX1_giveBack_53 : decode cX1_giveBack 53 = .ok (.putfield 32, 3) := by decide +kernel
theorem dX1_giveBack_56 : decode cX1_giveBack 56 = .ok (.return_, 1) := by decide +kernel
theorem dX1_clear_0 : decode cX1_clear 0 = .ok (.aload_n 0, 1) := by decide +kernel
theorem dX1_clear_1 : decode cX1_clear 1 = .ok (.iconst 0, 1) := by decide +kernel
theorem dX1_clear_2 : decode cX1_clear 2 = .ok (.putfield 32, 3) := by decide +kernel
theorem dX1_clear_5 : decode cX1_clear 5 = .ok (.return_, 1) := by decide +kernel
theorem dX2_init_0 : decode cX2_init 0 = .ok (.aload_n 0, 1) := by decide +kernel
theorem dX2_init_1 : decode cX2_init 1 = .ok (.invokespecial 3, 3) := by decide +kernel
theorem dX2_init_4 : decode cX2_init 4 = .ok (.aload_n 0, 1) := by decide +kernel
theorem dX2_init_5 : decode cX2_init 5 = .ok (.bipush 8, 2) := by decide +kernel
theorem dX2_init_7 : decode cX2_init 7 = .ok (.newarray .int, 2) := by decide +kernel
theorem dX2_init_9 : decode cX2_init 9 = .ok (.putfield 9, 3) := by decide +kernel
theorem dX2_init_12 : decode cX2_init 12 = .ok (.return_, 1) := by decide +kernel
theorem dX2_has_0 : decode cX2_has 0 = .ok (.iload_n 1, 1) := by decide +kernel
theorem dX2_has_1 : decode cX2_has 1 = .ok (.ifCond .lt 16, 3) := by decide +kernel
theorem dX2_has_4 : decode cX2_has 4 = .ok (.iload_n 1, 1) := by decide +kernel
theorem dX2_has_5 : decode cX2_has 5 = .ok (.aload_n 0, 1) := by decide +kernel
theorem dX2_has_6 : decode cX2_has 6 = .ok (.getfield 9, 3) := by decide +kernel
theorem dX2_has_9 : decode cX2_has 9 = .ok (.arraylength, 1) := by decide +kernel
theorem dX2_has_10 : decode cX2_has 10 = .ok (.if_icmp .ge 7, 3) := by decide +kernel
theorem dX2_has_13 : decode cX2_has 13 = .ok (.iconst 1, 1) := by decide +kernel
theorem dX2_has_14 : decode cX2_has 14 = .ok (.goto 4, 3) := by decide +kernel
theorem dX2_has_17 : decode cX2_has 17 = .ok (.iconst 0, 1) := by decide +kernel
theorem dX2_has_18 : decode cX2_has 18 = .ok (.ireturn, 1) := by decide +kernel
theorem dX2_get_0 : decode cX2_get 0 = .ok (.aload_n 0, 1) := by decide +kernel
theorem dX2_get_1 : decode cX2_get 1 = .ok (.iload_n 1, 1) := by decide +kernel
theorem dX2_get_2 : decode cX2_get 2 = .ok (.invokevirtual 15, 3) := by decide +kernel
theorem dX2_get_5 : decode cX2_get 5 = .ok (.ifCond .eq 12, 3) := by decide +kernel
theorem dX2_get_8 : decode cX2_get 8 = .ok (.aload_n 0, 1) := by decide +kernel
theorem dX2_get_9 : decode cX2_get 9 = .ok (.getfield 9, 3) := by decide +kernel
theorem dX2_get_12 : decode cX2_get 12 = .ok (.iload_n 1, 1) := by decide +kernel
theorem dX2_get_13 : decode cX2_get 13 = .ok (.iaload, 1) := by decide +kernel
theorem dX2_get_14 : decode cX2_get 14 = .ok (.goto 4, 3) := by decide +kernel
theorem dX2_get_17 : decode cX2_get 17 = .ok (.iconst 0, 1) := by decide +kernel
theorem dX2_get_18 : decode cX2_get 18 = .ok (.ireturn, 1) := by decide +kernel
theorem dX2_put_0 : decode cX2_put 0 = .ok (.aload_n 0, 1) := by decide +kernel
theorem dX2_put_1 : decode cX2_put 1 = .ok (.iload_n 1, 1) := by decide +kernel
theorem dX2_put_2 : decode cX2_put 2 = .ok (.invokevirtual 15, 3) := by decide +kernel
theorem dX2_put_5 : decode cX2_put 5 = .ok (.ifCond .eq 10, 3) := by decide +kernel
theorem dX2_put_8 : decode cX2_put 8 = .ok (.aload_n 0, 1) := by decide +kernel
theorem dX2_put_9 : decode cX2_put 9 = .ok (.getfield 9, 3) := by decide +kernel
theorem dX2_put_12 : decode cX2_put 12 = .ok (.iload_n 1, 1) := by decide +kernel
theorem dX2_put_13 : decode cX2_put 13 = .ok (.iload_n 2, 1) := by decide +kernel
theorem dX2_put_14 : decode cX2_put 14 = .ok (.iastore, 1) := by decide +kernel
theorem dX2_put_15 : decode cX2_put 15 = .ok (.return_, 1) := by decide +kernel
theorem dX2_together_0 : decode cX2_together 0 = .ok (.iconst 0, 1) := by decide +kernel
theorem dX2_together_1 : decode cX2_together 1 = .ok (.istore_n 1, 1) := by decide +kernel
theorem dX2_together_2 : decode cX2_together 2 = .ok (.iconst 0, 1) := by decide +kernel
theorem dX2_together_3 : decode cX2_together 3 = .ok (.istore_n 2, 1) := by decide +kernel
theorem dX2_together_4 : decode cX2_together 4 = .ok (.iload_n 2, 1) := by decide +kernel
theorem dX2_together_5 : decode cX2_together 5 = .ok (.aload_n 0, 1) := by decide +kernel
theorem dX2_together_6 : decode cX2_together 6 = .ok (.getfield 9, 3) := by decide +kernel
theorem dX2_together_9 : decode cX2_together 9 = .ok (.arraylength, 1) := by decide +kernel
theorem dX2_together_10 : decode cX2_together 10 = .ok (.if_icmp .ge 18, 3) := by decide +kernel
theorem dX2_together_13 : decode cX2_together 13 = .ok (.iload_n 1, 1) := by decide +kernel
theorem dX2_together_14 : decode cX2_together 14 = .ok (.aload_n 0, 1) := by decide +kernel
theorem dX2_together_15 : decode cX2_together 15 = .ok (.getfield 9, 3) := by decide +kernel
theorem dX2_together_18 : decode cX2_together 18 = .ok (.iload_n 2, 1) := by decide +kernel
theorem dX2_together_19 : decode cX2_together 19 = .ok (.iaload, 1) := by decide +kernel
theorem dX2_together_20 : decode cX2_together 20 = .ok (.iadd, 1) := by decide +kernel
theorem dX2_together_21 : decode cX2_together 21 = .ok (.istore_n 1, 1) := by decide +kernel
theorem dX2_together_22 : decode cX2_together 22 = .ok (.iinc 2 1, 3) := by decide +kernel
theorem dX2_together_25 : decode cX2_together 25 = .ok (.goto (-21), 3) := by decide +kernel
theorem dX2_together_28 : decode cX2_together 28 = .ok (.iload_n 1, 1) := by decide +kernel
theorem dX2_together_29 : decode cX2_together 29 = .ok (.ireturn, 1) := by decide +kernel
theorem dX2_clear_0 : decode cX2_clear 0 = .ok (.iconst 0, 1) := by decide +kernel
theorem dX2_clear_1 : decode cX2_clear 1 = .ok (.istore_n 1, 1) := by decide +kernel
theorem dX2_clear_2 : decode cX2_clear 2 = .ok (.iload_n 1, 1) := by decide +kernel
theorem dX2_clear_3 : decode cX2_clear 3 = .ok (.aload_n 0, 1) := by decide +kernel
theorem dX2_clear_4 : decode cX2_clear 4 = .ok (.getfield 9, 3) := by decide +kernel
theorem dX2_clear_7 : decode cX2_clear 7 = .ok (.arraylength, 1) := by decide +kernel
theorem dX2_clear_8 : decode cX2_clear 8 = .ok (.if_icmp .ge 16, 3) := by decide +kernel
theorem dX2_clear_11 : decode cX2_clear 11 = .ok (.aload_n 0, 1) := by decide +kernel
theorem dX2_clear_12 : decode cX2_clear 12 = .ok (.getfield 9, 3) := by decide +kernel
theorem dX2_clear_15 : decode cX2_clear 15 = .ok (.iload_n 1, 1) := by decide +kernel
theorem dX2_clear_16 : decode cX2_clear 16 = .ok (.iconst 0, 1) := by decide +kernel
theorem dX2_clear_17 : decode cX2_clear 17 = .ok (.iastore, 1) := by decide +kernel
theorem dX2_clear_18 : decode cX2_clear 18 = .ok (.iinc 1 1, 3) := by decide +kernel
theorem dX2_clear_21 : decode cX2_clear 21 = .ok (.goto (-19), 3) := by decide +kernel
theorem dX2_clear_24 : decode cX2_clear 24 = .ok (.return_, 1) := by decide +kernel
theorem dX2_copyFrom_0 : decode cX2_copyFrom 0 = .ok (.aload_n 1, 1) := by decide +kernel
theorem dX2_copyFrom_1 : decode cX2_copyFrom 1 = .ok (.getfield 9, 3) := by decide +kernel
theorem dX2_copyFrom_4 : decode cX2_copyFrom 4 = .ok (.iconst 0, 1) := by decide +kernel
theorem dX2_copyFrom_5 : decode cX2_copyFrom 5 = .ok (.aload_n 0, 1) := by decide +kernel
theorem dX2_copyFrom_6 : decode cX2_copyFrom 6 = .ok (.getfield 9, 3) := by decide +kernel
theorem dX2_copyFrom_9 : decode cX2_copyFrom 9 = .ok (.iconst 0, 1) := by decide +kernel
theorem dX2_copyFrom_10 : decode cX2_copyFrom 10 = .ok (.bipush 8, 2) := by decide +kernel
theorem dX2_copyFrom_12 : decode cX2_copyFrom 12 = .ok (.invokestatic 19, 3) := by decide +kernel
theorem dX2_copyFrom_15 : decode cX2_copyFrom 15 = .ok (.return_, 1) := by decide +kernel
theorem dX3_init_0 : decode cX3_init 0 = .ok (.aload_n 0, 1) := by decide +kernel
theorem dX3_init_1 : decode cX3_init 1 = .ok (.invokespecial 3, 3) := by decide +kernel
theorem dX3_init_4 : decode cX3_init 4 = .ok (.aload_n 0, 1) := by decide +kernel
theorem dX3_init_5 : decode cX3_init 5 = .ok (.iconst 3, 1) := by decide +kernel
theorem dX3_init_6 : decode cX3_init 6 = .ok (.putfield 9, 3) := by decide +kernel
theorem dX3_init_9 : decode cX3_init 9 = .ok (.aload_n 0, 1) := by decide +kernel
theorem dX3_init_10 : decode cX3_init 10 = .ok (.iload_n 1, 1) := by decide +kernel
theorem dX3_init_11 : decode cX3_init 11 = .ok (.putfield 15, 3) := by decide +kernel
theorem dX3_init_14 : decode cX3_init 14 = .ok (.return_, 1) := by decide +kernel
theorem dX3_layOn_0 : decode cX3_layOn 0 = .ok (.aload_n 0, 1) := by decide +kernel
theorem dX3_layOn_1 : decode cX3_layOn 1 = .ok (.iconst 0, 1) := by decide +kernel
theorem dX3_layOn_2 : decode cX3_layOn 2 = .ok (.putfield 9, 3) := by decide +kernel
theorem dX3_layOn_5 : decode cX3_layOn 5 = .ok (.aload_n 0, 1) := by decide +kernel
theorem dX3_layOn_6 : decode cX3_layOn 6 = .ok (.iload_n 1, 1) := by decide +kernel
theorem dX3_layOn_7 : decode cX3_layOn 7 = .ok (.putfield 18, 3) := by decide +kernel
theorem dX3_layOn_10 : decode cX3_layOn 10 = .ok (.aload_n 0, 1) := by decide +kernel
theorem dX3_layOn_11 : decode cX3_layOn 11 = .ok (.iload_n 2, 1) := by decide +kernel
theorem dX3_layOn_12 : decode cX3_layOn 12 = .ok (.putfield 21, 3) := by decide +kernel
theorem dX3_layOn_15 : decode cX3_layOn 15 = .ok (.aload_n 0, 1) := by decide +kernel
theorem dX3_layOn_16 : decode cX3_layOn 16 = .ok (.iconst 0, 1) := by decide +kernel
theorem dX3_layOn_17 : decode cX3_layOn 17 = .ok (.putfield 24, 3) := by decide +kernel
theorem dX3_layOn_20 : decode cX3_layOn 20 = .ok (.aload_n 0, 1) := by decide +kernel
theorem dX3_layOn_21 : decode cX3_layOn 21 = .ok (.iconst 0, 1) := by decide +kernel
theorem dX3_layOn_22 : decode cX3_layOn 22 = .ok (.putfield 27, 3) := by decide +kernel
theorem dX3_layOn_25 : decode cX3_layOn 25 = .ok (.aload_n 0, 1) := by decide +kernel
theorem dX3_layOn_26 : decode cX3_layOn 26 = .ok (.iconst 0, 1) := by decide +kernel
theorem dX3_layOn_27 : decode cX3_layOn 27 = .ok (.putfield 30, 3) := by decide +kernel
theorem dX3_layOn_30 : decode cX3_layOn 30 = .ok (.aload_n 0, 1) := by decide +kernel
theorem dX3_layOn_31 : decode cX3_layOn 31 = .ok (.iconst 0, 1) := by decide +kernel
theorem dX3_layOn_32 : decode cX3_layOn 32 = .ok (.putfield 33, 3) := by decide +kernel
theorem dX3_layOn_35 : decode cX3_layOn 35 = .ok (.aload_n 0, 1) := by decide +kernel
theorem dX3_layOn_36 : decode cX3_layOn 36 = .ok (.aconst_null, 1) := by decide +kernel
theorem dX3_layOn_37 : decode cX3_layOn 37 = .ok (.putfield 36, 3) := by decide +kernel
theorem dX3_layOn_40 : decode cX3_layOn 40 = .ok (.return_, 1) := by decide +kernel
theorem dX3_goIfNobodyIsInside_0 : decode cX3_goIfNobodyIsInside 0 = .ok (.aload_n 0, 1) := by decide +kernel
theorem dX3_goIfNobodyIsInside_1 : decode cX3_goIfNobodyIsInside 1 = .ok (.getfield 9, 3) := by decide +kernel
theorem dX3_goIfNobodyIsInside_4 : decode cX3_goIfNobodyIsInside 4 = .ok (.iconst 2, 1) := by decide +kernel
theorem dX3_goIfNobodyIsInside_5 : decode cX3_goIfNobodyIsInside 5 = .ok (.if_icmp .ne 15, 3) := by decide +kernel
theorem dX3_goIfNobodyIsInside_8 : decode cX3_goIfNobodyIsInside 8 = .ok (.aload_n 0, 1) := by decide +kernel
theorem dX3_goIfNobodyIsInside_9 : decode cX3_goIfNobodyIsInside 9 = .ok (.getfield 33, 3) := by decide +kernel
theorem dX3_goIfNobodyIsInside_12 : decode cX3_goIfNobodyIsInside 12 = .ok (.ifCond .gt 8, 3) := by decide +kernel
theorem dX3_goIfNobodyIsInside_15 : decode cX3_goIfNobodyIsInside 15 = .ok (.aload_n 0, 1) := by decide +kernel
theorem dX3_goIfNobodyIsInside_16 : decode cX3_goIfNobodyIsInside 16 = .ok (.iconst 3, 1) := by decide +kernel
theorem dX3_goIfNobodyIsInside_17 : decode cX3_goIfNobodyIsInside 17 = .ok (.putfield 9, 3) := by decide +kernel
theorem dX3_goIfNobodyIsInside_20 : decode cX3_goIfNobodyIsInside 20 = .ok (.return_, 1) := by decide +kernel
theorem dX3_tell_0 : decode cX3_tell 0 = .ok (.iload_n 1, 1) := by decide +kernel
theorem dX3_tell_1 : decode cX3_tell 1 = .ok (.tableswitch 101 0 7 #[47, 52, 57, 62, 67, 72, 77, 82], 47) := by decide +kernel
theorem dX3_tell_48 : decode cX3_tell 48 = .ok (.aload_n 0, 1) := by decide +kernel
theorem dX3_tell_49 : decode cX3_tell 49 = .ok (.getfield 9, 3) := by decide +kernel
theorem dX3_tell_52 : decode cX3_tell 52 = .ok (.ireturn, 1) := by decide +kernel
theorem dX3_tell_53 : decode cX3_tell 53 = .ok (.aload_n 0, 1) := by decide +kernel
theorem dX3_tell_54 : decode cX3_tell 54 = .ok (.getfield 18, 3) := by decide +kernel
theorem dX3_tell_57 : decode cX3_tell 57 = .ok (.ireturn, 1) := by decide +kernel
theorem dX3_tell_58 : decode cX3_tell 58 = .ok (.aload_n 0, 1) := by decide +kernel
theorem dX3_tell_59 : decode cX3_tell 59 = .ok (.getfield 21, 3) := by decide +kernel
theorem dX3_tell_62 : decode cX3_tell 62 = .ok (.ireturn, 1) := by decide +kernel
theorem dX3_tell_63 : decode cX3_tell 63 = .ok (.aload_n 0, 1) := by decide +kernel
theorem dX3_tell_64 : decode cX3_tell 64 = .ok (.getfield 24, 3) := by decide +kernel
theorem dX3_tell_67 : decode cX3_tell 67 = .ok (.ireturn, 1) := by decide +kernel
theorem dX3_tell_68 : decode cX3_tell 68 = .ok (.aload_n 0, 1) := by decide +kernel
theorem dX3_tell_69 : decode cX3_tell 69 = .ok (.getfield 27, 3) := by decide +kernel
theorem dX3_tell_72 : decode cX3_tell 72 = .ok (.ireturn, 1) := by decide +kernel
theorem dX3_tell_73 : decode cX3_tell 73 = .ok (.aload_n 0, 1) := by decide +kernel
theorem dX3_tell_74 : decode cX3_tell 74 = .ok (.getfield 30, 3) := by decide +kernel
theorem dX3_tell_77 : decode cX3_tell 77 = .ok (.ireturn, 1) := by decide +kernel
theorem dX3_tell_78 : decode cX3_tell 78 = .ok (.aload_n 0, 1) := by decide +kernel
theorem dX3_tell_79 : decode cX3_tell 79 = .ok (.getfield 33, 3) := by decide +kernel
theorem dX3_tell_82 : decode cX3_tell 82 = .ok (.ireturn, 1) := by decide +kernel
theorem dX3_tell_83 : decode cX3_tell 83 = .ok (.aload_n 0, 1) := by decide +kernel
theorem dX3_tell_84 : decode cX3_tell 84 = .ok (.getfield 36, 3) := by decide +kernel
theorem dX3_tell_87 : decode cX3_tell 87 = .ok (.ifnonnull 7, 3) := by decide +kernel
theorem dX3_tell_90 : decode cX3_tell 90 = .ok (.iconst 0, 1) := by decide +kernel
theorem dX3_tell_91 : decode cX3_tell 91 = .ok (.goto 10, 3) := by decide +kernel
theorem dX3_tell_94 : decode cX3_tell 94 = .ok (.aload_n 0, 1) := by decide +kernel
theorem dX3_tell_95 : decode cX3_tell 95 = .ok (.getfield 36, 3) := by decide +kernel
theorem dX3_tell_98 : decode cX3_tell 98 = .ok (.getfield 40, 3) := by decide +kernel
theorem dX3_tell_101 : decode cX3_tell 101 = .ok (.ireturn, 1) := by decide +kernel
theorem dX3_tell_102 : decode cX3_tell 102 = .ok (.iconst (-1), 1) := by decide +kernel
theorem dX3_tell_103 : decode cX3_tell 103 = .ok (.ireturn, 1) := by decide +kernel
theorem dX3_copyFrom_0 : decode cX3_copyFrom 0 = .ok (.aload_n 0, 1) := by decide +kernel
theorem dX3_copyFrom_1 : decode cX3_copyFrom 1 = .ok (.aload_n 1, 1) := by decide +kernel
theorem dX3_copyFrom_2 : decode cX3_copyFrom 2 = .ok (.getfield 9, 3) := by decide +kernel
theorem dX3_copyFrom_5 : decode cX3_copyFrom 5 = .ok (.putfield 9, 3) := by decide +kernel
theorem dX3_copyFrom_8 : decode cX3_copyFrom 8 = .ok (.aload_n 0, 1) := by decide +kernel
theorem dX3_copyFrom_9 : decode cX3_copyFrom 9 = .ok (.aload_n 1, 1) := by decide +kernel
theorem dX3_copyFrom_10 : decode cX3_copyFrom 10 = .ok (.getfield 18, 3) := by decide +kernel
theorem dX3_copyFrom_13 : decode cX3_copyFrom 13 = .ok (.putfield 18, 3) := by decide +kernel
theorem dX3_copyFrom_16 : decode cX3_copyFrom 16 = .ok (.aload_n 0, 1) := by decide +kernel
theorem dX3_copyFrom_17 : decode cX3_copyFrom 17 = .ok (.aload_n 1, 1) := by decide +kernel
theorem dX3_copyFrom_18 : decode cX3_copyFrom 18 = .ok (.getfield 21, 3) := by decide +kernel
theorem dX3_copyFrom_21 : decode cX3_copyFrom 21 = .ok (.putfield 21, 3) := by decide +kernel
theorem dX3_copyFrom_24 : decode cX3_copyFrom 24 = .ok (.aload_n 0, 1) := by decide +kernel
theorem dX3_copyFrom_25 : decode cX3_copyFrom 25 = .ok (.aload_n 1, 1) := by decide +kernel
theorem dX3_copyFrom_26 : decode cX3_copyFrom 26 = .ok (.getfield 24, 3) := by decide +kernel
theorem dX3_copyFrom_29 : decode cX3_copyFrom 29 = .ok (.putfield 24, 3) := by decide +kernel
theorem dX3_copyFrom_32 : decode cX3_copyFrom 32 = .ok (.aload_n 0, 1) := by decide +kernel
theorem dX3_copyFrom_33 : decode cX3_copyFrom 33 = .ok (.aload_n 1, 1) := by decide +kernel
theorem dX3_copyFrom_34 : decode cX3_copyFrom 34 = .ok (.getfield 27, 3) := by decide +kernel
theorem dX3_copyFrom_37 : decode cX3_copyFrom 37 = .ok (.putfield 27, 3) := by decide +kernel
theorem dX3_copyFrom_40 : decode cX3_copyFrom 40 = .ok (.aload_n 0, 1) := by decide +kernel
theorem dX3_copyFrom_41 : decode cX3_copyFrom 41 = .ok (.aload_n 1, 1) := by decide +kernel
theorem dX3_copyFrom_42 : decode cX3_copyFrom 42 = .ok (.getfield 30, 3) := by decide +kernel
theorem dX3_copyFrom_45 : decode cX3_copyFrom 45 = .ok (.putfield 30, 3) := by decide +kernel
theorem dX3_copyFrom_48 : decode cX3_copyFrom 48 = .ok (.aload_n 0, 1) := by decide +kernel
theorem dX3_copyFrom_49 : decode cX3_copyFrom 49 = .ok (.aload_n 1, 1) := by decide +kernel
theorem dX3_copyFrom_50 : decode cX3_copyFrom 50 = .ok (.getfield 33, 3) := by decide +kernel
theorem dX3_copyFrom_53 : decode cX3_copyFrom 53 = .ok (.putfield 33, 3) := by decide +kernel
theorem dX3_copyFrom_56 : decode cX3_copyFrom 56 = .ok (.aload_n 0, 1) := by decide +kernel
theorem dX3_copyFrom_57 : decode cX3_copyFrom 57 = .ok (.aload_n 1, 1) := by decide +kernel
theorem dX3_copyFrom_58 : decode cX3_copyFrom 58 = .ok (.getfield 36, 3) := by decide +kernel
theorem dX3_copyFrom_61 : decode cX3_copyFrom 61 = .ok (.putfield 36, 3) := by decide +kernel
theorem dX3_copyFrom_64 : decode cX3_copyFrom 64 = .ok (.return_, 1) := by decide +kernel
theorem dX4_init_0 : decode cX4_init 0 = .ok (.aload_n 0, 1) := by decide +kernel
theorem dX4_init_1 : decode cX4_init 1 = .ok (.invokespecial 3, 3) := by decide +kernel
theorem dX4_init_4 : decode cX4_init 4 = .ok (.aload_n 0, 1) := by decide +kernel
theorem dX4_init_5 : decode cX4_init 5 = .ok (.bipush 6, 2) := by decide +kernel
theorem dX4_init_7 : decode cX4_init 7 = .ok (.newarray .int, 2) := by decide +kernel
theorem dX4_init_9 : decode cX4_init 9 = .ok (.putfield 9, 3) := by decide +kernel
theorem dX4_init_12 : decode cX4_init 12 = .ok (.aload_n 0, 1) := by decide +kernel
theorem dX4_init_13 : decode cX4_init 13 = .ok (.bipush 6, 2) := by decide +kernel
theorem dX4_init_15 : decode cX4_init 15 = .ok (.newarray .int, 2) := by decide +kernel
theorem dX4_init_17 : decode cX4_init 17 = .ok (.putfield 15, 3) := by decide +kernel
theorem dX4_init_20 : decode cX4_init 20 = .ok (.aload_n 0, 1) := by decide +kernel
theorem dX4_init_21 : decode cX4_init 21 = .ok (.new 18, 3) := by decide +kernel
theorem dX4_init_24 : decode cX4_init 24 = .ok (.dup, 1) := by decide +kernel
theorem dX4_init_25 : decode cX4_init 25 = .ok (.invokespecial 20, 3) := by decide +kernel
theorem dX4_init_28 : decode cX4_init 28 = .ok (.putfield 21, 3) := by decide +kernel
theorem dX4_init_31 : decode cX4_init 31 = .ok (.return_, 1) := by decide +kernel
theorem dX4_isAtInstruction_0 : decode cX4_isAtInstruction 0 = .ok (.aload_n 1, 1) := by decide +kernel
theorem dX4_isAtInstruction_1 : decode cX4_isAtInstruction 1 = .ok (.aload_n 0, 1) := by decide +kernel
theorem dX4_isAtInstruction_2 : decode cX4_isAtInstruction 2 = .ok (.getfield 25, 3) := by decide +kernel
theorem dX4_isAtInstruction_5 : decode cX4_isAtInstruction 5 = .ok (.invokevirtual 29, 3) := by decide +kernel
theorem dX4_isAtInstruction_8 : decode cX4_isAtInstruction 8 = .ok (.ifCond .ne 8, 3) := by decide +kernel
theorem dX4_isAtInstruction_11 : decode cX4_isAtInstruction 11 = .ok (.aload_n 0, 1) := by decide +kernel
theorem dX4_isAtInstruction_12 : decode cX4_isAtInstruction 12 = .ok (.iconst 1, 1) := by decide +kernel
theorem dX4_isAtInstruction_13 : decode cX4_isAtInstruction 13 = .ok (.putfield 35, 3) := by decide +kernel
theorem dX4_isAtInstruction_16 : decode cX4_isAtInstruction 16 = .ok (.aload_n 0, 1) := by decide +kernel
theorem dX4_isAtInstruction_17 : decode cX4_isAtInstruction 17 = .ok (.getfield 35, 3) := by decide +kernel
theorem dX4_isAtInstruction_20 : decode cX4_isAtInstruction 20 = .ok (.ifCond .ne 7, 3) := by decide +kernel
theorem dX4_isAtInstruction_23 : decode cX4_isAtInstruction 23 = .ok (.iconst 1, 1) := by decide +kernel
theorem dX4_isAtInstruction_24 : decode cX4_isAtInstruction 24 = .ok (.goto 4, 3) := by decide +kernel
theorem dX4_isAtInstruction_27 : decode cX4_isAtInstruction 27 = .ok (.iconst 0, 1) := by decide +kernel
theorem dX4_isAtInstruction_28 : decode cX4_isAtInstruction 28 = .ok (.ireturn, 1) := by decide +kernel
theorem dX4_perform_0 : decode cX4_perform 0 = .ok (.aload_n 1, 1) := by decide +kernel
theorem dX4_perform_1 : decode cX4_perform 1 = .ok (.aload_n 0, 1) := by decide +kernel
theorem dX4_perform_2 : decode cX4_perform 2 = .ok (.getfield 25, 3) := by decide +kernel
theorem dX4_perform_5 : decode cX4_perform 5 = .ok (.invokevirtual 39, 3) := by decide +kernel
theorem dX4_perform_8 : decode cX4_perform 8 = .ok (.istore_n 3, 1) := by decide +kernel
theorem dX4_perform_9 : decode cX4_perform 9 = .ok (.aload_n 1, 1) := by decide +kernel
theorem dX4_perform_10 : decode cX4_perform 10 = .ok (.aload_n 0, 1) := by decide +kernel
theorem dX4_perform_11 : decode cX4_perform 11 = .ok (.getfield 25, 3) := by decide +kernel
theorem dX4_perform_14 : decode cX4_perform 14 = .ok (.invokevirtual 43, 3) := by decide +kernel
theorem dX4_perform_17 : decode cX4_perform 17 = .ok (.istore 4, 2) := by decide +kernel
theorem dX4_perform_19 : decode cX4_perform 19 = .ok (.aload_n 0, 1) := by decide +kernel
theorem dX4_perform_20 : decode cX4_perform 20 = .ok (.iload_n 3, 1) := by decide +kernel
theorem dX4_perform_21 : decode cX4_perform 21 = .ok (.iload 4, 2) := by decide +kernel
theorem dX4_perform_23 : decode cX4_perform 23 = .ok (.aload_n 2, 1) := by decide +kernel
theorem dX4_perform_24 : decode cX4_perform 24 = .ok (.invokevirtual 47, 3) := by decide +kernel
theorem dX4_perform_27 : decode cX4_perform 27 = .ok (.aload_n 0, 1) := by decide +kernel
theorem dX4_perform_28 : decode cX4_perform 28 = .ok (.aload_n 0, 1) := by decide +kernel
theorem dX4_perform_29 : decode cX4_perform 29 = .ok (.iload_n 3, 1) := by decide +kernel
theorem dX4_perform_30 : decode cX4_perform 30 = .ok (.iload 4, 2) := by decide +kernel
theorem dX4_perform_32 : decode cX4_perform 32 = .ok (.invokevirtual 51, 3) := by decide +kernel
theorem dX4_perform_35 : decode cX4_perform 35 = .ok (.putfield 25, 3) := by decide +kernel
theorem dX4_perform_38 : decode cX4_perform 38 = .ok (.return_, 1) := by decide +kernel
theorem dX4_reckon_0 : decode cX4_reckon 0 = .ok (.iload_n 1, 1) := by decide +kernel
theorem dX4_reckon_1 : decode cX4_reckon 1 = .ok (.lookupswitch 134 #[(100, 68), (105, 51), (108, 89), (112, 113), (115, 101)], 51) := by decide +kernel
theorem dX4_reckon_52 : decode cX4_reckon 52 = .ok (.aload_n 0, 1) := by decide +kernel
theorem dX4_reckon_53 : decode cX4_reckon 53 = .ok (.aload_n 0, 1) := by decide +kernel
theorem dX4_reckon_54 : decode cX4_reckon 54 = .ok (.getfield 55, 3) := by decide +kernel
theorem dX4_reckon_57 : decode cX4_reckon 57 = .ok (.iconst 1, 1) := by decide +kernel
theorem dX4_reckon_58 : decode cX4_reckon 58 = .ok (.iadd, 1) := by decide +kernel
theorem dX4_reckon_59 : decode cX4_reckon 59 = .ok (.sipush 1000, 3) := by decide +kernel
theorem dX4_reckon_62 : decode cX4_reckon 62 = .ok (.irem, 1) := by decide +kernel
theorem dX4_reckon_63 : decode cX4_reckon 63 = .ok (.putfield 55, 3) := by decide +kernel
theorem dX4_reckon_66 : decode cX4_reckon 66 = .ok (.goto 69, 3) := by decide +kernel
theorem dX4_reckon_69 : decode cX4_reckon 69 = .ok (.aload_n 0, 1) := by decide +kernel
theorem dX4_reckon_70 : decode cX4_reckon 70 = .ok (.aload_n 0, 1) := by decide +kernel
theorem dX4_reckon_71 : decode cX4_reckon 71 = .ok (.getfield 55, 3) := by decide +kernel
theorem dX4_reckon_74 : decode cX4_reckon 74 = .ok (.sipush 1000, 3) := by decide +kernel
theorem dX4_reckon_77 : decode cX4_reckon 77 = .ok (.iadd, 1) := by decide +kernel
theorem dX4_reckon_78 : decode cX4_reckon 78 = .ok (.iconst 1, 1) := by decide +kernel
theorem dX4_reckon_79 : decode cX4_reckon 79 = .ok (.isub, 1) := by decide +kernel
theorem dX4_reckon_80 : decode cX4_reckon 80 = .ok (.sipush 1000, 3) := by decide +kernel
theorem dX4_reckon_83 : decode cX4_reckon 83 = .ok (.irem, 1) := by decide +kernel
theorem dX4_reckon_84 : decode cX4_reckon 84 = .ok (.putfield 55, 3) := by decide +kernel
theorem dX4_reckon_87 : decode cX4_reckon 87 = .ok (.goto 48, 3) := by decide +kernel
theorem dX4_reckon_90 : decode cX4_reckon 90 = .ok (.aload_n 0, 1) := by decide +kernel
theorem dX4_reckon_91 : decode cX4_reckon 91 = .ok (.aload_n 3, 1) := by decide +kernel
theorem dX4_reckon_92 : decode cX4_reckon 92 = .ok (.iload_n 2, 1) := by decide +kernel
theorem dX4_reckon_93 : decode cX4_reckon 93 = .ok (.invokevirtual 58, 3) := by decide +kernel
theorem dX4_reckon_96 : decode cX4_reckon 96 = .ok (.putfield 55, 3) := by decide +kernel
theorem dX4_reckon_99 : decode cX4_reckon 99 = .ok (.goto 36, 3) := by decide +kernel
theorem dX4_reckon_102 : decode cX4_reckon 102 = .ok (.aload_n 3, 1) := by decide +kernel
theorem dX4_reckon_103 : decode cX4_reckon 103 = .ok (.iload_n 2, 1) := by decide +kernel
theorem dX4_reckon_104 : decode cX4_reckon 104 = .ok (.aload_n 0, 1) := by decide +kernel
theorem dX4_reckon_105 : decode cX4_reckon 105 = .ok (.getfield 55, 3) := by decide +kernel
theorem dX4_reckon_108 : decode cX4_reckon 108 = .ok (.invokevirtual 63, 3) := by decide +kernel
theorem dX4_reckon_111 : decode cX4_reckon 111 = .ok (.goto 24, 3) := by decide +kernel
theorem dX4_reckon_114 : decode cX4_reckon 114 = .ok (.aload_n 0, 1) := by decide +kernel
theorem dX4_reckon_115 : decode cX4_reckon 115 = .ok (.aload_n 0, 1) := by decide +kernel
theorem dX4_reckon_116 : decode cX4_reckon 116 = .ok (.getfield 55, 3) := by decide +kernel
theorem dX4_reckon_119 : decode cX4_reckon 119 = .ok (.aload_n 3, 1) := by decide +kernel
theorem dX4_reckon_120 : decode cX4_reckon 120 = .ok (.iload_n 2, 1) := by decide +kernel
theorem dX4_reckon_121 : decode cX4_reckon 121 = .ok (.invokevirtual 58, 3) := by decide +kernel
theorem dX4_reckon_124 : decode cX4_reckon 124 = .ok (.iadd, 1) := by decide +kernel
theorem dX4_reckon_125 : decode cX4_reckon 125 = .ok (.sipush 1000, 3) := by decide +kernel
theorem dX4_reckon_128 : decode cX4_reckon 128 = .ok (.irem, 1) := by decide +kernel
theorem dX4_reckon_129 : decode cX4_reckon 129 = .ok (.putfield 55, 3) := by decide +kernel
theorem dX4_reckon_132 : decode cX4_reckon 132 = .ok (.goto 3, 3) := by decide +kernel
theorem dX4_reckon_135 : decode cX4_reckon 135 = .ok (.return_, 1) := by decide +kernel
theorem dX4_goingOn_0 : decode cX4_goingOn 0 = .ok (.aload_n 0, 1) := by decide +kernel
theorem dX4_goingOn_1 : decode cX4_goingOn 1 = .ok (.getfield 25, 3) := by decide +kernel
theorem dX4_goingOn_4 : decode cX4_goingOn 4 = .ok (.iload_n 1, 1) := by decide +kernel
theorem dX4_goingOn_5 : decode cX4_goingOn 5 = .ok (.invokestatic 67, 3) := by decide +kernel
theorem dX4_goingOn_8 : decode cX4_goingOn 8 = .ok (.iadd, 1) := by decide +kernel
theorem dX4_goingOn_9 : decode cX4_goingOn 9 = .ok (.istore_n 3, 1) := by decide +kernel
theorem dX4_goingOn_10 : decode cX4_goingOn 10 = .ok (.iload_n 1, 1) := by decide +kernel
theorem dX4_goingOn_11 : decode cX4_goingOn 11 = .ok (.lookupswitch 86 #[(99, 64), (104, 76), (106, 49), (114, 71), (122, 51)], 49) := by decide +kernel
theorem dX4_goingOn_60 : decode cX4_goingOn 60 = .ok (.iload_n 2, 1) := by decide +kernel
theorem dX4_goingOn_61 : decode cX4_goingOn 61 = .ok (.ireturn, 1) := by decide +kernel
theorem dX4_goingOn_62 : decode cX4_goingOn 62 = .ok (.aload_n 0, 1) := by decide +kernel
theorem dX4_goingOn_63 : decode cX4_goingOn 63 = .ok (.getfield 55, 3) := by decide +kernel
theorem dX4_goingOn_66 : decode cX4_goingOn 66 = .ok (.ifCond .ne 7, 3) := by decide +kernel
theorem dX4_goingOn_69 : decode cX4_goingOn 69 = .ok (.iload_n 2, 1) := by decide +kernel
theorem dX4_goingOn_70 : decode cX4_goingOn 70 = .ok (.goto 4, 3) := by decide +kernel
theorem dX4_goingOn_73 : decode cX4_goingOn 73 = .ok (.iload_n 3, 1) := by decide +kernel
theorem dX4_goingOn_74 : decode cX4_goingOn 74 = .ok (.ireturn, 1) := by decide +kernel
theorem dX4_goingOn_75 : decode cX4_goingOn 75 = .ok (.aload_n 0, 1) := by decide +kernel
theorem dX4_goingOn_76 : decode cX4_goingOn 76 = .ok (.iload_n 2, 1) := by decide +kernel
theorem dX4_goingOn_77 : decode cX4_goingOn 77 = .ok (.iload_n 3, 1) := by decide +kernel
theorem dX4_goingOn_78 : decode cX4_goingOn 78 = .ok (.invokevirtual 71, 3) := by decide +kernel
theorem dX4_goingOn_81 : decode cX4_goingOn 81 = .ok (.ireturn, 1) := by decide +kernel
theorem dX4_goingOn_82 : decode cX4_goingOn 82 = .ok (.aload_n 0, 1) := by decide +kernel
theorem dX4_goingOn_83 : decode cX4_goingOn 83 = .ok (.invokevirtual 75, 3) := by decide +kernel
theorem dX4_goingOn_86 : decode cX4_goingOn 86 = .ok (.ireturn, 1) := by decide +kernel
theorem dX4_goingOn_87 : decode cX4_goingOn 87 = .ok (.aload_n 0, 1) := by decide +kernel
theorem dX4_goingOn_88 : decode cX4_goingOn 88 = .ok (.iconst 1, 1) := by decide +kernel
theorem dX4_goingOn_89 : decode cX4_goingOn 89 = .ok (.putfield 35, 3) := by decide +kernel
theorem dX4_goingOn_92 : decode cX4_goingOn 92 = .ok (.aload_n 0, 1) := by decide +kernel
theorem dX4_goingOn_93 : decode cX4_goingOn 93 = .ok (.getfield 25, 3) := by decide +kernel
theorem dX4_goingOn_96 : decode cX4_goingOn 96 = .ok (.ireturn, 1) := by decide +kernel
theorem dX4_goingOn_97 : decode cX4_goingOn 97 = .ok (.iload_n 3, 1) := by decide +kernel
theorem dX4_goingOn_98 : decode cX4_goingOn 98 = .ok (.ireturn, 1) := by decide +kernel
theorem dX4_called_0 : decode cX4_called 0 = .ok (.aload_n 0, 1) := by decide +kernel
theorem dX4_called_1 : decode cX4_called 1 = .ok (.getfield 79, 3) := by decide +kernel
theorem dX4_called_4 : decode cX4_called 4 = .ok (.ifCond .lt 12, 3) := by decide +kernel
theorem dX4_called_7 : decode cX4_called 7 = .ok (.aload_n 0, 1) := by decide +kernel
theorem dX4_called_8 : decode cX4_called 8 = .ok (.getfield 79, 3) := by decide +kernel
theorem dX4_called_11 : decode cX4_called 11 = .ok (.bipush 6, 2) := by decide +kernel
theorem dX4_called_13 : decode cX4_called 13 = .ok (.if_icmp .lt 13, 3) := by decide +kernel
theorem dX4_called_16 : decode cX4_called 16 = .ok (.aload_n 0, 1) := by decide +kernel
theorem dX4_called_17 : decode cX4_called 17 = .ok (.iconst 1, 1) := by decide +kernel
theorem dX4_called_18 : decode cX4_called 18 = .ok (.putfield 35, 3) := by decide +kernel
theorem dX4_called_21 : decode cX4_called 21 = .ok (.aload_n 0, 1) := by decide +kernel
theorem dX4_called_22 : decode cX4_called 22 = .ok (.getfield 25, 3) := by decide +kernel
theorem dX4_called_25 : decode cX4_called 25 = .ok (.ireturn, 1) := by decide +kernel
theorem dX4_called_26 : decode cX4_called 26 = .ok (.aload_n 0, 1) := by decide +kernel
theorem dX4_called_27 : decode cX4_called 27 = .ok (.getfield 9, 3) := by decide +kernel
theorem dX4_called_30 : decode cX4_called 30 = .ok (.aload_n 0, 1) := by decide +kernel
theorem dX4_called_31 : decode cX4_called 31 = .ok (.getfield 79, 3) := by decide +kernel
theorem dX4_called_34 : decode cX4_called 34 = .ok (.iload_n 2, 1) := by decide +kernel
theorem dX4_called_35 : decode cX4_called 35 = .ok (.iastore, 1) := by decide +kernel
theorem dX4_called_36 : decode cX4_called 36 = .ok (.aload_n 0, 1) := by decide +kernel
theorem dX4_called_37 : decode cX4_called 37 = .ok (.getfield 15, 3) := by decide +kernel
theorem dX4_called_40 : decode cX4_called 40 = .ok (.aload_n 0, 1) := by decide +kernel
theorem dX4_called_41 : decode cX4_called 41 = .ok (.getfield 79, 3) := by decide +kernel
theorem dX4_called_44 : decode cX4_called 44 = .ok (.iconst (-1), 1) := by decide +kernel
theorem dX4_called_45 : decode cX4_called 45 = .ok (.iastore, 1) := by decide +kernel
theorem dX4_called_46 : decode cX4_called 46 = .ok (.aload_n 0, 1) := by decide +kernel
theorem dX4_called_47 : decode cX4_called 47 = .ok (.dup, 1) := by decide +kernel
theorem dX4_called_48 : decode cX4_called 48 = .ok (.getfield 79, 3) := by decide +kernel
theorem dX4_called_51 : decode cX4_called 51 = .ok (.iconst 1, 1) := by decide +kernel
theorem dX4_called_52 : decode cX4_called 52 = .ok (.iadd, 1) := by decide +kernel
theorem dX4_called_53 : decode cX4_called 53 = .ok (.putfield 79, 3) := by decide +kernel
theorem dX4_called_56 : decode cX4_called 56 = .ok (.iload_n 1, 1) := by decide +kernel
theorem dX4_called_57 : decode cX4_called 57 = .ok (.ireturn, 1) := by decide +kernel
theorem dX4_returned_0 : decode cX4_returned 0 = .ok (.aload_n 0, 1) := by decide +kernel
theorem dX4_returned_1 : decode cX4_returned 1 = .ok (.getfield 79, 3) := by decide +kernel
theorem dX4_returned_4 : decode cX4_returned 4 = .ok (.ifCond .le 12, 3) := by decide +kernel
theorem dX4_returned_7 : decode cX4_returned 7 = .ok (.aload_n 0, 1) := by decide +kernel
theorem dX4_returned_8 : decode cX4_returned 8 = .ok (.getfield 79, 3) := by decide +kernel
theorem dX4_returned_11 : decode cX4_returned 11 = .ok (.bipush 6, 2) := by decide +kernel
theorem dX4_returned_13 : decode cX4_returned 13 = .ok (.if_icmp .le 13, 3) := by decide +kernel
theorem dX4_returned_16 : decode cX4_returned 16 = .ok (.aload_n 0, 1) := by decide +kernel
theorem dX4_returned_17 : decode cX4_returned 17 = .ok (.iconst 1, 1) := by decide +kernel
theorem dX4_returned_18 : decode cX4_returned 18 = .ok (.putfield 35, 3) := by decide +kernel
theorem dX4_returned_21 : decode cX4_returned 21 = .ok (.aload_n 0, 1) := by decide +kernel
theorem dX4_returned_22 : decode cX4_returned 22 = .ok (.getfield 25, 3) := by decide +kernel
theorem dX4_returned_25 : decode cX4_returned 25 = .ok (.ireturn, 1) := by decide +kernel
theorem dX4_returned_26 : decode cX4_returned 26 = .ok (.aload_n 0, 1) := by decide +kernel
theorem dX4_returned_27 : decode cX4_returned 27 = .ok (.dup, 1) := by decide +kernel
theorem dX4_returned_28 : decode cX4_returned 28 = .ok (.getfield 79, 3) := by decide +kernel
theorem dX4_returned_31 : decode cX4_returned 31 = .ok (.iconst 1, 1) := by decide +kernel
theorem dX4_returned_32 : decode cX4_returned 32 = .ok (.isub, 1) := by decide +kernel
theorem dX4_returned_33 : decode cX4_returned 33 = .ok (.putfield 79, 3) := by decide +kernel
theorem dX4_returned_36 : decode cX4_returned 36 = .ok (.aload_n 0, 1) := by decide +kernel
theorem dX4_returned_37 : decode cX4_returned 37 = .ok (.getfield 9, 3) := by decide +kernel
theorem dX4_returned_40 : decode cX4_returned 40 = .ok (.aload_n 0, 1) := by decide +kernel
theorem dX4_returned_41 : decode cX4_returned 41 = .ok (.getfield 79, 3) := by decide +kernel
theorem dX4_returned_44 : decode cX4_returned 44 = .ok (.iaload, 1) := by decide +kernel
theorem dX4_returned_45 : decode cX4_returned 45 = .ok (.ireturn, 1) := by decide +kernel
theorem dX4_returnAt_0 : decode cX4_returnAt 0 = .ok (.iload_n 1, 1) := by decide +kernel
theorem dX4_returnAt_1 : decode cX4_returnAt 1 = .ok (.ifCond .lt 26, 3) := by decide +kernel
theorem dX4_returnAt_4 : decode cX4_returnAt 4 = .ok (.iload_n 1, 1) := by decide +kernel
theorem dX4_returnAt_5 : decode cX4_returnAt 5 = .ok (.aload_n 0, 1) := by decide +kernel
theorem dX4_returnAt_6 : decode cX4_returnAt 6 = .ok (.getfield 79, 3) := by decide +kernel
theorem dX4_returnAt_9 : decode cX4_returnAt 9 = .ok (.if_icmp .ge 18, 3) := by decide +kernel
theorem dX4_returnAt_12 : decode cX4_returnAt 12 = .ok (.iload_n 1, 1) := by decide +kernel
theorem dX4_returnAt_13 : decode cX4_returnAt 13 = .ok (.bipush 6, 2) := by decide +kernel
theorem dX4_returnAt_15 : decode cX4_returnAt 15 = .ok (.if_icmp .ge 12, 3) := by decide +kernel
theorem dX4_returnAt_18 : decode cX4_returnAt 18 = .ok (.aload_n 0, 1) := by decide +kernel
theorem dX4_returnAt_19 : decode cX4_returnAt 19 = .ok (.getfield 9, 3) := by decide +kernel
theorem dX4_returnAt_22 : decode cX4_returnAt 22 = .ok (.iload_n 1, 1) := by decide +kernel
theorem dX4_returnAt_23 : decode cX4_returnAt 23 = .ok (.iaload, 1) := by decide +kernel
theorem dX4_returnAt_24 : decode cX4_returnAt 24 = .ok (.goto 5, 3) := by decide +kernel
theorem dX4_returnAt_27 : decode cX4_returnAt 27 = .ok (.bipush (-4), 2) := by decide +kernel
theorem dX4_returnAt_29 : decode cX4_returnAt 29 = .ok (.ireturn, 1) := by decide +kernel
theorem dX4_holderAt_0 : decode cX4_holderAt 0 = .ok (.iload_n 1, 1) := by decide +kernel
theorem dX4_holderAt_1 : decode cX4_holderAt 1 = .ok (.ifCond .lt 26, 3) := by decide +kernel
theorem dX4_holderAt_4 : decode cX4_holderAt 4 = .ok (.iload_n 1, 1) := by decide +kernel
theorem dX4_holderAt_5 : decode cX4_holderAt 5 = .ok (.aload_n 0, 1) := by decide +kernel
theorem dX4_holderAt_6 : decode cX4_holderAt 6 = .ok (.getfield 79, 3) := by decide +kernel
theorem dX4_holderAt_9 : decode cX4_holderAt 9 = .ok (.if_icmp .ge 18, 3) := by decide +kernel
theorem dX4_holderAt_12 : decode cX4_holderAt 12 = .ok (.iload_n 1, 1) := by decide +kernel
theorem dX4_holderAt_13 : decode cX4_holderAt 13 = .ok (.bipush 6, 2) := by decide +kernel
theorem dX4_holderAt_15 : decode cX4_holderAt 15 = .ok (.if_icmp .ge 12, 3) := by decide +kernel
theorem dX4_holderAt_18 : decode cX4_holderAt 18 = .ok (.aload_n 0, 1) := by decide +kernel
theorem dX4_holderAt_19 : decode cX4_holderAt 19 = .ok (.getfield 15, 3) := by decide +kernel
theorem dX4_holderAt_22 : decode cX4_holderAt 22 = .ok (.iload_n 1, 1) := by decide +kernel
theorem dX4_holderAt_23 : decode cX4_holderAt 23 = .ok (.iaload, 1) := by decide +kernel
theorem dX4_holderAt_24 : decode cX4_holderAt 24 = .ok (.goto 4, 3) := by decide +kernel
theorem dX4_holderAt_27 : decode cX4_holderAt 27 = .ok (.iconst (-1), 1) := by decide +kernel
theorem dX4_holderAt_28 : decode cX4_holderAt 28 = .ok (.ireturn, 1) := by decide +kernel
theorem dX4_topHolder_0 : decode cX4_topHolder 0 = .ok (.aload_n 0, 1) := by decide +kernel
theorem dX4_topHolder_1 : decode cX4_topHolder 1 = .ok (.aload_n 0, 1) := by decide +kernel
theorem dX4_topHolder_2 : decode cX4_topHolder 2 = .ok (.getfield 79, 3) := by decide +kernel
theorem dX4_topHolder_5 : decode cX4_topHolder 5 = .ok (.iconst 1, 1) := by decide +kernel
theorem dX4_topHolder_6 : decode cX4_topHolder 6 = .ok (.isub, 1) := by decide +kernel
theorem dX4_topHolder_7 : decode cX4_topHolder 7 = .ok (.invokevirtual 82, 3) := by decide +kernel
theorem dX4_topHolder_10 : decode cX4_topHolder 10 = .ok (.ireturn, 1) := by decide +kernel
theorem dX4_holdTop_0 : decode cX4_holdTop 0 = .ok (.aload_n 0, 1) := by decide +kernel
theorem dX4_holdTop_1 : decode cX4_holdTop 1 = .ok (.getfield 79, 3) := by decide +kernel
theorem dX4_holdTop_4 : decode cX4_holdTop 4 = .ok (.iconst 1, 1) := by decide +kernel
theorem dX4_holdTop_5 : decode cX4_holdTop 5 = .ok (.isub, 1) := by decide +kernel
theorem dX4_holdTop_6 : decode cX4_holdTop 6 = .ok (.istore_n 2, 1) := by decide +kernel
theorem dX4_holdTop_7 : decode cX4_holdTop 7 = .ok (.iload_n 2, 1) := by decide +kernel
theorem dX4_holdTop_8 : decode cX4_holdTop 8 = .ok (.ifCond .lt 19, 3) := by decide +kernel
theorem dX4_holdTop_11 : decode cX4_holdTop 11 = .ok (.iload_n 2, 1) := by decide +kernel
theorem dX4_holdTop_12 : decode cX4_holdTop 12 = .ok (.bipush 6, 2) := by decide +kernel
theorem dX4_holdTop_14 : decode cX4_holdTop 14 = .ok (.if_icmp .ge 13, 3) := by decide +kernel
theorem dX4_holdTop_17 : decode cX4_holdTop 17 = .ok (.aload_n 0, 1) := by decide +kernel
theorem dX4_holdTop_18 : decode cX4_holdTop 18 = .ok (.getfield 15, 3) := by decide +kernel
theorem dX4_holdTop_21 : decode cX4_holdTop 21 = .ok (.iload_n 2, 1) := by decide +kernel
theorem dX4_holdTop_22 : decode cX4_holdTop 22 = .ok (.iaload, 1) := by decide +kernel
theorem dX4_holdTop_23 : decode cX4_holdTop 23 = .ok (.iconst (-1), 1) := by decide +kernel
theorem dX4_holdTop_24 : decode cX4_holdTop 24 = .ok (.if_icmp .eq 5, 3) := by decide +kernel
theorem dX4_holdTop_27 : decode cX4_holdTop 27 = .ok (.iconst 0, 1) := by decide +kernel
theorem dX4_holdTop_28 : decode cX4_holdTop 28 = .ok (.ireturn, 1) := by decide +kernel
theorem dX4_holdTop_29 : decode cX4_holdTop 29 = .ok (.aload_n 0, 1) := by decide +kernel
theorem dX4_holdTop_30 : decode cX4_holdTop 30 = .ok (.getfield 15, 3) := by decide +kernel
theorem dX4_holdTop_33 : decode cX4_holdTop 33 = .ok (.iload_n 2, 1) := by decide +kernel
theorem dX4_holdTop_34 : decode cX4_holdTop 34 = .ok (.iload_n 1, 1) := by decide +kernel
theorem dX4_holdTop_35 : decode cX4_holdTop 35 = .ok (.iastore, 1) := by decide +kernel
theorem dX4_holdTop_36 : decode cX4_holdTop 36 = .ok (.iconst 1, 1) := by decide +kernel
theorem dX4_holdTop_37 : decode cX4_holdTop 37 = .ok (.ireturn, 1) := by decide +kernel
theorem dX4_goTo_0 : decode cX4_goTo 0 = .ok (.aload_n 0, 1) := by decide +kernel
theorem dX4_goTo_1 : decode cX4_goTo 1 = .ok (.iload_n 1, 1) := by decide +kernel
theorem dX4_goTo_2 : decode cX4_goTo 2 = .ok (.putfield 25, 3) := by decide +kernel
theorem dX4_goTo_5 : decode cX4_goTo 5 = .ok (.aload_n 0, 1) := by decide +kernel
theorem dX4_goTo_6 : decode cX4_goTo 6 = .ok (.iload_n 2, 1) := by decide +kernel
theorem dX4_goTo_7 : decode cX4_goTo 7 = .ok (.putfield 55, 3) := by decide +kernel
theorem dX4_goTo_10 : decode cX4_goTo 10 = .ok (.aload_n 0, 1) := by decide +kernel
theorem dX4_goTo_11 : decode cX4_goTo 11 = .ok (.iconst 0, 1) := by decide +kernel
theorem dX4_goTo_12 : decode cX4_goTo 12 = .ok (.putfield 79, 3) := by decide +kernel
theorem dX4_goTo_15 : decode cX4_goTo 15 = .ok (.aload_n 0, 1) := by decide +kernel
theorem dX4_goTo_16 : decode cX4_goTo 16 = .ok (.iconst 0, 1) := by decide +kernel
theorem dX4_goTo_17 : decode cX4_goTo 17 = .ok (.putfield 35, 3) := by decide +kernel
theorem dX4_goTo_20 : decode cX4_goTo 20 = .ok (.return_, 1) := by decide +kernel
theorem dX4_tell_0 : decode cX4_tell 0 = .ok (.iload_n 1, 1) := by decide +kernel
theorem dX4_tell_1 : decode cX4_tell 1 = .ok (.tableswitch 59 0 3 #[31, 36, 41, 46], 31) := by decide +kernel
theorem dX4_tell_32 : decode cX4_tell 32 = .ok (.aload_n 0, 1) := by decide +kernel
theorem dX4_tell_33 : decode cX4_tell 33 = .ok (.getfield 25, 3) := by decide +kernel
theorem dX4_tell_36 : decode cX4_tell 36 = .ok (.ireturn, 1) := by decide +kernel
theorem dX4_tell_37 : decode cX4_tell 37 = .ok (.aload_n 0, 1) := by decide +kernel
theorem dX4_tell_38 : decode cX4_tell 38 = .ok (.getfield 55, 3) := by decide +kernel
theorem dX4_tell_41 : decode cX4_tell 41 = .ok (.ireturn, 1) := by decide +kernel
theorem dX4_tell_42 : decode cX4_tell 42 = .ok (.aload_n 0, 1) := by decide +kernel
theorem dX4_tell_43 : decode cX4_tell 43 = .ok (.getfield 79, 3) := by decide +kernel
theorem dX4_tell_46 : decode cX4_tell 46 = .ok (.ireturn, 1) := by decide +kernel
theorem dX4_tell_47 : decode cX4_tell 47 = .ok (.aload_n 0, 1) := by decide +kernel
theorem dX4_tell_48 : decode cX4_tell 48 = .ok (.getfield 35, 3) := by decide +kernel
theorem dX4_tell_51 : decode cX4_tell 51 = .ok (.ifCond .eq 7, 3) := by decide +kernel
theorem dX4_tell_54 : decode cX4_tell 54 = .ok (.iconst 1, 1) := by decide +kernel
theorem dX4_tell_55 : decode cX4_tell 55 = .ok (.goto 4, 3) := by decide +kernel
theorem dX4_tell_58 : decode cX4_tell 58 = .ok (.iconst 0, 1) := by decide +kernel
theorem dX4_tell_59 : decode cX4_tell 59 = .ok (.ireturn, 1) := by decide +kernel
theorem dX4_tell_60 : decode cX4_tell 60 = .ok (.iconst (-1), 1) := by decide +kernel
theorem dX4_tell_61 : decode cX4_tell 61 = .ok (.ireturn, 1) := by decide +kernel
theorem dX4_clear_0 : decode cX4_clear 0 = .ok (.aload_n 0, 1) := by decide +kernel
theorem dX4_clear_1 : decode cX4_clear 1 = .ok (.iconst 0, 1) := by decide +kernel
theorem dX4_clear_2 : decode cX4_clear 2 = .ok (.iconst 0, 1) := by decide +kernel
theorem dX4_clear_3 : decode cX4_clear 3 = .ok (.invokevirtual 85, 3) := by decide +kernel
theorem dX4_clear_6 : decode cX4_clear 6 = .ok (.aload_n 0, 1) := by decide +kernel
theorem dX4_clear_7 : decode cX4_clear 7 = .ok (.iconst 0, 1) := by decide +kernel
theorem dX4_clear_8 : decode cX4_clear 8 = .ok (.putfield 88, 3) := by decide +kernel
theorem dX4_clear_11 : decode cX4_clear 11 = .ok (.aload_n 0, 1) := by decide +kernel
theorem dX4_clear_12 : decode cX4_clear 12 = .ok (.getfield 21, 3) := by decide +kernel
theorem dX4_clear_15 : decode cX4_clear 15 = .ok (.invokevirtual 91, 3) := by decide +kernel
theorem dX4_clear_18 : decode cX4_clear 18 = .ok (.return_, 1) := by decide +kernel
theorem dX4_copyFrom_0 : decode cX4_copyFrom 0 = .ok (.aload_n 1, 1) := by decide +kernel
theorem dX4_copyFrom_1 : decode cX4_copyFrom 1 = .ok (.getfield 9, 3) := by decide +kernel
theorem dX4_copyFrom_4 : decode cX4_copyFrom 4 = .ok (.iconst 0, 1) := by decide +kernel
theorem dX4_copyFrom_5 : decode cX4_copyFrom 5 = .ok (.aload_n 0, 1) := by decide +kernel
theorem dX4_copyFrom_6 : decode cX4_copyFrom 6 = .ok (.getfield 9, 3) := by decide +kernel
theorem dX4_copyFrom_9 : decode cX4_copyFrom 9 = .ok (.iconst 0, 1) := by decide +kernel
theorem dX4_copyFrom_10 : decode cX4_copyFrom 10 = .ok (.bipush 6, 2) := by decide +kernel
theorem dX4_copyFrom_12 : decode cX4_copyFrom 12 = .ok (.invokestatic 94, 3) := by decide +kernel
theorem dX4_copyFrom_15 : decode cX4_copyFrom 15 = .ok (.aload_n 1, 1) := by decide +kernel
theorem dX4_copyFrom_16 : decode cX4_copyFrom 16 = .ok (.getfield 15, 3) := by decide +kernel
theorem dX4_copyFrom_19 : decode cX4_copyFrom 19 = .ok (.iconst 0, 1) := by decide +kernel
theorem dX4_copyFrom_20 : decode cX4_copyFrom 20 = .ok (.aload_n 0, 1) := by decide +kernel
theorem dX4_copyFrom_21 : decode cX4_copyFrom 21 = .ok (.getfield 15, 3) := by decide +kernel
theorem dX4_copyFrom_24 : decode cX4_copyFrom 24 = .ok (.iconst 0, 1) := by decide +kernel
theorem dX4_copyFrom_25 : decode cX4_copyFrom 25 = .ok (.bipush 6, 2) := by decide +kernel
theorem dX4_copyFrom_27 : decode cX4_copyFrom 27 = .ok (.invokestatic 94, 3) := by decide +kernel
theorem dX4_copyFrom_30 : decode cX4_copyFrom 30 = .ok (.aload_n 0, 1) := by decide +kernel
theorem dX4_copyFrom_31 : decode cX4_copyFrom 31 = .ok (.getfield 21, 3) := by decide +kernel
theorem dX4_copyFrom_34 : decode cX4_copyFrom 34 = .ok (.aload_n 1, 1) := by decide +kernel
theorem dX4_copyFrom_35 : decode cX4_copyFrom 35 = .ok (.getfield 21, 3) := by decide +kernel
theorem dX4_copyFrom_38 : decode cX4_copyFrom 38 = .ok (.invokevirtual 100, 3) := by decide +kernel
theorem dX4_copyFrom_41 : decode cX4_copyFrom 41 = .ok (.aload_n 0, 1) := by decide +kernel
theorem dX4_copyFrom_42 : decode cX4_copyFrom 42 = .ok (.aload_n 1, 1) := by decide +kernel
theorem dX4_copyFrom_43 : decode cX4_copyFrom 43 = .ok (.getfield 79, 3) := by decide +kernel
theorem dX4_copyFrom_46 : decode cX4_copyFrom 46 = .ok (.putfield 79, 3) := by decide +kernel
theorem dX4_copyFrom_49 : decode cX4_copyFrom 49 = .ok (.aload_n 0, 1) := by decide +kernel
theorem dX4_copyFrom_50 : decode cX4_copyFrom 50 = .ok (.aload_n 1, 1) := by decide +kernel
theorem dX4_copyFrom_51 : decode cX4_copyFrom 51 = .ok (.getfield 25, 3) := by decide +kernel
theorem dX4_copyFrom_54 : decode cX4_copyFrom 54 = .ok (.putfield 25, 3) := by decide +kernel
theorem dX4_copyFrom_57 : decode cX4_copyFrom 57 = .ok (.aload_n 0, 1) := by decide +kernel
theorem dX4_copyFrom_58 : decode cX4_copyFrom 58 = .ok (.aload_n 1, 1) := by decide +kernel
theorem dX4_copyFrom_59 : decode cX4_copyFrom 59 = .ok (.getfield 55, 3) := by decide +kernel
theorem dX4_copyFrom_62 : decode cX4_copyFrom 62 = .ok (.putfield 55, 3) := by decide +kernel
theorem dX4_copyFrom_65 : decode cX4_copyFrom 65 = .ok (.aload_n 0, 1) := by decide +kernel
theorem dX4_copyFrom_66 : decode cX4_copyFrom 66 = .ok (.aload_n 1, 1) := by decide +kernel
theorem dX4_copyFrom_67 : decode cX4_copyFrom 67 = .ok (.getfield 35, 3) := by decide +kernel
theorem dX4_copyFrom_70 : decode cX4_copyFrom 70 = .ok (.putfield 35, 3) := by decide +kernel
theorem dX4_copyFrom_73 : decode cX4_copyFrom 73 = .ok (.aload_n 0, 1) := by decide +kernel
theorem dX4_copyFrom_74 : decode cX4_copyFrom 74 = .ok (.aload_n 1, 1) := by decide +kernel
theorem dX4_copyFrom_75 : decode cX4_copyFrom 75 = .ok (.getfield 88, 3) := by decide +kernel
theorem dX4_copyFrom_78 : decode cX4_copyFrom 78 = .ok (.putfield 88, 3) := by decide +kernel
theorem dX4_copyFrom_81 : decode cX4_copyFrom 81 = .ok (.return_, 1) := by decide +kernel
theorem dX5_init_0 : decode cX5_init 0 = .ok (.aload_n 0, 1) := by decide +kernel
theorem dX5_init_1 : decode cX5_init 1 = .ok (.invokespecial 3, 3) := by decide +kernel
theorem dX5_init_4 : decode cX5_init 4 = .ok (.aload_n 0, 1) := by decide +kernel
theorem dX5_init_5 : decode cX5_init 5 = .ok (.iconst 4, 1) := by decide +kernel
theorem dX5_init_6 : decode cX5_init 6 = .ok (.newarray .int, 2) := by decide +kernel
theorem dX5_init_8 : decode cX5_init 8 = .ok (.putfield 9, 3) := by decide +kernel
theorem dX5_init_11 : decode cX5_init 11 = .ok (.aload_n 0, 1) := by decide +kernel
theorem dX5_init_12 : decode cX5_init 12 = .ok (.iconst 4, 1) := by decide +kernel
theorem dX5_init_13 : decode cX5_init 13 = .ok (.newarray .int, 2) := by decide +kernel
theorem dX5_init_15 : decode cX5_init 15 = .ok (.putfield 15, 3) := by decide +kernel
theorem dX5_init_18 : decode cX5_init 18 = .ok (.aload_n 0, 1) := by decide +kernel
theorem dX5_init_19 : decode cX5_init 19 = .ok (.iconst 4, 1) := by decide +kernel
theorem dX5_init_20 : decode cX5_init 20 = .ok (.newarray .int, 2) := by decide +kernel
theorem dX5_init_22 : decode cX5_init 22 = .ok (.putfield 18, 3) := by decide +kernel
theorem dX5_init_25 : decode cX5_init 25 = .ok (.return_, 1) := by decide +kernel
theorem dX5_enter_0 : decode cX5_enter 0 = .ok (.aload_n 0, 1) := by decide +kernel
theorem dX5_enter_1 : decode cX5_enter 1 = .ok (.getfield 21, 3) := by decide +kernel
theorem dX5_enter_4 : decode cX5_enter 4 = .ok (.iconst 4, 1) := by decide +kernel
theorem dX5_enter_5 : decode cX5_enter 5 = .ok (.if_icmp .lt 7, 3) := by decide +kernel
theorem dX5_enter_8 : decode cX5_enter 8 = .ok (.aload_n 0, 1) := by decide +kernel
theorem dX5_enter_9 : decode cX5_enter 9 = .ok (.invokevirtual 25, 3) := by decide +kernel
theorem dX5_enter_12 : decode cX5_enter 12 = .ok (.aload_n 0, 1) := by decide +kernel
theorem dX5_enter_13 : decode cX5_enter 13 = .ok (.getfield 21, 3) := by decide +kernel
theorem dX5_enter_16 : decode cX5_enter 16 = .ok (.ifCond .lt 51, 3) := by decide +kernel
theorem dX5_enter_19 : decode cX5_enter 19 = .ok (.aload_n 0, 1) := by decide +kernel
theorem dX5_enter_20 : decode cX5_enter 20 = .ok (.getfield 21, 3) := by decide +kernel
theorem dX5_enter_23 : decode cX5_enter 23 = .ok (.iconst 4, 1) := by decide +kernel
theorem dX5_enter_24 : decode cX5_enter 24 = .ok (.if_icmp .ge 43, 3) := by decide +kernel
theorem dX5_enter_27 : decode cX5_enter 27 = .ok (.aload_n 0, 1) := by decide +kernel
theorem dX5_enter_28 : decode cX5_enter 28 = .ok (.getfield 9, 3) := by decide +kernel
theorem dX5_enter_31 : decode cX5_enter 31 = .ok (.aload_n 0, 1) := by decide +kernel
theorem dX5_enter_32 : decode cX5_enter 32 = .ok (.getfield 21, 3) := by decide +kernel
theorem dX5_enter_35 : decode cX5_enter 35 = .ok (.iload_n 1, 1) := by decide +kernel
theorem dX5_enter_36 : decode cX5_enter 36 = .ok (.iastore, 1) := by decide +kernel
theorem dX5_enter_37 : decode cX5_enter 37 = .ok (.aload_n 0, 1) := by decide +kernel
theorem dX5_enter_38 : decode cX5_enter 38 = .ok (.getfield 15, 3) := by decide +kernel
theorem dX5_enter_41 : decode cX5_enter 41 = .ok (.aload_n 0, 1) := by decide +kernel
theorem dX5_enter_42 : decode cX5_enter 42 = .ok (.getfield 21, 3) := by decide +kernel
theorem dX5_enter_45 : decode cX5_enter 45 = .ok (.iload_n 2, 1) := by decide +kernel
theorem dX5_enter_46 : decode cX5_enter 46 = .ok (.iastore, 1) := by decide +kernel
theorem dX5_enter_47 : decode cX5_enter 47 = .ok (.aload_n 0, 1) := by decide +kernel
theorem dX5_enter_48 : decode cX5_enter 48 = .ok (.getfield 18, 3) := by decide +kernel
theorem dX5_enter_51 : decode cX5_enter 51 = .ok (.aload_n 0, 1) := by decide +kernel
theorem dX5_enter_52 : decode cX5_enter 52 = .ok (.getfield 21, 3) := by decide +kernel
theorem dX5_enter_55 : decode cX5_enter 55 = .ok (.iload_n 3, 1) := by decide +kernel
theorem dX5_enter_56 : decode cX5_enter 56 = .ok (.iastore, 1) := by decide +kernel
theorem dX5_enter_57 : decode cX5_enter 57 = .ok (.aload_n 0, 1) := by decide +kernel
theorem dX5_enter_58 : decode cX5_enter 58 = .ok (.dup, 1) := by decide +kernel
theorem dX5_enter_59 : decode cX5_enter 59 = .ok (.getfield 21, 3) := by decide +kernel
theorem dX5_enter_62 : decode cX5_enter 62 = .ok (.iconst 1, 1) := by decide +kernel
theorem dX5_enter_63 : decode cX5_enter 63 = .ok (.iadd, 1) := by decide +kernel
theorem dX5_enter_64 : decode cX5_enter 64 = .ok (.putfield 21, 3) := by decide +kernel
theorem dX5_enter_67 : decode cX5_enter 67 = .ok (.return_, 1) := by decide +kernel
theorem dX5_loseOldest_0 : decode cX5_loseOldest 0 = .ok (.iconst 1, 1) := by decide +kernel
theorem dX5_loseOldest_1 : decode cX5_loseOldest 1 = .ok (.istore_n 1, 1) := by decide +kernel
theorem dX5_loseOldest_2 : decode cX5_loseOldest 2 = .ok (.iload_n 1, 1) := by decide +kernel
theorem dX5_loseOldest_3 : decode cX5_loseOldest 3 = .ok (.iconst 4, 1) := by decide +kernel
theorem dX5_loseOldest_4 : decode cX5_loseOldest 4 = .ok (.if_icmp .ge 51, 3) := by decide +kernel
theorem dX5_loseOldest_7 : decode cX5_loseOldest 7 = .ok (.aload_n 0, 1) := by decide +kernel
theorem dX5_loseOldest_8 : decode cX5_loseOldest 8 = .ok (.getfield 9, 3) := by decide +kernel
theorem dX5_loseOldest_11 : decode cX5_loseOldest 11 = .ok (.iload_n 1, 1) := by decide +kernel
theorem dX5_loseOldest_12 : decode cX5_loseOldest 12 = .ok (.iconst 1, 1) := by decide +kernel
theorem dX5_loseOldest_13 : decode cX5_loseOldest 13 = .ok (.isub, 1) := by decide +kernel
theorem dX5_loseOldest_14 : decode cX5_loseOldest 14 = .ok (.aload_n 0, 1) := by decide +kernel
theorem dX5_loseOldest_15 : decode cX5_loseOldest 15 = .ok (.getfield 9, 3) := by decide +kernel
theorem dX5_loseOldest_18 : decode cX5_loseOldest 18 = .ok (.iload_n 1, 1) := by decide +kernel
theorem dX5_loseOldest_19 : decode cX5_loseOldest 19 = .ok (.iaload, 1) := by decide +kernel
theorem dX5_loseOldest_20 : decode cX5_loseOldest 20 = .ok (.iastore, 1) := by decide +kernel
theorem dX5_loseOldest_21 : decode cX5_loseOldest 21 = .ok (.aload_n 0, 1) := by decide +kernel
theorem dX5_loseOldest_22 : decode cX5_loseOldest 22 = .ok (.getfield 15, 3) := by decide +kernel
theorem dX5_loseOldest_25 : decode cX5_loseOldest 25 = .ok (.iload_n 1, 1) := by decide +kernel
theorem dX5_loseOldest_26 : decode cX5_loseOldest 26 = .ok (.iconst 1, 1) := by decide +kernel
theorem dX5_loseOldest_27 : decode cX5_loseOldest 27 = .ok (.isub, 1) := by decide +kernel
theorem dX5_loseOldest_28 : decode cX5_loseOldest 28 = .ok (.aload_n 0, 1) := by decide +kernel
theorem dX5_loseOldest_29 : decode cX5_loseOldest 29 = .ok (.getfield 15, 3) := by decide +kernel
theorem dX5_loseOldest_32 : decode cX5_loseOldest 32 = .ok (.iload_n 1, 1) := by decide +kernel
theorem dX5_loseOldest_33 : decode cX5_loseOldest 33 = .ok (.iaload, 1) := by decide +kernel
theorem dX5_loseOldest_34 : decode cX5_loseOldest 34 = .ok (.iastore, 1) := by decide +kernel
theorem dX5_loseOldest_35 : decode cX5_loseOldest 35 = .ok (.aload_n 0, 1) := by decide +kernel
theorem dX5_loseOldest_36 : decode cX5_loseOldest 36 = .ok (.getfield 18, 3) := by decide +kernel
theorem dX5_loseOldest_39 : decode cX5_loseOldest 39 = .ok (.iload_n 1, 1) := by decide +kernel
theorem dX5_loseOldest_40 : decode cX5_loseOldest 40 = .ok (.iconst 1, 1) := by decide +kernel
theorem dX5_loseOldest_41 : decode cX5_loseOldest 41 = .ok (.isub, 1) := by decide +kernel
theorem dX5_loseOldest_42 : decode cX5_loseOldest 42 = .ok (.aload_n 0, 1) := by decide +kernel
theorem dX5_loseOldest_43 : decode cX5_loseOldest 43 = .ok (.getfield 18, 3) := by decide +kernel
theorem dX5_loseOldest_46 : decode cX5_loseOldest 46 = .ok (.iload_n 1, 1) := by decide +kernel
theorem dX5_loseOldest_47 : decode cX5_loseOldest 47 = .ok (.iaload, 1) := by decide +kernel
theorem dX5_loseOldest_48 : decode cX5_loseOldest 48 = .ok (.iastore, 1) := by decide +kernel
theorem dX5_loseOldest_49 : decode cX5_loseOldest 49 = .ok (.iinc 1 1, 3) := by decide +kernel
theorem dX5_loseOldest_52 : decode cX5_loseOldest 52 = .ok (.goto (-50), 3) := by decide +kernel
theorem dX5_loseOldest_55 : decode cX5_loseOldest 55 = .ok (.aload_n 0, 1) := by decide +kernel
theorem dX5_loseOldest_56 : decode cX5_loseOldest 56 = .ok (.iconst 3, 1) := by decide +kernel
theorem dX5_loseOldest_57 : decode cX5_loseOldest 57 = .ok (.putfield 21, 3) := by decide +kernel
theorem dX5_loseOldest_60 : decode cX5_loseOldest 60 = .ok (.aload_n 0, 1) := by decide +kernel
theorem dX5_loseOldest_61 : decode cX5_loseOldest 61 = .ok (.dup, 1) := by decide +kernel
theorem dX5_loseOldest_62 : decode cX5_loseOldest 62 = .ok (.getfield 28, 3) := by decide +kernel
theorem dX5_loseOldest_65 : decode cX5_loseOldest 65 = .ok (.iconst 1, 1) := by decide +kernel
theorem dX5_loseOldest_66 : decode cX5_loseOldest 66 = .ok (.iadd, 1) := by decide +kernel
theorem dX5_loseOldest_67 : decode cX5_loseOldest 67 = .ok (.putfield 28, 3) := by decide +kernel
theorem dX5_loseOldest_70 : decode cX5_loseOldest 70 = .ok (.return_, 1) := by decide +kernel
theorem dX5_tell_0 : decode cX5_tell 0 = .ok (.iload_n 1, 1) := by decide +kernel
theorem dX5_tell_1 : decode cX5_tell 1 = .ok (.ifCond .lt 16, 3) := by decide +kernel
theorem dX5_tell_4 : decode cX5_tell 4 = .ok (.iload_n 1, 1) := by decide +kernel
theorem dX5_tell_5 : decode cX5_tell 5 = .ok (.aload_n 0, 1) := by decide +kernel
theorem dX5_tell_6 : decode cX5_tell 6 = .ok (.getfield 21, 3) := by decide +kernel
theorem dX5_tell_9 : decode cX5_tell 9 = .ok (.if_icmp .ge 8, 3) := by decide +kernel
theorem dX5_tell_12 : decode cX5_tell 12 = .ok (.iload_n 1, 1) := by decide +kernel
theorem dX5_tell_13 : decode cX5_tell 13 = .ok (.iconst 4, 1) := by decide +kernel
theorem dX5_tell_14 : decode cX5_tell 14 = .ok (.if_icmp .lt 6, 3) := by decide +kernel
theorem dX5_tell_17 : decode cX5_tell 17 = .ok (.bipush (-4), 2) := by decide +kernel
theorem dX5_tell_19 : decode cX5_tell 19 = .ok (.ireturn, 1) := by decide +kernel
theorem dX5_tell_20 : decode cX5_tell 20 = .ok (.iload_n 2, 1) := by decide +kernel
theorem dX5_tell_21 : decode cX5_tell 21 = .ok (.tableswitch 48 0 2 #[27, 34, 41], 27) := by decide +kernel
theorem dX5_tell_48 : decode cX5_tell 48 = .ok (.aload_n 0, 1) := by decide +kernel
theorem dX5_tell_49 : decode cX5_tell 49 = .ok (.getfield 9, 3) := by decide +kernel
theorem dX5_tell_52 : decode cX5_tell 52 = .ok (.iload_n 1, 1) := by decide +kernel
theorem dX5_tell_53 : decode cX5_tell 53 = .ok (.iaload, 1) := by decide +kernel
theorem dX5_tell_54 : decode cX5_tell 54 = .ok (.ireturn, 1) := by decide +kernel
theorem dX5_tell_55 : decode cX5_tell 55 = .ok (.aload_n 0, 1) := by decide +kernel
theorem dX5_tell_56 : decode cX5_tell 56 = .ok (.getfield 15, 3) := by decide +kernel
theorem dX5_tell_59 : decode cX5_tell 59 = .ok (.iload_n 1, 1) := by decide +kernel
theorem dX5_tell_60 : decode cX5_tell 60 = .ok (.iaload, 1) := by decide +kernel
theorem dX5_tell_61 : decode cX5_tell 61 = .ok (.ireturn, 1) := by decide +kernel
theorem dX5_tell_62 : decode cX5_tell 62 = .ok (.aload_n 0, 1) := by decide +kernel
theorem dX5_tell_63 : decode cX5_tell 63 = .ok (.getfield 18, 3) := by decide +kernel
theorem dX5_tell_66 : decode cX5_tell 66 = .ok (.iload_n 1, 1) := by decide +kernel
theorem dX5_tell_67 : decode cX5_tell 67 = .ok (.iaload, 1) := by decide +kernel
theorem dX5_tell_68 : decode cX5_tell 68 = .ok (.ireturn, 1) := by decide +kernel
theorem dX5_tell_69 : decode cX5_tell 69 = .ok (.iconst (-1), 1) := by decide +kernel
theorem dX5_tell_70 : decode cX5_tell 70 = .ok (.ireturn, 1) := by decide +kernel
theorem dX5_clear_0 : decode cX5_clear 0 = .ok (.aload_n 0, 1) := by decide +kernel
theorem dX5_clear_1 : decode cX5_clear 1 = .ok (.iconst 0, 1) := by decide +kernel
theorem dX5_clear_2 : decode cX5_clear 2 = .ok (.putfield 21, 3) := by decide +kernel
theorem dX5_clear_5 : decode cX5_clear 5 = .ok (.aload_n 0, 1) := by decide +kernel
theorem dX5_clear_6 : decode cX5_clear 6 = .ok (.iconst 0, 1) := by decide +kernel
theorem dX5_clear_7 : decode cX5_clear 7 = .ok (.putfield 28, 3) := by decide +kernel
theorem dX5_clear_10 : decode cX5_clear 10 = .ok (.return_, 1) := by decide +kernel
theorem dX5_copyFrom_0 : decode cX5_copyFrom 0 = .ok (.aload_n 1, 1) := by decide +kernel
theorem dX5_copyFrom_1 : decode cX5_copyFrom 1 = .ok (.getfield 9, 3) := by decide +kernel
theorem dX5_copyFrom_4 : decode cX5_copyFrom 4 = .ok (.iconst 0, 1) := by decide +kernel
theorem dX5_copyFrom_5 : decode cX5_copyFrom 5 = .ok (.aload_n 0, 1) := by decide +kernel
theorem dX5_copyFrom_6 : decode cX5_copyFrom 6 = .ok (.getfield 9, 3) := by decide +kernel
theorem dX5_copyFrom_9 : decode cX5_copyFrom 9 = .ok (.iconst 0, 1) := by decide +kernel
theorem dX5_copyFrom_10 : decode cX5_copyFrom 10 = .ok (.iconst 4, 1) := by decide +kernel
theorem dX5_copyFrom_11 : decode cX5_copyFrom 11 = .ok (.invokestatic 31, 3) := by decide +kernel
theorem dX5_copyFrom_14 : decode cX5_copyFrom 14 = .ok (.aload_n 1, 1) := by decide +kernel
theorem dX5_copyFrom_15 : decode cX5_copyFrom 15 = .ok (.getfield 15, 3) := by decide +kernel
theorem dX5_copyFrom_18 : decode cX5_copyFrom 18 = .ok (.iconst 0, 1) := by decide +kernel
theorem dX5_copyFrom_19 : decode cX5_copyFrom 19 = .ok (.aload_n 0, 1) := by decide +kernel
theorem dX5_copyFrom_20 : decode cX5_copyFrom 20 = .ok (.getfield 15, 3) := by decide +kernel
theorem dX5_copyFrom_23 : decode cX5_copyFrom 23 = .ok (.iconst 0, 1) := by decide +kernel
theorem dX5_copyFrom_24 : decode cX5_copyFrom 24 = .ok (.iconst 4, 1) := by decide +kernel
theorem dX5_copyFrom_25 : decode cX5_copyFrom 25 = .ok (.invokestatic 31, 3) := by decide +kernel
theorem dX5_copyFrom_28 : decode cX5_copyFrom 28 = .ok (.aload_n 1, 1) := by decide +kernel
theorem dX5_copyFrom_29 : decode cX5_copyFrom 29 = .ok (.getfield 18, 3) := by decide +kernel
theorem dX5_copyFrom_32 : decode cX5_copyFrom 32 = .ok (.iconst 0, 1) := by decide +kernel
theorem dX5_copyFrom_33 : decode cX5_copyFrom 33 = .ok (.aload_n 0, 1) := by decide +kernel
theorem dX5_copyFrom_34 : decode cX5_copyFrom 34 = .ok (.getfield 18, 3) := by decide +kernel
theorem dX5_copyFrom_37 : decode cX5_copyFrom 37 = .ok (.iconst 0, 1) := by decide +kernel
theorem dX5_copyFrom_38 : decode cX5_copyFrom 38 = .ok (.iconst 4, 1) := by decide +kernel
theorem dX5_copyFrom_39 : decode cX5_copyFrom 39 = .ok (.invokestatic 31, 3) := by decide +kernel
theorem dX5_copyFrom_42 : decode cX5_copyFrom 42 = .ok (.aload_n 0, 1) := by decide +kernel
theorem dX5_copyFrom_43 : decode cX5_copyFrom 43 = .ok (.aload_n 1, 1) := by decide +kernel
theorem dX5_copyFrom_44 : decode cX5_copyFrom 44 = .ok (.getfield 21, 3) := by decide +kernel
theorem dX5_copyFrom_47 : decode cX5_copyFrom 47 = .ok (.putfield 21, 3) := by decide +kernel
theorem dX5_copyFrom_50 : decode cX5_copyFrom 50 = .ok (.aload_n 0, 1) := by decide +kernel
theorem dX5_copyFrom_51 : decode cX5_copyFrom 51 = .ok (.aload_n 1, 1) := by decide +kernel
theorem dX5_copyFrom_52 : decode cX5_copyFrom 52 = .ok (.getfield 28, 3) := by decide +kernel
theorem dX5_copyFrom_55 : decode cX5_copyFrom 55 = .ok (.putfield 28, 3) := by decide +kernel
theorem dX5_copyFrom_58 : decode cX5_copyFrom 58 = .ok (.return_, 1) := by decide +kernel
theorem dX6_init_0 : decode cX6_init 0 = .ok (.aload_n 0, 1) := by decide +kernel
theorem dX6_init_1 : decode cX6_init 1 = .ok (.invokespecial 3, 3) := by decide +kernel
theorem dX6_init_4 : decode cX6_init 4 = .ok (.aload_n 0, 1) := by decide +kernel
theorem dX6_init_5 : decode cX6_init 5 = .ok (.iconst 4, 1) := by decide +kernel
theorem dX6_init_6 : decode cX6_init 6 = .ok (.newarray .int, 2) := by decide +kernel
theorem dX6_init_8 : decode cX6_init 8 = .ok (.putfield 9, 3) := by decide +kernel
theorem dX6_init_11 : decode cX6_init 11 = .ok (.return_, 1) := by decide +kernel
theorem dX6_ask_0 : decode cX6_ask 0 = .ok (.aload_n 0, 1) := by decide +kernel
theorem dX6_ask_1 : decode cX6_ask 1 = .ok (.iconst 0, 1) := by decide +kernel
theorem dX6_ask_2 : decode cX6_ask 2 = .ok (.putfield 15, 3) := by decide +kernel
theorem dX6_ask_5 : decode cX6_ask 5 = .ok (.iconst 0, 1) := by decide +kernel
theorem dX6_ask_6 : decode cX6_ask 6 = .ok (.istore 4, 2) := by decide +kernel
theorem dX6_ask_8 : decode cX6_ask 8 = .ok (.iload 4, 2) := by decide +kernel
theorem dX6_ask_10 : decode cX6_ask 10 = .ok (.aload_n 1, 1) := by decide +kernel
theorem dX6_ask_11 : decode cX6_ask 11 = .ok (.getfield 19, 3) := by decide +kernel
theorem dX6_ask_14 : decode cX6_ask 14 = .ok (.if_icmp .ge 158, 3) := by decide +kernel
theorem dX6_ask_17 : decode cX6_ask 17 = .ok (.aload_n 1, 1) := by decide +kernel
theorem dX6_ask_18 : decode cX6_ask 18 = .ok (.iload 4, 2) := by decide +kernel
theorem dX6_ask_20 : decode cX6_ask 20 = .ok (.invokevirtual 24, 3) := by decide +kernel
theorem dX6_ask_23 : decode cX6_ask 23 = .ok (.istore 5, 2) := by decide +kernel
theorem dX6_ask_25 : decode cX6_ask 25 = .ok (.aload_n 1, 1) := by decide +kernel
theorem dX6_ask_26 : decode cX6_ask 26 = .ok (.iload 5, 2) := by decide +kernel
theorem dX6_ask_28 : decode cX6_ask 28 = .ok (.bipush 109, 2) := by decide +kernel
theorem dX6_ask_30 : decode cX6_ask 30 = .ok (.if_icmp .ne 10, 3) := by decide +kernel
theorem dX6_ask_33 : decode cX6_ask 33 = .ok (.iload 4, 2) := by decide +kernel
theorem dX6_ask_35 : decode cX6_ask 35 = .ok (.iconst 1, 1) := by decide +kernel
theorem dX6_ask_36 : decode cX6_ask 36 = .ok (.iadd, 1) := by decide +kernel
theorem dX6_ask_37 : decode cX6_ask 37 = .ok (.goto 5, 3) := by decide +kernel
theorem dX6_ask_40 : decode cX6_ask 40 = .ok (.iload 4, 2) := by decide +kernel
theorem dX6_ask_42 : decode cX6_ask 42 = .ok (.invokevirtual 28, 3) := by decide +kernel
theorem dX6_ask_45 : decode cX6_ask 45 = .ok (.istore 6, 2) := by decide +kernel
theorem dX6_ask_47 : decode cX6_ask 47 = .ok (.iload 5, 2) := by decide +kernel
theorem dX6_ask_49 : decode cX6_ask 49 = .ok (.bipush 109, 2) := by decide +kernel
theorem dX6_ask_51 : decode cX6_ask 51 = .ok (.if_icmp .ne 35, 3) := by decide +kernel
theorem dX6_ask_54 : decode cX6_ask 54 = .ok (.aload_n 3, 1) := by decide +kernel
theorem dX6_ask_55 : decode cX6_ask 55 = .ok (.iload 6, 2) := by decide +kernel
theorem dX6_ask_57 : decode cX6_ask 57 = .ok (.invokevirtual 32, 3) := by decide +kernel
theorem dX6_ask_60 : decode cX6_ask 60 = .ok (.ifCond .eq 20, 3) := by decide +kernel
theorem dX6_ask_63 : decode cX6_ask 63 = .ok (.aload_n 0, 1) := by decide +kernel
theorem dX6_ask_64 : decode cX6_ask 64 = .ok (.aload_n 3, 1) := by decide +kernel
theorem dX6_ask_65 : decode cX6_ask 65 = .ok (.iload 6, 2) := by decide +kernel
theorem dX6_ask_67 : decode cX6_ask 67 = .ok (.invokevirtual 38, 3) := by decide +kernel
theorem dX6_ask_70 : decode cX6_ask 70 = .ok (.invokevirtual 41, 3) := by decide +kernel
theorem dX6_ask_73 : decode cX6_ask 73 = .ok (.ifCond .eq 7, 3) := by decide +kernel
theorem dX6_ask_76 : decode cX6_ask 76 = .ok (.iconst 1, 1) := by decide +kernel
theorem dX6_ask_77 : decode cX6_ask 77 = .ok (.goto 4, 3) := by decide +kernel
theorem dX6_ask_80 : decode cX6_ask 80 = .ok (.iconst 0, 1) := by decide +kernel
theorem dX6_ask_81 : decode cX6_ask 81 = .ok (.istore 7, 2) := by decide +kernel
theorem dX6_ask_83 : decode cX6_ask 83 = .ok (.goto 61, 3) := by decide +kernel
theorem dX6_ask_86 : decode cX6_ask 86 = .ok (.iload 5, 2) := by decide +kernel
theorem dX6_ask_88 : decode cX6_ask 88 = .ok (.bipush 97, 2) := by decide +kernel
theorem dX6_ask_90 : decode cX6_ask 90 = .ok (.if_icmp .eq 10, 3) := by decide +kernel
theorem dX6_ask_93 : decode cX6_ask 93 = .ok (.iload 6, 2) := by decide +kernel
theorem dX6_ask_95 : decode cX6_ask 95 = .ok (.bipush (-4), 2) := by decide +kernel
theorem dX6_ask_97 : decode cX6_ask 97 = .ok (.if_icmp .eq 25, 3) := by decide +kernel
theorem dX6_ask_100 : decode cX6_ask 100 = .ok (.aload_n 0, 1) := by decide +kernel
theorem dX6_ask_101 : decode cX6_ask 101 = .ok (.iload 5, 2) := by decide +kernel
theorem dX6_ask_103 : decode cX6_ask 103 = .ok (.bipush 97, 2) := by decide +kernel
theorem dX6_ask_105 : decode cX6_ask 105 = .ok (.if_icmp .ne 7, 3) := by decide +kernel
theorem dX6_ask_108 : decode cX6_ask 108 = .ok (.iload_n 2, 1) := by decide +kernel
theorem dX6_ask_109 : decode cX6_ask 109 = .ok (.goto 5, 3) := by decide +kernel
theorem dX6_ask_112 : decode cX6_ask 112 = .ok (.iload 6, 2) := by decide +kernel
theorem dX6_ask_114 : decode cX6_ask 114 = .ok (.invokevirtual 41, 3) := by decide +kernel
theorem dX6_ask_117 : decode cX6_ask 117 = .ok (.istore 7, 2) := by decide +kernel
theorem dX6_ask_119 : decode cX6_ask 119 = .ok (.goto 25, 3) := by decide +kernel
theorem dX6_ask_122 : decode cX6_ask 122 = .ok (.iload 5, 2) := by decide +kernel
theorem dX6_ask_124 : decode cX6_ask 124 = .ok (.bipush 33, 2) := by decide +kernel
theorem dX6_ask_126 : decode cX6_ask 126 = .ok (.if_icmp .ne 10, 3) := by decide +kernel
theorem dX6_ask_129 : decode cX6_ask 129 = .ok (.aload_n 0, 1) := by decide +kernel
theorem dX6_ask_130 : decode cX6_ask 130 = .ok (.invokevirtual 44, 3) := by decide +kernel
theorem dX6_ask_133 : decode cX6_ask 133 = .ok (.goto 9, 3) := by decide +kernel
theorem dX6_ask_136 : decode cX6_ask 136 = .ok (.aload_n 0, 1) := by decide +kernel
theorem dX6_ask_137 : decode cX6_ask 137 = .ok (.iload 5, 2) := by decide +kernel
theorem dX6_ask_139 : decode cX6_ask 139 = .ok (.invokevirtual 48, 3) := by decide +kernel
theorem dX6_ask_142 : decode cX6_ask 142 = .ok (.istore 7, 2) := by decide +kernel
theorem dX6_ask_144 : decode cX6_ask 144 = .ok (.iload 7, 2) := by decide +kernel
theorem dX6_ask_146 : decode cX6_ask 146 = .ok (.ifCond .ne 6, 3) := by decide +kernel
theorem dX6_ask_149 : decode cX6_ask 149 = .ok (.bipush (-2), 2) := by decide +kernel
theorem dX6_ask_151 : decode cX6_ask 151 = .ok (.ireturn, 1) := by decide +kernel
theorem dX6_ask_152 : decode cX6_ask 152 = .ok (.iload 4, 2) := by decide +kernel
theorem dX6_ask_154 : decode cX6_ask 154 = .ok (.iload 5, 2) := by decide +kernel
theorem dX6_ask_156 : decode cX6_ask 156 = .ok (.bipush 109, 2) := by decide +kernel
theorem dX6_ask_158 : decode cX6_ask 158 = .ok (.if_icmp .ne 7, 3) := by decide +kernel
theorem dX6_ask_161 : decode cX6_ask 161 = .ok (.iconst 2, 1) := by decide +kernel
theorem dX6_ask_162 : decode cX6_ask 162 = .ok (.goto 4, 3) := by decide +kernel
theorem dX6_ask_165 : decode cX6_ask 165 = .ok (.iconst 1, 1) := by decide +kernel
theorem dX6_ask_166 : decode cX6_ask 166 = .ok (.iadd, 1) := by decide +kernel
theorem dX6_ask_167 : decode cX6_ask 167 = .ok (.istore 4, 2) := by decide +kernel
theorem dX6_ask_169 : decode cX6_ask 169 = .ok (.goto (-161), 3) := by decide +kernel
theorem dX6_ask_172 : decode cX6_ask 172 = .ok (.aload_n 0, 1) := by decide +kernel
theorem dX6_ask_173 : decode cX6_ask 173 = .ok (.getfield 15, 3) := by decide +kernel
theorem dX6_ask_176 : decode cX6_ask 176 = .ok (.iconst 1, 1) := by decide +kernel
theorem dX6_ask_177 : decode cX6_ask 177 = .ok (.if_icmp .ne 12, 3) := by decide +kernel
theorem dX6_ask_180 : decode cX6_ask 180 = .ok (.aload_n 0, 1) := by decide +kernel
theorem dX6_ask_181 : decode cX6_ask 181 = .ok (.getfield 9, 3) := by decide +kernel
theorem dX6_ask_184 : decode cX6_ask 184 = .ok (.iconst 0, 1) := by decide +kernel
theorem dX6_ask_185 : decode cX6_ask 185 = .ok (.iaload, 1) := by decide +kernel
theorem dX6_ask_186 : decode cX6_ask 186 = .ok (.goto 5, 3) := by decide +kernel
theorem dX6_ask_189 : decode cX6_ask 189 = .ok (.bipush (-2), 2) := by decide +kernel
theorem dX6_ask_191 : decode cX6_ask 191 = .ok (.ireturn, 1) := by decide +kernel
theorem dX6_put_0 : decode cX6_put 0 = .ok (.aload_n 0, 1) := by decide +kernel
theorem dX6_put_1 : decode cX6_put 1 = .ok (.getfield 15, 3) := by decide +kernel
theorem dX6_put_4 : decode cX6_put 4 = .ok (.ifCond .lt 11, 3) := by decide +kernel
theorem dX6_put_7 : decode cX6_put 7 = .ok (.aload_n 0, 1) := by decide +kernel
theorem dX6_put_8 : decode cX6_put 8 = .ok (.getfield 15, 3) := by decide +kernel
theorem dX6_put_11 : decode cX6_put 11 = .ok (.iconst 4, 1) := by decide +kernel
theorem dX6_put_12 : decode cX6_put 12 = .ok (.if_icmp .lt 5, 3) := by decide +kernel
theorem dX6_put_15 : decode cX6_put 15 = .ok (.iconst 0, 1) := by decide +kernel
theorem dX6_put_16 : decode cX6_put 16 = .ok (.ireturn, 1) := by decide +kernel
theorem dX6_put_17 : decode cX6_put 17 = .ok (.aload_n 0, 1) := by decide +kernel
theorem dX6_put_18 : decode cX6_put 18 = .ok (.getfield 9, 3) := by decide +kernel
theorem dX6_put_21 : decode cX6_put 21 = .ok (.aload_n 0, 1) := by decide +kernel
theorem dX6_put_22 : decode cX6_put 22 = .ok (.getfield 15, 3) := by decide +kernel
theorem dX6_put_25 : decode cX6_put 25 = .ok (.iload_n 1, 1) := by decide +kernel
theorem dX6_put_26 : decode cX6_put 26 = .ok (.iastore, 1) := by decide +kernel
theorem dX6_put_27 : decode cX6_put 27 = .ok (.aload_n 0, 1) := by decide +kernel
theorem dX6_put_28 : decode cX6_put 28 = .ok (.dup, 1) := by decide +kernel
theorem dX6_put_29 : decode cX6_put 29 = .ok (.getfield 15, 3) := by decide +kernel
theorem dX6_put_32 : decode cX6_put 32 = .ok (.iconst 1, 1) := by decide +kernel
theorem dX6_put_33 : decode cX6_put 33 = .ok (.iadd, 1) := by decide +kernel
theorem dX6_put_34 : decode cX6_put 34 = .ok (.putfield 15, 3) := by decide +kernel
theorem dX6_put_37 : decode cX6_put 37 = .ok (.iconst 1, 1) := by decide +kernel
theorem dX6_put_38 : decode cX6_put 38 = .ok (.ireturn, 1) := by decide +kernel
theorem dX6_turnTop_0 : decode cX6_turnTop 0 = .ok (.aload_n 0, 1) := by decide +kernel
theorem dX6_turnTop_1 : decode cX6_turnTop 1 = .ok (.getfield 15, 3) := by decide +kernel
theorem dX6_turnTop_4 : decode cX6_turnTop 4 = .ok (.iconst 1, 1) := by decide +kernel
theorem dX6_turnTop_5 : decode cX6_turnTop 5 = .ok (.isub, 1) := by decide +kernel
theorem dX6_turnTop_6 : decode cX6_turnTop 6 = .ok (.istore_n 1, 1) := by decide +kernel
theorem dX6_turnTop_7 : decode cX6_turnTop 7 = .ok (.iload_n 1, 1) := by decide +kernel
theorem dX6_turnTop_8 : decode cX6_turnTop 8 = .ok (.ifCond .lt 8, 3) := by decide +kernel
theorem dX6_turnTop_11 : decode cX6_turnTop 11 = .ok (.iload_n 1, 1) := by decide +kernel
theorem dX6_turnTop_12 : decode cX6_turnTop 12 = .ok (.iconst 4, 1) := by decide +kernel
theorem dX6_turnTop_13 : decode cX6_turnTop 13 = .ok (.if_icmp .lt 5, 3) := by decide +kernel
theorem dX6_turnTop_16 : decode cX6_turnTop 16 = .ok (.iconst 0, 1) := by decide +kernel
theorem dX6_turnTop_17 : decode cX6_turnTop 17 = .ok (.ireturn, 1) := by decide +kernel
theorem dX6_turnTop_18 : decode cX6_turnTop 18 = .ok (.aload_n 0, 1) := by decide +kernel
theorem dX6_turnTop_19 : decode cX6_turnTop 19 = .ok (.getfield 9, 3) := by decide +kernel
theorem dX6_turnTop_22 : decode cX6_turnTop 22 = .ok (.iload_n 1, 1) := by decide +kernel
theorem dX6_turnTop_23 : decode cX6_turnTop 23 = .ok (.aload_n 0, 1) := by decide +kernel
theorem dX6_turnTop_24 : decode cX6_turnTop 24 = .ok (.getfield 9, 3) := by decide +kernel
theorem dX6_turnTop_27 : decode cX6_turnTop 27 = .ok (.iload_n 1, 1) := by decide +kernel
theorem dX6_turnTop_28 : decode cX6_turnTop 28 = .ok (.iaload, 1) := by decide +kernel
theorem dX6_turnTop_29 : decode cX6_turnTop 29 = .ok (.ifCond .ne 7, 3) := by decide +kernel
theorem dX6_turnTop_32 : decode cX6_turnTop 32 = .ok (.iconst 1, 1) := by decide +kernel
theorem dX6_turnTop_33 : decode cX6_turnTop 33 = .ok (.goto 4, 3) := by decide +kernel
theorem dX6_turnTop_36 : decode cX6_turnTop 36 = .ok (.iconst 0, 1) := by decide +kernel
theorem dX6_turnTop_37 : decode cX6_turnTop 37 = .ok (.iastore, 1) := by decide +kernel
theorem dX6_turnTop_38 : decode cX6_turnTop 38 = .ok (.iconst 1, 1) := by decide +kernel
theorem dX6_turnTop_39 : decode cX6_turnTop 39 = .ok (.ireturn, 1) := by decide +kernel
theorem dX6_join_0 : decode cX6_join 0 = .ok (.aload_n 0, 1) := by decide +kernel
theorem dX6_join_1 : decode cX6_join 1 = .ok (.getfield 15, 3) := by decide +kernel
theorem dX6_join_4 : decode cX6_join 4 = .ok (.iconst 1, 1) := by decide +kernel
theorem dX6_join_5 : decode cX6_join 5 = .ok (.isub, 1) := by decide +kernel
theorem dX6_join_6 : decode cX6_join 6 = .ok (.istore_n 2, 1) := by decide +kernel
theorem dX6_join_7 : decode cX6_join 7 = .ok (.iload_n 2, 1) := by decide +kernel
theorem dX6_join_8 : decode cX6_join 8 = .ok (.iconst 1, 1) := by decide +kernel
theorem dX6_join_9 : decode cX6_join 9 = .ok (.if_icmp .lt 8, 3) := by decide +kernel
theorem dX6_join_12 : decode cX6_join 12 = .ok (.iload_n 2, 1) := by decide +kernel
theorem dX6_join_13 : decode cX6_join 13 = .ok (.iconst 4, 1) := by decide +kernel
theorem dX6_join_14 : decode cX6_join 14 = .ok (.if_icmp .lt 5, 3) := by decide +kernel
theorem dX6_join_17 : decode cX6_join 17 = .ok (.iconst 0, 1) := by decide +kernel
theorem dX6_join_18 : decode cX6_join 18 = .ok (.ireturn, 1) := by decide +kernel
theorem dX6_join_19 : decode cX6_join 19 = .ok (.iload_n 1, 1) := by decide +kernel
theorem dX6_join_20 : decode cX6_join 20 = .ok (.aload_n 0, 1) := by decide +kernel
theorem dX6_join_21 : decode cX6_join 21 = .ok (.getfield 9, 3) := by decide +kernel
theorem dX6_join_24 : decode cX6_join 24 = .ok (.iload_n 2, 1) := by decide +kernel
theorem dX6_join_25 : decode cX6_join 25 = .ok (.iconst 1, 1) := by decide +kernel
theorem dX6_join_26 : decode cX6_join 26 = .ok (.isub, 1) := by decide +kernel
theorem dX6_join_27 : decode cX6_join 27 = .ok (.iaload, 1) := by decide +kernel
theorem dX6_join_28 : decode cX6_join 28 = .ok (.aload_n 0, 1) := by decide +kernel
theorem dX6_join_29 : decode cX6_join 29 = .ok (.getfield 9, 3) := by decide +kernel
theorem dX6_join_32 : decode cX6_join 32 = .ok (.iload_n 2, 1) := by decide +kernel
theorem dX6_join_33 : decode cX6_join 33 = .ok (.iaload, 1) := by decide +kernel
theorem dX6_join_34 : decode cX6_join 34 = .ok (.invokestatic 52, 3) := by decide +kernel
theorem dX6_join_37 : decode cX6_join 37 = .ok (.istore_n 3, 1) := by decide +kernel
theorem dX6_join_38 : decode cX6_join 38 = .ok (.iload_n 3, 1) := by decide +kernel
theorem dX6_join_39 : decode cX6_join 39 = .ok (.bipush (-4), 2) := by decide +kernel
theorem dX6_join_41 : decode cX6_join 41 = .ok (.if_icmp .ne 5, 3) := by decide +kernel
theorem dX6_join_44 : decode cX6_join 44 = .ok (.iconst 0, 1) := by decide +kernel
theorem dX6_join_45 : decode cX6_join 45 = .ok (.ireturn, 1) := by decide +kernel
theorem dX6_join_46 : decode cX6_join 46 = .ok (.aload_n 0, 1) := by decide +kernel
theorem dX6_join_47 : decode cX6_join 47 = .ok (.getfield 9, 3) := by decide +kernel
theorem dX6_join_50 : decode cX6_join 50 = .ok (.iload_n 2, 1) := by decide +kernel
theorem dX6_join_51 : decode cX6_join 51 = .ok (.iconst 1, 1) := by decide +kernel
theorem dX6_join_52 : decode cX6_join 52 = .ok (.isub, 1) := by decide +kernel
theorem dX6_join_53 : decode cX6_join 53 = .ok (.iload_n 3, 1) := by decide +kernel
theorem dX6_join_54 : decode cX6_join 54 = .ok (.iastore, 1) := by decide +kernel
theorem dX6_join_55 : decode cX6_join 55 = .ok (.aload_n 0, 1) := by decide +kernel
theorem dX6_join_56 : decode cX6_join 56 = .ok (.dup, 1) := by decide +kernel
theorem dX6_join_57 : decode cX6_join 57 = .ok (.getfield 15, 3) := by decide +kernel
theorem dX6_join_60 : decode cX6_join 60 = .ok (.iconst 1, 1) := by decide +kernel
theorem dX6_join_61 : decode cX6_join 61 = .ok (.isub, 1) := by decide +kernel
theorem dX6_join_62 : decode cX6_join 62 = .ok (.putfield 15, 3) := by decide +kernel
theorem dX6_join_65 : decode cX6_join 65 = .ok (.iconst 1, 1) := by decide +kernel
theorem dX6_join_66 : decode cX6_join 66 = .ok (.ireturn, 1) := by decide +kernel
theorem dX6_joined_0 : decode cX6_joined 0 = .ok (.iload_n 0, 1) := by decide +kernel
theorem dX6_joined_1 : decode cX6_joined 1 = .ok (.lookupswitch 145 #[(38, 117), (42, 87), (43, 67), (45, 75), (60, 95), (61, 106), (124, 131)], 67) := by decide +kernel
theorem dX6_joined_68 : decode cX6_joined 68 = .ok (.iload_n 1, 1) := by decide +kernel
theorem dX6_joined_69 : decode cX6_joined 69 = .ok (.iload_n 2, 1) := by decide +kernel
theorem dX6_joined_70 : decode cX6_joined 70 = .ok (.iadd, 1) := by decide +kernel
theorem dX6_joined_71 : decode cX6_joined 71 = .ok (.sipush 1000, 3) := by decide +kernel
theorem dX6_joined_74 : decode cX6_joined 74 = .ok (.irem, 1) := by decide +kernel
theorem dX6_joined_75 : decode cX6_joined 75 = .ok (.ireturn, 1) := by decide +kernel
theorem dX6_joined_76 : decode cX6_joined 76 = .ok (.iload_n 1, 1) := by decide +kernel
theorem dX6_joined_77 : decode cX6_joined 77 = .ok (.sipush 1000, 3) := by decide +kernel
theorem dX6_joined_80 : decode cX6_joined 80 = .ok (.iadd, 1) := by decide +kernel
theorem dX6_joined_81 : decode cX6_joined 81 = .ok (.iload_n 2, 1) := by decide +kernel
theorem dX6_joined_82 : decode cX6_joined 82 = .ok (.isub, 1) := by decide +kernel
theorem dX6_joined_83 : decode cX6_joined 83 = .ok (.sipush 1000, 3) := by decide +kernel
theorem dX6_joined_86 : decode cX6_joined 86 = .ok (.irem, 1) := by decide +kernel
theorem dX6_joined_87 : decode cX6_joined 87 = .ok (.ireturn, 1) := by decide +kernel
theorem dX6_joined_88 : decode cX6_joined 88 = .ok (.iload_n 1, 1) := by decide +kernel
theorem dX6_joined_89 : decode cX6_joined 89 = .ok (.iload_n 2, 1) := by decide +kernel
theorem dX6_joined_90 : decode cX6_joined 90 = .ok (.imul, 1) := by decide +kernel
theorem dX6_joined_91 : decode cX6_joined 91 = .ok (.sipush 1000, 3) := by decide +kernel
theorem dX6_joined_94 : decode cX6_joined 94 = .ok (.irem, 1) := by decide +kernel
theorem dX6_joined_95 : decode cX6_joined 95 = .ok (.ireturn, 1) := by decide +kernel
theorem dX6_joined_96 : decode cX6_joined 96 = .ok (.iload_n 1, 1) := by decide +kernel
theorem dX6_joined_97 : decode cX6_joined 97 = .ok (.iload_n 2, 1) := by decide +kernel
theorem dX6_joined_98 : decode cX6_joined 98 = .ok (.if_icmp .ge 7, 3) := by decide +kernel
theorem dX6_joined_101 : decode cX6_joined 101 = .ok (.iconst 1, 1) := by decide +kernel
theorem dX6_joined_102 : decode cX6_joined 102 = .ok (.goto 4, 3) := by decide +kernel
theorem dX6_joined_105 : decode cX6_joined 105 = .ok (.iconst 0, 1) := by decide +kernel
theorem dX6_joined_106 : decode cX6_joined 106 = .ok (.ireturn, 1) := by decide +kernel
theorem dX6_joined_107 : decode cX6_joined 107 = .ok (.iload_n 1, 1) := by decide +kernel
theorem dX6_joined_108 : decode cX6_joined 108 = .ok (.iload_n 2, 1) := by decide +kernel
theorem dX6_joined_109 : decode cX6_joined 109 = .ok (.if_icmp .ne 7, 3) := by decide +kernel
theorem dX6_joined_112 : decode cX6_joined 112 = .ok (.iconst 1, 1) := by decide +kernel
theorem dX6_joined_113 : decode cX6_joined 113 = .ok (.goto 4, 3) := by decide +kernel
theorem dX6_joined_116 : decode cX6_joined 116 = .ok (.iconst 0, 1) := by decide +kernel
theorem dX6_joined_117 : decode cX6_joined 117 = .ok (.ireturn, 1) := by decide +kernel
theorem dX6_joined_118 : decode cX6_joined 118 = .ok (.iload_n 1, 1) := by decide +kernel
theorem dX6_joined_119 : decode cX6_joined 119 = .ok (.ifCond .eq 11, 3) := by decide +kernel
theorem dX6_joined_122 : decode cX6_joined 122 = .ok (.iload_n 2, 1) := by decide +kernel
theorem dX6_joined_123 : decode cX6_joined 123 = .ok (.ifCond .eq 7, 3) := by decide +kernel
theorem dX6_joined_126 : decode cX6_joined 126 = .ok (.iconst 1, 1) := by decide +kernel
theorem dX6_joined_127 : decode cX6_joined 127 = .ok (.goto 4, 3) := by decide +kernel
theorem dX6_joined_130 : decode cX6_joined 130 = .ok (.iconst 0, 1) := by decide +kernel
theorem dX6_joined_131 : decode cX6_joined 131 = .ok (.ireturn, 1) := by decide +kernel
theorem dX6_joined_132 : decode cX6_joined 132 = .ok (.iload_n 1, 1) := by decide +kernel
theorem dX6_joined_133 : decode cX6_joined 133 = .ok (.ifCond .ne 7, 3) := by decide +kernel
theorem dX6_joined_136 : decode cX6_joined 136 = .ok (.iload_n 2, 1) := by decide +kernel
theorem dX6_joined_137 : decode cX6_joined 137 = .ok (.ifCond .eq 7, 3) := by decide +kernel
theorem dX6_joined_140 : decode cX6_joined 140 = .ok (.iconst 1, 1) := by decide +kernel
theorem dX6_joined_141 : decode cX6_joined 141 = .ok (.goto 4, 3) := by decide +kernel
theorem dX6_joined_144 : decode cX6_joined 144 = .ok (.iconst 0, 1) := by decide +kernel
theorem dX6_joined_145 : decode cX6_joined 145 = .ok (.ireturn, 1) := by decide +kernel
theorem dX6_joined_146 : decode cX6_joined 146 = .ok (.bipush (-4), 2) := by decide +kernel
theorem dX6_joined_148 : decode cX6_joined 148 = .ok (.ireturn, 1) := by decide +kernel
theorem dX7_init_0 : decode cX7_init 0 = .ok (.aload_n 0, 1) := by decide +kernel
theorem dX7_init_1 : decode cX7_init 1 = .ok (.invokespecial 3, 3) := by decide +kernel
theorem dX7_init_4 : decode cX7_init 4 = .ok (.aload_n 0, 1) := by decide +kernel
theorem dX7_init_5 : decode cX7_init 5 = .ok (.new 9, 3) := by decide +kernel
theorem dX7_init_8 : decode cX7_init 8 = .ok (.dup, 1) := by decide +kernel
theorem dX7_init_9 : decode cX7_init 9 = .ok (.invokespecial 11, 3) := by decide +kernel
theorem dX7_init_12 : decode cX7_init 12 = .ok (.putfield 12, 3) := by decide +kernel
theorem dX7_init_15 : decode cX7_init 15 = .ok (.aload_n 0, 1) := by decide +kernel
theorem dX7_init_16 : decode cX7_init 16 = .ok (.new 18, 3) := by decide +kernel
theorem dX7_init_19 : decode cX7_init 19 = .ok (.dup, 1) := by decide +kernel
theorem dX7_init_20 : decode cX7_init 20 = .ok (.invokespecial 20, 3) := by decide +kernel
theorem dX7_init_23 : decode cX7_init 23 = .ok (.putfield 21, 3) := by decide +kernel
theorem dX7_init_26 : decode cX7_init 26 = .ok (.aload_n 0, 1) := by decide +kernel
theorem dX7_init_27 : decode cX7_init 27 = .ok (.new 18, 3) := by decide +kernel
theorem dX7_init_30 : decode cX7_init 30 = .ok (.dup, 1) := by decide +kernel
theorem dX7_init_31 : decode cX7_init 31 = .ok (.invokespecial 20, 3) := by decide +kernel
theorem dX7_init_34 : decode cX7_init 34 = .ok (.putfield 25, 3) := by decide +kernel
theorem dX7_init_37 : decode cX7_init 37 = .ok (.aload_n 0, 1) := by decide +kernel
theorem dX7_init_38 : decode cX7_init 38 = .ok (.bipush 6, 2) := by decide +kernel
theorem dX7_init_40 : decode cX7_init 40 = .ok (.anewarray 28, 3) := by decide +kernel
theorem dX7_init_43 : decode cX7_init 43 = .ok (.putfield 30, 3) := by decide +kernel
theorem dX7_init_46 : decode cX7_init 46 = .ok (.iconst 0, 1) := by decide +kernel
theorem dX7_init_47 : decode cX7_init 47 = .ok (.istore_n 1, 1) := by decide +kernel
theorem dX7_init_48 : decode cX7_init 48 = .ok (.iload_n 1, 1) := by decide +kernel
theorem dX7_init_49 : decode cX7_init 49 = .ok (.bipush 6, 2) := by decide +kernel
theorem dX7_init_51 : decode cX7_init 51 = .ok (.if_icmp .ge 23, 3) := by decide +kernel
theorem dX7_init_54 : decode cX7_init 54 = .ok (.aload_n 0, 1) := by decide +kernel
theorem dX7_init_55 : decode cX7_init 55 = .ok (.getfield 30, 3) := by decide +kernel
theorem dX7_init_58 : decode cX7_init 58 = .ok (.iload_n 1, 1) := by decide +kernel
theorem dX7_init_59 : decode cX7_init 59 = .ok (.new 28, 3) := by decide +kernel
theorem dX7_init_62 : decode cX7_init 62 = .ok (.dup, 1) := by decide +kernel
theorem dX7_init_63 : decode cX7_init 63 = .ok (.iload_n 1, 1) := by decide +kernel
theorem dX7_init_64 : decode cX7_init 64 = .ok (.invokespecial 34, 3) := by decide +kernel
theorem dX7_init_67 : decode cX7_init 67 = .ok (.aastore, 1) := by decide +kernel
theorem dX7_init_68 : decode cX7_init 68 = .ok (.iinc 1 1, 3) := by decide +kernel
theorem dX7_init_71 : decode cX7_init 71 = .ok (.goto (-23), 3) := by decide +kernel
theorem dX7_init_74 : decode cX7_init 74 = .ok (.return_, 1) := by decide +kernel
theorem dX7_processorOrNull_0 : decode cX7_processorOrNull 0 = .ok (.iload_n 1, 1) := by decide +kernel
theorem dX7_processorOrNull_1 : decode cX7_processorOrNull 1 = .ok (.ifCond .ne 8, 3) := by decide +kernel
theorem dX7_processorOrNull_4 : decode cX7_processorOrNull 4 = .ok (.aload_n 0, 1) := by decide +kernel
theorem dX7_processorOrNull_5 : decode cX7_processorOrNull 5 = .ok (.getfield 21, 3) := by decide +kernel
theorem dX7_processorOrNull_8 : decode cX7_processorOrNull 8 = .ok (.areturn, 1) := by decide +kernel
theorem dX7_processorOrNull_9 : decode cX7_processorOrNull 9 = .ok (.iload_n 1, 1) := by decide +kernel
theorem dX7_processorOrNull_10 : decode cX7_processorOrNull 10 = .ok (.iconst 1, 1) := by decide +kernel
theorem dX7_processorOrNull_11 : decode cX7_processorOrNull 11 = .ok (.if_icmp .ne 10, 3) := by decide +kernel
theorem dX7_processorOrNull_14 : decode cX7_processorOrNull 14 = .ok (.aload_n 0, 1) := by decide +kernel
theorem dX7_processorOrNull_15 : decode cX7_processorOrNull 15 = .ok (.getfield 25, 3) := by decide +kernel
theorem dX7_processorOrNull_18 : decode cX7_processorOrNull 18 = .ok (.goto 4, 3) := by decide +kernel
theorem dX7_processorOrNull_21 : decode cX7_processorOrNull 21 = .ok (.aconst_null, 1) := by decide +kernel
theorem dX7_processorOrNull_22 : decode cX7_processorOrNull 22 = .ok (.areturn, 1) := by decide +kernel
theorem dX7_probeOrNull_0 : decode cX7_probeOrNull 0 = .ok (.iload_n 1, 1) := by decide +kernel
theorem dX7_probeOrNull_1 : decode cX7_probeOrNull 1 = .ok (.ifCond .lt 21, 3) := by decide +kernel
theorem dX7_probeOrNull_4 : decode cX7_probeOrNull 4 = .ok (.iload_n 1, 1) := by decide +kernel
theorem dX7_probeOrNull_5 : decode cX7_probeOrNull 5 = .ok (.aload_n 0, 1) := by decide +kernel
theorem dX7_probeOrNull_6 : decode cX7_probeOrNull 6 = .ok (.getfield 30, 3) := by decide +kernel
theorem dX7_probeOrNull_9 : decode cX7_probeOrNull 9 = .ok (.arraylength, 1) := by decide +kernel
theorem dX7_probeOrNull_10 : decode cX7_probeOrNull 10 = .ok (.if_icmp .ge 12, 3) := by decide +kernel
theorem dX7_probeOrNull_13 : decode cX7_probeOrNull 13 = .ok (.aload_n 0, 1) := by decide +kernel
theorem dX7_probeOrNull_14 : decode cX7_probeOrNull 14 = .ok (.getfield 30, 3) := by decide +kernel
theorem dX7_probeOrNull_17 : decode cX7_probeOrNull 17 = .ok (.iload_n 1, 1) := by decide +kernel
theorem dX7_probeOrNull_18 : decode cX7_probeOrNull 18 = .ok (.aaload, 1) := by decide +kernel
theorem dX7_probeOrNull_19 : decode cX7_probeOrNull 19 = .ok (.goto 4, 3) := by decide +kernel
theorem dX7_probeOrNull_22 : decode cX7_probeOrNull 22 = .ok (.aconst_null, 1) := by decide +kernel
theorem dX7_probeOrNull_23 : decode cX7_probeOrNull 23 = .ok (.areturn, 1) := by decide +kernel
theorem dX7_probeNotGone_0 : decode cX7_probeNotGone 0 = .ok (.aload_n 0, 1) := by decide +kernel
theorem dX7_probeNotGone_1 : decode cX7_probeNotGone 1 = .ok (.iload_n 1, 1) := by decide +kernel
theorem dX7_probeNotGone_2 : decode cX7_probeNotGone 2 = .ok (.invokevirtual 37, 3) := by decide +kernel
theorem dX7_probeNotGone_5 : decode cX7_probeNotGone 5 = .ok (.astore_n 2, 1) := by decide +kernel
theorem dX7_probeNotGone_6 : decode cX7_probeNotGone 6 = .ok (.aload_n 2, 1) := by decide +kernel
theorem dX7_probeNotGone_7 : decode cX7_probeNotGone 7 = .ok (.ifnull 11, 3) := by decide +kernel
theorem dX7_probeNotGone_10 : decode cX7_probeNotGone 10 = .ok (.aload_n 2, 1) := by decide +kernel
theorem dX7_probeNotGone_11 : decode cX7_probeNotGone 11 = .ok (.getfield 41, 3) := by decide +kernel
theorem dX7_probeNotGone_14 : decode cX7_probeNotGone 14 = .ok (.iconst 3, 1) := by decide +kernel
theorem dX7_probeNotGone_15 : decode cX7_probeNotGone 15 = .ok (.if_icmp .ne 7, 3) := by decide +kernel
theorem dX7_probeNotGone_18 : decode cX7_probeNotGone 18 = .ok (.aconst_null, 1) := by decide +kernel
theorem dX7_probeNotGone_19 : decode cX7_probeNotGone 19 = .ok (.goto 4, 3) := by decide +kernel
theorem dX7_probeNotGone_22 : decode cX7_probeNotGone 22 = .ok (.aload_n 2, 1) := by decide +kernel
theorem dX7_probeNotGone_23 : decode cX7_probeNotGone 23 = .ok (.areturn, 1) := by decide +kernel
end
section
theorem dX7_probeOn_0 : decode cX7_probeOn 0 = .ok (.iconst 0, 1) := by decide +kernel
theorem dX7_probeOn_1 : decode cX7_probeOn 1 = .ok (.istore_n 2, 1) := by decide +kernel
theorem dX7_probeOn_2 : decode cX7_probeOn 2 = .ok (.iload_n 2, 1) := by decide +kernel
theorem dX7_probeOn_3 : decode cX7_probeOn 3 = .ok (.bipush 6, 2) := by decide +kernel
theorem dX7_probeOn_5 : decode cX7_probeOn 5 = .ok (.if_icmp .ge 29, 3) := by decide +kernel
theorem dX7_probeOn_8 : decode cX7_probeOn 8 = .ok (.aload_n 0, 1) := by decide +kernel
theorem dX7_probeOn_9 : decode cX7_probeOn 9 = .ok (.iload_n 2, 1) := by decide +kernel
theorem dX7_probeOn_10 : decode cX7_probeOn 10 = .ok (.invokevirtual 45, 3) := by decide +kernel
theorem dX7_probeOn_13 : decode cX7_probeOn 13 = .ok (.astore_n 3, 1) := by decide +kernel
theorem dX7_probeOn_14 : decode cX7_probeOn 14 = .ok (.aload_n 3, 1) := by decide +kernel
theorem dX7_probeOn_15 : decode cX7_probeOn 15 = .ok (.ifnull 13, 3) := by decide +kernel
theorem dX7_probeOn_18 : decode cX7_probeOn 18 = .ok (.aload_n 3, 1) := by decide +kernel
theorem dX7_probeOn_19 : decode cX7_probeOn 19 = .ok (.getfield 48, 3) := by decide +kernel
theorem dX7_probeOn_22 : decode cX7_probeOn 22 = .ok (.iload_n 1, 1) := by decide +kernel
theorem dX7_probeOn_23 : decode cX7_probeOn 23 = .ok (.if_icmp .ne 5, 3) := by decide +kernel
theorem dX7_probeOn_26 : decode cX7_probeOn 26 = .ok (.aload_n 3, 1) := by decide +kernel
theorem dX7_probeOn_27 : decode cX7_probeOn 27 = .ok (.areturn, 1) := by decide +kernel
theorem dX7_probeOn_28 : decode cX7_probeOn 28 = .ok (.iinc 2 1, 3) := by decide +kernel
theorem dX7_probeOn_31 : decode cX7_probeOn 31 = .ok (.goto (-29), 3) := by decide +kernel
theorem dX7_probeOn_34 : decode cX7_probeOn 34 = .ok (.aconst_null, 1) := by decide +kernel
theorem dX7_probeOn_35 : decode cX7_probeOn 35 = .ok (.areturn, 1) := by decide +kernel
theorem dX7_probeIsOnAt_0 : decode cX7_probeIsOnAt 0 = .ok (.aload_n 0, 1) := by decide +kernel
theorem dX7_probeIsOnAt_1 : decode cX7_probeIsOnAt 1 = .ok (.iload_n 1, 1) := by decide +kernel
theorem dX7_probeIsOnAt_2 : decode cX7_probeIsOnAt 2 = .ok (.invokevirtual 51, 3) := by decide +kernel
theorem dX7_probeIsOnAt_5 : decode cX7_probeIsOnAt 5 = .ok (.astore_n 2, 1) := by decide +kernel
theorem dX7_probeIsOnAt_6 : decode cX7_probeIsOnAt 6 = .ok (.aload_n 2, 1) := by decide +kernel
theorem dX7_probeIsOnAt_7 : decode cX7_probeIsOnAt 7 = .ok (.ifnull 14, 3) := by decide +kernel
theorem dX7_probeIsOnAt_10 : decode cX7_probeIsOnAt 10 = .ok (.aload_n 2, 1) := by decide +kernel
theorem dX7_probeIsOnAt_11 : decode cX7_probeIsOnAt 11 = .ok (.getfield 41, 3) := by decide +kernel
theorem dX7_probeIsOnAt_14 : decode cX7_probeIsOnAt 14 = .ok (.ifCond .ne 7, 3) := by decide +kernel
theorem dX7_probeIsOnAt_17 : decode cX7_probeIsOnAt 17 = .ok (.iconst 1, 1) := by decide +kernel
theorem dX7_probeIsOnAt_18 : decode cX7_probeIsOnAt 18 = .ok (.goto 4, 3) := by decide +kernel
theorem dX7_probeIsOnAt_21 : decode cX7_probeIsOnAt 21 = .ok (.iconst 0, 1) := by decide +kernel
theorem dX7_probeIsOnAt_22 : decode cX7_probeIsOnAt 22 = .ok (.ireturn, 1) := by decide +kernel
theorem dX7_lowestGone_0 : decode cX7_lowestGone 0 = .ok (.iconst 0, 1) := by decide +kernel
theorem dX7_lowestGone_1 : decode cX7_lowestGone 1 = .ok (.istore_n 1, 1) := by decide +kernel
theorem dX7_lowestGone_2 : decode cX7_lowestGone 2 = .ok (.iload_n 1, 1) := by decide +kernel
theorem dX7_lowestGone_3 : decode cX7_lowestGone 3 = .ok (.bipush 6, 2) := by decide +kernel
theorem dX7_lowestGone_5 : decode cX7_lowestGone 5 = .ok (.if_icmp .ge 23, 3) := by decide +kernel
theorem dX7_lowestGone_8 : decode cX7_lowestGone 8 = .ok (.aload_n 0, 1) := by decide +kernel
theorem dX7_lowestGone_9 : decode cX7_lowestGone 9 = .ok (.iload_n 1, 1) := by decide +kernel
theorem dX7_lowestGone_10 : decode cX7_lowestGone 10 = .ok (.invokevirtual 45, 3) := by decide +kernel
theorem dX7_lowestGone_13 : decode cX7_lowestGone 13 = .ok (.ifnonnull 9, 3) := by decide +kernel
theorem dX7_lowestGone_16 : decode cX7_lowestGone 16 = .ok (.aload_n 0, 1) := by decide +kernel
theorem dX7_lowestGone_17 : decode cX7_lowestGone 17 = .ok (.iload_n 1, 1) := by decide +kernel
theorem dX7_lowestGone_18 : decode cX7_lowestGone 18 = .ok (.invokevirtual 37, 3) := by decide +kernel
theorem dX7_lowestGone_21 : decode cX7_lowestGone 21 = .ok (.areturn, 1) := by decide +kernel
theorem dX7_lowestGone_22 : decode cX7_lowestGone 22 = .ok (.iinc 1 1, 3) := by decide +kernel
theorem dX7_lowestGone_25 : decode cX7_lowestGone 25 = .ok (.goto (-23), 3) := by decide +kernel
theorem dX7_lowestGone_28 : decode cX7_lowestGone 28 = .ok (.aconst_null, 1) := by decide +kernel
theorem dX7_lowestGone_29 : decode cX7_lowestGone 29 = .ok (.areturn, 1) := by decide +kernel
theorem dX7_howManyAre_0 : decode cX7_howManyAre 0 = .ok (.iconst 0, 1) := by decide +kernel
theorem dX7_howManyAre_1 : decode cX7_howManyAre 1 = .ok (.istore_n 2, 1) := by decide +kernel
theorem dX7_howManyAre_2 : decode cX7_howManyAre 2 = .ok (.iconst 0, 1) := by decide +kernel
theorem dX7_howManyAre_3 : decode cX7_howManyAre 3 = .ok (.istore_n 3, 1) := by decide +kernel
theorem dX7_howManyAre_4 : decode cX7_howManyAre 4 = .ok (.iload_n 3, 1) := by decide +kernel
theorem dX7_howManyAre_5 : decode cX7_howManyAre 5 = .ok (.bipush 6, 2) := by decide +kernel
theorem dX7_howManyAre_7 : decode cX7_howManyAre 7 = .ok (.if_icmp .ge 33, 3) := by decide +kernel
theorem dX7_howManyAre_10 : decode cX7_howManyAre 10 = .ok (.aload_n 0, 1) := by decide +kernel
theorem dX7_howManyAre_11 : decode cX7_howManyAre 11 = .ok (.iload_n 3, 1) := by decide +kernel
theorem dX7_howManyAre_12 : decode cX7_howManyAre 12 = .ok (.invokevirtual 37, 3) := by decide +kernel
theorem dX7_howManyAre_15 : decode cX7_howManyAre 15 = .ok (.astore 4, 2) := by decide +kernel
theorem dX7_howManyAre_17 : decode cX7_howManyAre 17 = .ok (.aload 4, 2) := by decide +kernel
theorem dX7_howManyAre_19 : decode cX7_howManyAre 19 = .ok (.ifnull 15, 3) := by decide +kernel
theorem dX7_howManyAre_22 : decode cX7_howManyAre 22 = .ok (.aload 4, 2) := by decide +kernel
theorem dX7_howManyAre_24 : decode cX7_howManyAre 24 = .ok (.getfield 41, 3) := by decide +kernel
theorem dX7_howManyAre_27 : decode cX7_howManyAre 27 = .ok (.iload_n 1, 1) := by decide +kernel
theorem dX7_howManyAre_28 : decode cX7_howManyAre 28 = .ok (.if_icmp .ne 6, 3) := by decide +kernel
theorem dX7_howManyAre_31 : decode cX7_howManyAre 31 = .ok (.iinc 2 1, 3) := by decide +kernel
theorem dX7_howManyAre_34 : decode cX7_howManyAre 34 = .ok (.iinc 3 1, 3) := by decide +kernel
theorem dX7_howManyAre_37 : decode cX7_howManyAre 37 = .ok (.goto (-33), 3) := by decide +kernel
theorem dX7_howManyAre_40 : decode cX7_howManyAre 40 = .ok (.iload_n 2, 1) := by decide +kernel
theorem dX7_howManyAre_41 : decode cX7_howManyAre 41 = .ok (.ireturn, 1) := by decide +kernel
theorem dX7_howManyHeld_0 : decode cX7_howManyHeld 0 = .ok (.iconst 0, 1) := by decide +kernel
theorem dX7_howManyHeld_1 : decode cX7_howManyHeld 1 = .ok (.istore_n 1, 1) := by decide +kernel
theorem dX7_howManyHeld_2 : decode cX7_howManyHeld 2 = .ok (.iconst 0, 1) := by decide +kernel
theorem dX7_howManyHeld_3 : decode cX7_howManyHeld 3 = .ok (.istore_n 2, 1) := by decide +kernel
theorem dX7_howManyHeld_4 : decode cX7_howManyHeld 4 = .ok (.iload_n 2, 1) := by decide +kernel
theorem dX7_howManyHeld_5 : decode cX7_howManyHeld 5 = .ok (.bipush 6, 2) := by decide +kernel
theorem dX7_howManyHeld_7 : decode cX7_howManyHeld 7 = .ok (.if_icmp .ge 26, 3) := by decide +kernel
theorem dX7_howManyHeld_10 : decode cX7_howManyHeld 10 = .ok (.aload_n 0, 1) := by decide +kernel
theorem dX7_howManyHeld_11 : decode cX7_howManyHeld 11 = .ok (.iload_n 2, 1) := by decide +kernel
theorem dX7_howManyHeld_12 : decode cX7_howManyHeld 12 = .ok (.invokevirtual 45, 3) := by decide +kernel
theorem dX7_howManyHeld_15 : decode cX7_howManyHeld 15 = .ok (.astore_n 3, 1) := by decide +kernel
theorem dX7_howManyHeld_16 : decode cX7_howManyHeld 16 = .ok (.aload_n 3, 1) := by decide +kernel
theorem dX7_howManyHeld_17 : decode cX7_howManyHeld 17 = .ok (.ifnull 10, 3) := by decide +kernel
theorem dX7_howManyHeld_20 : decode cX7_howManyHeld 20 = .ok (.iload_n 1, 1) := by decide +kernel
theorem dX7_howManyHeld_21 : decode cX7_howManyHeld 21 = .ok (.aload_n 3, 1) := by decide +kernel
theorem dX7_howManyHeld_22 : decode cX7_howManyHeld 22 = .ok (.getfield 54, 3) := by decide +kernel
theorem dX7_howManyHeld_25 : decode cX7_howManyHeld 25 = .ok (.iadd, 1) := by decide +kernel
theorem dX7_howManyHeld_26 : decode cX7_howManyHeld 26 = .ok (.istore_n 1, 1) := by decide +kernel
theorem dX7_howManyHeld_27 : decode cX7_howManyHeld 27 = .ok (.iinc 2 1, 3) := by decide +kernel
theorem dX7_howManyHeld_30 : decode cX7_howManyHeld 30 = .ok (.goto (-26), 3) := by decide +kernel
theorem dX7_howManyHeld_33 : decode cX7_howManyHeld 33 = .ok (.iload_n 1, 1) := by decide +kernel
theorem dX7_howManyHeld_34 : decode cX7_howManyHeld 34 = .ok (.ireturn, 1) := by decide +kernel
theorem dX7_letGoReturns_0 : decode cX7_letGoReturns 0 = .ok (.iconst 0, 1) := by decide +kernel
theorem dX7_letGoReturns_1 : decode cX7_letGoReturns 1 = .ok (.istore_n 2, 1) := by decide +kernel
theorem dX7_letGoReturns_2 : decode cX7_letGoReturns 2 = .ok (.iconst 0, 1) := by decide +kernel
theorem dX7_letGoReturns_3 : decode cX7_letGoReturns 3 = .ok (.istore_n 3, 1) := by decide +kernel
theorem dX7_letGoReturns_4 : decode cX7_letGoReturns 4 = .ok (.iload_n 3, 1) := by decide +kernel
theorem dX7_letGoReturns_5 : decode cX7_letGoReturns 5 = .ok (.aload_n 1, 1) := by decide +kernel
theorem dX7_letGoReturns_6 : decode cX7_letGoReturns 6 = .ok (.getfield 57, 3) := by decide +kernel
theorem dX7_letGoReturns_9 : decode cX7_letGoReturns 9 = .ok (.if_icmp .ge 44, 3) := by decide +kernel
theorem dX7_letGoReturns_12 : decode cX7_letGoReturns 12 = .ok (.aload_n 0, 1) := by decide +kernel
theorem dX7_letGoReturns_13 : decode cX7_letGoReturns 13 = .ok (.aload_n 1, 1) := by decide +kernel
theorem dX7_letGoReturns_14 : decode cX7_letGoReturns 14 = .ok (.iload_n 3, 1) := by decide +kernel
theorem dX7_letGoReturns_15 : decode cX7_letGoReturns 15 = .ok (.invokevirtual 60, 3) := by decide +kernel
theorem dX7_letGoReturns_18 : decode cX7_letGoReturns 18 = .ok (.invokevirtual 37, 3) := by decide +kernel
theorem dX7_letGoReturns_21 : decode cX7_letGoReturns 21 = .ok (.astore 4, 2) := by decide +kernel
theorem dX7_letGoReturns_23 : decode cX7_letGoReturns 23 = .ok (.aload 4, 2) := by decide +kernel
theorem dX7_letGoReturns_25 : decode cX7_letGoReturns 25 = .ok (.ifnull 22, 3) := by decide +kernel
theorem dX7_letGoReturns_28 : decode cX7_letGoReturns 28 = .ok (.iinc 2 1, 3) := by decide +kernel
theorem dX7_letGoReturns_31 : decode cX7_letGoReturns 31 = .ok (.aload 4, 2) := by decide +kernel
theorem dX7_letGoReturns_33 : decode cX7_letGoReturns 33 = .ok (.dup, 1) := by decide +kernel
theorem dX7_letGoReturns_34 : decode cX7_letGoReturns 34 = .ok (.getfield 54, 3) := by decide +kernel
theorem dX7_letGoReturns_37 : decode cX7_letGoReturns 37 = .ok (.iconst 1, 1) := by decide +kernel
theorem dX7_letGoReturns_38 : decode cX7_letGoReturns 38 = .ok (.isub, 1) := by decide +kernel
theorem dX7_letGoReturns_39 : decode cX7_letGoReturns 39 = .ok (.putfield 54, 3) := by decide +kernel
theorem dX7_letGoReturns_42 : decode cX7_letGoReturns 42 = .ok (.aload 4, 2) := by decide +kernel
theorem dX7_letGoReturns_44 : decode cX7_letGoReturns 44 = .ok (.invokevirtual 64, 3) := by decide +kernel
theorem dX7_letGoReturns_47 : decode cX7_letGoReturns 47 = .ok (.iinc 3 1, 3) := by decide +kernel
theorem dX7_letGoReturns_50 : decode cX7_letGoReturns 50 = .ok (.goto (-46), 3) := by decide +kernel
theorem dX7_letGoReturns_53 : decode cX7_letGoReturns 53 = .ok (.iload_n 2, 1) := by decide +kernel
theorem dX7_letGoReturns_54 : decode cX7_letGoReturns 54 = .ok (.ireturn, 1) := by decide +kernel
theorem dX7_clear_0 : decode cX7_clear 0 = .ok (.aload_n 0, 1) := by decide +kernel
theorem dX7_clear_1 : decode cX7_clear 1 = .ok (.getfield 12, 3) := by decide +kernel
theorem dX7_clear_4 : decode cX7_clear 4 = .ok (.invokevirtual 67, 3) := by decide +kernel
theorem dX7_clear_7 : decode cX7_clear 7 = .ok (.aload_n 0, 1) := by decide +kernel
theorem dX7_clear_8 : decode cX7_clear 8 = .ok (.getfield 21, 3) := by decide +kernel
theorem dX7_clear_11 : decode cX7_clear 11 = .ok (.invokevirtual 70, 3) := by decide +kernel
theorem dX7_clear_14 : decode cX7_clear 14 = .ok (.aload_n 0, 1) := by decide +kernel
theorem dX7_clear_15 : decode cX7_clear 15 = .ok (.getfield 25, 3) := by decide +kernel
theorem dX7_clear_18 : decode cX7_clear 18 = .ok (.invokevirtual 70, 3) := by decide +kernel
theorem dX7_clear_21 : decode cX7_clear 21 = .ok (.iconst 0, 1) := by decide +kernel
theorem dX7_clear_22 : decode cX7_clear 22 = .ok (.istore_n 1, 1) := by decide +kernel
theorem dX7_clear_23 : decode cX7_clear 23 = .ok (.iload_n 1, 1) := by decide +kernel
theorem dX7_clear_24 : decode cX7_clear 24 = .ok (.bipush 6, 2) := by decide +kernel
theorem dX7_clear_26 : decode cX7_clear 26 = .ok (.if_icmp .ge 24, 3) := by decide +kernel
theorem dX7_clear_29 : decode cX7_clear 29 = .ok (.aload_n 0, 1) := by decide +kernel
theorem dX7_clear_30 : decode cX7_clear 30 = .ok (.iload_n 1, 1) := by decide +kernel
theorem dX7_clear_31 : decode cX7_clear 31 = .ok (.invokevirtual 37, 3) := by decide +kernel
theorem dX7_clear_34 : decode cX7_clear 34 = .ok (.astore_n 2, 1) := by decide +kernel
theorem dX7_clear_35 : decode cX7_clear 35 = .ok (.aload_n 2, 1) := by decide +kernel
theorem dX7_clear_36 : decode cX7_clear 36 = .ok (.ifnull 8, 3) := by decide +kernel
theorem dX7_clear_39 : decode cX7_clear 39 = .ok (.aload_n 2, 1) := by decide +kernel
theorem dX7_clear_40 : decode cX7_clear 40 = .ok (.iconst 3, 1) := by decide +kernel
theorem dX7_clear_41 : decode cX7_clear 41 = .ok (.putfield 41, 3) := by decide +kernel
theorem dX7_clear_44 : decode cX7_clear 44 = .ok (.iinc 1 1, 3) := by decide +kernel
theorem dX7_clear_47 : decode cX7_clear 47 = .ok (.goto (-24), 3) := by decide +kernel
theorem dX7_clear_50 : decode cX7_clear 50 = .ok (.return_, 1) := by decide +kernel
theorem dX7_copyFrom_0 : decode cX7_copyFrom 0 = .ok (.aload_n 0, 1) := by decide +kernel
theorem dX7_copyFrom_1 : decode cX7_copyFrom 1 = .ok (.getfield 12, 3) := by decide +kernel
theorem dX7_copyFrom_4 : decode cX7_copyFrom 4 = .ok (.aload_n 1, 1) := by decide +kernel
theorem dX7_copyFrom_5 : decode cX7_copyFrom 5 = .ok (.getfield 12, 3) := by decide +kernel
theorem dX7_copyFrom_8 : decode cX7_copyFrom 8 = .ok (.invokevirtual 71, 3) := by decide +kernel
theorem dX7_copyFrom_11 : decode cX7_copyFrom 11 = .ok (.aload_n 0, 1) := by decide +kernel
theorem dX7_copyFrom_12 : decode cX7_copyFrom 12 = .ok (.getfield 21, 3) := by decide +kernel
theorem dX7_copyFrom_15 : decode cX7_copyFrom 15 = .ok (.aload_n 1, 1) := by decide +kernel
theorem dX7_copyFrom_16 : decode cX7_copyFrom 16 = .ok (.getfield 21, 3) := by decide +kernel
theorem dX7_copyFrom_19 : decode cX7_copyFrom 19 = .ok (.invokevirtual 75, 3) := by decide +kernel
theorem dX7_copyFrom_22 : decode cX7_copyFrom 22 = .ok (.aload_n 0, 1) := by decide +kernel
theorem dX7_copyFrom_23 : decode cX7_copyFrom 23 = .ok (.getfield 25, 3) := by decide +kernel
theorem dX7_copyFrom_26 : decode cX7_copyFrom 26 = .ok (.aload_n 1, 1) := by decide +kernel
theorem dX7_copyFrom_27 : decode cX7_copyFrom 27 = .ok (.getfield 25, 3) := by decide +kernel
theorem dX7_copyFrom_30 : decode cX7_copyFrom 30 = .ok (.invokevirtual 75, 3) := by decide +kernel
theorem dX7_copyFrom_33 : decode cX7_copyFrom 33 = .ok (.iconst 0, 1) := by decide +kernel
theorem dX7_copyFrom_34 : decode cX7_copyFrom 34 = .ok (.istore_n 2, 1) := by decide +kernel
theorem dX7_copyFrom_35 : decode cX7_copyFrom 35 = .ok (.iload_n 2, 1) := by decide +kernel
theorem dX7_copyFrom_36 : decode cX7_copyFrom 36 = .ok (.bipush 6, 2) := by decide +kernel
theorem dX7_copyFrom_38 : decode cX7_copyFrom 38 = .ok (.if_icmp .ge 37, 3) := by decide +kernel
theorem dX7_copyFrom_41 : decode cX7_copyFrom 41 = .ok (.aload_n 0, 1) := by decide +kernel
theorem dX7_copyFrom_42 : decode cX7_copyFrom 42 = .ok (.iload_n 2, 1) := by decide +kernel
theorem dX7_copyFrom_43 : decode cX7_copyFrom 43 = .ok (.invokevirtual 37, 3) := by decide +kernel
theorem dX7_copyFrom_46 : decode cX7_copyFrom 46 = .ok (.astore_n 3, 1) := by decide +kernel
theorem dX7_copyFrom_47 : decode cX7_copyFrom 47 = .ok (.aload_n 1, 1) := by decide +kernel
theorem dX7_copyFrom_48 : decode cX7_copyFrom 48 = .ok (.iload_n 2, 1) := by decide +kernel
theorem dX7_copyFrom_49 : decode cX7_copyFrom 49 = .ok (.invokevirtual 37, 3) := by decide +kernel
theorem dX7_copyFrom_52 : decode cX7_copyFrom 52 = .ok (.astore 4, 2) := by decide +kernel
theorem dX7_copyFrom_54 : decode cX7_copyFrom 54 = .ok (.aload_n 3, 1) := by decide +kernel
theorem dX7_copyFrom_55 : decode cX7_copyFrom 55 = .ok (.ifnull 14, 3) := by decide +kernel
theorem dX7_copyFrom_58 : decode cX7_copyFrom 58 = .ok (.aload 4, 2) := by decide +kernel
theorem dX7_copyFrom_60 : decode cX7_copyFrom 60 = .ok (.ifnull 9, 3) := by decide +kernel
theorem dX7_copyFrom_63 : decode cX7_copyFrom 63 = .ok (.aload_n 3, 1) := by decide +kernel
theorem dX7_copyFrom_64 : decode cX7_copyFrom 64 = .ok (.aload 4, 2) := by decide +kernel
theorem dX7_copyFrom_66 : decode cX7_copyFrom 66 = .ok (.invokevirtual 78, 3) := by decide +kernel
theorem dX7_copyFrom_69 : decode cX7_copyFrom 69 = .ok (.iinc 2 1, 3) := by decide +kernel
theorem dX7_copyFrom_72 : decode cX7_copyFrom 72 = .ok (.goto (-37), 3) := by decide +kernel
theorem dX7_copyFrom_75 : decode cX7_copyFrom 75 = .ok (.return_, 1) := by decide +kernel
theorem dX8_init_0 : decode cX8_init 0 = .ok (.aload_n 0, 1) := by decide +kernel
theorem dX8_init_1 : decode cX8_init 1 = .ok (.invokespecial 3, 3) := by decide +kernel
theorem dX8_init_4 : decode cX8_init 4 = .ok (.aload_n 0, 1) := by decide +kernel
theorem dX8_init_5 : decode cX8_init 5 = .ok (.iconst 0, 1) := by decide +kernel
theorem dX8_init_6 : decode cX8_init 6 = .ok (.iload_n 1, 1) := by decide +kernel
theorem dX8_init_7 : decode cX8_init 7 = .ok (.invokestatic 9, 3) := by decide +kernel
theorem dX8_init_10 : decode cX8_init 10 = .ok (.newarray .char, 2) := by decide +kernel
theorem dX8_init_12 : decode cX8_init 12 = .ok (.putfield 15, 3) := by decide +kernel
theorem dX8_init_15 : decode cX8_init 15 = .ok (.return_, 1) := by decide +kernel
theorem dX8_add_0 : decode cX8_add 0 = .ok (.aload_n 0, 1) := by decide +kernel
theorem dX8_add_1 : decode cX8_add 1 = .ok (.getfield 21, 3) := by decide +kernel
theorem dX8_add_4 : decode cX8_add 4 = .ok (.ifCond .lt 15, 3) := by decide +kernel
theorem dX8_add_7 : decode cX8_add 7 = .ok (.aload_n 0, 1) := by decide +kernel
theorem dX8_add_8 : decode cX8_add 8 = .ok (.getfield 21, 3) := by decide +kernel
theorem dX8_add_11 : decode cX8_add 11 = .ok (.aload_n 0, 1) := by decide +kernel
theorem dX8_add_12 : decode cX8_add 12 = .ok (.getfield 15, 3) := by decide +kernel
theorem dX8_add_15 : decode cX8_add 15 = .ok (.arraylength, 1) := by decide +kernel
theorem dX8_add_16 : decode cX8_add 16 = .ok (.if_icmp .lt 5, 3) := by decide +kernel
theorem dX8_add_19 : decode cX8_add 19 = .ok (.iconst 0, 1) := by decide +kernel
theorem dX8_add_20 : decode cX8_add 20 = .ok (.ireturn, 1) := by decide +kernel
theorem dX8_add_21 : decode cX8_add 21 = .ok (.aload_n 0, 1) := by decide +kernel
theorem dX8_add_22 : decode cX8_add 22 = .ok (.getfield 15, 3) := by decide +kernel
theorem dX8_add_25 : decode cX8_add 25 = .ok (.aload_n 0, 1) := by decide +kernel
theorem dX8_add_26 : decode cX8_add 26 = .ok (.getfield 21, 3) := by decide +kernel
theorem dX8_add_29 : decode cX8_add 29 = .ok (.iload_n 1, 1) := by decide +kernel
theorem dX8_add_30 : decode cX8_add 30 = .ok (.castore, 1) := by decide +kernel
theorem dX8_add_31 : decode cX8_add 31 = .ok (.aload_n 0, 1) := by decide +kernel
theorem dX8_add_32 : decode cX8_add 32 = .ok (.dup, 1) := by decide +kernel
theorem dX8_add_33 : decode cX8_add 33 = .ok (.getfield 21, 3) := by decide +kernel
theorem dX8_add_36 : decode cX8_add 36 = .ok (.iconst 1, 1) := by decide +kernel
theorem dX8_add_37 : decode cX8_add 37 = .ok (.iadd, 1) := by decide +kernel
theorem dX8_add_38 : decode cX8_add 38 = .ok (.putfield 21, 3) := by decide +kernel
theorem dX8_add_41 : decode cX8_add 41 = .ok (.iconst 1, 1) := by decide +kernel
theorem dX8_add_42 : decode cX8_add 42 = .ok (.ireturn, 1) := by decide +kernel
theorem dX8_clear_0 : decode cX8_clear 0 = .ok (.aload_n 0, 1) := by decide +kernel
theorem dX8_clear_1 : decode cX8_clear 1 = .ok (.iconst 0, 1) := by decide +kernel
theorem dX8_clear_2 : decode cX8_clear 2 = .ok (.putfield 21, 3) := by decide +kernel
theorem dX8_clear_5 : decode cX8_clear 5 = .ok (.return_, 1) := by decide +kernel
theorem dX8_at_0 : decode cX8_at 0 = .ok (.iload_n 1, 1) := by decide +kernel
theorem dX8_at_1 : decode cX8_at 1 = .ok (.ifCond .lt 29, 3) := by decide +kernel
theorem dX8_at_4 : decode cX8_at 4 = .ok (.iload_n 1, 1) := by decide +kernel
theorem dX8_at_5 : decode cX8_at 5 = .ok (.aload_n 0, 1) := by decide +kernel
theorem dX8_at_6 : decode cX8_at 6 = .ok (.getfield 21, 3) := by decide +kernel
theorem dX8_at_9 : decode cX8_at 9 = .ok (.if_icmp .ge 21, 3) := by decide +kernel
theorem dX8_at_12 : decode cX8_at 12 = .ok (.iload_n 1, 1) := by decide +kernel
theorem dX8_at_13 : decode cX8_at 13 = .ok (.aload_n 0, 1) := by decide +kernel
theorem dX8_at_14 : decode cX8_at 14 = .ok (.getfield 15, 3) := by decide +kernel
theorem dX8_at_17 : decode cX8_at 17 = .ok (.arraylength, 1) := by decide +kernel
theorem dX8_at_18 : decode cX8_at 18 = .ok (.if_icmp .ge 12, 3) := by decide +kernel
theorem dX8_at_21 : decode cX8_at 21 = .ok (.aload_n 0, 1) := by decide +kernel
theorem dX8_at_22 : decode cX8_at 22 = .ok (.getfield 15, 3) := by decide +kernel
theorem dX8_at_25 : decode cX8_at 25 = .ok (.iload_n 1, 1) := by decide +kernel
theorem dX8_at_26 : decode cX8_at 26 = .ok (.caload, 1) := by decide +kernel
theorem dX8_at_27 : decode cX8_at 27 = .ok (.goto 4, 3) := by decide +kernel
theorem dX8_at_30 : decode cX8_at 30 = .ok (.iconst 0, 1) := by decide +kernel
theorem dX8_at_31 : decode cX8_at 31 = .ok (.ireturn, 1) := by decide +kernel
theorem dX8_figureAt_0 : decode cX8_figureAt 0 = .ok (.aload_n 0, 1) := by decide +kernel
theorem dX8_figureAt_1 : decode cX8_figureAt 1 = .ok (.iload_n 1, 1) := by decide +kernel
theorem dX8_figureAt_2 : decode cX8_figureAt 2 = .ok (.invokevirtual 25, 3) := by decide +kernel
theorem dX8_figureAt_5 : decode cX8_figureAt 5 = .ok (.istore_n 2, 1) := by decide +kernel
theorem dX8_figureAt_6 : decode cX8_figureAt 6 = .ok (.iload_n 2, 1) := by decide +kernel
theorem dX8_figureAt_7 : decode cX8_figureAt 7 = .ok (.bipush 48, 2) := by decide +kernel
theorem dX8_figureAt_9 : decode cX8_figureAt 9 = .ok (.if_icmp .lt 16, 3) := by decide +kernel
theorem dX8_figureAt_12 : decode cX8_figureAt 12 = .ok (.iload_n 2, 1) := by decide +kernel
theorem dX8_figureAt_13 : decode cX8_figureAt 13 = .ok (.bipush 57, 2) := by decide +kernel
theorem dX8_figureAt_15 : decode cX8_figureAt 15 = .ok (.if_icmp .gt 10, 3) := by decide +kernel
theorem dX8_figureAt_18 : decode cX8_figureAt 18 = .ok (.iload_n 2, 1) := by decide +kernel
theorem dX8_figureAt_19 : decode cX8_figureAt 19 = .ok (.bipush 48, 2) := by decide +kernel
theorem dX8_figureAt_21 : decode cX8_figureAt 21 = .ok (.isub, 1) := by decide +kernel
theorem dX8_figureAt_22 : decode cX8_figureAt 22 = .ok (.goto 5, 3) := by decide +kernel
theorem dX8_figureAt_25 : decode cX8_figureAt 25 = .ok (.bipush (-4), 2) := by decide +kernel
theorem dX8_figureAt_27 : decode cX8_figureAt 27 = .ok (.ireturn, 1) := by decide +kernel
theorem dX8_copy_0 : decode cX8_copy 0 = .ok (.new 16, 3) := by decide +kernel
theorem dX8_copy_3 : decode cX8_copy 3 = .ok (.dup, 1) := by decide +kernel
theorem dX8_copy_4 : decode cX8_copy 4 = .ok (.aload_n 0, 1) := by decide +kernel
theorem dX8_copy_5 : decode cX8_copy 5 = .ok (.getfield 21, 3) := by decide +kernel
theorem dX8_copy_8 : decode cX8_copy 8 = .ok (.invokespecial 29, 3) := by decide +kernel
theorem dX8_copy_11 : decode cX8_copy 11 = .ok (.astore_n 1, 1) := by decide +kernel
theorem dX8_copy_12 : decode cX8_copy 12 = .ok (.iconst 0, 1) := by decide +kernel
theorem dX8_copy_13 : decode cX8_copy 13 = .ok (.istore_n 2, 1) := by decide +kernel
theorem dX8_copy_14 : decode cX8_copy 14 = .ok (.iload_n 2, 1) := by decide +kernel
theorem dX8_copy_15 : decode cX8_copy 15 = .ok (.aload_n 0, 1) := by decide +kernel
theorem dX8_copy_16 : decode cX8_copy 16 = .ok (.getfield 21, 3) := by decide +kernel
theorem dX8_copy_19 : decode cX8_copy 19 = .ok (.if_icmp .ge 19, 3) := by decide +kernel
theorem dX8_copy_22 : decode cX8_copy 22 = .ok (.aload_n 1, 1) := by decide +kernel
theorem dX8_copy_23 : decode cX8_copy 23 = .ok (.aload_n 0, 1) := by decide +kernel
theorem dX8_copy_24 : decode cX8_copy 24 = .ok (.iload_n 2, 1) := by decide +kernel
theorem dX8_copy_25 : decode cX8_copy 25 = .ok (.invokevirtual 25, 3) := by decide +kernel
theorem dX8_copy_28 : decode cX8_copy 28 = .ok (.invokevirtual 32, 3) := by decide +kernel
theorem dX8_copy_31 : decode cX8_copy 31 = .ok (.pop, 1) := by decide +kernel
theorem dX8_copy_32 : decode cX8_copy 32 = .ok (.iinc 2 1, 3) := by decide +kernel
theorem dX8_copy_35 : decode cX8_copy 35 = .ok (.goto (-21), 3) := by decide +kernel
theorem dX8_copy_38 : decode cX8_copy 38 = .ok (.aload_n 1, 1) := by decide +kernel
theorem dX8_copy_39 : decode cX8_copy 39 = .ok (.areturn, 1) := by decide +kernel
theorem dX9_init_0 : decode cX9_init 0 = .ok (.aload_n 0, 1) := by decide +kernel
theorem dX9_init_1 : decode cX9_init 1 = .ok (.invokespecial 1, 3) := by decide +kernel
theorem dX9_init_4 : decode cX9_init 4 = .ok (.aload_n 0, 1) := by decide +kernel
theorem dX9_init_5 : decode cX9_init 5 = .ok (.new 7, 3) := by decide +kernel
theorem dX9_init_8 : decode cX9_init 8 = .ok (.dup, 1) := by decide +kernel
theorem dX9_init_9 : decode cX9_init 9 = .ok (.sipush 200, 3) := by decide +kernel
theorem dX9_init_12 : decode cX9_init 12 = .ok (.invokespecial 11, 3) := by decide +kernel
theorem dX9_init_15 : decode cX9_init 15 = .ok (.putfield 14, 3) := by decide +kernel
theorem dX9_init_18 : decode cX9_init 18 = .ok (.aload_n 0, 1) := by decide +kernel
theorem dX9_init_19 : decode cX9_init 19 = .ok (.new 18, 3) := by decide +kernel
theorem dX9_init_22 : decode cX9_init 22 = .ok (.dup, 1) := by decide +kernel
theorem dX9_init_23 : decode cX9_init 23 = .ok (.invokespecial 20, 3) := by decide +kernel
theorem dX9_init_26 : decode cX9_init 26 = .ok (.putfield 21, 3) := by decide +kernel
theorem dX9_init_29 : decode cX9_init 29 = .ok (.aload_n 0, 1) := by decide +kernel
theorem dX9_init_30 : decode cX9_init 30 = .ok (.new 18, 3) := by decide +kernel
theorem dX9_init_33 : decode cX9_init 33 = .ok (.dup, 1) := by decide +kernel
theorem dX9_init_34 : decode cX9_init 34 = .ok (.invokespecial 20, 3) := by decide +kernel
theorem dX9_init_37 : decode cX9_init 37 = .ok (.putfield 25, 3) := by decide +kernel
theorem dX9_init_40 : decode cX9_init 40 = .ok (.aload_n 0, 1) := by decide +kernel
theorem dX9_init_41 : decode cX9_init 41 = .ok (.new 28, 3) := by decide +kernel
theorem dX9_init_44 : decode cX9_init 44 = .ok (.dup, 1) := by decide +kernel
theorem dX9_init_45 : decode cX9_init 45 = .ok (.invokespecial 30, 3) := by decide +kernel
theorem dX9_init_48 : decode cX9_init 48 = .ok (.putfield 31, 3) := by decide +kernel
theorem dX9_init_51 : decode cX9_init 51 = .ok (.aload_n 0, 1) := by decide +kernel
theorem dX9_init_52 : decode cX9_init 52 = .ok (.new 35, 3) := by decide +kernel
theorem dX9_init_55 : decode cX9_init 55 = .ok (.dup, 1) := by decide +kernel
theorem dX9_init_56 : decode cX9_init 56 = .ok (.invokespecial 37, 3) := by decide +kernel
theorem dX9_init_59 : decode cX9_init 59 = .ok (.putfield 38, 3) := by decide +kernel
theorem dX9_init_62 : decode cX9_init 62 = .ok (.aload_n 0, 1) := by decide +kernel
theorem dX9_init_63 : decode cX9_init 63 = .ok (.new 42, 3) := by decide +kernel
theorem dX9_init_66 : decode cX9_init 66 = .ok (.dup, 1) := by decide +kernel
theorem dX9_init_67 : decode cX9_init 67 = .ok (.invokespecial 44, 3) := by decide +kernel
theorem dX9_init_70 : decode cX9_init 70 = .ok (.putfield 45, 3) := by decide +kernel
theorem dX9_init_73 : decode cX9_init 73 = .ok (.aload_n 0, 1) := by decide +kernel
theorem dX9_init_74 : decode cX9_init 74 = .ok (.new 49, 3) := by decide +kernel
theorem dX9_init_77 : decode cX9_init 77 = .ok (.dup, 1) := by decide +kernel
theorem dX9_init_78 : decode cX9_init 78 = .ok (.invokespecial 51, 3) := by decide +kernel
theorem dX9_init_81 : decode cX9_init 81 = .ok (.putfield 52, 3) := by decide +kernel
theorem dX9_init_84 : decode cX9_init 84 = .ok (.aload_n 0, 1) := by decide +kernel
theorem dX9_init_85 : decode cX9_init 85 = .ok (.new 56, 3) := by decide +kernel
theorem dX9_init_88 : decode cX9_init 88 = .ok (.dup, 1) := by decide +kernel
theorem dX9_init_89 : decode cX9_init 89 = .ok (.invokespecial 58, 3) := by decide +kernel
theorem dX9_init_92 : decode cX9_init 92 = .ok (.putfield 59, 3) := by decide +kernel
theorem dX9_init_95 : decode cX9_init 95 = .ok (.iconst 0, 1) := by decide +kernel
theorem dX9_init_96 : decode cX9_init 96 = .ok (.istore_n 1, 1) := by decide +kernel
theorem dX9_init_97 : decode cX9_init 97 = .ok (.iload_n 1, 1) := by decide +kernel
theorem dX9_init_98 : decode cX9_init 98 = .ok (.ldc 63, 2) := by decide +kernel
theorem dX9_init_100 : decode cX9_init 100 = .ok (.invokevirtual 65, 3) := by decide +kernel
theorem dX9_init_103 : decode cX9_init 103 = .ok (.if_icmp .ge 23, 3) := by decide +kernel
theorem dX9_init_106 : decode cX9_init 106 = .ok (.aload_n 0, 1) := by decide +kernel
theorem dX9_init_107 : decode cX9_init 107 = .ok (.getfield 14, 3) := by decide +kernel
theorem dX9_init_110 : decode cX9_init 110 = .ok (.ldc 63, 2) := by decide +kernel
theorem dX9_init_112 : decode cX9_init 112 = .ok (.iload_n 1, 1) := by decide +kernel
theorem dX9_init_113 : decode cX9_init 113 = .ok (.invokevirtual 71, 3) := by decide +kernel
theorem dX9_init_116 : decode cX9_init 116 = .ok (.invokevirtual 75, 3) := by decide +kernel
theorem dX9_init_119 : decode cX9_init 119 = .ok (.pop, 1) := by decide +kernel
theorem dX9_init_120 : decode cX9_init 120 = .ok (.iinc 1 1, 3) := by decide +kernel
theorem dX9_init_123 : decode cX9_init 123 = .ok (.goto (-26), 3) := by decide +kernel
theorem dX9_init_126 : decode cX9_init 126 = .ok (.aload_n 0, 1) := by decide +kernel
theorem dX9_init_127 : decode cX9_init 127 = .ok (.getfield 21, 3) := by decide +kernel
theorem dX9_init_130 : decode cX9_init 130 = .ok (.aload_n 0, 1) := by decide +kernel
theorem dX9_init_131 : decode cX9_init 131 = .ok (.getfield 14, 3) := by decide +kernel
theorem dX9_init_134 : decode cX9_init 134 = .ok (.invokevirtual 79, 3) := by decide +kernel
theorem dX9_init_137 : decode cX9_init 137 = .ok (.pop, 1) := by decide +kernel
theorem dX9_init_138 : decode cX9_init 138 = .ok (.aload_n 0, 1) := by decide +kernel
theorem dX9_init_139 : decode cX9_init 139 = .ok (.getfield 14, 3) := by decide +kernel
theorem dX9_init_142 : decode cX9_init 142 = .ok (.invokevirtual 83, 3) := by decide +kernel
theorem dX9_init_145 : decode cX9_init 145 = .ok (.return_, 1) := by decide +kernel
theorem dX9_write_0 : decode cX9_write 0 = .ok (.iload_n 1, 1) := by decide +kernel
theorem dX9_write_1 : decode cX9_write 1 = .ok (.bipush 32, 2) := by decide +kernel
theorem dX9_write_3 : decode cX9_write 3 = .ok (.bipush 126, 2) := by decide +kernel
theorem dX9_write_5 : decode cX9_write 5 = .ok (.invokestatic 86, 3) := by decide +kernel
theorem dX9_write_8 : decode cX9_write 8 = .ok (.ifCond .ne 5, 3) := by decide +kernel
theorem dX9_write_11 : decode cX9_write 11 = .ok (.iconst (-1), 1) := by decide +kernel
theorem dX9_write_12 : decode cX9_write 12 = .ok (.ireturn, 1) := by decide +kernel
theorem dX9_write_13 : decode cX9_write 13 = .ok (.aload_n 0, 1) := by decide +kernel
theorem dX9_write_14 : decode cX9_write 14 = .ok (.getfield 14, 3) := by decide +kernel
theorem dX9_write_17 : decode cX9_write 17 = .ok (.iload_n 1, 1) := by decide +kernel
theorem dX9_write_18 : decode cX9_write 18 = .ok (.i2c, 1) := by decide +kernel
theorem dX9_write_19 : decode cX9_write 19 = .ok (.invokevirtual 75, 3) := by decide +kernel
theorem dX9_write_22 : decode cX9_write 22 = .ok (.ifCond .eq 13, 3) := by decide +kernel
theorem dX9_write_25 : decode cX9_write 25 = .ok (.aload_n 0, 1) := by decide +kernel
theorem dX9_write_26 : decode cX9_write 26 = .ok (.getfield 14, 3) := by decide +kernel
theorem dX9_write_29 : decode cX9_write 29 = .ok (.getfield 90, 3) := by decide +kernel
theorem dX9_write_32 : decode cX9_write 32 = .ok (.goto 5, 3) := by decide +kernel
theorem dX9_write_35 : decode cX9_write 35 = .ok (.bipush (-3), 2) := by decide +kernel
theorem dX9_write_37 : decode cX9_write 37 = .ok (.ireturn, 1) := by decide +kernel
theorem dX9_wipe_0 : decode cX9_wipe 0 = .ok (.aload_n 0, 1) := by decide +kernel
theorem dX9_wipe_1 : decode cX9_wipe 1 = .ok (.getfield 14, 3) := by decide +kernel
theorem dX9_wipe_4 : decode cX9_wipe 4 = .ok (.getfield 90, 3) := by decide +kernel
theorem dX9_wipe_7 : decode cX9_wipe 7 = .ok (.istore_n 1, 1) := by decide +kernel
theorem dX9_wipe_8 : decode cX9_wipe 8 = .ok (.aload_n 0, 1) := by decide +kernel
theorem dX9_wipe_9 : decode cX9_wipe 9 = .ok (.getfield 14, 3) := by decide +kernel
theorem dX9_wipe_12 : decode cX9_wipe 12 = .ok (.invokevirtual 83, 3) := by decide +kernel
theorem dX9_wipe_15 : decode cX9_wipe 15 = .ok (.iload_n 1, 1) := by decide +kernel
theorem dX9_wipe_16 : decode cX9_wipe 16 = .ok (.ireturn, 1) := by decide +kernel
theorem dX9_fault_0 : decode cX9_fault 0 = .ok (.aload_n 0, 1) := by decide +kernel
theorem dX9_fault_1 : decode cX9_fault 1 = .ok (.getfield 25, 3) := by decide +kernel
theorem dX9_fault_4 : decode cX9_fault 4 = .ok (.aload_n 0, 1) := by decide +kernel
theorem dX9_fault_5 : decode cX9_fault 5 = .ok (.getfield 14, 3) := by decide +kernel
theorem dX9_fault_8 : decode cX9_fault 8 = .ok (.invokevirtual 79, 3) := by decide +kernel
theorem dX9_fault_11 : decode cX9_fault 11 = .ok (.ireturn, 1) := by decide +kernel
theorem dX9_lay_0 : decode cX9_lay 0 = .ok (.aload_n 0, 1) := by decide +kernel
theorem dX9_lay_1 : decode cX9_lay 1 = .ok (.getfield 14, 3) := by decide +kernel
theorem dX9_lay_4 : decode cX9_lay 4 = .ok (.getfield 90, 3) := by decide +kernel
theorem dX9_lay_7 : decode cX9_lay 7 = .ok (.ifCond .eq 19, 3) := by decide +kernel
theorem dX9_lay_10 : decode cX9_lay 10 = .ok (.aload_n 0, 1) := by decide +kernel
theorem dX9_lay_11 : decode cX9_lay 11 = .ok (.getfield 25, 3) := by decide +kernel
theorem dX9_lay_14 : decode cX9_lay 14 = .ok (.aload_n 0, 1) := by decide +kernel
theorem dX9_lay_15 : decode cX9_lay 15 = .ok (.getfield 14, 3) := by decide +kernel
theorem dX9_lay_18 : decode cX9_lay 18 = .ok (.invokevirtual 79, 3) := by decide +kernel
theorem dX9_lay_21 : decode cX9_lay 21 = .ok (.bipush (-4), 2) := by decide +kernel
theorem dX9_lay_23 : decode cX9_lay 23 = .ok (.if_icmp .eq 6, 3) := by decide +kernel
theorem dX9_lay_26 : decode cX9_lay 26 = .ok (.bipush (-2), 2) := by decide +kernel
theorem dX9_lay_28 : decode cX9_lay 28 = .ok (.ireturn, 1) := by decide +kernel
theorem dX9_lay_29 : decode cX9_lay 29 = .ok (.aload_n 0, 1) := by decide +kernel
theorem dX9_lay_30 : decode cX9_lay 30 = .ok (.getfield 21, 3) := by decide +kernel
theorem dX9_lay_33 : decode cX9_lay 33 = .ok (.aload_n 0, 1) := by decide +kernel
theorem dX9_lay_34 : decode cX9_lay 34 = .ok (.getfield 14, 3) := by decide +kernel
theorem dX9_lay_37 : decode cX9_lay 37 = .ok (.invokevirtual 79, 3) := by decide +kernel
theorem dX9_lay_40 : decode cX9_lay 40 = .ok (.pop, 1) := by decide +kernel
theorem dX9_lay_41 : decode cX9_lay 41 = .ok (.aload_n 0, 1) := by decide +kernel
theorem dX9_lay_42 : decode cX9_lay 42 = .ok (.getfield 31, 3) := by decide +kernel
theorem dX9_lay_45 : decode cX9_lay 45 = .ok (.invokevirtual 93, 3) := by decide +kernel
theorem dX9_lay_48 : decode cX9_lay 48 = .ok (.aload_n 0, 1) := by decide +kernel
theorem dX9_lay_49 : decode cX9_lay 49 = .ok (.getfield 38, 3) := by decide +kernel
theorem dX9_lay_52 : decode cX9_lay 52 = .ok (.invokevirtual 94, 3) := by decide +kernel
theorem dX9_lay_55 : decode cX9_lay 55 = .ok (.aload_n 0, 1) := by decide +kernel
theorem dX9_lay_56 : decode cX9_lay 56 = .ok (.getfield 21, 3) := by decide +kernel
theorem dX9_lay_59 : decode cX9_lay 59 = .ok (.getfield 95, 3) := by decide +kernel
theorem dX9_lay_62 : decode cX9_lay 62 = .ok (.getfield 90, 3) := by decide +kernel
theorem dX9_lay_65 : decode cX9_lay 65 = .ok (.ireturn, 1) := by decide +kernel
theorem dX9_probe_0 : decode cX9_probe 0 = .ok (.iload_n 1, 1) := by decide +kernel
theorem dX9_probe_1 : decode cX9_probe 1 = .ok (.iconst 0, 1) := by decide +kernel
theorem dX9_probe_2 : decode cX9_probe 2 = .ok (.iconst 1, 1) := by decide +kernel
theorem dX9_probe_3 : decode cX9_probe 3 = .ok (.invokestatic 86, 3) := by decide +kernel
theorem dX9_probe_6 : decode cX9_probe 6 = .ok (.ifCond .eq 14, 3) := by decide +kernel
theorem dX9_probe_9 : decode cX9_probe 9 = .ok (.aload_n 0, 1) := by decide +kernel
theorem dX9_probe_10 : decode cX9_probe 10 = .ok (.getfield 21, 3) := by decide +kernel
theorem dX9_probe_13 : decode cX9_probe 13 = .ok (.iload_n 2, 1) := by decide +kernel
theorem dX9_probe_14 : decode cX9_probe 14 = .ok (.invokevirtual 98, 3) := by decide +kernel
theorem dX9_probe_17 : decode cX9_probe 17 = .ok (.ifCond .ne 5, 3) := by decide +kernel
theorem dX9_probe_20 : decode cX9_probe 20 = .ok (.iconst (-1), 1) := by decide +kernel
theorem dX9_probe_21 : decode cX9_probe 21 = .ok (.ireturn, 1) := by decide +kernel
theorem dX9_probe_22 : decode cX9_probe 22 = .ok (.aload_n 0, 1) := by decide +kernel
theorem dX9_probe_23 : decode cX9_probe 23 = .ok (.getfield 21, 3) := by decide +kernel
theorem dX9_probe_26 : decode cX9_probe 26 = .ok (.iload_n 2, 1) := by decide +kernel
theorem dX9_probe_27 : decode cX9_probe 27 = .ok (.invokevirtual 102, 3) := by decide +kernel
theorem dX9_probe_30 : decode cX9_probe 30 = .ok (.ifCond .eq 14, 3) := by decide +kernel
theorem dX9_probe_33 : decode cX9_probe 33 = .ok (.aload_n 0, 1) := by decide +kernel
theorem dX9_probe_34 : decode cX9_probe 34 = .ok (.getfield 31, 3) := by decide +kernel
theorem dX9_probe_37 : decode cX9_probe 37 = .ok (.iload_n 2, 1) := by decide +kernel
theorem dX9_probe_38 : decode cX9_probe 38 = .ok (.invokevirtual 105, 3) := by decide +kernel
theorem dX9_probe_41 : decode cX9_probe 41 = .ok (.ifnull 6, 3) := by decide +kernel
theorem dX9_probe_44 : decode cX9_probe 44 = .ok (.bipush (-2), 2) := by decide +kernel
theorem dX9_probe_46 : decode cX9_probe 46 = .ok (.ireturn, 1) := by decide +kernel
theorem dX9_probe_47 : decode cX9_probe 47 = .ok (.aload_n 0, 1) := by decide +kernel
theorem dX9_probe_48 : decode cX9_probe 48 = .ok (.getfield 31, 3) := by decide +kernel
theorem dX9_probe_51 : decode cX9_probe 51 = .ok (.invokevirtual 109, 3) := by decide +kernel
theorem dX9_probe_54 : decode cX9_probe 54 = .ok (.astore_n 3, 1) := by decide +kernel
theorem dX9_probe_55 : decode cX9_probe 55 = .ok (.aload_n 3, 1) := by decide +kernel
theorem dX9_probe_56 : decode cX9_probe 56 = .ok (.ifnonnull 6, 3) := by decide +kernel
theorem dX9_probe_59 : decode cX9_probe 59 = .ok (.bipush (-3), 2) := by decide +kernel
theorem dX9_probe_61 : decode cX9_probe 61 = .ok (.ireturn, 1) := by decide +kernel
theorem dX9_probe_62 : decode cX9_probe 62 = .ok (.aload_n 0, 1) := by decide +kernel
theorem dX9_probe_63 : decode cX9_probe 63 = .ok (.getfield 38, 3) := by decide +kernel
theorem dX9_probe_66 : decode cX9_probe 66 = .ok (.aload_n 0, 1) := by decide +kernel
theorem dX9_probe_67 : decode cX9_probe 67 = .ok (.getfield 31, 3) := by decide +kernel
theorem dX9_probe_70 : decode cX9_probe 70 = .ok (.invokevirtual 113, 3) := by decide +kernel
theorem dX9_probe_73 : decode cX9_probe 73 = .ok (.aload_n 3, 1) := by decide +kernel
theorem dX9_probe_74 : decode cX9_probe 74 = .ok (.iload_n 1, 1) := by decide +kernel
theorem dX9_probe_75 : decode cX9_probe 75 = .ok (.iload_n 2, 1) := by decide +kernel
theorem dX9_probe_76 : decode cX9_probe 76 = .ok (.invokevirtual 117, 3) := by decide +kernel
theorem dX9_probe_79 : decode cX9_probe 79 = .ok (.aload_n 3, 1) := by decide +kernel
theorem dX9_probe_80 : decode cX9_probe 80 = .ok (.getfield 123, 3) := by decide +kernel
theorem dX9_probe_83 : decode cX9_probe 83 = .ok (.ireturn, 1) := by decide +kernel
theorem dX9_turn_0 : decode cX9_turn 0 = .ok (.aload_n 0, 1) := by decide +kernel
theorem dX9_turn_1 : decode cX9_turn 1 = .ok (.getfield 31, 3) := by decide +kernel
theorem dX9_turn_4 : decode cX9_turn 4 = .ok (.iload_n 1, 1) := by decide +kernel
theorem dX9_turn_5 : decode cX9_turn 5 = .ok (.invokevirtual 126, 3) := by decide +kernel
theorem dX9_turn_8 : decode cX9_turn 8 = .ok (.astore_n 3, 1) := by decide +kernel
theorem dX9_turn_9 : decode cX9_turn 9 = .ok (.aload_n 3, 1) := by decide +kernel
theorem dX9_turn_10 : decode cX9_turn 10 = .ok (.ifnull 12, 3) := by decide +kernel
theorem dX9_turn_13 : decode cX9_turn 13 = .ok (.iload_n 2, 1) := by decide +kernel
theorem dX9_turn_14 : decode cX9_turn 14 = .ok (.iconst 0, 1) := by decide +kernel
theorem dX9_turn_15 : decode cX9_turn 15 = .ok (.iconst 1, 1) := by decide +kernel
theorem dX9_turn_16 : decode cX9_turn 16 = .ok (.invokestatic 86, 3) := by decide +kernel
theorem dX9_turn_19 : decode cX9_turn 19 = .ok (.ifCond .ne 5, 3) := by decide +kernel
theorem dX9_turn_22 : decode cX9_turn 22 = .ok (.iconst (-1), 1) := by decide +kernel
theorem dX9_turn_23 : decode cX9_turn 23 = .ok (.ireturn, 1) := by decide +kernel
theorem dX9_turn_24 : decode cX9_turn 24 = .ok (.iload_n 2, 1) := by decide +kernel
theorem dX9_turn_25 : decode cX9_turn 25 = .ok (.iconst 1, 1) := by decide +kernel
theorem dX9_turn_26 : decode cX9_turn 26 = .ok (.if_icmp .ne 7, 3) := by decide +kernel
theorem dX9_turn_29 : decode cX9_turn 29 = .ok (.iconst 0, 1) := by decide +kernel
theorem dX9_turn_30 : decode cX9_turn 30 = .ok (.goto 4, 3) := by decide +kernel
theorem dX9_turn_33 : decode cX9_turn 33 = .ok (.iconst 1, 1) := by decide +kernel
theorem dX9_turn_34 : decode cX9_turn 34 = .ok (.istore 4, 2) := by decide +kernel
theorem dX9_turn_36 : decode cX9_turn 36 = .ok (.aload_n 3, 1) := by decide +kernel
theorem dX9_turn_37 : decode cX9_turn 37 = .ok (.getfield 129, 3) := by decide +kernel
theorem dX9_turn_40 : decode cX9_turn 40 = .ok (.iconst 2, 1) := by decide +kernel
theorem dX9_turn_41 : decode cX9_turn 41 = .ok (.if_icmp .eq 12, 3) := by decide +kernel
theorem dX9_turn_44 : decode cX9_turn 44 = .ok (.aload_n 3, 1) := by decide +kernel
theorem dX9_turn_45 : decode cX9_turn 45 = .ok (.getfield 129, 3) := by decide +kernel
theorem dX9_turn_48 : decode cX9_turn 48 = .ok (.iload 4, 2) := by decide +kernel
theorem dX9_turn_50 : decode cX9_turn 50 = .ok (.if_icmp .ne 6, 3) := by decide +kernel
theorem dX9_turn_53 : decode cX9_turn 53 = .ok (.bipush (-2), 2) := by decide +kernel
theorem dX9_turn_55 : decode cX9_turn 55 = .ok (.ireturn, 1) := by decide +kernel
theorem dX9_turn_56 : decode cX9_turn 56 = .ok (.aload_n 0, 1) := by decide +kernel
theorem dX9_turn_57 : decode cX9_turn 57 = .ok (.getfield 38, 3) := by decide +kernel
theorem dX9_turn_60 : decode cX9_turn 60 = .ok (.aload_n 0, 1) := by decide +kernel
theorem dX9_turn_61 : decode cX9_turn 61 = .ok (.getfield 31, 3) := by decide +kernel
theorem dX9_turn_64 : decode cX9_turn 64 = .ok (.invokevirtual 113, 3) := by decide +kernel
theorem dX9_turn_67 : decode cX9_turn 67 = .ok (.aload_n 3, 1) := by decide +kernel
theorem dX9_turn_68 : decode cX9_turn 68 = .ok (.iload 4, 2) := by decide +kernel
theorem dX9_turn_70 : decode cX9_turn 70 = .ok (.putfield 129, 3) := by decide +kernel
theorem dX9_turn_73 : decode cX9_turn 73 = .ok (.aload_n 0, 1) := by decide +kernel
theorem dX9_turn_74 : decode cX9_turn 74 = .ok (.getfield 31, 3) := by decide +kernel
theorem dX9_turn_77 : decode cX9_turn 77 = .ok (.iconst 0, 1) := by decide +kernel
theorem dX9_turn_78 : decode cX9_turn 78 = .ok (.invokevirtual 132, 3) := by decide +kernel
theorem dX9_turn_81 : decode cX9_turn 81 = .ok (.ireturn, 1) := by decide +kernel
theorem dX9_remove_0 : decode cX9_remove 0 = .ok (.aload_n 0, 1) := by decide +kernel
theorem dX9_remove_1 : decode cX9_remove 1 = .ok (.getfield 31, 3) := by decide +kernel
theorem dX9_remove_4 : decode cX9_remove 4 = .ok (.iload_n 1, 1) := by decide +kernel
theorem dX9_remove_5 : decode cX9_remove 5 = .ok (.invokevirtual 126, 3) := by decide +kernel
theorem dX9_remove_8 : decode cX9_remove 8 = .ok (.astore_n 2, 1) := by decide +kernel
theorem dX9_remove_9 : decode cX9_remove 9 = .ok (.aload_n 2, 1) := by decide +kernel
theorem dX9_remove_10 : decode cX9_remove 10 = .ok (.ifnonnull 5, 3) := by decide +kernel
theorem dX9_remove_13 : decode cX9_remove 13 = .ok (.iconst (-1), 1) := by decide +kernel
theorem dX9_remove_14 : decode cX9_remove 14 = .ok (.ireturn, 1) := by decide +kernel
theorem dX9_remove_15 : decode cX9_remove 15 = .ok (.aload_n 2, 1) := by decide +kernel
theorem dX9_remove_16 : decode cX9_remove 16 = .ok (.getfield 129, 3) := by decide +kernel
theorem dX9_remove_19 : decode cX9_remove 19 = .ok (.iconst 2, 1) := by decide +kernel
theorem dX9_remove_20 : decode cX9_remove 20 = .ok (.if_icmp .ne 6, 3) := by decide +kernel
theorem dX9_remove_23 : decode cX9_remove 23 = .ok (.bipush (-2), 2) := by decide +kernel
theorem dX9_remove_25 : decode cX9_remove 25 = .ok (.ireturn, 1) := by decide +kernel
theorem dX9_remove_26 : decode cX9_remove 26 = .ok (.aload_n 0, 1) := by decide +kernel
theorem dX9_remove_27 : decode cX9_remove 27 = .ok (.getfield 38, 3) := by decide +kernel
theorem dX9_remove_30 : decode cX9_remove 30 = .ok (.aload_n 0, 1) := by decide +kernel
theorem dX9_remove_31 : decode cX9_remove 31 = .ok (.getfield 31, 3) := by decide +kernel
theorem dX9_remove_34 : decode cX9_remove 34 = .ok (.invokevirtual 113, 3) := by decide +kernel
theorem dX9_remove_37 : decode cX9_remove 37 = .ok (.aload_n 2, 1) := by decide +kernel
theorem dX9_remove_38 : decode cX9_remove 38 = .ok (.iconst 2, 1) := by decide +kernel
theorem dX9_remove_39 : decode cX9_remove 39 = .ok (.putfield 129, 3) := by decide +kernel
theorem dX9_remove_42 : decode cX9_remove 42 = .ok (.aload_n 2, 1) := by decide +kernel
theorem dX9_remove_43 : decode cX9_remove 43 = .ok (.invokevirtual 136, 3) := by decide +kernel
theorem dX9_remove_46 : decode cX9_remove 46 = .ok (.aload_n 2, 1) := by decide +kernel
theorem dX9_remove_47 : decode cX9_remove 47 = .ok (.getfield 129, 3) := by decide +kernel
theorem dX9_remove_50 : decode cX9_remove 50 = .ok (.iconst 3, 1) := by decide +kernel
theorem dX9_remove_51 : decode cX9_remove 51 = .ok (.if_icmp .ne 7, 3) := by decide +kernel
theorem dX9_remove_54 : decode cX9_remove 54 = .ok (.iconst 1, 1) := by decide +kernel
theorem dX9_remove_55 : decode cX9_remove 55 = .ok (.goto 4, 3) := by decide +kernel
theorem dX9_remove_58 : decode cX9_remove 58 = .ok (.iconst 0, 1) := by decide +kernel
theorem dX9_remove_59 : decode cX9_remove 59 = .ok (.ireturn, 1) := by decide +kernel
theorem dX9_filter_0 : decode cX9_filter 0 = .ok (.aload_n 0, 1) := by decide +kernel
theorem dX9_filter_1 : decode cX9_filter 1 = .ok (.getfield 31, 3) := by decide +kernel
theorem dX9_filter_4 : decode cX9_filter 4 = .ok (.iload_n 1, 1) := by decide +kernel
theorem dX9_filter_5 : decode cX9_filter 5 = .ok (.invokevirtual 126, 3) := by decide +kernel
theorem dX9_filter_8 : decode cX9_filter 8 = .ok (.astore_n 2, 1) := by decide +kernel
theorem dX9_filter_9 : decode cX9_filter 9 = .ok (.aload_n 2, 1) := by decide +kernel
theorem dX9_filter_10 : decode cX9_filter 10 = .ok (.ifnonnull 5, 3) := by decide +kernel
theorem dX9_filter_13 : decode cX9_filter 13 = .ok (.iconst (-1), 1) := by decide +kernel
theorem dX9_filter_14 : decode cX9_filter 14 = .ok (.ireturn, 1) := by decide +kernel
theorem dX9_filter_15 : decode cX9_filter 15 = .ok (.aload_n 0, 1) := by decide +kernel
theorem dX9_filter_16 : decode cX9_filter 16 = .ok (.getfield 14, 3) := by decide +kernel
theorem dX9_filter_19 : decode cX9_filter 19 = .ok (.getfield 90, 3) := by decide +kernel
theorem dX9_filter_22 : decode cX9_filter 22 = .ok (.ifCond .le 30, 3) := by decide +kernel
theorem dX9_filter_25 : decode cX9_filter 25 = .ok (.aload_n 0, 1) := by decide +kernel
theorem dX9_filter_26 : decode cX9_filter 26 = .ok (.getfield 45, 3) := by decide +kernel
theorem dX9_filter_29 : decode cX9_filter 29 = .ok (.aload_n 0, 1) := by decide +kernel
theorem dX9_filter_30 : decode cX9_filter 30 = .ok (.getfield 14, 3) := by decide +kernel
theorem dX9_filter_33 : decode cX9_filter 33 = .ok (.iconst 0, 1) := by decide +kernel
theorem dX9_filter_34 : decode cX9_filter 34 = .ok (.aload_n 0, 1) := by decide +kernel
theorem dX9_filter_35 : decode cX9_filter 35 = .ok (.getfield 31, 3) := by decide +kernel
theorem dX9_filter_38 : decode cX9_filter 38 = .ok (.getfield 139, 3) := by decide +kernel
theorem dX9_filter_41 : decode cX9_filter 41 = .ok (.invokevirtual 142, 3) := by decide +kernel
theorem dX9_filter_44 : decode cX9_filter 44 = .ok (.bipush (-2), 2) := by decide +kernel
theorem dX9_filter_46 : decode cX9_filter 46 = .ok (.if_icmp .ne 6, 3) := by decide +kernel
theorem dX9_filter_49 : decode cX9_filter 49 = .ok (.bipush (-2), 2) := by decide +kernel
theorem dX9_filter_51 : decode cX9_filter 51 = .ok (.ireturn, 1) := by decide +kernel
theorem dX9_filter_52 : decode cX9_filter 52 = .ok (.aload_n 0, 1) := by decide +kernel
theorem dX9_filter_53 : decode cX9_filter 53 = .ok (.getfield 38, 3) := by decide +kernel
theorem dX9_filter_56 : decode cX9_filter 56 = .ok (.aload_n 0, 1) := by decide +kernel
theorem dX9_filter_57 : decode cX9_filter 57 = .ok (.getfield 31, 3) := by decide +kernel
theorem dX9_filter_60 : decode cX9_filter 60 = .ok (.invokevirtual 113, 3) := by decide +kernel
theorem dX9_filter_63 : decode cX9_filter 63 = .ok (.aload_n 2, 1) := by decide +kernel
theorem dX9_filter_64 : decode cX9_filter 64 = .ok (.aload_n 0, 1) := by decide +kernel
theorem dX9_filter_65 : decode cX9_filter 65 = .ok (.getfield 14, 3) := by decide +kernel
theorem dX9_filter_68 : decode cX9_filter 68 = .ok (.getfield 90, 3) := by decide +kernel
theorem dX9_filter_71 : decode cX9_filter 71 = .ok (.ifCond .le 13, 3) := by decide +kernel
theorem dX9_filter_74 : decode cX9_filter 74 = .ok (.aload_n 0, 1) := by decide +kernel
theorem dX9_filter_75 : decode cX9_filter 75 = .ok (.getfield 14, 3) := by decide +kernel
theorem dX9_filter_78 : decode cX9_filter 78 = .ok (.invokevirtual 146, 3) := by decide +kernel
theorem dX9_filter_81 : decode cX9_filter 81 = .ok (.goto 4, 3) := by decide +kernel
theorem dX9_filter_84 : decode cX9_filter 84 = .ok (.aconst_null, 1) := by decide +kernel
theorem dX9_filter_85 : decode cX9_filter 85 = .ok (.putfield 150, 3) := by decide +kernel
theorem dX9_filter_88 : decode cX9_filter 88 = .ok (.aload_n 0, 1) := by decide +kernel
theorem dX9_filter_89 : decode cX9_filter 89 = .ok (.getfield 14, 3) := by decide +kernel
theorem dX9_filter_92 : decode cX9_filter 92 = .ok (.getfield 90, 3) := by decide +kernel
theorem dX9_filter_95 : decode cX9_filter 95 = .ok (.ireturn, 1) := by decide +kernel
theorem dX9_start_0 : decode cX9_start 0 = .ok (.aload_n 0, 1) := by decide +kernel
theorem dX9_start_1 : decode cX9_start 1 = .ok (.getfield 31, 3) := by decide +kernel
theorem dX9_start_4 : decode cX9_start 4 = .ok (.iload_n 1, 1) := by decide +kernel
theorem dX9_start_5 : decode cX9_start 5 = .ok (.invokevirtual 153, 3) := by decide +kernel
theorem dX9_start_8 : decode cX9_start 8 = .ok (.astore 4, 2) := by decide +kernel
theorem dX9_start_10 : decode cX9_start 10 = .ok (.aload 4, 2) := by decide +kernel
theorem dX9_start_12 : decode cX9_start 12 = .ok (.ifnull 21, 3) := by decide +kernel
theorem dX9_start_15 : decode cX9_start 15 = .ok (.aload_n 0, 1) := by decide +kernel
theorem dX9_start_16 : decode cX9_start 16 = .ok (.getfield 21, 3) := by decide +kernel
theorem dX9_start_19 : decode cX9_start 19 = .ok (.iload_n 2, 1) := by decide +kernel
theorem dX9_start_20 : decode cX9_start 20 = .ok (.invokevirtual 98, 3) := by decide +kernel
theorem dX9_start_23 : decode cX9_start 23 = .ok (.ifCond .eq 10, 3) := by decide +kernel
theorem dX9_start_26 : decode cX9_start 26 = .ok (.iload_n 3, 1) := by decide +kernel
theorem dX9_start_27 : decode cX9_start 27 = .ok (.invokestatic 157, 3) := by decide +kernel
theorem dX9_start_30 : decode cX9_start 30 = .ok (.ifCond .ne 5, 3) := by decide +kernel
theorem dX9_start_33 : decode cX9_start 33 = .ok (.iconst (-1), 1) := by decide +kernel
theorem dX9_start_34 : decode cX9_start 34 = .ok (.ireturn, 1) := by decide +kernel
theorem dX9_start_35 : decode cX9_start 35 = .ok (.aload_n 0, 1) := by decide +kernel
theorem dX9_start_36 : decode cX9_start 36 = .ok (.getfield 21, 3) := by decide +kernel
theorem dX9_start_39 : decode cX9_start 39 = .ok (.iload_n 2, 1) := by decide +kernel
theorem dX9_start_40 : decode cX9_start 40 = .ok (.invokevirtual 102, 3) := by decide +kernel
theorem dX9_start_43 : decode cX9_start 43 = .ok (.ifCond .ne 6, 3) := by decide +kernel
theorem dX9_start_46 : decode cX9_start 46 = .ok (.bipush (-2), 2) := by decide +kernel
theorem dX9_start_48 : decode cX9_start 48 = .ok (.ireturn, 1) := by decide +kernel
theorem dX9_start_49 : decode cX9_start 49 = .ok (.aload_n 0, 1) := by decide +kernel
theorem dX9_start_50 : decode cX9_start 50 = .ok (.getfield 38, 3) := by decide +kernel
theorem dX9_start_53 : decode cX9_start 53 = .ok (.aload_n 0, 1) := by decide +kernel
theorem dX9_start_54 : decode cX9_start 54 = .ok (.getfield 31, 3) := by decide +kernel
theorem dX9_start_57 : decode cX9_start 57 = .ok (.invokevirtual 113, 3) := by decide +kernel
theorem dX9_start_60 : decode cX9_start 60 = .ok (.aload_n 0, 1) := by decide +kernel
theorem dX9_start_61 : decode cX9_start 61 = .ok (.getfield 31, 3) := by decide +kernel
theorem dX9_start_64 : decode cX9_start 64 = .ok (.aload 4, 2) := by decide +kernel
theorem dX9_start_66 : decode cX9_start 66 = .ok (.invokevirtual 160, 3) := by decide +kernel
theorem dX9_start_69 : decode cX9_start 69 = .ok (.istore 5, 2) := by decide +kernel
theorem dX9_start_71 : decode cX9_start 71 = .ok (.aload 4, 2) := by decide +kernel
theorem dX9_start_73 : decode cX9_start 73 = .ok (.iload_n 2, 1) := by decide +kernel
theorem dX9_start_74 : decode cX9_start 74 = .ok (.iload_n 3, 1) := by decide +kernel
theorem dX9_start_75 : decode cX9_start 75 = .ok (.invokevirtual 164, 3) := by decide +kernel
theorem dX9_start_78 : decode cX9_start 78 = .ok (.iload 5, 2) := by decide +kernel
theorem dX9_start_80 : decode cX9_start 80 = .ok (.ireturn, 1) := by decide +kernel
theorem dX9_step_0 : decode cX9_step 0 = .ok (.aload_n 0, 1) := by decide +kernel
theorem dX9_step_1 : decode cX9_step 1 = .ok (.getfield 31, 3) := by decide +kernel
theorem dX9_step_4 : decode cX9_step 4 = .ok (.iload_n 1, 1) := by decide +kernel
theorem dX9_step_5 : decode cX9_step 5 = .ok (.invokevirtual 153, 3) := by decide +kernel
theorem dX9_step_8 : decode cX9_step 8 = .ok (.astore_n 3, 1) := by decide +kernel
theorem dX9_step_9 : decode cX9_step 9 = .ok (.aload_n 3, 1) := by decide +kernel
theorem dX9_step_10 : decode cX9_step 10 = .ok (.ifnull 13, 3) := by decide +kernel
theorem dX9_step_13 : decode cX9_step 13 = .ok (.iload_n 2, 1) := by decide +kernel
theorem dX9_step_14 : decode cX9_step 14 = .ok (.iconst 1, 1) := by decide +kernel
theorem dX9_step_15 : decode cX9_step 15 = .ok (.bipush 60, 2) := by decide +kernel
theorem dX9_step_17 : decode cX9_step 17 = .ok (.invokestatic 86, 3) := by decide +kernel
theorem dX9_step_20 : decode cX9_step 20 = .ok (.ifCond .ne 5, 3) := by decide +kernel
theorem dX9_step_23 : decode cX9_step 23 = .ok (.iconst (-1), 1) := by decide +kernel
theorem dX9_step_24 : decode cX9_step 24 = .ok (.ireturn, 1) := by decide +kernel
theorem dX9_step_25 : decode cX9_step 25 = .ok (.aload_n 3, 1) := by decide +kernel
theorem dX9_step_26 : decode cX9_step 26 = .ok (.getfield 167, 3) := by decide +kernel
theorem dX9_step_29 : decode cX9_step 29 = .ok (.ifCond .eq 6, 3) := by decide +kernel
theorem dX9_step_32 : decode cX9_step 32 = .ok (.bipush (-2), 2) := by decide +kernel
theorem dX9_step_34 : decode cX9_step 34 = .ok (.ireturn, 1) := by decide +kernel
theorem dX9_step_35 : decode cX9_step 35 = .ok (.aload_n 0, 1) := by decide +kernel
theorem dX9_step_36 : decode cX9_step 36 = .ok (.getfield 38, 3) := by decide +kernel
theorem dX9_step_39 : decode cX9_step 39 = .ok (.aload_n 0, 1) := by decide +kernel
theorem dX9_step_40 : decode cX9_step 40 = .ok (.getfield 31, 3) := by decide +kernel
theorem dX9_step_43 : decode cX9_step 43 = .ok (.invokevirtual 113, 3) := by decide +kernel
theorem dX9_step_46 : decode cX9_step 46 = .ok (.aload_n 3, 1) := by decide +kernel
theorem dX9_step_47 : decode cX9_step 47 = .ok (.getfield 171, 3) := by decide +kernel
theorem dX9_step_50 : decode cX9_step 50 = .ok (.istore 4, 2) := by decide +kernel
theorem dX9_step_52 : decode cX9_step 52 = .ok (.iconst 0, 1) := by decide +kernel
theorem dX9_step_53 : decode cX9_step 53 = .ok (.istore 5, 2) := by decide +kernel
theorem dX9_step_55 : decode cX9_step 55 = .ok (.iload 5, 2) := by decide +kernel
theorem dX9_step_57 : decode cX9_step 57 = .ok (.iload_n 2, 1) := by decide +kernel
theorem dX9_step_58 : decode cX9_step 58 = .ok (.if_icmp .ge 21, 3) := by decide +kernel
theorem dX9_step_61 : decode cX9_step 61 = .ok (.aload_n 3, 1) := by decide +kernel
theorem dX9_step_62 : decode cX9_step 62 = .ok (.getfield 167, 3) := by decide +kernel
theorem dX9_step_65 : decode cX9_step 65 = .ok (.ifCond .ne 14, 3) := by decide +kernel
theorem dX9_step_68 : decode cX9_step 68 = .ok (.aload_n 0, 1) := by decide +kernel
theorem dX9_step_69 : decode cX9_step 69 = .ok (.aload_n 3, 1) := by decide +kernel
theorem dX9_step_70 : decode cX9_step 70 = .ok (.invokevirtual 174, 3) := by decide +kernel
theorem dX9_step_73 : decode cX9_step 73 = .ok (.iinc 5 1, 3) := by decide +kernel
theorem dX9_step_76 : decode cX9_step 76 = .ok (.goto (-21), 3) := by decide +kernel
theorem dX9_step_79 : decode cX9_step 79 = .ok (.aload_n 3, 1) := by decide +kernel
theorem dX9_step_80 : decode cX9_step 80 = .ok (.getfield 171, 3) := by decide +kernel
theorem dX9_step_83 : decode cX9_step 83 = .ok (.iload 4, 2) := by decide +kernel
theorem dX9_step_85 : decode cX9_step 85 = .ok (.isub, 1) := by decide +kernel
theorem dX9_step_86 : decode cX9_step 86 = .ok (.ireturn, 1) := by decide +kernel
theorem dX9_poke_0 : decode cX9_poke 0 = .ok (.aload_n 0, 1) := by decide +kernel
theorem dX9_poke_1 : decode cX9_poke 1 = .ok (.getfield 31, 3) := by decide +kernel
theorem dX9_poke_4 : decode cX9_poke 4 = .ok (.getfield 139, 3) := by decide +kernel
theorem dX9_poke_7 : decode cX9_poke 7 = .ok (.iload_n 1, 1) := by decide +kernel
theorem dX9_poke_8 : decode cX9_poke 8 = .ok (.invokevirtual 178, 3) := by decide +kernel
theorem dX9_poke_11 : decode cX9_poke 11 = .ok (.ifCond .eq 10, 3) := by decide +kernel
theorem dX9_poke_14 : decode cX9_poke 14 = .ok (.iload_n 2, 1) := by decide +kernel
theorem dX9_poke_15 : decode cX9_poke 15 = .ok (.invokestatic 157, 3) := by decide +kernel
theorem dX9_poke_18 : decode cX9_poke 18 = .ok (.ifCond .ne 5, 3) := by decide +kernel
theorem dX9_poke_21 : decode cX9_poke 21 = .ok (.iconst (-1), 1) := by decide +kernel
theorem dX9_poke_22 : decode cX9_poke 22 = .ok (.ireturn, 1) := by decide +kernel
theorem dX9_poke_23 : decode cX9_poke 23 = .ok (.aload_n 0, 1) := by decide +kernel
theorem dX9_poke_24 : decode cX9_poke 24 = .ok (.getfield 31, 3) := by decide +kernel
theorem dX9_poke_27 : decode cX9_poke 27 = .ok (.getfield 139, 3) := by decide +kernel
theorem dX9_poke_30 : decode cX9_poke 30 = .ok (.iload_n 1, 1) := by decide +kernel
theorem dX9_poke_31 : decode cX9_poke 31 = .ok (.invokevirtual 179, 3) := by decide +kernel
theorem dX9_poke_34 : decode cX9_poke 34 = .ok (.istore_n 3, 1) := by decide +kernel
theorem dX9_poke_35 : decode cX9_poke 35 = .ok (.iload_n 3, 1) := by decide +kernel
theorem dX9_poke_36 : decode cX9_poke 36 = .ok (.iload_n 2, 1) := by decide +kernel
theorem dX9_poke_37 : decode cX9_poke 37 = .ok (.if_icmp .ne 6, 3) := by decide +kernel
theorem dX9_poke_40 : decode cX9_poke 40 = .ok (.bipush (-2), 2) := by decide +kernel
theorem dX9_poke_42 : decode cX9_poke 42 = .ok (.ireturn, 1) := by decide +kernel
theorem dX9_poke_43 : decode cX9_poke 43 = .ok (.aload_n 0, 1) := by decide +kernel
theorem dX9_poke_44 : decode cX9_poke 44 = .ok (.getfield 38, 3) := by decide +kernel
theorem dX9_poke_47 : decode cX9_poke 47 = .ok (.aload_n 0, 1) := by decide +kernel
theorem dX9_poke_48 : decode cX9_poke 48 = .ok (.getfield 31, 3) := by decide +kernel
theorem dX9_poke_51 : decode cX9_poke 51 = .ok (.invokevirtual 113, 3) := by decide +kernel
theorem dX9_poke_54 : decode cX9_poke 54 = .ok (.aload_n 0, 1) := by decide +kernel
theorem dX9_poke_55 : decode cX9_poke 55 = .ok (.getfield 31, 3) := by decide +kernel
theorem dX9_poke_58 : decode cX9_poke 58 = .ok (.getfield 139, 3) := by decide +kernel
theorem dX9_poke_61 : decode cX9_poke 61 = .ok (.iload_n 1, 1) := by decide +kernel
theorem dX9_poke_62 : decode cX9_poke 62 = .ok (.iload_n 2, 1) := by decide +kernel
theorem dX9_poke_63 : decode cX9_poke 63 = .ok (.invokevirtual 182, 3) := by decide +kernel
theorem dX9_poke_66 : decode cX9_poke 66 = .ok (.iload_n 3, 1) := by decide +kernel
theorem dX9_poke_67 : decode cX9_poke 67 = .ok (.ireturn, 1) := by decide +kernel
theorem dX9_undo_0 : decode cX9_undo 0 = .ok (.aload_n 0, 1) := by decide +kernel
theorem dX9_undo_1 : decode cX9_undo 1 = .ok (.getfield 38, 3) := by decide +kernel
theorem dX9_undo_4 : decode cX9_undo 4 = .ok (.getfield 185, 3) := by decide +kernel
theorem dX9_undo_7 : decode cX9_undo 7 = .ok (.ifCond .ne 6, 3) := by decide +kernel
theorem dX9_undo_10 : decode cX9_undo 10 = .ok (.bipush (-2), 2) := by decide +kernel
theorem dX9_undo_12 : decode cX9_undo 12 = .ok (.ireturn, 1) := by decide +kernel
theorem dX9_undo_13 : decode cX9_undo 13 = .ok (.aload_n 0, 1) := by decide +kernel
theorem dX9_undo_14 : decode cX9_undo 14 = .ok (.getfield 38, 3) := by decide +kernel
theorem dX9_undo_17 : decode cX9_undo 17 = .ok (.aload_n 0, 1) := by decide +kernel
theorem dX9_undo_18 : decode cX9_undo 18 = .ok (.getfield 31, 3) := by decide +kernel
theorem dX9_undo_21 : decode cX9_undo 21 = .ok (.invokevirtual 188, 3) := by decide +kernel
theorem dX9_undo_24 : decode cX9_undo 24 = .ok (.aload_n 0, 1) := by decide +kernel
theorem dX9_undo_25 : decode cX9_undo 25 = .ok (.getfield 38, 3) := by decide +kernel
theorem dX9_undo_28 : decode cX9_undo 28 = .ok (.getfield 185, 3) := by decide +kernel
theorem dX9_undo_31 : decode cX9_undo 31 = .ok (.ireturn, 1) := by decide +kernel
theorem dX9_code_0 : decode cX9_code 0 = .ok (.aload_n 0, 1) := by decide +kernel
theorem dX9_code_1 : decode cX9_code 1 = .ok (.getfield 21, 3) := by decide +kernel
theorem dX9_code_4 : decode cX9_code 4 = .ok (.iload_n 1, 1) := by decide +kernel
theorem dX9_code_5 : decode cX9_code 5 = .ok (.invokevirtual 98, 3) := by decide +kernel
theorem dX9_code_8 : decode cX9_code 8 = .ok (.ifCond .eq 12, 3) := by decide +kernel
theorem dX9_code_11 : decode cX9_code 11 = .ok (.iload_n 2, 1) := by decide +kernel
theorem dX9_code_12 : decode cX9_code 12 = .ok (.iconst 0, 1) := by decide +kernel
theorem dX9_code_13 : decode cX9_code 13 = .ok (.iconst 1, 1) := by decide +kernel
theorem dX9_code_14 : decode cX9_code 14 = .ok (.invokestatic 86, 3) := by decide +kernel
theorem dX9_code_17 : decode cX9_code 17 = .ok (.ifCond .ne 5, 3) := by decide +kernel
theorem dX9_code_20 : decode cX9_code 20 = .ok (.iconst (-1), 1) := by decide +kernel
theorem dX9_code_21 : decode cX9_code 21 = .ok (.ireturn, 1) := by decide +kernel
theorem dX9_code_22 : decode cX9_code 22 = .ok (.iload_n 2, 1) := by decide +kernel
theorem dX9_code_23 : decode cX9_code 23 = .ok (.ifCond .ne 18, 3) := by decide +kernel
theorem dX9_code_26 : decode cX9_code 26 = .ok (.aload_n 0, 1) := by decide +kernel
theorem dX9_code_27 : decode cX9_code 27 = .ok (.getfield 31, 3) := by decide +kernel
theorem dX9_code_30 : decode cX9_code 30 = .ok (.iload_n 1, 1) := by decide +kernel
theorem dX9_code_31 : decode cX9_code 31 = .ok (.invokevirtual 191, 3) := by decide +kernel
theorem dX9_code_34 : decode cX9_code 34 = .ok (.ifCond .eq 7, 3) := by decide +kernel
theorem dX9_code_37 : decode cX9_code 37 = .ok (.iconst 1, 1) := by decide +kernel
theorem dX9_code_38 : decode cX9_code 38 = .ok (.goto 4, 3) := by decide +kernel
theorem dX9_code_41 : decode cX9_code 41 = .ok (.iconst 0, 1) := by decide +kernel
theorem dX9_code_42 : decode cX9_code 42 = .ok (.istore_n 3, 1) := by decide +kernel
theorem dX9_code_43 : decode cX9_code 43 = .ok (.iload_n 3, 1) := by decide +kernel
theorem dX9_code_44 : decode cX9_code 44 = .ok (.ifCond .eq 8, 3) := by decide +kernel
theorem dX9_code_47 : decode cX9_code 47 = .ok (.bipush 33, 2) := by decide +kernel
theorem dX9_code_49 : decode cX9_code 49 = .ok (.goto 11, 3) := by decide +kernel
theorem dX9_code_52 : decode cX9_code 52 = .ok (.aload_n 0, 1) := by decide +kernel
theorem dX9_code_53 : decode cX9_code 53 = .ok (.getfield 21, 3) := by decide +kernel
theorem dX9_code_56 : decode cX9_code 56 = .ok (.iload_n 1, 1) := by decide +kernel
theorem dX9_code_57 : decode cX9_code 57 = .ok (.invokevirtual 194, 3) := by decide +kernel
theorem dX9_code_60 : decode cX9_code 60 = .ok (.ireturn, 1) := by decide +kernel
theorem dX9_memory_0 : decode cX9_memory 0 = .ok (.aload_n 0, 1) := by decide +kernel
theorem dX9_memory_1 : decode cX9_memory 1 = .ok (.getfield 31, 3) := by decide +kernel
theorem dX9_memory_4 : decode cX9_memory 4 = .ok (.getfield 139, 3) := by decide +kernel
theorem dX9_memory_7 : decode cX9_memory 7 = .ok (.iload_n 1, 1) := by decide +kernel
theorem dX9_memory_8 : decode cX9_memory 8 = .ok (.invokevirtual 178, 3) := by decide +kernel
theorem dX9_memory_11 : decode cX9_memory 11 = .ok (.ifCond .eq 17, 3) := by decide +kernel
theorem dX9_memory_14 : decode cX9_memory 14 = .ok (.aload_n 0, 1) := by decide +kernel
theorem dX9_memory_15 : decode cX9_memory 15 = .ok (.getfield 31, 3) := by decide +kernel
theorem dX9_memory_18 : decode cX9_memory 18 = .ok (.getfield 139, 3) := by decide +kernel
theorem dX9_memory_21 : decode cX9_memory 21 = .ok (.iload_n 1, 1) := by decide +kernel
theorem dX9_memory_22 : decode cX9_memory 22 = .ok (.invokevirtual 179, 3) := by decide +kernel
theorem dX9_memory_25 : decode cX9_memory 25 = .ok (.goto 4, 3) := by decide +kernel
theorem dX9_memory_28 : decode cX9_memory 28 = .ok (.iconst (-1), 1) := by decide +kernel
theorem dX9_memory_29 : decode cX9_memory 29 = .ok (.ireturn, 1) := by decide +kernel
theorem dX9_processor_0 : decode cX9_processor 0 = .ok (.aload_n 0, 1) := by decide +kernel
theorem dX9_processor_1 : decode cX9_processor 1 = .ok (.getfield 31, 3) := by decide +kernel
theorem dX9_processor_4 : decode cX9_processor 4 = .ok (.iload_n 1, 1) := by decide +kernel
theorem dX9_processor_5 : decode cX9_processor 5 = .ok (.invokevirtual 153, 3) := by decide +kernel
theorem dX9_processor_8 : decode cX9_processor 8 = .ok (.astore_n 3, 1) := by decide +kernel
theorem dX9_processor_9 : decode cX9_processor 9 = .ok (.aload_n 3, 1) := by decide +kernel
theorem dX9_processor_10 : decode cX9_processor 10 = .ok (.ifnonnull 5, 3) := by decide +kernel
theorem dX9_processor_13 : decode cX9_processor 13 = .ok (.iconst (-1), 1) := by decide +kernel
theorem dX9_processor_14 : decode cX9_processor 14 = .ok (.ireturn, 1) := by decide +kernel
theorem dX9_processor_15 : decode cX9_processor 15 = .ok (.iload_n 2, 1) := by decide +kernel
theorem dX9_processor_16 : decode cX9_processor 16 = .ok (.tableswitch 49 4 6 #[28, 33, 41], 28) := by decide +kernel
theorem dX9_processor_44 : decode cX9_processor 44 = .ok (.aload_n 3, 1) := by decide +kernel
theorem dX9_processor_45 : decode cX9_processor 45 = .ok (.getfield 171, 3) := by decide +kernel
theorem dX9_processor_48 : decode cX9_processor 48 = .ok (.ireturn, 1) := by decide +kernel
theorem dX9_processor_49 : decode cX9_processor 49 = .ok (.aload_n 3, 1) := by decide +kernel
theorem dX9_processor_50 : decode cX9_processor 50 = .ok (.getfield 197, 3) := by decide +kernel
theorem dX9_processor_53 : decode cX9_processor 53 = .ok (.getfield 201, 3) := by decide +kernel
theorem dX9_processor_56 : decode cX9_processor 56 = .ok (.ireturn, 1) := by decide +kernel
theorem dX9_processor_57 : decode cX9_processor 57 = .ok (.aload_n 3, 1) := by decide +kernel
theorem dX9_processor_58 : decode cX9_processor 58 = .ok (.getfield 197, 3) := by decide +kernel
theorem dX9_processor_61 : decode cX9_processor 61 = .ok (.getfield 204, 3) := by decide +kernel
theorem dX9_processor_64 : decode cX9_processor 64 = .ok (.ireturn, 1) := by decide +kernel
theorem dX9_processor_65 : decode cX9_processor 65 = .ok (.aload_n 3, 1) := by decide +kernel
theorem dX9_processor_66 : decode cX9_processor 66 = .ok (.iload_n 2, 1) := by decide +kernel
theorem dX9_processor_67 : decode cX9_processor 67 = .ok (.invokevirtual 207, 3) := by decide +kernel
theorem dX9_processor_70 : decode cX9_processor 70 = .ok (.ireturn, 1) := by decide +kernel
theorem dX9_returns_0 : decode cX9_returns 0 = .ok (.aload_n 0, 1) := by decide +kernel
theorem dX9_returns_1 : decode cX9_returns 1 = .ok (.getfield 31, 3) := by decide +kernel
theorem dX9_returns_4 : decode cX9_returns 4 = .ok (.iload_n 1, 1) := by decide +kernel
theorem dX9_returns_5 : decode cX9_returns 5 = .ok (.invokevirtual 153, 3) := by decide +kernel
theorem dX9_returns_8 : decode cX9_returns 8 = .ok (.astore 4, 2) := by decide +kernel
theorem dX9_returns_10 : decode cX9_returns 10 = .ok (.aload 4, 2) := by decide +kernel
theorem dX9_returns_12 : decode cX9_returns 12 = .ok (.ifnull 16, 3) := by decide +kernel
theorem dX9_returns_15 : decode cX9_returns 15 = .ok (.iload_n 2, 1) := by decide +kernel
theorem dX9_returns_16 : decode cX9_returns 16 = .ok (.ifCond .lt 12, 3) := by decide +kernel
theorem dX9_returns_19 : decode cX9_returns 19 = .ok (.iload_n 3, 1) := by decide +kernel
theorem dX9_returns_20 : decode cX9_returns 20 = .ok (.iconst 0, 1) := by decide +kernel
theorem dX9_returns_21 : decode cX9_returns 21 = .ok (.iconst 1, 1) := by decide +kernel
theorem dX9_returns_22 : decode cX9_returns 22 = .ok (.invokestatic 86, 3) := by decide +kernel
theorem dX9_returns_25 : decode cX9_returns 25 = .ok (.ifCond .ne 5, 3) := by decide +kernel
theorem dX9_returns_28 : decode cX9_returns 28 = .ok (.iconst (-1), 1) := by decide +kernel
theorem dX9_returns_29 : decode cX9_returns 29 = .ok (.ireturn, 1) := by decide +kernel
theorem dX9_returns_30 : decode cX9_returns 30 = .ok (.iload_n 2, 1) := by decide +kernel
theorem dX9_returns_31 : decode cX9_returns 31 = .ok (.aload 4, 2) := by decide +kernel
theorem dX9_returns_33 : decode cX9_returns 33 = .ok (.getfield 210, 3) := by decide +kernel
theorem dX9_returns_36 : decode cX9_returns 36 = .ok (.if_icmp .lt 6, 3) := by decide +kernel
theorem dX9_returns_39 : decode cX9_returns 39 = .ok (.bipush (-4), 2) := by decide +kernel
theorem dX9_returns_41 : decode cX9_returns 41 = .ok (.ireturn, 1) := by decide +kernel
theorem dX9_returns_42 : decode cX9_returns 42 = .ok (.iload_n 3, 1) := by decide +kernel
theorem dX9_returns_43 : decode cX9_returns 43 = .ok (.ifCond .ne 17, 3) := by decide +kernel
theorem dX9_returns_46 : decode cX9_returns 46 = .ok (.aload 4, 2) := by decide +kernel
theorem dX9_returns_48 : decode cX9_returns 48 = .ok (.iload_n 2, 1) := by decide +kernel
theorem dX9_returns_49 : decode cX9_returns 49 = .ok (.invokevirtual 213, 3) := by decide +kernel
theorem dX9_returns_52 : decode cX9_returns 52 = .ok (.iconst (-1), 1) := by decide +kernel
theorem dX9_returns_53 : decode cX9_returns 53 = .ok (.if_icmp .eq 7, 3) := by decide +kernel
theorem dX9_returns_56 : decode cX9_returns 56 = .ok (.iconst 1, 1) := by decide +kernel
theorem dX9_returns_57 : decode cX9_returns 57 = .ok (.goto 4, 3) := by decide +kernel
theorem dX9_returns_60 : decode cX9_returns 60 = .ok (.iconst 0, 1) := by decide +kernel
theorem dX9_returns_61 : decode cX9_returns 61 = .ok (.istore 5, 2) := by decide +kernel
theorem dX9_returns_63 : decode cX9_returns 63 = .ok (.iload 5, 2) := by decide +kernel
theorem dX9_returns_65 : decode cX9_returns 65 = .ok (.ifCond .eq 8, 3) := by decide +kernel
theorem dX9_returns_68 : decode cX9_returns 68 = .ok (.bipush 99, 2) := by decide +kernel
theorem dX9_returns_70 : decode cX9_returns 70 = .ok (.goto 9, 3) := by decide +kernel
theorem dX9_returns_73 : decode cX9_returns 73 = .ok (.aload 4, 2) := by decide +kernel
theorem dX9_returns_75 : decode cX9_returns 75 = .ok (.iload_n 2, 1) := by decide +kernel
theorem dX9_returns_76 : decode cX9_returns 76 = .ok (.invokevirtual 216, 3) := by decide +kernel
theorem dX9_returns_79 : decode cX9_returns 79 = .ok (.ireturn, 1) := by decide +kernel
theorem dX9_ring_0 : decode cX9_ring 0 = .ok (.aload_n 0, 1) := by decide +kernel
theorem dX9_ring_1 : decode cX9_ring 1 = .ok (.getfield 31, 3) := by decide +kernel
theorem dX9_ring_4 : decode cX9_ring 4 = .ok (.iload_n 1, 1) := by decide +kernel
theorem dX9_ring_5 : decode cX9_ring 5 = .ok (.invokevirtual 153, 3) := by decide +kernel
theorem dX9_ring_8 : decode cX9_ring 8 = .ok (.astore 4, 2) := by decide +kernel
theorem dX9_ring_10 : decode cX9_ring 10 = .ok (.aload 4, 2) := by decide +kernel
theorem dX9_ring_12 : decode cX9_ring 12 = .ok (.ifnull 16, 3) := by decide +kernel
theorem dX9_ring_15 : decode cX9_ring 15 = .ok (.iload_n 2, 1) := by decide +kernel
theorem dX9_ring_16 : decode cX9_ring 16 = .ok (.ifCond .lt 12, 3) := by decide +kernel
theorem dX9_ring_19 : decode cX9_ring 19 = .ok (.iload_n 3, 1) := by decide +kernel
theorem dX9_ring_20 : decode cX9_ring 20 = .ok (.iconst 0, 1) := by decide +kernel
theorem dX9_ring_21 : decode cX9_ring 21 = .ok (.iconst 2, 1) := by decide +kernel
theorem dX9_ring_22 : decode cX9_ring 22 = .ok (.invokestatic 86, 3) := by decide +kernel
theorem dX9_ring_25 : decode cX9_ring 25 = .ok (.ifCond .ne 5, 3) := by decide +kernel
theorem dX9_ring_28 : decode cX9_ring 28 = .ok (.iconst (-1), 1) := by decide +kernel
theorem dX9_ring_29 : decode cX9_ring 29 = .ok (.ireturn, 1) := by decide +kernel
theorem dX9_ring_30 : decode cX9_ring 30 = .ok (.aload 4, 2) := by decide +kernel
theorem dX9_ring_32 : decode cX9_ring 32 = .ok (.getfield 197, 3) := by decide +kernel
theorem dX9_ring_35 : decode cX9_ring 35 = .ok (.iload_n 2, 1) := by decide +kernel
theorem dX9_ring_36 : decode cX9_ring 36 = .ok (.iload_n 3, 1) := by decide +kernel
theorem dX9_ring_37 : decode cX9_ring 37 = .ok (.invokevirtual 219, 3) := by decide +kernel
theorem dX9_ring_40 : decode cX9_ring 40 = .ok (.ireturn, 1) := by decide +kernel
theorem dX9_look_0 : decode cX9_look 0 = .ok (.aload_n 0, 1) := by decide +kernel
theorem dX9_look_1 : decode cX9_look 1 = .ok (.getfield 31, 3) := by decide +kernel
theorem dX9_look_4 : decode cX9_look 4 = .ok (.iload_n 1, 1) := by decide +kernel
theorem dX9_look_5 : decode cX9_look 5 = .ok (.invokevirtual 222, 3) := by decide +kernel
theorem dX9_look_8 : decode cX9_look 8 = .ok (.astore_n 3, 1) := by decide +kernel
theorem dX9_look_9 : decode cX9_look 9 = .ok (.aload_n 3, 1) := by decide +kernel
theorem dX9_look_10 : decode cX9_look 10 = .ok (.ifnull 13, 3) := by decide +kernel
theorem dX9_look_13 : decode cX9_look 13 = .ok (.iload_n 2, 1) := by decide +kernel
theorem dX9_look_14 : decode cX9_look 14 = .ok (.iconst 0, 1) := by decide +kernel
theorem dX9_look_15 : decode cX9_look 15 = .ok (.bipush 7, 2) := by decide +kernel
theorem dX9_look_17 : decode cX9_look 17 = .ok (.invokestatic 86, 3) := by decide +kernel
theorem dX9_look_20 : decode cX9_look 20 = .ok (.ifCond .ne 5, 3) := by decide +kernel
theorem dX9_look_23 : decode cX9_look 23 = .ok (.iconst (-1), 1) := by decide +kernel
theorem dX9_look_24 : decode cX9_look 24 = .ok (.ireturn, 1) := by decide +kernel
theorem dX9_look_25 : decode cX9_look 25 = .ok (.aload_n 3, 1) := by decide +kernel
theorem dX9_look_26 : decode cX9_look 26 = .ok (.getfield 129, 3) := by decide +kernel
theorem dX9_look_29 : decode cX9_look 29 = .ok (.iconst 3, 1) := by decide +kernel
theorem dX9_look_30 : decode cX9_look 30 = .ok (.if_icmp .ne 10, 3) := by decide +kernel
theorem dX9_look_33 : decode cX9_look 33 = .ok (.iload_n 2, 1) := by decide +kernel
theorem dX9_look_34 : decode cX9_look 34 = .ok (.ifCond .eq 6, 3) := by decide +kernel
theorem dX9_look_37 : decode cX9_look 37 = .ok (.bipush (-2), 2) := by decide +kernel
theorem dX9_look_39 : decode cX9_look 39 = .ok (.ireturn, 1) := by decide +kernel
theorem dX9_look_40 : decode cX9_look 40 = .ok (.aload_n 3, 1) := by decide +kernel
theorem dX9_look_41 : decode cX9_look 41 = .ok (.iload_n 2, 1) := by decide +kernel
theorem dX9_look_42 : decode cX9_look 42 = .ok (.invokevirtual 225, 3) := by decide +kernel
theorem dX9_look_45 : decode cX9_look 45 = .ok (.ireturn, 1) := by decide +kernel
theorem dX9_asked_0 : decode cX9_asked 0 = .ok (.iload_n 1, 1) := by decide +kernel
theorem dX9_asked_1 : decode cX9_asked 1 = .ok (.invokestatic 157, 3) := by decide +kernel
theorem dX9_asked_4 : decode cX9_asked 4 = .ok (.ifCond .eq 25, 3) := by decide +kernel
theorem dX9_asked_7 : decode cX9_asked 7 = .ok (.aload_n 0, 1) := by decide +kernel
theorem dX9_asked_8 : decode cX9_asked 8 = .ok (.getfield 45, 3) := by decide +kernel
theorem dX9_asked_11 : decode cX9_asked 11 = .ok (.aload_n 0, 1) := by decide +kernel
theorem dX9_asked_12 : decode cX9_asked 12 = .ok (.getfield 14, 3) := by decide +kernel
theorem dX9_asked_15 : decode cX9_asked 15 = .ok (.iload_n 1, 1) := by decide +kernel
theorem dX9_asked_16 : decode cX9_asked 16 = .ok (.aload_n 0, 1) := by decide +kernel
theorem dX9_asked_17 : decode cX9_asked 17 = .ok (.getfield 31, 3) := by decide +kernel
theorem dX9_asked_20 : decode cX9_asked 20 = .ok (.getfield 139, 3) := by decide +kernel
theorem dX9_asked_23 : decode cX9_asked 23 = .ok (.invokevirtual 142, 3) := by decide +kernel
theorem dX9_asked_26 : decode cX9_asked 26 = .ok (.goto 4, 3) := by decide +kernel
theorem dX9_asked_29 : decode cX9_asked 29 = .ok (.iconst (-1), 1) := by decide +kernel
theorem dX9_asked_30 : decode cX9_asked 30 = .ok (.ireturn, 1) := by decide +kernel
theorem dX9_ever_0 : decode cX9_ever 0 = .ok (.aload_n 0, 1) := by decide +kernel
theorem dX9_ever_1 : decode cX9_ever 1 = .ok (.getfield 31, 3) := by decide +kernel
theorem dX9_ever_4 : decode cX9_ever 4 = .ok (.iload_n 1, 1) := by decide +kernel
theorem dX9_ever_5 : decode cX9_ever 5 = .ok (.invokevirtual 153, 3) := by decide +kernel
theorem dX9_ever_8 : decode cX9_ever 8 = .ok (.astore 4, 2) := by decide +kernel
theorem dX9_ever_10 : decode cX9_ever 10 = .ok (.aload 4, 2) := by decide +kernel
theorem dX9_ever_12 : decode cX9_ever 12 = .ok (.ifnull 22, 3) := by decide +kernel
theorem dX9_ever_15 : decode cX9_ever 15 = .ok (.iload_n 2, 1) := by decide +kernel
theorem dX9_ever_16 : decode cX9_ever 16 = .ok (.iconst 0, 1) := by decide +kernel
theorem dX9_ever_17 : decode cX9_ever 17 = .ok (.bipush 60, 2) := by decide +kernel
theorem dX9_ever_19 : decode cX9_ever 19 = .ok (.invokestatic 86, 3) := by decide +kernel
theorem dX9_ever_22 : decode cX9_ever 22 = .ok (.ifCond .eq 12, 3) := by decide +kernel
theorem dX9_ever_25 : decode cX9_ever 25 = .ok (.iload_n 3, 1) := by decide +kernel
theorem dX9_ever_26 : decode cX9_ever 26 = .ok (.iconst 0, 1) := by decide +kernel
theorem dX9_ever_27 : decode cX9_ever 27 = .ok (.iconst 4, 1) := by decide +kernel
theorem dX9_ever_28 : decode cX9_ever 28 = .ok (.invokestatic 86, 3) := by decide +kernel
theorem dX9_ever_31 : decode cX9_ever 31 = .ok (.ifCond .ne 5, 3) := by decide +kernel
theorem dX9_ever_34 : decode cX9_ever 34 = .ok (.iconst (-1), 1) := by decide +kernel
theorem dX9_ever_35 : decode cX9_ever 35 = .ok (.ireturn, 1) := by decide +kernel
theorem dX9_ever_36 : decode cX9_ever 36 = .ok (.aload_n 0, 1) := by decide +kernel
theorem dX9_ever_37 : decode cX9_ever 37 = .ok (.getfield 52, 3) := by decide +kernel
theorem dX9_ever_40 : decode cX9_ever 40 = .ok (.aload 4, 2) := by decide +kernel
theorem dX9_ever_42 : decode cX9_ever 42 = .ok (.invokevirtual 226, 3) := by decide +kernel
theorem dX9_ever_45 : decode cX9_ever 45 = .ok (.aload_n 0, 1) := by decide +kernel
theorem dX9_ever_46 : decode cX9_ever 46 = .ok (.getfield 59, 3) := by decide +kernel
theorem dX9_ever_49 : decode cX9_ever 49 = .ok (.aload_n 0, 1) := by decide +kernel
theorem dX9_ever_50 : decode cX9_ever 50 = .ok (.getfield 31, 3) := by decide +kernel
theorem dX9_ever_53 : decode cX9_ever 53 = .ok (.getfield 139, 3) := by decide +kernel
theorem dX9_ever_56 : decode cX9_ever 56 = .ok (.invokevirtual 229, 3) := by decide +kernel
theorem dX9_ever_59 : decode cX9_ever 59 = .ok (.iconst 0, 1) := by decide +kernel
theorem dX9_ever_60 : decode cX9_ever 60 = .ok (.istore 5, 2) := by decide +kernel
theorem dX9_ever_62 : decode cX9_ever 62 = .ok (.iload 5, 2) := by decide +kernel
theorem dX9_ever_64 : decode cX9_ever 64 = .ok (.iload_n 2, 1) := by decide +kernel
theorem dX9_ever_65 : decode cX9_ever 65 = .ok (.if_icmp .ge 48, 3) := by decide +kernel
theorem dX9_ever_68 : decode cX9_ever 68 = .ok (.aload_n 0, 1) := by decide +kernel
theorem dX9_ever_69 : decode cX9_ever 69 = .ok (.getfield 52, 3) := by decide +kernel
theorem dX9_ever_72 : decode cX9_ever 72 = .ok (.getfield 167, 3) := by decide +kernel
theorem dX9_ever_75 : decode cX9_ever 75 = .ok (.ifCond .ne 38, 3) := by decide +kernel
theorem dX9_ever_78 : decode cX9_ever 78 = .ok (.aload_n 0, 1) := by decide +kernel
theorem dX9_ever_79 : decode cX9_ever 79 = .ok (.getfield 52, 3) := by decide +kernel
theorem dX9_ever_82 : decode cX9_ever 82 = .ok (.aload_n 0, 1) := by decide +kernel
theorem dX9_ever_83 : decode cX9_ever 83 = .ok (.getfield 21, 3) := by decide +kernel
theorem dX9_ever_86 : decode cX9_ever 86 = .ok (.invokevirtual 232, 3) := by decide +kernel
theorem dX9_ever_89 : decode cX9_ever 89 = .ok (.ifCond .eq 18, 3) := by decide +kernel
theorem dX9_ever_92 : decode cX9_ever 92 = .ok (.aload_n 0, 1) := by decide +kernel
theorem dX9_ever_93 : decode cX9_ever 93 = .ok (.getfield 52, 3) := by decide +kernel
theorem dX9_ever_96 : decode cX9_ever 96 = .ok (.aload_n 0, 1) := by decide +kernel
theorem dX9_ever_97 : decode cX9_ever 97 = .ok (.getfield 21, 3) := by decide +kernel
theorem dX9_ever_100 : decode cX9_ever 100 = .ok (.aload_n 0, 1) := by decide +kernel
theorem dX9_ever_101 : decode cX9_ever 101 = .ok (.getfield 59, 3) := by decide +kernel
theorem dX9_ever_104 : decode cX9_ever 104 = .ok (.invokevirtual 236, 3) := by decide +kernel
theorem dX9_ever_107 : decode cX9_ever 107 = .ok (.iinc 5 1, 3) := by decide +kernel
theorem dX9_ever_110 : decode cX9_ever 110 = .ok (.goto (-48), 3) := by decide +kernel
theorem dX9_ever_113 : decode cX9_ever 113 = .ok (.iload_n 3, 1) := by decide +kernel
theorem dX9_ever_114 : decode cX9_ever 114 = .ok (.iconst 4, 1) := by decide +kernel
theorem dX9_ever_115 : decode cX9_ever 115 = .ok (.if_icmp .ne 13, 3) := by decide +kernel
theorem dX9_ever_118 : decode cX9_ever 118 = .ok (.aload_n 0, 1) := by decide +kernel
theorem dX9_ever_119 : decode cX9_ever 119 = .ok (.getfield 59, 3) := by decide +kernel
theorem dX9_ever_122 : decode cX9_ever 122 = .ok (.invokevirtual 240, 3) := by decide +kernel
theorem dX9_ever_125 : decode cX9_ever 125 = .ok (.goto 11, 3) := by decide +kernel
theorem dX9_ever_128 : decode cX9_ever 128 = .ok (.aload_n 0, 1) := by decide +kernel
theorem dX9_ever_129 : decode cX9_ever 129 = .ok (.getfield 52, 3) := by decide +kernel
theorem dX9_ever_132 : decode cX9_ever 132 = .ok (.iload_n 3, 1) := by decide +kernel
theorem dX9_ever_133 : decode cX9_ever 133 = .ok (.invokevirtual 207, 3) := by decide +kernel
theorem dX9_ever_136 : decode cX9_ever 136 = .ok (.ireturn, 1) := by decide +kernel
theorem dX9_count_0 : decode cX9_count 0 = .ok (.iload_n 1, 1) := by decide +kernel
theorem dX9_count_1 : decode cX9_count 1 = .ok (.tableswitch 104 0 6 #[43, 54, 62, 71, 80, 88, 96], 43) := by decide +kernel
theorem dX9_count_44 : decode cX9_count 44 = .ok (.aload_n 0, 1) := by decide +kernel
theorem dX9_count_45 : decode cX9_count 45 = .ok (.getfield 21, 3) := by decide +kernel
theorem dX9_count_48 : decode cX9_count 48 = .ok (.getfield 95, 3) := by decide +kernel
theorem dX9_count_51 : decode cX9_count 51 = .ok (.getfield 90, 3) := by decide +kernel
theorem dX9_count_54 : decode cX9_count 54 = .ok (.ireturn, 1) := by decide +kernel
theorem dX9_count_55 : decode cX9_count 55 = .ok (.aload_n 0, 1) := by decide +kernel
theorem dX9_count_56 : decode cX9_count 56 = .ok (.getfield 21, 3) := by decide +kernel
theorem dX9_count_59 : decode cX9_count 59 = .ok (.getfield 243, 3) := by decide +kernel
theorem dX9_count_62 : decode cX9_count 62 = .ok (.ireturn, 1) := by decide +kernel
theorem dX9_count_63 : decode cX9_count 63 = .ok (.aload_n 0, 1) := by decide +kernel
theorem dX9_count_64 : decode cX9_count 64 = .ok (.getfield 31, 3) := by decide +kernel
theorem dX9_count_67 : decode cX9_count 67 = .ok (.iconst 0, 1) := by decide +kernel
theorem dX9_count_68 : decode cX9_count 68 = .ok (.invokevirtual 132, 3) := by decide +kernel
theorem dX9_count_71 : decode cX9_count 71 = .ok (.ireturn, 1) := by decide +kernel
theorem dX9_count_72 : decode cX9_count 72 = .ok (.aload_n 0, 1) := by decide +kernel
theorem dX9_count_73 : decode cX9_count 73 = .ok (.getfield 31, 3) := by decide +kernel
theorem dX9_count_76 : decode cX9_count 76 = .ok (.iconst 2, 1) := by decide +kernel
theorem dX9_count_77 : decode cX9_count 77 = .ok (.invokevirtual 132, 3) := by decide +kernel
theorem dX9_count_80 : decode cX9_count 80 = .ok (.ireturn, 1) := by decide +kernel
theorem dX9_count_81 : decode cX9_count 81 = .ok (.aload_n 0, 1) := by decide +kernel
theorem dX9_count_82 : decode cX9_count 82 = .ok (.getfield 31, 3) := by decide +kernel
theorem dX9_count_85 : decode cX9_count 85 = .ok (.invokevirtual 246, 3) := by decide +kernel
theorem dX9_count_88 : decode cX9_count 88 = .ok (.ireturn, 1) := by decide +kernel
theorem dX9_count_89 : decode cX9_count 89 = .ok (.aload_n 0, 1) := by decide +kernel
theorem dX9_count_90 : decode cX9_count 90 = .ok (.getfield 38, 3) := by decide +kernel
theorem dX9_count_93 : decode cX9_count 93 = .ok (.getfield 185, 3) := by decide +kernel
theorem dX9_count_96 : decode cX9_count 96 = .ok (.ireturn, 1) := by decide +kernel
theorem dX9_count_97 : decode cX9_count 97 = .ok (.aload_n 0, 1) := by decide +kernel
theorem dX9_count_98 : decode cX9_count 98 = .ok (.getfield 14, 3) := by decide +kernel
theorem dX9_count_101 : decode cX9_count 101 = .ok (.getfield 90, 3) := by decide +kernel
theorem dX9_count_104 : decode cX9_count 104 = .ok (.ireturn, 1) := by decide +kernel
theorem dX9_count_105 : decode cX9_count 105 = .ok (.iconst (-1), 1) := by decide +kernel
theorem dX9_count_106 : decode cX9_count 106 = .ok (.ireturn, 1) := by decide +kernel
theorem dX9_stepWithProbes_0 : decode cX9_stepWithProbes 0 = .ok (.aload_n 1, 1) := by decide +kernel
theorem dX9_stepWithProbes_1 : decode cX9_stepWithProbes 1 = .ok (.aload_n 0, 1) := by decide +kernel
theorem dX9_stepWithProbes_2 : decode cX9_stepWithProbes 2 = .ok (.getfield 21, 3) := by decide +kernel
theorem dX9_stepWithProbes_5 : decode cX9_stepWithProbes 5 = .ok (.invokevirtual 232, 3) := by decide +kernel
theorem dX9_stepWithProbes_8 : decode cX9_stepWithProbes 8 = .ok (.ifCond .ne 4, 3) := by decide +kernel
theorem dX9_stepWithProbes_11 : decode cX9_stepWithProbes 11 = .ok (.return_, 1) := by decide +kernel
theorem dX9_stepWithProbes_12 : decode cX9_stepWithProbes 12 = .ok (.aload_n 1, 1) := by decide +kernel
theorem dX9_stepWithProbes_13 : decode cX9_stepWithProbes 13 = .ok (.dup, 1) := by decide +kernel
theorem dX9_stepWithProbes_14 : decode cX9_stepWithProbes 14 = .ok (.getfield 171, 3) := by decide +kernel
theorem dX9_stepWithProbes_17 : decode cX9_stepWithProbes 17 = .ok (.iconst 1, 1) := by decide +kernel
theorem dX9_stepWithProbes_18 : decode cX9_stepWithProbes 18 = .ok (.iadd, 1) := by decide +kernel
theorem dX9_stepWithProbes_19 : decode cX9_stepWithProbes 19 = .ok (.putfield 171, 3) := by decide +kernel
theorem dX9_stepWithProbes_22 : decode cX9_stepWithProbes 22 = .ok (.aload_n 0, 1) := by decide +kernel
theorem dX9_stepWithProbes_23 : decode cX9_stepWithProbes 23 = .ok (.getfield 31, 3) := by decide +kernel
theorem dX9_stepWithProbes_26 : decode cX9_stepWithProbes 26 = .ok (.aload_n 1, 1) := by decide +kernel
theorem dX9_stepWithProbes_27 : decode cX9_stepWithProbes 27 = .ok (.getfield 249, 3) := by decide +kernel
theorem dX9_stepWithProbes_30 : decode cX9_stepWithProbes 30 = .ok (.invokevirtual 105, 3) := by decide +kernel
theorem dX9_stepWithProbes_33 : decode cX9_stepWithProbes 33 = .ok (.astore_n 2, 1) := by decide +kernel
theorem dX9_stepWithProbes_34 : decode cX9_stepWithProbes 34 = .ok (.aload_n 2, 1) := by decide +kernel
theorem dX9_stepWithProbes_35 : decode cX9_stepWithProbes 35 = .ok (.ifnull 16, 3) := by decide +kernel
theorem dX9_stepWithProbes_38 : decode cX9_stepWithProbes 38 = .ok (.aload_n 2, 1) := by decide +kernel
theorem dX9_stepWithProbes_39 : decode cX9_stepWithProbes 39 = .ok (.getfield 129, 3) := by decide +kernel
theorem dX9_stepWithProbes_42 : decode cX9_stepWithProbes 42 = .ok (.ifCond .ne 9, 3) := by decide +kernel
theorem dX9_stepWithProbes_45 : decode cX9_stepWithProbes 45 = .ok (.aload_n 0, 1) := by decide +kernel
theorem dX9_stepWithProbes_46 : decode cX9_stepWithProbes 46 = .ok (.aload_n 1, 1) := by decide +kernel
theorem dX9_stepWithProbes_47 : decode cX9_stepWithProbes 47 = .ok (.aload_n 2, 1) := by decide +kernel
theorem dX9_stepWithProbes_48 : decode cX9_stepWithProbes 48 = .ok (.invokevirtual 252, 3) := by decide +kernel
theorem dX9_stepWithProbes_51 : decode cX9_stepWithProbes 51 = .ok (.aload_n 0, 1) := by decide +kernel
theorem dX9_stepWithProbes_52 : decode cX9_stepWithProbes 52 = .ok (.getfield 21, 3) := by decide +kernel
theorem dX9_stepWithProbes_55 : decode cX9_stepWithProbes 55 = .ok (.aload_n 1, 1) := by decide +kernel
theorem dX9_stepWithProbes_56 : decode cX9_stepWithProbes 56 = .ok (.getfield 249, 3) := by decide +kernel
theorem dX9_stepWithProbes_59 : decode cX9_stepWithProbes 59 = .ok (.invokevirtual 194, 3) := by decide +kernel
theorem dX9_stepWithProbes_62 : decode cX9_stepWithProbes 62 = .ok (.bipush 114, 2) := by decide +kernel
theorem dX9_stepWithProbes_64 : decode cX9_stepWithProbes 64 = .ok (.if_icmp .ne 10, 3) := by decide +kernel
theorem dX9_stepWithProbes_67 : decode cX9_stepWithProbes 67 = .ok (.aload_n 1, 1) := by decide +kernel
theorem dX9_stepWithProbes_68 : decode cX9_stepWithProbes 68 = .ok (.invokevirtual 256, 3) := by decide +kernel
theorem dX9_stepWithProbes_71 : decode cX9_stepWithProbes 71 = .ok (.goto 4, 3) := by decide +kernel
theorem dX9_stepWithProbes_74 : decode cX9_stepWithProbes 74 = .ok (.iconst (-1), 1) := by decide +kernel
theorem dX9_stepWithProbes_75 : decode cX9_stepWithProbes 75 = .ok (.istore_n 3, 1) := by decide +kernel
theorem dX9_stepWithProbes_76 : decode cX9_stepWithProbes 76 = .ok (.aload_n 1, 1) := by decide +kernel
theorem dX9_stepWithProbes_77 : decode cX9_stepWithProbes 77 = .ok (.aload_n 0, 1) := by decide +kernel
theorem dX9_stepWithProbes_78 : decode cX9_stepWithProbes 78 = .ok (.getfield 21, 3) := by decide +kernel
theorem dX9_stepWithProbes_81 : decode cX9_stepWithProbes 81 = .ok (.aload_n 0, 1) := by decide +kernel
theorem dX9_stepWithProbes_82 : decode cX9_stepWithProbes 82 = .ok (.getfield 31, 3) := by decide +kernel
theorem dX9_stepWithProbes_85 : decode cX9_stepWithProbes 85 = .ok (.getfield 139, 3) := by decide +kernel
theorem dX9_stepWithProbes_88 : decode cX9_stepWithProbes 88 = .ok (.invokevirtual 236, 3) := by decide +kernel
theorem dX9_stepWithProbes_91 : decode cX9_stepWithProbes 91 = .ok (.aload_n 0, 1) := by decide +kernel
theorem dX9_stepWithProbes_92 : decode cX9_stepWithProbes 92 = .ok (.getfield 31, 3) := by decide +kernel
theorem dX9_stepWithProbes_95 : decode cX9_stepWithProbes 95 = .ok (.iload_n 3, 1) := by decide +kernel
theorem dX9_stepWithProbes_96 : decode cX9_stepWithProbes 96 = .ok (.invokevirtual 222, 3) := by decide +kernel
theorem dX9_stepWithProbes_99 : decode cX9_stepWithProbes 99 = .ok (.astore 4, 2) := by decide +kernel
theorem dX9_stepWithProbes_101 : decode cX9_stepWithProbes 101 = .ok (.aload 4, 2) := by decide +kernel
theorem dX9_stepWithProbes_103 : decode cX9_stepWithProbes 103 = .ok (.ifnull 10, 3) := by decide +kernel
theorem dX9_stepWithProbes_106 : decode cX9_stepWithProbes 106 = .ok (.aload_n 0, 1) := by decide +kernel
theorem dX9_stepWithProbes_107 : decode cX9_stepWithProbes 107 = .ok (.aload_n 1, 1) := by decide +kernel
theorem dX9_stepWithProbes_108 : decode cX9_stepWithProbes 108 = .ok (.aload 4, 2) := by decide +kernel
theorem dX9_stepWithProbes_110 : decode cX9_stepWithProbes 110 = .ok (.invokevirtual 259, 3) := by decide +kernel
theorem dX9_stepWithProbes_113 : decode cX9_stepWithProbes 113 = .ok (.return_, 1) := by decide +kernel
theorem dX9_comeBy_0 : decode cX9_comeBy 0 = .ok (.aload_n 2, 1) := by decide +kernel
theorem dX9_comeBy_1 : decode cX9_comeBy 1 = .ok (.getfield 262, 3) := by decide +kernel
theorem dX9_comeBy_4 : decode cX9_comeBy 4 = .ok (.ifCond .ne 12, 3) := by decide +kernel
theorem dX9_comeBy_7 : decode cX9_comeBy 7 = .ok (.aload_n 0, 1) := by decide +kernel
theorem dX9_comeBy_8 : decode cX9_comeBy 8 = .ok (.aload_n 1, 1) := by decide +kernel
theorem dX9_comeBy_9 : decode cX9_comeBy 9 = .ok (.aload_n 2, 1) := by decide +kernel
theorem dX9_comeBy_10 : decode cX9_comeBy 10 = .ok (.invokevirtual 265, 3) := by decide +kernel
theorem dX9_comeBy_13 : decode cX9_comeBy 13 = .ok (.goto 45, 3) := by decide +kernel
theorem dX9_comeBy_16 : decode cX9_comeBy 16 = .ok (.aload_n 2, 1) := by decide +kernel
theorem dX9_comeBy_17 : decode cX9_comeBy 17 = .ok (.getfield 268, 3) := by decide +kernel
theorem dX9_comeBy_20 : decode cX9_comeBy 20 = .ok (.iconst 3, 1) := by decide +kernel
theorem dX9_comeBy_21 : decode cX9_comeBy 21 = .ok (.if_icmp .ge 14, 3) := by decide +kernel
theorem dX9_comeBy_24 : decode cX9_comeBy 24 = .ok (.aload_n 1, 1) := by decide +kernel
theorem dX9_comeBy_25 : decode cX9_comeBy 25 = .ok (.aload_n 2, 1) := by decide +kernel
theorem dX9_comeBy_26 : decode cX9_comeBy 26 = .ok (.getfield 123, 3) := by decide +kernel
theorem dX9_comeBy_29 : decode cX9_comeBy 29 = .ok (.invokevirtual 271, 3) := by decide +kernel
theorem dX9_comeBy_32 : decode cX9_comeBy 32 = .ok (.ifCond .ne 16, 3) := by decide +kernel
theorem dX9_comeBy_35 : decode cX9_comeBy 35 = .ok (.aload_n 2, 1) := by decide +kernel
theorem dX9_comeBy_36 : decode cX9_comeBy 36 = .ok (.dup, 1) := by decide +kernel
theorem dX9_comeBy_37 : decode cX9_comeBy 37 = .ok (.getfield 274, 3) := by decide +kernel
theorem dX9_comeBy_40 : decode cX9_comeBy 40 = .ok (.iconst 1, 1) := by decide +kernel
theorem dX9_comeBy_41 : decode cX9_comeBy 41 = .ok (.iadd, 1) := by decide +kernel
theorem dX9_comeBy_42 : decode cX9_comeBy 42 = .ok (.putfield 274, 3) := by decide +kernel
theorem dX9_comeBy_45 : decode cX9_comeBy 45 = .ok (.goto 13, 3) := by decide +kernel
theorem dX9_comeBy_48 : decode cX9_comeBy 48 = .ok (.aload_n 2, 1) := by decide +kernel
theorem dX9_comeBy_49 : decode cX9_comeBy 49 = .ok (.dup, 1) := by decide +kernel
theorem dX9_comeBy_50 : decode cX9_comeBy 50 = .ok (.getfield 268, 3) := by decide +kernel
theorem dX9_comeBy_53 : decode cX9_comeBy 53 = .ok (.iconst 1, 1) := by decide +kernel
theorem dX9_comeBy_54 : decode cX9_comeBy 54 = .ok (.iadd, 1) := by decide +kernel
theorem dX9_comeBy_55 : decode cX9_comeBy 55 = .ok (.putfield 268, 3) := by decide +kernel
theorem dX9_comeBy_58 : decode cX9_comeBy 58 = .ok (.return_, 1) := by decide +kernel
theorem dX9_leave_0 : decode cX9_leave 0 = .ok (.aload_n 2, 1) := by decide +kernel
theorem dX9_leave_1 : decode cX9_leave 1 = .ok (.dup, 1) := by decide +kernel
theorem dX9_leave_2 : decode cX9_leave 2 = .ok (.getfield 268, 3) := by decide +kernel
theorem dX9_leave_5 : decode cX9_leave 5 = .ok (.iconst 1, 1) := by decide +kernel
theorem dX9_leave_6 : decode cX9_leave 6 = .ok (.isub, 1) := by decide +kernel
theorem dX9_leave_7 : decode cX9_leave 7 = .ok (.putfield 268, 3) := by decide +kernel
theorem dX9_leave_10 : decode cX9_leave 10 = .ok (.aload_n 2, 1) := by decide +kernel
theorem dX9_leave_11 : decode cX9_leave 11 = .ok (.getfield 129, 3) := by decide +kernel
theorem dX9_leave_14 : decode cX9_leave 14 = .ok (.ifCond .ne 9, 3) := by decide +kernel
theorem dX9_leave_17 : decode cX9_leave 17 = .ok (.aload_n 0, 1) := by decide +kernel
theorem dX9_leave_18 : decode cX9_leave 18 = .ok (.aload_n 1, 1) := by decide +kernel
theorem dX9_leave_19 : decode cX9_leave 19 = .ok (.aload_n 2, 1) := by decide +kernel
theorem dX9_leave_20 : decode cX9_leave 20 = .ok (.invokevirtual 265, 3) := by decide +kernel
theorem dX9_leave_23 : decode cX9_leave 23 = .ok (.aload_n 2, 1) := by decide +kernel
theorem dX9_leave_24 : decode cX9_leave 24 = .ok (.invokevirtual 136, 3) := by decide +kernel
theorem dX9_leave_27 : decode cX9_leave 27 = .ok (.return_, 1) := by decide +kernel
theorem dX9_hit_0 : decode cX9_hit 0 = .ok (.aload_n 2, 1) := by decide +kernel
theorem dX9_hit_1 : decode cX9_hit 1 = .ok (.dup, 1) := by decide +kernel
theorem dX9_hit_2 : decode cX9_hit 2 = .ok (.getfield 277, 3) := by decide +kernel
theorem dX9_hit_5 : decode cX9_hit 5 = .ok (.iconst 1, 1) := by decide +kernel
theorem dX9_hit_6 : decode cX9_hit 6 = .ok (.iadd, 1) := by decide +kernel
theorem dX9_hit_7 : decode cX9_hit 7 = .ok (.putfield 277, 3) := by decide +kernel
theorem dX9_hit_10 : decode cX9_hit 10 = .ok (.aload_n 2, 1) := by decide +kernel
theorem dX9_hit_11 : decode cX9_hit 11 = .ok (.getfield 150, 3) := by decide +kernel
theorem dX9_hit_14 : decode cX9_hit 14 = .ok (.ifnull 41, 3) := by decide +kernel
theorem dX9_hit_17 : decode cX9_hit 17 = .ok (.aload_n 0, 1) := by decide +kernel
theorem dX9_hit_18 : decode cX9_hit 18 = .ok (.getfield 45, 3) := by decide +kernel
theorem dX9_hit_21 : decode cX9_hit 21 = .ok (.aload_n 2, 1) := by decide +kernel
theorem dX9_hit_22 : decode cX9_hit 22 = .ok (.getfield 150, 3) := by decide +kernel
theorem dX9_hit_25 : decode cX9_hit 25 = .ok (.aload_n 1, 1) := by decide +kernel
theorem dX9_hit_26 : decode cX9_hit 26 = .ok (.getfield 280, 3) := by decide +kernel
theorem dX9_hit_29 : decode cX9_hit 29 = .ok (.aload_n 0, 1) := by decide +kernel
theorem dX9_hit_30 : decode cX9_hit 30 = .ok (.getfield 31, 3) := by decide +kernel
theorem dX9_hit_33 : decode cX9_hit 33 = .ok (.getfield 139, 3) := by decide +kernel
theorem dX9_hit_36 : decode cX9_hit 36 = .ok (.invokevirtual 142, 3) := by decide +kernel
theorem dX9_hit_39 : decode cX9_hit 39 = .ok (.ifCond .ne 16, 3) := by decide +kernel
theorem dX9_hit_42 : decode cX9_hit 42 = .ok (.aload_n 2, 1) := by decide +kernel
theorem dX9_hit_43 : decode cX9_hit 43 = .ok (.dup, 1) := by decide +kernel
theorem dX9_hit_44 : decode cX9_hit 44 = .ok (.getfield 283, 3) := by decide +kernel
theorem dX9_hit_47 : decode cX9_hit 47 = .ok (.iconst 1, 1) := by decide +kernel
theorem dX9_hit_48 : decode cX9_hit 48 = .ok (.iadd, 1) := by decide +kernel
theorem dX9_hit_49 : decode cX9_hit 49 = .ok (.putfield 283, 3) := by decide +kernel
theorem dX9_hit_52 : decode cX9_hit 52 = .ok (.goto 22, 3) := by decide +kernel
theorem dX9_hit_55 : decode cX9_hit 55 = .ok (.aload_n 1, 1) := by decide +kernel
theorem dX9_hit_56 : decode cX9_hit 56 = .ok (.getfield 197, 3) := by decide +kernel
theorem dX9_hit_59 : decode cX9_hit 59 = .ok (.aload_n 2, 1) := by decide +kernel
theorem dX9_hit_60 : decode cX9_hit 60 = .ok (.getfield 123, 3) := by decide +kernel
theorem dX9_hit_63 : decode cX9_hit 63 = .ok (.aload_n 1, 1) := by decide +kernel
theorem dX9_hit_64 : decode cX9_hit 64 = .ok (.getfield 280, 3) := by decide +kernel
theorem dX9_hit_67 : decode cX9_hit 67 = .ok (.aload_n 1, 1) := by decide +kernel
theorem dX9_hit_68 : decode cX9_hit 68 = .ok (.getfield 171, 3) := by decide +kernel
theorem dX9_hit_71 : decode cX9_hit 71 = .ok (.invokevirtual 286, 3) := by decide +kernel
theorem dX9_hit_74 : decode cX9_hit 74 = .ok (.return_, 1) := by decide +kernel
theorem dX9_within_0 : decode cX9_within 0 = .ok (.iload_n 0, 1) := by decide +kernel
theorem dX9_within_1 : decode cX9_within 1 = .ok (.iload_n 1, 1) := by decide +kernel
theorem dX9_within_2 : decode cX9_within 2 = .ok (.if_icmp .lt 12, 3) := by decide +kernel
theorem dX9_within_5 : decode cX9_within 5 = .ok (.iload_n 0, 1) := by decide +kernel
theorem dX9_within_6 : decode cX9_within 6 = .ok (.iload_n 2, 1) := by decide +kernel
theorem dX9_within_7 : decode cX9_within 7 = .ok (.if_icmp .gt 7, 3) := by decide +kernel
theorem dX9_within_10 : decode cX9_within 10 = .ok (.iconst 1, 1) := by decide +kernel
theorem dX9_within_11 : decode cX9_within 11 = .ok (.goto 4, 3) := by decide +kernel
theorem dX9_within_14 : decode cX9_within 14 = .ok (.iconst 0, 1) := by decide +kernel
theorem dX9_within_15 : decode cX9_within 15 = .ok (.ireturn, 1) := by decide +kernel
theorem dX9_isNumber_0 : decode cX9_isNumber 0 = .ok (.iload_n 0, 1) := by decide +kernel
theorem dX9_isNumber_1 : decode cX9_isNumber 1 = .ok (.iconst 0, 1) := by decide +kernel
theorem dX9_isNumber_2 : decode cX9_isNumber 2 = .ok (.sipush 999, 3) := by decide +kernel
theorem dX9_isNumber_5 : decode cX9_isNumber 5 = .ok (.invokestatic 86, 3) := by decide +kernel
theorem dX9_isNumber_8 : decode cX9_isNumber 8 = .ok (.ireturn, 1) := by decide +kernel
theorem dX9_widthOf_0 : decode cX9_widthOf 0 = .ok (.iload_n 0, 1) := by decide +kernel
theorem dX9_widthOf_1 : decode cX9_widthOf 1 = .ok (.tableswitch 117 99 122 #[115, 111, 117, 117, 117, 111, 111, 115, 117, 113, 117, 117, 117, 113, 117, 111, 113, 117, 117, 117, 117, 117, 117, 115], 111) := by decide +kernel
theorem dX9_widthOf_112 : decode cX9_widthOf 112 = .ok (.iconst 1, 1) := by decide +kernel
theorem dX9_widthOf_113 : decode cX9_widthOf 113 = .ok (.ireturn, 1) := by decide +kernel
theorem dX9_widthOf_114 : decode cX9_widthOf 114 = .ok (.iconst 2, 1) := by decide +kernel
theorem dX9_widthOf_115 : decode cX9_widthOf 115 = .ok (.ireturn, 1) := by decide +kernel
theorem dX9_widthOf_116 : decode cX9_widthOf 116 = .ok (.iconst 3, 1) := by decide +kernel
theorem dX9_widthOf_117 : decode cX9_widthOf 117 = .ok (.ireturn, 1) := by decide +kernel
theorem dX9_widthOf_118 : decode cX9_widthOf 118 = .ok (.iconst 0, 1) := by decide +kernel
theorem dX9_widthOf_119 : decode cX9_widthOf 119 = .ok (.ireturn, 1) := by decide +kernel
theorem dX10_init_0 : decode cX10_init 0 = .ok (.aload_n 0, 1) := by decide +kernel
theorem dX10_init_1 : decode cX10_init 1 = .ok (.invokespecial 1, 3) := by decide +kernel
theorem dX10_init_4 : decode cX10_init 4 = .ok (.aload_n 0, 1) := by decide +kernel
theorem dX10_init_5 : decode cX10_init 5 = .ok (.sipush 200, 3) := by decide +kernel
theorem dX10_init_8 : decode cX10_init 8 = .ok (.newarray .int, 2) := by decide +kernel
theorem dX10_init_10 : decode cX10_init 10 = .ok (.putfield 7, 3) := by decide +kernel
theorem dX10_init_13 : decode cX10_init 13 = .ok (.aload_n 0, 1) := by decide +kernel
theorem dX10_init_14 : decode cX10_init 14 = .ok (.bipush 60, 2) := by decide +kernel
theorem dX10_init_16 : decode cX10_init 16 = .ok (.newarray .int, 2) := by decide +kernel
theorem dX10_init_18 : decode cX10_init 18 = .ok (.putfield 13, 3) := by decide +kernel
theorem dX10_init_21 : decode cX10_init 21 = .ok (.aload_n 0, 1) := by decide +kernel
theorem dX10_init_22 : decode cX10_init 22 = .ok (.bipush 60, 2) := by decide +kernel
theorem dX10_init_24 : decode cX10_init 24 = .ok (.newarray .boolean, 2) := by decide +kernel
theorem dX10_init_26 : decode cX10_init 26 = .ok (.putfield 16, 3) := by decide +kernel
theorem dX10_init_29 : decode cX10_init 29 = .ok (.aload_n 0, 1) := by decide +kernel
theorem dX10_init_30 : decode cX10_init 30 = .ok (.sipush 1318, 3) := by decide +kernel
theorem dX10_init_33 : decode cX10_init 33 = .ok (.newarray .int, 2) := by decide +kernel
theorem dX10_init_35 : decode cX10_init 35 = .ok (.putfield 20, 3) := by decide +kernel
theorem dX10_init_38 : decode cX10_init 38 = .ok (.aload_n 0, 1) := by decide +kernel
theorem dX10_init_39 : decode cX10_init 39 = .ok (.sipush 1318, 3) := by decide +kernel
theorem dX10_init_42 : decode cX10_init 42 = .ok (.newarray .int, 2) := by decide +kernel
theorem dX10_init_44 : decode cX10_init 44 = .ok (.putfield 23, 3) := by decide +kernel
theorem dX10_init_47 : decode cX10_init 47 = .ok (.aload_n 0, 1) := by decide +kernel
theorem dX10_init_48 : decode cX10_init 48 = .ok (.sipush 5272, 3) := by decide +kernel
theorem dX10_init_51 : decode cX10_init 51 = .ok (.newarray .int, 2) := by decide +kernel
theorem dX10_init_53 : decode cX10_init 53 = .ok (.putfield 26, 3) := by decide +kernel
theorem dX10_init_56 : decode cX10_init 56 = .ok (.aload_n 0, 1) := by decide +kernel
theorem dX10_init_57 : decode cX10_init 57 = .ok (.sipush 200, 3) := by decide +kernel
theorem dX10_init_60 : decode cX10_init 60 = .ok (.newarray .boolean, 2) := by decide +kernel
theorem dX10_init_62 : decode cX10_init 62 = .ok (.putfield 29, 3) := by decide +kernel
theorem dX10_init_65 : decode cX10_init 65 = .ok (.aload_n 0, 1) := by decide +kernel
theorem dX10_init_66 : decode cX10_init 66 = .ok (.iconst 5, 1) := by decide +kernel
theorem dX10_init_67 : decode cX10_init 67 = .ok (.newarray .int, 2) := by decide +kernel
theorem dX10_init_69 : decode cX10_init 69 = .ok (.putfield 32, 3) := by decide +kernel
theorem dX10_init_72 : decode cX10_init 72 = .ok (.aload_n 0, 1) := by decide +kernel
theorem dX10_init_73 : decode cX10_init 73 = .ok (.bipush 108, 2) := by decide +kernel
theorem dX10_init_75 : decode cX10_init 75 = .ok (.iconst 0, 1) := by decide +kernel
theorem dX10_init_76 : decode cX10_init 76 = .ok (.invokevirtual 35, 3) := by decide +kernel
theorem dX10_init_79 : decode cX10_init 79 = .ok (.aload_n 0, 1) := by decide +kernel
theorem dX10_init_80 : decode cX10_init 80 = .ok (.bipush 122, 2) := by decide +kernel
theorem dX10_init_82 : decode cX10_init 82 = .ok (.bipush 13, 2) := by decide +kernel
theorem dX10_init_84 : decode cX10_init 84 = .ok (.invokevirtual 39, 3) := by decide +kernel
theorem dX10_init_87 : decode cX10_init 87 = .ok (.aload_n 0, 1) := by decide +kernel
theorem dX10_init_88 : decode cX10_init 88 = .ok (.bipush 99, 2) := by decide +kernel
theorem dX10_init_90 : decode cX10_init 90 = .ok (.bipush 14, 2) := by decide +kernel
theorem dX10_init_92 : decode cX10_init 92 = .ok (.invokevirtual 39, 3) := by decide +kernel
theorem dX10_init_95 : decode cX10_init 95 = .ok (.aload_n 0, 1) := by decide +kernel
theorem dX10_init_96 : decode cX10_init 96 = .ok (.bipush 115, 2) := by decide +kernel
theorem dX10_init_98 : decode cX10_init 98 = .ok (.iconst 0, 1) := by decide +kernel
theorem dX10_init_99 : decode cX10_init 99 = .ok (.invokevirtual 35, 3) := by decide +kernel
theorem dX10_init_102 : decode cX10_init 102 = .ok (.aload_n 0, 1) := by decide +kernel
theorem dX10_init_103 : decode cX10_init 103 = .ok (.bipush 106, 2) := by decide +kernel
theorem dX10_init_105 : decode cX10_init 105 = .ok (.iconst 0, 1) := by decide +kernel
theorem dX10_init_106 : decode cX10_init 106 = .ok (.invokevirtual 39, 3) := by decide +kernel
theorem dX10_init_109 : decode cX10_init 109 = .ok (.aload_n 0, 1) := by decide +kernel
theorem dX10_init_110 : decode cX10_init 110 = .ok (.bipush 104, 2) := by decide +kernel
theorem dX10_init_112 : decode cX10_init 112 = .ok (.invokevirtual 42, 3) := by decide +kernel
theorem dX10_init_115 : decode cX10_init 115 = .ok (.aload_n 0, 1) := by decide +kernel
theorem dX10_init_116 : decode cX10_init 116 = .ok (.bipush 108, 2) := by decide +kernel
theorem dX10_init_118 : decode cX10_init 118 = .ok (.iconst 1, 1) := by decide +kernel
theorem dX10_init_119 : decode cX10_init 119 = .ok (.invokevirtual 35, 3) := by decide +kernel
theorem dX10_init_122 : decode cX10_init 122 = .ok (.aload_n 0, 1) := by decide +kernel
theorem dX10_init_123 : decode cX10_init 123 = .ok (.bipush 112, 2) := by decide +kernel
theorem dX10_init_125 : decode cX10_init 125 = .ok (.iconst 2, 1) := by decide +kernel
theorem dX10_init_126 : decode cX10_init 126 = .ok (.invokevirtual 35, 3) := by decide +kernel
theorem dX10_init_129 : decode cX10_init 129 = .ok (.aload_n 0, 1) := by decide +kernel
theorem dX10_init_130 : decode cX10_init 130 = .ok (.bipush 115, 2) := by decide +kernel
theorem dX10_init_132 : decode cX10_init 132 = .ok (.iconst 1, 1) := by decide +kernel
theorem dX10_init_133 : decode cX10_init 133 = .ok (.invokevirtual 35, 3) := by decide +kernel
theorem dX10_init_136 : decode cX10_init 136 = .ok (.aload_n 0, 1) := by decide +kernel
theorem dX10_init_137 : decode cX10_init 137 = .ok (.bipush 108, 2) := by decide +kernel
theorem dX10_init_139 : decode cX10_init 139 = .ok (.iconst 0, 1) := by decide +kernel
theorem dX10_init_140 : decode cX10_init 140 = .ok (.invokevirtual 35, 3) := by decide +kernel
theorem dX10_init_143 : decode cX10_init 143 = .ok (.aload_n 0, 1) := by decide +kernel
theorem dX10_init_144 : decode cX10_init 144 = .ok (.bipush 100, 2) := by decide +kernel
theorem dX10_init_146 : decode cX10_init 146 = .ok (.invokevirtual 42, 3) := by decide +kernel
theorem dX10_init_149 : decode cX10_init 149 = .ok (.aload_n 0, 1) := by decide +kernel
theorem dX10_init_150 : decode cX10_init 150 = .ok (.bipush 114, 2) := by decide +kernel
theorem dX10_init_152 : decode cX10_init 152 = .ok (.invokevirtual 42, 3) := by decide +kernel
theorem dX10_init_155 : decode cX10_init 155 = .ok (.aload_n 0, 1) := by decide +kernel
theorem dX10_init_156 : decode cX10_init 156 = .ok (.invokevirtual 46, 3) := by decide +kernel
theorem dX10_init_159 : decode cX10_init 159 = .ok (.return_, 1) := by decide +kernel
theorem dX10_none_0 : decode cX10_none 0 = .ok (.aload_n 0, 1) := by decide +kernel
theorem dX10_none_1 : decode cX10_none 1 = .ok (.getfield 16, 3) := by decide +kernel
theorem dX10_none_4 : decode cX10_none 4 = .ok (.aload_n 0, 1) := by decide +kernel
theorem dX10_none_5 : decode cX10_none 5 = .ok (.getfield 49, 3) := by decide +kernel
theorem dX10_none_8 : decode cX10_none 8 = .ok (.iconst 1, 1) := by decide +kernel
theorem dX10_none_9 : decode cX10_none 9 = .ok (.bastore, 1) := by decide +kernel
theorem dX10_none_10 : decode cX10_none 10 = .ok (.aload_n 0, 1) := by decide +kernel
theorem dX10_none_11 : decode cX10_none 11 = .ok (.getfield 13, 3) := by decide +kernel
theorem dX10_none_14 : decode cX10_none 14 = .ok (.aload_n 0, 1) := by decide +kernel
theorem dX10_none_15 : decode cX10_none 15 = .ok (.getfield 49, 3) := by decide +kernel
theorem dX10_none_18 : decode cX10_none 18 = .ok (.iload_n 1, 1) := by decide +kernel
theorem dX10_none_19 : decode cX10_none 19 = .ok (.iastore, 1) := by decide +kernel
theorem dX10_none_20 : decode cX10_none 20 = .ok (.aload_n 0, 1) := by decide +kernel
theorem dX10_none_21 : decode cX10_none 21 = .ok (.dup, 1) := by decide +kernel
theorem dX10_none_22 : decode cX10_none 22 = .ok (.getfield 49, 3) := by decide +kernel
theorem dX10_none_25 : decode cX10_none 25 = .ok (.iconst 1, 1) := by decide +kernel
theorem dX10_none_26 : decode cX10_none 26 = .ok (.iadd, 1) := by decide +kernel
theorem dX10_none_27 : decode cX10_none 27 = .ok (.putfield 49, 3) := by decide +kernel
theorem dX10_none_30 : decode cX10_none 30 = .ok (.return_, 1) := by decide +kernel
theorem dX10_one_0 : decode cX10_one 0 = .ok (.aload_n 0, 1) := by decide +kernel
theorem dX10_one_1 : decode cX10_one 1 = .ok (.iload_n 1, 1) := by decide +kernel
theorem dX10_one_2 : decode cX10_one 2 = .ok (.invokevirtual 42, 3) := by decide +kernel
theorem dX10_one_5 : decode cX10_one 5 = .ok (.aload_n 0, 1) := by decide +kernel
theorem dX10_one_6 : decode cX10_one 6 = .ok (.getfield 13, 3) := by decide +kernel
theorem dX10_one_9 : decode cX10_one 9 = .ok (.aload_n 0, 1) := by decide +kernel
theorem dX10_one_10 : decode cX10_one 10 = .ok (.getfield 49, 3) := by decide +kernel
theorem dX10_one_13 : decode cX10_one 13 = .ok (.bipush 48, 2) := by decide +kernel
theorem dX10_one_15 : decode cX10_one 15 = .ok (.iload_n 2, 1) := by decide +kernel
theorem dX10_one_16 : decode cX10_one 16 = .ok (.iadd, 1) := by decide +kernel
theorem dX10_one_17 : decode cX10_one 17 = .ok (.iastore, 1) := by decide +kernel
theorem dX10_one_18 : decode cX10_one 18 = .ok (.aload_n 0, 1) := by decide +kernel
theorem dX10_one_19 : decode cX10_one 19 = .ok (.dup, 1) := by decide +kernel
theorem dX10_one_20 : decode cX10_one 20 = .ok (.getfield 49, 3) := by decide +kernel
theorem dX10_one_23 : decode cX10_one 23 = .ok (.iconst 1, 1) := by decide +kernel
theorem dX10_one_24 : decode cX10_one 24 = .ok (.iadd, 1) := by decide +kernel
theorem dX10_one_25 : decode cX10_one 25 = .ok (.putfield 49, 3) := by decide +kernel
theorem dX10_one_28 : decode cX10_one 28 = .ok (.return_, 1) := by decide +kernel
theorem dX10_two_0 : decode cX10_two 0 = .ok (.aload_n 0, 1) := by decide +kernel
theorem dX10_two_1 : decode cX10_two 1 = .ok (.iload_n 1, 1) := by decide +kernel
theorem dX10_two_2 : decode cX10_two 2 = .ok (.iload_n 2, 1) := by decide +kernel
theorem dX10_two_3 : decode cX10_two 3 = .ok (.bipush 10, 2) := by decide +kernel
theorem dX10_two_5 : decode cX10_two 5 = .ok (.idiv, 1) := by decide +kernel
theorem dX10_two_6 : decode cX10_two 6 = .ok (.invokevirtual 35, 3) := by decide +kernel
theorem dX10_two_9 : decode cX10_two 9 = .ok (.aload_n 0, 1) := by decide +kernel
theorem dX10_two_10 : decode cX10_two 10 = .ok (.getfield 13, 3) := by decide +kernel
theorem dX10_two_13 : decode cX10_two 13 = .ok (.aload_n 0, 1) := by decide +kernel
theorem dX10_two_14 : decode cX10_two 14 = .ok (.getfield 49, 3) := by decide +kernel
theorem dX10_two_17 : decode cX10_two 17 = .ok (.bipush 48, 2) := by decide +kernel
theorem dX10_two_19 : decode cX10_two 19 = .ok (.iload_n 2, 1) := by decide +kernel
theorem dX10_two_20 : decode cX10_two 20 = .ok (.bipush 10, 2) := by decide +kernel
theorem dX10_two_22 : decode cX10_two 22 = .ok (.irem, 1) := by decide +kernel
theorem dX10_two_23 : decode cX10_two 23 = .ok (.iadd, 1) := by decide +kernel
theorem dX10_two_24 : decode cX10_two 24 = .ok (.iastore, 1) := by decide +kernel
theorem dX10_two_25 : decode cX10_two 25 = .ok (.aload_n 0, 1) := by decide +kernel
theorem dX10_two_26 : decode cX10_two 26 = .ok (.dup, 1) := by decide +kernel
theorem dX10_two_27 : decode cX10_two 27 = .ok (.getfield 49, 3) := by decide +kernel
theorem dX10_two_30 : decode cX10_two 30 = .ok (.iconst 1, 1) := by decide +kernel
theorem dX10_two_31 : decode cX10_two 31 = .ok (.iadd, 1) := by decide +kernel
theorem dX10_two_32 : decode cX10_two 32 = .ok (.putfield 49, 3) := by decide +kernel
theorem dX10_two_35 : decode cX10_two 35 = .ok (.return_, 1) := by decide +kernel
theorem dX10_empties_0 : decode cX10_empties 0 = .ok (.iconst 0, 1) := by decide +kernel
theorem dX10_empties_1 : decode cX10_empties 1 = .ok (.istore_n 1, 1) := by decide +kernel
theorem dX10_empties_2 : decode cX10_empties 2 = .ok (.iload_n 1, 1) := by decide +kernel
theorem dX10_empties_3 : decode cX10_empties 3 = .ok (.sipush 1318, 3) := by decide +kernel
theorem dX10_empties_6 : decode cX10_empties 6 = .ok (.if_icmp .ge 16, 3) := by decide +kernel
theorem dX10_empties_9 : decode cX10_empties 9 = .ok (.aload_n 0, 1) := by decide +kernel
theorem dX10_empties_10 : decode cX10_empties 10 = .ok (.getfield 20, 3) := by decide +kernel
theorem dX10_empties_13 : decode cX10_empties 13 = .ok (.iload_n 1, 1) := by decide +kernel
theorem dX10_empties_14 : decode cX10_empties 14 = .ok (.iconst 0, 1) := by decide +kernel
theorem dX10_empties_15 : decode cX10_empties 15 = .ok (.iastore, 1) := by decide +kernel
theorem dX10_empties_16 : decode cX10_empties 16 = .ok (.iinc 1 1, 3) := by decide +kernel
theorem dX10_empties_19 : decode cX10_empties 19 = .ok (.goto (-17), 3) := by decide +kernel
theorem dX10_empties_22 : decode cX10_empties 22 = .ok (.iconst 0, 1) := by decide +kernel
theorem dX10_empties_23 : decode cX10_empties 23 = .ok (.istore_n 1, 1) := by decide +kernel
theorem dX10_empties_24 : decode cX10_empties 24 = .ok (.iload_n 1, 1) := by decide +kernel
theorem dX10_empties_25 : decode cX10_empties 25 = .ok (.bipush 6, 2) := by decide +kernel
theorem dX10_empties_27 : decode cX10_empties 27 = .ok (.if_icmp .ge 23, 3) := by decide +kernel
theorem dX10_empties_30 : decode cX10_empties 30 = .ok (.aload_n 0, 1) := by decide +kernel
theorem dX10_empties_31 : decode cX10_empties 31 = .ok (.getfield 20, 3) := by decide +kernel
theorem dX10_empties_34 : decode cX10_empties 34 = .ok (.bipush 70, 2) := by decide +kernel
theorem dX10_empties_36 : decode cX10_empties 36 = .ok (.sipush 208, 3) := by decide +kernel
theorem dX10_empties_39 : decode cX10_empties 39 = .ok (.iload_n 1, 1) := by decide +kernel
theorem dX10_empties_40 : decode cX10_empties 40 = .ok (.imul, 1) := by decide +kernel
theorem dX10_empties_41 : decode cX10_empties 41 = .ok (.iadd, 1) := by decide +kernel
theorem dX10_empties_42 : decode cX10_empties 42 = .ok (.iconst 3, 1) := by decide +kernel
theorem dX10_empties_43 : decode cX10_empties 43 = .ok (.iastore, 1) := by decide +kernel
theorem dX10_empties_44 : decode cX10_empties 44 = .ok (.iinc 1 1, 3) := by decide +kernel
theorem dX10_empties_47 : decode cX10_empties 47 = .ok (.goto (-23), 3) := by decide +kernel
theorem dX10_empties_50 : decode cX10_empties 50 = .ok (.aload_n 0, 1) := by decide +kernel
theorem dX10_empties_51 : decode cX10_empties 51 = .ok (.iconst 0, 1) := by decide +kernel
theorem dX10_empties_52 : decode cX10_empties 52 = .ok (.putfield 53, 3) := by decide +kernel
theorem dX10_empties_55 : decode cX10_empties 55 = .ok (.return_, 1) := by decide +kernel
theorem dX10_isIn_0 : decode cX10_isIn 0 = .ok (.iload_n 0, 1) := by decide +kernel
theorem dX10_isIn_1 : decode cX10_isIn 1 = .ok (.iload_n 1, 1) := by decide +kernel
theorem dX10_isIn_2 : decode cX10_isIn 2 = .ok (.if_icmp .lt 12, 3) := by decide +kernel
theorem dX10_isIn_5 : decode cX10_isIn 5 = .ok (.iload_n 0, 1) := by decide +kernel
theorem dX10_isIn_6 : decode cX10_isIn 6 = .ok (.iload_n 2, 1) := by decide +kernel
theorem dX10_isIn_7 : decode cX10_isIn 7 = .ok (.if_icmp .gt 7, 3) := by decide +kernel
theorem dX10_isIn_10 : decode cX10_isIn 10 = .ok (.iconst 1, 1) := by decide +kernel
theorem dX10_isIn_11 : decode cX10_isIn 11 = .ok (.goto 4, 3) := by decide +kernel
theorem dX10_isIn_14 : decode cX10_isIn 14 = .ok (.iconst 0, 1) := by decide +kernel
theorem dX10_isIn_15 : decode cX10_isIn 15 = .ok (.ireturn, 1) := by decide +kernel
theorem dX10_isFigure_0 : decode cX10_isFigure 0 = .ok (.iload_n 1, 1) := by decide +kernel
theorem dX10_isFigure_1 : decode cX10_isFigure 1 = .ok (.aload_n 0, 1) := by decide +kernel
theorem dX10_isFigure_2 : decode cX10_isFigure 2 = .ok (.getfield 56, 3) := by decide +kernel
theorem dX10_isFigure_5 : decode cX10_isFigure 5 = .ok (.if_icmp .ge 25, 3) := by decide +kernel
theorem dX10_isFigure_8 : decode cX10_isFigure 8 = .ok (.aload_n 0, 1) := by decide +kernel
theorem dX10_isFigure_9 : decode cX10_isFigure 9 = .ok (.getfield 7, 3) := by decide +kernel
theorem dX10_isFigure_12 : decode cX10_isFigure 12 = .ok (.iload_n 1, 1) := by decide +kernel
theorem dX10_isFigure_13 : decode cX10_isFigure 13 = .ok (.iaload, 1) := by decide +kernel
theorem dX10_isFigure_14 : decode cX10_isFigure 14 = .ok (.bipush 48, 2) := by decide +kernel
theorem dX10_isFigure_16 : decode cX10_isFigure 16 = .ok (.bipush 48, 2) := by decide +kernel
theorem dX10_isFigure_18 : decode cX10_isFigure 18 = .ok (.iload_n 2, 1) := by decide +kernel
theorem dX10_isFigure_19 : decode cX10_isFigure 19 = .ok (.iadd, 1) := by decide +kernel
theorem dX10_isFigure_20 : decode cX10_isFigure 20 = .ok (.invokestatic 59, 3) := by decide +kernel
theorem dX10_isFigure_23 : decode cX10_isFigure 23 = .ok (.ifCond .eq 7, 3) := by decide +kernel
theorem dX10_isFigure_26 : decode cX10_isFigure 26 = .ok (.iconst 1, 1) := by decide +kernel
theorem dX10_isFigure_27 : decode cX10_isFigure 27 = .ok (.goto 4, 3) := by decide +kernel
theorem dX10_isFigure_30 : decode cX10_isFigure 30 = .ok (.iconst 0, 1) := by decide +kernel
theorem dX10_isFigure_31 : decode cX10_isFigure 31 = .ok (.ireturn, 1) := by decide +kernel
theorem dX10_wideAt_0 : decode cX10_wideAt 0 = .ok (.aload_n 0, 1) := by decide +kernel
theorem dX10_wideAt_1 : decode cX10_wideAt 1 = .ok (.getfield 7, 3) := by decide +kernel
theorem dX10_wideAt_4 : decode cX10_wideAt 4 = .ok (.iload_n 1, 1) := by decide +kernel
theorem dX10_wideAt_5 : decode cX10_wideAt 5 = .ok (.iaload, 1) := by decide +kernel
theorem dX10_wideAt_6 : decode cX10_wideAt 6 = .ok (.tableswitch 160 99 122 #[130, 110, 160, 160, 160, 110, 110, 130, 160, 112, 160, 160, 160, 112, 160, 110, 112, 160, 160, 160, 160, 160, 160, 130], 110) := by decide +kernel
theorem dX10_wideAt_116 : decode cX10_wideAt 116 = .ok (.iconst 1, 1) := by decide +kernel
end
section
theorem dX10_wideAt_117 : decode cX10_wideAt 117 = .ok (.ireturn, 1) := by decide +kernel
theorem dX10_wideAt_118 : decode cX10_wideAt 118 = .ok (.aload_n 0, 1) := by decide +kernel
theorem dX10_wideAt_119 : decode cX10_wideAt 119 = .ok (.iload_n 1, 1) := by decide +kernel
theorem dX10_wideAt_120 : decode cX10_wideAt 120 = .ok (.iconst 1, 1) := by decide +kernel
theorem dX10_wideAt_121 : decode cX10_wideAt 121 = .ok (.iadd, 1) := by decide +kernel
theorem dX10_wideAt_122 : decode cX10_wideAt 122 = .ok (.bipush 7, 2) := by decide +kernel
theorem dX10_wideAt_124 : decode cX10_wideAt 124 = .ok (.invokevirtual 63, 3) := by decide +kernel
theorem dX10_wideAt_127 : decode cX10_wideAt 127 = .ok (.ifCond .eq 7, 3) := by decide +kernel
theorem dX10_wideAt_130 : decode cX10_wideAt 130 = .ok (.iconst 2, 1) := by decide +kernel
theorem dX10_wideAt_131 : decode cX10_wideAt 131 = .ok (.goto 4, 3) := by decide +kernel
theorem dX10_wideAt_134 : decode cX10_wideAt 134 = .ok (.iconst (-1), 1) := by decide +kernel
theorem dX10_wideAt_135 : decode cX10_wideAt 135 = .ok (.ireturn, 1) := by decide +kernel
theorem dX10_wideAt_136 : decode cX10_wideAt 136 = .ok (.aload_n 0, 1) := by decide +kernel
theorem dX10_wideAt_137 : decode cX10_wideAt 137 = .ok (.iload_n 1, 1) := by decide +kernel
theorem dX10_wideAt_138 : decode cX10_wideAt 138 = .ok (.iconst 1, 1) := by decide +kernel
theorem dX10_wideAt_139 : decode cX10_wideAt 139 = .ok (.iadd, 1) := by decide +kernel
theorem dX10_wideAt_140 : decode cX10_wideAt 140 = .ok (.bipush 9, 2) := by decide +kernel
theorem dX10_wideAt_142 : decode cX10_wideAt 142 = .ok (.invokevirtual 63, 3) := by decide +kernel
theorem dX10_wideAt_145 : decode cX10_wideAt 145 = .ok (.ifCond .eq 19, 3) := by decide +kernel
theorem dX10_wideAt_148 : decode cX10_wideAt 148 = .ok (.aload_n 0, 1) := by decide +kernel
theorem dX10_wideAt_149 : decode cX10_wideAt 149 = .ok (.iload_n 1, 1) := by decide +kernel
theorem dX10_wideAt_150 : decode cX10_wideAt 150 = .ok (.iconst 2, 1) := by decide +kernel
theorem dX10_wideAt_151 : decode cX10_wideAt 151 = .ok (.iadd, 1) := by decide +kernel
theorem dX10_wideAt_152 : decode cX10_wideAt 152 = .ok (.bipush 9, 2) := by decide +kernel
theorem dX10_wideAt_154 : decode cX10_wideAt 154 = .ok (.invokevirtual 63, 3) := by decide +kernel
theorem dX10_wideAt_157 : decode cX10_wideAt 157 = .ok (.ifCond .eq 7, 3) := by decide +kernel
theorem dX10_wideAt_160 : decode cX10_wideAt 160 = .ok (.iconst 3, 1) := by decide +kernel
theorem dX10_wideAt_161 : decode cX10_wideAt 161 = .ok (.goto 4, 3) := by decide +kernel
theorem dX10_wideAt_164 : decode cX10_wideAt 164 = .ok (.iconst (-1), 1) := by decide +kernel
theorem dX10_wideAt_165 : decode cX10_wideAt 165 = .ok (.ireturn, 1) := by decide +kernel
theorem dX10_wideAt_166 : decode cX10_wideAt 166 = .ok (.iconst (-1), 1) := by decide +kernel
theorem dX10_wideAt_167 : decode cX10_wideAt 167 = .ok (.ireturn, 1) := by decide +kernel
theorem dX10_reads_0 : decode cX10_reads 0 = .ok (.iconst 0, 1) := by decide +kernel
theorem dX10_reads_1 : decode cX10_reads 1 = .ok (.istore_n 1, 1) := by decide +kernel
theorem dX10_reads_2 : decode cX10_reads 2 = .ok (.iload_n 1, 1) := by decide +kernel
theorem dX10_reads_3 : decode cX10_reads 3 = .ok (.sipush 200, 3) := by decide +kernel
theorem dX10_reads_6 : decode cX10_reads 6 = .ok (.if_icmp .ge 16, 3) := by decide +kernel
theorem dX10_reads_9 : decode cX10_reads 9 = .ok (.aload_n 0, 1) := by decide +kernel
theorem dX10_reads_10 : decode cX10_reads 10 = .ok (.getfield 29, 3) := by decide +kernel
theorem dX10_reads_13 : decode cX10_reads 13 = .ok (.iload_n 1, 1) := by decide +kernel
theorem dX10_reads_14 : decode cX10_reads 14 = .ok (.iconst 0, 1) := by decide +kernel
theorem dX10_reads_15 : decode cX10_reads 15 = .ok (.bastore, 1) := by decide +kernel
theorem dX10_reads_16 : decode cX10_reads 16 = .ok (.iinc 1 1, 3) := by decide +kernel
theorem dX10_reads_19 : decode cX10_reads 19 = .ok (.goto (-17), 3) := by decide +kernel
theorem dX10_reads_22 : decode cX10_reads 22 = .ok (.iconst 0, 1) := by decide +kernel
theorem dX10_reads_23 : decode cX10_reads 23 = .ok (.istore_n 1, 1) := by decide +kernel
theorem dX10_reads_24 : decode cX10_reads 24 = .ok (.iload_n 1, 1) := by decide +kernel
theorem dX10_reads_25 : decode cX10_reads 25 = .ok (.aload_n 0, 1) := by decide +kernel
theorem dX10_reads_26 : decode cX10_reads 26 = .ok (.getfield 56, 3) := by decide +kernel
theorem dX10_reads_29 : decode cX10_reads 29 = .ok (.if_icmp .ge 37, 3) := by decide +kernel
theorem dX10_reads_32 : decode cX10_reads 32 = .ok (.aload_n 0, 1) := by decide +kernel
theorem dX10_reads_33 : decode cX10_reads 33 = .ok (.iload_n 1, 1) := by decide +kernel
theorem dX10_reads_34 : decode cX10_reads 34 = .ok (.invokevirtual 67, 3) := by decide +kernel
theorem dX10_reads_37 : decode cX10_reads 37 = .ok (.istore_n 2, 1) := by decide +kernel
theorem dX10_reads_38 : decode cX10_reads 38 = .ok (.iload_n 2, 1) := by decide +kernel
theorem dX10_reads_39 : decode cX10_reads 39 = .ok (.ifCond .lt 11, 3) := by decide +kernel
theorem dX10_reads_42 : decode cX10_reads 42 = .ok (.iload_n 1, 1) := by decide +kernel
theorem dX10_reads_43 : decode cX10_reads 43 = .ok (.iload_n 2, 1) := by decide +kernel
theorem dX10_reads_44 : decode cX10_reads 44 = .ok (.iadd, 1) := by decide +kernel
theorem dX10_reads_45 : decode cX10_reads 45 = .ok (.bipush 60, 2) := by decide +kernel
theorem dX10_reads_47 : decode cX10_reads 47 = .ok (.if_icmp .le 5, 3) := by decide +kernel
theorem dX10_reads_50 : decode cX10_reads 50 = .ok (.iload_n 1, 1) := by decide +kernel
theorem dX10_reads_51 : decode cX10_reads 51 = .ok (.ireturn, 1) := by decide +kernel
theorem dX10_reads_52 : decode cX10_reads 52 = .ok (.aload_n 0, 1) := by decide +kernel
theorem dX10_reads_53 : decode cX10_reads 53 = .ok (.getfield 29, 3) := by decide +kernel
theorem dX10_reads_56 : decode cX10_reads 56 = .ok (.iload_n 1, 1) := by decide +kernel
theorem dX10_reads_57 : decode cX10_reads 57 = .ok (.iconst 1, 1) := by decide +kernel
theorem dX10_reads_58 : decode cX10_reads 58 = .ok (.bastore, 1) := by decide +kernel
theorem dX10_reads_59 : decode cX10_reads 59 = .ok (.iload_n 1, 1) := by decide +kernel
theorem dX10_reads_60 : decode cX10_reads 60 = .ok (.iload_n 2, 1) := by decide +kernel
theorem dX10_reads_61 : decode cX10_reads 61 = .ok (.iadd, 1) := by decide +kernel
theorem dX10_reads_62 : decode cX10_reads 62 = .ok (.istore_n 1, 1) := by decide +kernel
theorem dX10_reads_63 : decode cX10_reads 63 = .ok (.goto (-39), 3) := by decide +kernel
theorem dX10_reads_66 : decode cX10_reads 66 = .ok (.iconst 0, 1) := by decide +kernel
theorem dX10_reads_67 : decode cX10_reads 67 = .ok (.istore_n 2, 1) := by decide +kernel
theorem dX10_reads_68 : decode cX10_reads 68 = .ok (.iload_n 2, 1) := by decide +kernel
theorem dX10_reads_69 : decode cX10_reads 69 = .ok (.aload_n 0, 1) := by decide +kernel
theorem dX10_reads_70 : decode cX10_reads 70 = .ok (.getfield 56, 3) := by decide +kernel
theorem dX10_reads_73 : decode cX10_reads 73 = .ok (.if_icmp .ge 65, 3) := by decide +kernel
theorem dX10_reads_76 : decode cX10_reads 76 = .ok (.aload_n 0, 1) := by decide +kernel
theorem dX10_reads_77 : decode cX10_reads 77 = .ok (.getfield 29, 3) := by decide +kernel
theorem dX10_reads_80 : decode cX10_reads 80 = .ok (.iload_n 2, 1) := by decide +kernel
theorem dX10_reads_81 : decode cX10_reads 81 = .ok (.baload, 1) := by decide +kernel
theorem dX10_reads_82 : decode cX10_reads 82 = .ok (.ifCond .eq 50, 3) := by decide +kernel
theorem dX10_reads_85 : decode cX10_reads 85 = .ok (.aload_n 0, 1) := by decide +kernel
theorem dX10_reads_86 : decode cX10_reads 86 = .ok (.iload_n 2, 1) := by decide +kernel
theorem dX10_reads_87 : decode cX10_reads 87 = .ok (.invokevirtual 67, 3) := by decide +kernel
theorem dX10_reads_90 : decode cX10_reads 90 = .ok (.iconst 3, 1) := by decide +kernel
theorem dX10_reads_91 : decode cX10_reads 91 = .ok (.if_icmp .ne 41, 3) := by decide +kernel
theorem dX10_reads_94 : decode cX10_reads 94 = .ok (.bipush 10, 2) := by decide +kernel
theorem dX10_reads_96 : decode cX10_reads 96 = .ok (.aload_n 0, 1) := by decide +kernel
theorem dX10_reads_97 : decode cX10_reads 97 = .ok (.getfield 7, 3) := by decide +kernel
theorem dX10_reads_100 : decode cX10_reads 100 = .ok (.iload_n 2, 1) := by decide +kernel
theorem dX10_reads_101 : decode cX10_reads 101 = .ok (.iconst 1, 1) := by decide +kernel
theorem dX10_reads_102 : decode cX10_reads 102 = .ok (.iadd, 1) := by decide +kernel
theorem dX10_reads_103 : decode cX10_reads 103 = .ok (.iaload, 1) := by decide +kernel
theorem dX10_reads_104 : decode cX10_reads 104 = .ok (.bipush 48, 2) := by decide +kernel
theorem dX10_reads_106 : decode cX10_reads 106 = .ok (.isub, 1) := by decide +kernel
theorem dX10_reads_107 : decode cX10_reads 107 = .ok (.imul, 1) := by decide +kernel
theorem dX10_reads_108 : decode cX10_reads 108 = .ok (.aload_n 0, 1) := by decide +kernel
theorem dX10_reads_109 : decode cX10_reads 109 = .ok (.getfield 7, 3) := by decide +kernel
theorem dX10_reads_112 : decode cX10_reads 112 = .ok (.iload_n 2, 1) := by decide +kernel
theorem dX10_reads_113 : decode cX10_reads 113 = .ok (.iconst 2, 1) := by decide +kernel
theorem dX10_reads_114 : decode cX10_reads 114 = .ok (.iadd, 1) := by decide +kernel
theorem dX10_reads_115 : decode cX10_reads 115 = .ok (.iaload, 1) := by decide +kernel
theorem dX10_reads_116 : decode cX10_reads 116 = .ok (.iadd, 1) := by decide +kernel
theorem dX10_reads_117 : decode cX10_reads 117 = .ok (.bipush 48, 2) := by decide +kernel
theorem dX10_reads_119 : decode cX10_reads 119 = .ok (.isub, 1) := by decide +kernel
theorem dX10_reads_120 : decode cX10_reads 120 = .ok (.istore_n 3, 1) := by decide +kernel
theorem dX10_reads_121 : decode cX10_reads 121 = .ok (.aload_n 0, 1) := by decide +kernel
theorem dX10_reads_122 : decode cX10_reads 122 = .ok (.getfield 29, 3) := by decide +kernel
theorem dX10_reads_125 : decode cX10_reads 125 = .ok (.iload_n 3, 1) := by decide +kernel
theorem dX10_reads_126 : decode cX10_reads 126 = .ok (.baload, 1) := by decide +kernel
theorem dX10_reads_127 : decode cX10_reads 127 = .ok (.ifCond .ne 5, 3) := by decide +kernel
theorem dX10_reads_130 : decode cX10_reads 130 = .ok (.iload_n 2, 1) := by decide +kernel
theorem dX10_reads_131 : decode cX10_reads 131 = .ok (.ireturn, 1) := by decide +kernel
theorem dX10_reads_132 : decode cX10_reads 132 = .ok (.iinc 2 1, 3) := by decide +kernel
theorem dX10_reads_135 : decode cX10_reads 135 = .ok (.goto (-67), 3) := by decide +kernel
theorem dX10_reads_138 : decode cX10_reads 138 = .ok (.bipush (-4), 2) := by decide +kernel
theorem dX10_reads_140 : decode cX10_reads 140 = .ok (.ireturn, 1) := by decide +kernel
theorem dX10_write_0 : decode cX10_write 0 = .ok (.iload_n 1, 1) := by decide +kernel
theorem dX10_write_1 : decode cX10_write 1 = .ok (.bipush 32, 2) := by decide +kernel
theorem dX10_write_3 : decode cX10_write 3 = .ok (.if_icmp .lt 9, 3) := by decide +kernel
theorem dX10_write_6 : decode cX10_write 6 = .ok (.iload_n 1, 1) := by decide +kernel
theorem dX10_write_7 : decode cX10_write 7 = .ok (.bipush 126, 2) := by decide +kernel
theorem dX10_write_9 : decode cX10_write 9 = .ok (.if_icmp .le 5, 3) := by decide +kernel
theorem dX10_write_12 : decode cX10_write 12 = .ok (.iconst (-1), 1) := by decide +kernel
theorem dX10_write_13 : decode cX10_write 13 = .ok (.ireturn, 1) := by decide +kernel
theorem dX10_write_14 : decode cX10_write 14 = .ok (.aload_n 0, 1) := by decide +kernel
theorem dX10_write_15 : decode cX10_write 15 = .ok (.getfield 56, 3) := by decide +kernel
theorem dX10_write_18 : decode cX10_write 18 = .ok (.sipush 200, 3) := by decide +kernel
theorem dX10_write_21 : decode cX10_write 21 = .ok (.if_icmp .ne 6, 3) := by decide +kernel
theorem dX10_write_24 : decode cX10_write 24 = .ok (.bipush (-3), 2) := by decide +kernel
theorem dX10_write_26 : decode cX10_write 26 = .ok (.ireturn, 1) := by decide +kernel
theorem dX10_write_27 : decode cX10_write 27 = .ok (.aload_n 0, 1) := by decide +kernel
theorem dX10_write_28 : decode cX10_write 28 = .ok (.getfield 7, 3) := by decide +kernel
theorem dX10_write_31 : decode cX10_write 31 = .ok (.aload_n 0, 1) := by decide +kernel
theorem dX10_write_32 : decode cX10_write 32 = .ok (.getfield 56, 3) := by decide +kernel
theorem dX10_write_35 : decode cX10_write 35 = .ok (.iload_n 1, 1) := by decide +kernel
theorem dX10_write_36 : decode cX10_write 36 = .ok (.iastore, 1) := by decide +kernel
theorem dX10_write_37 : decode cX10_write 37 = .ok (.aload_n 0, 1) := by decide +kernel
theorem dX10_write_38 : decode cX10_write 38 = .ok (.dup, 1) := by decide +kernel
theorem dX10_write_39 : decode cX10_write 39 = .ok (.getfield 56, 3) := by decide +kernel
theorem dX10_write_42 : decode cX10_write 42 = .ok (.iconst 1, 1) := by decide +kernel
theorem dX10_write_43 : decode cX10_write 43 = .ok (.iadd, 1) := by decide +kernel
theorem dX10_write_44 : decode cX10_write 44 = .ok (.putfield 56, 3) := by decide +kernel
theorem dX10_write_47 : decode cX10_write 47 = .ok (.aload_n 0, 1) := by decide +kernel
theorem dX10_write_48 : decode cX10_write 48 = .ok (.getfield 56, 3) := by decide +kernel
theorem dX10_write_51 : decode cX10_write 51 = .ok (.ireturn, 1) := by decide +kernel
theorem dX10_wipe_0 : decode cX10_wipe 0 = .ok (.aload_n 0, 1) := by decide +kernel
theorem dX10_wipe_1 : decode cX10_wipe 1 = .ok (.getfield 56, 3) := by decide +kernel
theorem dX10_wipe_4 : decode cX10_wipe 4 = .ok (.istore_n 1, 1) := by decide +kernel
theorem dX10_wipe_5 : decode cX10_wipe 5 = .ok (.aload_n 0, 1) := by decide +kernel
theorem dX10_wipe_6 : decode cX10_wipe 6 = .ok (.iconst 0, 1) := by decide +kernel
theorem dX10_wipe_7 : decode cX10_wipe 7 = .ok (.putfield 56, 3) := by decide +kernel
theorem dX10_wipe_10 : decode cX10_wipe 10 = .ok (.iload_n 1, 1) := by decide +kernel
theorem dX10_wipe_11 : decode cX10_wipe 11 = .ok (.ireturn, 1) := by decide +kernel
theorem dX10_fault_0 : decode cX10_fault 0 = .ok (.aload_n 0, 1) := by decide +kernel
theorem dX10_fault_1 : decode cX10_fault 1 = .ok (.invokevirtual 71, 3) := by decide +kernel
theorem dX10_fault_4 : decode cX10_fault 4 = .ok (.ireturn, 1) := by decide +kernel
theorem dX10_lay_0 : decode cX10_lay 0 = .ok (.aload_n 0, 1) := by decide +kernel
theorem dX10_lay_1 : decode cX10_lay 1 = .ok (.getfield 56, 3) := by decide +kernel
theorem dX10_lay_4 : decode cX10_lay 4 = .ok (.ifCond .eq 12, 3) := by decide +kernel
theorem dX10_lay_7 : decode cX10_lay 7 = .ok (.aload_n 0, 1) := by decide +kernel
theorem dX10_lay_8 : decode cX10_lay 8 = .ok (.invokevirtual 71, 3) := by decide +kernel
theorem dX10_lay_11 : decode cX10_lay 11 = .ok (.bipush (-4), 2) := by decide +kernel
theorem dX10_lay_13 : decode cX10_lay 13 = .ok (.if_icmp .eq 6, 3) := by decide +kernel
theorem dX10_lay_16 : decode cX10_lay 16 = .ok (.bipush (-2), 2) := by decide +kernel
theorem dX10_lay_18 : decode cX10_lay 18 = .ok (.ireturn, 1) := by decide +kernel
theorem dX10_lay_19 : decode cX10_lay 19 = .ok (.aload_n 0, 1) := by decide +kernel
theorem dX10_lay_20 : decode cX10_lay 20 = .ok (.aload_n 0, 1) := by decide +kernel
theorem dX10_lay_21 : decode cX10_lay 21 = .ok (.getfield 56, 3) := by decide +kernel
theorem dX10_lay_24 : decode cX10_lay 24 = .ok (.putfield 49, 3) := by decide +kernel
theorem dX10_lay_27 : decode cX10_lay 27 = .ok (.iconst 0, 1) := by decide +kernel
theorem dX10_lay_28 : decode cX10_lay 28 = .ok (.istore_n 1, 1) := by decide +kernel
theorem dX10_lay_29 : decode cX10_lay 29 = .ok (.iload_n 1, 1) := by decide +kernel
theorem dX10_lay_30 : decode cX10_lay 30 = .ok (.bipush 60, 2) := by decide +kernel
theorem dX10_lay_32 : decode cX10_lay 32 = .ok (.if_icmp .ge 61, 3) := by decide +kernel
theorem dX10_lay_35 : decode cX10_lay 35 = .ok (.aload_n 0, 1) := by decide +kernel
theorem dX10_lay_36 : decode cX10_lay 36 = .ok (.getfield 13, 3) := by decide +kernel
theorem dX10_lay_39 : decode cX10_lay 39 = .ok (.iload_n 1, 1) := by decide +kernel
theorem dX10_lay_40 : decode cX10_lay 40 = .ok (.iload_n 1, 1) := by decide +kernel
theorem dX10_lay_41 : decode cX10_lay 41 = .ok (.aload_n 0, 1) := by decide +kernel
theorem dX10_lay_42 : decode cX10_lay 42 = .ok (.getfield 56, 3) := by decide +kernel
theorem dX10_lay_45 : decode cX10_lay 45 = .ok (.if_icmp .ge 12, 3) := by decide +kernel
theorem dX10_lay_48 : decode cX10_lay 48 = .ok (.aload_n 0, 1) := by decide +kernel
theorem dX10_lay_49 : decode cX10_lay 49 = .ok (.getfield 7, 3) := by decide +kernel
theorem dX10_lay_52 : decode cX10_lay 52 = .ok (.iload_n 1, 1) := by decide +kernel
theorem dX10_lay_53 : decode cX10_lay 53 = .ok (.iaload, 1) := by decide +kernel
theorem dX10_lay_54 : decode cX10_lay 54 = .ok (.goto 4, 3) := by decide +kernel
theorem dX10_lay_57 : decode cX10_lay 57 = .ok (.iconst 0, 1) := by decide +kernel
theorem dX10_lay_58 : decode cX10_lay 58 = .ok (.iastore, 1) := by decide +kernel
theorem dX10_lay_59 : decode cX10_lay 59 = .ok (.aload_n 0, 1) := by decide +kernel
theorem dX10_lay_60 : decode cX10_lay 60 = .ok (.getfield 16, 3) := by decide +kernel
theorem dX10_lay_63 : decode cX10_lay 63 = .ok (.iload_n 1, 1) := by decide +kernel
theorem dX10_lay_64 : decode cX10_lay 64 = .ok (.iload_n 1, 1) := by decide +kernel
theorem dX10_lay_65 : decode cX10_lay 65 = .ok (.aload_n 0, 1) := by decide +kernel
theorem dX10_lay_66 : decode cX10_lay 66 = .ok (.getfield 56, 3) := by decide +kernel
theorem dX10_lay_69 : decode cX10_lay 69 = .ok (.if_icmp .ge 16, 3) := by decide +kernel
theorem dX10_lay_72 : decode cX10_lay 72 = .ok (.aload_n 0, 1) := by decide +kernel
theorem dX10_lay_73 : decode cX10_lay 73 = .ok (.getfield 29, 3) := by decide +kernel
theorem dX10_lay_76 : decode cX10_lay 76 = .ok (.iload_n 1, 1) := by decide +kernel
theorem dX10_lay_77 : decode cX10_lay 77 = .ok (.baload, 1) := by decide +kernel
theorem dX10_lay_78 : decode cX10_lay 78 = .ok (.ifCond .eq 7, 3) := by decide +kernel
theorem dX10_lay_81 : decode cX10_lay 81 = .ok (.iconst 1, 1) := by decide +kernel
theorem dX10_lay_82 : decode cX10_lay 82 = .ok (.goto 4, 3) := by decide +kernel
theorem dX10_lay_85 : decode cX10_lay 85 = .ok (.iconst 0, 1) := by decide +kernel
theorem dX10_lay_86 : decode cX10_lay 86 = .ok (.bastore, 1) := by decide +kernel
theorem dX10_lay_87 : decode cX10_lay 87 = .ok (.iinc 1 1, 3) := by decide +kernel
theorem dX10_lay_90 : decode cX10_lay 90 = .ok (.goto (-61), 3) := by decide +kernel
theorem dX10_lay_93 : decode cX10_lay 93 = .ok (.aload_n 0, 1) := by decide +kernel
theorem dX10_lay_94 : decode cX10_lay 94 = .ok (.invokevirtual 46, 3) := by decide +kernel
theorem dX10_lay_97 : decode cX10_lay 97 = .ok (.aload_n 0, 1) := by decide +kernel
theorem dX10_lay_98 : decode cX10_lay 98 = .ok (.getfield 49, 3) := by decide +kernel
theorem dX10_lay_101 : decode cX10_lay 101 = .ok (.ireturn, 1) := by decide +kernel
theorem dX10_both_0 : decode cX10_both 0 = .ok (.iload_n 0, 1) := by decide +kernel
theorem dX10_both_1 : decode cX10_both 1 = .ok (.lookupswitch 145 #[(38, 117), (42, 87), (43, 67), (45, 75), (60, 95), (61, 106), (124, 131)], 67) := by decide +kernel
theorem dX10_both_68 : decode cX10_both 68 = .ok (.iload_n 1, 1) := by decide +kernel
theorem dX10_both_69 : decode cX10_both 69 = .ok (.iload_n 2, 1) := by decide +kernel
theorem dX10_both_70 : decode cX10_both 70 = .ok (.iadd, 1) := by decide +kernel
theorem dX10_both_71 : decode cX10_both 71 = .ok (.sipush 1000, 3) := by decide +kernel
theorem dX10_both_74 : decode cX10_both 74 = .ok (.irem, 1) := by decide +kernel
theorem dX10_both_75 : decode cX10_both 75 = .ok (.ireturn, 1) := by decide +kernel
theorem dX10_both_76 : decode cX10_both 76 = .ok (.iload_n 1, 1) := by decide +kernel
theorem dX10_both_77 : decode cX10_both 77 = .ok (.sipush 1000, 3) := by decide +kernel
theorem dX10_both_80 : decode cX10_both 80 = .ok (.iadd, 1) := by decide +kernel
theorem dX10_both_81 : decode cX10_both 81 = .ok (.iload_n 2, 1) := by decide +kernel
theorem dX10_both_82 : decode cX10_both 82 = .ok (.isub, 1) := by decide +kernel
theorem dX10_both_83 : decode cX10_both 83 = .ok (.sipush 1000, 3) := by decide +kernel
theorem dX10_both_86 : decode cX10_both 86 = .ok (.irem, 1) := by decide +kernel
theorem dX10_both_87 : decode cX10_both 87 = .ok (.ireturn, 1) := by decide +kernel
theorem dX10_both_88 : decode cX10_both 88 = .ok (.iload_n 1, 1) := by decide +kernel
theorem dX10_both_89 : decode cX10_both 89 = .ok (.iload_n 2, 1) := by decide +kernel
theorem dX10_both_90 : decode cX10_both 90 = .ok (.imul, 1) := by decide +kernel
theorem dX10_both_91 : decode cX10_both 91 = .ok (.sipush 1000, 3) := by decide +kernel
theorem dX10_both_94 : decode cX10_both 94 = .ok (.irem, 1) := by decide +kernel
theorem dX10_both_95 : decode cX10_both 95 = .ok (.ireturn, 1) := by decide +kernel
theorem dX10_both_96 : decode cX10_both 96 = .ok (.iload_n 1, 1) := by decide +kernel
theorem dX10_both_97 : decode cX10_both 97 = .ok (.iload_n 2, 1) := by decide +kernel
theorem dX10_both_98 : decode cX10_both 98 = .ok (.if_icmp .ge 7, 3) := by decide +kernel
theorem dX10_both_101 : decode cX10_both 101 = .ok (.iconst 1, 1) := by decide +kernel
theorem dX10_both_102 : decode cX10_both 102 = .ok (.goto 4, 3) := by decide +kernel
theorem dX10_both_105 : decode cX10_both 105 = .ok (.iconst 0, 1) := by decide +kernel
theorem dX10_both_106 : decode cX10_both 106 = .ok (.ireturn, 1) := by decide +kernel
theorem dX10_both_107 : decode cX10_both 107 = .ok (.iload_n 1, 1) := by decide +kernel
theorem dX10_both_108 : decode cX10_both 108 = .ok (.iload_n 2, 1) := by decide +kernel
theorem dX10_both_109 : decode cX10_both 109 = .ok (.if_icmp .ne 7, 3) := by decide +kernel
theorem dX10_both_112 : decode cX10_both 112 = .ok (.iconst 1, 1) := by decide +kernel
theorem dX10_both_113 : decode cX10_both 113 = .ok (.goto 4, 3) := by decide +kernel
theorem dX10_both_116 : decode cX10_both 116 = .ok (.iconst 0, 1) := by decide +kernel
theorem dX10_both_117 : decode cX10_both 117 = .ok (.ireturn, 1) := by decide +kernel
theorem dX10_both_118 : decode cX10_both 118 = .ok (.iload_n 1, 1) := by decide +kernel
theorem dX10_both_119 : decode cX10_both 119 = .ok (.ifCond .eq 11, 3) := by decide +kernel
theorem dX10_both_122 : decode cX10_both 122 = .ok (.iload_n 2, 1) := by decide +kernel
theorem dX10_both_123 : decode cX10_both 123 = .ok (.ifCond .eq 7, 3) := by decide +kernel
theorem dX10_both_126 : decode cX10_both 126 = .ok (.iconst 1, 1) := by decide +kernel
theorem dX10_both_127 : decode cX10_both 127 = .ok (.goto 4, 3) := by decide +kernel
theorem dX10_both_130 : decode cX10_both 130 = .ok (.iconst 0, 1) := by decide +kernel
theorem dX10_both_131 : decode cX10_both 131 = .ok (.ireturn, 1) := by decide +kernel
theorem dX10_both_132 : decode cX10_both 132 = .ok (.iload_n 1, 1) := by decide +kernel
theorem dX10_both_133 : decode cX10_both 133 = .ok (.ifCond .ne 7, 3) := by decide +kernel
theorem dX10_both_136 : decode cX10_both 136 = .ok (.iload_n 2, 1) := by decide +kernel
theorem dX10_both_137 : decode cX10_both 137 = .ok (.ifCond .eq 7, 3) := by decide +kernel
theorem dX10_both_140 : decode cX10_both 140 = .ok (.iconst 1, 1) := by decide +kernel
theorem dX10_both_141 : decode cX10_both 141 = .ok (.goto 4, 3) := by decide +kernel
theorem dX10_both_144 : decode cX10_both 144 = .ok (.iconst 0, 1) := by decide +kernel
theorem dX10_both_145 : decode cX10_both 145 = .ok (.ireturn, 1) := by decide +kernel
theorem dX10_both_146 : decode cX10_both 146 = .ok (.bipush (-4), 2) := by decide +kernel
theorem dX10_both_148 : decode cX10_both 148 = .ok (.ireturn, 1) := by decide +kernel
theorem dX10_comes_0 : decode cX10_comes 0 = .ok (.aload_n 0, 1) := by decide +kernel
theorem dX10_comes_1 : decode cX10_comes 1 = .ok (.getfield 75, 3) := by decide +kernel
theorem dX10_comes_4 : decode cX10_comes 4 = .ok (.iconst 4, 1) := by decide +kernel
theorem dX10_comes_5 : decode cX10_comes 5 = .ok (.if_icmp .ne 5, 3) := by decide +kernel
theorem dX10_comes_8 : decode cX10_comes 8 = .ok (.iconst 0, 1) := by decide +kernel
theorem dX10_comes_9 : decode cX10_comes 9 = .ok (.ireturn, 1) := by decide +kernel
theorem dX10_comes_10 : decode cX10_comes 10 = .ok (.aload_n 0, 1) := by decide +kernel
theorem dX10_comes_11 : decode cX10_comes 11 = .ok (.getfield 32, 3) := by decide +kernel
theorem dX10_comes_14 : decode cX10_comes 14 = .ok (.aload_n 0, 1) := by decide +kernel
theorem dX10_comes_15 : decode cX10_comes 15 = .ok (.getfield 75, 3) := by decide +kernel
theorem dX10_comes_18 : decode cX10_comes 18 = .ok (.iload_n 1, 1) := by decide +kernel
theorem dX10_comes_19 : decode cX10_comes 19 = .ok (.iastore, 1) := by decide +kernel
theorem dX10_comes_20 : decode cX10_comes 20 = .ok (.aload_n 0, 1) := by decide +kernel
theorem dX10_comes_21 : decode cX10_comes 21 = .ok (.dup, 1) := by decide +kernel
theorem dX10_comes_22 : decode cX10_comes 22 = .ok (.getfield 75, 3) := by decide +kernel
theorem dX10_comes_25 : decode cX10_comes 25 = .ok (.iconst 1, 1) := by decide +kernel
theorem dX10_comes_26 : decode cX10_comes 26 = .ok (.iadd, 1) := by decide +kernel
theorem dX10_comes_27 : decode cX10_comes 27 = .ok (.putfield 75, 3) := by decide +kernel
theorem dX10_comes_30 : decode cX10_comes 30 = .ok (.iconst 1, 1) := by decide +kernel
theorem dX10_comes_31 : decode cX10_comes 31 = .ok (.ireturn, 1) := by decide +kernel
theorem dX10_takes_0 : decode cX10_takes 0 = .ok (.iload_n 1, 1) := by decide +kernel
theorem dX10_takes_1 : decode cX10_takes 1 = .ok (.bipush 33, 2) := by decide +kernel
theorem dX10_takes_3 : decode cX10_takes 3 = .ok (.if_icmp .ne 53, 3) := by decide +kernel
theorem dX10_takes_6 : decode cX10_takes 6 = .ok (.aload_n 0, 1) := by decide +kernel
theorem dX10_takes_7 : decode cX10_takes 7 = .ok (.getfield 75, 3) := by decide +kernel
theorem dX10_takes_10 : decode cX10_takes 10 = .ok (.ifCond .le 33, 3) := by decide +kernel
theorem dX10_takes_13 : decode cX10_takes 13 = .ok (.aload_n 0, 1) := by decide +kernel
theorem dX10_takes_14 : decode cX10_takes 14 = .ok (.getfield 32, 3) := by decide +kernel
theorem dX10_takes_17 : decode cX10_takes 17 = .ok (.aload_n 0, 1) := by decide +kernel
theorem dX10_takes_18 : decode cX10_takes 18 = .ok (.getfield 75, 3) := by decide +kernel
theorem dX10_takes_21 : decode cX10_takes 21 = .ok (.iconst 1, 1) := by decide +kernel
theorem dX10_takes_22 : decode cX10_takes 22 = .ok (.isub, 1) := by decide +kernel
theorem dX10_takes_23 : decode cX10_takes 23 = .ok (.aload_n 0, 1) := by decide +kernel
theorem dX10_takes_24 : decode cX10_takes 24 = .ok (.getfield 32, 3) := by decide +kernel
theorem dX10_takes_27 : decode cX10_takes 27 = .ok (.aload_n 0, 1) := by decide +kernel
theorem dX10_takes_28 : decode cX10_takes 28 = .ok (.getfield 75, 3) := by decide +kernel
theorem dX10_takes_31 : decode cX10_takes 31 = .ok (.iconst 1, 1) := by decide +kernel
theorem dX10_takes_32 : decode cX10_takes 32 = .ok (.isub, 1) := by decide +kernel
theorem dX10_takes_33 : decode cX10_takes 33 = .ok (.iaload, 1) := by decide +kernel
theorem dX10_takes_34 : decode cX10_takes 34 = .ok (.ifCond .ne 7, 3) := by decide +kernel
theorem dX10_takes_37 : decode cX10_takes 37 = .ok (.iconst 1, 1) := by decide +kernel
theorem dX10_takes_38 : decode cX10_takes 38 = .ok (.goto 4, 3) := by decide +kernel
theorem dX10_takes_41 : decode cX10_takes 41 = .ok (.iconst 0, 1) := by decide +kernel
theorem dX10_takes_42 : decode cX10_takes 42 = .ok (.iastore, 1) := by decide +kernel
theorem dX10_takes_43 : decode cX10_takes 43 = .ok (.aload_n 0, 1) := by decide +kernel
theorem dX10_takes_44 : decode cX10_takes 44 = .ok (.getfield 75, 3) := by decide +kernel
theorem dX10_takes_47 : decode cX10_takes 47 = .ok (.ifCond .le 7, 3) := by decide +kernel
theorem dX10_takes_50 : decode cX10_takes 50 = .ok (.iconst 1, 1) := by decide +kernel
theorem dX10_takes_51 : decode cX10_takes 51 = .ok (.goto 4, 3) := by decide +kernel
theorem dX10_takes_54 : decode cX10_takes 54 = .ok (.iconst 0, 1) := by decide +kernel
theorem dX10_takes_55 : decode cX10_takes 55 = .ok (.ireturn, 1) := by decide +kernel
theorem dX10_takes_56 : decode cX10_takes 56 = .ok (.aload_n 0, 1) := by decide +kernel
theorem dX10_takes_57 : decode cX10_takes 57 = .ok (.getfield 75, 3) := by decide +kernel
theorem dX10_takes_60 : decode cX10_takes 60 = .ok (.iconst 2, 1) := by decide +kernel
theorem dX10_takes_61 : decode cX10_takes 61 = .ok (.if_icmp .lt 14, 3) := by decide +kernel
theorem dX10_takes_64 : decode cX10_takes 64 = .ok (.iload_n 1, 1) := by decide +kernel
theorem dX10_takes_65 : decode cX10_takes 65 = .ok (.iconst 0, 1) := by decide +kernel
theorem dX10_takes_66 : decode cX10_takes 66 = .ok (.iconst 0, 1) := by decide +kernel
theorem dX10_takes_67 : decode cX10_takes 67 = .ok (.invokestatic 78, 3) := by decide +kernel
theorem dX10_takes_70 : decode cX10_takes 70 = .ok (.bipush (-4), 2) := by decide +kernel
theorem dX10_takes_72 : decode cX10_takes 72 = .ok (.if_icmp .ne 5, 3) := by decide +kernel
theorem dX10_takes_75 : decode cX10_takes 75 = .ok (.iconst 0, 1) := by decide +kernel
theorem dX10_takes_76 : decode cX10_takes 76 = .ok (.ireturn, 1) := by decide +kernel
theorem dX10_takes_77 : decode cX10_takes 77 = .ok (.aload_n 0, 1) := by decide +kernel
theorem dX10_takes_78 : decode cX10_takes 78 = .ok (.dup, 1) := by decide +kernel
theorem dX10_takes_79 : decode cX10_takes 79 = .ok (.getfield 75, 3) := by decide +kernel
theorem dX10_takes_82 : decode cX10_takes 82 = .ok (.iconst 1, 1) := by decide +kernel
theorem dX10_takes_83 : decode cX10_takes 83 = .ok (.isub, 1) := by decide +kernel
theorem dX10_takes_84 : decode cX10_takes 84 = .ok (.putfield 75, 3) := by decide +kernel
theorem dX10_takes_87 : decode cX10_takes 87 = .ok (.aload_n 0, 1) := by decide +kernel
theorem dX10_takes_88 : decode cX10_takes 88 = .ok (.getfield 32, 3) := by decide +kernel
theorem dX10_takes_91 : decode cX10_takes 91 = .ok (.aload_n 0, 1) := by decide +kernel
theorem dX10_takes_92 : decode cX10_takes 92 = .ok (.getfield 75, 3) := by decide +kernel
theorem dX10_takes_95 : decode cX10_takes 95 = .ok (.iconst 1, 1) := by decide +kernel
theorem dX10_takes_96 : decode cX10_takes 96 = .ok (.isub, 1) := by decide +kernel
theorem dX10_takes_97 : decode cX10_takes 97 = .ok (.iload_n 1, 1) := by decide +kernel
theorem dX10_takes_98 : decode cX10_takes 98 = .ok (.aload_n 0, 1) := by decide +kernel
theorem dX10_takes_99 : decode cX10_takes 99 = .ok (.getfield 32, 3) := by decide +kernel
theorem dX10_takes_102 : decode cX10_takes 102 = .ok (.aload_n 0, 1) := by decide +kernel
theorem dX10_takes_103 : decode cX10_takes 103 = .ok (.getfield 75, 3) := by decide +kernel
theorem dX10_takes_106 : decode cX10_takes 106 = .ok (.iconst 1, 1) := by decide +kernel
theorem dX10_takes_107 : decode cX10_takes 107 = .ok (.isub, 1) := by decide +kernel
theorem dX10_takes_108 : decode cX10_takes 108 = .ok (.iaload, 1) := by decide +kernel
theorem dX10_takes_109 : decode cX10_takes 109 = .ok (.aload_n 0, 1) := by decide +kernel
theorem dX10_takes_110 : decode cX10_takes 110 = .ok (.getfield 32, 3) := by decide +kernel
theorem dX10_takes_113 : decode cX10_takes 113 = .ok (.aload_n 0, 1) := by decide +kernel
theorem dX10_takes_114 : decode cX10_takes 114 = .ok (.getfield 75, 3) := by decide +kernel
theorem dX10_takes_117 : decode cX10_takes 117 = .ok (.iaload, 1) := by decide +kernel
theorem dX10_takes_118 : decode cX10_takes 118 = .ok (.invokestatic 78, 3) := by decide +kernel
theorem dX10_takes_121 : decode cX10_takes 121 = .ok (.iastore, 1) := by decide +kernel
theorem dX10_takes_122 : decode cX10_takes 122 = .ok (.iconst 1, 1) := by decide +kernel
theorem dX10_takes_123 : decode cX10_takes 123 = .ok (.ireturn, 1) := by decide +kernel
theorem dX10_asks_0 : decode cX10_asks 0 = .ok (.aload_n 0, 1) := by decide +kernel
theorem dX10_asks_1 : decode cX10_asks 1 = .ok (.iconst 0, 1) := by decide +kernel
theorem dX10_asks_2 : decode cX10_asks 2 = .ok (.putfield 75, 3) := by decide +kernel
theorem dX10_asks_5 : decode cX10_asks 5 = .ok (.iconst 0, 1) := by decide +kernel
theorem dX10_asks_6 : decode cX10_asks 6 = .ok (.istore 5, 2) := by decide +kernel
theorem dX10_asks_8 : decode cX10_asks 8 = .ok (.iload 5, 2) := by decide +kernel
theorem dX10_asks_10 : decode cX10_asks 10 = .ok (.iload_n 3, 1) := by decide +kernel
theorem dX10_asks_11 : decode cX10_asks 11 = .ok (.if_icmp .ge 137, 3) := by decide +kernel
theorem dX10_asks_14 : decode cX10_asks 14 = .ok (.aload_n 1, 1) := by decide +kernel
theorem dX10_asks_15 : decode cX10_asks 15 = .ok (.iload_n 2, 1) := by decide +kernel
theorem dX10_asks_16 : decode cX10_asks 16 = .ok (.iload 5, 2) := by decide +kernel
theorem dX10_asks_18 : decode cX10_asks 18 = .ok (.iadd, 1) := by decide +kernel
theorem dX10_asks_19 : decode cX10_asks 19 = .ok (.iaload, 1) := by decide +kernel
theorem dX10_asks_20 : decode cX10_asks 20 = .ok (.istore 6, 2) := by decide +kernel
theorem dX10_asks_22 : decode cX10_asks 22 = .ok (.iload 6, 2) := by decide +kernel
theorem dX10_asks_24 : decode cX10_asks 24 = .ok (.bipush 109, 2) := by decide +kernel
theorem dX10_asks_26 : decode cX10_asks 26 = .ok (.if_icmp .ne 59, 3) := by decide +kernel
theorem dX10_asks_29 : decode cX10_asks 29 = .ok (.iinc 5 1, 3) := by decide +kernel
theorem dX10_asks_32 : decode cX10_asks 32 = .ok (.iload 5, 2) := by decide +kernel
theorem dX10_asks_34 : decode cX10_asks 34 = .ok (.iload_n 3, 1) := by decide +kernel
theorem dX10_asks_35 : decode cX10_asks 35 = .ok (.if_icmp .ge 44, 3) := by decide +kernel
theorem dX10_asks_38 : decode cX10_asks 38 = .ok (.aload_n 1, 1) := by decide +kernel
theorem dX10_asks_39 : decode cX10_asks 39 = .ok (.iload_n 2, 1) := by decide +kernel
theorem dX10_asks_40 : decode cX10_asks 40 = .ok (.iload 5, 2) := by decide +kernel
theorem dX10_asks_42 : decode cX10_asks 42 = .ok (.iadd, 1) := by decide +kernel
theorem dX10_asks_43 : decode cX10_asks 43 = .ok (.iaload, 1) := by decide +kernel
theorem dX10_asks_44 : decode cX10_asks 44 = .ok (.bipush 48, 2) := by decide +kernel
theorem dX10_asks_46 : decode cX10_asks 46 = .ok (.bipush 55, 2) := by decide +kernel
theorem dX10_asks_48 : decode cX10_asks 48 = .ok (.invokestatic 59, 3) := by decide +kernel
theorem dX10_asks_51 : decode cX10_asks 51 = .ok (.ifCond .eq 28, 3) := by decide +kernel
theorem dX10_asks_54 : decode cX10_asks 54 = .ok (.aload_n 0, 1) := by decide +kernel
theorem dX10_asks_55 : decode cX10_asks 55 = .ok (.aload_n 0, 1) := by decide +kernel
theorem dX10_asks_56 : decode cX10_asks 56 = .ok (.getfield 20, 3) := by decide +kernel
theorem dX10_asks_59 : decode cX10_asks 59 = .ok (.aload_n 1, 1) := by decide +kernel
theorem dX10_asks_60 : decode cX10_asks 60 = .ok (.iload_n 2, 1) := by decide +kernel
theorem dX10_asks_61 : decode cX10_asks 61 = .ok (.iload 5, 2) := by decide +kernel
theorem dX10_asks_63 : decode cX10_asks 63 = .ok (.iadd, 1) := by decide +kernel
theorem dX10_asks_64 : decode cX10_asks 64 = .ok (.iaload, 1) := by decide +kernel
theorem dX10_asks_65 : decode cX10_asks 65 = .ok (.bipush 48, 2) := by decide +kernel
theorem dX10_asks_67 : decode cX10_asks 67 = .ok (.isub, 1) := by decide +kernel
theorem dX10_asks_68 : decode cX10_asks 68 = .ok (.iaload, 1) := by decide +kernel
theorem dX10_asks_69 : decode cX10_asks 69 = .ok (.invokevirtual 82, 3) := by decide +kernel
theorem dX10_asks_72 : decode cX10_asks 72 = .ok (.ifCond .eq 7, 3) := by decide +kernel
theorem dX10_asks_75 : decode cX10_asks 75 = .ok (.iconst 1, 1) := by decide +kernel
theorem dX10_asks_76 : decode cX10_asks 76 = .ok (.goto 4, 3) := by decide +kernel
theorem dX10_asks_79 : decode cX10_asks 79 = .ok (.iconst 0, 1) := by decide +kernel
theorem dX10_asks_80 : decode cX10_asks 80 = .ok (.istore 7, 2) := by decide +kernel
theorem dX10_asks_82 : decode cX10_asks 82 = .ok (.goto 53, 3) := by decide +kernel
theorem dX10_asks_85 : decode cX10_asks 85 = .ok (.iload 6, 2) := by decide +kernel
theorem dX10_asks_87 : decode cX10_asks 87 = .ok (.bipush 97, 2) := by decide +kernel
theorem dX10_asks_89 : decode cX10_asks 89 = .ok (.if_icmp .ne 14, 3) := by decide +kernel
theorem dX10_asks_92 : decode cX10_asks 92 = .ok (.aload_n 0, 1) := by decide +kernel
theorem dX10_asks_93 : decode cX10_asks 93 = .ok (.iload 4, 2) := by decide +kernel
theorem dX10_asks_95 : decode cX10_asks 95 = .ok (.invokevirtual 82, 3) := by decide +kernel
theorem dX10_asks_98 : decode cX10_asks 98 = .ok (.istore 7, 2) := by decide +kernel
theorem dX10_asks_100 : decode cX10_asks 100 = .ok (.goto 35, 3) := by decide +kernel
theorem dX10_asks_103 : decode cX10_asks 103 = .ok (.iload 6, 2) := by decide +kernel
theorem dX10_asks_105 : decode cX10_asks 105 = .ok (.bipush 48, 2) := by decide +kernel
theorem dX10_asks_107 : decode cX10_asks 107 = .ok (.bipush 57, 2) := by decide +kernel
theorem dX10_asks_109 : decode cX10_asks 109 = .ok (.invokestatic 59, 3) := by decide +kernel
theorem dX10_asks_112 : decode cX10_asks 112 = .ok (.ifCond .eq 15, 3) := by decide +kernel
theorem dX10_asks_115 : decode cX10_asks 115 = .ok (.aload_n 0, 1) := by decide +kernel
theorem dX10_asks_116 : decode cX10_asks 116 = .ok (.iload 6, 2) := by decide +kernel
theorem dX10_asks_118 : decode cX10_asks 118 = .ok (.bipush 48, 2) := by decide +kernel
theorem dX10_asks_120 : decode cX10_asks 120 = .ok (.isub, 1) := by decide +kernel
theorem dX10_asks_121 : decode cX10_asks 121 = .ok (.invokevirtual 82, 3) := by decide +kernel
theorem dX10_asks_124 : decode cX10_asks 124 = .ok (.goto 9, 3) := by decide +kernel
theorem dX10_asks_127 : decode cX10_asks 127 = .ok (.aload_n 0, 1) := by decide +kernel
theorem dX10_asks_128 : decode cX10_asks 128 = .ok (.iload 6, 2) := by decide +kernel
theorem dX10_asks_130 : decode cX10_asks 130 = .ok (.invokevirtual 86, 3) := by decide +kernel
theorem dX10_asks_133 : decode cX10_asks 133 = .ok (.istore 7, 2) := by decide +kernel
theorem dX10_asks_135 : decode cX10_asks 135 = .ok (.iload 7, 2) := by decide +kernel
theorem dX10_asks_137 : decode cX10_asks 137 = .ok (.ifCond .ne 5, 3) := by decide +kernel
theorem dX10_asks_140 : decode cX10_asks 140 = .ok (.iconst (-1), 1) := by decide +kernel
theorem dX10_asks_141 : decode cX10_asks 141 = .ok (.ireturn, 1) := by decide +kernel
theorem dX10_asks_142 : decode cX10_asks 142 = .ok (.iinc 5 1, 3) := by decide +kernel
theorem dX10_asks_145 : decode cX10_asks 145 = .ok (.goto (-137), 3) := by decide +kernel
theorem dX10_asks_148 : decode cX10_asks 148 = .ok (.aload_n 0, 1) := by decide +kernel
theorem dX10_asks_149 : decode cX10_asks 149 = .ok (.getfield 75, 3) := by decide +kernel
theorem dX10_asks_152 : decode cX10_asks 152 = .ok (.iconst 1, 1) := by decide +kernel
theorem dX10_asks_153 : decode cX10_asks 153 = .ok (.if_icmp .ne 12, 3) := by decide +kernel
theorem dX10_asks_156 : decode cX10_asks 156 = .ok (.aload_n 0, 1) := by decide +kernel
theorem dX10_asks_157 : decode cX10_asks 157 = .ok (.getfield 32, 3) := by decide +kernel
theorem dX10_asks_160 : decode cX10_asks 160 = .ok (.iconst 0, 1) := by decide +kernel
theorem dX10_asks_161 : decode cX10_asks 161 = .ok (.iaload, 1) := by decide +kernel
theorem dX10_asks_162 : decode cX10_asks 162 = .ok (.goto 4, 3) := by decide +kernel
theorem dX10_asks_165 : decode cX10_asks 165 = .ok (.iconst (-1), 1) := by decide +kernel
theorem dX10_asks_166 : decode cX10_asks 166 = .ok (.ireturn, 1) := by decide +kernel
theorem dX10_asked_0 : decode cX10_asked 0 = .ok (.iload_n 1, 1) := by decide +kernel
theorem dX10_asked_1 : decode cX10_asked 1 = .ok (.iconst 0, 1) := by decide +kernel
theorem dX10_asked_2 : decode cX10_asked 2 = .ok (.sipush 999, 3) := by decide +kernel
theorem dX10_asked_5 : decode cX10_asked 5 = .ok (.invokestatic 59, 3) := by decide +kernel
theorem dX10_asked_8 : decode cX10_asked 8 = .ok (.ifCond .ne 5, 3) := by decide +kernel
theorem dX10_asked_11 : decode cX10_asked 11 = .ok (.iconst (-1), 1) := by decide +kernel
theorem dX10_asked_12 : decode cX10_asked 12 = .ok (.ireturn, 1) := by decide +kernel
theorem dX10_asked_13 : decode cX10_asked 13 = .ok (.aload_n 0, 1) := by decide +kernel
theorem dX10_asked_14 : decode cX10_asked 14 = .ok (.aload_n 0, 1) := by decide +kernel
theorem dX10_asked_15 : decode cX10_asked 15 = .ok (.getfield 7, 3) := by decide +kernel
theorem dX10_asked_18 : decode cX10_asked 18 = .ok (.iconst 0, 1) := by decide +kernel
theorem dX10_asked_19 : decode cX10_asked 19 = .ok (.aload_n 0, 1) := by decide +kernel
theorem dX10_asked_20 : decode cX10_asked 20 = .ok (.getfield 56, 3) := by decide +kernel
theorem dX10_asked_23 : decode cX10_asked 23 = .ok (.iload_n 1, 1) := by decide +kernel
theorem dX10_asked_24 : decode cX10_asked 24 = .ok (.invokevirtual 89, 3) := by decide +kernel
theorem dX10_asked_27 : decode cX10_asked 27 = .ok (.istore_n 2, 1) := by decide +kernel
theorem dX10_asked_28 : decode cX10_asked 28 = .ok (.iload_n 2, 1) := by decide +kernel
theorem dX10_asked_29 : decode cX10_asked 29 = .ok (.ifCond .ge 8, 3) := by decide +kernel
theorem dX10_asked_32 : decode cX10_asked 32 = .ok (.bipush (-2), 2) := by decide +kernel
theorem dX10_asked_34 : decode cX10_asked 34 = .ok (.goto 4, 3) := by decide +kernel
theorem dX10_asked_37 : decode cX10_asked 37 = .ok (.iload_n 2, 1) := by decide +kernel
theorem dX10_asked_38 : decode cX10_asked 38 = .ok (.ireturn, 1) := by decide +kernel
theorem dX10_keeps_0 : decode cX10_keeps 0 = .ok (.aload_n 0, 1) := by decide +kernel
theorem dX10_keeps_1 : decode cX10_keeps 1 = .ok (.getfield 53, 3) := by decide +kernel
theorem dX10_keeps_4 : decode cX10_keeps 4 = .ok (.iconst 4, 1) := by decide +kernel
theorem dX10_keeps_5 : decode cX10_keeps 5 = .ok (.if_icmp .ne 44, 3) := by decide +kernel
theorem dX10_keeps_8 : decode cX10_keeps 8 = .ok (.iconst 0, 1) := by decide +kernel
theorem dX10_keeps_9 : decode cX10_keeps 9 = .ok (.istore_n 1, 1) := by decide +kernel
theorem dX10_keeps_10 : decode cX10_keeps 10 = .ok (.iload_n 1, 1) := by decide +kernel
theorem dX10_keeps_11 : decode cX10_keeps 11 = .ok (.sipush 3954, 3) := by decide +kernel
theorem dX10_keeps_14 : decode cX10_keeps 14 = .ok (.if_icmp .ge 25, 3) := by decide +kernel
theorem dX10_keeps_17 : decode cX10_keeps 17 = .ok (.aload_n 0, 1) := by decide +kernel
theorem dX10_keeps_18 : decode cX10_keeps 18 = .ok (.getfield 26, 3) := by decide +kernel
theorem dX10_keeps_21 : decode cX10_keeps 21 = .ok (.iload_n 1, 1) := by decide +kernel
theorem dX10_keeps_22 : decode cX10_keeps 22 = .ok (.aload_n 0, 1) := by decide +kernel
theorem dX10_keeps_23 : decode cX10_keeps 23 = .ok (.getfield 26, 3) := by decide +kernel
theorem dX10_keeps_26 : decode cX10_keeps 26 = .ok (.iload_n 1, 1) := by decide +kernel
theorem dX10_keeps_27 : decode cX10_keeps 27 = .ok (.sipush 1318, 3) := by decide +kernel
theorem dX10_keeps_30 : decode cX10_keeps 30 = .ok (.iadd, 1) := by decide +kernel
theorem dX10_keeps_31 : decode cX10_keeps 31 = .ok (.iaload, 1) := by decide +kernel
theorem dX10_keeps_32 : decode cX10_keeps 32 = .ok (.iastore, 1) := by decide +kernel
theorem dX10_keeps_33 : decode cX10_keeps 33 = .ok (.iinc 1 1, 3) := by decide +kernel
theorem dX10_keeps_36 : decode cX10_keeps 36 = .ok (.goto (-26), 3) := by decide +kernel
theorem dX10_keeps_39 : decode cX10_keeps 39 = .ok (.aload_n 0, 1) := by decide +kernel
theorem dX10_keeps_40 : decode cX10_keeps 40 = .ok (.dup, 1) := by decide +kernel
theorem dX10_keeps_41 : decode cX10_keeps 41 = .ok (.getfield 53, 3) := by decide +kernel
theorem dX10_keeps_44 : decode cX10_keeps 44 = .ok (.iconst 1, 1) := by decide +kernel
theorem dX10_keeps_45 : decode cX10_keeps 45 = .ok (.isub, 1) := by decide +kernel
theorem dX10_keeps_46 : decode cX10_keeps 46 = .ok (.putfield 53, 3) := by decide +kernel
theorem dX10_keeps_49 : decode cX10_keeps 49 = .ok (.iconst 0, 1) := by decide +kernel
theorem dX10_keeps_50 : decode cX10_keeps 50 = .ok (.istore_n 1, 1) := by decide +kernel
theorem dX10_keeps_51 : decode cX10_keeps 51 = .ok (.iload_n 1, 1) := by decide +kernel
theorem dX10_keeps_52 : decode cX10_keeps 52 = .ok (.sipush 1318, 3) := by decide +kernel
theorem dX10_keeps_55 : decode cX10_keeps 55 = .ok (.if_icmp .ge 30, 3) := by decide +kernel
theorem dX10_keeps_58 : decode cX10_keeps 58 = .ok (.aload_n 0, 1) := by decide +kernel
theorem dX10_keeps_59 : decode cX10_keeps 59 = .ok (.getfield 26, 3) := by decide +kernel
theorem dX10_keeps_62 : decode cX10_keeps 62 = .ok (.sipush 1318, 3) := by decide +kernel
theorem dX10_keeps_65 : decode cX10_keeps 65 = .ok (.aload_n 0, 1) := by decide +kernel
theorem dX10_keeps_66 : decode cX10_keeps 66 = .ok (.getfield 53, 3) := by decide +kernel
theorem dX10_keeps_69 : decode cX10_keeps 69 = .ok (.imul, 1) := by decide +kernel
theorem dX10_keeps_70 : decode cX10_keeps 70 = .ok (.iload_n 1, 1) := by decide +kernel
theorem dX10_keeps_71 : decode cX10_keeps 71 = .ok (.iadd, 1) := by decide +kernel
theorem dX10_keeps_72 : decode cX10_keeps 72 = .ok (.aload_n 0, 1) := by decide +kernel
theorem dX10_keeps_73 : decode cX10_keeps 73 = .ok (.getfield 20, 3) := by decide +kernel
theorem dX10_keeps_76 : decode cX10_keeps 76 = .ok (.iload_n 1, 1) := by decide +kernel
theorem dX10_keeps_77 : decode cX10_keeps 77 = .ok (.iaload, 1) := by decide +kernel
theorem dX10_keeps_78 : decode cX10_keeps 78 = .ok (.iastore, 1) := by decide +kernel
theorem dX10_keeps_79 : decode cX10_keeps 79 = .ok (.iinc 1 1, 3) := by decide +kernel
theorem dX10_keeps_82 : decode cX10_keeps 82 = .ok (.goto (-31), 3) := by decide +kernel
theorem dX10_keeps_85 : decode cX10_keeps 85 = .ok (.aload_n 0, 1) := by decide +kernel
theorem dX10_keeps_86 : decode cX10_keeps 86 = .ok (.dup, 1) := by decide +kernel
theorem dX10_keeps_87 : decode cX10_keeps 87 = .ok (.getfield 53, 3) := by decide +kernel
theorem dX10_keeps_90 : decode cX10_keeps 90 = .ok (.iconst 1, 1) := by decide +kernel
theorem dX10_keeps_91 : decode cX10_keeps 91 = .ok (.iadd, 1) := by decide +kernel
theorem dX10_keeps_92 : decode cX10_keeps 92 = .ok (.putfield 53, 3) := by decide +kernel
theorem dX10_keeps_95 : decode cX10_keeps 95 = .ok (.return_, 1) := by decide +kernel
theorem dX10_undo_0 : decode cX10_undo 0 = .ok (.aload_n 0, 1) := by decide +kernel
theorem dX10_undo_1 : decode cX10_undo 1 = .ok (.getfield 53, 3) := by decide +kernel
theorem dX10_undo_4 : decode cX10_undo 4 = .ok (.ifCond .ne 6, 3) := by decide +kernel
theorem dX10_undo_7 : decode cX10_undo 7 = .ok (.bipush (-2), 2) := by decide +kernel
theorem dX10_undo_9 : decode cX10_undo 9 = .ok (.ireturn, 1) := by decide +kernel
theorem dX10_undo_10 : decode cX10_undo 10 = .ok (.aload_n 0, 1) := by decide +kernel
theorem dX10_undo_11 : decode cX10_undo 11 = .ok (.dup, 1) := by decide +kernel
theorem dX10_undo_12 : decode cX10_undo 12 = .ok (.getfield 53, 3) := by decide +kernel
theorem dX10_undo_15 : decode cX10_undo 15 = .ok (.iconst 1, 1) := by decide +kernel
theorem dX10_undo_16 : decode cX10_undo 16 = .ok (.isub, 1) := by decide +kernel
theorem dX10_undo_17 : decode cX10_undo 17 = .ok (.putfield 53, 3) := by decide +kernel
theorem dX10_undo_20 : decode cX10_undo 20 = .ok (.iconst 0, 1) := by decide +kernel
theorem dX10_undo_21 : decode cX10_undo 21 = .ok (.istore_n 1, 1) := by decide +kernel
theorem dX10_undo_22 : decode cX10_undo 22 = .ok (.iload_n 1, 1) := by decide +kernel
theorem dX10_undo_23 : decode cX10_undo 23 = .ok (.sipush 1318, 3) := by decide +kernel
theorem dX10_undo_26 : decode cX10_undo 26 = .ok (.if_icmp .ge 30, 3) := by decide +kernel
theorem dX10_undo_29 : decode cX10_undo 29 = .ok (.aload_n 0, 1) := by decide +kernel
theorem dX10_undo_30 : decode cX10_undo 30 = .ok (.getfield 20, 3) := by decide +kernel
theorem dX10_undo_33 : decode cX10_undo 33 = .ok (.iload_n 1, 1) := by decide +kernel
theorem dX10_undo_34 : decode cX10_undo 34 = .ok (.aload_n 0, 1) := by decide +kernel
theorem dX10_undo_35 : decode cX10_undo 35 = .ok (.getfield 26, 3) := by decide +kernel
theorem dX10_undo_38 : decode cX10_undo 38 = .ok (.sipush 1318, 3) := by decide +kernel
theorem dX10_undo_41 : decode cX10_undo 41 = .ok (.aload_n 0, 1) := by decide +kernel
theorem dX10_undo_42 : decode cX10_undo 42 = .ok (.getfield 53, 3) := by decide +kernel
theorem dX10_undo_45 : decode cX10_undo 45 = .ok (.imul, 1) := by decide +kernel
theorem dX10_undo_46 : decode cX10_undo 46 = .ok (.iload_n 1, 1) := by decide +kernel
theorem dX10_undo_47 : decode cX10_undo 47 = .ok (.iadd, 1) := by decide +kernel
theorem dX10_undo_48 : decode cX10_undo 48 = .ok (.iaload, 1) := by decide +kernel
theorem dX10_undo_49 : decode cX10_undo 49 = .ok (.iastore, 1) := by decide +kernel
theorem dX10_undo_50 : decode cX10_undo 50 = .ok (.iinc 1 1, 3) := by decide +kernel
theorem dX10_undo_53 : decode cX10_undo 53 = .ok (.goto (-31), 3) := by decide +kernel
theorem dX10_undo_56 : decode cX10_undo 56 = .ok (.aload_n 0, 1) := by decide +kernel
theorem dX10_undo_57 : decode cX10_undo 57 = .ok (.getfield 53, 3) := by decide +kernel
theorem dX10_undo_60 : decode cX10_undo 60 = .ok (.ireturn, 1) := by decide +kernel
theorem dX10_processorAt_0 : decode cX10_processorAt 0 = .ok (.bipush 8, 2) := by decide +kernel
theorem dX10_processorAt_2 : decode cX10_processorAt 2 = .ok (.bipush 31, 2) := by decide +kernel
theorem dX10_processorAt_4 : decode cX10_processorAt 4 = .ok (.iload_n 0, 1) := by decide +kernel
theorem dX10_processorAt_5 : decode cX10_processorAt 5 = .ok (.imul, 1) := by decide +kernel
theorem dX10_processorAt_6 : decode cX10_processorAt 6 = .ok (.iadd, 1) := by decide +kernel
theorem dX10_processorAt_7 : decode cX10_processorAt 7 = .ok (.ireturn, 1) := by decide +kernel
theorem dX10_probeAt_0 : decode cX10_probeAt 0 = .ok (.bipush 70, 2) := by decide +kernel
theorem dX10_probeAt_2 : decode cX10_probeAt 2 = .ok (.sipush 208, 3) := by decide +kernel
theorem dX10_probeAt_5 : decode cX10_probeAt 5 = .ok (.iload_n 0, 1) := by decide +kernel
theorem dX10_probeAt_6 : decode cX10_probeAt 6 = .ok (.imul, 1) := by decide +kernel
theorem dX10_probeAt_7 : decode cX10_probeAt 7 = .ok (.iadd, 1) := by decide +kernel
theorem dX10_probeAt_8 : decode cX10_probeAt 8 = .ok (.ireturn, 1) := by decide +kernel
theorem dX10_isCell_0 : decode cX10_isCell 0 = .ok (.iload_n 1, 1) := by decide +kernel
theorem dX10_isCell_1 : decode cX10_isCell 1 = .ok (.iconst 0, 1) := by decide +kernel
theorem dX10_isCell_2 : decode cX10_isCell 2 = .ok (.aload_n 0, 1) := by decide +kernel
theorem dX10_isCell_3 : decode cX10_isCell 3 = .ok (.getfield 49, 3) := by decide +kernel
theorem dX10_isCell_6 : decode cX10_isCell 6 = .ok (.iconst 1, 1) := by decide +kernel
theorem dX10_isCell_7 : decode cX10_isCell 7 = .ok (.isub, 1) := by decide +kernel
theorem dX10_isCell_8 : decode cX10_isCell 8 = .ok (.invokestatic 59, 3) := by decide +kernel
theorem dX10_isCell_11 : decode cX10_isCell 11 = .ok (.ireturn, 1) := by decide +kernel
theorem dX10_isBegin_0 : decode cX10_isBegin 0 = .ok (.aload_n 0, 1) := by decide +kernel
theorem dX10_isBegin_1 : decode cX10_isBegin 1 = .ok (.iload_n 1, 1) := by decide +kernel
theorem dX10_isBegin_2 : decode cX10_isBegin 2 = .ok (.invokevirtual 93, 3) := by decide +kernel
theorem dX10_isBegin_5 : decode cX10_isBegin 5 = .ok (.ifCond .eq 16, 3) := by decide +kernel
theorem dX10_isBegin_8 : decode cX10_isBegin 8 = .ok (.aload_n 0, 1) := by decide +kernel
theorem dX10_isBegin_9 : decode cX10_isBegin 9 = .ok (.getfield 16, 3) := by decide +kernel
theorem dX10_isBegin_12 : decode cX10_isBegin 12 = .ok (.iload_n 1, 1) := by decide +kernel
theorem dX10_isBegin_13 : decode cX10_isBegin 13 = .ok (.baload, 1) := by decide +kernel
theorem dX10_isBegin_14 : decode cX10_isBegin 14 = .ok (.ifCond .eq 7, 3) := by decide +kernel
theorem dX10_isBegin_17 : decode cX10_isBegin 17 = .ok (.iconst 1, 1) := by decide +kernel
theorem dX10_isBegin_18 : decode cX10_isBegin 18 = .ok (.goto 4, 3) := by decide +kernel
theorem dX10_isBegin_21 : decode cX10_isBegin 21 = .ok (.iconst 0, 1) := by decide +kernel
theorem dX10_isBegin_22 : decode cX10_isBegin 22 = .ok (.ireturn, 1) := by decide +kernel
theorem dX10_isProbe_0 : decode cX10_isProbe 0 = .ok (.iload_n 1, 1) := by decide +kernel
theorem dX10_isProbe_1 : decode cX10_isProbe 1 = .ok (.iconst 0, 1) := by decide +kernel
theorem dX10_isProbe_2 : decode cX10_isProbe 2 = .ok (.iconst 5, 1) := by decide +kernel
theorem dX10_isProbe_3 : decode cX10_isProbe 3 = .ok (.invokestatic 59, 3) := by decide +kernel
theorem dX10_isProbe_6 : decode cX10_isProbe 6 = .ok (.ifCond .eq 20, 3) := by decide +kernel
theorem dX10_isProbe_9 : decode cX10_isProbe 9 = .ok (.aload_n 0, 1) := by decide +kernel
theorem dX10_isProbe_10 : decode cX10_isProbe 10 = .ok (.getfield 20, 3) := by decide +kernel
theorem dX10_isProbe_13 : decode cX10_isProbe 13 = .ok (.iload_n 1, 1) := by decide +kernel
theorem dX10_isProbe_14 : decode cX10_isProbe 14 = .ok (.invokestatic 96, 3) := by decide +kernel
theorem dX10_isProbe_17 : decode cX10_isProbe 17 = .ok (.iaload, 1) := by decide +kernel
theorem dX10_isProbe_18 : decode cX10_isProbe 18 = .ok (.iconst 3, 1) := by decide +kernel
theorem dX10_isProbe_19 : decode cX10_isProbe 19 = .ok (.if_icmp .ge 7, 3) := by decide +kernel
theorem dX10_isProbe_22 : decode cX10_isProbe 22 = .ok (.iconst 1, 1) := by decide +kernel
theorem dX10_isProbe_23 : decode cX10_isProbe 23 = .ok (.goto 4, 3) := by decide +kernel
theorem dX10_isProbe_26 : decode cX10_isProbe 26 = .ok (.iconst 0, 1) := by decide +kernel
theorem dX10_isProbe_27 : decode cX10_isProbe 27 = .ok (.ireturn, 1) := by decide +kernel
theorem dX10_probeOn_0 : decode cX10_probeOn 0 = .ok (.iconst 0, 1) := by decide +kernel
theorem dX10_probeOn_1 : decode cX10_probeOn 1 = .ok (.istore_n 2, 1) := by decide +kernel
theorem dX10_probeOn_2 : decode cX10_probeOn 2 = .ok (.iload_n 2, 1) := by decide +kernel
theorem dX10_probeOn_3 : decode cX10_probeOn 3 = .ok (.bipush 6, 2) := by decide +kernel
theorem dX10_probeOn_5 : decode cX10_probeOn 5 = .ok (.if_icmp .ge 39, 3) := by decide +kernel
theorem dX10_probeOn_8 : decode cX10_probeOn 8 = .ok (.aload_n 0, 1) := by decide +kernel
theorem dX10_probeOn_9 : decode cX10_probeOn 9 = .ok (.getfield 20, 3) := by decide +kernel
theorem dX10_probeOn_12 : decode cX10_probeOn 12 = .ok (.iload_n 2, 1) := by decide +kernel
theorem dX10_probeOn_13 : decode cX10_probeOn 13 = .ok (.invokestatic 96, 3) := by decide +kernel
theorem dX10_probeOn_16 : decode cX10_probeOn 16 = .ok (.iaload, 1) := by decide +kernel
theorem dX10_probeOn_17 : decode cX10_probeOn 17 = .ok (.iconst 3, 1) := by decide +kernel
theorem dX10_probeOn_18 : decode cX10_probeOn 18 = .ok (.if_icmp .ge 20, 3) := by decide +kernel
theorem dX10_probeOn_21 : decode cX10_probeOn 21 = .ok (.aload_n 0, 1) := by decide +kernel
theorem dX10_probeOn_22 : decode cX10_probeOn 22 = .ok (.getfield 20, 3) := by decide +kernel
theorem dX10_probeOn_25 : decode cX10_probeOn 25 = .ok (.iload_n 2, 1) := by decide +kernel
theorem dX10_probeOn_26 : decode cX10_probeOn 26 = .ok (.invokestatic 96, 3) := by decide +kernel
theorem dX10_probeOn_29 : decode cX10_probeOn 29 = .ok (.iconst 2, 1) := by decide +kernel
theorem dX10_probeOn_30 : decode cX10_probeOn 30 = .ok (.iadd, 1) := by decide +kernel
theorem dX10_probeOn_31 : decode cX10_probeOn 31 = .ok (.iaload, 1) := by decide +kernel
theorem dX10_probeOn_32 : decode cX10_probeOn 32 = .ok (.iload_n 1, 1) := by decide +kernel
theorem dX10_probeOn_33 : decode cX10_probeOn 33 = .ok (.if_icmp .ne 5, 3) := by decide +kernel
theorem dX10_probeOn_36 : decode cX10_probeOn 36 = .ok (.iload_n 2, 1) := by decide +kernel
theorem dX10_probeOn_37 : decode cX10_probeOn 37 = .ok (.ireturn, 1) := by decide +kernel
theorem dX10_probeOn_38 : decode cX10_probeOn 38 = .ok (.iinc 2 1, 3) := by decide +kernel
theorem dX10_probeOn_41 : decode cX10_probeOn 41 = .ok (.goto (-39), 3) := by decide +kernel
theorem dX10_probeOn_44 : decode cX10_probeOn 44 = .ok (.bipush (-4), 2) := by decide +kernel
theorem dX10_probeOn_46 : decode cX10_probeOn 46 = .ok (.ireturn, 1) := by decide +kernel
theorem dX10_manyThat_0 : decode cX10_manyThat 0 = .ok (.iconst 0, 1) := by decide +kernel
theorem dX10_manyThat_1 : decode cX10_manyThat 1 = .ok (.istore_n 2, 1) := by decide +kernel
theorem dX10_manyThat_2 : decode cX10_manyThat 2 = .ok (.iconst 0, 1) := by decide +kernel
theorem dX10_manyThat_3 : decode cX10_manyThat 3 = .ok (.istore_n 3, 1) := by decide +kernel
theorem dX10_manyThat_4 : decode cX10_manyThat 4 = .ok (.iload_n 3, 1) := by decide +kernel
theorem dX10_manyThat_5 : decode cX10_manyThat 5 = .ok (.bipush 6, 2) := by decide +kernel
theorem dX10_manyThat_7 : decode cX10_manyThat 7 = .ok (.if_icmp .ge 30, 3) := by decide +kernel
theorem dX10_manyThat_10 : decode cX10_manyThat 10 = .ok (.iload_n 2, 1) := by decide +kernel
theorem dX10_manyThat_11 : decode cX10_manyThat 11 = .ok (.aload_n 0, 1) := by decide +kernel
theorem dX10_manyThat_12 : decode cX10_manyThat 12 = .ok (.getfield 20, 3) := by decide +kernel
theorem dX10_manyThat_15 : decode cX10_manyThat 15 = .ok (.iload_n 3, 1) := by decide +kernel
theorem dX10_manyThat_16 : decode cX10_manyThat 16 = .ok (.invokestatic 96, 3) := by decide +kernel
theorem dX10_manyThat_19 : decode cX10_manyThat 19 = .ok (.iaload, 1) := by decide +kernel
theorem dX10_manyThat_20 : decode cX10_manyThat 20 = .ok (.iload_n 1, 1) := by decide +kernel
theorem dX10_manyThat_21 : decode cX10_manyThat 21 = .ok (.if_icmp .ne 7, 3) := by decide +kernel
theorem dX10_manyThat_24 : decode cX10_manyThat 24 = .ok (.iconst 1, 1) := by decide +kernel
theorem dX10_manyThat_25 : decode cX10_manyThat 25 = .ok (.goto 4, 3) := by decide +kernel
theorem dX10_manyThat_28 : decode cX10_manyThat 28 = .ok (.iconst 0, 1) := by decide +kernel
theorem dX10_manyThat_29 : decode cX10_manyThat 29 = .ok (.iadd, 1) := by decide +kernel
theorem dX10_manyThat_30 : decode cX10_manyThat 30 = .ok (.istore_n 2, 1) := by decide +kernel
theorem dX10_manyThat_31 : decode cX10_manyThat 31 = .ok (.iinc 3 1, 3) := by decide +kernel
theorem dX10_manyThat_34 : decode cX10_manyThat 34 = .ok (.goto (-30), 3) := by decide +kernel
theorem dX10_manyThat_37 : decode cX10_manyThat 37 = .ok (.iload_n 2, 1) := by decide +kernel
theorem dX10_manyThat_38 : decode cX10_manyThat 38 = .ok (.ireturn, 1) := by decide +kernel
theorem dX10_probe_0 : decode cX10_probe 0 = .ok (.iload_n 1, 1) := by decide +kernel
theorem dX10_probe_1 : decode cX10_probe 1 = .ok (.iconst 0, 1) := by decide +kernel
theorem dX10_probe_2 : decode cX10_probe 2 = .ok (.iconst 1, 1) := by decide +kernel
theorem dX10_probe_3 : decode cX10_probe 3 = .ok (.invokestatic 59, 3) := by decide +kernel
theorem dX10_probe_6 : decode cX10_probe 6 = .ok (.ifCond .eq 11, 3) := by decide +kernel
theorem dX10_probe_9 : decode cX10_probe 9 = .ok (.aload_n 0, 1) := by decide +kernel
theorem dX10_probe_10 : decode cX10_probe 10 = .ok (.iload_n 2, 1) := by decide +kernel
theorem dX10_probe_11 : decode cX10_probe 11 = .ok (.invokevirtual 93, 3) := by decide +kernel
theorem dX10_probe_14 : decode cX10_probe 14 = .ok (.ifCond .ne 5, 3) := by decide +kernel
theorem dX10_probe_17 : decode cX10_probe 17 = .ok (.iconst (-1), 1) := by decide +kernel
theorem dX10_probe_18 : decode cX10_probe 18 = .ok (.ireturn, 1) := by decide +kernel
theorem dX10_probe_19 : decode cX10_probe 19 = .ok (.aload_n 0, 1) := by decide +kernel
theorem dX10_probe_20 : decode cX10_probe 20 = .ok (.getfield 16, 3) := by decide +kernel
theorem dX10_probe_23 : decode cX10_probe 23 = .ok (.iload_n 2, 1) := by decide +kernel
theorem dX10_probe_24 : decode cX10_probe 24 = .ok (.baload, 1) := by decide +kernel
theorem dX10_probe_25 : decode cX10_probe 25 = .ok (.ifCond .eq 13, 3) := by decide +kernel
theorem dX10_probe_28 : decode cX10_probe 28 = .ok (.aload_n 0, 1) := by decide +kernel
theorem dX10_probe_29 : decode cX10_probe 29 = .ok (.iload_n 2, 1) := by decide +kernel
theorem dX10_probe_30 : decode cX10_probe 30 = .ok (.invokevirtual 99, 3) := by decide +kernel
theorem dX10_probe_33 : decode cX10_probe 33 = .ok (.bipush (-4), 2) := by decide +kernel
theorem dX10_probe_35 : decode cX10_probe 35 = .ok (.if_icmp .eq 6, 3) := by decide +kernel
theorem dX10_probe_38 : decode cX10_probe 38 = .ok (.bipush (-2), 2) := by decide +kernel
theorem dX10_probe_40 : decode cX10_probe 40 = .ok (.ireturn, 1) := by decide +kernel
theorem dX10_probe_41 : decode cX10_probe 41 = .ok (.aload_n 0, 1) := by decide +kernel
theorem dX10_probe_42 : decode cX10_probe 42 = .ok (.iconst 3, 1) := by decide +kernel
theorem dX10_probe_43 : decode cX10_probe 43 = .ok (.invokevirtual 102, 3) := by decide +kernel
theorem dX10_probe_46 : decode cX10_probe 46 = .ok (.ifCond .ne 6, 3) := by decide +kernel
theorem dX10_probe_49 : decode cX10_probe 49 = .ok (.bipush (-3), 2) := by decide +kernel
theorem dX10_probe_51 : decode cX10_probe 51 = .ok (.ireturn, 1) := by decide +kernel
theorem dX10_probe_52 : decode cX10_probe 52 = .ok (.aload_n 0, 1) := by decide +kernel
theorem dX10_probe_53 : decode cX10_probe 53 = .ok (.invokevirtual 105, 3) := by decide +kernel
theorem dX10_probe_56 : decode cX10_probe 56 = .ok (.iconst 0, 1) := by decide +kernel
theorem dX10_probe_57 : decode cX10_probe 57 = .ok (.istore_n 3, 1) := by decide +kernel
theorem dX10_probe_58 : decode cX10_probe 58 = .ok (.aload_n 0, 1) := by decide +kernel
theorem dX10_probe_59 : decode cX10_probe 59 = .ok (.getfield 20, 3) := by decide +kernel
theorem dX10_probe_62 : decode cX10_probe 62 = .ok (.iload_n 3, 1) := by decide +kernel
theorem dX10_probe_63 : decode cX10_probe 63 = .ok (.invokestatic 96, 3) := by decide +kernel
theorem dX10_probe_66 : decode cX10_probe 66 = .ok (.iaload, 1) := by decide +kernel
theorem dX10_probe_67 : decode cX10_probe 67 = .ok (.iconst 3, 1) := by decide +kernel
theorem dX10_probe_68 : decode cX10_probe 68 = .ok (.if_icmp .eq 9, 3) := by decide +kernel
theorem dX10_probe_71 : decode cX10_probe 71 = .ok (.iinc 3 1, 3) := by decide +kernel
theorem dX10_probe_74 : decode cX10_probe 74 = .ok (.goto (-16), 3) := by decide +kernel
theorem dX10_probe_77 : decode cX10_probe 77 = .ok (.iconst 0, 1) := by decide +kernel
theorem dX10_probe_78 : decode cX10_probe 78 = .ok (.istore 4, 2) := by decide +kernel
theorem dX10_probe_80 : decode cX10_probe 80 = .ok (.iload 4, 2) := by decide +kernel
theorem dX10_probe_82 : decode cX10_probe 82 = .ok (.sipush 208, 3) := by decide +kernel
theorem dX10_probe_85 : decode cX10_probe 85 = .ok (.if_icmp .ge 22, 3) := by decide +kernel
theorem dX10_probe_88 : decode cX10_probe 88 = .ok (.aload_n 0, 1) := by decide +kernel
theorem dX10_probe_89 : decode cX10_probe 89 = .ok (.getfield 20, 3) := by decide +kernel
theorem dX10_probe_92 : decode cX10_probe 92 = .ok (.iload_n 3, 1) := by decide +kernel
theorem dX10_probe_93 : decode cX10_probe 93 = .ok (.invokestatic 96, 3) := by decide +kernel
theorem dX10_probe_96 : decode cX10_probe 96 = .ok (.iload 4, 2) := by decide +kernel
theorem dX10_probe_98 : decode cX10_probe 98 = .ok (.iadd, 1) := by decide +kernel
theorem dX10_probe_99 : decode cX10_probe 99 = .ok (.iconst 0, 1) := by decide +kernel
theorem dX10_probe_100 : decode cX10_probe 100 = .ok (.iastore, 1) := by decide +kernel
theorem dX10_probe_101 : decode cX10_probe 101 = .ok (.iinc 4 1, 3) := by decide +kernel
theorem dX10_probe_104 : decode cX10_probe 104 = .ok (.goto (-24), 3) := by decide +kernel
theorem dX10_probe_107 : decode cX10_probe 107 = .ok (.aload_n 0, 1) := by decide +kernel
theorem dX10_probe_108 : decode cX10_probe 108 = .ok (.getfield 20, 3) := by decide +kernel
theorem dX10_probe_111 : decode cX10_probe 111 = .ok (.iload_n 3, 1) := by decide +kernel
theorem dX10_probe_112 : decode cX10_probe 112 = .ok (.invokestatic 96, 3) := by decide +kernel
theorem dX10_probe_115 : decode cX10_probe 115 = .ok (.iconst 1, 1) := by decide +kernel
theorem dX10_probe_116 : decode cX10_probe 116 = .ok (.iadd, 1) := by decide +kernel
theorem dX10_probe_117 : decode cX10_probe 117 = .ok (.iload_n 1, 1) := by decide +kernel
theorem dX10_probe_118 : decode cX10_probe 118 = .ok (.iastore, 1) := by decide +kernel
theorem dX10_probe_119 : decode cX10_probe 119 = .ok (.aload_n 0, 1) := by decide +kernel
theorem dX10_probe_120 : decode cX10_probe 120 = .ok (.getfield 20, 3) := by decide +kernel
theorem dX10_probe_123 : decode cX10_probe 123 = .ok (.iload_n 3, 1) := by decide +kernel
theorem dX10_probe_124 : decode cX10_probe 124 = .ok (.invokestatic 96, 3) := by decide +kernel
theorem dX10_probe_127 : decode cX10_probe 127 = .ok (.iconst 2, 1) := by decide +kernel
theorem dX10_probe_128 : decode cX10_probe 128 = .ok (.iadd, 1) := by decide +kernel
theorem dX10_probe_129 : decode cX10_probe 129 = .ok (.iload_n 2, 1) := by decide +kernel
theorem dX10_probe_130 : decode cX10_probe 130 = .ok (.iastore, 1) := by decide +kernel
theorem dX10_probe_131 : decode cX10_probe 131 = .ok (.iload_n 3, 1) := by decide +kernel
theorem dX10_probe_132 : decode cX10_probe 132 = .ok (.ireturn, 1) := by decide +kernel
theorem dX10_turn_0 : decode cX10_turn 0 = .ok (.aload_n 0, 1) := by decide +kernel
theorem dX10_turn_1 : decode cX10_turn 1 = .ok (.iload_n 1, 1) := by decide +kernel
theorem dX10_turn_2 : decode cX10_turn 2 = .ok (.invokevirtual 108, 3) := by decide +kernel
theorem dX10_turn_5 : decode cX10_turn 5 = .ok (.ifCond .eq 12, 3) := by decide +kernel
theorem dX10_turn_8 : decode cX10_turn 8 = .ok (.iload_n 2, 1) := by decide +kernel
theorem dX10_turn_9 : decode cX10_turn 9 = .ok (.iconst 0, 1) := by decide +kernel
theorem dX10_turn_10 : decode cX10_turn 10 = .ok (.iconst 1, 1) := by decide +kernel
theorem dX10_turn_11 : decode cX10_turn 11 = .ok (.invokestatic 59, 3) := by decide +kernel
theorem dX10_turn_14 : decode cX10_turn 14 = .ok (.ifCond .ne 5, 3) := by decide +kernel
theorem dX10_turn_17 : decode cX10_turn 17 = .ok (.iconst (-1), 1) := by decide +kernel
theorem dX10_turn_18 : decode cX10_turn 18 = .ok (.ireturn, 1) := by decide +kernel
theorem dX10_turn_19 : decode cX10_turn 19 = .ok (.iload_n 1, 1) := by decide +kernel
theorem dX10_turn_20 : decode cX10_turn 20 = .ok (.invokestatic 96, 3) := by decide +kernel
theorem dX10_turn_23 : decode cX10_turn 23 = .ok (.istore_n 3, 1) := by decide +kernel
theorem dX10_turn_24 : decode cX10_turn 24 = .ok (.aload_n 0, 1) := by decide +kernel
theorem dX10_turn_25 : decode cX10_turn 25 = .ok (.getfield 20, 3) := by decide +kernel
theorem dX10_turn_28 : decode cX10_turn 28 = .ok (.iload_n 3, 1) := by decide +kernel
theorem dX10_turn_29 : decode cX10_turn 29 = .ok (.iaload, 1) := by decide +kernel
theorem dX10_turn_30 : decode cX10_turn 30 = .ok (.iconst 2, 1) := by decide +kernel
theorem dX10_turn_31 : decode cX10_turn 31 = .ok (.if_icmp .eq 15, 3) := by decide +kernel
theorem dX10_turn_34 : decode cX10_turn 34 = .ok (.aload_n 0, 1) := by decide +kernel
theorem dX10_turn_35 : decode cX10_turn 35 = .ok (.getfield 20, 3) := by decide +kernel
theorem dX10_turn_38 : decode cX10_turn 38 = .ok (.iload_n 3, 1) := by decide +kernel
theorem dX10_turn_39 : decode cX10_turn 39 = .ok (.iaload, 1) := by decide +kernel
theorem dX10_turn_40 : decode cX10_turn 40 = .ok (.iconst 1, 1) := by decide +kernel
theorem dX10_turn_41 : decode cX10_turn 41 = .ok (.iload_n 2, 1) := by decide +kernel
theorem dX10_turn_42 : decode cX10_turn 42 = .ok (.isub, 1) := by decide +kernel
theorem dX10_turn_43 : decode cX10_turn 43 = .ok (.if_icmp .ne 6, 3) := by decide +kernel
theorem dX10_turn_46 : decode cX10_turn 46 = .ok (.bipush (-2), 2) := by decide +kernel
theorem dX10_turn_48 : decode cX10_turn 48 = .ok (.ireturn, 1) := by decide +kernel
theorem dX10_turn_49 : decode cX10_turn 49 = .ok (.aload_n 0, 1) := by decide +kernel
theorem dX10_turn_50 : decode cX10_turn 50 = .ok (.invokevirtual 105, 3) := by decide +kernel
theorem dX10_turn_53 : decode cX10_turn 53 = .ok (.aload_n 0, 1) := by decide +kernel
theorem dX10_turn_54 : decode cX10_turn 54 = .ok (.getfield 20, 3) := by decide +kernel
theorem dX10_turn_57 : decode cX10_turn 57 = .ok (.iload_n 3, 1) := by decide +kernel
theorem dX10_turn_58 : decode cX10_turn 58 = .ok (.iconst 1, 1) := by decide +kernel
theorem dX10_turn_59 : decode cX10_turn 59 = .ok (.iload_n 2, 1) := by decide +kernel
theorem dX10_turn_60 : decode cX10_turn 60 = .ok (.isub, 1) := by decide +kernel
theorem dX10_turn_61 : decode cX10_turn 61 = .ok (.iastore, 1) := by decide +kernel
theorem dX10_turn_62 : decode cX10_turn 62 = .ok (.aload_n 0, 1) := by decide +kernel
theorem dX10_turn_63 : decode cX10_turn 63 = .ok (.iconst 0, 1) := by decide +kernel
theorem dX10_turn_64 : decode cX10_turn 64 = .ok (.invokevirtual 102, 3) := by decide +kernel
theorem dX10_turn_67 : decode cX10_turn 67 = .ok (.ireturn, 1) := by decide +kernel
theorem dX10_remove_0 : decode cX10_remove 0 = .ok (.aload_n 0, 1) := by decide +kernel
theorem dX10_remove_1 : decode cX10_remove 1 = .ok (.iload_n 1, 1) := by decide +kernel
theorem dX10_remove_2 : decode cX10_remove 2 = .ok (.invokevirtual 108, 3) := by decide +kernel
theorem dX10_remove_5 : decode cX10_remove 5 = .ok (.ifCond .ne 5, 3) := by decide +kernel
theorem dX10_remove_8 : decode cX10_remove 8 = .ok (.iconst (-1), 1) := by decide +kernel
theorem dX10_remove_9 : decode cX10_remove 9 = .ok (.ireturn, 1) := by decide +kernel
theorem dX10_remove_10 : decode cX10_remove 10 = .ok (.iload_n 1, 1) := by decide +kernel
theorem dX10_remove_11 : decode cX10_remove 11 = .ok (.invokestatic 96, 3) := by decide +kernel
theorem dX10_remove_14 : decode cX10_remove 14 = .ok (.istore_n 2, 1) := by decide +kernel
theorem dX10_remove_15 : decode cX10_remove 15 = .ok (.aload_n 0, 1) := by decide +kernel
theorem dX10_remove_16 : decode cX10_remove 16 = .ok (.getfield 20, 3) := by decide +kernel
theorem dX10_remove_19 : decode cX10_remove 19 = .ok (.iload_n 2, 1) := by decide +kernel
theorem dX10_remove_20 : decode cX10_remove 20 = .ok (.iaload, 1) := by decide +kernel
theorem dX10_remove_21 : decode cX10_remove 21 = .ok (.iconst 2, 1) := by decide +kernel
theorem dX10_remove_22 : decode cX10_remove 22 = .ok (.if_icmp .ne 6, 3) := by decide +kernel
theorem dX10_remove_25 : decode cX10_remove 25 = .ok (.bipush (-2), 2) := by decide +kernel
theorem dX10_remove_27 : decode cX10_remove 27 = .ok (.ireturn, 1) := by decide +kernel
theorem dX10_remove_28 : decode cX10_remove 28 = .ok (.aload_n 0, 1) := by decide +kernel
theorem dX10_remove_29 : decode cX10_remove 29 = .ok (.invokevirtual 105, 3) := by decide +kernel
theorem dX10_remove_32 : decode cX10_remove 32 = .ok (.aload_n 0, 1) := by decide +kernel
theorem dX10_remove_33 : decode cX10_remove 33 = .ok (.getfield 20, 3) := by decide +kernel
theorem dX10_remove_36 : decode cX10_remove 36 = .ok (.iload_n 2, 1) := by decide +kernel
theorem dX10_remove_37 : decode cX10_remove 37 = .ok (.aload_n 0, 1) := by decide +kernel
theorem dX10_remove_38 : decode cX10_remove 38 = .ok (.getfield 20, 3) := by decide +kernel
theorem dX10_remove_41 : decode cX10_remove 41 = .ok (.iload_n 2, 1) := by decide +kernel
theorem dX10_remove_42 : decode cX10_remove 42 = .ok (.bipush 6, 2) := by decide +kernel
theorem dX10_remove_44 : decode cX10_remove 44 = .ok (.iadd, 1) := by decide +kernel
theorem dX10_remove_45 : decode cX10_remove 45 = .ok (.iaload, 1) := by decide +kernel
theorem dX10_remove_46 : decode cX10_remove 46 = .ok (.ifCond .ne 7, 3) := by decide +kernel
theorem dX10_remove_49 : decode cX10_remove 49 = .ok (.iconst 3, 1) := by decide +kernel
theorem dX10_remove_50 : decode cX10_remove 50 = .ok (.goto 4, 3) := by decide +kernel
theorem dX10_remove_53 : decode cX10_remove 53 = .ok (.iconst 2, 1) := by decide +kernel
theorem dX10_remove_54 : decode cX10_remove 54 = .ok (.iastore, 1) := by decide +kernel
theorem dX10_remove_55 : decode cX10_remove 55 = .ok (.aload_n 0, 1) := by decide +kernel
theorem dX10_remove_56 : decode cX10_remove 56 = .ok (.getfield 20, 3) := by decide +kernel
theorem dX10_remove_59 : decode cX10_remove 59 = .ok (.iload_n 2, 1) := by decide +kernel
theorem dX10_remove_60 : decode cX10_remove 60 = .ok (.iaload, 1) := by decide +kernel
theorem dX10_remove_61 : decode cX10_remove 61 = .ok (.iconst 3, 1) := by decide +kernel
theorem dX10_remove_62 : decode cX10_remove 62 = .ok (.if_icmp .ne 7, 3) := by decide +kernel
theorem dX10_remove_65 : decode cX10_remove 65 = .ok (.iconst 1, 1) := by decide +kernel
theorem dX10_remove_66 : decode cX10_remove 66 = .ok (.goto 4, 3) := by decide +kernel
theorem dX10_remove_69 : decode cX10_remove 69 = .ok (.iconst 0, 1) := by decide +kernel
theorem dX10_remove_70 : decode cX10_remove 70 = .ok (.ireturn, 1) := by decide +kernel
theorem dX10_filter_0 : decode cX10_filter 0 = .ok (.aload_n 0, 1) := by decide +kernel
theorem dX10_filter_1 : decode cX10_filter 1 = .ok (.iload_n 1, 1) := by decide +kernel
theorem dX10_filter_2 : decode cX10_filter 2 = .ok (.invokevirtual 108, 3) := by decide +kernel
theorem dX10_filter_5 : decode cX10_filter 5 = .ok (.ifCond .ne 5, 3) := by decide +kernel
theorem dX10_filter_8 : decode cX10_filter 8 = .ok (.iconst (-1), 1) := by decide +kernel
theorem dX10_filter_9 : decode cX10_filter 9 = .ok (.ireturn, 1) := by decide +kernel
theorem dX10_filter_10 : decode cX10_filter 10 = .ok (.aload_n 0, 1) := by decide +kernel
theorem dX10_filter_11 : decode cX10_filter 11 = .ok (.getfield 56, 3) := by decide +kernel
theorem dX10_filter_14 : decode cX10_filter 14 = .ok (.ifCond .le 23, 3) := by decide +kernel
theorem dX10_filter_17 : decode cX10_filter 17 = .ok (.aload_n 0, 1) := by decide +kernel
theorem dX10_filter_18 : decode cX10_filter 18 = .ok (.aload_n 0, 1) := by decide +kernel
theorem dX10_filter_19 : decode cX10_filter 19 = .ok (.getfield 7, 3) := by decide +kernel
theorem dX10_filter_22 : decode cX10_filter 22 = .ok (.iconst 0, 1) := by decide +kernel
theorem dX10_filter_23 : decode cX10_filter 23 = .ok (.aload_n 0, 1) := by decide +kernel
theorem dX10_filter_24 : decode cX10_filter 24 = .ok (.getfield 56, 3) := by decide +kernel
theorem dX10_filter_27 : decode cX10_filter 27 = .ok (.iconst 0, 1) := by decide +kernel
theorem dX10_filter_28 : decode cX10_filter 28 = .ok (.invokevirtual 89, 3) := by decide +kernel
theorem dX10_filter_31 : decode cX10_filter 31 = .ok (.ifCond .ge 6, 3) := by decide +kernel
theorem dX10_filter_34 : decode cX10_filter 34 = .ok (.bipush (-2), 2) := by decide +kernel
theorem dX10_filter_36 : decode cX10_filter 36 = .ok (.ireturn, 1) := by decide +kernel
theorem dX10_filter_37 : decode cX10_filter 37 = .ok (.aload_n 0, 1) := by decide +kernel
theorem dX10_filter_38 : decode cX10_filter 38 = .ok (.invokevirtual 105, 3) := by decide +kernel
theorem dX10_filter_41 : decode cX10_filter 41 = .ok (.iload_n 1, 1) := by decide +kernel
theorem dX10_filter_42 : decode cX10_filter 42 = .ok (.invokestatic 96, 3) := by decide +kernel
theorem dX10_filter_45 : decode cX10_filter 45 = .ok (.bipush 7, 2) := by decide +kernel
theorem dX10_filter_47 : decode cX10_filter 47 = .ok (.iadd, 1) := by decide +kernel
theorem dX10_filter_48 : decode cX10_filter 48 = .ok (.istore_n 2, 1) := by decide +kernel
theorem dX10_filter_49 : decode cX10_filter 49 = .ok (.aload_n 0, 1) := by decide +kernel
theorem dX10_filter_50 : decode cX10_filter 50 = .ok (.getfield 20, 3) := by decide +kernel
theorem dX10_filter_53 : decode cX10_filter 53 = .ok (.iload_n 2, 1) := by decide +kernel
theorem dX10_filter_54 : decode cX10_filter 54 = .ok (.aload_n 0, 1) := by decide +kernel
theorem dX10_filter_55 : decode cX10_filter 55 = .ok (.getfield 56, 3) := by decide +kernel
theorem dX10_filter_58 : decode cX10_filter 58 = .ok (.iastore, 1) := by decide +kernel
theorem dX10_filter_59 : decode cX10_filter 59 = .ok (.iconst 0, 1) := by decide +kernel
theorem dX10_filter_60 : decode cX10_filter 60 = .ok (.istore_n 3, 1) := by decide +kernel
theorem dX10_filter_61 : decode cX10_filter 61 = .ok (.iload_n 3, 1) := by decide +kernel
theorem dX10_filter_62 : decode cX10_filter 62 = .ok (.sipush 200, 3) := by decide +kernel
theorem dX10_filter_65 : decode cX10_filter 65 = .ok (.if_icmp .ge 37, 3) := by decide +kernel
theorem dX10_filter_68 : decode cX10_filter 68 = .ok (.aload_n 0, 1) := by decide +kernel
theorem dX10_filter_69 : decode cX10_filter 69 = .ok (.getfield 20, 3) := by decide +kernel
theorem dX10_filter_72 : decode cX10_filter 72 = .ok (.iload_n 2, 1) := by decide +kernel
theorem dX10_filter_73 : decode cX10_filter 73 = .ok (.iconst 1, 1) := by decide +kernel
theorem dX10_filter_74 : decode cX10_filter 74 = .ok (.iadd, 1) := by decide +kernel
theorem dX10_filter_75 : decode cX10_filter 75 = .ok (.iload_n 3, 1) := by decide +kernel
theorem dX10_filter_76 : decode cX10_filter 76 = .ok (.iadd, 1) := by decide +kernel
theorem dX10_filter_77 : decode cX10_filter 77 = .ok (.iload_n 3, 1) := by decide +kernel
theorem dX10_filter_78 : decode cX10_filter 78 = .ok (.aload_n 0, 1) := by decide +kernel
theorem dX10_filter_79 : decode cX10_filter 79 = .ok (.getfield 56, 3) := by decide +kernel
theorem dX10_filter_82 : decode cX10_filter 82 = .ok (.if_icmp .ge 12, 3) := by decide +kernel
theorem dX10_filter_85 : decode cX10_filter 85 = .ok (.aload_n 0, 1) := by decide +kernel
theorem dX10_filter_86 : decode cX10_filter 86 = .ok (.getfield 7, 3) := by decide +kernel
theorem dX10_filter_89 : decode cX10_filter 89 = .ok (.iload_n 3, 1) := by decide +kernel
theorem dX10_filter_90 : decode cX10_filter 90 = .ok (.iaload, 1) := by decide +kernel
theorem dX10_filter_91 : decode cX10_filter 91 = .ok (.goto 4, 3) := by decide +kernel
theorem dX10_filter_94 : decode cX10_filter 94 = .ok (.iconst 0, 1) := by decide +kernel
theorem dX10_filter_95 : decode cX10_filter 95 = .ok (.iastore, 1) := by decide +kernel
theorem dX10_filter_96 : decode cX10_filter 96 = .ok (.iinc 3 1, 3) := by decide +kernel
theorem dX10_filter_99 : decode cX10_filter 99 = .ok (.goto (-38), 3) := by decide +kernel
theorem dX10_filter_102 : decode cX10_filter 102 = .ok (.aload_n 0, 1) := by decide +kernel
theorem dX10_filter_103 : decode cX10_filter 103 = .ok (.getfield 56, 3) := by decide +kernel
theorem dX10_filter_106 : decode cX10_filter 106 = .ok (.ireturn, 1) := by decide +kernel
theorem dX10_hits_0 : decode cX10_hits 0 = .ok (.iload_n 1, 1) := by decide +kernel
theorem dX10_hits_1 : decode cX10_hits 1 = .ok (.invokestatic 96, 3) := by decide +kernel
theorem dX10_hits_4 : decode cX10_hits 4 = .ok (.istore_n 3, 1) := by decide +kernel
theorem dX10_hits_5 : decode cX10_hits 5 = .ok (.iload_n 2, 1) := by decide +kernel
theorem dX10_hits_6 : decode cX10_hits 6 = .ok (.invokestatic 111, 3) := by decide +kernel
theorem dX10_hits_9 : decode cX10_hits 9 = .ok (.istore 4, 2) := by decide +kernel
theorem dX10_hits_11 : decode cX10_hits 11 = .ok (.aload_n 0, 1) := by decide +kernel
theorem dX10_hits_12 : decode cX10_hits 12 = .ok (.getfield 20, 3) := by decide +kernel
theorem dX10_hits_15 : decode cX10_hits 15 = .ok (.iload_n 3, 1) := by decide +kernel
theorem dX10_hits_16 : decode cX10_hits 16 = .ok (.iconst 3, 1) := by decide +kernel
theorem dX10_hits_17 : decode cX10_hits 17 = .ok (.iadd, 1) := by decide +kernel
theorem dX10_hits_18 : decode cX10_hits 18 = .ok (.dup2, 1) := by decide +kernel
theorem dX10_hits_19 : decode cX10_hits 19 = .ok (.iaload, 1) := by decide +kernel
theorem dX10_hits_20 : decode cX10_hits 20 = .ok (.iconst 1, 1) := by decide +kernel
theorem dX10_hits_21 : decode cX10_hits 21 = .ok (.iadd, 1) := by decide +kernel
theorem dX10_hits_22 : decode cX10_hits 22 = .ok (.iastore, 1) := by decide +kernel
theorem dX10_hits_23 : decode cX10_hits 23 = .ok (.aload_n 0, 1) := by decide +kernel
theorem dX10_hits_24 : decode cX10_hits 24 = .ok (.getfield 20, 3) := by decide +kernel
theorem dX10_hits_27 : decode cX10_hits 27 = .ok (.iload_n 3, 1) := by decide +kernel
theorem dX10_hits_28 : decode cX10_hits 28 = .ok (.bipush 7, 2) := by decide +kernel
theorem dX10_hits_30 : decode cX10_hits 30 = .ok (.iadd, 1) := by decide +kernel
theorem dX10_hits_31 : decode cX10_hits 31 = .ok (.iaload, 1) := by decide +kernel
theorem dX10_hits_32 : decode cX10_hits 32 = .ok (.istore 5, 2) := by decide +kernel
theorem dX10_hits_34 : decode cX10_hits 34 = .ok (.iload 5, 2) := by decide +kernel
theorem dX10_hits_36 : decode cX10_hits 36 = .ok (.ifCond .le 42, 3) := by decide +kernel
theorem dX10_hits_39 : decode cX10_hits 39 = .ok (.aload_n 0, 1) := by decide +kernel
theorem dX10_hits_40 : decode cX10_hits 40 = .ok (.aload_n 0, 1) := by decide +kernel
theorem dX10_hits_41 : decode cX10_hits 41 = .ok (.getfield 20, 3) := by decide +kernel
theorem dX10_hits_44 : decode cX10_hits 44 = .ok (.iload_n 3, 1) := by decide +kernel
theorem dX10_hits_45 : decode cX10_hits 45 = .ok (.bipush 7, 2) := by decide +kernel
theorem dX10_hits_47 : decode cX10_hits 47 = .ok (.iadd, 1) := by decide +kernel
theorem dX10_hits_48 : decode cX10_hits 48 = .ok (.iconst 1, 1) := by decide +kernel
theorem dX10_hits_49 : decode cX10_hits 49 = .ok (.iadd, 1) := by decide +kernel
theorem dX10_hits_50 : decode cX10_hits 50 = .ok (.iload 5, 2) := by decide +kernel
theorem dX10_hits_52 : decode cX10_hits 52 = .ok (.aload_n 0, 1) := by decide +kernel
theorem dX10_hits_53 : decode cX10_hits 53 = .ok (.getfield 20, 3) := by decide +kernel
theorem dX10_hits_56 : decode cX10_hits 56 = .ok (.iload 4, 2) := by decide +kernel
theorem dX10_hits_58 : decode cX10_hits 58 = .ok (.iaload, 1) := by decide +kernel
theorem dX10_hits_59 : decode cX10_hits 59 = .ok (.invokevirtual 89, 3) := by decide +kernel
theorem dX10_hits_62 : decode cX10_hits 62 = .ok (.ifCond .ne 16, 3) := by decide +kernel
theorem dX10_hits_65 : decode cX10_hits 65 = .ok (.aload_n 0, 1) := by decide +kernel
theorem dX10_hits_66 : decode cX10_hits 66 = .ok (.getfield 20, 3) := by decide +kernel
theorem dX10_hits_69 : decode cX10_hits 69 = .ok (.iload_n 3, 1) := by decide +kernel
theorem dX10_hits_70 : decode cX10_hits 70 = .ok (.iconst 4, 1) := by decide +kernel
theorem dX10_hits_71 : decode cX10_hits 71 = .ok (.iadd, 1) := by decide +kernel
theorem dX10_hits_72 : decode cX10_hits 72 = .ok (.dup2, 1) := by decide +kernel
theorem dX10_hits_73 : decode cX10_hits 73 = .ok (.iaload, 1) := by decide +kernel
theorem dX10_hits_74 : decode cX10_hits 74 = .ok (.iconst 1, 1) := by decide +kernel
theorem dX10_hits_75 : decode cX10_hits 75 = .ok (.iadd, 1) := by decide +kernel
theorem dX10_hits_76 : decode cX10_hits 76 = .ok (.iastore, 1) := by decide +kernel
theorem dX10_hits_77 : decode cX10_hits 77 = .ok (.return_, 1) := by decide +kernel
theorem dX10_hits_78 : decode cX10_hits 78 = .ok (.aload_n 0, 1) := by decide +kernel
theorem dX10_hits_79 : decode cX10_hits 79 = .ok (.getfield 20, 3) := by decide +kernel
theorem dX10_hits_82 : decode cX10_hits 82 = .ok (.iload 4, 2) := by decide +kernel
theorem dX10_hits_84 : decode cX10_hits 84 = .ok (.bipush 17, 2) := by decide +kernel
theorem dX10_hits_86 : decode cX10_hits 86 = .ok (.iadd, 1) := by decide +kernel
theorem dX10_hits_87 : decode cX10_hits 87 = .ok (.iaload, 1) := by decide +kernel
theorem dX10_hits_88 : decode cX10_hits 88 = .ok (.iconst 4, 1) := by decide +kernel
theorem dX10_hits_89 : decode cX10_hits 89 = .ok (.if_icmp .ne 75, 3) := by decide +kernel
theorem dX10_hits_92 : decode cX10_hits 92 = .ok (.iconst 1, 1) := by decide +kernel
theorem dX10_hits_93 : decode cX10_hits 93 = .ok (.istore 6, 2) := by decide +kernel
theorem dX10_hits_95 : decode cX10_hits 95 = .ok (.iload 6, 2) := by decide +kernel
theorem dX10_hits_97 : decode cX10_hits 97 = .ok (.bipush 10, 2) := by decide +kernel
theorem dX10_hits_99 : decode cX10_hits 99 = .ok (.if_icmp .ge 37, 3) := by decide +kernel
theorem dX10_hits_102 : decode cX10_hits 102 = .ok (.aload_n 0, 1) := by decide +kernel
theorem dX10_hits_103 : decode cX10_hits 103 = .ok (.getfield 20, 3) := by decide +kernel
theorem dX10_hits_106 : decode cX10_hits 106 = .ok (.iload 4, 2) := by decide +kernel
theorem dX10_hits_108 : decode cX10_hits 108 = .ok (.bipush 17, 2) := by decide +kernel
theorem dX10_hits_110 : decode cX10_hits 110 = .ok (.iadd, 1) := by decide +kernel
theorem dX10_hits_111 : decode cX10_hits 111 = .ok (.iload 6, 2) := by decide +kernel
theorem dX10_hits_113 : decode cX10_hits 113 = .ok (.iadd, 1) := by decide +kernel
theorem dX10_hits_114 : decode cX10_hits 114 = .ok (.aload_n 0, 1) := by decide +kernel
theorem dX10_hits_115 : decode cX10_hits 115 = .ok (.getfield 20, 3) := by decide +kernel
theorem dX10_hits_118 : decode cX10_hits 118 = .ok (.iload 4, 2) := by decide +kernel
theorem dX10_hits_120 : decode cX10_hits 120 = .ok (.bipush 17, 2) := by decide +kernel
theorem dX10_hits_122 : decode cX10_hits 122 = .ok (.iadd, 1) := by decide +kernel
theorem dX10_hits_123 : decode cX10_hits 123 = .ok (.iload 6, 2) := by decide +kernel
theorem dX10_hits_125 : decode cX10_hits 125 = .ok (.iadd, 1) := by decide +kernel
theorem dX10_hits_126 : decode cX10_hits 126 = .ok (.iconst 3, 1) := by decide +kernel
theorem dX10_hits_127 : decode cX10_hits 127 = .ok (.iadd, 1) := by decide +kernel
theorem dX10_hits_128 : decode cX10_hits 128 = .ok (.iaload, 1) := by decide +kernel
theorem dX10_hits_129 : decode cX10_hits 129 = .ok (.iastore, 1) := by decide +kernel
theorem dX10_hits_130 : decode cX10_hits 130 = .ok (.iinc 6 1, 3) := by decide +kernel
theorem dX10_hits_133 : decode cX10_hits 133 = .ok (.goto (-38), 3) := by decide +kernel
theorem dX10_hits_136 : decode cX10_hits 136 = .ok (.aload_n 0, 1) := by decide +kernel
theorem dX10_hits_137 : decode cX10_hits 137 = .ok (.getfield 20, 3) := by decide +kernel
theorem dX10_hits_140 : decode cX10_hits 140 = .ok (.iload 4, 2) := by decide +kernel
theorem dX10_hits_142 : decode cX10_hits 142 = .ok (.bipush 17, 2) := by decide +kernel
theorem dX10_hits_144 : decode cX10_hits 144 = .ok (.iadd, 1) := by decide +kernel
theorem dX10_hits_145 : decode cX10_hits 145 = .ok (.dup2, 1) := by decide +kernel
theorem dX10_hits_146 : decode cX10_hits 146 = .ok (.iaload, 1) := by decide +kernel
theorem dX10_hits_147 : decode cX10_hits 147 = .ok (.iconst 1, 1) := by decide +kernel
theorem dX10_hits_148 : decode cX10_hits 148 = .ok (.isub, 1) := by decide +kernel
theorem dX10_hits_149 : decode cX10_hits 149 = .ok (.iastore, 1) := by decide +kernel
theorem dX10_hits_150 : decode cX10_hits 150 = .ok (.aload_n 0, 1) := by decide +kernel
theorem dX10_hits_151 : decode cX10_hits 151 = .ok (.getfield 20, 3) := by decide +kernel
theorem dX10_hits_154 : decode cX10_hits 154 = .ok (.iload 4, 2) := by decide +kernel
theorem dX10_hits_156 : decode cX10_hits 156 = .ok (.bipush 30, 2) := by decide +kernel
theorem dX10_hits_158 : decode cX10_hits 158 = .ok (.iadd, 1) := by decide +kernel
theorem dX10_hits_159 : decode cX10_hits 159 = .ok (.dup2, 1) := by decide +kernel
theorem dX10_hits_160 : decode cX10_hits 160 = .ok (.iaload, 1) := by decide +kernel
theorem dX10_hits_161 : decode cX10_hits 161 = .ok (.iconst 1, 1) := by decide +kernel
theorem dX10_hits_162 : decode cX10_hits 162 = .ok (.iadd, 1) := by decide +kernel
theorem dX10_hits_163 : decode cX10_hits 163 = .ok (.iastore, 1) := by decide +kernel
theorem dX10_hits_164 : decode cX10_hits 164 = .ok (.iload 4, 2) := by decide +kernel
theorem dX10_hits_166 : decode cX10_hits 166 = .ok (.bipush 17, 2) := by decide +kernel
theorem dX10_hits_168 : decode cX10_hits 168 = .ok (.iadd, 1) := by decide +kernel
theorem dX10_hits_169 : decode cX10_hits 169 = .ok (.iconst 1, 1) := by decide +kernel
theorem dX10_hits_170 : decode cX10_hits 170 = .ok (.iadd, 1) := by decide +kernel
theorem dX10_hits_171 : decode cX10_hits 171 = .ok (.iconst 3, 1) := by decide +kernel
theorem dX10_hits_172 : decode cX10_hits 172 = .ok (.aload_n 0, 1) := by decide +kernel
theorem dX10_hits_173 : decode cX10_hits 173 = .ok (.getfield 20, 3) := by decide +kernel
theorem dX10_hits_176 : decode cX10_hits 176 = .ok (.iload 4, 2) := by decide +kernel
theorem dX10_hits_178 : decode cX10_hits 178 = .ok (.bipush 17, 2) := by decide +kernel
theorem dX10_hits_180 : decode cX10_hits 180 = .ok (.iadd, 1) := by decide +kernel
theorem dX10_hits_181 : decode cX10_hits 181 = .ok (.iaload, 1) := by decide +kernel
theorem dX10_hits_182 : decode cX10_hits 182 = .ok (.imul, 1) := by decide +kernel
theorem dX10_hits_183 : decode cX10_hits 183 = .ok (.iadd, 1) := by decide +kernel
theorem dX10_hits_184 : decode cX10_hits 184 = .ok (.istore 6, 2) := by decide +kernel
theorem dX10_hits_186 : decode cX10_hits 186 = .ok (.aload_n 0, 1) := by decide +kernel
theorem dX10_hits_187 : decode cX10_hits 187 = .ok (.getfield 20, 3) := by decide +kernel
theorem dX10_hits_190 : decode cX10_hits 190 = .ok (.iload 6, 2) := by decide +kernel
theorem dX10_hits_192 : decode cX10_hits 192 = .ok (.iload_n 1, 1) := by decide +kernel
theorem dX10_hits_193 : decode cX10_hits 193 = .ok (.iastore, 1) := by decide +kernel
theorem dX10_hits_194 : decode cX10_hits 194 = .ok (.aload_n 0, 1) := by decide +kernel
theorem dX10_hits_195 : decode cX10_hits 195 = .ok (.getfield 20, 3) := by decide +kernel
theorem dX10_hits_198 : decode cX10_hits 198 = .ok (.iload 6, 2) := by decide +kernel
theorem dX10_hits_200 : decode cX10_hits 200 = .ok (.iconst 1, 1) := by decide +kernel
theorem dX10_hits_201 : decode cX10_hits 201 = .ok (.iadd, 1) := by decide +kernel
theorem dX10_hits_202 : decode cX10_hits 202 = .ok (.aload_n 0, 1) := by decide +kernel
theorem dX10_hits_203 : decode cX10_hits 203 = .ok (.getfield 20, 3) := by decide +kernel
theorem dX10_hits_206 : decode cX10_hits 206 = .ok (.iload 4, 2) := by decide +kernel
theorem dX10_hits_208 : decode cX10_hits 208 = .ok (.iaload, 1) := by decide +kernel
theorem dX10_hits_209 : decode cX10_hits 209 = .ok (.iastore, 1) := by decide +kernel
theorem dX10_hits_210 : decode cX10_hits 210 = .ok (.aload_n 0, 1) := by decide +kernel
theorem dX10_hits_211 : decode cX10_hits 211 = .ok (.getfield 20, 3) := by decide +kernel
theorem dX10_hits_214 : decode cX10_hits 214 = .ok (.iload 6, 2) := by decide +kernel
theorem dX10_hits_216 : decode cX10_hits 216 = .ok (.iconst 2, 1) := by decide +kernel
theorem dX10_hits_217 : decode cX10_hits 217 = .ok (.iadd, 1) := by decide +kernel
theorem dX10_hits_218 : decode cX10_hits 218 = .ok (.aload_n 0, 1) := by decide +kernel
theorem dX10_hits_219 : decode cX10_hits 219 = .ok (.getfield 20, 3) := by decide +kernel
theorem dX10_hits_222 : decode cX10_hits 222 = .ok (.iload 4, 2) := by decide +kernel
theorem dX10_hits_224 : decode cX10_hits 224 = .ok (.bipush 16, 2) := by decide +kernel
theorem dX10_hits_226 : decode cX10_hits 226 = .ok (.iadd, 1) := by decide +kernel
theorem dX10_hits_227 : decode cX10_hits 227 = .ok (.iaload, 1) := by decide +kernel
theorem dX10_hits_228 : decode cX10_hits 228 = .ok (.iastore, 1) := by decide +kernel
theorem dX10_hits_229 : decode cX10_hits 229 = .ok (.aload_n 0, 1) := by decide +kernel
theorem dX10_hits_230 : decode cX10_hits 230 = .ok (.getfield 20, 3) := by decide +kernel
theorem dX10_hits_233 : decode cX10_hits 233 = .ok (.iload 4, 2) := by decide +kernel
theorem dX10_hits_235 : decode cX10_hits 235 = .ok (.bipush 17, 2) := by decide +kernel
theorem dX10_hits_237 : decode cX10_hits 237 = .ok (.iadd, 1) := by decide +kernel
theorem dX10_hits_238 : decode cX10_hits 238 = .ok (.dup2, 1) := by decide +kernel
theorem dX10_hits_239 : decode cX10_hits 239 = .ok (.iaload, 1) := by decide +kernel
theorem dX10_hits_240 : decode cX10_hits 240 = .ok (.iconst 1, 1) := by decide +kernel
theorem dX10_hits_241 : decode cX10_hits 241 = .ok (.iadd, 1) := by decide +kernel
theorem dX10_hits_242 : decode cX10_hits 242 = .ok (.iastore, 1) := by decide +kernel
theorem dX10_hits_243 : decode cX10_hits 243 = .ok (.return_, 1) := by decide +kernel
theorem dX10_frees_0 : decode cX10_frees 0 = .ok (.iload_n 1, 1) := by decide +kernel
theorem dX10_frees_1 : decode cX10_frees 1 = .ok (.ifCond .le 61, 3) := by decide +kernel
theorem dX10_frees_4 : decode cX10_frees 4 = .ok (.iload_n 1, 1) := by decide +kernel
theorem dX10_frees_5 : decode cX10_frees 5 = .ok (.iconst 1, 1) := by decide +kernel
theorem dX10_frees_6 : decode cX10_frees 6 = .ok (.isub, 1) := by decide +kernel
theorem dX10_frees_7 : decode cX10_frees 7 = .ok (.invokestatic 96, 3) := by decide +kernel
theorem dX10_frees_10 : decode cX10_frees 10 = .ok (.istore_n 2, 1) := by decide +kernel
theorem dX10_frees_11 : decode cX10_frees 11 = .ok (.aload_n 0, 1) := by decide +kernel
theorem dX10_frees_12 : decode cX10_frees 12 = .ok (.getfield 20, 3) := by decide +kernel
theorem dX10_frees_15 : decode cX10_frees 15 = .ok (.iload_n 2, 1) := by decide +kernel
theorem dX10_frees_16 : decode cX10_frees 16 = .ok (.bipush 6, 2) := by decide +kernel
theorem dX10_frees_18 : decode cX10_frees 18 = .ok (.iadd, 1) := by decide +kernel
theorem dX10_frees_19 : decode cX10_frees 19 = .ok (.dup2, 1) := by decide +kernel
theorem dX10_frees_20 : decode cX10_frees 20 = .ok (.iaload, 1) := by decide +kernel
theorem dX10_frees_21 : decode cX10_frees 21 = .ok (.iconst 1, 1) := by decide +kernel
theorem dX10_frees_22 : decode cX10_frees 22 = .ok (.isub, 1) := by decide +kernel
theorem dX10_frees_23 : decode cX10_frees 23 = .ok (.iastore, 1) := by decide +kernel
theorem dX10_frees_24 : decode cX10_frees 24 = .ok (.aload_n 0, 1) := by decide +kernel
theorem dX10_frees_25 : decode cX10_frees 25 = .ok (.getfield 20, 3) := by decide +kernel
theorem dX10_frees_28 : decode cX10_frees 28 = .ok (.iload_n 2, 1) := by decide +kernel
theorem dX10_frees_29 : decode cX10_frees 29 = .ok (.aload_n 0, 1) := by decide +kernel
theorem dX10_frees_30 : decode cX10_frees 30 = .ok (.getfield 20, 3) := by decide +kernel
theorem dX10_frees_33 : decode cX10_frees 33 = .ok (.iload_n 2, 1) := by decide +kernel
theorem dX10_frees_34 : decode cX10_frees 34 = .ok (.iaload, 1) := by decide +kernel
theorem dX10_frees_35 : decode cX10_frees 35 = .ok (.iconst 2, 1) := by decide +kernel
theorem dX10_frees_36 : decode cX10_frees 36 = .ok (.if_icmp .ne 19, 3) := by decide +kernel
theorem dX10_frees_39 : decode cX10_frees 39 = .ok (.aload_n 0, 1) := by decide +kernel
theorem dX10_frees_40 : decode cX10_frees 40 = .ok (.getfield 20, 3) := by decide +kernel
theorem dX10_frees_43 : decode cX10_frees 43 = .ok (.iload_n 2, 1) := by decide +kernel
theorem dX10_frees_44 : decode cX10_frees 44 = .ok (.bipush 6, 2) := by decide +kernel
theorem dX10_frees_46 : decode cX10_frees 46 = .ok (.iadd, 1) := by decide +kernel
theorem dX10_frees_47 : decode cX10_frees 47 = .ok (.iaload, 1) := by decide +kernel
theorem dX10_frees_48 : decode cX10_frees 48 = .ok (.ifCond .ne 7, 3) := by decide +kernel
theorem dX10_frees_51 : decode cX10_frees 51 = .ok (.iconst 3, 1) := by decide +kernel
theorem dX10_frees_52 : decode cX10_frees 52 = .ok (.goto 9, 3) := by decide +kernel
theorem dX10_frees_55 : decode cX10_frees 55 = .ok (.aload_n 0, 1) := by decide +kernel
theorem dX10_frees_56 : decode cX10_frees 56 = .ok (.getfield 20, 3) := by decide +kernel
theorem dX10_frees_59 : decode cX10_frees 59 = .ok (.iload_n 2, 1) := by decide +kernel
theorem dX10_frees_60 : decode cX10_frees 60 = .ok (.iaload, 1) := by decide +kernel
theorem dX10_frees_61 : decode cX10_frees 61 = .ok (.iastore, 1) := by decide +kernel
theorem dX10_frees_62 : decode cX10_frees 62 = .ok (.return_, 1) := by decide +kernel
theorem dX10_meets_0 : decode cX10_meets 0 = .ok (.iload_n 1, 1) := by decide +kernel
theorem dX10_meets_1 : decode cX10_meets 1 = .ok (.invokestatic 96, 3) := by decide +kernel
theorem dX10_meets_4 : decode cX10_meets 4 = .ok (.istore_n 3, 1) := by decide +kernel
theorem dX10_meets_5 : decode cX10_meets 5 = .ok (.iload_n 2, 1) := by decide +kernel
theorem dX10_meets_6 : decode cX10_meets 6 = .ok (.invokestatic 111, 3) := by decide +kernel
theorem dX10_meets_9 : decode cX10_meets 9 = .ok (.istore 4, 2) := by decide +kernel
theorem dX10_meets_11 : decode cX10_meets 11 = .ok (.aload_n 0, 1) := by decide +kernel
theorem dX10_meets_12 : decode cX10_meets 12 = .ok (.getfield 20, 3) := by decide +kernel
theorem dX10_meets_15 : decode cX10_meets 15 = .ok (.iload_n 3, 1) := by decide +kernel
theorem dX10_meets_16 : decode cX10_meets 16 = .ok (.iconst 1, 1) := by decide +kernel
theorem dX10_meets_17 : decode cX10_meets 17 = .ok (.iadd, 1) := by decide +kernel
theorem dX10_meets_18 : decode cX10_meets 18 = .ok (.iaload, 1) := by decide +kernel
theorem dX10_meets_19 : decode cX10_meets 19 = .ok (.ifCond .ne 10, 3) := by decide +kernel
theorem dX10_meets_22 : decode cX10_meets 22 = .ok (.aload_n 0, 1) := by decide +kernel
theorem dX10_meets_23 : decode cX10_meets 23 = .ok (.iload_n 1, 1) := by decide +kernel
theorem dX10_meets_24 : decode cX10_meets 24 = .ok (.iload_n 2, 1) := by decide +kernel
theorem dX10_meets_25 : decode cX10_meets 25 = .ok (.invokevirtual 114, 3) := by decide +kernel
theorem dX10_meets_28 : decode cX10_meets 28 = .ok (.return_, 1) := by decide +kernel
theorem dX10_meets_29 : decode cX10_meets 29 = .ok (.iload 4, 2) := by decide +kernel
theorem dX10_meets_31 : decode cX10_meets 31 = .ok (.bipush 9, 2) := by decide +kernel
theorem dX10_meets_33 : decode cX10_meets 33 = .ok (.iadd, 1) := by decide +kernel
theorem dX10_meets_34 : decode cX10_meets 34 = .ok (.aload_n 0, 1) := by decide +kernel
theorem dX10_meets_35 : decode cX10_meets 35 = .ok (.getfield 20, 3) := by decide +kernel
theorem dX10_meets_38 : decode cX10_meets 38 = .ok (.iload 4, 2) := by decide +kernel
theorem dX10_meets_40 : decode cX10_meets 40 = .ok (.iconst 2, 1) := by decide +kernel
theorem dX10_meets_41 : decode cX10_meets 41 = .ok (.iadd, 1) := by decide +kernel
theorem dX10_meets_42 : decode cX10_meets 42 = .ok (.iaload, 1) := by decide +kernel
theorem dX10_meets_43 : decode cX10_meets 43 = .ok (.iadd, 1) := by decide +kernel
theorem dX10_meets_44 : decode cX10_meets 44 = .ok (.iconst 1, 1) := by decide +kernel
theorem dX10_meets_45 : decode cX10_meets 45 = .ok (.isub, 1) := by decide +kernel
theorem dX10_meets_46 : decode cX10_meets 46 = .ok (.istore 5, 2) := by decide +kernel
theorem dX10_meets_48 : decode cX10_meets 48 = .ok (.aload_n 0, 1) := by decide +kernel
theorem dX10_meets_49 : decode cX10_meets 49 = .ok (.getfield 20, 3) := by decide +kernel
theorem dX10_meets_52 : decode cX10_meets 52 = .ok (.iload 4, 2) := by decide +kernel
theorem dX10_meets_54 : decode cX10_meets 54 = .ok (.iconst 2, 1) := by decide +kernel
theorem dX10_meets_55 : decode cX10_meets 55 = .ok (.iadd, 1) := by decide +kernel
theorem dX10_meets_56 : decode cX10_meets 56 = .ok (.iaload, 1) := by decide +kernel
theorem dX10_meets_57 : decode cX10_meets 57 = .ok (.ifCond .eq 26, 3) := by decide +kernel
theorem dX10_meets_60 : decode cX10_meets 60 = .ok (.aload_n 0, 1) := by decide +kernel
theorem dX10_meets_61 : decode cX10_meets 61 = .ok (.getfield 20, 3) := by decide +kernel
theorem dX10_meets_64 : decode cX10_meets 64 = .ok (.iload 5, 2) := by decide +kernel
theorem dX10_meets_66 : decode cX10_meets 66 = .ok (.iaload, 1) := by decide +kernel
theorem dX10_meets_67 : decode cX10_meets 67 = .ok (.ifCond .gt 16, 3) := by decide +kernel
theorem dX10_meets_70 : decode cX10_meets 70 = .ok (.aload_n 0, 1) := by decide +kernel
theorem dX10_meets_71 : decode cX10_meets 71 = .ok (.getfield 20, 3) := by decide +kernel
theorem dX10_meets_74 : decode cX10_meets 74 = .ok (.iload_n 3, 1) := by decide +kernel
theorem dX10_meets_75 : decode cX10_meets 75 = .ok (.bipush 6, 2) := by decide +kernel
theorem dX10_meets_77 : decode cX10_meets 77 = .ok (.iadd, 1) := by decide +kernel
theorem dX10_meets_78 : decode cX10_meets 78 = .ok (.iaload, 1) := by decide +kernel
theorem dX10_meets_79 : decode cX10_meets 79 = .ok (.iconst 3, 1) := by decide +kernel
theorem dX10_meets_80 : decode cX10_meets 80 = .ok (.if_icmp .ne 18, 3) := by decide +kernel
theorem dX10_meets_83 : decode cX10_meets 83 = .ok (.aload_n 0, 1) := by decide +kernel
theorem dX10_meets_84 : decode cX10_meets 84 = .ok (.getfield 20, 3) := by decide +kernel
theorem dX10_meets_87 : decode cX10_meets 87 = .ok (.iload_n 3, 1) := by decide +kernel
theorem dX10_meets_88 : decode cX10_meets 88 = .ok (.iconst 5, 1) := by decide +kernel
theorem dX10_meets_89 : decode cX10_meets 89 = .ok (.iadd, 1) := by decide +kernel
theorem dX10_meets_90 : decode cX10_meets 90 = .ok (.dup2, 1) := by decide +kernel
theorem dX10_meets_91 : decode cX10_meets 91 = .ok (.iaload, 1) := by decide +kernel
theorem dX10_meets_92 : decode cX10_meets 92 = .ok (.iconst 1, 1) := by decide +kernel
theorem dX10_meets_93 : decode cX10_meets 93 = .ok (.iadd, 1) := by decide +kernel
theorem dX10_meets_94 : decode cX10_meets 94 = .ok (.iastore, 1) := by decide +kernel
theorem dX10_meets_95 : decode cX10_meets 95 = .ok (.goto 26, 3) := by decide +kernel
theorem dX10_meets_98 : decode cX10_meets 98 = .ok (.aload_n 0, 1) := by decide +kernel
theorem dX10_meets_99 : decode cX10_meets 99 = .ok (.getfield 20, 3) := by decide +kernel
theorem dX10_meets_102 : decode cX10_meets 102 = .ok (.iload 5, 2) := by decide +kernel
theorem dX10_meets_104 : decode cX10_meets 104 = .ok (.iload_n 1, 1) := by decide +kernel
theorem dX10_meets_105 : decode cX10_meets 105 = .ok (.iconst 1, 1) := by decide +kernel
theorem dX10_meets_106 : decode cX10_meets 106 = .ok (.iadd, 1) := by decide +kernel
theorem dX10_meets_107 : decode cX10_meets 107 = .ok (.iastore, 1) := by decide +kernel
theorem dX10_meets_108 : decode cX10_meets 108 = .ok (.aload_n 0, 1) := by decide +kernel
theorem dX10_meets_109 : decode cX10_meets 109 = .ok (.getfield 20, 3) := by decide +kernel
theorem dX10_meets_112 : decode cX10_meets 112 = .ok (.iload_n 3, 1) := by decide +kernel
theorem dX10_meets_113 : decode cX10_meets 113 = .ok (.bipush 6, 2) := by decide +kernel
theorem dX10_meets_115 : decode cX10_meets 115 = .ok (.iadd, 1) := by decide +kernel
theorem dX10_meets_116 : decode cX10_meets 116 = .ok (.dup2, 1) := by decide +kernel
theorem dX10_meets_117 : decode cX10_meets 117 = .ok (.iaload, 1) := by decide +kernel
theorem dX10_meets_118 : decode cX10_meets 118 = .ok (.iconst 1, 1) := by decide +kernel
theorem dX10_meets_119 : decode cX10_meets 119 = .ok (.iadd, 1) := by decide +kernel
theorem dX10_meets_120 : decode cX10_meets 120 = .ok (.iastore, 1) := by decide +kernel
theorem dX10_meets_121 : decode cX10_meets 121 = .ok (.return_, 1) := by decide +kernel
theorem dX10_figures_0 : decode cX10_figures 0 = .ok (.bipush 10, 2) := by decide +kernel
theorem dX10_figures_2 : decode cX10_figures 2 = .ok (.aload_n 0, 1) := by decide +kernel
theorem dX10_figures_3 : decode cX10_figures 3 = .ok (.iload_n 1, 1) := by decide +kernel
theorem dX10_figures_4 : decode cX10_figures 4 = .ok (.iaload, 1) := by decide +kernel
theorem dX10_figures_5 : decode cX10_figures 5 = .ok (.bipush 48, 2) := by decide +kernel
theorem dX10_figures_7 : decode cX10_figures 7 = .ok (.isub, 1) := by decide +kernel
theorem dX10_figures_8 : decode cX10_figures 8 = .ok (.imul, 1) := by decide +kernel
theorem dX10_figures_9 : decode cX10_figures 9 = .ok (.aload_n 0, 1) := by decide +kernel
theorem dX10_figures_10 : decode cX10_figures 10 = .ok (.iload_n 1, 1) := by decide +kernel
theorem dX10_figures_11 : decode cX10_figures 11 = .ok (.iconst 1, 1) := by decide +kernel
theorem dX10_figures_12 : decode cX10_figures 12 = .ok (.iadd, 1) := by decide +kernel
theorem dX10_figures_13 : decode cX10_figures 13 = .ok (.iaload, 1) := by decide +kernel
theorem dX10_figures_14 : decode cX10_figures 14 = .ok (.iadd, 1) := by decide +kernel
theorem dX10_figures_15 : decode cX10_figures 15 = .ok (.bipush 48, 2) := by decide +kernel
theorem dX10_figures_17 : decode cX10_figures 17 = .ok (.isub, 1) := by decide +kernel
theorem dX10_figures_18 : decode cX10_figures 18 = .ok (.ireturn, 1) := by decide +kernel
theorem dX10_plain_0 : decode cX10_plain 0 = .ok (.iload_n 3, 1) := by decide +kernel
theorem dX10_plain_1 : decode cX10_plain 1 = .ok (.iconst 1, 1) := by decide +kernel
theorem dX10_plain_2 : decode cX10_plain 2 = .ok (.iadd, 1) := by decide +kernel
theorem dX10_plain_3 : decode cX10_plain 3 = .ok (.aload_n 0, 1) := by decide +kernel
theorem dX10_plain_4 : decode cX10_plain 4 = .ok (.getfield 49, 3) := by decide +kernel
theorem dX10_plain_7 : decode cX10_plain 7 = .ok (.if_icmp .ge 17, 3) := by decide +kernel
theorem dX10_plain_10 : decode cX10_plain 10 = .ok (.aload_n 0, 1) := by decide +kernel
theorem dX10_plain_11 : decode cX10_plain 11 = .ok (.getfield 13, 3) := by decide +kernel
theorem dX10_plain_14 : decode cX10_plain 14 = .ok (.iload_n 3, 1) := by decide +kernel
theorem dX10_plain_15 : decode cX10_plain 15 = .ok (.iconst 1, 1) := by decide +kernel
theorem dX10_plain_16 : decode cX10_plain 16 = .ok (.iadd, 1) := by decide +kernel
theorem dX10_plain_17 : decode cX10_plain 17 = .ok (.iaload, 1) := by decide +kernel
theorem dX10_plain_18 : decode cX10_plain 18 = .ok (.bipush 48, 2) := by decide +kernel
theorem dX10_plain_20 : decode cX10_plain 20 = .ok (.isub, 1) := by decide +kernel
theorem dX10_plain_21 : decode cX10_plain 21 = .ok (.goto 4, 3) := by decide +kernel
theorem dX10_plain_24 : decode cX10_plain 24 = .ok (.iconst 0, 1) := by decide +kernel
theorem dX10_plain_25 : decode cX10_plain 25 = .ok (.istore 4, 2) := by decide +kernel
theorem dX10_plain_27 : decode cX10_plain 27 = .ok (.aload_n 0, 1) := by decide +kernel
theorem dX10_plain_28 : decode cX10_plain 28 = .ok (.getfield 13, 3) := by decide +kernel
theorem dX10_plain_31 : decode cX10_plain 31 = .ok (.iload_n 3, 1) := by decide +kernel
theorem dX10_plain_32 : decode cX10_plain 32 = .ok (.iaload, 1) := by decide +kernel
theorem dX10_plain_33 : decode cX10_plain 33 = .ok (.tableswitch 216 100 122 #[123, 216, 216, 216, 216, 107, 205, 216, 141, 216, 216, 216, 163, 216, 216, 152, 216, 216, 216, 216, 216, 216, 182], 107) := by decide +kernel
theorem dX10_plain_140 : decode cX10_plain 140 = .ok (.aload_n 1, 1) := by decide +kernel
theorem dX10_plain_141 : decode cX10_plain 141 = .ok (.iload_n 2, 1) := by decide +kernel
theorem dX10_plain_142 : decode cX10_plain 142 = .ok (.aload_n 1, 1) := by decide +kernel
theorem dX10_plain_143 : decode cX10_plain 143 = .ok (.iload_n 2, 1) := by decide +kernel
theorem dX10_plain_144 : decode cX10_plain 144 = .ok (.iaload, 1) := by decide +kernel
theorem dX10_plain_145 : decode cX10_plain 145 = .ok (.iconst 1, 1) := by decide +kernel
theorem dX10_plain_146 : decode cX10_plain 146 = .ok (.iadd, 1) := by decide +kernel
theorem dX10_plain_147 : decode cX10_plain 147 = .ok (.sipush 1000, 3) := by decide +kernel
theorem dX10_plain_150 : decode cX10_plain 150 = .ok (.irem, 1) := by decide +kernel
theorem dX10_plain_151 : decode cX10_plain 151 = .ok (.iastore, 1) := by decide +kernel
theorem dX10_plain_152 : decode cX10_plain 152 = .ok (.iload_n 3, 1) := by decide +kernel
theorem dX10_plain_153 : decode cX10_plain 153 = .ok (.iconst 1, 1) := by decide +kernel
theorem dX10_plain_154 : decode cX10_plain 154 = .ok (.iadd, 1) := by decide +kernel
theorem dX10_plain_155 : decode cX10_plain 155 = .ok (.ireturn, 1) := by decide +kernel
theorem dX10_plain_156 : decode cX10_plain 156 = .ok (.aload_n 1, 1) := by decide +kernel
theorem dX10_plain_157 : decode cX10_plain 157 = .ok (.iload_n 2, 1) := by decide +kernel
theorem dX10_plain_158 : decode cX10_plain 158 = .ok (.aload_n 1, 1) := by decide +kernel
theorem dX10_plain_159 : decode cX10_plain 159 = .ok (.iload_n 2, 1) := by decide +kernel
theorem dX10_plain_160 : decode cX10_plain 160 = .ok (.iaload, 1) := by decide +kernel
theorem dX10_plain_161 : decode cX10_plain 161 = .ok (.sipush 999, 3) := by decide +kernel
theorem dX10_plain_164 : decode cX10_plain 164 = .ok (.iadd, 1) := by decide +kernel
theorem dX10_plain_165 : decode cX10_plain 165 = .ok (.sipush 1000, 3) := by decide +kernel
theorem dX10_plain_168 : decode cX10_plain 168 = .ok (.irem, 1) := by decide +kernel
theorem dX10_plain_169 : decode cX10_plain 169 = .ok (.iastore, 1) := by decide +kernel
theorem dX10_plain_170 : decode cX10_plain 170 = .ok (.iload_n 3, 1) := by decide +kernel
theorem dX10_plain_171 : decode cX10_plain 171 = .ok (.iconst 1, 1) := by decide +kernel
theorem dX10_plain_172 : decode cX10_plain 172 = .ok (.iadd, 1) := by decide +kernel
theorem dX10_plain_173 : decode cX10_plain 173 = .ok (.ireturn, 1) := by decide +kernel
theorem dX10_plain_174 : decode cX10_plain 174 = .ok (.aload_n 1, 1) := by decide +kernel
theorem dX10_plain_175 : decode cX10_plain 175 = .ok (.iload_n 2, 1) := by decide +kernel
theorem dX10_plain_176 : decode cX10_plain 176 = .ok (.aload_n 1, 1) := by decide +kernel
theorem dX10_plain_177 : decode cX10_plain 177 = .ok (.iload 4, 2) := by decide +kernel
theorem dX10_plain_179 : decode cX10_plain 179 = .ok (.iaload, 1) := by decide +kernel
theorem dX10_plain_180 : decode cX10_plain 180 = .ok (.iastore, 1) := by decide +kernel
theorem dX10_plain_181 : decode cX10_plain 181 = .ok (.iload_n 3, 1) := by decide +kernel
theorem dX10_plain_182 : decode cX10_plain 182 = .ok (.iconst 2, 1) := by decide +kernel
theorem dX10_plain_183 : decode cX10_plain 183 = .ok (.iadd, 1) := by decide +kernel
theorem dX10_plain_184 : decode cX10_plain 184 = .ok (.ireturn, 1) := by decide +kernel
theorem dX10_plain_185 : decode cX10_plain 185 = .ok (.aload_n 1, 1) := by decide +kernel
theorem dX10_plain_186 : decode cX10_plain 186 = .ok (.iload 4, 2) := by decide +kernel
theorem dX10_plain_188 : decode cX10_plain 188 = .ok (.aload_n 1, 1) := by decide +kernel
theorem dX10_plain_189 : decode cX10_plain 189 = .ok (.iload_n 2, 1) := by decide +kernel
theorem dX10_plain_190 : decode cX10_plain 190 = .ok (.iaload, 1) := by decide +kernel
theorem dX10_plain_191 : decode cX10_plain 191 = .ok (.iastore, 1) := by decide +kernel
theorem dX10_plain_192 : decode cX10_plain 192 = .ok (.iload_n 3, 1) := by decide +kernel
theorem dX10_plain_193 : decode cX10_plain 193 = .ok (.iconst 2, 1) := by decide +kernel
theorem dX10_plain_194 : decode cX10_plain 194 = .ok (.iadd, 1) := by decide +kernel
theorem dX10_plain_195 : decode cX10_plain 195 = .ok (.ireturn, 1) := by decide +kernel
theorem dX10_plain_196 : decode cX10_plain 196 = .ok (.aload_n 1, 1) := by decide +kernel
theorem dX10_plain_197 : decode cX10_plain 197 = .ok (.iload_n 2, 1) := by decide +kernel
theorem dX10_plain_198 : decode cX10_plain 198 = .ok (.aload_n 1, 1) := by decide +kernel
theorem dX10_plain_199 : decode cX10_plain 199 = .ok (.iload_n 2, 1) := by decide +kernel
theorem dX10_plain_200 : decode cX10_plain 200 = .ok (.iaload, 1) := by decide +kernel
theorem dX10_plain_201 : decode cX10_plain 201 = .ok (.aload_n 1, 1) := by decide +kernel
theorem dX10_plain_202 : decode cX10_plain 202 = .ok (.iload 4, 2) := by decide +kernel
theorem dX10_plain_204 : decode cX10_plain 204 = .ok (.iaload, 1) := by decide +kernel
theorem dX10_plain_205 : decode cX10_plain 205 = .ok (.iadd, 1) := by decide +kernel
theorem dX10_plain_206 : decode cX10_plain 206 = .ok (.sipush 1000, 3) := by decide +kernel
theorem dX10_plain_209 : decode cX10_plain 209 = .ok (.irem, 1) := by decide +kernel
theorem dX10_plain_210 : decode cX10_plain 210 = .ok (.iastore, 1) := by decide +kernel
theorem dX10_plain_211 : decode cX10_plain 211 = .ok (.iload_n 3, 1) := by decide +kernel
theorem dX10_plain_212 : decode cX10_plain 212 = .ok (.iconst 2, 1) := by decide +kernel
theorem dX10_plain_213 : decode cX10_plain 213 = .ok (.iadd, 1) := by decide +kernel
theorem dX10_plain_214 : decode cX10_plain 214 = .ok (.ireturn, 1) := by decide +kernel
theorem dX10_plain_215 : decode cX10_plain 215 = .ok (.aload_n 1, 1) := by decide +kernel
theorem dX10_plain_216 : decode cX10_plain 216 = .ok (.iload_n 2, 1) := by decide +kernel
theorem dX10_plain_217 : decode cX10_plain 217 = .ok (.iaload, 1) := by decide +kernel
theorem dX10_plain_218 : decode cX10_plain 218 = .ok (.ifCond .ne 16, 3) := by decide +kernel
theorem dX10_plain_221 : decode cX10_plain 221 = .ok (.aload_n 0, 1) := by decide +kernel
theorem dX10_plain_222 : decode cX10_plain 222 = .ok (.getfield 13, 3) := by decide +kernel
theorem dX10_plain_225 : decode cX10_plain 225 = .ok (.iload_n 3, 1) := by decide +kernel
theorem dX10_plain_226 : decode cX10_plain 226 = .ok (.iconst 1, 1) := by decide +kernel
theorem dX10_plain_227 : decode cX10_plain 227 = .ok (.iadd, 1) := by decide +kernel
theorem dX10_plain_228 : decode cX10_plain 228 = .ok (.invokestatic 117, 3) := by decide +kernel
theorem dX10_plain_231 : decode cX10_plain 231 = .ok (.goto 6, 3) := by decide +kernel
theorem dX10_plain_234 : decode cX10_plain 234 = .ok (.iload_n 3, 1) := by decide +kernel
theorem dX10_plain_235 : decode cX10_plain 235 = .ok (.iconst 3, 1) := by decide +kernel
theorem dX10_plain_236 : decode cX10_plain 236 = .ok (.iadd, 1) := by decide +kernel
theorem dX10_plain_237 : decode cX10_plain 237 = .ok (.ireturn, 1) := by decide +kernel
theorem dX10_plain_238 : decode cX10_plain 238 = .ok (.aload_n 0, 1) := by decide +kernel
theorem dX10_plain_239 : decode cX10_plain 239 = .ok (.getfield 13, 3) := by decide +kernel
theorem dX10_plain_242 : decode cX10_plain 242 = .ok (.iload_n 3, 1) := by decide +kernel
theorem dX10_plain_243 : decode cX10_plain 243 = .ok (.iconst 1, 1) := by decide +kernel
theorem dX10_plain_244 : decode cX10_plain 244 = .ok (.iadd, 1) := by decide +kernel
theorem dX10_plain_245 : decode cX10_plain 245 = .ok (.invokestatic 117, 3) := by decide +kernel
theorem dX10_plain_248 : decode cX10_plain 248 = .ok (.ireturn, 1) := by decide +kernel
theorem dX10_plain_249 : decode cX10_plain 249 = .ok (.iload_n 3, 1) := by decide +kernel
theorem dX10_plain_250 : decode cX10_plain 250 = .ok (.ireturn, 1) := by decide +kernel
theorem dX10_turns_0 : decode cX10_turns 0 = .ok (.aload_n 1, 1) := by decide +kernel
theorem dX10_turns_1 : decode cX10_turns 1 = .ok (.iload_n 2, 1) := by decide +kernel
theorem dX10_turns_2 : decode cX10_turns 2 = .ok (.iconst 2, 1) := by decide +kernel
theorem dX10_turns_3 : decode cX10_turns 3 = .ok (.iadd, 1) := by decide +kernel
theorem dX10_turns_4 : decode cX10_turns 4 = .ok (.iaload, 1) := by decide +kernel
theorem dX10_turns_5 : decode cX10_turns 5 = .ok (.istore 4, 2) := by decide +kernel
theorem dX10_turns_7 : decode cX10_turns 7 = .ok (.aload_n 0, 1) := by decide +kernel
theorem dX10_turns_8 : decode cX10_turns 8 = .ok (.getfield 13, 3) := by decide +kernel
theorem dX10_turns_11 : decode cX10_turns 11 = .ok (.iload_n 3, 1) := by decide +kernel
theorem dX10_turns_12 : decode cX10_turns 12 = .ok (.iaload, 1) := by decide +kernel
theorem dX10_turns_13 : decode cX10_turns 13 = .ok (.lookupswitch 135 #[(99, 35), (104, 126), (114, 92)], 35) := by decide +kernel
theorem dX10_turns_48 : decode cX10_turns 48 = .ok (.iload 4, 2) := by decide +kernel
theorem dX10_turns_50 : decode cX10_turns 50 = .ok (.bipush 6, 2) := by decide +kernel
theorem dX10_turns_52 : decode cX10_turns 52 = .ok (.if_icmp .ne 12, 3) := by decide +kernel
theorem dX10_turns_55 : decode cX10_turns 55 = .ok (.aload_n 1, 1) := by decide +kernel
theorem dX10_turns_56 : decode cX10_turns 56 = .ok (.iload_n 2, 1) := by decide +kernel
theorem dX10_turns_57 : decode cX10_turns 57 = .ok (.bipush 15, 2) := by decide +kernel
theorem dX10_turns_59 : decode cX10_turns 59 = .ok (.iadd, 1) := by decide +kernel
theorem dX10_turns_60 : decode cX10_turns 60 = .ok (.iconst 1, 1) := by decide +kernel
theorem dX10_turns_61 : decode cX10_turns 61 = .ok (.iastore, 1) := by decide +kernel
theorem dX10_turns_62 : decode cX10_turns 62 = .ok (.iload_n 3, 1) := by decide +kernel
theorem dX10_turns_63 : decode cX10_turns 63 = .ok (.ireturn, 1) := by decide +kernel
theorem dX10_turns_64 : decode cX10_turns 64 = .ok (.aload_n 1, 1) := by decide +kernel
theorem dX10_turns_65 : decode cX10_turns 65 = .ok (.iload_n 2, 1) := by decide +kernel
theorem dX10_turns_66 : decode cX10_turns 66 = .ok (.iconst 3, 1) := by decide +kernel
theorem dX10_turns_67 : decode cX10_turns 67 = .ok (.iadd, 1) := by decide +kernel
theorem dX10_turns_68 : decode cX10_turns 68 = .ok (.iload 4, 2) := by decide +kernel
theorem dX10_turns_70 : decode cX10_turns 70 = .ok (.iadd, 1) := by decide +kernel
theorem dX10_turns_71 : decode cX10_turns 71 = .ok (.iload_n 3, 1) := by decide +kernel
theorem dX10_turns_72 : decode cX10_turns 72 = .ok (.iconst 3, 1) := by decide +kernel
theorem dX10_turns_73 : decode cX10_turns 73 = .ok (.iadd, 1) := by decide +kernel
theorem dX10_turns_74 : decode cX10_turns 74 = .ok (.iastore, 1) := by decide +kernel
theorem dX10_turns_75 : decode cX10_turns 75 = .ok (.aload_n 1, 1) := by decide +kernel
theorem dX10_turns_76 : decode cX10_turns 76 = .ok (.iload_n 2, 1) := by decide +kernel
theorem dX10_turns_77 : decode cX10_turns 77 = .ok (.bipush 9, 2) := by decide +kernel
theorem dX10_turns_79 : decode cX10_turns 79 = .ok (.iadd, 1) := by decide +kernel
theorem dX10_turns_80 : decode cX10_turns 80 = .ok (.iload 4, 2) := by decide +kernel
theorem dX10_turns_82 : decode cX10_turns 82 = .ok (.iadd, 1) := by decide +kernel
theorem dX10_turns_83 : decode cX10_turns 83 = .ok (.iconst 0, 1) := by decide +kernel
theorem dX10_turns_84 : decode cX10_turns 84 = .ok (.iastore, 1) := by decide +kernel
theorem dX10_turns_85 : decode cX10_turns 85 = .ok (.aload_n 1, 1) := by decide +kernel
theorem dX10_turns_86 : decode cX10_turns 86 = .ok (.iload_n 2, 1) := by decide +kernel
theorem dX10_turns_87 : decode cX10_turns 87 = .ok (.iconst 2, 1) := by decide +kernel
theorem dX10_turns_88 : decode cX10_turns 88 = .ok (.iadd, 1) := by decide +kernel
theorem dX10_turns_89 : decode cX10_turns 89 = .ok (.dup2, 1) := by decide +kernel
theorem dX10_turns_90 : decode cX10_turns 90 = .ok (.iaload, 1) := by decide +kernel
theorem dX10_turns_91 : decode cX10_turns 91 = .ok (.iconst 1, 1) := by decide +kernel
theorem dX10_turns_92 : decode cX10_turns 92 = .ok (.iadd, 1) := by decide +kernel
theorem dX10_turns_93 : decode cX10_turns 93 = .ok (.iastore, 1) := by decide +kernel
theorem dX10_turns_94 : decode cX10_turns 94 = .ok (.aload_n 0, 1) := by decide +kernel
theorem dX10_turns_95 : decode cX10_turns 95 = .ok (.getfield 13, 3) := by decide +kernel
theorem dX10_turns_98 : decode cX10_turns 98 = .ok (.iload_n 3, 1) := by decide +kernel
theorem dX10_turns_99 : decode cX10_turns 99 = .ok (.iconst 1, 1) := by decide +kernel
theorem dX10_turns_100 : decode cX10_turns 100 = .ok (.iadd, 1) := by decide +kernel
theorem dX10_turns_101 : decode cX10_turns 101 = .ok (.invokestatic 117, 3) := by decide +kernel
theorem dX10_turns_104 : decode cX10_turns 104 = .ok (.ireturn, 1) := by decide +kernel
theorem dX10_turns_105 : decode cX10_turns 105 = .ok (.iload 4, 2) := by decide +kernel
theorem dX10_turns_107 : decode cX10_turns 107 = .ok (.ifCond .ne 12, 3) := by decide +kernel
theorem dX10_turns_110 : decode cX10_turns 110 = .ok (.aload_n 1, 1) := by decide +kernel
theorem dX10_turns_111 : decode cX10_turns 111 = .ok (.iload_n 2, 1) := by decide +kernel
theorem dX10_turns_112 : decode cX10_turns 112 = .ok (.bipush 15, 2) := by decide +kernel
theorem dX10_turns_114 : decode cX10_turns 114 = .ok (.iadd, 1) := by decide +kernel
theorem dX10_turns_115 : decode cX10_turns 115 = .ok (.iconst 1, 1) := by decide +kernel
theorem dX10_turns_116 : decode cX10_turns 116 = .ok (.iastore, 1) := by decide +kernel
theorem dX10_turns_117 : decode cX10_turns 117 = .ok (.iload_n 3, 1) := by decide +kernel
theorem dX10_turns_118 : decode cX10_turns 118 = .ok (.ireturn, 1) := by decide +kernel
theorem dX10_turns_119 : decode cX10_turns 119 = .ok (.aload_n 1, 1) := by decide +kernel
theorem dX10_turns_120 : decode cX10_turns 120 = .ok (.iload_n 2, 1) := by decide +kernel
theorem dX10_turns_121 : decode cX10_turns 121 = .ok (.iconst 2, 1) := by decide +kernel
theorem dX10_turns_122 : decode cX10_turns 122 = .ok (.iadd, 1) := by decide +kernel
theorem dX10_turns_123 : decode cX10_turns 123 = .ok (.dup2, 1) := by decide +kernel
theorem dX10_turns_124 : decode cX10_turns 124 = .ok (.iaload, 1) := by decide +kernel
theorem dX10_turns_125 : decode cX10_turns 125 = .ok (.iconst 1, 1) := by decide +kernel
theorem dX10_turns_126 : decode cX10_turns 126 = .ok (.isub, 1) := by decide +kernel
theorem dX10_turns_127 : decode cX10_turns 127 = .ok (.iastore, 1) := by decide +kernel
theorem dX10_turns_128 : decode cX10_turns 128 = .ok (.aload_n 1, 1) := by decide +kernel
theorem dX10_turns_129 : decode cX10_turns 129 = .ok (.iload_n 2, 1) := by decide +kernel
theorem dX10_turns_130 : decode cX10_turns 130 = .ok (.iconst 3, 1) := by decide +kernel
theorem dX10_turns_131 : decode cX10_turns 131 = .ok (.iadd, 1) := by decide +kernel
theorem dX10_turns_132 : decode cX10_turns 132 = .ok (.iload 4, 2) := by decide +kernel
theorem dX10_turns_134 : decode cX10_turns 134 = .ok (.iadd, 1) := by decide +kernel
theorem dX10_turns_135 : decode cX10_turns 135 = .ok (.iconst 1, 1) := by decide +kernel
end
section
theorem dX10_turns_136 : decode cX10_turns 136 = .ok (.isub, 1) := by decide +kernel
theorem dX10_turns_137 : decode cX10_turns 137 = .ok (.iaload, 1) := by decide +kernel
theorem dX10_turns_138 : decode cX10_turns 138 = .ok (.ireturn, 1) := by decide +kernel
theorem dX10_turns_139 : decode cX10_turns 139 = .ok (.aload_n 1, 1) := by decide +kernel
theorem dX10_turns_140 : decode cX10_turns 140 = .ok (.iload_n 2, 1) := by decide +kernel
theorem dX10_turns_141 : decode cX10_turns 141 = .ok (.bipush 15, 2) := by decide +kernel
theorem dX10_turns_143 : decode cX10_turns 143 = .ok (.iadd, 1) := by decide +kernel
theorem dX10_turns_144 : decode cX10_turns 144 = .ok (.iconst 1, 1) := by decide +kernel
theorem dX10_turns_145 : decode cX10_turns 145 = .ok (.iastore, 1) := by decide +kernel
theorem dX10_turns_146 : decode cX10_turns 146 = .ok (.iload_n 3, 1) := by decide +kernel
theorem dX10_turns_147 : decode cX10_turns 147 = .ok (.ireturn, 1) := by decide +kernel
theorem dX10_turns_148 : decode cX10_turns 148 = .ok (.iconst (-1), 1) := by decide +kernel
theorem dX10_turns_149 : decode cX10_turns 149 = .ok (.ireturn, 1) := by decide +kernel
theorem dX10_goes_0 : decode cX10_goes 0 = .ok (.iload_n 2, 1) := by decide +kernel
theorem dX10_goes_1 : decode cX10_goes 1 = .ok (.invokestatic 111, 3) := by decide +kernel
theorem dX10_goes_4 : decode cX10_goes 4 = .ok (.istore_n 3, 1) := by decide +kernel
theorem dX10_goes_5 : decode cX10_goes 5 = .ok (.aload_n 1, 1) := by decide +kernel
theorem dX10_goes_6 : decode cX10_goes 6 = .ok (.iload_n 3, 1) := by decide +kernel
theorem dX10_goes_7 : decode cX10_goes 7 = .ok (.iconst 1, 1) := by decide +kernel
theorem dX10_goes_8 : decode cX10_goes 8 = .ok (.iadd, 1) := by decide +kernel
theorem dX10_goes_9 : decode cX10_goes 9 = .ok (.iaload, 1) := by decide +kernel
theorem dX10_goes_10 : decode cX10_goes 10 = .ok (.istore 4, 2) := by decide +kernel
theorem dX10_goes_12 : decode cX10_goes 12 = .ok (.aload_n 1, 1) := by decide +kernel
theorem dX10_goes_13 : decode cX10_goes 13 = .ok (.iload_n 3, 1) := by decide +kernel
theorem dX10_goes_14 : decode cX10_goes 14 = .ok (.bipush 15, 2) := by decide +kernel
theorem dX10_goes_16 : decode cX10_goes 16 = .ok (.iadd, 1) := by decide +kernel
theorem dX10_goes_17 : decode cX10_goes 17 = .ok (.iaload, 1) := by decide +kernel
theorem dX10_goes_18 : decode cX10_goes 18 = .ok (.iconst 1, 1) := by decide +kernel
theorem dX10_goes_19 : decode cX10_goes 19 = .ok (.if_icmp .ne 5, 3) := by decide +kernel
theorem dX10_goes_22 : decode cX10_goes 22 = .ok (.iconst 0, 1) := by decide +kernel
theorem dX10_goes_23 : decode cX10_goes 23 = .ok (.ireturn, 1) := by decide +kernel
theorem dX10_goes_24 : decode cX10_goes 24 = .ok (.aload_n 0, 1) := by decide +kernel
theorem dX10_goes_25 : decode cX10_goes 25 = .ok (.iload 4, 2) := by decide +kernel
theorem dX10_goes_27 : decode cX10_goes 27 = .ok (.invokevirtual 121, 3) := by decide +kernel
theorem dX10_goes_30 : decode cX10_goes 30 = .ok (.ifCond .ne 12, 3) := by decide +kernel
theorem dX10_goes_33 : decode cX10_goes 33 = .ok (.aload_n 1, 1) := by decide +kernel
theorem dX10_goes_34 : decode cX10_goes 34 = .ok (.iload_n 3, 1) := by decide +kernel
theorem dX10_goes_35 : decode cX10_goes 35 = .ok (.bipush 15, 2) := by decide +kernel
theorem dX10_goes_37 : decode cX10_goes 37 = .ok (.iadd, 1) := by decide +kernel
theorem dX10_goes_38 : decode cX10_goes 38 = .ok (.iconst 1, 1) := by decide +kernel
theorem dX10_goes_39 : decode cX10_goes 39 = .ok (.iastore, 1) := by decide +kernel
theorem dX10_goes_40 : decode cX10_goes 40 = .ok (.iconst 0, 1) := by decide +kernel
theorem dX10_goes_41 : decode cX10_goes 41 = .ok (.ireturn, 1) := by decide +kernel
theorem dX10_goes_42 : decode cX10_goes 42 = .ok (.aload_n 1, 1) := by decide +kernel
theorem dX10_goes_43 : decode cX10_goes 43 = .ok (.iload_n 3, 1) := by decide +kernel
theorem dX10_goes_44 : decode cX10_goes 44 = .ok (.bipush 16, 2) := by decide +kernel
theorem dX10_goes_46 : decode cX10_goes 46 = .ok (.iadd, 1) := by decide +kernel
theorem dX10_goes_47 : decode cX10_goes 47 = .ok (.dup2, 1) := by decide +kernel
theorem dX10_goes_48 : decode cX10_goes 48 = .ok (.iaload, 1) := by decide +kernel
theorem dX10_goes_49 : decode cX10_goes 49 = .ok (.iconst 1, 1) := by decide +kernel
theorem dX10_goes_50 : decode cX10_goes 50 = .ok (.iadd, 1) := by decide +kernel
theorem dX10_goes_51 : decode cX10_goes 51 = .ok (.iastore, 1) := by decide +kernel
theorem dX10_goes_52 : decode cX10_goes 52 = .ok (.aload_n 0, 1) := by decide +kernel
theorem dX10_goes_53 : decode cX10_goes 53 = .ok (.aload_n 1, 1) := by decide +kernel
theorem dX10_goes_54 : decode cX10_goes 54 = .ok (.iload_n 3, 1) := by decide +kernel
theorem dX10_goes_55 : decode cX10_goes 55 = .ok (.iload 4, 2) := by decide +kernel
theorem dX10_goes_57 : decode cX10_goes 57 = .ok (.invokevirtual 124, 3) := by decide +kernel
theorem dX10_goes_60 : decode cX10_goes 60 = .ok (.istore 5, 2) := by decide +kernel
theorem dX10_goes_62 : decode cX10_goes 62 = .ok (.aload_n 1, 1) := by decide +kernel
theorem dX10_goes_63 : decode cX10_goes 63 = .ok (.iload_n 3, 1) := by decide +kernel
theorem dX10_goes_64 : decode cX10_goes 64 = .ok (.iconst 1, 1) := by decide +kernel
theorem dX10_goes_65 : decode cX10_goes 65 = .ok (.iadd, 1) := by decide +kernel
theorem dX10_goes_66 : decode cX10_goes 66 = .ok (.iload 5, 2) := by decide +kernel
theorem dX10_goes_68 : decode cX10_goes 68 = .ok (.ifCond .ge 14, 3) := by decide +kernel
theorem dX10_goes_71 : decode cX10_goes 71 = .ok (.aload_n 0, 1) := by decide +kernel
theorem dX10_goes_72 : decode cX10_goes 72 = .ok (.aload_n 1, 1) := by decide +kernel
theorem dX10_goes_73 : decode cX10_goes 73 = .ok (.iload_n 3, 1) := by decide +kernel
theorem dX10_goes_74 : decode cX10_goes 74 = .ok (.iload 4, 2) := by decide +kernel
theorem dX10_goes_76 : decode cX10_goes 76 = .ok (.invokevirtual 128, 3) := by decide +kernel
theorem dX10_goes_79 : decode cX10_goes 79 = .ok (.goto 5, 3) := by decide +kernel
theorem dX10_goes_82 : decode cX10_goes 82 = .ok (.iload 5, 2) := by decide +kernel
theorem dX10_goes_84 : decode cX10_goes 84 = .ok (.iastore, 1) := by decide +kernel
theorem dX10_goes_85 : decode cX10_goes 85 = .ok (.iconst 1, 1) := by decide +kernel
theorem dX10_goes_86 : decode cX10_goes 86 = .ok (.ireturn, 1) := by decide +kernel
theorem dX10_does_0 : decode cX10_does 0 = .ok (.iload_n 1, 1) := by decide +kernel
theorem dX10_does_1 : decode cX10_does 1 = .ok (.invokestatic 111, 3) := by decide +kernel
theorem dX10_does_4 : decode cX10_does 4 = .ok (.istore_n 2, 1) := by decide +kernel
theorem dX10_does_5 : decode cX10_does 5 = .ok (.aload_n 0, 1) := by decide +kernel
theorem dX10_does_6 : decode cX10_does 6 = .ok (.getfield 20, 3) := by decide +kernel
theorem dX10_does_9 : decode cX10_does 9 = .ok (.iload_n 2, 1) := by decide +kernel
theorem dX10_does_10 : decode cX10_does 10 = .ok (.iconst 1, 1) := by decide +kernel
theorem dX10_does_11 : decode cX10_does 11 = .ok (.iadd, 1) := by decide +kernel
theorem dX10_does_12 : decode cX10_does 12 = .ok (.iaload, 1) := by decide +kernel
theorem dX10_does_13 : decode cX10_does 13 = .ok (.istore_n 3, 1) := by decide +kernel
theorem dX10_does_14 : decode cX10_does 14 = .ok (.aload_n 0, 1) := by decide +kernel
theorem dX10_does_15 : decode cX10_does 15 = .ok (.getfield 20, 3) := by decide +kernel
theorem dX10_does_18 : decode cX10_does 18 = .ok (.iload_n 2, 1) := by decide +kernel
theorem dX10_does_19 : decode cX10_does 19 = .ok (.bipush 15, 2) := by decide +kernel
theorem dX10_does_21 : decode cX10_does 21 = .ok (.iadd, 1) := by decide +kernel
theorem dX10_does_22 : decode cX10_does 22 = .ok (.iaload, 1) := by decide +kernel
theorem dX10_does_23 : decode cX10_does 23 = .ok (.ifCond .ne 71, 3) := by decide +kernel
theorem dX10_does_26 : decode cX10_does 26 = .ok (.aload_n 0, 1) := by decide +kernel
theorem dX10_does_27 : decode cX10_does 27 = .ok (.iload_n 3, 1) := by decide +kernel
theorem dX10_does_28 : decode cX10_does 28 = .ok (.invokevirtual 121, 3) := by decide +kernel
theorem dX10_does_31 : decode cX10_does 31 = .ok (.ifCond .eq 63, 3) := by decide +kernel
theorem dX10_does_34 : decode cX10_does 34 = .ok (.aload_n 0, 1) := by decide +kernel
theorem dX10_does_35 : decode cX10_does 35 = .ok (.iload_n 3, 1) := by decide +kernel
theorem dX10_does_36 : decode cX10_does 36 = .ok (.invokevirtual 99, 3) := by decide +kernel
theorem dX10_does_39 : decode cX10_does 39 = .ok (.istore 4, 2) := by decide +kernel
theorem dX10_does_41 : decode cX10_does 41 = .ok (.iload 4, 2) := by decide +kernel
theorem dX10_does_43 : decode cX10_does 43 = .ok (.bipush (-4), 2) := by decide +kernel
theorem dX10_does_45 : decode cX10_does 45 = .ok (.if_icmp .eq 49, 3) := by decide +kernel
theorem dX10_does_48 : decode cX10_does 48 = .ok (.aload_n 0, 1) := by decide +kernel
theorem dX10_does_49 : decode cX10_does 49 = .ok (.getfield 20, 3) := by decide +kernel
theorem dX10_does_52 : decode cX10_does 52 = .ok (.iload 4, 2) := by decide +kernel
theorem dX10_does_54 : decode cX10_does 54 = .ok (.invokestatic 96, 3) := by decide +kernel
theorem dX10_does_57 : decode cX10_does 57 = .ok (.iaload, 1) := by decide +kernel
theorem dX10_does_58 : decode cX10_does 58 = .ok (.ifCond .ne 36, 3) := by decide +kernel
theorem dX10_does_61 : decode cX10_does 61 = .ok (.aload_n 0, 1) := by decide +kernel
theorem dX10_does_62 : decode cX10_does 62 = .ok (.getfield 20, 3) := by decide +kernel
theorem dX10_does_65 : decode cX10_does 65 = .ok (.iload_n 2, 1) := by decide +kernel
theorem dX10_does_66 : decode cX10_does 66 = .ok (.bipush 16, 2) := by decide +kernel
theorem dX10_does_68 : decode cX10_does 68 = .ok (.iadd, 1) := by decide +kernel
theorem dX10_does_69 : decode cX10_does 69 = .ok (.dup2, 1) := by decide +kernel
theorem dX10_does_70 : decode cX10_does 70 = .ok (.iaload, 1) := by decide +kernel
theorem dX10_does_71 : decode cX10_does 71 = .ok (.iconst 1, 1) := by decide +kernel
theorem dX10_does_72 : decode cX10_does 72 = .ok (.iadd, 1) := by decide +kernel
theorem dX10_does_73 : decode cX10_does 73 = .ok (.iastore, 1) := by decide +kernel
theorem dX10_does_74 : decode cX10_does 74 = .ok (.aload_n 0, 1) := by decide +kernel
theorem dX10_does_75 : decode cX10_does 75 = .ok (.iload 4, 2) := by decide +kernel
theorem dX10_does_77 : decode cX10_does 77 = .ok (.iload_n 1, 1) := by decide +kernel
theorem dX10_does_78 : decode cX10_does 78 = .ok (.invokevirtual 131, 3) := by decide +kernel
theorem dX10_does_81 : decode cX10_does 81 = .ok (.aload_n 0, 1) := by decide +kernel
theorem dX10_does_82 : decode cX10_does 82 = .ok (.getfield 20, 3) := by decide +kernel
theorem dX10_does_85 : decode cX10_does 85 = .ok (.iload_n 2, 1) := by decide +kernel
theorem dX10_does_86 : decode cX10_does 86 = .ok (.bipush 16, 2) := by decide +kernel
theorem dX10_does_88 : decode cX10_does 88 = .ok (.iadd, 1) := by decide +kernel
theorem dX10_does_89 : decode cX10_does 89 = .ok (.dup2, 1) := by decide +kernel
theorem dX10_does_90 : decode cX10_does 90 = .ok (.iaload, 1) := by decide +kernel
theorem dX10_does_91 : decode cX10_does 91 = .ok (.iconst 1, 1) := by decide +kernel
theorem dX10_does_92 : decode cX10_does 92 = .ok (.isub, 1) := by decide +kernel
theorem dX10_does_93 : decode cX10_does 93 = .ok (.iastore, 1) := by decide +kernel
theorem dX10_does_94 : decode cX10_does 94 = .ok (.aload_n 0, 1) := by decide +kernel
theorem dX10_does_95 : decode cX10_does 95 = .ok (.getfield 20, 3) := by decide +kernel
theorem dX10_does_98 : decode cX10_does 98 = .ok (.iload_n 2, 1) := by decide +kernel
theorem dX10_does_99 : decode cX10_does 99 = .ok (.iconst 2, 1) := by decide +kernel
theorem dX10_does_100 : decode cX10_does 100 = .ok (.iadd, 1) := by decide +kernel
theorem dX10_does_101 : decode cX10_does 101 = .ok (.iaload, 1) := by decide +kernel
theorem dX10_does_102 : decode cX10_does 102 = .ok (.istore 4, 2) := by decide +kernel
theorem dX10_does_104 : decode cX10_does 104 = .ok (.aload_n 0, 1) := by decide +kernel
theorem dX10_does_105 : decode cX10_does 105 = .ok (.aload_n 0, 1) := by decide +kernel
theorem dX10_does_106 : decode cX10_does 106 = .ok (.getfield 20, 3) := by decide +kernel
theorem dX10_does_109 : decode cX10_does 109 = .ok (.iload_n 1, 1) := by decide +kernel
theorem dX10_does_110 : decode cX10_does 110 = .ok (.invokevirtual 134, 3) := by decide +kernel
theorem dX10_does_113 : decode cX10_does 113 = .ok (.istore 5, 2) := by decide +kernel
theorem dX10_does_115 : decode cX10_does 115 = .ok (.aload_n 0, 1) := by decide +kernel
theorem dX10_does_116 : decode cX10_does 116 = .ok (.getfield 20, 3) := by decide +kernel
theorem dX10_does_119 : decode cX10_does 119 = .ok (.iload_n 2, 1) := by decide +kernel
theorem dX10_does_120 : decode cX10_does 120 = .ok (.iconst 2, 1) := by decide +kernel
theorem dX10_does_121 : decode cX10_does 121 = .ok (.iadd, 1) := by decide +kernel
theorem dX10_does_122 : decode cX10_does 122 = .ok (.iaload, 1) := by decide +kernel
theorem dX10_does_123 : decode cX10_does 123 = .ok (.iload 4, 2) := by decide +kernel
theorem dX10_does_125 : decode cX10_does 125 = .ok (.if_icmp .ge 69, 3) := by decide +kernel
theorem dX10_does_128 : decode cX10_does 128 = .ok (.aload_n 0, 1) := by decide +kernel
theorem dX10_does_129 : decode cX10_does 129 = .ok (.getfield 20, 3) := by decide +kernel
theorem dX10_does_132 : decode cX10_does 132 = .ok (.iload_n 2, 1) := by decide +kernel
theorem dX10_does_133 : decode cX10_does 133 = .ok (.bipush 9, 2) := by decide +kernel
theorem dX10_does_135 : decode cX10_does 135 = .ok (.iadd, 1) := by decide +kernel
theorem dX10_does_136 : decode cX10_does 136 = .ok (.iload 4, 2) := by decide +kernel
theorem dX10_does_138 : decode cX10_does 138 = .ok (.iadd, 1) := by decide +kernel
theorem dX10_does_139 : decode cX10_does 139 = .ok (.iconst 1, 1) := by decide +kernel
theorem dX10_does_140 : decode cX10_does 140 = .ok (.isub, 1) := by decide +kernel
theorem dX10_does_141 : decode cX10_does 141 = .ok (.iaload, 1) := by decide +kernel
theorem dX10_does_142 : decode cX10_does 142 = .ok (.istore 6, 2) := by decide +kernel
theorem dX10_does_144 : decode cX10_does 144 = .ok (.iload 6, 2) := by decide +kernel
theorem dX10_does_146 : decode cX10_does 146 = .ok (.ifCond .le 27, 3) := by decide +kernel
theorem dX10_does_149 : decode cX10_does 149 = .ok (.aload_n 0, 1) := by decide +kernel
theorem dX10_does_150 : decode cX10_does 150 = .ok (.getfield 20, 3) := by decide +kernel
theorem dX10_does_153 : decode cX10_does 153 = .ok (.iload 6, 2) := by decide +kernel
theorem dX10_does_155 : decode cX10_does 155 = .ok (.iconst 1, 1) := by decide +kernel
theorem dX10_does_156 : decode cX10_does 156 = .ok (.isub, 1) := by decide +kernel
theorem dX10_does_157 : decode cX10_does 157 = .ok (.invokestatic 96, 3) := by decide +kernel
theorem dX10_does_160 : decode cX10_does 160 = .ok (.iaload, 1) := by decide +kernel
theorem dX10_does_161 : decode cX10_does 161 = .ok (.ifCond .ne 12, 3) := by decide +kernel
theorem dX10_does_164 : decode cX10_does 164 = .ok (.aload_n 0, 1) := by decide +kernel
theorem dX10_does_165 : decode cX10_does 165 = .ok (.iload 6, 2) := by decide +kernel
theorem dX10_does_167 : decode cX10_does 167 = .ok (.iconst 1, 1) := by decide +kernel
theorem dX10_does_168 : decode cX10_does 168 = .ok (.isub, 1) := by decide +kernel
theorem dX10_does_169 : decode cX10_does 169 = .ok (.iload_n 1, 1) := by decide +kernel
theorem dX10_does_170 : decode cX10_does 170 = .ok (.invokevirtual 114, 3) := by decide +kernel
theorem dX10_does_173 : decode cX10_does 173 = .ok (.aload_n 0, 1) := by decide +kernel
theorem dX10_does_174 : decode cX10_does 174 = .ok (.iload 6, 2) := by decide +kernel
theorem dX10_does_176 : decode cX10_does 176 = .ok (.invokevirtual 138, 3) := by decide +kernel
theorem dX10_does_179 : decode cX10_does 179 = .ok (.aload_n 0, 1) := by decide +kernel
theorem dX10_does_180 : decode cX10_does 180 = .ok (.getfield 20, 3) := by decide +kernel
theorem dX10_does_183 : decode cX10_does 183 = .ok (.iload_n 2, 1) := by decide +kernel
theorem dX10_does_184 : decode cX10_does 184 = .ok (.bipush 9, 2) := by decide +kernel
theorem dX10_does_186 : decode cX10_does 186 = .ok (.iadd, 1) := by decide +kernel
theorem dX10_does_187 : decode cX10_does 187 = .ok (.iload 4, 2) := by decide +kernel
theorem dX10_does_189 : decode cX10_does 189 = .ok (.iadd, 1) := by decide +kernel
theorem dX10_does_190 : decode cX10_does 190 = .ok (.iconst 1, 1) := by decide +kernel
theorem dX10_does_191 : decode cX10_does 191 = .ok (.isub, 1) := by decide +kernel
theorem dX10_does_192 : decode cX10_does 192 = .ok (.iconst 0, 1) := by decide +kernel
theorem dX10_does_193 : decode cX10_does 193 = .ok (.iastore, 1) := by decide +kernel
theorem dX10_does_194 : decode cX10_does 194 = .ok (.iload 5, 2) := by decide +kernel
theorem dX10_does_196 : decode cX10_does 196 = .ok (.ireturn, 1) := by decide +kernel
theorem dX10_isProcessor_0 : decode cX10_isProcessor 0 = .ok (.iload_n 0, 1) := by decide +kernel
theorem dX10_isProcessor_1 : decode cX10_isProcessor 1 = .ok (.iconst 0, 1) := by decide +kernel
theorem dX10_isProcessor_2 : decode cX10_isProcessor 2 = .ok (.iconst 1, 1) := by decide +kernel
theorem dX10_isProcessor_3 : decode cX10_isProcessor 3 = .ok (.invokestatic 59, 3) := by decide +kernel
theorem dX10_isProcessor_6 : decode cX10_isProcessor 6 = .ok (.ireturn, 1) := by decide +kernel
theorem dX10_step_0 : decode cX10_step 0 = .ok (.iload_n 1, 1) := by decide +kernel
theorem dX10_step_1 : decode cX10_step 1 = .ok (.invokestatic 141, 3) := by decide +kernel
theorem dX10_step_4 : decode cX10_step 4 = .ok (.ifCond .eq 13, 3) := by decide +kernel
theorem dX10_step_7 : decode cX10_step 7 = .ok (.iload_n 2, 1) := by decide +kernel
theorem dX10_step_8 : decode cX10_step 8 = .ok (.iconst 1, 1) := by decide +kernel
theorem dX10_step_9 : decode cX10_step 9 = .ok (.bipush 60, 2) := by decide +kernel
theorem dX10_step_11 : decode cX10_step 11 = .ok (.invokestatic 59, 3) := by decide +kernel
theorem dX10_step_14 : decode cX10_step 14 = .ok (.ifCond .ne 5, 3) := by decide +kernel
theorem dX10_step_17 : decode cX10_step 17 = .ok (.iconst (-1), 1) := by decide +kernel
theorem dX10_step_18 : decode cX10_step 18 = .ok (.ireturn, 1) := by decide +kernel
theorem dX10_step_19 : decode cX10_step 19 = .ok (.aload_n 0, 1) := by decide +kernel
theorem dX10_step_20 : decode cX10_step 20 = .ok (.getfield 20, 3) := by decide +kernel
theorem dX10_step_23 : decode cX10_step 23 = .ok (.iload_n 1, 1) := by decide +kernel
theorem dX10_step_24 : decode cX10_step 24 = .ok (.invokestatic 111, 3) := by decide +kernel
theorem dX10_step_27 : decode cX10_step 27 = .ok (.bipush 15, 2) := by decide +kernel
theorem dX10_step_29 : decode cX10_step 29 = .ok (.iadd, 1) := by decide +kernel
theorem dX10_step_30 : decode cX10_step 30 = .ok (.iaload, 1) := by decide +kernel
theorem dX10_step_31 : decode cX10_step 31 = .ok (.iconst 1, 1) := by decide +kernel
theorem dX10_step_32 : decode cX10_step 32 = .ok (.if_icmp .ne 6, 3) := by decide +kernel
theorem dX10_step_35 : decode cX10_step 35 = .ok (.bipush (-2), 2) := by decide +kernel
theorem dX10_step_37 : decode cX10_step 37 = .ok (.ireturn, 1) := by decide +kernel
theorem dX10_step_38 : decode cX10_step 38 = .ok (.aload_n 0, 1) := by decide +kernel
theorem dX10_step_39 : decode cX10_step 39 = .ok (.invokevirtual 105, 3) := by decide +kernel
theorem dX10_step_42 : decode cX10_step 42 = .ok (.iconst 0, 1) := by decide +kernel
theorem dX10_step_43 : decode cX10_step 43 = .ok (.istore_n 3, 1) := by decide +kernel
theorem dX10_step_44 : decode cX10_step 44 = .ok (.iconst 0, 1) := by decide +kernel
theorem dX10_step_45 : decode cX10_step 45 = .ok (.istore 4, 2) := by decide +kernel
theorem dX10_step_47 : decode cX10_step 47 = .ok (.iload 4, 2) := by decide +kernel
theorem dX10_step_49 : decode cX10_step 49 = .ok (.iload_n 2, 1) := by decide +kernel
theorem dX10_step_50 : decode cX10_step 50 = .ok (.if_icmp .ge 25, 3) := by decide +kernel
theorem dX10_step_53 : decode cX10_step 53 = .ok (.iload_n 3, 1) := by decide +kernel
theorem dX10_step_54 : decode cX10_step 54 = .ok (.aload_n 0, 1) := by decide +kernel
theorem dX10_step_55 : decode cX10_step 55 = .ok (.iload_n 1, 1) := by decide +kernel
theorem dX10_step_56 : decode cX10_step 56 = .ok (.invokevirtual 144, 3) := by decide +kernel
theorem dX10_step_59 : decode cX10_step 59 = .ok (.ifCond .eq 7, 3) := by decide +kernel
theorem dX10_step_62 : decode cX10_step 62 = .ok (.iconst 1, 1) := by decide +kernel
theorem dX10_step_63 : decode cX10_step 63 = .ok (.goto 4, 3) := by decide +kernel
theorem dX10_step_66 : decode cX10_step 66 = .ok (.iconst 0, 1) := by decide +kernel
theorem dX10_step_67 : decode cX10_step 67 = .ok (.iadd, 1) := by decide +kernel
theorem dX10_step_68 : decode cX10_step 68 = .ok (.istore_n 3, 1) := by decide +kernel
theorem dX10_step_69 : decode cX10_step 69 = .ok (.iinc 4 1, 3) := by decide +kernel
theorem dX10_step_72 : decode cX10_step 72 = .ok (.goto (-25), 3) := by decide +kernel
theorem dX10_step_75 : decode cX10_step 75 = .ok (.iload_n 3, 1) := by decide +kernel
theorem dX10_step_76 : decode cX10_step 76 = .ok (.ireturn, 1) := by decide +kernel
theorem dX10_start_0 : decode cX10_start 0 = .ok (.iload_n 1, 1) := by decide +kernel
theorem dX10_start_1 : decode cX10_start 1 = .ok (.invokestatic 141, 3) := by decide +kernel
theorem dX10_start_4 : decode cX10_start 4 = .ok (.ifCond .eq 22, 3) := by decide +kernel
theorem dX10_start_7 : decode cX10_start 7 = .ok (.aload_n 0, 1) := by decide +kernel
theorem dX10_start_8 : decode cX10_start 8 = .ok (.iload_n 2, 1) := by decide +kernel
theorem dX10_start_9 : decode cX10_start 9 = .ok (.invokevirtual 93, 3) := by decide +kernel
theorem dX10_start_12 : decode cX10_start 12 = .ok (.ifCond .eq 14, 3) := by decide +kernel
theorem dX10_start_15 : decode cX10_start 15 = .ok (.iload_n 3, 1) := by decide +kernel
theorem dX10_start_16 : decode cX10_start 16 = .ok (.iconst 0, 1) := by decide +kernel
theorem dX10_start_17 : decode cX10_start 17 = .ok (.sipush 999, 3) := by decide +kernel
theorem dX10_start_20 : decode cX10_start 20 = .ok (.invokestatic 59, 3) := by decide +kernel
theorem dX10_start_23 : decode cX10_start 23 = .ok (.ifCond .ne 5, 3) := by decide +kernel
theorem dX10_start_26 : decode cX10_start 26 = .ok (.iconst (-1), 1) := by decide +kernel
theorem dX10_start_27 : decode cX10_start 27 = .ok (.ireturn, 1) := by decide +kernel
theorem dX10_start_28 : decode cX10_start 28 = .ok (.aload_n 0, 1) := by decide +kernel
theorem dX10_start_29 : decode cX10_start 29 = .ok (.getfield 16, 3) := by decide +kernel
theorem dX10_start_32 : decode cX10_start 32 = .ok (.iload_n 2, 1) := by decide +kernel
theorem dX10_start_33 : decode cX10_start 33 = .ok (.baload, 1) := by decide +kernel
theorem dX10_start_34 : decode cX10_start 34 = .ok (.ifCond .ne 6, 3) := by decide +kernel
theorem dX10_start_37 : decode cX10_start 37 = .ok (.bipush (-2), 2) := by decide +kernel
theorem dX10_start_39 : decode cX10_start 39 = .ok (.ireturn, 1) := by decide +kernel
theorem dX10_start_40 : decode cX10_start 40 = .ok (.aload_n 0, 1) := by decide +kernel
theorem dX10_start_41 : decode cX10_start 41 = .ok (.invokevirtual 105, 3) := by decide +kernel
theorem dX10_start_44 : decode cX10_start 44 = .ok (.iload_n 1, 1) := by decide +kernel
theorem dX10_start_45 : decode cX10_start 45 = .ok (.invokestatic 111, 3) := by decide +kernel
theorem dX10_start_48 : decode cX10_start 48 = .ok (.istore 4, 2) := by decide +kernel
theorem dX10_start_50 : decode cX10_start 50 = .ok (.iconst 0, 1) := by decide +kernel
theorem dX10_start_51 : decode cX10_start 51 = .ok (.istore 5, 2) := by decide +kernel
theorem dX10_start_53 : decode cX10_start 53 = .ok (.iconst 0, 1) := by decide +kernel
theorem dX10_start_54 : decode cX10_start 54 = .ok (.istore 6, 2) := by decide +kernel
theorem dX10_start_56 : decode cX10_start 56 = .ok (.iload 6, 2) := by decide +kernel
theorem dX10_start_58 : decode cX10_start 58 = .ok (.aload_n 0, 1) := by decide +kernel
theorem dX10_start_59 : decode cX10_start 59 = .ok (.getfield 20, 3) := by decide +kernel
theorem dX10_start_62 : decode cX10_start 62 = .ok (.iload 4, 2) := by decide +kernel
theorem dX10_start_64 : decode cX10_start 64 = .ok (.iconst 2, 1) := by decide +kernel
theorem dX10_start_65 : decode cX10_start 65 = .ok (.iadd, 1) := by decide +kernel
theorem dX10_start_66 : decode cX10_start 66 = .ok (.iaload, 1) := by decide +kernel
theorem dX10_start_67 : decode cX10_start 67 = .ok (.if_icmp .ge 66, 3) := by decide +kernel
theorem dX10_start_70 : decode cX10_start 70 = .ok (.iload 5, 2) := by decide +kernel
theorem dX10_start_72 : decode cX10_start 72 = .ok (.aload_n 0, 1) := by decide +kernel
theorem dX10_start_73 : decode cX10_start 73 = .ok (.getfield 20, 3) := by decide +kernel
theorem dX10_start_76 : decode cX10_start 76 = .ok (.iload 4, 2) := by decide +kernel
theorem dX10_start_78 : decode cX10_start 78 = .ok (.bipush 9, 2) := by decide +kernel
theorem dX10_start_80 : decode cX10_start 80 = .ok (.iadd, 1) := by decide +kernel
theorem dX10_start_81 : decode cX10_start 81 = .ok (.iload 6, 2) := by decide +kernel
theorem dX10_start_83 : decode cX10_start 83 = .ok (.iadd, 1) := by decide +kernel
theorem dX10_start_84 : decode cX10_start 84 = .ok (.iaload, 1) := by decide +kernel
theorem dX10_start_85 : decode cX10_start 85 = .ok (.ifCond .le 7, 3) := by decide +kernel
theorem dX10_start_88 : decode cX10_start 88 = .ok (.iconst 1, 1) := by decide +kernel
theorem dX10_start_89 : decode cX10_start 89 = .ok (.goto 4, 3) := by decide +kernel
theorem dX10_start_92 : decode cX10_start 92 = .ok (.iconst 0, 1) := by decide +kernel
theorem dX10_start_93 : decode cX10_start 93 = .ok (.iadd, 1) := by decide +kernel
theorem dX10_start_94 : decode cX10_start 94 = .ok (.istore 5, 2) := by decide +kernel
theorem dX10_start_96 : decode cX10_start 96 = .ok (.aload_n 0, 1) := by decide +kernel
theorem dX10_start_97 : decode cX10_start 97 = .ok (.aload_n 0, 1) := by decide +kernel
theorem dX10_start_98 : decode cX10_start 98 = .ok (.getfield 20, 3) := by decide +kernel
theorem dX10_start_101 : decode cX10_start 101 = .ok (.iload 4, 2) := by decide +kernel
theorem dX10_start_103 : decode cX10_start 103 = .ok (.bipush 9, 2) := by decide +kernel
theorem dX10_start_105 : decode cX10_start 105 = .ok (.iadd, 1) := by decide +kernel
theorem dX10_start_106 : decode cX10_start 106 = .ok (.iload 6, 2) := by decide +kernel
theorem dX10_start_108 : decode cX10_start 108 = .ok (.iadd, 1) := by decide +kernel
theorem dX10_start_109 : decode cX10_start 109 = .ok (.iaload, 1) := by decide +kernel
theorem dX10_start_110 : decode cX10_start 110 = .ok (.invokevirtual 138, 3) := by decide +kernel
theorem dX10_start_113 : decode cX10_start 113 = .ok (.aload_n 0, 1) := by decide +kernel
theorem dX10_start_114 : decode cX10_start 114 = .ok (.getfield 20, 3) := by decide +kernel
theorem dX10_start_117 : decode cX10_start 117 = .ok (.iload 4, 2) := by decide +kernel
theorem dX10_start_119 : decode cX10_start 119 = .ok (.bipush 9, 2) := by decide +kernel
theorem dX10_start_121 : decode cX10_start 121 = .ok (.iadd, 1) := by decide +kernel
theorem dX10_start_122 : decode cX10_start 122 = .ok (.iload 6, 2) := by decide +kernel
theorem dX10_start_124 : decode cX10_start 124 = .ok (.iadd, 1) := by decide +kernel
theorem dX10_start_125 : decode cX10_start 125 = .ok (.iconst 0, 1) := by decide +kernel
theorem dX10_start_126 : decode cX10_start 126 = .ok (.iastore, 1) := by decide +kernel
theorem dX10_start_127 : decode cX10_start 127 = .ok (.iinc 6 1, 3) := by decide +kernel
theorem dX10_start_130 : decode cX10_start 130 = .ok (.goto (-74), 3) := by decide +kernel
theorem dX10_start_133 : decode cX10_start 133 = .ok (.aload_n 0, 1) := by decide +kernel
theorem dX10_start_134 : decode cX10_start 134 = .ok (.getfield 20, 3) := by decide +kernel
theorem dX10_start_137 : decode cX10_start 137 = .ok (.iload 4, 2) := by decide +kernel
theorem dX10_start_139 : decode cX10_start 139 = .ok (.iload_n 3, 1) := by decide +kernel
theorem dX10_start_140 : decode cX10_start 140 = .ok (.iastore, 1) := by decide +kernel
theorem dX10_start_141 : decode cX10_start 141 = .ok (.aload_n 0, 1) := by decide +kernel
theorem dX10_start_142 : decode cX10_start 142 = .ok (.getfield 20, 3) := by decide +kernel
theorem dX10_start_145 : decode cX10_start 145 = .ok (.iload 4, 2) := by decide +kernel
theorem dX10_start_147 : decode cX10_start 147 = .ok (.iconst 1, 1) := by decide +kernel
theorem dX10_start_148 : decode cX10_start 148 = .ok (.iadd, 1) := by decide +kernel
theorem dX10_start_149 : decode cX10_start 149 = .ok (.iload_n 2, 1) := by decide +kernel
theorem dX10_start_150 : decode cX10_start 150 = .ok (.iastore, 1) := by decide +kernel
theorem dX10_start_151 : decode cX10_start 151 = .ok (.aload_n 0, 1) := by decide +kernel
theorem dX10_start_152 : decode cX10_start 152 = .ok (.getfield 20, 3) := by decide +kernel
theorem dX10_start_155 : decode cX10_start 155 = .ok (.iload 4, 2) := by decide +kernel
theorem dX10_start_157 : decode cX10_start 157 = .ok (.iconst 2, 1) := by decide +kernel
theorem dX10_start_158 : decode cX10_start 158 = .ok (.iadd, 1) := by decide +kernel
theorem dX10_start_159 : decode cX10_start 159 = .ok (.iconst 0, 1) := by decide +kernel
theorem dX10_start_160 : decode cX10_start 160 = .ok (.iastore, 1) := by decide +kernel
theorem dX10_start_161 : decode cX10_start 161 = .ok (.aload_n 0, 1) := by decide +kernel
theorem dX10_start_162 : decode cX10_start 162 = .ok (.getfield 20, 3) := by decide +kernel
theorem dX10_start_165 : decode cX10_start 165 = .ok (.iload 4, 2) := by decide +kernel
theorem dX10_start_167 : decode cX10_start 167 = .ok (.bipush 15, 2) := by decide +kernel
theorem dX10_start_169 : decode cX10_start 169 = .ok (.iadd, 1) := by decide +kernel
theorem dX10_start_170 : decode cX10_start 170 = .ok (.iconst 0, 1) := by decide +kernel
theorem dX10_start_171 : decode cX10_start 171 = .ok (.iastore, 1) := by decide +kernel
theorem dX10_start_172 : decode cX10_start 172 = .ok (.iload 5, 2) := by decide +kernel
theorem dX10_start_174 : decode cX10_start 174 = .ok (.ireturn, 1) := by decide +kernel
theorem dX10_poke_0 : decode cX10_poke 0 = .ok (.iload_n 1, 1) := by decide +kernel
theorem dX10_poke_1 : decode cX10_poke 1 = .ok (.iconst 0, 1) := by decide +kernel
theorem dX10_poke_2 : decode cX10_poke 2 = .ok (.bipush 7, 2) := by decide +kernel
theorem dX10_poke_4 : decode cX10_poke 4 = .ok (.invokestatic 59, 3) := by decide +kernel
theorem dX10_poke_7 : decode cX10_poke 7 = .ok (.ifCond .eq 14, 3) := by decide +kernel
theorem dX10_poke_10 : decode cX10_poke 10 = .ok (.iload_n 2, 1) := by decide +kernel
theorem dX10_poke_11 : decode cX10_poke 11 = .ok (.iconst 0, 1) := by decide +kernel
theorem dX10_poke_12 : decode cX10_poke 12 = .ok (.sipush 999, 3) := by decide +kernel
theorem dX10_poke_15 : decode cX10_poke 15 = .ok (.invokestatic 59, 3) := by decide +kernel
theorem dX10_poke_18 : decode cX10_poke 18 = .ok (.ifCond .ne 5, 3) := by decide +kernel
theorem dX10_poke_21 : decode cX10_poke 21 = .ok (.iconst (-1), 1) := by decide +kernel
theorem dX10_poke_22 : decode cX10_poke 22 = .ok (.ireturn, 1) := by decide +kernel
theorem dX10_poke_23 : decode cX10_poke 23 = .ok (.aload_n 0, 1) := by decide +kernel
theorem dX10_poke_24 : decode cX10_poke 24 = .ok (.getfield 20, 3) := by decide +kernel
theorem dX10_poke_27 : decode cX10_poke 27 = .ok (.iload_n 1, 1) := by decide +kernel
theorem dX10_poke_28 : decode cX10_poke 28 = .ok (.iaload, 1) := by decide +kernel
theorem dX10_poke_29 : decode cX10_poke 29 = .ok (.istore_n 3, 1) := by decide +kernel
theorem dX10_poke_30 : decode cX10_poke 30 = .ok (.iload_n 3, 1) := by decide +kernel
theorem dX10_poke_31 : decode cX10_poke 31 = .ok (.iload_n 2, 1) := by decide +kernel
theorem dX10_poke_32 : decode cX10_poke 32 = .ok (.if_icmp .ne 6, 3) := by decide +kernel
theorem dX10_poke_35 : decode cX10_poke 35 = .ok (.bipush (-2), 2) := by decide +kernel
theorem dX10_poke_37 : decode cX10_poke 37 = .ok (.ireturn, 1) := by decide +kernel
theorem dX10_poke_38 : decode cX10_poke 38 = .ok (.aload_n 0, 1) := by decide +kernel
theorem dX10_poke_39 : decode cX10_poke 39 = .ok (.invokevirtual 105, 3) := by decide +kernel
theorem dX10_poke_42 : decode cX10_poke 42 = .ok (.aload_n 0, 1) := by decide +kernel
theorem dX10_poke_43 : decode cX10_poke 43 = .ok (.getfield 20, 3) := by decide +kernel
theorem dX10_poke_46 : decode cX10_poke 46 = .ok (.iload_n 1, 1) := by decide +kernel
theorem dX10_poke_47 : decode cX10_poke 47 = .ok (.iload_n 2, 1) := by decide +kernel
theorem dX10_poke_48 : decode cX10_poke 48 = .ok (.iastore, 1) := by decide +kernel
theorem dX10_poke_49 : decode cX10_poke 49 = .ok (.iload_n 3, 1) := by decide +kernel
theorem dX10_poke_50 : decode cX10_poke 50 = .ok (.ireturn, 1) := by decide +kernel
theorem dX10_code_0 : decode cX10_code 0 = .ok (.aload_n 0, 1) := by decide +kernel
theorem dX10_code_1 : decode cX10_code 1 = .ok (.iload_n 1, 1) := by decide +kernel
theorem dX10_code_2 : decode cX10_code 2 = .ok (.invokevirtual 93, 3) := by decide +kernel
theorem dX10_code_5 : decode cX10_code 5 = .ok (.ifCond .eq 12, 3) := by decide +kernel
theorem dX10_code_8 : decode cX10_code 8 = .ok (.iload_n 2, 1) := by decide +kernel
theorem dX10_code_9 : decode cX10_code 9 = .ok (.iconst 0, 1) := by decide +kernel
theorem dX10_code_10 : decode cX10_code 10 = .ok (.iconst 1, 1) := by decide +kernel
theorem dX10_code_11 : decode cX10_code 11 = .ok (.invokestatic 59, 3) := by decide +kernel
theorem dX10_code_14 : decode cX10_code 14 = .ok (.ifCond .ne 5, 3) := by decide +kernel
theorem dX10_code_17 : decode cX10_code 17 = .ok (.iconst (-1), 1) := by decide +kernel
theorem dX10_code_18 : decode cX10_code 18 = .ok (.ireturn, 1) := by decide +kernel
theorem dX10_code_19 : decode cX10_code 19 = .ok (.aload_n 0, 1) := by decide +kernel
theorem dX10_code_20 : decode cX10_code 20 = .ok (.iload_n 1, 1) := by decide +kernel
theorem dX10_code_21 : decode cX10_code 21 = .ok (.invokevirtual 99, 3) := by decide +kernel
theorem dX10_code_24 : decode cX10_code 24 = .ok (.istore_n 3, 1) := by decide +kernel
theorem dX10_code_25 : decode cX10_code 25 = .ok (.iload_n 2, 1) := by decide +kernel
theorem dX10_code_26 : decode cX10_code 26 = .ok (.ifCond .ne 26, 3) := by decide +kernel
theorem dX10_code_29 : decode cX10_code 29 = .ok (.iload_n 3, 1) := by decide +kernel
theorem dX10_code_30 : decode cX10_code 30 = .ok (.bipush (-4), 2) := by decide +kernel
theorem dX10_code_32 : decode cX10_code 32 = .ok (.if_icmp .eq 20, 3) := by decide +kernel
theorem dX10_code_35 : decode cX10_code 35 = .ok (.aload_n 0, 1) := by decide +kernel
theorem dX10_code_36 : decode cX10_code 36 = .ok (.getfield 20, 3) := by decide +kernel
theorem dX10_code_39 : decode cX10_code 39 = .ok (.iload_n 3, 1) := by decide +kernel
theorem dX10_code_40 : decode cX10_code 40 = .ok (.invokestatic 96, 3) := by decide +kernel
theorem dX10_code_43 : decode cX10_code 43 = .ok (.iaload, 1) := by decide +kernel
theorem dX10_code_44 : decode cX10_code 44 = .ok (.ifCond .ne 8, 3) := by decide +kernel
theorem dX10_code_47 : decode cX10_code 47 = .ok (.bipush 33, 2) := by decide +kernel
theorem dX10_code_49 : decode cX10_code 49 = .ok (.goto 9, 3) := by decide +kernel
theorem dX10_code_52 : decode cX10_code 52 = .ok (.aload_n 0, 1) := by decide +kernel
theorem dX10_code_53 : decode cX10_code 53 = .ok (.getfield 13, 3) := by decide +kernel
theorem dX10_code_56 : decode cX10_code 56 = .ok (.iload_n 1, 1) := by decide +kernel
theorem dX10_code_57 : decode cX10_code 57 = .ok (.iaload, 1) := by decide +kernel
theorem dX10_code_58 : decode cX10_code 58 = .ok (.ireturn, 1) := by decide +kernel
theorem dX10_memory_0 : decode cX10_memory 0 = .ok (.iload_n 1, 1) := by decide +kernel
theorem dX10_memory_1 : decode cX10_memory 1 = .ok (.iconst 0, 1) := by decide +kernel
theorem dX10_memory_2 : decode cX10_memory 2 = .ok (.bipush 7, 2) := by decide +kernel
theorem dX10_memory_4 : decode cX10_memory 4 = .ok (.invokestatic 59, 3) := by decide +kernel
theorem dX10_memory_7 : decode cX10_memory 7 = .ok (.ifCond .eq 12, 3) := by decide +kernel
theorem dX10_memory_10 : decode cX10_memory 10 = .ok (.aload_n 0, 1) := by decide +kernel
theorem dX10_memory_11 : decode cX10_memory 11 = .ok (.getfield 20, 3) := by decide +kernel
theorem dX10_memory_14 : decode cX10_memory 14 = .ok (.iload_n 1, 1) := by decide +kernel
theorem dX10_memory_15 : decode cX10_memory 15 = .ok (.iaload, 1) := by decide +kernel
theorem dX10_memory_16 : decode cX10_memory 16 = .ok (.goto 4, 3) := by decide +kernel
theorem dX10_memory_19 : decode cX10_memory 19 = .ok (.iconst (-1), 1) := by decide +kernel
theorem dX10_memory_20 : decode cX10_memory 20 = .ok (.ireturn, 1) := by decide +kernel
theorem dX10_processor_0 : decode cX10_processor 0 = .ok (.iload_n 1, 1) := by decide +kernel
theorem dX10_processor_1 : decode cX10_processor 1 = .ok (.invokestatic 141, 3) := by decide +kernel
theorem dX10_processor_4 : decode cX10_processor 4 = .ok (.ifCond .ne 5, 3) := by decide +kernel
theorem dX10_processor_7 : decode cX10_processor 7 = .ok (.iconst (-1), 1) := by decide +kernel
theorem dX10_processor_8 : decode cX10_processor 8 = .ok (.ireturn, 1) := by decide +kernel
theorem dX10_processor_9 : decode cX10_processor 9 = .ok (.iload_n 1, 1) := by decide +kernel
theorem dX10_processor_10 : decode cX10_processor 10 = .ok (.invokestatic 111, 3) := by decide +kernel
theorem dX10_processor_13 : decode cX10_processor 13 = .ok (.istore_n 3, 1) := by decide +kernel
theorem dX10_processor_14 : decode cX10_processor 14 = .ok (.iload_n 2, 1) := by decide +kernel
theorem dX10_processor_15 : decode cX10_processor 15 = .ok (.tableswitch 106 0 6 #[41, 50, 57, 66, 76, 86, 96], 41) := by decide +kernel
theorem dX10_processor_56 : decode cX10_processor 56 = .ok (.aload_n 0, 1) := by decide +kernel
theorem dX10_processor_57 : decode cX10_processor 57 = .ok (.getfield 20, 3) := by decide +kernel
theorem dX10_processor_60 : decode cX10_processor 60 = .ok (.iload_n 3, 1) := by decide +kernel
theorem dX10_processor_61 : decode cX10_processor 61 = .ok (.iconst 1, 1) := by decide +kernel
theorem dX10_processor_62 : decode cX10_processor 62 = .ok (.iadd, 1) := by decide +kernel
theorem dX10_processor_63 : decode cX10_processor 63 = .ok (.iaload, 1) := by decide +kernel
theorem dX10_processor_64 : decode cX10_processor 64 = .ok (.ireturn, 1) := by decide +kernel
theorem dX10_processor_65 : decode cX10_processor 65 = .ok (.aload_n 0, 1) := by decide +kernel
theorem dX10_processor_66 : decode cX10_processor 66 = .ok (.getfield 20, 3) := by decide +kernel
theorem dX10_processor_69 : decode cX10_processor 69 = .ok (.iload_n 3, 1) := by decide +kernel
theorem dX10_processor_70 : decode cX10_processor 70 = .ok (.iaload, 1) := by decide +kernel
theorem dX10_processor_71 : decode cX10_processor 71 = .ok (.ireturn, 1) := by decide +kernel
theorem dX10_processor_72 : decode cX10_processor 72 = .ok (.aload_n 0, 1) := by decide +kernel
theorem dX10_processor_73 : decode cX10_processor 73 = .ok (.getfield 20, 3) := by decide +kernel
theorem dX10_processor_76 : decode cX10_processor 76 = .ok (.iload_n 3, 1) := by decide +kernel
theorem dX10_processor_77 : decode cX10_processor 77 = .ok (.iconst 2, 1) := by decide +kernel
theorem dX10_processor_78 : decode cX10_processor 78 = .ok (.iadd, 1) := by decide +kernel
theorem dX10_processor_79 : decode cX10_processor 79 = .ok (.iaload, 1) := by decide +kernel
theorem dX10_processor_80 : decode cX10_processor 80 = .ok (.ireturn, 1) := by decide +kernel
theorem dX10_processor_81 : decode cX10_processor 81 = .ok (.aload_n 0, 1) := by decide +kernel
theorem dX10_processor_82 : decode cX10_processor 82 = .ok (.getfield 20, 3) := by decide +kernel
theorem dX10_processor_85 : decode cX10_processor 85 = .ok (.iload_n 3, 1) := by decide +kernel
theorem dX10_processor_86 : decode cX10_processor 86 = .ok (.bipush 15, 2) := by decide +kernel
theorem dX10_processor_88 : decode cX10_processor 88 = .ok (.iadd, 1) := by decide +kernel
theorem dX10_processor_89 : decode cX10_processor 89 = .ok (.iaload, 1) := by decide +kernel
theorem dX10_processor_90 : decode cX10_processor 90 = .ok (.ireturn, 1) := by decide +kernel
theorem dX10_processor_91 : decode cX10_processor 91 = .ok (.aload_n 0, 1) := by decide +kernel
theorem dX10_processor_92 : decode cX10_processor 92 = .ok (.getfield 20, 3) := by decide +kernel
theorem dX10_processor_95 : decode cX10_processor 95 = .ok (.iload_n 3, 1) := by decide +kernel
theorem dX10_processor_96 : decode cX10_processor 96 = .ok (.bipush 16, 2) := by decide +kernel
theorem dX10_processor_98 : decode cX10_processor 98 = .ok (.iadd, 1) := by decide +kernel
theorem dX10_processor_99 : decode cX10_processor 99 = .ok (.iaload, 1) := by decide +kernel
theorem dX10_processor_100 : decode cX10_processor 100 = .ok (.ireturn, 1) := by decide +kernel
theorem dX10_processor_101 : decode cX10_processor 101 = .ok (.aload_n 0, 1) := by decide +kernel
theorem dX10_processor_102 : decode cX10_processor 102 = .ok (.getfield 20, 3) := by decide +kernel
theorem dX10_processor_105 : decode cX10_processor 105 = .ok (.iload_n 3, 1) := by decide +kernel
theorem dX10_processor_106 : decode cX10_processor 106 = .ok (.bipush 17, 2) := by decide +kernel
theorem dX10_processor_108 : decode cX10_processor 108 = .ok (.iadd, 1) := by decide +kernel
theorem dX10_processor_109 : decode cX10_processor 109 = .ok (.iaload, 1) := by decide +kernel
theorem dX10_processor_110 : decode cX10_processor 110 = .ok (.ireturn, 1) := by decide +kernel
theorem dX10_processor_111 : decode cX10_processor 111 = .ok (.aload_n 0, 1) := by decide +kernel
theorem dX10_processor_112 : decode cX10_processor 112 = .ok (.getfield 20, 3) := by decide +kernel
theorem dX10_processor_115 : decode cX10_processor 115 = .ok (.iload_n 3, 1) := by decide +kernel
theorem dX10_processor_116 : decode cX10_processor 116 = .ok (.bipush 30, 2) := by decide +kernel
theorem dX10_processor_118 : decode cX10_processor 118 = .ok (.iadd, 1) := by decide +kernel
theorem dX10_processor_119 : decode cX10_processor 119 = .ok (.iaload, 1) := by decide +kernel
theorem dX10_processor_120 : decode cX10_processor 120 = .ok (.ireturn, 1) := by decide +kernel
theorem dX10_processor_121 : decode cX10_processor 121 = .ok (.iconst (-1), 1) := by decide +kernel
theorem dX10_processor_122 : decode cX10_processor 122 = .ok (.ireturn, 1) := by decide +kernel
theorem dX10_returns_0 : decode cX10_returns 0 = .ok (.iload_n 1, 1) := by decide +kernel
theorem dX10_returns_1 : decode cX10_returns 1 = .ok (.invokestatic 141, 3) := by decide +kernel
theorem dX10_returns_4 : decode cX10_returns 4 = .ok (.ifCond .eq 16, 3) := by decide +kernel
theorem dX10_returns_7 : decode cX10_returns 7 = .ok (.iload_n 2, 1) := by decide +kernel
theorem dX10_returns_8 : decode cX10_returns 8 = .ok (.ifCond .lt 12, 3) := by decide +kernel
theorem dX10_returns_11 : decode cX10_returns 11 = .ok (.iload_n 3, 1) := by decide +kernel
theorem dX10_returns_12 : decode cX10_returns 12 = .ok (.iconst 0, 1) := by decide +kernel
theorem dX10_returns_13 : decode cX10_returns 13 = .ok (.iconst 1, 1) := by decide +kernel
theorem dX10_returns_14 : decode cX10_returns 14 = .ok (.invokestatic 59, 3) := by decide +kernel
theorem dX10_returns_17 : decode cX10_returns 17 = .ok (.ifCond .ne 5, 3) := by decide +kernel
theorem dX10_returns_20 : decode cX10_returns 20 = .ok (.iconst (-1), 1) := by decide +kernel
theorem dX10_returns_21 : decode cX10_returns 21 = .ok (.ireturn, 1) := by decide +kernel
theorem dX10_returns_22 : decode cX10_returns 22 = .ok (.iload_n 1, 1) := by decide +kernel
theorem dX10_returns_23 : decode cX10_returns 23 = .ok (.invokestatic 111, 3) := by decide +kernel
theorem dX10_returns_26 : decode cX10_returns 26 = .ok (.istore 4, 2) := by decide +kernel
theorem dX10_returns_28 : decode cX10_returns 28 = .ok (.iload_n 2, 1) := by decide +kernel
theorem dX10_returns_29 : decode cX10_returns 29 = .ok (.aload_n 0, 1) := by decide +kernel
theorem dX10_returns_30 : decode cX10_returns 30 = .ok (.getfield 20, 3) := by decide +kernel
theorem dX10_returns_33 : decode cX10_returns 33 = .ok (.iload 4, 2) := by decide +kernel
theorem dX10_returns_35 : decode cX10_returns 35 = .ok (.iconst 2, 1) := by decide +kernel
theorem dX10_returns_36 : decode cX10_returns 36 = .ok (.iadd, 1) := by decide +kernel
theorem dX10_returns_37 : decode cX10_returns 37 = .ok (.iaload, 1) := by decide +kernel
theorem dX10_returns_38 : decode cX10_returns 38 = .ok (.if_icmp .lt 6, 3) := by decide +kernel
theorem dX10_returns_41 : decode cX10_returns 41 = .ok (.bipush (-4), 2) := by decide +kernel
theorem dX10_returns_43 : decode cX10_returns 43 = .ok (.ireturn, 1) := by decide +kernel
theorem dX10_returns_44 : decode cX10_returns 44 = .ok (.iload_n 3, 1) := by decide +kernel
theorem dX10_returns_45 : decode cX10_returns 45 = .ok (.ifCond .ne 23, 3) := by decide +kernel
theorem dX10_returns_48 : decode cX10_returns 48 = .ok (.aload_n 0, 1) := by decide +kernel
theorem dX10_returns_49 : decode cX10_returns 49 = .ok (.getfield 20, 3) := by decide +kernel
theorem dX10_returns_52 : decode cX10_returns 52 = .ok (.iload 4, 2) := by decide +kernel
theorem dX10_returns_54 : decode cX10_returns 54 = .ok (.bipush 9, 2) := by decide +kernel
theorem dX10_returns_56 : decode cX10_returns 56 = .ok (.iadd, 1) := by decide +kernel
theorem dX10_returns_57 : decode cX10_returns 57 = .ok (.iload_n 2, 1) := by decide +kernel
theorem dX10_returns_58 : decode cX10_returns 58 = .ok (.iadd, 1) := by decide +kernel
theorem dX10_returns_59 : decode cX10_returns 59 = .ok (.iaload, 1) := by decide +kernel
theorem dX10_returns_60 : decode cX10_returns 60 = .ok (.ifCond .le 8, 3) := by decide +kernel
theorem dX10_returns_63 : decode cX10_returns 63 = .ok (.bipush 99, 2) := by decide +kernel
theorem dX10_returns_65 : decode cX10_returns 65 = .ok (.goto 14, 3) := by decide +kernel
theorem dX10_returns_68 : decode cX10_returns 68 = .ok (.aload_n 0, 1) := by decide +kernel
theorem dX10_returns_69 : decode cX10_returns 69 = .ok (.getfield 20, 3) := by decide +kernel
theorem dX10_returns_72 : decode cX10_returns 72 = .ok (.iload 4, 2) := by decide +kernel
theorem dX10_returns_74 : decode cX10_returns 74 = .ok (.iconst 3, 1) := by decide +kernel
theorem dX10_returns_75 : decode cX10_returns 75 = .ok (.iadd, 1) := by decide +kernel
theorem dX10_returns_76 : decode cX10_returns 76 = .ok (.iload_n 2, 1) := by decide +kernel
theorem dX10_returns_77 : decode cX10_returns 77 = .ok (.iadd, 1) := by decide +kernel
theorem dX10_returns_78 : decode cX10_returns 78 = .ok (.iaload, 1) := by decide +kernel
theorem dX10_returns_79 : decode cX10_returns 79 = .ok (.ireturn, 1) := by decide +kernel
theorem dX10_ring_0 : decode cX10_ring 0 = .ok (.iload_n 1, 1) := by decide +kernel
theorem dX10_ring_1 : decode cX10_ring 1 = .ok (.invokestatic 141, 3) := by decide +kernel
theorem dX10_ring_4 : decode cX10_ring 4 = .ok (.ifCond .eq 16, 3) := by decide +kernel
theorem dX10_ring_7 : decode cX10_ring 7 = .ok (.iload_n 2, 1) := by decide +kernel
theorem dX10_ring_8 : decode cX10_ring 8 = .ok (.ifCond .lt 12, 3) := by decide +kernel
theorem dX10_ring_11 : decode cX10_ring 11 = .ok (.iload_n 3, 1) := by decide +kernel
theorem dX10_ring_12 : decode cX10_ring 12 = .ok (.iconst 0, 1) := by decide +kernel
theorem dX10_ring_13 : decode cX10_ring 13 = .ok (.iconst 2, 1) := by decide +kernel
theorem dX10_ring_14 : decode cX10_ring 14 = .ok (.invokestatic 59, 3) := by decide +kernel
theorem dX10_ring_17 : decode cX10_ring 17 = .ok (.ifCond .ne 5, 3) := by decide +kernel
theorem dX10_ring_20 : decode cX10_ring 20 = .ok (.iconst (-1), 1) := by decide +kernel
theorem dX10_ring_21 : decode cX10_ring 21 = .ok (.ireturn, 1) := by decide +kernel
theorem dX10_ring_22 : decode cX10_ring 22 = .ok (.iload_n 1, 1) := by decide +kernel
theorem dX10_ring_23 : decode cX10_ring 23 = .ok (.invokestatic 111, 3) := by decide +kernel
theorem dX10_ring_26 : decode cX10_ring 26 = .ok (.istore 4, 2) := by decide +kernel
theorem dX10_ring_28 : decode cX10_ring 28 = .ok (.iload_n 2, 1) := by decide +kernel
theorem dX10_ring_29 : decode cX10_ring 29 = .ok (.aload_n 0, 1) := by decide +kernel
theorem dX10_ring_30 : decode cX10_ring 30 = .ok (.getfield 20, 3) := by decide +kernel
theorem dX10_ring_33 : decode cX10_ring 33 = .ok (.iload 4, 2) := by decide +kernel
theorem dX10_ring_35 : decode cX10_ring 35 = .ok (.bipush 17, 2) := by decide +kernel
theorem dX10_ring_37 : decode cX10_ring 37 = .ok (.iadd, 1) := by decide +kernel
theorem dX10_ring_38 : decode cX10_ring 38 = .ok (.iaload, 1) := by decide +kernel
theorem dX10_ring_39 : decode cX10_ring 39 = .ok (.if_icmp .ge 24, 3) := by decide +kernel
theorem dX10_ring_42 : decode cX10_ring 42 = .ok (.aload_n 0, 1) := by decide +kernel
theorem dX10_ring_43 : decode cX10_ring 43 = .ok (.getfield 20, 3) := by decide +kernel
theorem dX10_ring_46 : decode cX10_ring 46 = .ok (.iload 4, 2) := by decide +kernel
theorem dX10_ring_48 : decode cX10_ring 48 = .ok (.bipush 17, 2) := by decide +kernel
theorem dX10_ring_50 : decode cX10_ring 50 = .ok (.iadd, 1) := by decide +kernel
theorem dX10_ring_51 : decode cX10_ring 51 = .ok (.iconst 1, 1) := by decide +kernel
theorem dX10_ring_52 : decode cX10_ring 52 = .ok (.iadd, 1) := by decide +kernel
theorem dX10_ring_53 : decode cX10_ring 53 = .ok (.iconst 3, 1) := by decide +kernel
theorem dX10_ring_54 : decode cX10_ring 54 = .ok (.iload_n 2, 1) := by decide +kernel
theorem dX10_ring_55 : decode cX10_ring 55 = .ok (.imul, 1) := by decide +kernel
theorem dX10_ring_56 : decode cX10_ring 56 = .ok (.iadd, 1) := by decide +kernel
theorem dX10_ring_57 : decode cX10_ring 57 = .ok (.iload_n 3, 1) := by decide +kernel
theorem dX10_ring_58 : decode cX10_ring 58 = .ok (.iadd, 1) := by decide +kernel
theorem dX10_ring_59 : decode cX10_ring 59 = .ok (.iaload, 1) := by decide +kernel
theorem dX10_ring_60 : decode cX10_ring 60 = .ok (.goto 5, 3) := by decide +kernel
theorem dX10_ring_63 : decode cX10_ring 63 = .ok (.bipush (-4), 2) := by decide +kernel
theorem dX10_ring_65 : decode cX10_ring 65 = .ok (.ireturn, 1) := by decide +kernel
theorem dX10_look_0 : decode cX10_look 0 = .ok (.iload_n 1, 1) := by decide +kernel
theorem dX10_look_1 : decode cX10_look 1 = .ok (.iconst 0, 1) := by decide +kernel
theorem dX10_look_2 : decode cX10_look 2 = .ok (.iconst 5, 1) := by decide +kernel
theorem dX10_look_3 : decode cX10_look 3 = .ok (.invokestatic 59, 3) := by decide +kernel
theorem dX10_look_6 : decode cX10_look 6 = .ok (.ifCond .eq 13, 3) := by decide +kernel
theorem dX10_look_9 : decode cX10_look 9 = .ok (.iload_n 2, 1) := by decide +kernel
theorem dX10_look_10 : decode cX10_look 10 = .ok (.iconst 0, 1) := by decide +kernel
theorem dX10_look_11 : decode cX10_look 11 = .ok (.bipush 7, 2) := by decide +kernel
theorem dX10_look_13 : decode cX10_look 13 = .ok (.invokestatic 59, 3) := by decide +kernel
theorem dX10_look_16 : decode cX10_look 16 = .ok (.ifCond .ne 5, 3) := by decide +kernel
theorem dX10_look_19 : decode cX10_look 19 = .ok (.iconst (-1), 1) := by decide +kernel
theorem dX10_look_20 : decode cX10_look 20 = .ok (.ireturn, 1) := by decide +kernel
theorem dX10_look_21 : decode cX10_look 21 = .ok (.iload_n 1, 1) := by decide +kernel
theorem dX10_look_22 : decode cX10_look 22 = .ok (.invokestatic 96, 3) := by decide +kernel
theorem dX10_look_25 : decode cX10_look 25 = .ok (.istore_n 3, 1) := by decide +kernel
theorem dX10_look_26 : decode cX10_look 26 = .ok (.iload_n 2, 1) := by decide +kernel
theorem dX10_look_27 : decode cX10_look 27 = .ok (.ifCond .le 18, 3) := by decide +kernel
theorem dX10_look_30 : decode cX10_look 30 = .ok (.aload_n 0, 1) := by decide +kernel
theorem dX10_look_31 : decode cX10_look 31 = .ok (.getfield 20, 3) := by decide +kernel
theorem dX10_look_34 : decode cX10_look 34 = .ok (.iload_n 3, 1) := by decide +kernel
theorem dX10_look_35 : decode cX10_look 35 = .ok (.iaload, 1) := by decide +kernel
theorem dX10_look_36 : decode cX10_look 36 = .ok (.iconst 3, 1) := by decide +kernel
theorem dX10_look_37 : decode cX10_look 37 = .ok (.if_icmp .ne 8, 3) := by decide +kernel
theorem dX10_look_40 : decode cX10_look 40 = .ok (.bipush (-2), 2) := by decide +kernel
theorem dX10_look_42 : decode cX10_look 42 = .ok (.goto 11, 3) := by decide +kernel
theorem dX10_look_45 : decode cX10_look 45 = .ok (.aload_n 0, 1) := by decide +kernel
theorem dX10_look_46 : decode cX10_look 46 = .ok (.getfield 20, 3) := by decide +kernel
theorem dX10_look_49 : decode cX10_look 49 = .ok (.iload_n 3, 1) := by decide +kernel
theorem dX10_look_50 : decode cX10_look 50 = .ok (.iload_n 2, 1) := by decide +kernel
theorem dX10_look_51 : decode cX10_look 51 = .ok (.iadd, 1) := by decide +kernel
theorem dX10_look_52 : decode cX10_look 52 = .ok (.iaload, 1) := by decide +kernel
theorem dX10_look_53 : decode cX10_look 53 = .ok (.ireturn, 1) := by decide +kernel
theorem dX10_ever_0 : decode cX10_ever 0 = .ok (.iload_n 1, 1) := by decide +kernel
theorem dX10_ever_1 : decode cX10_ever 1 = .ok (.invokestatic 141, 3) := by decide +kernel
theorem dX10_ever_4 : decode cX10_ever 4 = .ok (.ifCond .eq 22, 3) := by decide +kernel
theorem dX10_ever_7 : decode cX10_ever 7 = .ok (.iload_n 2, 1) := by decide +kernel
theorem dX10_ever_8 : decode cX10_ever 8 = .ok (.iconst 0, 1) := by decide +kernel
theorem dX10_ever_9 : decode cX10_ever 9 = .ok (.bipush 60, 2) := by decide +kernel
theorem dX10_ever_11 : decode cX10_ever 11 = .ok (.invokestatic 59, 3) := by decide +kernel
theorem dX10_ever_14 : decode cX10_ever 14 = .ok (.ifCond .eq 12, 3) := by decide +kernel
theorem dX10_ever_17 : decode cX10_ever 17 = .ok (.iload_n 3, 1) := by decide +kernel
theorem dX10_ever_18 : decode cX10_ever 18 = .ok (.iconst 0, 1) := by decide +kernel
theorem dX10_ever_19 : decode cX10_ever 19 = .ok (.iconst 4, 1) := by decide +kernel
theorem dX10_ever_20 : decode cX10_ever 20 = .ok (.invokestatic 59, 3) := by decide +kernel
theorem dX10_ever_23 : decode cX10_ever 23 = .ok (.ifCond .ne 5, 3) := by decide +kernel
theorem dX10_ever_26 : decode cX10_ever 26 = .ok (.iconst (-1), 1) := by decide +kernel
theorem dX10_ever_27 : decode cX10_ever 27 = .ok (.ireturn, 1) := by decide +kernel
theorem dX10_ever_28 : decode cX10_ever 28 = .ok (.iconst 0, 1) := by decide +kernel
theorem dX10_ever_29 : decode cX10_ever 29 = .ok (.istore 4, 2) := by decide +kernel
theorem dX10_ever_31 : decode cX10_ever 31 = .ok (.iload 4, 2) := by decide +kernel
theorem dX10_ever_33 : decode cX10_ever 33 = .ok (.sipush 1318, 3) := by decide +kernel
theorem dX10_ever_36 : decode cX10_ever 36 = .ok (.if_icmp .ge 23, 3) := by decide +kernel
theorem dX10_ever_39 : decode cX10_ever 39 = .ok (.aload_n 0, 1) := by decide +kernel
theorem dX10_ever_40 : decode cX10_ever 40 = .ok (.getfield 23, 3) := by decide +kernel
theorem dX10_ever_43 : decode cX10_ever 43 = .ok (.iload 4, 2) := by decide +kernel
theorem dX10_ever_45 : decode cX10_ever 45 = .ok (.aload_n 0, 1) := by decide +kernel
theorem dX10_ever_46 : decode cX10_ever 46 = .ok (.getfield 20, 3) := by decide +kernel
theorem dX10_ever_49 : decode cX10_ever 49 = .ok (.iload 4, 2) := by decide +kernel
theorem dX10_ever_51 : decode cX10_ever 51 = .ok (.iaload, 1) := by decide +kernel
theorem dX10_ever_52 : decode cX10_ever 52 = .ok (.iastore, 1) := by decide +kernel
theorem dX10_ever_53 : decode cX10_ever 53 = .ok (.iinc 4 1, 3) := by decide +kernel
theorem dX10_ever_56 : decode cX10_ever 56 = .ok (.goto (-25), 3) := by decide +kernel
theorem dX10_ever_59 : decode cX10_ever 59 = .ok (.iconst 0, 1) := by decide +kernel
theorem dX10_ever_60 : decode cX10_ever 60 = .ok (.istore 4, 2) := by decide +kernel
theorem dX10_ever_62 : decode cX10_ever 62 = .ok (.iload 4, 2) := by decide +kernel
theorem dX10_ever_64 : decode cX10_ever 64 = .ok (.iload_n 2, 1) := by decide +kernel
theorem dX10_ever_65 : decode cX10_ever 65 = .ok (.if_icmp .ge 19, 3) := by decide +kernel
theorem dX10_ever_68 : decode cX10_ever 68 = .ok (.aload_n 0, 1) := by decide +kernel
theorem dX10_ever_69 : decode cX10_ever 69 = .ok (.aload_n 0, 1) := by decide +kernel
theorem dX10_ever_70 : decode cX10_ever 70 = .ok (.getfield 23, 3) := by decide +kernel
theorem dX10_ever_73 : decode cX10_ever 73 = .ok (.iload_n 1, 1) := by decide +kernel
theorem dX10_ever_74 : decode cX10_ever 74 = .ok (.invokevirtual 134, 3) := by decide +kernel
theorem dX10_ever_77 : decode cX10_ever 77 = .ok (.pop, 1) := by decide +kernel
theorem dX10_ever_78 : decode cX10_ever 78 = .ok (.iinc 4 1, 3) := by decide +kernel
theorem dX10_ever_81 : decode cX10_ever 81 = .ok (.goto (-19), 3) := by decide +kernel
theorem dX10_ever_84 : decode cX10_ever 84 = .ok (.iload_n 1, 1) := by decide +kernel
theorem dX10_ever_85 : decode cX10_ever 85 = .ok (.invokestatic 111, 3) := by decide +kernel
theorem dX10_ever_88 : decode cX10_ever 88 = .ok (.istore 4, 2) := by decide +kernel
theorem dX10_ever_90 : decode cX10_ever 90 = .ok (.iload_n 3, 1) := by decide +kernel
theorem dX10_ever_91 : decode cX10_ever 91 = .ok (.iconst 4, 1) := by decide +kernel
theorem dX10_ever_92 : decode cX10_ever 92 = .ok (.if_icmp .ge 62, 3) := by decide +kernel
theorem dX10_ever_95 : decode cX10_ever 95 = .ok (.iload_n 3, 1) := by decide +kernel
theorem dX10_ever_96 : decode cX10_ever 96 = .ok (.ifCond .ne 15, 3) := by decide +kernel
theorem dX10_ever_99 : decode cX10_ever 99 = .ok (.aload_n 0, 1) := by decide +kernel
theorem dX10_ever_100 : decode cX10_ever 100 = .ok (.getfield 23, 3) := by decide +kernel
theorem dX10_ever_103 : decode cX10_ever 103 = .ok (.iload 4, 2) := by decide +kernel
theorem dX10_ever_105 : decode cX10_ever 105 = .ok (.iconst 1, 1) := by decide +kernel
theorem dX10_ever_106 : decode cX10_ever 106 = .ok (.iadd, 1) := by decide +kernel
theorem dX10_ever_107 : decode cX10_ever 107 = .ok (.iaload, 1) := by decide +kernel
theorem dX10_ever_108 : decode cX10_ever 108 = .ok (.goto 45, 3) := by decide +kernel
theorem dX10_ever_111 : decode cX10_ever 111 = .ok (.iload_n 3, 1) := by decide +kernel
theorem dX10_ever_112 : decode cX10_ever 112 = .ok (.iconst 1, 1) := by decide +kernel
theorem dX10_ever_113 : decode cX10_ever 113 = .ok (.if_icmp .ne 13, 3) := by decide +kernel
theorem dX10_ever_116 : decode cX10_ever 116 = .ok (.aload_n 0, 1) := by decide +kernel
theorem dX10_ever_117 : decode cX10_ever 117 = .ok (.getfield 23, 3) := by decide +kernel
theorem dX10_ever_120 : decode cX10_ever 120 = .ok (.iload 4, 2) := by decide +kernel
theorem dX10_ever_122 : decode cX10_ever 122 = .ok (.iaload, 1) := by decide +kernel
theorem dX10_ever_123 : decode cX10_ever 123 = .ok (.goto 30, 3) := by decide +kernel
theorem dX10_ever_126 : decode cX10_ever 126 = .ok (.iload_n 3, 1) := by decide +kernel
theorem dX10_ever_127 : decode cX10_ever 127 = .ok (.iconst 2, 1) := by decide +kernel
theorem dX10_ever_128 : decode cX10_ever 128 = .ok (.if_icmp .ne 15, 3) := by decide +kernel
theorem dX10_ever_131 : decode cX10_ever 131 = .ok (.aload_n 0, 1) := by decide +kernel
theorem dX10_ever_132 : decode cX10_ever 132 = .ok (.getfield 23, 3) := by decide +kernel
theorem dX10_ever_135 : decode cX10_ever 135 = .ok (.iload 4, 2) := by decide +kernel
theorem dX10_ever_137 : decode cX10_ever 137 = .ok (.iconst 2, 1) := by decide +kernel
theorem dX10_ever_138 : decode cX10_ever 138 = .ok (.iadd, 1) := by decide +kernel
theorem dX10_ever_139 : decode cX10_ever 139 = .ok (.iaload, 1) := by decide +kernel
theorem dX10_ever_140 : decode cX10_ever 140 = .ok (.goto 13, 3) := by decide +kernel
theorem dX10_ever_143 : decode cX10_ever 143 = .ok (.aload_n 0, 1) := by decide +kernel
theorem dX10_ever_144 : decode cX10_ever 144 = .ok (.getfield 23, 3) := by decide +kernel
theorem dX10_ever_147 : decode cX10_ever 147 = .ok (.iload 4, 2) := by decide +kernel
theorem dX10_ever_149 : decode cX10_ever 149 = .ok (.bipush 15, 2) := by decide +kernel
theorem dX10_ever_151 : decode cX10_ever 151 = .ok (.iadd, 1) := by decide +kernel
theorem dX10_ever_152 : decode cX10_ever 152 = .ok (.iaload, 1) := by decide +kernel
theorem dX10_ever_153 : decode cX10_ever 153 = .ok (.ireturn, 1) := by decide +kernel
theorem dX10_ever_154 : decode cX10_ever 154 = .ok (.iconst 0, 1) := by decide +kernel
theorem dX10_ever_155 : decode cX10_ever 155 = .ok (.istore 5, 2) := by decide +kernel
theorem dX10_ever_157 : decode cX10_ever 157 = .ok (.iconst 0, 1) := by decide +kernel
theorem dX10_ever_158 : decode cX10_ever 158 = .ok (.istore 6, 2) := by decide +kernel
theorem dX10_ever_160 : decode cX10_ever 160 = .ok (.iload 6, 2) := by decide +kernel
theorem dX10_ever_162 : decode cX10_ever 162 = .ok (.bipush 8, 2) := by decide +kernel
theorem dX10_ever_164 : decode cX10_ever 164 = .ok (.if_icmp .ge 21, 3) := by decide +kernel
theorem dX10_ever_167 : decode cX10_ever 167 = .ok (.iload 5, 2) := by decide +kernel
theorem dX10_ever_169 : decode cX10_ever 169 = .ok (.aload_n 0, 1) := by decide +kernel
theorem dX10_ever_170 : decode cX10_ever 170 = .ok (.getfield 23, 3) := by decide +kernel
theorem dX10_ever_173 : decode cX10_ever 173 = .ok (.iload 6, 2) := by decide +kernel
theorem dX10_ever_175 : decode cX10_ever 175 = .ok (.iaload, 1) := by decide +kernel
theorem dX10_ever_176 : decode cX10_ever 176 = .ok (.iadd, 1) := by decide +kernel
theorem dX10_ever_177 : decode cX10_ever 177 = .ok (.istore 5, 2) := by decide +kernel
theorem dX10_ever_179 : decode cX10_ever 179 = .ok (.iinc 6 1, 3) := by decide +kernel
theorem dX10_ever_182 : decode cX10_ever 182 = .ok (.goto (-22), 3) := by decide +kernel
theorem dX10_ever_185 : decode cX10_ever 185 = .ok (.iload 5, 2) := by decide +kernel
theorem dX10_ever_187 : decode cX10_ever 187 = .ok (.ireturn, 1) := by decide +kernel
theorem dX10_heldInAll_0 : decode cX10_heldInAll 0 = .ok (.iconst 0, 1) := by decide +kernel
theorem dX10_heldInAll_1 : decode cX10_heldInAll 1 = .ok (.istore_n 1, 1) := by decide +kernel
theorem dX10_heldInAll_2 : decode cX10_heldInAll 2 = .ok (.iconst 0, 1) := by decide +kernel
theorem dX10_heldInAll_3 : decode cX10_heldInAll 3 = .ok (.istore_n 2, 1) := by decide +kernel
theorem dX10_heldInAll_4 : decode cX10_heldInAll 4 = .ok (.iload_n 2, 1) := by decide +kernel
theorem dX10_heldInAll_5 : decode cX10_heldInAll 5 = .ok (.bipush 6, 2) := by decide +kernel
theorem dX10_heldInAll_7 : decode cX10_heldInAll 7 = .ok (.if_icmp .ge 41, 3) := by decide +kernel
theorem dX10_heldInAll_10 : decode cX10_heldInAll 10 = .ok (.iload_n 1, 1) := by decide +kernel
theorem dX10_heldInAll_11 : decode cX10_heldInAll 11 = .ok (.aload_n 0, 1) := by decide +kernel
theorem dX10_heldInAll_12 : decode cX10_heldInAll 12 = .ok (.getfield 20, 3) := by decide +kernel
theorem dX10_heldInAll_15 : decode cX10_heldInAll 15 = .ok (.iload_n 2, 1) := by decide +kernel
theorem dX10_heldInAll_16 : decode cX10_heldInAll 16 = .ok (.invokestatic 96, 3) := by decide +kernel
theorem dX10_heldInAll_19 : decode cX10_heldInAll 19 = .ok (.iaload, 1) := by decide +kernel
theorem dX10_heldInAll_20 : decode cX10_heldInAll 20 = .ok (.iconst 3, 1) := by decide +kernel
theorem dX10_heldInAll_21 : decode cX10_heldInAll 21 = .ok (.if_icmp .ge 18, 3) := by decide +kernel
theorem dX10_heldInAll_24 : decode cX10_heldInAll 24 = .ok (.aload_n 0, 1) := by decide +kernel
theorem dX10_heldInAll_25 : decode cX10_heldInAll 25 = .ok (.getfield 20, 3) := by decide +kernel
theorem dX10_heldInAll_28 : decode cX10_heldInAll 28 = .ok (.iload_n 2, 1) := by decide +kernel
theorem dX10_heldInAll_29 : decode cX10_heldInAll 29 = .ok (.invokestatic 96, 3) := by decide +kernel
theorem dX10_heldInAll_32 : decode cX10_heldInAll 32 = .ok (.bipush 6, 2) := by decide +kernel
theorem dX10_heldInAll_34 : decode cX10_heldInAll 34 = .ok (.iadd, 1) := by decide +kernel
theorem dX10_heldInAll_35 : decode cX10_heldInAll 35 = .ok (.iaload, 1) := by decide +kernel
theorem dX10_heldInAll_36 : decode cX10_heldInAll 36 = .ok (.goto 4, 3) := by decide +kernel
theorem dX10_heldInAll_39 : decode cX10_heldInAll 39 = .ok (.iconst 0, 1) := by decide +kernel
theorem dX10_heldInAll_40 : decode cX10_heldInAll 40 = .ok (.iadd, 1) := by decide +kernel
theorem dX10_heldInAll_41 : decode cX10_heldInAll 41 = .ok (.istore_n 1, 1) := by decide +kernel
theorem dX10_heldInAll_42 : decode cX10_heldInAll 42 = .ok (.iinc 2 1, 3) := by decide +kernel
theorem dX10_heldInAll_45 : decode cX10_heldInAll 45 = .ok (.goto (-41), 3) := by decide +kernel
theorem dX10_heldInAll_48 : decode cX10_heldInAll 48 = .ok (.iload_n 1, 1) := by decide +kernel
theorem dX10_heldInAll_49 : decode cX10_heldInAll 49 = .ok (.ireturn, 1) := by decide +kernel
theorem dX10_count_0 : decode cX10_count 0 = .ok (.iload_n 1, 1) := by decide +kernel
theorem dX10_count_1 : decode cX10_count 1 = .ok (.tableswitch 112 0 6 #[43, 48, 85, 91, 97, 102, 107], 43) := by decide +kernel
theorem dX10_count_44 : decode cX10_count 44 = .ok (.aload_n 0, 1) := by decide +kernel
theorem dX10_count_45 : decode cX10_count 45 = .ok (.getfield 49, 3) := by decide +kernel
theorem dX10_count_48 : decode cX10_count 48 = .ok (.ireturn, 1) := by decide +kernel
theorem dX10_count_49 : decode cX10_count 49 = .ok (.iconst 0, 1) := by decide +kernel
theorem dX10_count_50 : decode cX10_count 50 = .ok (.istore_n 2, 1) := by decide +kernel
theorem dX10_count_51 : decode cX10_count 51 = .ok (.iconst 0, 1) := by decide +kernel
theorem dX10_count_52 : decode cX10_count 52 = .ok (.istore_n 3, 1) := by decide +kernel
theorem dX10_count_53 : decode cX10_count 53 = .ok (.iload_n 3, 1) := by decide +kernel
theorem dX10_count_54 : decode cX10_count 54 = .ok (.aload_n 0, 1) := by decide +kernel
theorem dX10_count_55 : decode cX10_count 55 = .ok (.getfield 49, 3) := by decide +kernel
theorem dX10_count_58 : decode cX10_count 58 = .ok (.if_icmp .ge 26, 3) := by decide +kernel
theorem dX10_count_61 : decode cX10_count 61 = .ok (.iload_n 2, 1) := by decide +kernel
theorem dX10_count_62 : decode cX10_count 62 = .ok (.aload_n 0, 1) := by decide +kernel
theorem dX10_count_63 : decode cX10_count 63 = .ok (.getfield 16, 3) := by decide +kernel
theorem dX10_count_66 : decode cX10_count 66 = .ok (.iload_n 3, 1) := by decide +kernel
theorem dX10_count_67 : decode cX10_count 67 = .ok (.baload, 1) := by decide +kernel
theorem dX10_count_68 : decode cX10_count 68 = .ok (.ifCond .eq 7, 3) := by decide +kernel
theorem dX10_count_71 : decode cX10_count 71 = .ok (.iconst 1, 1) := by decide +kernel
theorem dX10_count_72 : decode cX10_count 72 = .ok (.goto 4, 3) := by decide +kernel
theorem dX10_count_75 : decode cX10_count 75 = .ok (.iconst 0, 1) := by decide +kernel
theorem dX10_count_76 : decode cX10_count 76 = .ok (.iadd, 1) := by decide +kernel
theorem dX10_count_77 : decode cX10_count 77 = .ok (.istore_n 2, 1) := by decide +kernel
theorem dX10_count_78 : decode cX10_count 78 = .ok (.iinc 3 1, 3) := by decide +kernel
theorem dX10_count_81 : decode cX10_count 81 = .ok (.goto (-28), 3) := by decide +kernel
theorem dX10_count_84 : decode cX10_count 84 = .ok (.iload_n 2, 1) := by decide +kernel
theorem dX10_count_85 : decode cX10_count 85 = .ok (.ireturn, 1) := by decide +kernel
theorem dX10_count_86 : decode cX10_count 86 = .ok (.aload_n 0, 1) := by decide +kernel
theorem dX10_count_87 : decode cX10_count 87 = .ok (.iconst 0, 1) := by decide +kernel
theorem dX10_count_88 : decode cX10_count 88 = .ok (.invokevirtual 102, 3) := by decide +kernel
theorem dX10_count_91 : decode cX10_count 91 = .ok (.ireturn, 1) := by decide +kernel
theorem dX10_count_92 : decode cX10_count 92 = .ok (.aload_n 0, 1) := by decide +kernel
theorem dX10_count_93 : decode cX10_count 93 = .ok (.iconst 2, 1) := by decide +kernel
theorem dX10_count_94 : decode cX10_count 94 = .ok (.invokevirtual 102, 3) := by decide +kernel
theorem dX10_count_97 : decode cX10_count 97 = .ok (.ireturn, 1) := by decide +kernel
theorem dX10_count_98 : decode cX10_count 98 = .ok (.aload_n 0, 1) := by decide +kernel
theorem dX10_count_99 : decode cX10_count 99 = .ok (.invokevirtual 147, 3) := by decide +kernel
theorem dX10_count_102 : decode cX10_count 102 = .ok (.ireturn, 1) := by decide +kernel
theorem dX10_count_103 : decode cX10_count 103 = .ok (.aload_n 0, 1) := by decide +kernel
theorem dX10_count_104 : decode cX10_count 104 = .ok (.getfield 53, 3) := by decide +kernel
theorem dX10_count_107 : decode cX10_count 107 = .ok (.ireturn, 1) := by decide +kernel
theorem dX10_count_108 : decode cX10_count 108 = .ok (.aload_n 0, 1) := by decide +kernel
theorem dX10_count_109 : decode cX10_count 109 = .ok (.getfield 56, 3) := by decide +kernel
theorem dX10_count_112 : decode cX10_count 112 = .ok (.ireturn, 1) := by decide +kernel
theorem dX10_count_113 : decode cX10_count 113 = .ok (.iconst (-1), 1) := by decide +kernel
theorem dX10_count_114 : decode cX10_count 114 = .ok (.ireturn, 1) := by decide +kernel
theorem dJ9_floorMod_7cf53_0 : decode cJ9_floorMod_7cf53 0 = .ok (.iload_n 0, 1) := by decide +kernel
theorem dJ9_floorMod_7cf53_1 : decode cJ9_floorMod_7cf53 1 = .ok (.iload_n 1, 1) := by decide +kernel
theorem dJ9_floorMod_7cf53_2 : decode cJ9_floorMod_7cf53 2 = .ok (.irem, 1) := by decide +kernel
theorem dJ9_floorMod_7cf53_3 : decode cJ9_floorMod_7cf53 3 = .ok (.istore_n 2, 1) := by decide +kernel
theorem dJ9_floorMod_7cf53_4 : decode cJ9_floorMod_7cf53 4 = .ok (.iload_n 0, 1) := by decide +kernel
theorem dJ9_floorMod_7cf53_5 : decode cJ9_floorMod_7cf53 5 = .ok (.iload_n 1, 1) := by decide +kernel
theorem dJ9_floorMod_7cf53_6 : decode cJ9_floorMod_7cf53 6 = .ok (.ixor, 1) := by decide +kernel
theorem dJ9_floorMod_7cf53_7 : decode cJ9_floorMod_7cf53 7 = .ok (.ifCond .ge 11, 3) := by decide +kernel
theorem dJ9_floorMod_7cf53_10 : decode cJ9_floorMod_7cf53 10 = .ok (.iload_n 2, 1) := by decide +kernel
theorem dJ9_floorMod_7cf53_11 : decode cJ9_floorMod_7cf53 11 = .ok (.ifCond .eq 7, 3) := by decide +kernel
theorem dJ9_floorMod_7cf53_14 : decode cJ9_floorMod_7cf53 14 = .ok (.iload_n 2, 1) := by decide +kernel
theorem dJ9_floorMod_7cf53_15 : decode cJ9_floorMod_7cf53 15 = .ok (.iload_n 1, 1) := by decide +kernel
theorem dJ9_floorMod_7cf53_16 : decode cJ9_floorMod_7cf53 16 = .ok (.iadd, 1) := by decide +kernel
theorem dJ9_floorMod_7cf53_17 : decode cJ9_floorMod_7cf53 17 = .ok (.ireturn, 1) := by decide +kernel
theorem dJ9_floorMod_7cf53_18 : decode cJ9_floorMod_7cf53 18 = .ok (.iload_n 2, 1) := by decide +kernel
theorem dJ9_floorMod_7cf53_19 : decode cJ9_floorMod_7cf53 19 = .ok (.ireturn, 1) := by decide +kernel
theorem dJ9_max_7cf53_0 : decode cJ9_max_7cf53 0 = .ok (.iload_n 0, 1) := by decide +kernel
theorem dJ9_max_7cf53_1 : decode cJ9_max_7cf53 1 = .ok (.iload_n 1, 1) := by decide +kernel
theorem dJ9_max_7cf53_2 : decode cJ9_max_7cf53 2 = .ok (.if_icmp .lt 7, 3) := by decide +kernel
theorem dJ9_max_7cf53_5 : decode cJ9_max_7cf53 5 = .ok (.iload_n 0, 1) := by decide +kernel
theorem dJ9_max_7cf53_6 : decode cJ9_max_7cf53 6 = .ok (.goto 4, 3) := by decide +kernel
theorem dJ9_max_7cf53_9 : decode cJ9_max_7cf53 9 = .ok (.iload_n 1, 1) := by decide +kernel
theorem dJ9_max_7cf53_10 : decode cJ9_max_7cf53 10 = .ok (.ireturn, 1) := by decide +kernel
theorem dJ9_min_7cf53_0 : decode cJ9_min_7cf53 0 = .ok (.iload_n 0, 1) := by decide +kernel
theorem dJ9_min_7cf53_1 : decode cJ9_min_7cf53 1 = .ok (.iload_n 1, 1) := by decide +kernel
theorem dJ9_min_7cf53_2 : decode cJ9_min_7cf53 2 = .ok (.if_icmp .gt 7, 3) := by decide +kernel
theorem dJ9_min_7cf53_5 : decode cJ9_min_7cf53 5 = .ok (.iload_n 0, 1) := by decide +kernel
theorem dJ9_min_7cf53_6 : decode cJ9_min_7cf53 6 = .ok (.goto 4, 3) := by decide +kernel
theorem dJ9_min_7cf53_9 : decode cJ9_min_7cf53 9 = .ok (.iload_n 1, 1) := by decide +kernel
theorem dJ9_min_7cf53_10 : decode cJ9_min_7cf53 10 = .ok (.ireturn, 1) := by decide +kernel
theorem dJ0_length_8abf5_0 : decode cJ0_length_8abf5 0 = .ok (.aload_n 0, 1) := by decide +kernel
theorem dJ0_length_8abf5_1 : decode cJ0_length_8abf5 1 = .ok (.getfield 9, 3) := by decide +kernel
theorem dJ0_length_8abf5_4 : decode cJ0_length_8abf5 4 = .ok (.arraylength, 1) := by decide +kernel
theorem dJ0_length_8abf5_5 : decode cJ0_length_8abf5 5 = .ok (.aload_n 0, 1) := by decide +kernel
theorem dJ0_length_8abf5_6 : decode cJ0_length_8abf5 6 = .ok (.invokevirtual 335, 3) := by decide +kernel
theorem dJ0_length_8abf5_9 : decode cJ0_length_8abf5 9 = .ok (.ishr, 1) := by decide +kernel
theorem dJ0_length_8abf5_10 : decode cJ0_length_8abf5 10 = .ok (.ireturn, 1) := by decide +kernel
theorem dJ0_charAt_5068e_0 : decode cJ0_charAt_5068e 0 = .ok (.aload_n 0, 1) := by decide +kernel
theorem dJ0_charAt_5068e_1 : decode cJ0_charAt_5068e 1 = .ok (.invokevirtual 492, 3) := by decide +kernel
theorem dJ0_charAt_5068e_4 : decode cJ0_charAt_5068e 4 = .ok (.ifCond .eq 12, 3) := by decide +kernel
theorem dJ0_charAt_5068e_7 : decode cJ0_charAt_5068e 7 = .ok (.aload_n 0, 1) := by decide +kernel
theorem dJ0_charAt_5068e_8 : decode cJ0_charAt_5068e 8 = .ok (.getfield 9, 3) := by decide +kernel
theorem dJ0_charAt_5068e_11 : decode cJ0_charAt_5068e 11 = .ok (.iload_n 1, 1) := by decide +kernel
theorem dJ0_charAt_5068e_12 : decode cJ0_charAt_5068e 12 = .ok (.invokestatic 495, 3) := by decide +kernel
theorem dJ0_charAt_5068e_15 : decode cJ0_charAt_5068e 15 = .ok (.ireturn, 1) := by decide +kernel
theorem dJ0_charAt_5068e_16 : decode cJ0_charAt_5068e 16 = .ok (.aload_n 0, 1) := by decide +kernel
theorem dJ0_charAt_5068e_17 : decode cJ0_charAt_5068e 17 = .ok (.getfield 9, 3) := by decide +kernel
theorem dJ0_charAt_5068e_20 : decode cJ0_charAt_5068e 20 = .ok (.iload_n 1, 1) := by decide +kernel
theorem dJ0_charAt_5068e_21 : decode cJ0_charAt_5068e 21 = .ok (.invokestatic 498, 3) := by decide +kernel
theorem dJ0_charAt_5068e_24 : decode cJ0_charAt_5068e 24 = .ok (.ireturn, 1) := by decide +kernel
theorem dJ0_coder_7d493_0 : decode cJ0_coder_7d493 0 = .ok (.getstatic 38, 3) := by decide +kernel
theorem dJ0_coder_7d493_3 : decode cJ0_coder_7d493 3 = .ok (.ifCond .eq 10, 3) := by decide +kernel
theorem dJ0_coder_7d493_6 : decode cJ0_coder_7d493 6 = .ok (.aload_n 0, 1) := by decide +kernel
theorem dJ0_coder_7d493_7 : decode cJ0_coder_7d493 7 = .ok (.getfield 15, 3) := by decide +kernel
theorem dJ0_coder_7d493_10 : decode cJ0_coder_7d493 10 = .ok (.goto 4, 3) := by decide +kernel
theorem dJ0_coder_7d493_13 : decode cJ0_coder_7d493 13 = .ok (.iconst 1, 1) := by decide +kernel
theorem dJ0_coder_7d493_14 : decode cJ0_coder_7d493 14 = .ok (.ireturn, 1) := by decide +kernel
theorem dJ0_isLatin1_aae02_0 : decode cJ0_isLatin1_aae02 0 = .ok (.getstatic 38, 3) := by decide +kernel
theorem dJ0_isLatin1_aae02_3 : decode cJ0_isLatin1_aae02 3 = .ok (.ifCond .eq 14, 3) := by decide +kernel
theorem dJ0_isLatin1_aae02_6 : decode cJ0_isLatin1_aae02 6 = .ok (.aload_n 0, 1) := by decide +kernel
theorem dJ0_isLatin1_aae02_7 : decode cJ0_isLatin1_aae02 7 = .ok (.getfield 15, 3) := by decide +kernel
theorem dJ0_isLatin1_aae02_10 : decode cJ0_isLatin1_aae02 10 = .ok (.ifCond .ne 7, 3) := by decide +kernel
theorem dJ0_isLatin1_aae02_13 : decode cJ0_isLatin1_aae02 13 = .ok (.iconst 1, 1) := by decide +kernel
theorem dJ0_isLatin1_aae02_14 : decode cJ0_isLatin1_aae02 14 = .ok (.goto 4, 3) := by decide +kernel
theorem dJ0_isLatin1_aae02_17 : decode cJ0_isLatin1_aae02 17 = .ok (.iconst 0, 1) := by decide +kernel
theorem dJ0_isLatin1_aae02_18 : decode cJ0_isLatin1_aae02 18 = .ok (.ireturn, 1) := by decide +kernel
theorem dJ0_checkIndex_df160_0 : decode cJ0_checkIndex_df160 0 = .ok (.iload_n 0, 1) := by decide +kernel
theorem dJ0_checkIndex_df160_1 : decode cJ0_checkIndex_df160 1 = .ok (.iload_n 1, 1) := by decide +kernel
theorem dJ0_checkIndex_df160_2 : decode cJ0_checkIndex_df160 2 = .ok (.getstatic 1053, 3) := by decide +kernel
theorem dJ0_checkIndex_df160_5 : decode cJ0_checkIndex_df160 5 = .ok (.invokestatic 1059, 3) := by decide +kernel
theorem dJ0_checkIndex_df160_8 : decode cJ0_checkIndex_df160 8 = .ok (.pop, 1) := by decide +kernel
theorem dJ0_checkIndex_df160_9 : decode cJ0_checkIndex_df160 9 = .ok (.return_, 1) := by decide +kernel
theorem dJ1_charAt_3b067_0 : decode cJ1_charAt_3b067 0 = .ok (.iload_n 1, 1) := by decide +kernel
theorem dJ1_charAt_3b067_1 : decode cJ1_charAt_3b067 1 = .ok (.aload_n 0, 1) := by decide +kernel
theorem dJ1_charAt_3b067_2 : decode cJ1_charAt_3b067 2 = .ok (.arraylength, 1) := by decide +kernel
theorem dJ1_charAt_3b067_3 : decode cJ1_charAt_3b067 3 = .ok (.invokestatic 9, 3) := by decide +kernel
theorem dJ1_charAt_3b067_6 : decode cJ1_charAt_3b067 6 = .ok (.aload_n 0, 1) := by decide +kernel
theorem dJ1_charAt_3b067_7 : decode cJ1_charAt_3b067 7 = .ok (.iload_n 1, 1) := by decide +kernel
theorem dJ1_charAt_3b067_8 : decode cJ1_charAt_3b067 8 = .ok (.baload, 1) := by decide +kernel
theorem dJ1_charAt_3b067_9 : decode cJ1_charAt_3b067 9 = .ok (.sipush 255, 3) := by decide +kernel
theorem dJ1_charAt_3b067_12 : decode cJ1_charAt_3b067 12 = .ok (.iand, 1) := by decide +kernel
theorem dJ1_charAt_3b067_13 : decode cJ1_charAt_3b067 13 = .ok (.i2c, 1) := by decide +kernel
theorem dJ1_charAt_3b067_14 : decode cJ1_charAt_3b067 14 = .ok (.ireturn, 1) := by decide +kernel
theorem dJ3_checkIndex_8e157_0 : decode cJ3_checkIndex_8e157 0 = .ok (.iload_n 0, 1) := by decide +kernel
theorem dJ3_checkIndex_8e157_1 : decode cJ3_checkIndex_8e157 1 = .ok (.ifCond .lt 8, 3) := by decide +kernel
theorem dJ3_checkIndex_8e157_4 : decode cJ3_checkIndex_8e157 4 = .ok (.iload_n 0, 1) := by decide +kernel
theorem dJ3_checkIndex_8e157_5 : decode cJ3_checkIndex_8e157 5 = .ok (.iload_n 1, 1) := by decide +kernel
theorem dJ3_checkIndex_8e157_6 : decode cJ3_checkIndex_8e157 6 = .ok (.if_icmp .lt 10, 3) := by decide +kernel
theorem dJ3_checkIndex_8e157_9 : decode cJ3_checkIndex_8e157 9 = .ok (.aload_n 2, 1) := by decide +kernel
theorem dJ3_checkIndex_8e157_10 : decode cJ3_checkIndex_8e157 10 = .ok (.iload_n 0, 1) := by decide +kernel
theorem dJ3_checkIndex_8e157_11 : decode cJ3_checkIndex_8e157 11 = .ok (.iload_n 1, 1) := by decide +kernel
theorem dJ3_checkIndex_8e157_12 : decode cJ3_checkIndex_8e157 12 = .ok (.invokestatic 95, 3) := by decide +kernel
theorem dJ3_checkIndex_8e157_15 : decode cJ3_checkIndex_8e157 15 = .ok (.athrow, 1) := by decide +kernel
theorem dJ3_checkIndex_8e157_16 : decode cJ3_checkIndex_8e157 16 = .ok (.iload_n 0, 1) := by decide +kernel
theorem dJ3_checkIndex_8e157_17 : decode cJ3_checkIndex_8e157 17 = .ok (.ireturn, 1) := by decide +kernel
theorem dL_law_0 : decode cL_law 0 = .ok (.new 7, 3) := by decide +kernel
theorem dL_law_3 : decode cL_law 3 = .ok (.dup, 1) := by decide +kernel
theorem dL_law_4 : decode cL_law 4 = .ok (.invokespecial 9, 3) := by decide +kernel
theorem dL_law_7 : decode cL_law 7 = .ok (.astore_n 1, 1) := by decide +kernel
theorem dL_law_8 : decode cL_law 8 = .ok (.new 10, 3) := by decide +kernel
theorem dL_law_11 : decode cL_law 11 = .ok (.dup, 1) := by decide +kernel
theorem dL_law_12 : decode cL_law 12 = .ok (.invokespecial 12, 3) := by decide +kernel
theorem dL_law_15 : decode cL_law 15 = .ok (.astore_n 2, 1) := by decide +kernel
theorem dL_law_16 : decode cL_law 16 = .ok (.iconst 0, 1) := by decide +kernel
theorem dL_law_17 : decode cL_law 17 = .ok (.istore_n 3, 1) := by decide +kernel
theorem dL_law_18 : decode cL_law 18 = .ok (.iload_n 3, 1) := by decide +kernel
theorem dL_law_19 : decode cL_law 19 = .ok (.aload_n 0, 1) := by decide +kernel
theorem dL_law_20 : decode cL_law 20 = .ok (.arraylength, 1) := by decide +kernel
theorem dL_law_21 : decode cL_law 21 = .ok (.iconst 4, 1) := by decide +kernel
theorem dL_law_22 : decode cL_law 22 = .ok (.isub, 1) := by decide +kernel
theorem dL_law_23 : decode cL_law 23 = .ok (.if_icmp .gt 708, 3) := by decide +kernel
theorem dL_law_26 : decode cL_law 26 = .ok (.aload_n 0, 1) := by decide +kernel
theorem dL_law_27 : decode cL_law 27 = .ok (.iload_n 3, 1) := by decide +kernel
theorem dL_law_28 : decode cL_law 28 = .ok (.iaload, 1) := by decide +kernel
theorem dL_law_29 : decode cL_law 29 = .ok (.bipush 31, 2) := by decide +kernel
theorem dL_law_31 : decode cL_law 31 = .ok (.iand, 1) := by decide +kernel
theorem dL_law_32 : decode cL_law 32 = .ok (.tableswitch 693 0 20 #[100, 123, 136, 149, 162, 195, 228, 251, 274, 317, 350, 383, 396, 429, 452, 485, 528, 571, 604, 627, 670], 100) := by decide +kernel
theorem dL_law_132 : decode cL_law 132 = .ok (.aload_n 1, 1) := by decide +kernel
theorem dL_law_133 : decode cL_law 133 = .ok (.aload_n 0, 1) := by decide +kernel
theorem dL_law_134 : decode cL_law 134 = .ok (.iload_n 3, 1) := by decide +kernel
theorem dL_law_135 : decode cL_law 135 = .ok (.iconst 1, 1) := by decide +kernel
theorem dL_law_136 : decode cL_law 136 = .ok (.iadd, 1) := by decide +kernel
theorem dL_law_137 : decode cL_law 137 = .ok (.iaload, 1) := by decide +kernel
theorem dL_law_138 : decode cL_law 138 = .ok (.invokevirtual 13, 3) := by decide +kernel
theorem dL_law_141 : decode cL_law 141 = .ok (.aload_n 2, 1) := by decide +kernel
theorem dL_law_142 : decode cL_law 142 = .ok (.aload_n 0, 1) := by decide +kernel
theorem dL_law_143 : decode cL_law 143 = .ok (.iload_n 3, 1) := by decide +kernel
theorem dL_law_144 : decode cL_law 144 = .ok (.iconst 1, 1) := by decide +kernel
theorem dL_law_145 : decode cL_law 145 = .ok (.iadd, 1) := by decide +kernel
theorem dL_law_146 : decode cL_law 146 = .ok (.iaload, 1) := by decide +kernel
theorem dL_law_147 : decode cL_law 147 = .ok (.invokevirtual 17, 3) := by decide +kernel
theorem dL_law_150 : decode cL_law 150 = .ok (.if_icmp .eq 575, 3) := by decide +kernel
theorem dL_law_153 : decode cL_law 153 = .ok (.iconst 0, 1) := by decide +kernel
theorem dL_law_154 : decode cL_law 154 = .ok (.ireturn, 1) := by decide +kernel
theorem dL_law_155 : decode cL_law 155 = .ok (.aload_n 1, 1) := by decide +kernel
theorem dL_law_156 : decode cL_law 156 = .ok (.invokevirtual 18, 3) := by decide +kernel
theorem dL_law_159 : decode cL_law 159 = .ok (.aload_n 2, 1) := by decide +kernel
theorem dL_law_160 : decode cL_law 160 = .ok (.invokevirtual 22, 3) := by decide +kernel
theorem dL_law_163 : decode cL_law 163 = .ok (.if_icmp .eq 562, 3) := by decide +kernel
theorem dL_law_166 : decode cL_law 166 = .ok (.iconst 0, 1) := by decide +kernel
theorem dL_law_167 : decode cL_law 167 = .ok (.ireturn, 1) := by decide +kernel
theorem dL_law_168 : decode cL_law 168 = .ok (.aload_n 1, 1) := by decide +kernel
theorem dL_law_169 : decode cL_law 169 = .ok (.invokevirtual 23, 3) := by decide +kernel
theorem dL_law_172 : decode cL_law 172 = .ok (.aload_n 2, 1) := by decide +kernel
theorem dL_law_173 : decode cL_law 173 = .ok (.invokevirtual 26, 3) := by decide +kernel
theorem dL_law_176 : decode cL_law 176 = .ok (.if_icmp .eq 549, 3) := by decide +kernel
theorem dL_law_179 : decode cL_law 179 = .ok (.iconst 0, 1) := by decide +kernel
theorem dL_law_180 : decode cL_law 180 = .ok (.ireturn, 1) := by decide +kernel
theorem dL_law_181 : decode cL_law 181 = .ok (.aload_n 1, 1) := by decide +kernel
theorem dL_law_182 : decode cL_law 182 = .ok (.invokevirtual 27, 3) := by decide +kernel
theorem dL_law_185 : decode cL_law 185 = .ok (.aload_n 2, 1) := by decide +kernel
theorem dL_law_186 : decode cL_law 186 = .ok (.invokevirtual 30, 3) := by decide +kernel
theorem dL_law_189 : decode cL_law 189 = .ok (.if_icmp .eq 536, 3) := by decide +kernel
theorem dL_law_192 : decode cL_law 192 = .ok (.iconst 0, 1) := by decide +kernel
theorem dL_law_193 : decode cL_law 193 = .ok (.ireturn, 1) := by decide +kernel
theorem dL_law_194 : decode cL_law 194 = .ok (.aload_n 1, 1) := by decide +kernel
theorem dL_law_195 : decode cL_law 195 = .ok (.aload_n 0, 1) := by decide +kernel
theorem dL_law_196 : decode cL_law 196 = .ok (.iload_n 3, 1) := by decide +kernel
theorem dL_law_197 : decode cL_law 197 = .ok (.iconst 1, 1) := by decide +kernel
theorem dL_law_198 : decode cL_law 198 = .ok (.iadd, 1) := by decide +kernel
theorem dL_law_199 : decode cL_law 199 = .ok (.iaload, 1) := by decide +kernel
theorem dL_law_200 : decode cL_law 200 = .ok (.aload_n 0, 1) := by decide +kernel
theorem dL_law_201 : decode cL_law 201 = .ok (.iload_n 3, 1) := by decide +kernel
theorem dL_law_202 : decode cL_law 202 = .ok (.iconst 2, 1) := by decide +kernel
theorem dL_law_203 : decode cL_law 203 = .ok (.iadd, 1) := by decide +kernel
theorem dL_law_204 : decode cL_law 204 = .ok (.iaload, 1) := by decide +kernel
theorem dL_law_205 : decode cL_law 205 = .ok (.invokevirtual 31, 3) := by decide +kernel
theorem dL_law_208 : decode cL_law 208 = .ok (.aload_n 2, 1) := by decide +kernel
theorem dL_law_209 : decode cL_law 209 = .ok (.aload_n 0, 1) := by decide +kernel
theorem dL_law_210 : decode cL_law 210 = .ok (.iload_n 3, 1) := by decide +kernel
theorem dL_law_211 : decode cL_law 211 = .ok (.iconst 1, 1) := by decide +kernel
theorem dL_law_212 : decode cL_law 212 = .ok (.iadd, 1) := by decide +kernel
theorem dL_law_213 : decode cL_law 213 = .ok (.iaload, 1) := by decide +kernel
theorem dL_law_214 : decode cL_law 214 = .ok (.aload_n 0, 1) := by decide +kernel
theorem dL_law_215 : decode cL_law 215 = .ok (.iload_n 3, 1) := by decide +kernel
theorem dL_law_216 : decode cL_law 216 = .ok (.iconst 2, 1) := by decide +kernel
theorem dL_law_217 : decode cL_law 217 = .ok (.iadd, 1) := by decide +kernel
theorem dL_law_218 : decode cL_law 218 = .ok (.iaload, 1) := by decide +kernel
theorem dL_law_219 : decode cL_law 219 = .ok (.invokevirtual 35, 3) := by decide +kernel
theorem dL_law_222 : decode cL_law 222 = .ok (.if_icmp .eq 503, 3) := by decide +kernel
theorem dL_law_225 : decode cL_law 225 = .ok (.iconst 0, 1) := by decide +kernel
theorem dL_law_226 : decode cL_law 226 = .ok (.ireturn, 1) := by decide +kernel
theorem dL_law_227 : decode cL_law 227 = .ok (.aload_n 1, 1) := by decide +kernel
theorem dL_law_228 : decode cL_law 228 = .ok (.aload_n 0, 1) := by decide +kernel
theorem dL_law_229 : decode cL_law 229 = .ok (.iload_n 3, 1) := by decide +kernel
theorem dL_law_230 : decode cL_law 230 = .ok (.iconst 1, 1) := by decide +kernel
theorem dL_law_231 : decode cL_law 231 = .ok (.iadd, 1) := by decide +kernel
theorem dL_law_232 : decode cL_law 232 = .ok (.iaload, 1) := by decide +kernel
theorem dL_law_233 : decode cL_law 233 = .ok (.aload_n 0, 1) := by decide +kernel
theorem dL_law_234 : decode cL_law 234 = .ok (.iload_n 3, 1) := by decide +kernel
theorem dL_law_235 : decode cL_law 235 = .ok (.iconst 2, 1) := by decide +kernel
theorem dL_law_236 : decode cL_law 236 = .ok (.iadd, 1) := by decide +kernel
theorem dL_law_237 : decode cL_law 237 = .ok (.iaload, 1) := by decide +kernel
theorem dL_law_238 : decode cL_law 238 = .ok (.invokevirtual 36, 3) := by decide +kernel
theorem dL_law_241 : decode cL_law 241 = .ok (.aload_n 2, 1) := by decide +kernel
theorem dL_law_242 : decode cL_law 242 = .ok (.aload_n 0, 1) := by decide +kernel
theorem dL_law_243 : decode cL_law 243 = .ok (.iload_n 3, 1) := by decide +kernel
theorem dL_law_244 : decode cL_law 244 = .ok (.iconst 1, 1) := by decide +kernel
theorem dL_law_245 : decode cL_law 245 = .ok (.iadd, 1) := by decide +kernel
theorem dL_law_246 : decode cL_law 246 = .ok (.iaload, 1) := by decide +kernel
theorem dL_law_247 : decode cL_law 247 = .ok (.aload_n 0, 1) := by decide +kernel
theorem dL_law_248 : decode cL_law 248 = .ok (.iload_n 3, 1) := by decide +kernel
theorem dL_law_249 : decode cL_law 249 = .ok (.iconst 2, 1) := by decide +kernel
theorem dL_law_250 : decode cL_law 250 = .ok (.iadd, 1) := by decide +kernel
theorem dL_law_251 : decode cL_law 251 = .ok (.iaload, 1) := by decide +kernel
theorem dL_law_252 : decode cL_law 252 = .ok (.invokevirtual 39, 3) := by decide +kernel
theorem dL_law_255 : decode cL_law 255 = .ok (.if_icmp .eq 470, 3) := by decide +kernel
theorem dL_law_258 : decode cL_law 258 = .ok (.iconst 0, 1) := by decide +kernel
theorem dL_law_259 : decode cL_law 259 = .ok (.ireturn, 1) := by decide +kernel
theorem dL_law_260 : decode cL_law 260 = .ok (.aload_n 1, 1) := by decide +kernel
theorem dL_law_261 : decode cL_law 261 = .ok (.aload_n 0, 1) := by decide +kernel
theorem dL_law_262 : decode cL_law 262 = .ok (.iload_n 3, 1) := by decide +kernel
theorem dL_law_263 : decode cL_law 263 = .ok (.iconst 1, 1) := by decide +kernel
theorem dL_law_264 : decode cL_law 264 = .ok (.iadd, 1) := by decide +kernel
theorem dL_law_265 : decode cL_law 265 = .ok (.iaload, 1) := by decide +kernel
theorem dL_law_266 : decode cL_law 266 = .ok (.invokevirtual 40, 3) := by decide +kernel
theorem dL_law_269 : decode cL_law 269 = .ok (.aload_n 2, 1) := by decide +kernel
theorem dL_law_270 : decode cL_law 270 = .ok (.aload_n 0, 1) := by decide +kernel
theorem dL_law_271 : decode cL_law 271 = .ok (.iload_n 3, 1) := by decide +kernel
theorem dL_law_272 : decode cL_law 272 = .ok (.iconst 1, 1) := by decide +kernel
theorem dL_law_273 : decode cL_law 273 = .ok (.iadd, 1) := by decide +kernel
theorem dL_law_274 : decode cL_law 274 = .ok (.iaload, 1) := by decide +kernel
theorem dL_law_275 : decode cL_law 275 = .ok (.invokevirtual 43, 3) := by decide +kernel
theorem dL_law_278 : decode cL_law 278 = .ok (.if_icmp .eq 447, 3) := by decide +kernel
theorem dL_law_281 : decode cL_law 281 = .ok (.iconst 0, 1) := by decide +kernel
theorem dL_law_282 : decode cL_law 282 = .ok (.ireturn, 1) := by decide +kernel
theorem dL_law_283 : decode cL_law 283 = .ok (.aload_n 1, 1) := by decide +kernel
theorem dL_law_284 : decode cL_law 284 = .ok (.aload_n 0, 1) := by decide +kernel
theorem dL_law_285 : decode cL_law 285 = .ok (.iload_n 3, 1) := by decide +kernel
theorem dL_law_286 : decode cL_law 286 = .ok (.iconst 1, 1) := by decide +kernel
theorem dL_law_287 : decode cL_law 287 = .ok (.iadd, 1) := by decide +kernel
theorem dL_law_288 : decode cL_law 288 = .ok (.iaload, 1) := by decide +kernel
theorem dL_law_289 : decode cL_law 289 = .ok (.invokevirtual 44, 3) := by decide +kernel
theorem dL_law_292 : decode cL_law 292 = .ok (.aload_n 2, 1) := by decide +kernel
theorem dL_law_293 : decode cL_law 293 = .ok (.aload_n 0, 1) := by decide +kernel
theorem dL_law_294 : decode cL_law 294 = .ok (.iload_n 3, 1) := by decide +kernel
theorem dL_law_295 : decode cL_law 295 = .ok (.iconst 1, 1) := by decide +kernel
theorem dL_law_296 : decode cL_law 296 = .ok (.iadd, 1) := by decide +kernel
theorem dL_law_297 : decode cL_law 297 = .ok (.iaload, 1) := by decide +kernel
theorem dL_law_298 : decode cL_law 298 = .ok (.invokevirtual 47, 3) := by decide +kernel
theorem dL_law_301 : decode cL_law 301 = .ok (.if_icmp .eq 424, 3) := by decide +kernel
theorem dL_law_304 : decode cL_law 304 = .ok (.iconst 0, 1) := by decide +kernel
theorem dL_law_305 : decode cL_law 305 = .ok (.ireturn, 1) := by decide +kernel
theorem dL_law_306 : decode cL_law 306 = .ok (.aload_n 1, 1) := by decide +kernel
theorem dL_law_307 : decode cL_law 307 = .ok (.aload_n 0, 1) := by decide +kernel
theorem dL_law_308 : decode cL_law 308 = .ok (.iload_n 3, 1) := by decide +kernel
theorem dL_law_309 : decode cL_law 309 = .ok (.iconst 1, 1) := by decide +kernel
theorem dL_law_310 : decode cL_law 310 = .ok (.iadd, 1) := by decide +kernel
theorem dL_law_311 : decode cL_law 311 = .ok (.iaload, 1) := by decide +kernel
theorem dL_law_312 : decode cL_law 312 = .ok (.aload_n 0, 1) := by decide +kernel
theorem dL_law_313 : decode cL_law 313 = .ok (.iload_n 3, 1) := by decide +kernel
theorem dL_law_314 : decode cL_law 314 = .ok (.iconst 2, 1) := by decide +kernel
theorem dL_law_315 : decode cL_law 315 = .ok (.iadd, 1) := by decide +kernel
theorem dL_law_316 : decode cL_law 316 = .ok (.iaload, 1) := by decide +kernel
theorem dL_law_317 : decode cL_law 317 = .ok (.aload_n 0, 1) := by decide +kernel
theorem dL_law_318 : decode cL_law 318 = .ok (.iload_n 3, 1) := by decide +kernel
theorem dL_law_319 : decode cL_law 319 = .ok (.iconst 3, 1) := by decide +kernel
theorem dL_law_320 : decode cL_law 320 = .ok (.iadd, 1) := by decide +kernel
theorem dL_law_321 : decode cL_law 321 = .ok (.iaload, 1) := by decide +kernel
theorem dL_law_322 : decode cL_law 322 = .ok (.invokevirtual 48, 3) := by decide +kernel
theorem dL_law_325 : decode cL_law 325 = .ok (.aload_n 2, 1) := by decide +kernel
theorem dL_law_326 : decode cL_law 326 = .ok (.aload_n 0, 1) := by decide +kernel
theorem dL_law_327 : decode cL_law 327 = .ok (.iload_n 3, 1) := by decide +kernel
theorem dL_law_328 : decode cL_law 328 = .ok (.iconst 1, 1) := by decide +kernel
theorem dL_law_329 : decode cL_law 329 = .ok (.iadd, 1) := by decide +kernel
theorem dL_law_330 : decode cL_law 330 = .ok (.iaload, 1) := by decide +kernel
theorem dL_law_331 : decode cL_law 331 = .ok (.aload_n 0, 1) := by decide +kernel
theorem dL_law_332 : decode cL_law 332 = .ok (.iload_n 3, 1) := by decide +kernel
theorem dL_law_333 : decode cL_law 333 = .ok (.iconst 2, 1) := by decide +kernel
theorem dL_law_334 : decode cL_law 334 = .ok (.iadd, 1) := by decide +kernel
theorem dL_law_335 : decode cL_law 335 = .ok (.iaload, 1) := by decide +kernel
theorem dL_law_336 : decode cL_law 336 = .ok (.aload_n 0, 1) := by decide +kernel
theorem dL_law_337 : decode cL_law 337 = .ok (.iload_n 3, 1) := by decide +kernel
theorem dL_law_338 : decode cL_law 338 = .ok (.iconst 3, 1) := by decide +kernel
theorem dL_law_339 : decode cL_law 339 = .ok (.iadd, 1) := by decide +kernel
theorem dL_law_340 : decode cL_law 340 = .ok (.iaload, 1) := by decide +kernel
theorem dL_law_341 : decode cL_law 341 = .ok (.invokevirtual 52, 3) := by decide +kernel
theorem dL_law_344 : decode cL_law 344 = .ok (.if_icmp .eq 381, 3) := by decide +kernel
theorem dL_law_347 : decode cL_law 347 = .ok (.iconst 0, 1) := by decide +kernel
theorem dL_law_348 : decode cL_law 348 = .ok (.ireturn, 1) := by decide +kernel
theorem dL_law_349 : decode cL_law 349 = .ok (.aload_n 1, 1) := by decide +kernel
theorem dL_law_350 : decode cL_law 350 = .ok (.aload_n 0, 1) := by decide +kernel
theorem dL_law_351 : decode cL_law 351 = .ok (.iload_n 3, 1) := by decide +kernel
theorem dL_law_352 : decode cL_law 352 = .ok (.iconst 1, 1) := by decide +kernel
theorem dL_law_353 : decode cL_law 353 = .ok (.iadd, 1) := by decide +kernel
theorem dL_law_354 : decode cL_law 354 = .ok (.iaload, 1) := by decide +kernel
theorem dL_law_355 : decode cL_law 355 = .ok (.aload_n 0, 1) := by decide +kernel
theorem dL_law_356 : decode cL_law 356 = .ok (.iload_n 3, 1) := by decide +kernel
theorem dL_law_357 : decode cL_law 357 = .ok (.iconst 2, 1) := by decide +kernel
theorem dL_law_358 : decode cL_law 358 = .ok (.iadd, 1) := by decide +kernel
theorem dL_law_359 : decode cL_law 359 = .ok (.iaload, 1) := by decide +kernel
theorem dL_law_360 : decode cL_law 360 = .ok (.invokevirtual 53, 3) := by decide +kernel
theorem dL_law_363 : decode cL_law 363 = .ok (.aload_n 2, 1) := by decide +kernel
theorem dL_law_364 : decode cL_law 364 = .ok (.aload_n 0, 1) := by decide +kernel
theorem dL_law_365 : decode cL_law 365 = .ok (.iload_n 3, 1) := by decide +kernel
theorem dL_law_366 : decode cL_law 366 = .ok (.iconst 1, 1) := by decide +kernel
theorem dL_law_367 : decode cL_law 367 = .ok (.iadd, 1) := by decide +kernel
theorem dL_law_368 : decode cL_law 368 = .ok (.iaload, 1) := by decide +kernel
theorem dL_law_369 : decode cL_law 369 = .ok (.aload_n 0, 1) := by decide +kernel
theorem dL_law_370 : decode cL_law 370 = .ok (.iload_n 3, 1) := by decide +kernel
theorem dL_law_371 : decode cL_law 371 = .ok (.iconst 2, 1) := by decide +kernel
theorem dL_law_372 : decode cL_law 372 = .ok (.iadd, 1) := by decide +kernel
theorem dL_law_373 : decode cL_law 373 = .ok (.iaload, 1) := by decide +kernel
theorem dL_law_374 : decode cL_law 374 = .ok (.invokevirtual 56, 3) := by decide +kernel
theorem dL_law_377 : decode cL_law 377 = .ok (.if_icmp .eq 348, 3) := by decide +kernel
theorem dL_law_380 : decode cL_law 380 = .ok (.iconst 0, 1) := by decide +kernel
theorem dL_law_381 : decode cL_law 381 = .ok (.ireturn, 1) := by decide +kernel
theorem dL_law_382 : decode cL_law 382 = .ok (.aload_n 1, 1) := by decide +kernel
theorem dL_law_383 : decode cL_law 383 = .ok (.aload_n 0, 1) := by decide +kernel
theorem dL_law_384 : decode cL_law 384 = .ok (.iload_n 3, 1) := by decide +kernel
theorem dL_law_385 : decode cL_law 385 = .ok (.iconst 1, 1) := by decide +kernel
theorem dL_law_386 : decode cL_law 386 = .ok (.iadd, 1) := by decide +kernel
theorem dL_law_387 : decode cL_law 387 = .ok (.iaload, 1) := by decide +kernel
theorem dL_law_388 : decode cL_law 388 = .ok (.aload_n 0, 1) := by decide +kernel
theorem dL_law_389 : decode cL_law 389 = .ok (.iload_n 3, 1) := by decide +kernel
theorem dL_law_390 : decode cL_law 390 = .ok (.iconst 2, 1) := by decide +kernel
theorem dL_law_391 : decode cL_law 391 = .ok (.iadd, 1) := by decide +kernel
theorem dL_law_392 : decode cL_law 392 = .ok (.iaload, 1) := by decide +kernel
theorem dL_law_393 : decode cL_law 393 = .ok (.invokevirtual 57, 3) := by decide +kernel
theorem dL_law_396 : decode cL_law 396 = .ok (.aload_n 2, 1) := by decide +kernel
theorem dL_law_397 : decode cL_law 397 = .ok (.aload_n 0, 1) := by decide +kernel
theorem dL_law_398 : decode cL_law 398 = .ok (.iload_n 3, 1) := by decide +kernel
theorem dL_law_399 : decode cL_law 399 = .ok (.iconst 1, 1) := by decide +kernel
theorem dL_law_400 : decode cL_law 400 = .ok (.iadd, 1) := by decide +kernel
theorem dL_law_401 : decode cL_law 401 = .ok (.iaload, 1) := by decide +kernel
theorem dL_law_402 : decode cL_law 402 = .ok (.aload_n 0, 1) := by decide +kernel
theorem dL_law_403 : decode cL_law 403 = .ok (.iload_n 3, 1) := by decide +kernel
theorem dL_law_404 : decode cL_law 404 = .ok (.iconst 2, 1) := by decide +kernel
theorem dL_law_405 : decode cL_law 405 = .ok (.iadd, 1) := by decide +kernel
theorem dL_law_406 : decode cL_law 406 = .ok (.iaload, 1) := by decide +kernel
theorem dL_law_407 : decode cL_law 407 = .ok (.invokevirtual 60, 3) := by decide +kernel
theorem dL_law_410 : decode cL_law 410 = .ok (.if_icmp .eq 315, 3) := by decide +kernel
theorem dL_law_413 : decode cL_law 413 = .ok (.iconst 0, 1) := by decide +kernel
theorem dL_law_414 : decode cL_law 414 = .ok (.ireturn, 1) := by decide +kernel
theorem dL_law_415 : decode cL_law 415 = .ok (.aload_n 1, 1) := by decide +kernel
theorem dL_law_416 : decode cL_law 416 = .ok (.invokevirtual 61, 3) := by decide +kernel
theorem dL_law_419 : decode cL_law 419 = .ok (.aload_n 2, 1) := by decide +kernel
theorem dL_law_420 : decode cL_law 420 = .ok (.invokevirtual 64, 3) := by decide +kernel
theorem dL_law_423 : decode cL_law 423 = .ok (.if_icmp .eq 302, 3) := by decide +kernel
theorem dL_law_426 : decode cL_law 426 = .ok (.iconst 0, 1) := by decide +kernel
theorem dL_law_427 : decode cL_law 427 = .ok (.ireturn, 1) := by decide +kernel
theorem dL_law_428 : decode cL_law 428 = .ok (.aload_n 1, 1) := by decide +kernel
theorem dL_law_429 : decode cL_law 429 = .ok (.aload_n 0, 1) := by decide +kernel
theorem dL_law_430 : decode cL_law 430 = .ok (.iload_n 3, 1) := by decide +kernel
theorem dL_law_431 : decode cL_law 431 = .ok (.iconst 1, 1) := by decide +kernel
theorem dL_law_432 : decode cL_law 432 = .ok (.iadd, 1) := by decide +kernel
theorem dL_law_433 : decode cL_law 433 = .ok (.iaload, 1) := by decide +kernel
theorem dL_law_434 : decode cL_law 434 = .ok (.aload_n 0, 1) := by decide +kernel
theorem dL_law_435 : decode cL_law 435 = .ok (.iload_n 3, 1) := by decide +kernel
theorem dL_law_436 : decode cL_law 436 = .ok (.iconst 2, 1) := by decide +kernel
theorem dL_law_437 : decode cL_law 437 = .ok (.iadd, 1) := by decide +kernel
theorem dL_law_438 : decode cL_law 438 = .ok (.iaload, 1) := by decide +kernel
theorem dL_law_439 : decode cL_law 439 = .ok (.invokevirtual 65, 3) := by decide +kernel
theorem dL_law_442 : decode cL_law 442 = .ok (.aload_n 2, 1) := by decide +kernel
theorem dL_law_443 : decode cL_law 443 = .ok (.aload_n 0, 1) := by decide +kernel
theorem dL_law_444 : decode cL_law 444 = .ok (.iload_n 3, 1) := by decide +kernel
theorem dL_law_445 : decode cL_law 445 = .ok (.iconst 1, 1) := by decide +kernel
theorem dL_law_446 : decode cL_law 446 = .ok (.iadd, 1) := by decide +kernel
theorem dL_law_447 : decode cL_law 447 = .ok (.iaload, 1) := by decide +kernel
theorem dL_law_448 : decode cL_law 448 = .ok (.aload_n 0, 1) := by decide +kernel
theorem dL_law_449 : decode cL_law 449 = .ok (.iload_n 3, 1) := by decide +kernel
theorem dL_law_450 : decode cL_law 450 = .ok (.iconst 2, 1) := by decide +kernel
theorem dL_law_451 : decode cL_law 451 = .ok (.iadd, 1) := by decide +kernel
theorem dL_law_452 : decode cL_law 452 = .ok (.iaload, 1) := by decide +kernel
theorem dL_law_453 : decode cL_law 453 = .ok (.invokevirtual 68, 3) := by decide +kernel
theorem dL_law_456 : decode cL_law 456 = .ok (.if_icmp .eq 269, 3) := by decide +kernel
theorem dL_law_459 : decode cL_law 459 = .ok (.iconst 0, 1) := by decide +kernel
theorem dL_law_460 : decode cL_law 460 = .ok (.ireturn, 1) := by decide +kernel
theorem dL_law_461 : decode cL_law 461 = .ok (.aload_n 1, 1) := by decide +kernel
theorem dL_law_462 : decode cL_law 462 = .ok (.aload_n 0, 1) := by decide +kernel
theorem dL_law_463 : decode cL_law 463 = .ok (.iload_n 3, 1) := by decide +kernel
theorem dL_law_464 : decode cL_law 464 = .ok (.iconst 1, 1) := by decide +kernel
theorem dL_law_465 : decode cL_law 465 = .ok (.iadd, 1) := by decide +kernel
theorem dL_law_466 : decode cL_law 466 = .ok (.iaload, 1) := by decide +kernel
theorem dL_law_467 : decode cL_law 467 = .ok (.invokevirtual 69, 3) := by decide +kernel
theorem dL_law_470 : decode cL_law 470 = .ok (.aload_n 2, 1) := by decide +kernel
theorem dL_law_471 : decode cL_law 471 = .ok (.aload_n 0, 1) := by decide +kernel
theorem dL_law_472 : decode cL_law 472 = .ok (.iload_n 3, 1) := by decide +kernel
theorem dL_law_473 : decode cL_law 473 = .ok (.iconst 1, 1) := by decide +kernel
theorem dL_law_474 : decode cL_law 474 = .ok (.iadd, 1) := by decide +kernel
theorem dL_law_475 : decode cL_law 475 = .ok (.iaload, 1) := by decide +kernel
theorem dL_law_476 : decode cL_law 476 = .ok (.invokevirtual 72, 3) := by decide +kernel
theorem dL_law_479 : decode cL_law 479 = .ok (.if_icmp .eq 246, 3) := by decide +kernel
theorem dL_law_482 : decode cL_law 482 = .ok (.iconst 0, 1) := by decide +kernel
theorem dL_law_483 : decode cL_law 483 = .ok (.ireturn, 1) := by decide +kernel
theorem dL_law_484 : decode cL_law 484 = .ok (.aload_n 1, 1) := by decide +kernel
theorem dL_law_485 : decode cL_law 485 = .ok (.aload_n 0, 1) := by decide +kernel
theorem dL_law_486 : decode cL_law 486 = .ok (.iload_n 3, 1) := by decide +kernel
theorem dL_law_487 : decode cL_law 487 = .ok (.iconst 1, 1) := by decide +kernel
theorem dL_law_488 : decode cL_law 488 = .ok (.iadd, 1) := by decide +kernel
theorem dL_law_489 : decode cL_law 489 = .ok (.iaload, 1) := by decide +kernel
theorem dL_law_490 : decode cL_law 490 = .ok (.aload_n 0, 1) := by decide +kernel
theorem dL_law_491 : decode cL_law 491 = .ok (.iload_n 3, 1) := by decide +kernel
theorem dL_law_492 : decode cL_law 492 = .ok (.iconst 2, 1) := by decide +kernel
theorem dL_law_493 : decode cL_law 493 = .ok (.iadd, 1) := by decide +kernel
theorem dL_law_494 : decode cL_law 494 = .ok (.iaload, 1) := by decide +kernel
theorem dL_law_495 : decode cL_law 495 = .ok (.invokevirtual 73, 3) := by decide +kernel
theorem dL_law_498 : decode cL_law 498 = .ok (.aload_n 2, 1) := by decide +kernel
theorem dL_law_499 : decode cL_law 499 = .ok (.aload_n 0, 1) := by decide +kernel
theorem dL_law_500 : decode cL_law 500 = .ok (.iload_n 3, 1) := by decide +kernel
theorem dL_law_501 : decode cL_law 501 = .ok (.iconst 1, 1) := by decide +kernel
theorem dL_law_502 : decode cL_law 502 = .ok (.iadd, 1) := by decide +kernel
theorem dL_law_503 : decode cL_law 503 = .ok (.iaload, 1) := by decide +kernel
theorem dL_law_504 : decode cL_law 504 = .ok (.aload_n 0, 1) := by decide +kernel
theorem dL_law_505 : decode cL_law 505 = .ok (.iload_n 3, 1) := by decide +kernel
theorem dL_law_506 : decode cL_law 506 = .ok (.iconst 2, 1) := by decide +kernel
theorem dL_law_507 : decode cL_law 507 = .ok (.iadd, 1) := by decide +kernel
theorem dL_law_508 : decode cL_law 508 = .ok (.iaload, 1) := by decide +kernel
theorem dL_law_509 : decode cL_law 509 = .ok (.invokevirtual 76, 3) := by decide +kernel
theorem dL_law_512 : decode cL_law 512 = .ok (.if_icmp .eq 213, 3) := by decide +kernel
theorem dL_law_515 : decode cL_law 515 = .ok (.iconst 0, 1) := by decide +kernel
theorem dL_law_516 : decode cL_law 516 = .ok (.ireturn, 1) := by decide +kernel
theorem dL_law_517 : decode cL_law 517 = .ok (.aload_n 1, 1) := by decide +kernel
theorem dL_law_518 : decode cL_law 518 = .ok (.aload_n 0, 1) := by decide +kernel
theorem dL_law_519 : decode cL_law 519 = .ok (.iload_n 3, 1) := by decide +kernel
theorem dL_law_520 : decode cL_law 520 = .ok (.iconst 1, 1) := by decide +kernel
theorem dL_law_521 : decode cL_law 521 = .ok (.iadd, 1) := by decide +kernel
theorem dL_law_522 : decode cL_law 522 = .ok (.iaload, 1) := by decide +kernel
theorem dL_law_523 : decode cL_law 523 = .ok (.aload_n 0, 1) := by decide +kernel
theorem dL_law_524 : decode cL_law 524 = .ok (.iload_n 3, 1) := by decide +kernel
theorem dL_law_525 : decode cL_law 525 = .ok (.iconst 2, 1) := by decide +kernel
theorem dL_law_526 : decode cL_law 526 = .ok (.iadd, 1) := by decide +kernel
theorem dL_law_527 : decode cL_law 527 = .ok (.iaload, 1) := by decide +kernel
theorem dL_law_528 : decode cL_law 528 = .ok (.aload_n 0, 1) := by decide +kernel
theorem dL_law_529 : decode cL_law 529 = .ok (.iload_n 3, 1) := by decide +kernel
theorem dL_law_530 : decode cL_law 530 = .ok (.iconst 3, 1) := by decide +kernel
theorem dL_law_531 : decode cL_law 531 = .ok (.iadd, 1) := by decide +kernel
theorem dL_law_532 : decode cL_law 532 = .ok (.iaload, 1) := by decide +kernel
theorem dL_law_533 : decode cL_law 533 = .ok (.invokevirtual 77, 3) := by decide +kernel
theorem dL_law_536 : decode cL_law 536 = .ok (.aload_n 2, 1) := by decide +kernel
theorem dL_law_537 : decode cL_law 537 = .ok (.aload_n 0, 1) := by decide +kernel
theorem dL_law_538 : decode cL_law 538 = .ok (.iload_n 3, 1) := by decide +kernel
theorem dL_law_539 : decode cL_law 539 = .ok (.iconst 1, 1) := by decide +kernel
theorem dL_law_540 : decode cL_law 540 = .ok (.iadd, 1) := by decide +kernel
theorem dL_law_541 : decode cL_law 541 = .ok (.iaload, 1) := by decide +kernel
theorem dL_law_542 : decode cL_law 542 = .ok (.aload_n 0, 1) := by decide +kernel
theorem dL_law_543 : decode cL_law 543 = .ok (.iload_n 3, 1) := by decide +kernel
theorem dL_law_544 : decode cL_law 544 = .ok (.iconst 2, 1) := by decide +kernel
theorem dL_law_545 : decode cL_law 545 = .ok (.iadd, 1) := by decide +kernel
theorem dL_law_546 : decode cL_law 546 = .ok (.iaload, 1) := by decide +kernel
theorem dL_law_547 : decode cL_law 547 = .ok (.aload_n 0, 1) := by decide +kernel
theorem dL_law_548 : decode cL_law 548 = .ok (.iload_n 3, 1) := by decide +kernel
theorem dL_law_549 : decode cL_law 549 = .ok (.iconst 3, 1) := by decide +kernel
theorem dL_law_550 : decode cL_law 550 = .ok (.iadd, 1) := by decide +kernel
theorem dL_law_551 : decode cL_law 551 = .ok (.iaload, 1) := by decide +kernel
theorem dL_law_552 : decode cL_law 552 = .ok (.invokevirtual 80, 3) := by decide +kernel
theorem dL_law_555 : decode cL_law 555 = .ok (.if_icmp .eq 170, 3) := by decide +kernel
theorem dL_law_558 : decode cL_law 558 = .ok (.iconst 0, 1) := by decide +kernel
theorem dL_law_559 : decode cL_law 559 = .ok (.ireturn, 1) := by decide +kernel
theorem dL_law_560 : decode cL_law 560 = .ok (.aload_n 1, 1) := by decide +kernel
theorem dL_law_561 : decode cL_law 561 = .ok (.aload_n 0, 1) := by decide +kernel
theorem dL_law_562 : decode cL_law 562 = .ok (.iload_n 3, 1) := by decide +kernel
theorem dL_law_563 : decode cL_law 563 = .ok (.iconst 1, 1) := by decide +kernel
theorem dL_law_564 : decode cL_law 564 = .ok (.iadd, 1) := by decide +kernel
theorem dL_law_565 : decode cL_law 565 = .ok (.iaload, 1) := by decide +kernel
theorem dL_law_566 : decode cL_law 566 = .ok (.aload_n 0, 1) := by decide +kernel
theorem dL_law_567 : decode cL_law 567 = .ok (.iload_n 3, 1) := by decide +kernel
theorem dL_law_568 : decode cL_law 568 = .ok (.iconst 2, 1) := by decide +kernel
theorem dL_law_569 : decode cL_law 569 = .ok (.iadd, 1) := by decide +kernel
theorem dL_law_570 : decode cL_law 570 = .ok (.iaload, 1) := by decide +kernel
theorem dL_law_571 : decode cL_law 571 = .ok (.aload_n 0, 1) := by decide +kernel
theorem dL_law_572 : decode cL_law 572 = .ok (.iload_n 3, 1) := by decide +kernel
theorem dL_law_573 : decode cL_law 573 = .ok (.iconst 3, 1) := by decide +kernel
theorem dL_law_574 : decode cL_law 574 = .ok (.iadd, 1) := by decide +kernel
theorem dL_law_575 : decode cL_law 575 = .ok (.iaload, 1) := by decide +kernel
theorem dL_law_576 : decode cL_law 576 = .ok (.invokevirtual 81, 3) := by decide +kernel
theorem dL_law_579 : decode cL_law 579 = .ok (.aload_n 2, 1) := by decide +kernel
theorem dL_law_580 : decode cL_law 580 = .ok (.aload_n 0, 1) := by decide +kernel
theorem dL_law_581 : decode cL_law 581 = .ok (.iload_n 3, 1) := by decide +kernel
theorem dL_law_582 : decode cL_law 582 = .ok (.iconst 1, 1) := by decide +kernel
theorem dL_law_583 : decode cL_law 583 = .ok (.iadd, 1) := by decide +kernel
theorem dL_law_584 : decode cL_law 584 = .ok (.iaload, 1) := by decide +kernel
theorem dL_law_585 : decode cL_law 585 = .ok (.aload_n 0, 1) := by decide +kernel
theorem dL_law_586 : decode cL_law 586 = .ok (.iload_n 3, 1) := by decide +kernel
theorem dL_law_587 : decode cL_law 587 = .ok (.iconst 2, 1) := by decide +kernel
theorem dL_law_588 : decode cL_law 588 = .ok (.iadd, 1) := by decide +kernel
theorem dL_law_589 : decode cL_law 589 = .ok (.iaload, 1) := by decide +kernel
theorem dL_law_590 : decode cL_law 590 = .ok (.aload_n 0, 1) := by decide +kernel
theorem dL_law_591 : decode cL_law 591 = .ok (.iload_n 3, 1) := by decide +kernel
theorem dL_law_592 : decode cL_law 592 = .ok (.iconst 3, 1) := by decide +kernel
theorem dL_law_593 : decode cL_law 593 = .ok (.iadd, 1) := by decide +kernel
theorem dL_law_594 : decode cL_law 594 = .ok (.iaload, 1) := by decide +kernel
theorem dL_law_595 : decode cL_law 595 = .ok (.invokevirtual 84, 3) := by decide +kernel
theorem dL_law_598 : decode cL_law 598 = .ok (.if_icmp .eq 127, 3) := by decide +kernel
theorem dL_law_601 : decode cL_law 601 = .ok (.iconst 0, 1) := by decide +kernel
theorem dL_law_602 : decode cL_law 602 = .ok (.ireturn, 1) := by decide +kernel
theorem dL_law_603 : decode cL_law 603 = .ok (.aload_n 1, 1) := by decide +kernel
theorem dL_law_604 : decode cL_law 604 = .ok (.aload_n 0, 1) := by decide +kernel
theorem dL_law_605 : decode cL_law 605 = .ok (.iload_n 3, 1) := by decide +kernel
theorem dL_law_606 : decode cL_law 606 = .ok (.iconst 1, 1) := by decide +kernel
theorem dL_law_607 : decode cL_law 607 = .ok (.iadd, 1) := by decide +kernel
theorem dL_law_608 : decode cL_law 608 = .ok (.iaload, 1) := by decide +kernel
theorem dL_law_609 : decode cL_law 609 = .ok (.aload_n 0, 1) := by decide +kernel
theorem dL_law_610 : decode cL_law 610 = .ok (.iload_n 3, 1) := by decide +kernel
theorem dL_law_611 : decode cL_law 611 = .ok (.iconst 2, 1) := by decide +kernel
theorem dL_law_612 : decode cL_law 612 = .ok (.iadd, 1) := by decide +kernel
theorem dL_law_613 : decode cL_law 613 = .ok (.iaload, 1) := by decide +kernel
theorem dL_law_614 : decode cL_law 614 = .ok (.invokevirtual 85, 3) := by decide +kernel
theorem dL_law_617 : decode cL_law 617 = .ok (.aload_n 2, 1) := by decide +kernel
theorem dL_law_618 : decode cL_law 618 = .ok (.aload_n 0, 1) := by decide +kernel
theorem dL_law_619 : decode cL_law 619 = .ok (.iload_n 3, 1) := by decide +kernel
theorem dL_law_620 : decode cL_law 620 = .ok (.iconst 1, 1) := by decide +kernel
theorem dL_law_621 : decode cL_law 621 = .ok (.iadd, 1) := by decide +kernel
theorem dL_law_622 : decode cL_law 622 = .ok (.iaload, 1) := by decide +kernel
theorem dL_law_623 : decode cL_law 623 = .ok (.aload_n 0, 1) := by decide +kernel
theorem dL_law_624 : decode cL_law 624 = .ok (.iload_n 3, 1) := by decide +kernel
theorem dL_law_625 : decode cL_law 625 = .ok (.iconst 2, 1) := by decide +kernel
theorem dL_law_626 : decode cL_law 626 = .ok (.iadd, 1) := by decide +kernel
theorem dL_law_627 : decode cL_law 627 = .ok (.iaload, 1) := by decide +kernel
theorem dL_law_628 : decode cL_law 628 = .ok (.invokevirtual 88, 3) := by decide +kernel
theorem dL_law_631 : decode cL_law 631 = .ok (.if_icmp .eq 94, 3) := by decide +kernel
theorem dL_law_634 : decode cL_law 634 = .ok (.iconst 0, 1) := by decide +kernel
theorem dL_law_635 : decode cL_law 635 = .ok (.ireturn, 1) := by decide +kernel
theorem dL_law_636 : decode cL_law 636 = .ok (.aload_n 1, 1) := by decide +kernel
theorem dL_law_637 : decode cL_law 637 = .ok (.aload_n 0, 1) := by decide +kernel
theorem dL_law_638 : decode cL_law 638 = .ok (.iload_n 3, 1) := by decide +kernel
theorem dL_law_639 : decode cL_law 639 = .ok (.iconst 1, 1) := by decide +kernel
theorem dL_law_640 : decode cL_law 640 = .ok (.iadd, 1) := by decide +kernel
theorem dL_law_641 : decode cL_law 641 = .ok (.iaload, 1) := by decide +kernel
theorem dL_law_642 : decode cL_law 642 = .ok (.invokevirtual 89, 3) := by decide +kernel
theorem dL_law_645 : decode cL_law 645 = .ok (.aload_n 2, 1) := by decide +kernel
theorem dL_law_646 : decode cL_law 646 = .ok (.aload_n 0, 1) := by decide +kernel
theorem dL_law_647 : decode cL_law 647 = .ok (.iload_n 3, 1) := by decide +kernel
theorem dL_law_648 : decode cL_law 648 = .ok (.iconst 1, 1) := by decide +kernel
theorem dL_law_649 : decode cL_law 649 = .ok (.iadd, 1) := by decide +kernel
theorem dL_law_650 : decode cL_law 650 = .ok (.iaload, 1) := by decide +kernel
theorem dL_law_651 : decode cL_law 651 = .ok (.invokevirtual 92, 3) := by decide +kernel
theorem dL_law_654 : decode cL_law 654 = .ok (.if_icmp .eq 71, 3) := by decide +kernel
theorem dL_law_657 : decode cL_law 657 = .ok (.iconst 0, 1) := by decide +kernel
theorem dL_law_658 : decode cL_law 658 = .ok (.ireturn, 1) := by decide +kernel
theorem dL_law_659 : decode cL_law 659 = .ok (.aload_n 1, 1) := by decide +kernel
theorem dL_law_660 : decode cL_law 660 = .ok (.aload_n 0, 1) := by decide +kernel
theorem dL_law_661 : decode cL_law 661 = .ok (.iload_n 3, 1) := by decide +kernel
theorem dL_law_662 : decode cL_law 662 = .ok (.iconst 1, 1) := by decide +kernel
theorem dL_law_663 : decode cL_law 663 = .ok (.iadd, 1) := by decide +kernel
theorem dL_law_664 : decode cL_law 664 = .ok (.iaload, 1) := by decide +kernel
theorem dL_law_665 : decode cL_law 665 = .ok (.aload_n 0, 1) := by decide +kernel
theorem dL_law_666 : decode cL_law 666 = .ok (.iload_n 3, 1) := by decide +kernel
theorem dL_law_667 : decode cL_law 667 = .ok (.iconst 2, 1) := by decide +kernel
theorem dL_law_668 : decode cL_law 668 = .ok (.iadd, 1) := by decide +kernel
theorem dL_law_669 : decode cL_law 669 = .ok (.iaload, 1) := by decide +kernel
theorem dL_law_670 : decode cL_law 670 = .ok (.aload_n 0, 1) := by decide +kernel
theorem dL_law_671 : decode cL_law 671 = .ok (.iload_n 3, 1) := by decide +kernel
theorem dL_law_672 : decode cL_law 672 = .ok (.iconst 3, 1) := by decide +kernel
theorem dL_law_673 : decode cL_law 673 = .ok (.iadd, 1) := by decide +kernel
theorem dL_law_674 : decode cL_law 674 = .ok (.iaload, 1) := by decide +kernel
theorem dL_law_675 : decode cL_law 675 = .ok (.invokevirtual 93, 3) := by decide +kernel
theorem dL_law_678 : decode cL_law 678 = .ok (.aload_n 2, 1) := by decide +kernel
theorem dL_law_679 : decode cL_law 679 = .ok (.aload_n 0, 1) := by decide +kernel
theorem dL_law_680 : decode cL_law 680 = .ok (.iload_n 3, 1) := by decide +kernel
theorem dL_law_681 : decode cL_law 681 = .ok (.iconst 1, 1) := by decide +kernel
theorem dL_law_682 : decode cL_law 682 = .ok (.iadd, 1) := by decide +kernel
theorem dL_law_683 : decode cL_law 683 = .ok (.iaload, 1) := by decide +kernel
theorem dL_law_684 : decode cL_law 684 = .ok (.aload_n 0, 1) := by decide +kernel
theorem dL_law_685 : decode cL_law 685 = .ok (.iload_n 3, 1) := by decide +kernel
theorem dL_law_686 : decode cL_law 686 = .ok (.iconst 2, 1) := by decide +kernel
theorem dL_law_687 : decode cL_law 687 = .ok (.iadd, 1) := by decide +kernel
theorem dL_law_688 : decode cL_law 688 = .ok (.iaload, 1) := by decide +kernel
theorem dL_law_689 : decode cL_law 689 = .ok (.aload_n 0, 1) := by decide +kernel
theorem dL_law_690 : decode cL_law 690 = .ok (.iload_n 3, 1) := by decide +kernel
theorem dL_law_691 : decode cL_law 691 = .ok (.iconst 3, 1) := by decide +kernel
theorem dL_law_692 : decode cL_law 692 = .ok (.iadd, 1) := by decide +kernel
theorem dL_law_693 : decode cL_law 693 = .ok (.iaload, 1) := by decide +kernel
theorem dL_law_694 : decode cL_law 694 = .ok (.invokevirtual 96, 3) := by decide +kernel
theorem dL_law_697 : decode cL_law 697 = .ok (.if_icmp .eq 28, 3) := by decide +kernel
theorem dL_law_700 : decode cL_law 700 = .ok (.iconst 0, 1) := by decide +kernel
theorem dL_law_701 : decode cL_law 701 = .ok (.ireturn, 1) := by decide +kernel
theorem dL_law_702 : decode cL_law 702 = .ok (.aload_n 1, 1) := by decide +kernel
theorem dL_law_703 : decode cL_law 703 = .ok (.aload_n 0, 1) := by decide +kernel
theorem dL_law_704 : decode cL_law 704 = .ok (.iload_n 3, 1) := by decide +kernel
theorem dL_law_705 : decode cL_law 705 = .ok (.iconst 1, 1) := by decide +kernel
theorem dL_law_706 : decode cL_law 706 = .ok (.iadd, 1) := by decide +kernel
theorem dL_law_707 : decode cL_law 707 = .ok (.iaload, 1) := by decide +kernel
theorem dL_law_708 : decode cL_law 708 = .ok (.invokevirtual 97, 3) := by decide +kernel
theorem dL_law_711 : decode cL_law 711 = .ok (.aload_n 2, 1) := by decide +kernel
theorem dL_law_712 : decode cL_law 712 = .ok (.aload_n 0, 1) := by decide +kernel
theorem dL_law_713 : decode cL_law 713 = .ok (.iload_n 3, 1) := by decide +kernel
theorem dL_law_714 : decode cL_law 714 = .ok (.iconst 1, 1) := by decide +kernel
theorem dL_law_715 : decode cL_law 715 = .ok (.iadd, 1) := by decide +kernel
theorem dL_law_716 : decode cL_law 716 = .ok (.iaload, 1) := by decide +kernel
theorem dL_law_717 : decode cL_law 717 = .ok (.invokevirtual 100, 3) := by decide +kernel
theorem dL_law_720 : decode cL_law 720 = .ok (.if_icmp .eq 5, 3) := by decide +kernel
theorem dL_law_723 : decode cL_law 723 = .ok (.iconst 0, 1) := by decide +kernel
theorem dL_law_724 : decode cL_law 724 = .ok (.ireturn, 1) := by decide +kernel
theorem dL_law_725 : decode cL_law 725 = .ok (.iinc 3 4, 3) := by decide +kernel
theorem dL_law_728 : decode cL_law 728 = .ok (.goto (-710), 3) := by decide +kernel
theorem dL_law_731 : decode cL_law 731 = .ok (.iconst 1, 1) := by decide +kernel
theorem dL_law_732 : decode cL_law 732 = .ok (.ireturn, 1) := by decide +kernel
end
section
abbrev am_T : Type := MethodName × ByteArray × Nat × Option FieldType × Nat × Nat × Nat × Nat
def am_tab_0 : List am_T := [(yX0_init, cX0_init, 1, none, 0, 0, 2, 89), (yX0_readFrom, cX0_readFrom, 4, (some .int), 0, 1, 4, 338), (yX0_take, cX0_take, 5, none, 0, 3, 1, 364), (yX0_firstAstray, cX0_firstAstray, 3, (some .int), 0, 0, 3, 369), (yX0_widthAt, cX0_widthAt, 4, (some .int), 0, 2, 2, 345), (yX0_has, cX0_has, 2, (some .boolean), 0, 1, 0, 377), (yX0_beginsAt, cX0_beginsAt, 2, (some .boolean), 0, 1, 1, 373), (yX0_letterAt, cX0_letterAt, 2, (some .char), 0, 1, 1, 381), (yX0_numberAt, cX0_numberAt, 2, (some .int), 0, 1, 2, 385), (yX1_init, cX1_init, 2, none, 1, 0, 4, 249), (yX1_keep, cX1_keep, 3, none, 1, 1, 4, 479), (yX1_giveBack, cX1_giveBack, 4, none, 1, 1, 4, 680), (yX1_clear, cX1_clear, 1, none, 1, 0, 0, 457), (yX2_init, cX2_init, 1, none, 2, 0, 1, 116), (yX2_has, cX2_has, 2, (some .boolean), 2, 1, 0, 545), (yX2_get, cX2_get, 2, (some .int), 2, 1, 1, 549), (yX2_put, cX2_put, 3, none, 2, 2, 1, 647), (yX2_together, cX2_together, 3, (some .int), 2, 0, 0, 740), (yX2_clear, cX2_clear, 2, none, 2, 0, 0, 437), (yX2_copyFrom, cX2_copyFrom, 2, none, 2, 1, 1, 490), (yX3_init, cX3_init, 2, none, 3, 1, 1, 190), (yX3_layOn, cX3_layOn, 3, none, 3, 2, 0, 514), (yX3_goIfNobodyIsInside, cX3_goIfNobodyIsInside, 1, none, 3, 0, 0, 531), (yX3_tell, cX3_tell, 2, (some .int), 3, 1, 0, 726), (yX3_copyFrom, cX3_copyFrom, 2, none, 3, 1, 0, 507), (yX4_init, cX4_init, 1, none, 4, 0, 2, 127), (yX4_isAtInstruction, cX4_isAtInstruction, 2, (some .boolean), 4, 1, 2, 605)]
def am_tab_1 : List am_T := [(yX4_perform, cX4_perform, 5, none, 4, 2, 3, 636), (yX4_reckon, cX4_reckon, 4, none, 4, 3, 2, 642), (yX4_goingOn, cX4_goingOn, 4, (some .int), 4, 2, 1, 651), (yX4_called, cX4_called, 3, (some .int), 4, 2, 0, 656), (yX4_returned, cX4_returned, 1, (some .int), 4, 0, 0, 660), (yX4_returnAt, cX4_returnAt, 2, (some .int), 4, 1, 0, 710), (yX4_holderAt, cX4_holderAt, 2, (some .int), 4, 1, 0, 591), (yX4_topHolder, cX4_topHolder, 1, (some .int), 4, 0, 1, 631), (yX4_holdTop, cX4_holdTop, 3, (some .boolean), 4, 1, 0, 626), (yX4_goTo, cX4_goTo, 3, none, 4, 2, 0, 445), (yX4_tell, cX4_tell, 2, (some .int), 4, 1, 0, 701), (yX4_clear, cX4_clear, 1, none, 4, 0, 1, 441), (yX4_copyFrom, cX4_copyFrom, 2, none, 4, 1, 2, 497), (yX5_init, cX5_init, 1, none, 5, 0, 1, 133), (yX5_enter, cX5_enter, 4, none, 5, 3, 1, 618), (yX5_loseOldest, cX5_loseOldest, 2, none, 5, 0, 0, 622), (yX5_tell, cX5_tell, 3, (some .int), 5, 2, 0, 718), (yX5_clear, cX5_clear, 1, none, 5, 0, 0, 449), (yX5_copyFrom, cX5_copyFrom, 2, none, 5, 1, 1, 502), (yX6_init, cX6_init, 1, none, 6, 0, 1, 269), (yX6_ask, cX6_ask, 8, (some .int), 6, 3, 2, 539), (yX6_put, cX6_put, 2, (some .boolean), 6, 1, 0, 554), (yX6_turnTop, cX6_turnTop, 2, (some .boolean), 6, 0, 0, 558), (yX6_join, cX6_join, 4, (some .boolean), 6, 1, 1, 562), (yX6_joined, cX6_joined, 3, (some .int), 6, 3, 0, 565), (yX7_init, cX7_init, 2, none, 7, 0, 3, 110), (yX7_processorOrNull, cX7_processorOrNull, 2, (some (.object "CodeProbes$Processor")), 7, 1, 0, 580)]
def am_tab_2 : List am_T := [(yX7_probeOrNull, cX7_probeOrNull, 2, (some (.object "CodeProbes$Probe")), 7, 1, 0, 453), (yX7_probeNotGone, cX7_probeNotGone, 3, (some (.object "CodeProbes$Probe")), 7, 1, 1, 471), (yX7_probeOn, cX7_probeOn, 4, (some (.object "CodeProbes$Probe")), 7, 1, 2, 467), (yX7_probeIsOnAt, cX7_probeIsOnAt, 3, (some .boolean), 7, 1, 3, 688), (yX7_lowestGone, cX7_lowestGone, 2, (some (.object "CodeProbes$Probe")), 7, 0, 2, 475), (yX7_howManyAre, cX7_howManyAre, 5, (some .int), 7, 1, 1, 523), (yX7_howManyHeld, cX7_howManyHeld, 4, (some .int), 7, 0, 2, 748), (yX7_letGoReturns, cX7_letGoReturns, 5, (some .int), 7, 1, 1, 587), (yX7_clear, cX7_clear, 3, none, 7, 0, 2, 433), (yX7_copyFrom, cX7_copyFrom, 5, none, 7, 1, 3, 486), (yX8_init, cX8_init, 2, none, 8, 1, 1, 68), (yX8_add, cX8_add, 2, (some .boolean), 8, 1, 0, 334), (yX8_clear, cX8_clear, 1, none, 8, 0, 0, 342), (yX8_at, cX8_at, 2, (some .char), 8, 1, 0, 349), (yX8_figureAt, cX8_figureAt, 3, (some .int), 8, 1, 1, 356), (yX8_copy, cX8_copy, 3, (some (.object "CodeProbes$Text")), 8, 0, 2, 569), (yX9_init, cX9_init, 2, none, 9, 0, 5, 60), (yX9_write, cX9_write, 2, (some .int), 9, 1, 1, 416), (yX9_wipe, cX9_wipe, 2, (some .int), 9, 0, 1, 421), (yX9_fault, cX9_fault, 1, (some .int), 9, 0, 5, 425), (yX9_lay, cX9_lay, 1, (some .int), 9, 0, 5, 429), (yX9_probe, cX9_probe, 4, (some .int), 9, 2, 5, 461), (yX9_turn, cX9_turn, 5, (some .int), 9, 2, 5, 518), (yX9_remove, cX9_remove, 3, (some .int), 9, 1, 5, 527), (yX9_filter, cX9_filter, 3, (some .int), 9, 1, 5, 535), (yX9_start, cX9_start, 6, (some .int), 9, 3, 5, 576), (yX9_step, cX9_step, 6, (some .int), 9, 2, 6, 597)]
def am_tab_3 : List am_T := [(yX9_poke, cX9_poke, 4, (some .int), 9, 2, 5, 669), (yX9_undo, cX9_undo, 1, (some .int), 9, 0, 5, 676), (yX9_code, cX9_code, 4, (some .int), 9, 2, 4, 684), (yX9_memory, cX9_memory, 2, (some .int), 9, 1, 2, 693), (yX9_processor, cX9_processor, 4, (some .int), 9, 2, 1, 697), (yX9_returns, cX9_returns, 6, (some .int), 9, 3, 1, 705), (yX9_ring, cX9_ring, 5, (some .int), 9, 3, 1, 714), (yX9_look, cX9_look, 4, (some .int), 9, 2, 1, 722), (yX9_asked, cX9_asked, 2, (some .int), 9, 1, 3, 730), (yX9_ever, cX9_ever, 6, (some .int), 9, 3, 4, 734), (yX9_count, cX9_count, 2, (some .int), 9, 1, 3, 744), (yX9_stepWithProbes, cX9_stepWithProbes, 5, none, 9, 1, 5, 601), (yX9_comeBy, cX9_comeBy, 3, none, 9, 2, 4, 610), (yX9_leave, cX9_leave, 3, none, 9, 2, 4, 665), (yX9_hit, cX9_hit, 3, none, 9, 2, 3, 614), (yX9_within, cX9_within, 3, (some .boolean), 9, 3, 0, 360), (yX9_isNumber, cX9_isNumber, 1, (some .boolean), 9, 1, 1, 583), (yX9_widthOf, cX9_widthOf, 1, (some .int), 9, 1, 0, 352), (yX10_init, cX10_init, 1, none, 10, 0, 3, 753), (yX10_none, cX10_none, 2, none, 10, 1, 0, 762), (yX10_one, cX10_one, 3, none, 10, 2, 1, 758), (yX10_two, cX10_two, 3, none, 10, 2, 2, 766), (yX10_empties, cX10_empties, 2, none, 10, 0, 0, 770), (yX10_isIn, cX10_isIn, 3, (some .boolean), 10, 3, 0, 834), (yX10_isFigure, cX10_isFigure, 3, (some .boolean), 10, 2, 1, 831), (yX10_wideAt, cX10_wideAt, 2, (some .int), 10, 1, 2, 827), (yX10_reads, cX10_reads, 4, (some .int), 10, 0, 3, 823)]
def am_tab_4 : List am_T := [(yX10_write, cX10_write, 2, (some .int), 10, 1, 0, 811), (yX10_wipe, cX10_wipe, 2, (some .int), 10, 0, 0, 815), (yX10_fault, cX10_fault, 1, (some .int), 10, 0, 4, 819), (yX10_lay, cX10_lay, 2, (some .int), 10, 0, 4, 838), (yX10_both, cX10_both, 3, (some .int), 10, 3, 0, 857), (yX10_comes, cX10_comes, 2, (some .boolean), 10, 1, 0, 850), (yX10_takes, cX10_takes, 2, (some .boolean), 10, 1, 1, 854), (yX10_asks, cX10_asks, 8, (some .int), 10, 4, 2, 846), (yX10_asked, cX10_asked, 3, (some .int), 10, 1, 3, 842), (yX10_keeps, cX10_keeps, 2, none, 10, 0, 0, 884), (yX10_undo, cX10_undo, 2, (some .int), 10, 0, 0, 861), (yX10_processorAt, cX10_processorAt, 1, (some .int), 10, 1, 0, 910), (yX10_probeAt, cX10_probeAt, 1, (some .int), 10, 1, 0, 876), (yX10_isCell, cX10_isCell, 2, (some .boolean), 10, 1, 1, 869), (yX10_isBegin, cX10_isBegin, 2, (some .boolean), 10, 1, 2, 918), (yX10_isProbe, cX10_isProbe, 2, (some .boolean), 10, 1, 1, 892), (yX10_probeOn, cX10_probeOn, 3, (some .int), 10, 1, 1, 873), (yX10_manyThat, cX10_manyThat, 4, (some .int), 10, 1, 1, 880), (yX10_probe, cX10_probe, 5, (some .int), 10, 2, 2, 865), (yX10_turn, cX10_turn, 4, (some .int), 10, 2, 2, 888), (yX10_remove, cX10_remove, 3, (some .int), 10, 1, 2, 896), (yX10_filter, cX10_filter, 4, (some .int), 10, 1, 3, 900), (yX10_hits, cX10_hits, 7, none, 10, 2, 3, 926), (yX10_frees, cX10_frees, 3, none, 10, 1, 1, 945), (yX10_meets, cX10_meets, 6, none, 10, 2, 4, 922), (yX10_figures, cX10_figures, 2, (some .int), 10, 2, 0, 937), (yX10_plain, cX10_plain, 5, (some .int), 10, 3, 1, 941)]
def am_tab_5 : List am_T := [(yX10_turns, cX10_turns, 5, (some .int), 10, 3, 1, 934), (yX10_goes, cX10_goes, 6, (some .boolean), 10, 2, 3, 930), (yX10_does, cX10_does, 7, (some .boolean), 10, 1, 5, 914), (yX10_isProcessor, cX10_isProcessor, 1, (some .boolean), 10, 1, 1, 907), (yX10_step, cX10_step, 5, (some .int), 10, 2, 6, 904), (yX10_start, cX10_start, 7, (some .int), 10, 3, 2, 949), (yX10_poke, cX10_poke, 4, (some .int), 10, 2, 1, 953), (yX10_code, cX10_code, 4, (some .int), 10, 2, 2, 957), (yX10_memory, cX10_memory, 2, (some .int), 10, 1, 1, 961), (yX10_processor, cX10_processor, 4, (some .int), 10, 2, 2, 965), (yX10_returns, cX10_returns, 5, (some .int), 10, 3, 2, 969), (yX10_ring, cX10_ring, 5, (some .int), 10, 3, 2, 973), (yX10_look, cX10_look, 4, (some .int), 10, 2, 1, 977), (yX10_ever, cX10_ever, 7, (some .int), 10, 3, 4, 981), (yX10_heldInAll, cX10_heldInAll, 3, (some .int), 10, 0, 1, 989), (yX10_count, cX10_count, 4, (some .int), 10, 1, 2, 985), (yJ9_floorMod_7cf53, cJ9_floorMod_7cf53, 3, (some .int), 12, 2, 0, 482), (yJ9_max_7cf53, cJ9_max_7cf53, 2, (some .int), 12, 2, 0, 72), (yJ9_min_7cf53, cJ9_min_7cf53, 2, (some .int), 12, 2, 0, 510), (yJ0_length_8abf5, cJ0_length_8abf5, 1, (some .int), 13, 0, 1, 286), (yJ0_charAt_5068e, cJ0_charAt_5068e, 2, (some .char), 13, 1, 3, 296), (yJ0_coder_7d493, cJ0_coder_7d493, 1, (some .byte), 13, 0, 0, 290), (yJ0_isLatin1_aae02, cJ0_isLatin1_aae02, 1, (some .boolean), 13, 0, 0, 300), (yJ0_checkIndex_df160, cJ0_checkIndex_df160, 2, none, 13, 2, 1, 306), (yJ1_charAt_3b067, cJ1_charAt_3b067, 2, (some .char), 14, 2, 2, 303), (yJ3_checkIndex_8e157, cJ3_checkIndex_8e157, 3, (some .int), 15, 3, 0, 311), (yL_law, cL_law, 4, (some .boolean), 11, 1, 7, 0)]
def am_tab : List am_T := am_tab_0 ++ (am_tab_1 ++ (am_tab_2 ++ (am_tab_3 ++ (am_tab_4 ++ (am_tab_5)))))
def am_row (m : Nat) : am_T := am_tab.getD m (yX0_init, cX0_init, 0, none, 0, 0, 0, 0)
def am_y (m : Nat) : MethodName := (am_row m).1
def am_c (m : Nat) : ByteArray := (am_row m).2.1
def am_nl (m : Nat) : Nat := (am_row m).2.2.1
def am_rt (m : Nat) : Option FieldType := (am_row m).2.2.2.1
def am_own (m : Nat) : Nat := (am_row m).2.2.2.2.1
def am_np (m : Nat) : Nat := (am_row m).2.2.2.2.2.1
def am_lev (m : Nat) : Nat := (am_row m).2.2.2.2.2.2.1
def am_cn (o : Nat) : String := ([RX0, RX1, RX2, RX3, RX4, RX5, RX6, RX7, RX8, RX9, RX10, RL, RJ9, RJ0, RJ1, RJ3] : List String).getD o ""
def am_fl : List (Nat × Nat × Nat × Nat × Nat) := [(0, 14, 0, 0, 93), (0, 20, 0, 1, 95), (0, 27, 0, 2, 96), (0, 31, 8, 1, 77), (1, 11, 1, 0, 254), (1, 18, 1, 1, 255), (1, 32, 1, 2, 256), (2, 9, 2, 0, 118), (3, 9, 3, 1, 194), (3, 15, 3, 0, 192), (3, 18, 3, 2, 197), (3, 21, 3, 3, 199), (3, 24, 3, 4, 201), (3, 27, 3, 5, 203), (3, 30, 3, 6, 205), (3, 33, 3, 7, 207), (3, 36, 3, 8, 210), (3, 40, 8, 1, 78), (4, 9, 4, 0, 153), (4, 15, 4, 1, 154), (4, 21, 4, 2, 155), (4, 25, 4, 4, 160), (4, 35, 4, 6, 164), (4, 55, 4, 5, 162), (4, 79, 4, 3, 157), (4, 88, 4, 7, 167), (5, 9, 5, 0, 135), (5, 15, 5, 1, 136), (5, 18, 5, 2, 137), (5, 21, 5, 3, 138), (5, 28, 5, 4, 140), (6, 9, 6, 0, 271), (6, 15, 6, 1, 272), (6, 19, 8, 1, 75), (7, 12, 7, 0, 231), (7, 21, 7, 1, 233), (7, 25, 7, 2, 234), (7, 30, 7, 3, 235), (7, 41, 3, 1, 195), (7, 48, 3, 3, 200), (7, 54, 3, 7, 208), (7, 57, 4, 3, 158), (8, 15, 8, 0, 73), (8, 21, 8, 1, 74), (9, 14, 9, 0, 387), (9, 21, 9, 1, 388), (9, 25, 9, 2, 389), (9, 31, 9, 3, 390), (9, 38, 9, 4, 391), (9, 45, 9, 5, 392), (9, 52, 9, 6, 393), (9, 59, 9, 7, 394), (9, 90, 8, 1, 76), (9, 95, 0, 0, 94), (9, 123, 3, 0, 193), (9, 129, 3, 1, 196), (9, 139, 7, 0, 232), (9, 150, 3, 8, 211), (9, 167, 4, 6, 165), (9, 171, 4, 7, 166), (9, 185, 1, 2, 257), (9, 197, 4, 2, 156), (9, 201, 5, 3, 139), (9, 204, 5, 4, 141), (9, 210, 4, 3, 159), (9, 243, 0, 2, 97), (9, 249, 4, 4, 161), (9, 262, 3, 2, 198), (9, 268, 3, 7, 209), (9, 274, 3, 6, 206), (9, 277, 3, 4, 202), (9, 280, 4, 5, 163), (9, 283, 3, 5, 204), (10, 7, 10, 1, 772), (10, 13, 10, 3, 774), (10, 16, 10, 4, 775), (10, 20, 10, 5, 776), (10, 23, 10, 6, 777), (10, 26, 10, 7, 778), (10, 29, 10, 9, 780), (10, 32, 10, 10, 781), (10, 49, 10, 2, 773), (10, 53, 10, 8, 779), (10, 56, 10, 0, 771), (10, 75, 10, 11, 782)]
def am_fld (o ix : Nat) : Option (Nat × Nat) := (am_fl.find? (fun e => e.1 == o && e.2.1 == ix)).map (fun e => (e.2.2.1, e.2.2.2.1))
def am_cl : List (Nat × Nat × Nat × Nat × Nat × Nat × Nat × Nat) := [(9, 1, 3, 0, 61, 62, 0, 0), (9, 11, 2, 64, 66, 67, 0, 40), (9, 20, 2, 0, 10000, 88, 0, 42), (9, 30, 2, 52, 108, 109, 0, 43), (9, 37, 2, 9, 247, 248, 0, 48), (9, 44, 2, 46, 10001, 268, 0, 49), (9, 51, 2, 25, 10002, 126, 0, 45), (9, 58, 2, 13, 10003, 115, 0, 44), (9, 65, 0, 154, 283, 284, 285, 50), (9, 71, 0, 155, 293, 294, 295, 50), (9, 75, 0, 65, 331, 332, 333, 40), (9, 79, 0, 1, 335, 336, 337, 42), (9, 83, 0, 66, 386, 340, 341, 40), (9, 86, 1, 96, 417, 359, 0, 39), (9, 93, 0, 62, 430, 431, 432, 43), (9, 94, 0, 12, 454, 455, 456, 48), (9, 98, 0, 5, 462, 375, 376, 42), (9, 102, 0, 6, 463, 371, 372, 42), (9, 105, 0, 56, 464, 465, 466, 43), (9, 109, 0, 58, 472, 473, 474, 43), (9, 113, 0, 10, 476, 477, 478, 48), (9, 117, 0, 21, 511, 512, 513, 47), (9, 126, 0, 55, 519, 469, 470, 43), (9, 132, 0, 59, 520, 521, 522, 43), (9, 136, 0, 22, 528, 529, 530, 47), (9, 142, 0, 47, 536, 537, 538, 49), (9, 146, 0, 69, 566, 567, 568, 40), (9, 153, 0, 53, 577, 578, 579, 43), (9, 157, 1, 97, 581, 582, 0, 39), (9, 160, 0, 61, 584, 585, 586, 43), (9, 164, 0, 36, 593, 443, 444, 45), (9, 174, 0, 92, 598, 600, 5, 39), (9, 178, 0, 14, 670, 543, 544, 44), (9, 179, 0, 15, 671, 547, 548, 44), (9, 182, 0, 16, 672, 645, 646, 44), (9, 188, 0, 11, 677, 678, 679, 48), (9, 191, 0, 57, 685, 686, 687, 43), (9, 194, 0, 7, 627, 379, 380, 42), (9, 207, 0, 37, 698, 699, 700, 45), (9, 213, 0, 33, 706, 589, 590, 45), (9, 216, 0, 32, 707, 708, 709, 45), (9, 219, 0, 43, 715, 716, 717, 46), (9, 222, 0, 54, 661, 451, 452, 43), (9, 225, 0, 23, 723, 724, 725, 47), (9, 226, 0, 39, 735, 495, 496, 45), (9, 229, 0, 19, 736, 488, 489, 44), (9, 232, 0, 26, 602, 603, 604, 45), (9, 236, 0, 27, 633, 634, 635, 45), (9, 240, 0, 17, 737, 738, 739, 44), (9, 246, 0, 60, 745, 746, 747, 43), (9, 252, 0, 93, 607, 609, 6, 39), (9, 256, 0, 34, 628, 629, 630, 45), (9, 259, 0, 94, 662, 664, 13, 39), (9, 265, 0, 95, 611, 613, 7, 39), (9, 271, 0, 35, 623, 624, 625, 45), (9, 286, 0, 41, 615, 616, 617, 46), (0, 3, 3, 0, 90, 62, 0, 0), (0, 11, 2, 64, 92, 67, 0, 40), (0, 24, 0, 66, 339, 340, 341, 40), (0, 34, 1, 4, 343, 344, 0, 42), (0, 38, 0, 2, 361, 363, 0, 42), (0, 42, 0, 3, 366, 368, 1, 42), (0, 46, 0, 67, 346, 347, 348, 40), (0, 50, 0, 65, 365, 332, 333, 40), (0, 54, 0, 6, 370, 371, 372, 42), (0, 58, 0, 7, 378, 379, 380, 42), (0, 61, 1, 98, 10004, 351, 0, 39), (0, 65, 0, 8, 382, 383, 384, 42), (0, 69, 0, 68, 353, 354, 355, 40), (0, 72, 1, 96, 10005, 359, 0, 39), (0, 76, 0, 5, 374, 375, 376, 42), (1, 3, 3, 0, 250, 62, 0, 0), (1, 17, 2, 52, 253, 109, 0, 43), (1, 22, 1, 151, 480, 481, 0, 41), (1, 28, 0, 63, 483, 484, 485, 43), (1, 35, 1, 153, 508, 509, 0, 41), (2, 3, 3, 0, 117, 62, 0, 0), (2, 15, 0, 14, 550, 543, 544, 44), (2, 19, 4, 0, 491, 492, 0, 55), (3, 3, 3, 0, 191, 62, 0, 0), (4, 3, 3, 0, 128, 62, 0, 0), (4, 20, 2, 40, 10006, 132, 0, 46), (4, 29, 0, 6, 606, 371, 372, 42), (4, 39, 0, 7, 637, 379, 380, 42), (4, 43, 0, 8, 638, 383, 384, 42), (4, 47, 0, 28, 639, 641, 9, 45), (4, 51, 0, 29, 648, 650, 10, 45), (4, 58, 0, 15, 643, 547, 548, 44), (4, 63, 0, 16, 644, 645, 646, 44), (4, 67, 1, 98, 10007, 351, 0, 39), (4, 71, 0, 30, 653, 655, 11, 45), (4, 75, 0, 31, 657, 659, 12, 45), (4, 82, 0, 33, 632, 589, 590, 45), (4, 85, 0, 36, 442, 443, 444, 45), (4, 91, 0, 44, 446, 447, 448, 46), (4, 94, 4, 0, 498, 492, 0, 55), (4, 100, 0, 45, 499, 500, 501, 46), (5, 3, 3, 0, 134, 62, 0, 0), (5, 25, 0, 42, 619, 621, 8, 46), (5, 31, 4, 0, 503, 492, 0, 55), (6, 3, 3, 0, 270, 62, 0, 0), (6, 24, 0, 67, 540, 347, 348, 40), (6, 28, 0, 68, 541, 354, 355, 40), (6, 32, 0, 14, 542, 543, 544, 44), (6, 38, 0, 15, 546, 547, 548, 44), (6, 41, 0, 48, 551, 553, 2, 49), (6, 44, 0, 49, 555, 557, 3, 49), (6, 48, 0, 50, 559, 561, 4, 49), (6, 52, 1, 51, 563, 564, 0, 49), (7, 3, 3, 0, 111, 62, 0, 0), (7, 11, 2, 13, 10008, 115, 0, 44), (7, 20, 2, 25, 10009, 126, 0, 45), (7, 34, 2, 20, 188, 189, 0, 47), (7, 37, 0, 54, 450, 451, 452, 43), (7, 45, 0, 55, 468, 469, 470, 43), (7, 51, 0, 56, 689, 465, 466, 43), (7, 60, 0, 33, 588, 589, 590, 45), (7, 64, 0, 22, 592, 529, 530, 47), (7, 67, 0, 18, 434, 435, 436, 44), (7, 70, 0, 38, 438, 439, 440, 45), (7, 71, 0, 19, 487, 488, 489, 44), (7, 75, 0, 39, 494, 495, 496, 45), (7, 78, 0, 24, 504, 505, 506, 47), (8, 3, 3, 0, 69, 62, 0, 0), (8, 9, 1, 152, 70, 71, 0, 41), (8, 25, 0, 67, 357, 347, 348, 40), (8, 29, 2, 64, 571, 67, 0, 40), (8, 32, 0, 65, 572, 332, 333, 40), (11, 9, 2, 70, 58, 59, 0, 39), (11, 12, 2, 99, 751, 752, 0, 54), (11, 13, 0, 71, 413, 414, 415, 39), (11, 17, 0, 108, 808, 809, 810, 54), (11, 18, 0, 72, 418, 419, 420, 39), (11, 22, 0, 109, 812, 813, 814, 54), (11, 23, 0, 73, 422, 423, 424, 39), (11, 26, 0, 110, 816, 817, 818, 54), (11, 27, 0, 74, 426, 427, 428, 39), (11, 30, 0, 111, 835, 836, 837, 54), (11, 31, 0, 75, 458, 459, 460, 39), (11, 35, 0, 126, 862, 863, 864, 54), (11, 36, 0, 76, 515, 516, 517, 39), (11, 39, 0, 127, 885, 886, 887, 54), (11, 40, 0, 77, 524, 525, 526, 39), (11, 43, 0, 128, 893, 894, 895, 54), (11, 44, 0, 78, 532, 533, 534, 39), (11, 47, 0, 129, 897, 898, 899, 54), (11, 48, 0, 79, 573, 574, 575, 39), (11, 52, 0, 140, 946, 947, 948, 54), (11, 53, 0, 80, 594, 595, 596, 39), (11, 56, 0, 139, 901, 902, 903, 54), (11, 57, 0, 81, 666, 667, 668, 39), (11, 60, 0, 141, 950, 951, 952, 54), (11, 61, 0, 82, 673, 674, 675, 39), (11, 64, 0, 118, 858, 859, 860, 54), (11, 65, 0, 83, 681, 682, 683, 39), (11, 68, 0, 142, 954, 955, 956, 54), (11, 69, 0, 84, 690, 691, 692, 39), (11, 72, 0, 143, 958, 959, 960, 54), (11, 73, 0, 85, 694, 695, 696, 39), (11, 76, 0, 144, 962, 963, 964, 54), (11, 77, 0, 86, 702, 703, 704, 39), (11, 80, 0, 145, 966, 967, 968, 54), (11, 81, 0, 87, 711, 712, 713, 39), (11, 84, 0, 146, 970, 971, 972, 54), (11, 85, 0, 88, 719, 720, 721, 39), (11, 88, 0, 147, 974, 975, 976, 54), (11, 89, 0, 89, 727, 728, 729, 39), (11, 92, 0, 116, 839, 840, 841, 54), (11, 93, 0, 90, 731, 732, 733, 39), (11, 96, 0, 148, 978, 979, 980, 54), (11, 97, 0, 91, 741, 742, 743, 39), (11, 100, 0, 150, 982, 983, 984, 54), (10, 1, 3, 0, 754, 62, 0, 0), (10, 35, 0, 101, 755, 757, 14, 54), (10, 39, 0, 102, 763, 765, 16, 54), (10, 42, 0, 100, 759, 761, 15, 54), (10, 46, 0, 103, 767, 769, 17, 54), (10, 59, 1, 104, 832, 833, 0, 54), (10, 63, 0, 105, 828, 830, 20, 54), (10, 67, 0, 106, 824, 826, 19, 54), (10, 71, 0, 107, 820, 822, 18, 54), (10, 78, 1, 112, 855, 856, 0, 54), (10, 82, 0, 113, 847, 849, 22, 54), (10, 86, 0, 114, 851, 853, 23, 54), (10, 89, 0, 115, 843, 845, 21, 54), (10, 93, 0, 121, 866, 868, 24, 54), (10, 96, 1, 120, 874, 875, 0, 54), (10, 99, 0, 124, 870, 872, 25, 54), (10, 102, 0, 125, 877, 879, 26, 54), (10, 105, 0, 117, 881, 883, 27, 54), (10, 108, 0, 123, 889, 891, 28, 54), (10, 111, 1, 119, 908, 909, 0, 54), (10, 114, 0, 130, 923, 925, 32, 54), (10, 117, 1, 133, 935, 936, 0, 54), (10, 121, 0, 122, 915, 917, 30, 54), (10, 124, 0, 135, 931, 933, 34, 54), (10, 128, 0, 134, 938, 940, 35, 54), (10, 131, 0, 132, 919, 921, 31, 54), (10, 134, 0, 136, 927, 929, 33, 54), (10, 138, 0, 131, 942, 944, 36, 54), (10, 141, 1, 138, 905, 906, 0, 54), (10, 144, 0, 137, 911, 913, 29, 54), (10, 147, 0, 149, 986, 988, 37, 54), (13, 335, 0, 156, 287, 288, 289, 50), (13, 492, 0, 157, 297, 298, 299, 50), (13, 495, 1, 159, 301, 302, 0, 51), (13, 1059, 1, 160, 309, 310, 0, 52), (14, 9, 1, 158, 304, 305, 0, 50)]
def am_call (o ix : Nat) : Option (Nat × Nat) := (am_cl.find? (fun e => e.1 == o && e.2.1 == ix)).map (fun e => (e.2.2.1, e.2.2.2.1))
def am_nest : List Cond := [.methodLinkNest RX9 20 yX0_init "CodeProbes", .methodLinkNest RX9 44 yX6_init "CodeProbes", .methodLinkNest RX9 51 yX4_init "CodeProbes", .methodLinkNest RX9 58 yX2_init "CodeProbes", .methodLinkNest RX0 61 yX9_widthOf "CodeProbes", .methodLinkNest RX0 72 yX9_within "CodeProbes", .methodLinkNest RX4 20 yX5_init "CodeProbes", .methodLinkNest RX4 67 yX9_widthOf "CodeProbes", .methodLinkNest RX7 11 yX2_init "CodeProbes", .methodLinkNest RX7 20 yX4_init "CodeProbes"]
def am_nw : List (Nat × Nat × Nat × Nat × Nat × Nat) := [(0, 9, 8, 91, 65, 40), (1, 9, 7, 251, 107, 43), (4, 18, 5, 129, 130, 46), (7, 9, 2, 112, 113, 44), (7, 18, 4, 123, 124, 45), (7, 28, 3, 185, 187, 47), (8, 16, 8, 570, 65, 40), (9, 7, 8, 64, 65, 40), (9, 18, 0, 85, 86, 42), (9, 28, 7, 106, 107, 43), (9, 35, 1, 245, 246, 48), (9, 42, 6, 265, 266, 49), (9, 49, 4, 278, 124, 45), (9, 56, 2, 280, 113, 44), (11, 7, 9, 56, 57, 39), (11, 10, 10, 749, 750, 54)]
def am_new (o ix : Nat) : Option Nat := (am_nw.find? (fun e => e.1 == o && e.2.1 == ix)).map (fun e => e.2.2.1)
def am_an : List (Nat × Nat × Nat × Nat) := [(1, 9, 7, 251), (7, 28, 3, 185)]
def am_anew (o ix : Nat) : Option Nat := (am_an.find? (fun e => e.1 == o && e.2.1 == ix)).map (fun e => e.2.2.1)
def am_tags : List Nat := [25, 30, 31, 9, 8, 22, 0, 8, 22, 21, 0, 8, 22, 21, 7, 2, 20, 4, 20, 20, 5, 20, 20, 20, 4, 20, 20, 5, 20, 20, 20, 23, 3, 3, 3, 3, 3, 3, 1, 24, 7, 2, 20, 4, 20, 20, 5, 20, 20, 20, 4, 20, 20, 5, 20, 20, 20, 23, 3, 3, 3, 3, 3, 3, 7, 2, 20, 4, 20, 20, 5, 20, 20, 20, 4, 20, 20, 5, 20, 20, 20, 23, 3, 3, 3, 3, 3, 3, 7, 2, 20, 4, 20, 20, 5, 20, 20, 20, 4, 20, 20, 5, 20, 20, 20, 23, 3, 3, 3, 3, 3, 3, 7, 2, 20, 4, 20, 20, 5, 20, 20, 20, 4, 20, 20, 5, 20, 20, 20, 23, 3, 3, 3, 3, 3, 3, 6, 20, 4, 20, 20, 5, 20, 20, 20, 2, 20, 10, 20, 20, 21, 20, 20, 20, 21, 20]
def am_N0 : Nat := 156
def am_tag (a : Nat) : Nat := if a < 156 then am_tags.getD a 99 else if a % 2 = 0 then 8 else 22
def am_cN (ci : Nat) : Nat := ([3, 3, 1, 9, 8, 5, 2, 4, 2, 8, 12] : List Nat).getD ci 0
def am_ty (ci : Nat) : Nat → FieldType := ([tyX0, tyX1, tyX2, tyX3, tyX4, tyX5, tyX6, tyX7, tyX8, tyX9, tyX10] : List (Nat → FieldType)).getD ci tyX0
def am_fT (ci : Nat) : u_T := ([TX0, TX1, TX2, TX3, TX4, TX5, TX6, TX7, TX8, TX9, TX10] : List u_T).getD ci TX0
end
section
def am_lp : List (List Nat) := [[98, 100, 102], [258, 260, 262], [119], [212, 214, 216, 218, 220, 222, 224, 226, 228], [168, 170, 172, 174, 176, 178, 180, 182], [142, 144, 146, 148, 150], [273, 275], [236, 238, 240, 242], [79, 81], [395, 397, 399, 401, 403, 405, 407, 409], [783, 785, 787, 789, 791, 793, 795, 797, 799, 801, 803, 805]]
/-- the words that hold wherever the tables are warmer -/
def am_gw : List Cond := lw_tbl.filter goodWord
def am_at (i : Nat) (w : Cond) : Bool := decide (lw_tbl[i]? = some w) && goodWord w
theorem am_at_in {i : Nat} {w : Cond} (h : am_at i w = true) : w ∈ am_gw := by
  unfold am_at at h
  rw [Bool.and_eq_true, decide_eq_true_eq] at h
  exact List.mem_filter.mpr ⟨List.mem_of_getElem? h.1, h.2⟩
def am_ws (m : Nat) : List Cond := .code (am_y m) (am_c m) (am_nl m) (am_rt m) :: am_gw
def am_okM (m : Nat) : Bool := decide ((am_row m).2.2.2.2.2.2.2 ≠ 0) && plainFor (am_y m) && decide ((am_y m).cls ≠ "java/lang/invoke/MethodHandle") && decide ((am_y m).cls ≠ "java/lang/invoke/VarHandle") && decide ((parseMethodDescriptor (am_y m).desc).map (fun d => d.parameters.length) = some (am_np m)) && decide ((am_y m).cls = am_cn (am_own m)) && decide (am_nl m ≤ 19)
set_option maxRecDepth 100000 in
theorem am_mc_0 : lw_tbl[89]? = some (.code yX0_init cX0_init 1 none) := rfl
set_option maxRecDepth 100000 in
theorem am_mc_1 : lw_tbl[338]? = some (.code yX0_readFrom cX0_readFrom 4 (some .int)) := rfl
set_option maxRecDepth 100000 in
theorem am_mc_2 : lw_tbl[364]? = some (.code yX0_take cX0_take 5 none) := rfl
set_option maxRecDepth 100000 in
theorem am_mc_3 : lw_tbl[369]? = some (.code yX0_firstAstray cX0_firstAstray 3 (some .int)) := rfl
set_option maxRecDepth 100000 in
theorem am_mc_4 : lw_tbl[345]? = some (.code yX0_widthAt cX0_widthAt 4 (some .int)) := rfl
set_option maxRecDepth 100000 in
theorem am_mc_5 : lw_tbl[377]? = some (.code yX0_has cX0_has 2 (some .boolean)) := rfl
set_option maxRecDepth 100000 in
theorem am_mc_6 : lw_tbl[373]? = some (.code yX0_beginsAt cX0_beginsAt 2 (some .boolean)) := rfl
set_option maxRecDepth 100000 in
theorem am_mc_7 : lw_tbl[381]? = some (.code yX0_letterAt cX0_letterAt 2 (some .char)) := rfl
set_option maxRecDepth 100000 in
theorem am_mc_8 : lw_tbl[385]? = some (.code yX0_numberAt cX0_numberAt 2 (some .int)) := rfl
set_option maxRecDepth 100000 in
theorem am_mc_9 : lw_tbl[249]? = some (.code yX1_init cX1_init 2 none) := rfl
set_option maxRecDepth 100000 in
theorem am_mc_10 : lw_tbl[479]? = some (.code yX1_keep cX1_keep 3 none) := rfl
set_option maxRecDepth 100000 in
theorem am_mc_11 : lw_tbl[680]? = some (.code yX1_giveBack cX1_giveBack 4 none) := rfl
set_option maxRecDepth 100000 in
theorem am_mc_12 : lw_tbl[457]? = some (.code yX1_clear cX1_clear 1 none) := rfl
set_option maxRecDepth 100000 in
theorem am_mc_13 : lw_tbl[116]? = some (.code yX2_init cX2_init 1 none) := rfl
set_option maxRecDepth 100000 in
theorem am_mc_14 : lw_tbl[545]? = some (.code yX2_has cX2_has 2 (some .boolean)) := rfl
set_option maxRecDepth 100000 in
theorem am_mc_15 : lw_tbl[549]? = some (.code yX2_get cX2_get 2 (some .int)) := rfl
set_option maxRecDepth 100000 in
theorem am_mc_16 : lw_tbl[647]? = some (.code yX2_put cX2_put 3 none) := rfl
set_option maxRecDepth 100000 in
theorem am_mc_17 : lw_tbl[740]? = some (.code yX2_together cX2_together 3 (some .int)) := rfl
set_option maxRecDepth 100000 in
theorem am_mc_18 : lw_tbl[437]? = some (.code yX2_clear cX2_clear 2 none) := rfl
set_option maxRecDepth 100000 in
theorem am_mc_19 : lw_tbl[490]? = some (.code yX2_copyFrom cX2_copyFrom 2 none) := rfl
set_option maxRecDepth 100000 in
theorem am_mc_20 : lw_tbl[190]? = some (.code yX3_init cX3_init 2 none) := rfl
set_option maxRecDepth 100000 in
theorem am_mc_21 : lw_tbl[514]? = some (.code yX3_layOn cX3_layOn 3 none) := rfl
set_option maxRecDepth 100000 in
theorem am_mc_22 : lw_tbl[531]? = some (.code yX3_goIfNobodyIsInside cX3_goIfNobodyIsInside 1 none) := rfl
set_option maxRecDepth 100000 in
theorem am_mc_23 : lw_tbl[726]? = some (.code yX3_tell cX3_tell 2 (some .int)) := rfl
set_option maxRecDepth 100000 in
theorem am_mc_24 : lw_tbl[507]? = some (.code yX3_copyFrom cX3_copyFrom 2 none) := rfl
set_option maxRecDepth 100000 in
theorem am_mc_25 : lw_tbl[127]? = some (.code yX4_init cX4_init 1 none) := rfl
set_option maxRecDepth 100000 in
theorem am_mc_26 : lw_tbl[605]? = some (.code yX4_isAtInstruction cX4_isAtInstruction 2 (some .boolean)) := rfl
set_option maxRecDepth 100000 in
theorem am_mcs_0 : ∀ e ∈ am_tab_0, (e.2.2.2.2.2.2.2 = 0 ∨ lw_tbl[e.2.2.2.2.2.2.2]? = some (.code e.1 e.2.1 e.2.2.1 e.2.2.2.1)) := List.forall_mem_cons.mpr ⟨Or.inr am_mc_0, List.forall_mem_cons.mpr ⟨Or.inr am_mc_1, List.forall_mem_cons.mpr ⟨Or.inr am_mc_2, List.forall_mem_cons.mpr ⟨Or.inr am_mc_3, List.forall_mem_cons.mpr ⟨Or.inr am_mc_4, List.forall_mem_cons.mpr ⟨Or.inr am_mc_5, List.forall_mem_cons.mpr ⟨Or.inr am_mc_6, List.forall_mem_cons.mpr ⟨Or.inr am_mc_7, List.forall_mem_cons.mpr ⟨Or.inr am_mc_8, List.forall_mem_cons.mpr ⟨Or.inr am_mc_9, List.forall_mem_cons.mpr ⟨Or.inr am_mc_10, List.forall_mem_cons.mpr ⟨Or.inr am_mc_11, List.forall_mem_cons.mpr ⟨Or.inr am_mc_12, List.forall_mem_cons.mpr ⟨Or.inr am_mc_13, List.forall_mem_cons.mpr ⟨Or.inr am_mc_14, List.forall_mem_cons.mpr ⟨Or.inr am_mc_15, List.forall_mem_cons.mpr ⟨Or.inr am_mc_16, List.forall_mem_cons.mpr ⟨Or.inr am_mc_17, List.forall_mem_cons.mpr ⟨Or.inr am_mc_18, List.forall_mem_cons.mpr ⟨Or.inr am_mc_19, List.forall_mem_cons.mpr ⟨Or.inr am_mc_20, List.forall_mem_cons.mpr ⟨Or.inr am_mc_21, List.forall_mem_cons.mpr ⟨Or.inr am_mc_22, List.forall_mem_cons.mpr ⟨Or.inr am_mc_23, List.forall_mem_cons.mpr ⟨Or.inr am_mc_24, List.forall_mem_cons.mpr ⟨Or.inr am_mc_25, List.forall_mem_cons.mpr ⟨Or.inr am_mc_26, fun _ h => absurd h List.not_mem_nil⟩⟩⟩⟩⟩⟩⟩⟩⟩⟩⟩⟩⟩⟩⟩⟩⟩⟩⟩⟩⟩⟩⟩⟩⟩⟩⟩
set_option maxRecDepth 100000 in
theorem am_mc_27 : lw_tbl[636]? = some (.code yX4_perform cX4_perform 5 none) := rfl
set_option maxRecDepth 100000 in
theorem am_mc_28 : lw_tbl[642]? = some (.code yX4_reckon cX4_reckon 4 none) := rfl
set_option maxRecDepth 100000 in
theorem am_mc_29 : lw_tbl[651]? = some (.code yX4_goingOn cX4_goingOn 4 (some .int)) := rfl
set_option maxRecDepth 100000 in
theorem am_mc_30 : lw_tbl[656]? = some (.code yX4_called cX4_called 3 (some .int)) := rfl
set_option maxRecDepth 100000 in
theorem am_mc_31 : lw_tbl[660]? = some (.code yX4_returned cX4_returned 1 (some .int)) := rfl
set_option maxRecDepth 100000 in
theorem am_mc_32 : lw_tbl[710]? = some (.code yX4_returnAt cX4_returnAt 2 (some .int)) := rfl
set_option maxRecDepth 100000 in
theorem am_mc_33 : lw_tbl[591]? = some (.code yX4_holderAt cX4_holderAt 2 (some .int)) := rfl
set_option maxRecDepth 100000 in
theorem am_mc_34 : lw_tbl[631]? = some (.code yX4_topHolder cX4_topHolder 1 (some .int)) := rfl
set_option maxRecDepth 100000 in
theorem am_mc_35 : lw_tbl[626]? = some (.code yX4_holdTop cX4_holdTop 3 (some .boolean)) := rfl
set_option maxRecDepth 100000 in
theorem am_mc_36 : lw_tbl[445]? = some (.code yX4_goTo cX4_goTo 3 none) := rfl
set_option maxRecDepth 100000 in
theorem am_mc_37 : lw_tbl[701]? = some (.code yX4_tell cX4_tell 2 (some .int)) := rfl
set_option maxRecDepth 100000 in
theorem am_mc_38 : lw_tbl[441]? = some (.code yX4_clear cX4_clear 1 none) := rfl
set_option maxRecDepth 100000 in
theorem am_mc_39 : lw_tbl[497]? = some (.code yX4_copyFrom cX4_copyFrom 2 none) := rfl
set_option maxRecDepth 100000 in
theorem am_mc_40 : lw_tbl[133]? = some (.code yX5_init cX5_init 1 none) := rfl
set_option maxRecDepth 100000 in
theorem am_mc_41 : lw_tbl[618]? = some (.code yX5_enter cX5_enter 4 none) := rfl
set_option maxRecDepth 100000 in
theorem am_mc_42 : lw_tbl[622]? = some (.code yX5_loseOldest cX5_loseOldest 2 none) := rfl
set_option maxRecDepth 100000 in
theorem am_mc_43 : lw_tbl[718]? = some (.code yX5_tell cX5_tell 3 (some .int)) := rfl
set_option maxRecDepth 100000 in
theorem am_mc_44 : lw_tbl[449]? = some (.code yX5_clear cX5_clear 1 none) := rfl
set_option maxRecDepth 100000 in
theorem am_mc_45 : lw_tbl[502]? = some (.code yX5_copyFrom cX5_copyFrom 2 none) := rfl
set_option maxRecDepth 100000 in
theorem am_mc_46 : lw_tbl[269]? = some (.code yX6_init cX6_init 1 none) := rfl
set_option maxRecDepth 100000 in
theorem am_mc_47 : lw_tbl[539]? = some (.code yX6_ask cX6_ask 8 (some .int)) := rfl
set_option maxRecDepth 100000 in
theorem am_mc_48 : lw_tbl[554]? = some (.code yX6_put cX6_put 2 (some .boolean)) := rfl
set_option maxRecDepth 100000 in
theorem am_mc_49 : lw_tbl[558]? = some (.code yX6_turnTop cX6_turnTop 2 (some .boolean)) := rfl
set_option maxRecDepth 100000 in
theorem am_mc_50 : lw_tbl[562]? = some (.code yX6_join cX6_join 4 (some .boolean)) := rfl
set_option maxRecDepth 100000 in
theorem am_mc_51 : lw_tbl[565]? = some (.code yX6_joined cX6_joined 3 (some .int)) := rfl
set_option maxRecDepth 100000 in
theorem am_mc_52 : lw_tbl[110]? = some (.code yX7_init cX7_init 2 none) := rfl
set_option maxRecDepth 100000 in
theorem am_mc_53 : lw_tbl[580]? = some (.code yX7_processorOrNull cX7_processorOrNull 2 (some (.object "CodeProbes$Processor"))) := rfl
set_option maxRecDepth 100000 in
theorem am_mcs_1 : ∀ e ∈ am_tab_1, (e.2.2.2.2.2.2.2 = 0 ∨ lw_tbl[e.2.2.2.2.2.2.2]? = some (.code e.1 e.2.1 e.2.2.1 e.2.2.2.1)) := List.forall_mem_cons.mpr ⟨Or.inr am_mc_27, List.forall_mem_cons.mpr ⟨Or.inr am_mc_28, List.forall_mem_cons.mpr ⟨Or.inr am_mc_29, List.forall_mem_cons.mpr ⟨Or.inr am_mc_30, List.forall_mem_cons.mpr ⟨Or.inr am_mc_31, List.forall_mem_cons.mpr ⟨Or.inr am_mc_32, List.forall_mem_cons.mpr ⟨Or.inr am_mc_33, List.forall_mem_cons.mpr ⟨Or.inr am_mc_34, List.forall_mem_cons.mpr ⟨Or.inr am_mc_35, List.forall_mem_cons.mpr ⟨Or.inr am_mc_36, List.forall_mem_cons.mpr ⟨Or.inr am_mc_37, List.forall_mem_cons.mpr ⟨Or.inr am_mc_38, List.forall_mem_cons.mpr ⟨Or.inr am_mc_39, List.forall_mem_cons.mpr ⟨Or.inr am_mc_40, List.forall_mem_cons.mpr ⟨Or.inr am_mc_41, List.forall_mem_cons.mpr ⟨Or.inr am_mc_42, List.forall_mem_cons.mpr ⟨Or.inr am_mc_43, List.forall_mem_cons.mpr ⟨Or.inr am_mc_44, List.forall_mem_cons.mpr ⟨Or.inr am_mc_45, List.forall_mem_cons.mpr ⟨Or.inr am_mc_46, List.forall_mem_cons.mpr ⟨Or.inr am_mc_47, List.forall_mem_cons.mpr ⟨Or.inr am_mc_48, List.forall_mem_cons.mpr ⟨Or.inr am_mc_49, List.forall_mem_cons.mpr ⟨Or.inr am_mc_50, List.forall_mem_cons.mpr ⟨Or.inr am_mc_51, List.forall_mem_cons.mpr ⟨Or.inr am_mc_52, List.forall_mem_cons.mpr ⟨Or.inr am_mc_53, fun _ h => absurd h List.not_mem_nil⟩⟩⟩⟩⟩⟩⟩⟩⟩⟩⟩⟩⟩⟩⟩⟩⟩⟩⟩⟩⟩⟩⟩⟩⟩⟩⟩
set_option maxRecDepth 100000 in
theorem am_mc_54 : lw_tbl[453]? = some (.code yX7_probeOrNull cX7_probeOrNull 2 (some (.object "CodeProbes$Probe"))) := rfl
set_option maxRecDepth 100000 in
theorem am_mc_55 : lw_tbl[471]? = some (.code yX7_probeNotGone cX7_probeNotGone 3 (some (.object "CodeProbes$Probe"))) := rfl
set_option maxRecDepth 100000 in
theorem am_mc_56 : lw_tbl[467]? = some (.code yX7_probeOn cX7_probeOn 4 (some (.object "CodeProbes$Probe"))) := rfl
set_option maxRecDepth 100000 in
theorem am_mc_57 : lw_tbl[688]? = some (.code yX7_probeIsOnAt cX7_probeIsOnAt 3 (some .boolean)) := rfl
set_option maxRecDepth 100000 in
theorem am_mc_58 : lw_tbl[475]? = some (.code yX7_lowestGone cX7_lowestGone 2 (some (.object "CodeProbes$Probe"))) := rfl
set_option maxRecDepth 100000 in
theorem am_mc_59 : lw_tbl[523]? = some (.code yX7_howManyAre cX7_howManyAre 5 (some .int)) := rfl
set_option maxRecDepth 100000 in
theorem am_mc_60 : lw_tbl[748]? = some (.code yX7_howManyHeld cX7_howManyHeld 4 (some .int)) := rfl
set_option maxRecDepth 100000 in
theorem am_mc_61 : lw_tbl[587]? = some (.code yX7_letGoReturns cX7_letGoReturns 5 (some .int)) := rfl
set_option maxRecDepth 100000 in
theorem am_mc_62 : lw_tbl[433]? = some (.code yX7_clear cX7_clear 3 none) := rfl
set_option maxRecDepth 100000 in
theorem am_mc_63 : lw_tbl[486]? = some (.code yX7_copyFrom cX7_copyFrom 5 none) := rfl
set_option maxRecDepth 100000 in
theorem am_mc_64 : lw_tbl[68]? = some (.code yX8_init cX8_init 2 none) := rfl
set_option maxRecDepth 100000 in
theorem am_mc_65 : lw_tbl[334]? = some (.code yX8_add cX8_add 2 (some .boolean)) := rfl
set_option maxRecDepth 100000 in
theorem am_mc_66 : lw_tbl[342]? = some (.code yX8_clear cX8_clear 1 none) := rfl
set_option maxRecDepth 100000 in
theorem am_mc_67 : lw_tbl[349]? = some (.code yX8_at cX8_at 2 (some .char)) := rfl
set_option maxRecDepth 100000 in
theorem am_mc_68 : lw_tbl[356]? = some (.code yX8_figureAt cX8_figureAt 3 (some .int)) := rfl
set_option maxRecDepth 100000 in
theorem am_mc_69 : lw_tbl[569]? = some (.code yX8_copy cX8_copy 3 (some (.object "CodeProbes$Text"))) := rfl
set_option maxRecDepth 100000 in
theorem am_mc_70 : lw_tbl[60]? = some (.code yX9_init cX9_init 2 none) := rfl
set_option maxRecDepth 100000 in
theorem am_mc_71 : lw_tbl[416]? = some (.code yX9_write cX9_write 2 (some .int)) := rfl
set_option maxRecDepth 100000 in
theorem am_mc_72 : lw_tbl[421]? = some (.code yX9_wipe cX9_wipe 2 (some .int)) := rfl
set_option maxRecDepth 100000 in
theorem am_mc_73 : lw_tbl[425]? = some (.code yX9_fault cX9_fault 1 (some .int)) := rfl
set_option maxRecDepth 100000 in
theorem am_mc_74 : lw_tbl[429]? = some (.code yX9_lay cX9_lay 1 (some .int)) := rfl
set_option maxRecDepth 100000 in
theorem am_mc_75 : lw_tbl[461]? = some (.code yX9_probe cX9_probe 4 (some .int)) := rfl
set_option maxRecDepth 100000 in
theorem am_mc_76 : lw_tbl[518]? = some (.code yX9_turn cX9_turn 5 (some .int)) := rfl
set_option maxRecDepth 100000 in
theorem am_mc_77 : lw_tbl[527]? = some (.code yX9_remove cX9_remove 3 (some .int)) := rfl
set_option maxRecDepth 100000 in
theorem am_mc_78 : lw_tbl[535]? = some (.code yX9_filter cX9_filter 3 (some .int)) := rfl
set_option maxRecDepth 100000 in
theorem am_mc_79 : lw_tbl[576]? = some (.code yX9_start cX9_start 6 (some .int)) := rfl
set_option maxRecDepth 100000 in
theorem am_mc_80 : lw_tbl[597]? = some (.code yX9_step cX9_step 6 (some .int)) := rfl
set_option maxRecDepth 100000 in
theorem am_mcs_2 : ∀ e ∈ am_tab_2, (e.2.2.2.2.2.2.2 = 0 ∨ lw_tbl[e.2.2.2.2.2.2.2]? = some (.code e.1 e.2.1 e.2.2.1 e.2.2.2.1)) := List.forall_mem_cons.mpr ⟨Or.inr am_mc_54, List.forall_mem_cons.mpr ⟨Or.inr am_mc_55, List.forall_mem_cons.mpr ⟨Or.inr am_mc_56, List.forall_mem_cons.mpr ⟨Or.inr am_mc_57, List.forall_mem_cons.mpr ⟨Or.inr am_mc_58, List.forall_mem_cons.mpr ⟨Or.inr am_mc_59, List.forall_mem_cons.mpr ⟨Or.inr am_mc_60, List.forall_mem_cons.mpr ⟨Or.inr am_mc_61, List.forall_mem_cons.mpr ⟨Or.inr am_mc_62, List.forall_mem_cons.mpr ⟨Or.inr am_mc_63, List.forall_mem_cons.mpr ⟨Or.inr am_mc_64, List.forall_mem_cons.mpr ⟨Or.inr am_mc_65, List.forall_mem_cons.mpr ⟨Or.inr am_mc_66, List.forall_mem_cons.mpr ⟨Or.inr am_mc_67, List.forall_mem_cons.mpr ⟨Or.inr am_mc_68, List.forall_mem_cons.mpr ⟨Or.inr am_mc_69, List.forall_mem_cons.mpr ⟨Or.inr am_mc_70, List.forall_mem_cons.mpr ⟨Or.inr am_mc_71, List.forall_mem_cons.mpr ⟨Or.inr am_mc_72, List.forall_mem_cons.mpr ⟨Or.inr am_mc_73, List.forall_mem_cons.mpr ⟨Or.inr am_mc_74, List.forall_mem_cons.mpr ⟨Or.inr am_mc_75, List.forall_mem_cons.mpr ⟨Or.inr am_mc_76, List.forall_mem_cons.mpr ⟨Or.inr am_mc_77, List.forall_mem_cons.mpr ⟨Or.inr am_mc_78, List.forall_mem_cons.mpr ⟨Or.inr am_mc_79, List.forall_mem_cons.mpr ⟨Or.inr am_mc_80, fun _ h => absurd h List.not_mem_nil⟩⟩⟩⟩⟩⟩⟩⟩⟩⟩⟩⟩⟩⟩⟩⟩⟩⟩⟩⟩⟩⟩⟩⟩⟩⟩⟩
set_option maxRecDepth 100000 in
theorem am_mc_81 : lw_tbl[669]? = some (.code yX9_poke cX9_poke 4 (some .int)) := rfl
set_option maxRecDepth 100000 in
theorem am_mc_82 : lw_tbl[676]? = some (.code yX9_undo cX9_undo 1 (some .int)) := rfl
set_option maxRecDepth 100000 in
theorem am_mc_83 : lw_tbl[684]? = some (.code yX9_code cX9_code 4 (some .int)) := rfl
set_option maxRecDepth 100000 in
theorem am_mc_84 : lw_tbl[693]? = some (.code yX9_memory cX9_memory 2 (some .int)) := rfl
set_option maxRecDepth 100000 in
theorem am_mc_85 : lw_tbl[697]? = some (.code yX9_processor cX9_processor 4 (some .int)) := rfl
set_option maxRecDepth 100000 in
theorem am_mc_86 : lw_tbl[705]? = some (.code yX9_returns cX9_returns 6 (some .int)) := rfl
set_option maxRecDepth 100000 in
theorem am_mc_87 : lw_tbl[714]? = some (.code yX9_ring cX9_ring 5 (some .int)) := rfl
set_option maxRecDepth 100000 in
theorem am_mc_88 : lw_tbl[722]? = some (.code yX9_look cX9_look 4 (some .int)) := rfl
set_option maxRecDepth 100000 in
theorem am_mc_89 : lw_tbl[730]? = some (.code yX9_asked cX9_asked 2 (some .int)) := rfl
set_option maxRecDepth 100000 in
theorem am_mc_90 : lw_tbl[734]? = some (.code yX9_ever cX9_ever 6 (some .int)) := rfl
set_option maxRecDepth 100000 in
theorem am_mc_91 : lw_tbl[744]? = some (.code yX9_count cX9_count 2 (some .int)) := rfl
set_option maxRecDepth 100000 in
theorem am_mc_92 : lw_tbl[601]? = some (.code yX9_stepWithProbes cX9_stepWithProbes 5 none) := rfl
set_option maxRecDepth 100000 in
theorem am_mc_93 : lw_tbl[610]? = some (.code yX9_comeBy cX9_comeBy 3 none) := rfl
set_option maxRecDepth 100000 in
theorem am_mc_94 : lw_tbl[665]? = some (.code yX9_leave cX9_leave 3 none) := rfl
set_option maxRecDepth 100000 in
theorem am_mc_95 : lw_tbl[614]? = some (.code yX9_hit cX9_hit 3 none) := rfl
set_option maxRecDepth 100000 in
theorem am_mc_96 : lw_tbl[360]? = some (.code yX9_within cX9_within 3 (some .boolean)) := rfl
set_option maxRecDepth 100000 in
theorem am_mc_97 : lw_tbl[583]? = some (.code yX9_isNumber cX9_isNumber 1 (some .boolean)) := rfl
set_option maxRecDepth 100000 in
theorem am_mc_98 : lw_tbl[352]? = some (.code yX9_widthOf cX9_widthOf 1 (some .int)) := rfl
set_option maxRecDepth 100000 in
theorem am_mc_99 : lw_tbl[753]? = some (.code yX10_init cX10_init 1 none) := rfl
set_option maxRecDepth 100000 in
theorem am_mc_100 : lw_tbl[762]? = some (.code yX10_none cX10_none 2 none) := rfl
set_option maxRecDepth 100000 in
theorem am_mc_101 : lw_tbl[758]? = some (.code yX10_one cX10_one 3 none) := rfl
set_option maxRecDepth 100000 in
theorem am_mc_102 : lw_tbl[766]? = some (.code yX10_two cX10_two 3 none) := rfl
set_option maxRecDepth 100000 in
theorem am_mc_103 : lw_tbl[770]? = some (.code yX10_empties cX10_empties 2 none) := rfl
set_option maxRecDepth 100000 in
theorem am_mc_104 : lw_tbl[834]? = some (.code yX10_isIn cX10_isIn 3 (some .boolean)) := rfl
set_option maxRecDepth 100000 in
theorem am_mc_105 : lw_tbl[831]? = some (.code yX10_isFigure cX10_isFigure 3 (some .boolean)) := rfl
set_option maxRecDepth 100000 in
theorem am_mc_106 : lw_tbl[827]? = some (.code yX10_wideAt cX10_wideAt 2 (some .int)) := rfl
set_option maxRecDepth 100000 in
theorem am_mc_107 : lw_tbl[823]? = some (.code yX10_reads cX10_reads 4 (some .int)) := rfl
set_option maxRecDepth 100000 in
theorem am_mcs_3 : ∀ e ∈ am_tab_3, (e.2.2.2.2.2.2.2 = 0 ∨ lw_tbl[e.2.2.2.2.2.2.2]? = some (.code e.1 e.2.1 e.2.2.1 e.2.2.2.1)) := List.forall_mem_cons.mpr ⟨Or.inr am_mc_81, List.forall_mem_cons.mpr ⟨Or.inr am_mc_82, List.forall_mem_cons.mpr ⟨Or.inr am_mc_83, List.forall_mem_cons.mpr ⟨Or.inr am_mc_84, List.forall_mem_cons.mpr ⟨Or.inr am_mc_85, List.forall_mem_cons.mpr ⟨Or.inr am_mc_86, List.forall_mem_cons.mpr ⟨Or.inr am_mc_87, List.forall_mem_cons.mpr ⟨Or.inr am_mc_88, List.forall_mem_cons.mpr ⟨Or.inr am_mc_89, List.forall_mem_cons.mpr ⟨Or.inr am_mc_90, List.forall_mem_cons.mpr ⟨Or.inr am_mc_91, List.forall_mem_cons.mpr ⟨Or.inr am_mc_92, List.forall_mem_cons.mpr ⟨Or.inr am_mc_93, List.forall_mem_cons.mpr ⟨Or.inr am_mc_94, List.forall_mem_cons.mpr ⟨Or.inr am_mc_95, List.forall_mem_cons.mpr ⟨Or.inr am_mc_96, List.forall_mem_cons.mpr ⟨Or.inr am_mc_97, List.forall_mem_cons.mpr ⟨Or.inr am_mc_98, List.forall_mem_cons.mpr ⟨Or.inr am_mc_99, List.forall_mem_cons.mpr ⟨Or.inr am_mc_100, List.forall_mem_cons.mpr ⟨Or.inr am_mc_101, List.forall_mem_cons.mpr ⟨Or.inr am_mc_102, List.forall_mem_cons.mpr ⟨Or.inr am_mc_103, List.forall_mem_cons.mpr ⟨Or.inr am_mc_104, List.forall_mem_cons.mpr ⟨Or.inr am_mc_105, List.forall_mem_cons.mpr ⟨Or.inr am_mc_106, List.forall_mem_cons.mpr ⟨Or.inr am_mc_107, fun _ h => absurd h List.not_mem_nil⟩⟩⟩⟩⟩⟩⟩⟩⟩⟩⟩⟩⟩⟩⟩⟩⟩⟩⟩⟩⟩⟩⟩⟩⟩⟩⟩
set_option maxRecDepth 100000 in
theorem am_mc_108 : lw_tbl[811]? = some (.code yX10_write cX10_write 2 (some .int)) := rfl
set_option maxRecDepth 100000 in
theorem am_mc_109 : lw_tbl[815]? = some (.code yX10_wipe cX10_wipe 2 (some .int)) := rfl
set_option maxRecDepth 100000 in
theorem am_mc_110 : lw_tbl[819]? = some (.code yX10_fault cX10_fault 1 (some .int)) := rfl
set_option maxRecDepth 100000 in
theorem am_mc_111 : lw_tbl[838]? = some (.code yX10_lay cX10_lay 2 (some .int)) := rfl
set_option maxRecDepth 100000 in
theorem am_mc_112 : lw_tbl[857]? = some (.code yX10_both cX10_both 3 (some .int)) := rfl
set_option maxRecDepth 100000 in
theorem am_mc_113 : lw_tbl[850]? = some (.code yX10_comes cX10_comes 2 (some .boolean)) := rfl
set_option maxRecDepth 100000 in
theorem am_mc_114 : lw_tbl[854]? = some (.code yX10_takes cX10_takes 2 (some .boolean)) := rfl
set_option maxRecDepth 100000 in
theorem am_mc_115 : lw_tbl[846]? = some (.code yX10_asks cX10_asks 8 (some .int)) := rfl
set_option maxRecDepth 100000 in
theorem am_mc_116 : lw_tbl[842]? = some (.code yX10_asked cX10_asked 3 (some .int)) := rfl
set_option maxRecDepth 100000 in
theorem am_mc_117 : lw_tbl[884]? = some (.code yX10_keeps cX10_keeps 2 none) := rfl
set_option maxRecDepth 100000 in
theorem am_mc_118 : lw_tbl[861]? = some (.code yX10_undo cX10_undo 2 (some .int)) := rfl
set_option maxRecDepth 100000 in
theorem am_mc_119 : lw_tbl[910]? = some (.code yX10_processorAt cX10_processorAt 1 (some .int)) := rfl
set_option maxRecDepth 100000 in
theorem am_mc_120 : lw_tbl[876]? = some (.code yX10_probeAt cX10_probeAt 1 (some .int)) := rfl
set_option maxRecDepth 100000 in
theorem am_mc_121 : lw_tbl[869]? = some (.code yX10_isCell cX10_isCell 2 (some .boolean)) := rfl
set_option maxRecDepth 100000 in
theorem am_mc_122 : lw_tbl[918]? = some (.code yX10_isBegin cX10_isBegin 2 (some .boolean)) := rfl
set_option maxRecDepth 100000 in
theorem am_mc_123 : lw_tbl[892]? = some (.code yX10_isProbe cX10_isProbe 2 (some .boolean)) := rfl
set_option maxRecDepth 100000 in
theorem am_mc_124 : lw_tbl[873]? = some (.code yX10_probeOn cX10_probeOn 3 (some .int)) := rfl
set_option maxRecDepth 100000 in
theorem am_mc_125 : lw_tbl[880]? = some (.code yX10_manyThat cX10_manyThat 4 (some .int)) := rfl
set_option maxRecDepth 100000 in
theorem am_mc_126 : lw_tbl[865]? = some (.code yX10_probe cX10_probe 5 (some .int)) := rfl
set_option maxRecDepth 100000 in
theorem am_mc_127 : lw_tbl[888]? = some (.code yX10_turn cX10_turn 4 (some .int)) := rfl
set_option maxRecDepth 100000 in
theorem am_mc_128 : lw_tbl[896]? = some (.code yX10_remove cX10_remove 3 (some .int)) := rfl
set_option maxRecDepth 100000 in
theorem am_mc_129 : lw_tbl[900]? = some (.code yX10_filter cX10_filter 4 (some .int)) := rfl
set_option maxRecDepth 100000 in
theorem am_mc_130 : lw_tbl[926]? = some (.code yX10_hits cX10_hits 7 none) := rfl
set_option maxRecDepth 100000 in
theorem am_mc_131 : lw_tbl[945]? = some (.code yX10_frees cX10_frees 3 none) := rfl
set_option maxRecDepth 100000 in
theorem am_mc_132 : lw_tbl[922]? = some (.code yX10_meets cX10_meets 6 none) := rfl
set_option maxRecDepth 100000 in
theorem am_mc_133 : lw_tbl[937]? = some (.code yX10_figures cX10_figures 2 (some .int)) := rfl
set_option maxRecDepth 100000 in
theorem am_mc_134 : lw_tbl[941]? = some (.code yX10_plain cX10_plain 5 (some .int)) := rfl
set_option maxRecDepth 100000 in
theorem am_mcs_4 : ∀ e ∈ am_tab_4, (e.2.2.2.2.2.2.2 = 0 ∨ lw_tbl[e.2.2.2.2.2.2.2]? = some (.code e.1 e.2.1 e.2.2.1 e.2.2.2.1)) := List.forall_mem_cons.mpr ⟨Or.inr am_mc_108, List.forall_mem_cons.mpr ⟨Or.inr am_mc_109, List.forall_mem_cons.mpr ⟨Or.inr am_mc_110, List.forall_mem_cons.mpr ⟨Or.inr am_mc_111, List.forall_mem_cons.mpr ⟨Or.inr am_mc_112, List.forall_mem_cons.mpr ⟨Or.inr am_mc_113, List.forall_mem_cons.mpr ⟨Or.inr am_mc_114, List.forall_mem_cons.mpr ⟨Or.inr am_mc_115, List.forall_mem_cons.mpr ⟨Or.inr am_mc_116, List.forall_mem_cons.mpr ⟨Or.inr am_mc_117, List.forall_mem_cons.mpr ⟨Or.inr am_mc_118, List.forall_mem_cons.mpr ⟨Or.inr am_mc_119, List.forall_mem_cons.mpr ⟨Or.inr am_mc_120, List.forall_mem_cons.mpr ⟨Or.inr am_mc_121, List.forall_mem_cons.mpr ⟨Or.inr am_mc_122, List.forall_mem_cons.mpr ⟨Or.inr am_mc_123, List.forall_mem_cons.mpr ⟨Or.inr am_mc_124, List.forall_mem_cons.mpr ⟨Or.inr am_mc_125, List.forall_mem_cons.mpr ⟨Or.inr am_mc_126, List.forall_mem_cons.mpr ⟨Or.inr am_mc_127, List.forall_mem_cons.mpr ⟨Or.inr am_mc_128, List.forall_mem_cons.mpr ⟨Or.inr am_mc_129, List.forall_mem_cons.mpr ⟨Or.inr am_mc_130, List.forall_mem_cons.mpr ⟨Or.inr am_mc_131, List.forall_mem_cons.mpr ⟨Or.inr am_mc_132, List.forall_mem_cons.mpr ⟨Or.inr am_mc_133, List.forall_mem_cons.mpr ⟨Or.inr am_mc_134, fun _ h => absurd h List.not_mem_nil⟩⟩⟩⟩⟩⟩⟩⟩⟩⟩⟩⟩⟩⟩⟩⟩⟩⟩⟩⟩⟩⟩⟩⟩⟩⟩⟩
set_option maxRecDepth 100000 in
theorem am_mc_135 : lw_tbl[934]? = some (.code yX10_turns cX10_turns 5 (some .int)) := rfl
set_option maxRecDepth 100000 in
theorem am_mc_136 : lw_tbl[930]? = some (.code yX10_goes cX10_goes 6 (some .boolean)) := rfl
set_option maxRecDepth 100000 in
theorem am_mc_137 : lw_tbl[914]? = some (.code yX10_does cX10_does 7 (some .boolean)) := rfl
set_option maxRecDepth 100000 in
theorem am_mc_138 : lw_tbl[907]? = some (.code yX10_isProcessor cX10_isProcessor 1 (some .boolean)) := rfl
set_option maxRecDepth 100000 in
theorem am_mc_139 : lw_tbl[904]? = some (.code yX10_step cX10_step 5 (some .int)) := rfl
set_option maxRecDepth 100000 in
theorem am_mc_140 : lw_tbl[949]? = some (.code yX10_start cX10_start 7 (some .int)) := rfl
set_option maxRecDepth 100000 in
theorem am_mc_141 : lw_tbl[953]? = some (.code yX10_poke cX10_poke 4 (some .int)) := rfl
set_option maxRecDepth 100000 in
theorem am_mc_142 : lw_tbl[957]? = some (.code yX10_code cX10_code 4 (some .int)) := rfl
set_option maxRecDepth 100000 in
theorem am_mc_143 : lw_tbl[961]? = some (.code yX10_memory cX10_memory 2 (some .int)) := rfl
set_option maxRecDepth 100000 in
theorem am_mc_144 : lw_tbl[965]? = some (.code yX10_processor cX10_processor 4 (some .int)) := rfl
set_option maxRecDepth 100000 in
theorem am_mc_145 : lw_tbl[969]? = some (.code yX10_returns cX10_returns 5 (some .int)) := rfl
set_option maxRecDepth 100000 in
theorem am_mc_146 : lw_tbl[973]? = some (.code yX10_ring cX10_ring 5 (some .int)) := rfl
set_option maxRecDepth 100000 in
theorem am_mc_147 : lw_tbl[977]? = some (.code yX10_look cX10_look 4 (some .int)) := rfl
set_option maxRecDepth 100000 in
theorem am_mc_148 : lw_tbl[981]? = some (.code yX10_ever cX10_ever 7 (some .int)) := rfl
set_option maxRecDepth 100000 in
theorem am_mc_149 : lw_tbl[989]? = some (.code yX10_heldInAll cX10_heldInAll 3 (some .int)) := rfl
set_option maxRecDepth 100000 in
theorem am_mc_150 : lw_tbl[985]? = some (.code yX10_count cX10_count 4 (some .int)) := rfl
set_option maxRecDepth 100000 in
theorem am_mc_151 : lw_tbl[482]? = some (.code yJ9_floorMod_7cf53 cJ9_floorMod_7cf53 3 (some .int)) := rfl
set_option maxRecDepth 100000 in
theorem am_mc_152 : lw_tbl[72]? = some (.code yJ9_max_7cf53 cJ9_max_7cf53 2 (some .int)) := rfl
set_option maxRecDepth 100000 in
theorem am_mc_153 : lw_tbl[510]? = some (.code yJ9_min_7cf53 cJ9_min_7cf53 2 (some .int)) := rfl
set_option maxRecDepth 100000 in
theorem am_mc_154 : lw_tbl[286]? = some (.code yJ0_length_8abf5 cJ0_length_8abf5 1 (some .int)) := rfl
set_option maxRecDepth 100000 in
theorem am_mc_155 : lw_tbl[296]? = some (.code yJ0_charAt_5068e cJ0_charAt_5068e 2 (some .char)) := rfl
set_option maxRecDepth 100000 in
theorem am_mc_156 : lw_tbl[290]? = some (.code yJ0_coder_7d493 cJ0_coder_7d493 1 (some .byte)) := rfl
set_option maxRecDepth 100000 in
theorem am_mc_157 : lw_tbl[300]? = some (.code yJ0_isLatin1_aae02 cJ0_isLatin1_aae02 1 (some .boolean)) := rfl
set_option maxRecDepth 100000 in
theorem am_mc_158 : lw_tbl[306]? = some (.code yJ0_checkIndex_df160 cJ0_checkIndex_df160 2 none) := rfl
set_option maxRecDepth 100000 in
theorem am_mc_159 : lw_tbl[303]? = some (.code yJ1_charAt_3b067 cJ1_charAt_3b067 2 (some .char)) := rfl
set_option maxRecDepth 100000 in
theorem am_mc_160 : lw_tbl[311]? = some (.code yJ3_checkIndex_8e157 cJ3_checkIndex_8e157 3 (some .int)) := rfl
set_option maxRecDepth 100000 in
theorem am_mcs_5 : ∀ e ∈ am_tab_5, (e.2.2.2.2.2.2.2 = 0 ∨ lw_tbl[e.2.2.2.2.2.2.2]? = some (.code e.1 e.2.1 e.2.2.1 e.2.2.2.1)) := List.forall_mem_cons.mpr ⟨Or.inr am_mc_135, List.forall_mem_cons.mpr ⟨Or.inr am_mc_136, List.forall_mem_cons.mpr ⟨Or.inr am_mc_137, List.forall_mem_cons.mpr ⟨Or.inr am_mc_138, List.forall_mem_cons.mpr ⟨Or.inr am_mc_139, List.forall_mem_cons.mpr ⟨Or.inr am_mc_140, List.forall_mem_cons.mpr ⟨Or.inr am_mc_141, List.forall_mem_cons.mpr ⟨Or.inr am_mc_142, List.forall_mem_cons.mpr ⟨Or.inr am_mc_143, List.forall_mem_cons.mpr ⟨Or.inr am_mc_144, List.forall_mem_cons.mpr ⟨Or.inr am_mc_145, List.forall_mem_cons.mpr ⟨Or.inr am_mc_146, List.forall_mem_cons.mpr ⟨Or.inr am_mc_147, List.forall_mem_cons.mpr ⟨Or.inr am_mc_148, List.forall_mem_cons.mpr ⟨Or.inr am_mc_149, List.forall_mem_cons.mpr ⟨Or.inr am_mc_150, List.forall_mem_cons.mpr ⟨Or.inr am_mc_151, List.forall_mem_cons.mpr ⟨Or.inr am_mc_152, List.forall_mem_cons.mpr ⟨Or.inr am_mc_153, List.forall_mem_cons.mpr ⟨Or.inr am_mc_154, List.forall_mem_cons.mpr ⟨Or.inr am_mc_155, List.forall_mem_cons.mpr ⟨Or.inr am_mc_156, List.forall_mem_cons.mpr ⟨Or.inr am_mc_157, List.forall_mem_cons.mpr ⟨Or.inr am_mc_158, List.forall_mem_cons.mpr ⟨Or.inr am_mc_159, List.forall_mem_cons.mpr ⟨Or.inr am_mc_160, List.forall_mem_cons.mpr ⟨Or.inl rfl, fun _ h => absurd h List.not_mem_nil⟩⟩⟩⟩⟩⟩⟩⟩⟩⟩⟩⟩⟩⟩⟩⟩⟩⟩⟩⟩⟩⟩⟩⟩⟩⟩⟩
theorem am_mcs : ∀ e ∈ am_tab, (e.2.2.2.2.2.2.2 = 0 ∨ lw_tbl[e.2.2.2.2.2.2.2]? = some (.code e.1 e.2.1 e.2.2.1 e.2.2.2.1)) := List.forall_mem_append.mpr ⟨am_mcs_0, List.forall_mem_append.mpr ⟨am_mcs_1, List.forall_mem_append.mpr ⟨am_mcs_2, List.forall_mem_append.mpr ⟨am_mcs_3, List.forall_mem_append.mpr ⟨am_mcs_4, am_mcs_5⟩⟩⟩⟩⟩
theorem am_okM_all : (List.range 161).all am_okM = true := by decide +kernel
def am_okL (o ix lk : Nat) (y : MethodName) : Bool := am_at lk (.methodLink (am_cn o) ix y) || (decide (10000 ≤ lk) && decide (am_nest[lk - 10000]? = some (.methodLinkNest (am_cn o) ix y "CodeProbes")))
def am_okC (e : Nat × Nat × Nat × Nat × Nat × Nat × Nat × Nat) : Bool := match e with
  | (o, ix, 0, j, lk, p2, se, ini) => decide (j < 161) && am_okL o ix lk (am_y j) && am_at p2 (.instanceMethod (am_y j)) && am_at se (.selects (am_y j).cls (am_y j) (am_y j)) && am_at ini (.initialized (am_y j).cls)
  | (o, ix, 1, j, lk, p2, _, ini) => decide (j < 161) && am_okL o ix lk (am_y j) && am_at p2 (.static (am_y j)) && am_at ini (.initialized (am_y j).cls)
  | (o, ix, 2, j, lk, p2, _, ini) => decide (j < 161) && am_okL o ix lk (am_y j) && am_at p2 (.instanceMethod (am_y j)) && am_at ini (.initialized (am_y j).cls) && decide ((am_y j).name = "<init>") && decide (am_rt j = none)
  | (o, ix, 3, _, lk, p2, _, _) => am_at lk (.methodLink (am_cn o) ix objectInit) && am_at p2 (.instanceMethod objectInit)
  | (o, ix, _, _, lk, p2, _, ini) => am_at lk (.methodLink (am_cn o) ix arraycopyName) && am_at p2 (.static arraycopyName) && am_at ini (.initialized "java/lang/System")
theorem am_okC_all : am_cl.all am_okC = true := by decide +kernel
theorem am_wObj : am_at 63 (.code objectInit ⟨#[0xb1]⟩ 1 none) = true := by decide +kernel
theorem am_wNat : am_at 493 (.native arraycopyName) = true := by decide +kernel
theorem am_wAI : am_at 122 (.arrayClass .int) = true := by decide +kernel
theorem am_wAZ : am_at 105 (.arrayClass .boolean) = true := by decide +kernel
theorem am_wAC : am_at 84 (.arrayClass .char) = true := by decide +kernel
def am_okF (e : Nat × Nat × Nat × Nat × Nat) : Bool := match e with
  | (o, ix, ci, j, pl) => am_at pl (.fieldLink (am_cn o) ix (am_fT ci j).1 (am_fT ci j).2.1 (am_fT ci j).2.2.1) && decide (ci ≤ 10) && decide (j < am_cN ci) && decide ((am_fT ci j).1 = am_cn ci)
theorem am_okF_all : am_fl.all am_okF = true := by decide +kernel
def am_okN (e : Nat × Nat × Nat × Nat × Nat × Nat) : Bool := match e with
  | (o, ix, ci, p1, p2, p3) => am_at p1 (.classLink (am_cn o) ix (am_cn ci)) && am_at p2 (.instantiable (am_cn ci) (am_cN ci)) && am_at p3 (.initialized (am_cn ci)) && decide (ci ≤ 10)
theorem am_okN_all : am_nw.all am_okN = true := by decide +kernel
def am_okA (e : Nat × Nat × Nat × Nat) : Bool := match e with
  | (o, ix, ci, p1) => am_at p1 (.classLink (am_cn o) ix (am_cn ci)) && decide (ci = 3 ∨ ci = 7)
theorem am_okA_all : am_an.all am_okA = true := by decide +kernel
def am_okK (ci : Nat) : Bool := (List.range (am_cN ci)).all (fun k => am_at ((am_lp.getD ci []).getD k 0) (u_lay (am_cn ci) (am_fT ci) k) && decide (parseFieldDescriptor (am_fT ci k).2.2.1 = some (am_ty ci k)) && (List.range (am_cN ci)).all (fun j => decide (j = k) || decide ((am_fT ci j).2.1 ≠ (am_fT ci k).2.1)))
theorem am_okK_all : (List.range 11).all am_okK = true := by decide +kernel
theorem am_okV : ∀ ci, ci < 11 → (vwCl[ci]?.map (fun q => (q.1, q.2.2))) = some (am_cn ci, am_cN ci) := by decide +kernel
theorem am_vw {ci : Nat} (h : ci ≤ 10) : vwCl[ci]? = some (am_cn ci, am_fT ci, am_cN ci) := by
  match ci, h with
  | 0, _ => rfl
  | 1, _ => rfl
  | 2, _ => rfl
  | 3, _ => rfl
  | 4, _ => rfl
  | 5, _ => rfl
  | 6, _ => rfl
  | 7, _ => rfl
  | 8, _ => rfl
  | 9, _ => rfl
  | 10, _ => rfl
theorem am_wCod : am_at 991 (.fieldLink RJ0 15 "java/lang/String" "coder" "B") = true := by decide +kernel
theorem am_wVal : am_at 990 (.fieldLink RJ0 9 "java/lang/String" "value" "[B") = true := by decide +kernel
theorem am_wCmp : am_at 291 (.fieldLink RJ0 38 "java/lang/String" "COMPACT_STRINGS" "Z") = true := by decide +kernel
theorem am_wFmt : am_at 307 (.fieldLink RJ0 1053 "jdk/internal/util/Preconditions" "SIOOBE_FORMATTER" "Ljava/util/function/BiFunction;") = true := by decide +kernel
end
section
/-! A small machine over the class's own addresses: memory of ints (am_I), memory of references (am_R), lengths, next address, slots made. Address 0: the script; 1: the text constant; 2: its bytes; from 3 on the cells in the order in which they are made. -/
abbrev am_I : Type := Nat → Nat → Int32
abbrev am_R : Type := Nat → Nat → Option Nat
abbrev am_K : Type := (Nat → Nat) × Nat × Nat
abbrev am_M : Type := am_I × am_R × am_K
abbrev am_L : Type := List (Option Value)
abbrev am_A : Type := (Option Value × am_M) ⊕ ((Nat × am_L × List Value × am_M) ⊕ (Nat × List Value × Nat × am_L × List Value × am_M))
def am_ui (I : am_I) (a i : Nat) (x : Int32) : am_I := fun b j => if b = a ∧ j = i then x else I b j
def am_ur (R : am_R) (a i : Nat) (x : Option Nat) : am_R := fun b j => if b = a ∧ j = i then x else R b j
def am_zi (I : am_I) (a : Nat) : am_I := fun b j => if b = a then 0 else I b j
def am_zr (R : am_R) (a : Nat) : am_R := fun b j => if b = a then none else R b j
def am_ul (f : Nat → Nat) (a n : Nat) : Nat → Nat := fun b => if b = a then n else f b
def am_cp (I : am_I) (a sp d dp n : Nat) : am_I := fun b j => if b = d ∧ dp ≤ j ∧ j < dp + n then I a (sp + (j - dp)) else I b j
def am_h (x : Int32) : Int32 := vp_nar .char x
def am_b (x : Int32) : Int32 := vp_nar .boolean x
def am_isI (ci j : Nat) : Bool := match am_ty ci j with
  | .object _ => false
  | .array _ => false
  | _ => true
def am_c1 : Value → Bool
  | .int _ => true
  | .ref _ => true
  | .null => true
  | .float _ => true
  | _ => false
def am_rf : Option Nat → Value
  | none => .null
  | some a => .ref a
def am_bytes : List Int32 := [108, 48, 122, 49, 51, 99, 49, 52, 115, 48, 106, 48, 48, 104, 108, 49, 112, 50, 115, 49, 108, 48, 100, 114]
/-- locals, constants, the stack, numbers -/
def am_g1 (pc : Nat) (ls : am_L) (st : List Value) : Instr → Nat → Option (Nat × am_L × List Value)
  | .iload_n k, 1 => match ls[k.val]? with
    | some (some (.int x)) => some (pc + 1, ls, .int x :: st)
    | _ => none
  | .iload k, 2 => match ls[k]? with
    | some (some (.int x)) => some (pc + 2, ls, .int x :: st)
    | _ => none
  | .aload_n k, 1 => match ls[k.val]? with
    | some (some (.ref x)) => some (pc + 1, ls, .ref x :: st)
    | some (some .null) => some (pc + 1, ls, .null :: st)
    | _ => none
  | .aload k, 2 => match ls[k]? with
    | some (some (.ref x)) => some (pc + 2, ls, .ref x :: st)
    | some (some .null) => some (pc + 2, ls, .null :: st)
    | _ => none
  | .istore_n k, 1 => match st with
    | .int x :: r => if k.val < ls.length then some (pc + 1, ls.set k.val (some (.int x)), r) else none
    | _ => none
  | .istore k, 2 => match st with
    | .int x :: r => if k < ls.length then some (pc + 2, ls.set k (some (.int x)), r) else none
    | _ => none
  | .astore_n k, 1 => match st with
    | .ref x :: r => if k.val < ls.length then some (pc + 1, ls.set k.val (some (.ref x)), r) else none
    | .null :: r => if k.val < ls.length then some (pc + 1, ls.set k.val (some .null), r) else none
    | _ => none
  | .astore k, 2 => match st with
    | .ref x :: r => if k < ls.length then some (pc + 2, ls.set k (some (.ref x)), r) else none
    | .null :: r => if k < ls.length then some (pc + 2, ls.set k (some .null), r) else none
    | _ => none
  | .iinc k n, 3 => match ls[k]? with
    | some (some (.int x)) => some (pc + 3, ls.set k (some (.int (x + Int32.ofInt n))), st)
    | _ => none
  | .iconst n, 1 => some (pc + 1, ls, .int (Int32.ofInt n) :: st)
  | .bipush n, 2 => some (pc + 2, ls, .int (Int8.ofInt n).toInt32 :: st)
  | .sipush n, 3 => some (pc + 3, ls, .int (Int16.ofInt n).toInt32 :: st)
  | .aconst_null, 1 => some (pc + 1, ls, .null :: st)
  | .iadd, 1 => match st with
    | .int y :: .int x :: r => some (pc + 1, ls, .int (x + y) :: r)
    | _ => none
  | .isub, 1 => match st with
    | .int y :: .int x :: r => some (pc + 1, ls, .int (x - y) :: r)
    | _ => none
  | .imul, 1 => match st with
    | .int y :: .int x :: r => some (pc + 1, ls, .int (x * y) :: r)
    | _ => none
  | .iand, 1 => match st with
    | .int y :: .int x :: r => some (pc + 1, ls, .int (x &&& y) :: r)
    | _ => none
  | .ixor, 1 => match st with
    | .int y :: .int x :: r => some (pc + 1, ls, .int (x ^^^ y) :: r)
    | _ => none
  | .ishr, 1 => match st with
    | .int y :: .int x :: r => some (pc + 1, ls, .int (x >>> (y &&& 31)) :: r)
    | _ => none
  | .idiv, 1 => match st with
    | .int y :: .int x :: r => if y = 0 then none else some (pc + 1, ls, .int (x / y) :: r)
    | _ => none
  | .irem, 1 => match st with
    | .int y :: .int x :: r => if y = 0 then none else some (pc + 1, ls, .int (x - x / y * y) :: r)
    | _ => none
  | .i2c, 1 => match st with
    | .int x :: r => some (pc + 1, ls, .int (x.toUInt32 % 65536).toInt32 :: r)
    | _ => none
  | .dup, 1 => match st with
    | v :: r => if am_c1 v then some (pc + 1, ls, v :: v :: r) else none
    | _ => none
  | .dup2, 1 => match st with
    | v :: w :: r => if am_c1 v && am_c1 w then some (pc + 1, ls, v :: w :: v :: w :: r) else none
    | _ => none
  | .pop, 1 => match st with
    | v :: r => if am_c1 v then some (pc + 1, ls, r) else none
    | _ => none
  | _, _ => none
/-- a target -/
def am_tg (pc : Nat) (o : Int) (st : List Value) : Option (Nat × List Value) := if 0 ≤ (pc : Int) + o then some (((pc : Int) + o).toNat, st) else none
/-- a branch: the target must be one, taken or not -/
def am_br (b : Bool) (pc : Nat) (o : Int) (r : List Value) : Option (Nat × List Value) := match am_tg pc o r with
  | none => none
  | some t => some (if b then t else (pc + 3, r))
/-- branches -/
def am_g2 (pc : Nat) (st : List Value) : Instr → Nat → Option (Nat × List Value)
  | .goto o, 3 => am_tg pc o st
  | .ifCond .eq o, 3 => match st with
    | .int x :: r => am_br (decide (x = 0)) pc o r
    | _ => none
  | .if_icmp .eq o, 3 => match st with
    | .int y :: .int x :: r => am_br (decide (x = y)) pc o r
    | _ => none
  | .ifCond .ne o, 3 => match st with
    | .int x :: r => am_br (!decide (x = 0)) pc o r
    | _ => none
  | .if_icmp .ne o, 3 => match st with
    | .int y :: .int x :: r => am_br (!decide (x = y)) pc o r
    | _ => none
  | .ifCond .lt o, 3 => match st with
    | .int x :: r => am_br (decide (x < 0)) pc o r
    | _ => none
  | .if_icmp .lt o, 3 => match st with
    | .int y :: .int x :: r => am_br (decide (x < y)) pc o r
    | _ => none
  | .ifCond .ge o, 3 => match st with
    | .int x :: r => am_br (decide (0 ≤ x)) pc o r
    | _ => none
  | .if_icmp .ge o, 3 => match st with
    | .int y :: .int x :: r => am_br (decide (y ≤ x)) pc o r
    | _ => none
  | .ifCond .gt o, 3 => match st with
    | .int x :: r => am_br (decide (0 < x)) pc o r
    | _ => none
  | .if_icmp .gt o, 3 => match st with
    | .int y :: .int x :: r => am_br (decide (y < x)) pc o r
    | _ => none
  | .ifCond .le o, 3 => match st with
    | .int x :: r => am_br (decide (x ≤ 0)) pc o r
    | _ => none
  | .if_icmp .le o, 3 => match st with
    | .int y :: .int x :: r => am_br (decide (x ≤ y)) pc o r
    | _ => none
  | .ifnull o, 3 => match st with
    | .ref _ :: r => some (pc + 3, r)
    | .null :: r => am_tg pc o r
    | _ => none
  | .ifnonnull o, 3 => match st with
    | .ref _ :: r => am_tg pc o r
    | .null :: r => some (pc + 3, r)
    | _ => none
  | .tableswitch d lo hi offs, _ => match st with
    | .int x :: r => if x.toInt < lo ∨ hi < x.toInt then am_tg pc d r else match offs[(x.toInt - lo).toNat]? with
      | some o => am_tg pc o r
      | none => none
    | _ => none
  | .lookupswitch d ps, _ => match st with
    | .int x :: r => if (ps.toList.zip (ps.toList.drop 1)).all (fun (a, next) => a.1 < next.1) = true then am_tg pc (Op.lookupswitch.offset ps.toList d x.toInt) r else none
    | _ => none
  | _, _ => none
/-- an index within -/
def am_ix (i : Int32) (n : Nat) : Bool := !(decide (i < 0) || decide (n ≤ i.toNatClampNeg))
/-- a cell that was made, of a kind -/
def am_isK (K : am_K) (a t : Nat) : Bool := decide (3 ≤ a) && decide (a < K.2.1) && (am_tag a == t)
def am_is (M : am_M) (a t : Nat) : Bool := am_isK M.2.2 a t
/-- the default cell at the next address -/
def am_mk (M : am_M) (len slots : Nat) : am_M := (am_zi M.1 M.2.2.2.1, am_zr M.2.1 M.2.2.2.1, am_ul M.2.2.1 M.2.2.2.1 len, M.2.2.2.1 + 1, M.2.2.2.2 + slots)
/-- fields and arrays -/
def am_g3 (o lv : Nat) (ini : Bool) (pc : Nat) (st : List Value) (M : am_M) : Instr → Nat → Option (Nat × List Value × am_I × am_R)
  | .getfield ix, 3 => match st with
    | .ref a :: r => if a = 1 then (if o = 13 ∧ ix = 15 then some (pc + 3, .int 0 :: r, M.1, M.2.1) else if o = 13 ∧ ix = 9 then some (pc + 3, .ref 2 :: r, M.1, M.2.1) else none) else
      match am_fld o ix with
      | some (ci, j) => if am_is M a ci then some (pc + 3, (if am_isI ci j then .int (M.1 a j) else am_rf (M.2.1 a j)) :: r, M.1, M.2.1) else none
      | none => none
    | _ => none
  | .putfield ix, 3 => match am_fld o ix with
    | some (ci, j) => match st with
      | .int x :: .ref a :: r => if am_is M a ci && am_isI ci j && (!(am_fT ci j).2.2.2 || (ini && ci == o)) && decide (narrow (am_ty ci j) (.int x) = .int x) && fits (am_ty ci j) (.int x) then some (pc + 3, r, am_ui M.1 a j x, M.2.1) else none
      | .ref b :: .ref a :: r => if am_is M a ci && !am_isI ci j && (!(am_fT ci j).2.2.2 || (ini && ci == o)) then some (pc + 3, r, M.1, am_ur M.2.1 a j (some b)) else none
      | .null :: .ref a :: r => if am_is M a ci && !am_isI ci j && (!(am_fT ci j).2.2.2 || (ini && ci == o)) then some (pc + 3, r, M.1, am_ur M.2.1 a j none) else none
      | _ => none
    | none => none
  | .iaload, 1 => match st with
    | .int i :: .ref a :: r => if (a == 0 || am_is M a 20) && am_ix i (M.2.2.1 a) then some (pc + 1, .int (M.1 a i.toNatClampNeg) :: r, M.1, M.2.1) else none
    | _ => none
  | .baload, 1 => match st with
    | .int i :: .ref a :: r => if a = 2 then (if am_ix i 24 then some (pc + 1, .int (am_bytes.getD i.toNatClampNeg 0) :: r, M.1, M.2.1) else none) else if am_is M a 21 && am_ix i (M.2.2.1 a) then some (pc + 1, .int (am_b (M.1 a i.toNatClampNeg)) :: r, M.1, M.2.1) else none
    | _ => none
  | .caload, 1 => match st with
    | .int i :: .ref a :: r => if am_is M a 22 && am_ix i (M.2.2.1 a) then some (pc + 1, .int (am_h (M.1 a i.toNatClampNeg)) :: r, M.1, M.2.1) else none
    | _ => none
  | .aaload, 1 => match st with
    | .int i :: .ref a :: r => if (am_is M a 23 || am_is M a 24) && am_ix i (M.2.2.1 a) then some (pc + 1, am_rf (M.2.1 a i.toNatClampNeg) :: r, M.1, M.2.1) else none
    | _ => none
  | .iastore, 1 => match st with
    | .int x :: .int i :: .ref a :: r => if am_is M a 20 && am_ix i (M.2.2.1 a) then some (pc + 1, r, am_ui M.1 a i.toNatClampNeg x, M.2.1) else none
    | _ => none
  | .bastore, 1 => match st with
    | .int x :: .int i :: .ref a :: r => if am_is M a 21 && am_ix i (M.2.2.1 a) then some (pc + 1, r, am_ui M.1 a i.toNatClampNeg x, M.2.1) else none
    | _ => none
  | .castore, 1 => match st with
    | .int x :: .int i :: .ref a :: r => if am_is M a 22 && am_ix i (M.2.2.1 a) then some (pc + 1, r, am_ui M.1 a i.toNatClampNeg x, M.2.1) else none
    | _ => none
  | .aastore, 1 => match st with
    | .ref b :: .int i :: .ref a :: r => if ((am_is M a 23 && am_is M b 3) || (am_is M a 24 && am_is M b 7)) && am_ix i (M.2.2.1 a) then some (pc + 1, r, M.1, am_ur M.2.1 a i.toNatClampNeg (some b)) else none
    | _ => none
  | .arraylength, 1 => match st with
    | .ref a :: r => if a = 2 then some (pc + 1, .int 24 :: r, M.1, M.2.1) else if a == 0 || am_is M a 20 || am_is M a 21 || am_is M a 22 || am_is M a 23 then some (pc + 1, .int (Int32.ofNat (M.2.2.1 a)) :: r, M.1, M.2.1) else none
    | _ => none
  | .ldc ix, 2 => if o = 9 ∧ ix = 63 then some (pc + 2, .ref 1 :: st, M.1, M.2.1) else none
  | .getstatic ix, 3 => if o = 13 ∧ ix = 38 then some (pc + 3, .int 1 :: st, M.1, M.2.1) else if o = 13 ∧ ix = 1053 then some (pc + 3, .float 0 :: st, M.1, M.2.1) else none
  | .invokespecial ix, 3 => match am_call o ix with
    | some (3, _) => match st with
      | .ref _ :: r => if decide (0 < lv) && decide (r.length ≤ 8) && r.all am_c1 then some (pc + 3, r, M.1, M.2.1) else none
      | _ => none
    | _ => none
  | .invokestatic ix, 3 => match am_call o ix with
    | some (4, _) => match st with
      | .int n :: .int dp :: .ref d :: .int sp :: .ref a :: r => if decide (0 < lv) && decide (r.length ≤ 8) && r.all am_c1 && am_is M a 20 && am_is M d 20 && !(decide (sp < 0)) && !(decide (dp < 0)) && !(decide (n < 0)) && decide (sp.toNatClampNeg + n.toNatClampNeg ≤ M.2.2.1 a) && decide (dp.toNatClampNeg + n.toNatClampNeg ≤ M.2.2.1 d) then some (pc + 3, r, am_cp M.1 a sp.toNatClampNeg d dp.toNatClampNeg n.toNatClampNeg, M.2.1) else none
      | _ => none
    | _ => none
  | _, _ => none
/-- new cells -/
def am_g6 (o : Nat) (pc : Nat) (st : List Value) (M : am_M) : Instr → Nat → Option (Nat × List Value × am_M)
  | .new ix, 3 => match am_new o ix with
    | some ci => if am_tag M.2.2.2.1 = ci then some (pc + 3, .ref M.2.2.2.1 :: st, am_mk M 0 (am_cN ci)) else none
    | none => none
  | .newarray .int, 2 => match st with
    | .int k :: r => if !(decide (k < 0)) && decide (k.toNatClampNeg ≤ 10000) && (am_tag M.2.2.2.1 == 20) then some (pc + 2, .ref M.2.2.2.1 :: r, am_mk M k.toNatClampNeg k.toNatClampNeg) else none
    | _ => none
  | .newarray .boolean, 2 => match st with
    | .int k :: r => if !(decide (k < 0)) && decide (k.toNatClampNeg ≤ 10000) && (am_tag M.2.2.2.1 == 21) then some (pc + 2, .ref M.2.2.2.1 :: r, am_mk M k.toNatClampNeg k.toNatClampNeg) else none
    | _ => none
  | .newarray .char, 2 => match st with
    | .int k :: r => if !(decide (k < 0)) && decide (k.toNatClampNeg ≤ 10000) && (am_tag M.2.2.2.1 == 22) then some (pc + 2, .ref M.2.2.2.1 :: r, am_mk M k.toNatClampNeg k.toNatClampNeg) else none
    | _ => none
  | .anewarray ix, 3 => match st with
    | .int k :: r => if !(decide (k < 0)) && decide (k.toNatClampNeg ≤ 10000) && ((am_anew o ix == some 3 && am_tag M.2.2.2.1 == 23) || (am_anew o ix == some 7 && am_tag M.2.2.2.1 == 24)) then some (pc + 3, .ref M.2.2.2.1 :: r, am_mk M k.toNatClampNeg k.toNatClampNeg) else none
    | _ => none
  | _, _ => none
/-- a call: method, arguments, what is left of the stack -/
def am_g4 (o lv : Nat) (st : List Value) (M : am_M) : Instr → Nat → Option (Nat × List Value × List Value)
  | .invokevirtual ix, 3 => match am_call o ix with
    | some (0, j) => match (st.take (am_np j + 1)).reverse with
      | .ref b :: as => if decide (as.length = am_np j) && (st.drop (am_np j + 1)).all am_c1 && as.all am_c1 && decide ((st.drop (am_np j + 1)).length ≤ 8) && decide (am_lev j < lv) && decide (am_np j + 1 ≤ am_nl j) && (am_is M b (am_own j) || (b == 1 && am_own j == 13)) then some (j, .ref b :: as, st.drop (am_np j + 1)) else none
      | _ => none
    | _ => none
  | .invokespecial ix, 3 => match am_call o ix with
    | some (2, j) => match (st.take (am_np j + 1)).reverse with
      | .ref b :: as => if decide (as.length = am_np j) && (st.drop (am_np j + 1)).all am_c1 && as.all am_c1 && decide ((st.drop (am_np j + 1)).length ≤ 8) && decide (am_lev j < lv) && decide (am_np j + 1 ≤ am_nl j) then some (j, .ref b :: as, st.drop (am_np j + 1)) else none
      | _ => none
    | _ => none
  | .invokestatic ix, 3 => match am_call o ix with
    | some (1, j) => if decide ((st.take (am_np j)).length = am_np j) && (st.drop (am_np j)).all am_c1 && (st.take (am_np j)).all am_c1 && decide ((st.drop (am_np j)).length ≤ 8) && decide (am_lev j < lv) && decide (am_np j ≤ am_nl j) then some (j, (st.take (am_np j)).reverse, st.drop (am_np j)) else none
    | _ => none
  | _, _ => none
/-- the end of a method -/
def am_g5 (rt : Option FieldType) (st : List Value) : Instr → Nat → Option (Option Value)
  | .ireturn, 1 => match rt, st with
    | some t, [.int v] => if narrow t (.int v) = .int v then some (some (.int v)) else none
    | _, _ => none
  | .areturn, 1 => match rt, st with
    | some (.object _), [.ref a] => some (some (.ref a))
    | some (.object _), [.null] => some (some .null)
    | _, _ => none
  | .return_, 1 => match rt, st with
    | none, [] => some none
    | _, _ => none
  | _, _ => none
def am_ini (m : Nat) : Bool := (am_y m).name == "<init>"
def am_do (m pc : Nat) (ls : am_L) (st : List Value) (M : am_M) (i : Instr) (n : Nat) : Option am_A :=
  match am_g1 pc ls st i n with
  | some (pc', ls', st') => some (.inr (.inl (pc', ls', st', M)))
  | none => match am_g2 pc st i n with
    | some (pc', st') => some (.inr (.inl (pc', ls, st', M)))
    | none => match am_g3 (am_own m) (am_lev m) (am_ini m) pc st M i n with
      | some (pc', st', I', R') => some (.inr (.inl (pc', ls, st', (I', R', M.2.2))))
      | none => match am_g6 (am_own m) pc st M i n with
       | some (pc', st', M') => some (.inr (.inl (pc', ls, st', M')))
       | none => match am_g4 (am_own m) (am_lev m) st M i n with
        | some (j, as, r) => some (.inr (.inr (j, as, pc + 3, ls, r, M)))
        | none => match am_g5 (am_rt m) st i n with
          | some v => some (.inl (v, M))
          | none => none
def am_act (m pc : Nat) (ls : am_L) (st : List Value) (M : am_M) : Option am_A := match decode (am_c m) pc with
  | .ok (i, n) => am_do m pc ls st M i n
  | .error _ => none
def am_ent (j : Nat) (as : List Value) : am_L := as.map some ++ List.replicate (am_nl j - as.length) none
def am_run : Nat → Nat → Nat → am_L → List Value → am_M → Option (Option Value × am_M)
  | 0, _, _, _, _, _ => none
  | n + 1, m, pc, ls, st, M => match am_act m pc ls st M with
    | none => none
    | some (.inl r) => some r
    | some (.inr (.inl (pc', ls', st', M'))) => am_run n m pc' ls' st' M'
    | some (.inr (.inr (j, as, pc', ls', st', M'))) => match am_run n j 0 (am_ent j as) [] M' with
      | none => none
      | some (v, M2) => am_run n m pc' ls' (v.toList ++ st') M2
theorem am_run_up : ∀ (n m pc : Nat) (ls : am_L) (st : List Value) (M : am_M) (r : Option Value × am_M), am_run n m pc ls st M = some r → am_run (n + 1) m pc ls st M = some r := by
  intro n
  induction n with
  | zero => intro m pc ls st M r h; cases h
  | succ n ih =>
    intro m pc ls st M r h
    rw [am_run] at h ⊢
    cases ha : am_act m pc ls st M with
    | none => rw [ha] at h; cases h
    | some a =>
      rw [ha] at h
      rcases a with a | ⟨pc', ls', st', M'⟩ | ⟨j, as, pc', ls', st', M'⟩
      · exact h
      · exact ih _ _ _ _ _ _ h
      · dsimp only at h ⊢
        cases hc : am_run n j 0 (am_ent j as) [] M' with
        | none => rw [hc] at h; cases h
        | some q =>
          rw [hc] at h
          rw [ih _ _ _ _ _ _ hc]
          exact ih _ _ _ _ _ _ h
theorem am_run_le {n k m pc : Nat} {ls : am_L} {st : List Value} {M : am_M} {r : Option Value × am_M} (hk : n ≤ k) (h : am_run n m pc ls st M = some r) : am_run k m pc ls st M = some r := by
  induction hk with
  | refl => exact h
  | step _ ih => exact am_run_up _ _ _ _ _ _ _ ih
/-- what comes of it in the end -/
noncomputable def ev (m pc : Nat) (ls : am_L) (st : List Value) (M : am_M) : Option (Option Value × am_M) :=
  @dite _ (∃ n, (am_run n m pc ls st M).isSome = true) (Classical.propDecidable _) (fun h => am_run (Classical.choose h) m pc ls st M) (fun _ => none)
theorem ev_some {m pc : Nat} {ls : am_L} {st : List Value} {M : am_M} {r : Option Value × am_M} : ev m pc ls st M = some r ↔ ∃ n, am_run n m pc ls st M = some r := by
  unfold ev
  by_cases h : ∃ n, (am_run n m pc ls st M).isSome = true
  · rw [dif_pos h]
    have hc := Classical.choose_spec h
    constructor
    · intro e; exact ⟨_, e⟩
    · rintro ⟨n, hn⟩
      cases hr : am_run (Classical.choose h) m pc ls st M with
      | none => rw [hr] at hc; cases hc
      | some q =>
        rcases Nat.le_total n (Classical.choose h) with hl | hl
        · rw [am_run_le hl hn] at hr; exact hr.symm
        · rw [am_run_le hl hr] at hn; exact hn
  · rw [dif_neg h]
    constructor
    · intro e; cases e
    · rintro ⟨n, hn⟩
      exact absurd ⟨n, by rw [hn]; rfl⟩ h
theorem ev_eq {m pc m' pc' : Nat} {ls ls' : am_L} {st st' : List Value} {M M' : am_M} (h : ∀ r, (∃ n, am_run n m pc ls st M = some r) ↔ ∃ n, am_run n m' pc' ls' st' M' = some r) : ev m pc ls st M = ev m' pc' ls' st' M' := by
  apply Option.ext
  intro r
  rw [ev_some, ev_some]
  exact h r
theorem ev_next {m pc pc' : Nat} {ls ls' : am_L} {st st' : List Value} {M M' : am_M} (h : am_act m pc ls st M = some (.inr (.inl (pc', ls', st', M')))) : ev m pc ls st M = ev m pc' ls' st' M' := by
  refine ev_eq fun r => ⟨?_, ?_⟩
  · rintro ⟨n, hn⟩
    cases n with
    | zero => cases hn
    | succ n => rw [am_run, h] at hn; exact ⟨n, hn⟩
  · rintro ⟨n, hn⟩
    exact ⟨n + 1, by rw [am_run, h]; exact hn⟩
theorem ev_ret {m pc : Nat} {ls : am_L} {st : List Value} {M : am_M} {r : Option Value × am_M} (h : am_act m pc ls st M = some (.inl r)) : ev m pc ls st M = some r := ev_some.mpr ⟨1, by rw [am_run, h]⟩
theorem ev_call {m pc j pc' : Nat} {ls ls' : am_L} {st st' as : List Value} {M M' : am_M} (h : am_act m pc ls st M = some (.inr (.inr (j, as, pc', ls', st', M')))) : ev m pc ls st M = (ev j 0 (am_ent j as) [] M').bind (fun q => ev m pc' ls' (q.1.toList ++ st') q.2) := by
  apply Option.ext
  intro r
  rw [ev_some, Option.bind_eq_some_iff]
  constructor
  · rintro ⟨n, hn⟩
    cases n with
    | zero => cases hn
    | succ n =>
      rw [am_run, h] at hn
      dsimp only at hn
      cases hc : am_run n j 0 (am_ent j as) [] M' with
      | none => rw [hc] at hn; cases hn
      | some q =>
        rw [hc] at hn
        exact ⟨q, ev_some.mpr ⟨n, hc⟩, ev_some.mpr ⟨n, hn⟩⟩
  · rintro ⟨q, h1, h2⟩
    obtain ⟨n1, h1⟩ := ev_some.mp h1
    obtain ⟨n2, h2⟩ := ev_some.mp h2
    refine ⟨max n1 n2 + 1, ?_⟩
    rw [am_run, h]
    dsimp only
    rw [am_run_le (Nat.le_max_left n1 n2) h1]
    exact am_run_le (Nat.le_max_right n1 n2) h2
end
section
/-! how the small machine's memory lies in the real heap -/
abbrev am_Gt : Type := Nat × Nat × Nat × Nat × Nat × (Nat → Int32) × Value × va_G × ClassId × ClassId × ClassId × ClassId × ClassId
def gB (G : am_Gt) : Nat := G.1
def gb (G : am_Gt) : Nat := G.2.1
def gsa (G : am_Gt) : Nat := G.2.2.1
def gsb (G : am_Gt) : Nat := G.2.2.2.1
def gL (G : am_Gt) : Nat := G.2.2.2.2.1
def gxs (G : am_Gt) : Nat → Int32 := G.2.2.2.2.2.1
def gV (G : am_Gt) : Value := G.2.2.2.2.2.2.1
def gD (G : am_Gt) : va_G := G.2.2.2.2.2.2.2.1
def gI (G : am_Gt) : ClassId := G.2.2.2.2.2.2.2.2.1
def gZ (G : am_Gt) : ClassId := G.2.2.2.2.2.2.2.2.2.1
def gC (G : am_Gt) : ClassId := G.2.2.2.2.2.2.2.2.2.2.1
def gP (G : am_Gt) : ClassId := G.2.2.2.2.2.2.2.2.2.2.2.1
def gS (G : am_Gt) : ClassId := G.2.2.2.2.2.2.2.2.2.2.2.2
def gA (G : am_Gt) : Nat → Prop := fun q => gB G ≤ q
def am_ab (G : am_Gt) (k : Nat) : Nat := if k = 0 then gb G else if k = 1 then gsa G else if k = 2 then gsb G else gB G + (k - 3)
def am_sh (G : am_Gt) : Value → Value
  | .ref k => .ref (am_ab G k)
  | .float _ => gV G
  | v => v
theorem am_sh_i (G : am_Gt) (x : Int32) : am_sh G (.int x) = .int x := rfl
theorem am_sh_r (G : am_Gt) (k : Nat) : am_sh G (.ref k) = .ref (am_ab G k) := rfl
theorem am_sh_n (G : am_Gt) : am_sh G .null = .null := rfl
theorem am_sh_f (G : am_Gt) (x : UInt32) : am_sh G (.float x) = gV G := rfl
theorem am_ab_0 (G : am_Gt) : am_ab G 0 = gb G := rfl
theorem am_ab_1 (G : am_Gt) : am_ab G 1 = gsa G := rfl
theorem am_ab_2 (G : am_Gt) : am_ab G 2 = gsb G := rfl
theorem am_ab_3 (G : am_Gt) {k : Nat} (h : 3 ≤ k) : am_ab G k = gB G + (k - 3) := by
  unfold am_ab
  rw [if_neg (by omega), if_neg (by omega), if_neg (by omega)]
theorem am_ab_inj (G : am_Gt) {a b : Nat} (ha : 3 ≤ a) (hb : 3 ≤ b) (h : am_ab G a = am_ab G b) : a = b := by
  rw [am_ab_3 G ha, am_ab_3 G hb] at h
  omega
theorem am_ab_A (G : am_Gt) {a : Nat} (ha : 3 ≤ a) : gA G (am_ab G a) := by
  rw [am_ab_3 G ha]
  exact Nat.le_add_right _ _
def am_fs (G : am_Gt) (M : am_M) (a t : Nat) : List Value := (List.range (am_cN t)).map (fun j => if am_isI t j then .int (M.1 a j) else am_sh G (am_rf (M.2.1 a j)))
def am_E (G : am_Gt) (M : am_M) (a : Nat) : va_E := match am_tag a with
  | 20 => .inl (gI G, M.2.2.1 a, .inl (M.1 a))
  | 21 => .inl (gZ G, M.2.2.1 a, .inl (fun j => am_b (M.1 a j)))
  | 22 => .inl (gC G, M.2.2.1 a, .inl (fun j => am_h (M.1 a j)))
  | 23 => .inl (gP G, M.2.2.1 a, .inr (.inr (.inr (.inr (fun j => (M.2.1 a j).map (am_ab G))))))
  | 24 => .inl (gS G, M.2.2.1 a, .inr (.inr (.inr (.inr (fun j => (M.2.1 a j).map (am_ab G))))))
  | t => .inr (t, am_fs G M a t)
theorem am_E_o (G : am_Gt) (M : am_M) {a ci : Nat} (h : am_tag a = ci) (hc : ci ≤ 10) : am_E G M a = .inr (ci, am_fs G M a ci) := by
  unfold am_E
  rw [h]
  match ci, hc with
  | 0, _ => rfl
  | 1, _ => rfl
  | 2, _ => rfl
  | 3, _ => rfl
  | 4, _ => rfl
  | 5, _ => rfl
  | 6, _ => rfl
  | 7, _ => rfl
  | 8, _ => rfl
  | 9, _ => rfl
  | 10, _ => rfl
theorem am_E_20 (G : am_Gt) (M : am_M) {a : Nat} (h : am_tag a = 20) : am_E G M a = .inl (gI G, M.2.2.1 a, .inl (M.1 a)) := by unfold am_E; rw [h]; rfl
theorem am_E_21 (G : am_Gt) (M : am_M) {a : Nat} (h : am_tag a = 21) : am_E G M a = .inl (gZ G, M.2.2.1 a, .inl (fun j => am_b (M.1 a j))) := by unfold am_E; rw [h]; rfl
theorem am_E_22 (G : am_Gt) (M : am_M) {a : Nat} (h : am_tag a = 22) : am_E G M a = .inl (gC G, M.2.2.1 a, .inl (fun j => am_h (M.1 a j))) := by unfold am_E; rw [h]; rfl
theorem am_E_23 (G : am_Gt) (M : am_M) {a : Nat} (h : am_tag a = 23) : am_E G M a = .inl (gP G, M.2.2.1 a, .inr (.inr (.inr (.inr (fun j => (M.2.1 a j).map (am_ab G)))))) := by unfold am_E; rw [h]; rfl
theorem am_E_24 (G : am_Gt) (M : am_M) {a : Nat} (h : am_tag a = 24) : am_E G M a = .inl (gS G, M.2.2.1 a, .inr (.inr (.inr (.inr (fun j => (M.2.1 a j).map (am_ab G)))))) := by unfold am_E; rw [h]; rfl
theorem am_E_eq (G : am_Gt) {M M' : am_M} {a : Nat} (h1 : M'.1 a = M.1 a) (h2 : M'.2.1 a = M.2.1 a) (h3 : M'.2.2.1 a = M.2.2.1 a) : am_E G M' a = am_E G M a := by
  unfold am_E am_fs
  rw [h1, h2, h3]
def am_RP (G : am_Gt) (M : am_M) (H : Heap) : Prop := H.size = gB G + (M.2.2.2.1 - 3) ∧ 3 ≤ M.2.2.2.1 ∧ M.1 0 = gxs G ∧ M.2.2.1 0 = gL G ∧ ∀ a, 3 ≤ a → a < M.2.2.2.1 → va_at (gD G) vwCl (am_ab G a, am_E G M a) H
theorem am_RP.upd {G : am_Gt} {M M' : am_M} {H H1 : Heap} (hP : am_RP G M H) {a : Nat} (ha : 3 ≤ a) (hn : M'.2.2.2.1 = M.2.2.2.1) (hI : ∀ q, q ≠ a → M'.1 q = M.1 q) (hR : ∀ q, q ≠ a → M'.2.1 q = M.2.1 q) (hL : M'.2.2.1 = M.2.2.1) (hz : H1.size = H.size) (oq : ∀ q, q ≠ am_ab G a → H1[q]? = H[q]?) (he : va_at (gD G) vwCl (am_ab G a, am_E G M' a) H1) : am_RP G M' H1 := by
  obtain ⟨h1, h2, h3, h4, h5⟩ := hP
  refine ⟨by rw [hz, hn]; exact h1, by rw [hn]; exact h2, by rw [hI 0 (by omega)]; exact h3, by rw [hL]; exact h4, fun q hq hq2 => ?_⟩
  by_cases e : q = a
  · subst e; exact he
  · rw [am_E_eq G (hI q e) (hR q e) (by rw [hL])]
    rw [hn] at hq2
    exact (h5 q hq hq2).kept (oq _ (fun z => e (am_ab_inj G hq ha z)))
theorem am_RP.mk {G : am_Gt} {M : am_M} {H H1 : Heap} (hP : am_RP G M H) {len sl : Nat} (hz : H1.size = H.size + 1) (oq : ∀ q, q < H.size → H1[q]? = H[q]?) (he : va_at (gD G) vwCl (am_ab G M.2.2.2.1, am_E G (am_mk M len sl) M.2.2.2.1) H1) : am_RP G (am_mk M len sl) H1 := by
  obtain ⟨h1, h2, h3, h4, h5⟩ := hP
  refine ⟨?_, ?_, ?_, ?_, fun q hq hq2 => ?_⟩
  · show H1.size = gB G + (M.2.2.2.1 + 1 - 3)
    omega
  · show 3 ≤ M.2.2.2.1 + 1
    omega
  · show am_zi M.1 M.2.2.2.1 0 = gxs G
    rw [← h3]
    funext j
    unfold am_zi
    rw [if_neg (by omega)]
  · show am_ul M.2.2.1 M.2.2.2.1 len 0 = gL G
    rw [← h4]
    unfold am_ul
    rw [if_neg (by omega)]
  · have hq3 : q < M.2.2.2.1 + 1 := hq2
    by_cases e : q = M.2.2.2.1
    · subst e; exact he
    · have e1 : am_E G (am_mk M len sl) q = am_E G M q := by
        refine am_E_eq G ?_ ?_ ?_
        · funext j; show am_zi M.1 M.2.2.2.1 q j = _; unfold am_zi; rw [if_neg e]
        · funext j; show am_zr M.2.1 M.2.2.2.1 q j = _; unfold am_zr; rw [if_neg e]
        · show am_ul M.2.2.1 M.2.2.2.1 len q = _; unfold am_ul; rw [if_neg e]
      rw [e1]
      have hv := h5 q hq (by omega)
      exact hv.kept (oq _ hv.lt)
def am_tys (G : am_Gt) : List (ClassId × FieldType) := [(gI G, .int), (gZ G, .boolean), (gC G, .char), (gP G, .object RX3), (gS G, .object RX7)]
def am_TB (G : am_Gt) (U : State) : Prop := va_K (gD G) vwCl (am_tys G) U ∧ (∀ w ∈ am_nest, va_Nw w U) ∧ (va_AO RX3 U ∧ va_AO RX7 U) ∧ (va_X (gb G) (gL G) (gxs G) U U.heap ∧ gb G < gB G) ∧
  (vk_R "CodeProbes" 63 "l0z13c14s0j00hl1p2s1l0d\x72" (gsa G) U ∧ va_O "java/lang/String" (gsa G) (gA G) U U.heap ∧ va_OF "java/lang/String" "coder" "B" (.int 0) (gsa G) (gA G) U U.heap ∧ va_OF "java/lang/String" "value" "[B" (.ref (gsb G)) (gsa G) (gA G) U U.heap ∧ va_T .byte (gsb G) 24 (fun j => .int (am_bytes.getD j 0)) (gA G) U U.heap) ∧
  (va_Z "java/lang/String" "COMPACT_STRINGS" "Z" (.int 1) (gA G) U U.heap ∧ va_Z "jdk/internal/util/Preconditions" "SIOOBE_FORMATTER" "Ljava/util/function/BiFunction;" (gV G) (gA G) U U.heap) ∧ (gV G).category = 1 ∧ gB G ≤ U.heap.size
theorem am_nest_M {w : Cond} (h : w ∈ am_nest) : ∃ a i x h, w = .methodLinkNest a i x h := by
  unfold am_nest at h
  simp only [List.mem_cons, List.not_mem_nil, or_false] at h
  rcases h with h | h | h | h | h | h | h | h | h | h <;> exact ⟨_, _, _, _, h⟩
theorem am_Zkept {C n d : String} {v : Value} {A : Nat → Prop} {U : State} {H H1 : Heap} (h : va_Z C n d v A U H) (hq : ∀ a : Nat, a < H.size → ¬ A a → H1[a]? = H[a]?) : va_Z C n d v A U H1 := by
  obtain ⟨cf, kf, fi, f, a, cell, h1, h2, h3, h4, h5, h6, h7, h8⟩ := h
  exact ⟨cf, kf, fi, f, a, cell, h1, h2, h3, h4, by rw [hq a (Array.getElem?_eq_some_iff.mp h5).1 h8]; exact h5, h6, h7, h8⟩
theorem am_TB.go {G : am_Gt} {s U : State} {H : Heap} {locs : List Loc} (hT : am_TB G s) (hW : s.WarmedH U.vm) (hS : va_S (gA G) s.heap H locs) (hH : U.heap = H) : am_TB G U := by
  obtain ⟨h1, h2, ⟨h3, h4⟩, ⟨h5, h6⟩, ⟨h7, h8, h9, h10, h11⟩, ⟨h12, h13⟩, h14, h15⟩ := hT
  have ha := hW.alike
  have hq : ∀ a : Nat, a < s.heap.size → ¬ gA G a → U.heap[a]? = s.heap[a]? := fun a q1 q2 => by rw [hH]; exact hS.2.1 a q1 q2
  refine ⟨h1.moved ha, fun w hw => ?_, ⟨h3.moved ha, h4.moved ha⟩, ⟨(h5.moved ha).kept (hq _ (by omega) (Nat.not_le.mpr h6)), h6⟩, ⟨h7.warm hW, (h8.moved ha).kept hq, (h9.moved ha).kept hq, (h10.moved ha).kept hq, (h11.moved ha).kept hq⟩, ⟨am_Zkept (h12.moved ha) hq, am_Zkept (h13.moved ha) hq⟩, h14, ?_⟩
  · obtain ⟨a, i, x, h, rfl⟩ := am_nest_M hw
    exact (h2 _ hw).warmM hW
  · rw [hH]; exact Nat.le_trans h15 hS.1
theorem am_TB.blind {G : am_Gt} {U : State} (g : JFrame) (mk : MethodId) (a : Array Value) (hT : am_TB G U) : am_TB G (U.calling g mk a) := by
  obtain ⟨h1, h2, ⟨h3, h4⟩, ⟨h5, h6⟩, ⟨h7, h8, h9, h10, h11⟩, ⟨h12, h13⟩, h14, h15⟩ := hT
  have ha : U.vm.Alike (U.calling g mk a).vm := Vm.Alike.refl U.vm
  refine ⟨h1.moved ha, fun w hw => ?_, ⟨h3.moved ha, h4.moved ha⟩, ⟨h5.moved ha, h6⟩, ⟨vk_R.same rfl h7, h8.moved ha, h9.moved ha, h10.moved ha, h11.moved ha⟩, ⟨h12.moved ha, h13.moved ha⟩, h14, h15⟩
  obtain ⟨a, i, x, h, rfl⟩ := am_nest_M hw
  exact (h2 _ hw).same rfl rfl
/-- locals -/
def am_lv (G : am_Gt) (ls : am_L) : List (Nat × Value) := (List.range ls.length).filterMap (fun i => match ls[i]? with
  | some (some v) => some (i, am_sh G v)
  | _ => none)
theorem am_lv_in {G : am_Gt} {ls : am_L} {i : Nat} {v : Value} (h : ls[i]? = some (some v)) : (i, am_sh G v) ∈ am_lv G ls := by
  refine List.mem_filterMap.mpr ⟨i, List.mem_range.mpr (List.getElem?_eq_some_iff.mp h).1, ?_⟩
  rw [h]
theorem am_lv_of {G : am_Gt} {ls : am_L} {q : Nat × Value} (h : q ∈ am_lv G ls) : ∃ v, ls[q.1]? = some (some v) ∧ q.2 = am_sh G v := by
  obtain ⟨i, -, h2⟩ := List.mem_filterMap.mp h
  split at h2
  · cases h2; exact ⟨_, by assumption, rfl⟩
  · cases h2
def am_lr (G : am_Gt) (L : Array Slot) (nL : Nat) (ls : am_L) : Prop := ls.length = nL ∧ (∀ (i : Nat) (v : Value), ls[i]? = some (some v) → am_c1 v = true) ∧ lv_has L nL (am_lv G ls)
theorem am_lr.at {G : am_Gt} {L : Array Slot} {nL : Nat} {ls : am_L} (h : am_lr G L nL ls) {i : Nat} {v : Value} (hi : ls[i]? = some (some v)) : L[i]? = some (.val (am_sh G v)) := h.2.2.2.2 _ (am_lv_in hi)
theorem am_cat {G : am_Gt} (hV : (gV G).category = 1) {v : Value} (h : am_c1 v = true) : (am_sh G v).category = 1 := by
  cases v <;> first | rfl | exact hV | cases h
theorem am_lr.st {G : am_Gt} (hV : (gV G).category = 1) {L L' : Array Slot} {nL : Nat} {ls : am_L} (h : am_lr G L nL ls) {k : Nat} {v : Value} (hk : k < ls.length) (hv : am_c1 v = true) (h' : lv_has L' nL ((k, am_sh G v) :: (am_lv G ls).filter (fun q => !(q.1 == k) && !(q.1 + 1 == k && q.2.category == 2)))) : am_lr G L' nL (ls.set k (some v)) := by
  refine ⟨by rw [List.length_set]; exact h.1, fun i w hw => ?_, h'.1, h'.2.1, fun q hq => ?_⟩
  · rw [List.getElem?_set] at hw
    by_cases e : k = i
    · rw [if_pos e, if_pos (e ▸ hk)] at hw
      cases hw; exact hv
    · rw [if_neg e] at hw
      exact h.2.1 i w hw
  · obtain ⟨w, h1, h2⟩ := am_lv_of hq
    refine h'.2.2 q ?_
    rw [List.getElem?_set] at h1
    by_cases e : k = q.1
    · rw [if_pos e, if_pos (e ▸ hk)] at h1
      cases h1
      have : q = (k, am_sh G v) := Prod.ext e.symm h2
      rw [this]
      exact List.mem_cons_self
    · rw [if_neg e] at h1
      refine List.mem_cons_of_mem _ (List.mem_filter.mpr ⟨?_, ?_⟩)
      · have := am_lv_in (G := G) h1
        rw [← h2] at this
        exact this
      · have hc : q.2.category = 1 := by rw [h2]; exact am_cat hV (h.2.1 _ _ h1)
        rw [hc]
        simp [Ne.symm e]
end
section
section AMB
variable {p : Program} {l : Launch} {e : Env} {R : Room} {s : State} {m : MethodId} {args : Array Value} {below : List Frame} {meth : Method} {c : Code} {H : Heap} {locs : List Loc} {cells slots : Nat} {Q : State → Prop}
variable {cc : ByteArray} {pc pc' nL : Nat} {G : am_Gt} {L : Array Slot} {ls ls' : am_L} {st st' : List Value} {i : Instr} {n : Nat}
set_option maxHeartbeats 4000000 in
theorem am_s1 (hx : p.tables.exec = Jvm.exec) (hb : c.code = cc) (hV : (gV G).category = 1) (hd : decode cc pc = .ok (i, n)) (h : am_g1 pc ls st i n = some (pc', ls', st')) (hl : am_lr G L nL ls)
    (kk : ∀ L' : Array Slot, am_lr G L' nL ls' → W p l e R s m args below meth c H locs cells slots Q (F0 m pc' L' (st'.map (am_sh G)))) : W p l e R s m args below meth c H locs cells slots Q (F0 m pc L (st.map (am_sh G))) := by
  unfold am_g1 at h
  split at h
  · split at h
    · rename_i q; cases h
      exact lv_iload_n hx hb hd rfl (hl.at q) (kk L hl)
    · cases h
  · split at h
    · rename_i q; cases h
      exact lv_iload hx hb hd (hl.at q) (kk L hl)
    · cases h
  · split at h
    · rename_i q; cases h
      exact lv_aload_n hx hb hd rfl (hl.at q) (kk L hl)
    · rename_i q; cases h
      exact lv_aload_nN hx hb hd rfl (hl.at q) (kk L hl)
    · cases h
  · split at h
    · rename_i q; cases h
      exact lv_aload hx hb hd (hl.at q) (kk L hl)
    · rename_i q; cases h
      exact lv_aloadN hx hb hd (hl.at q) (kk L hl)
    · cases h
  · split at h
    · split at h
      · rename_i k _ x r q; cases h
        exact lv_istore_n hx hb hd rfl hl.2.2 (by rw [← hl.1]; exact q) rfl (fun L' h' => kk L' (hl.st hV (v := .int x) q rfl h'))
      · cases h
    · cases h
  · split at h
    · split at h
      · rename_i k _ x r q; cases h
        exact lv_istore hx hb hd hl.2.2 (by rw [← hl.1]; exact q) rfl (fun L' h' => kk L' (hl.st hV (v := .int x) q rfl h'))
      · cases h
    · cases h
  · split at h
    · split at h
      · rename_i k _ x r q; cases h
        exact lv_astore_n hx hb hd rfl hl.2.2 (by rw [← hl.1]; exact q) rfl (fun L' h' => kk L' (hl.st hV (v := .ref x) q rfl h'))
      · cases h
    · split at h
      · rename_i k _ r q; cases h
        exact lv_astore_nN hx hb hd rfl hl.2.2 (by rw [← hl.1]; exact q) rfl (fun L' h' => kk L' (hl.st hV (v := .null) q rfl h'))
      · cases h
    · cases h
  · split at h
    · split at h
      · rename_i k _ x r q; cases h
        exact lv_astore hx hb hd hl.2.2 (by rw [← hl.1]; exact q) rfl (fun L' h' => kk L' (hl.st hV (v := .ref x) q rfl h'))
      · cases h
    · split at h
      · rename_i k _ r q; cases h
        exact lv_astoreN hx hb hd hl.2.2 (by rw [← hl.1]; exact q) rfl (fun L' h' => kk L' (hl.st hV (v := .null) q rfl h'))
      · cases h
    · cases h
  · split at h
    · rename_i k n' _ x q; cases h
      have hk := (List.getElem?_eq_some_iff.mp q).1
      obtain ⟨w, hw⟩ := List.getElem?_of_mem (am_lv_in (G := G) q)
      exact lv_iinc hx hb hd hl.2.2 (k := w) hw rfl (by rw [← hl.1]; exact hk) rfl (fun L' h' => kk L' (hl.st hV (v := .int _) hk rfl h'))
    · cases h
  · cases h; exact lv_iconst hx hb hd rfl (kk L hl)
  · cases h; exact lv_bipush hx hb hd rfl (kk L hl)
  · cases h; exact lv_sipush hx hb hd rfl (kk L hl)
  · cases h; exact lv_null hx hb hd (kk L hl)
  · split at h
    · cases h; exact lv_iadd hx hb hd (kk L hl)
    · cases h
  · split at h
    · cases h; exact lv_isub hx hb hd (kk L hl)
    · cases h
  · split at h
    · cases h; exact lv_imul hx hb hd (kk L hl)
    · cases h
  · split at h
    · cases h; exact lv_iand hx hb hd (kk L hl)
    · cases h
  · split at h
    · cases h; exact lv_ixor hx hb hd (kk L hl)
    · cases h
  · split at h
    · cases h; exact lv_ishr hx hb hd (kk L hl)
    · cases h
  · split at h
    · split at h
      · cases h
      · rename_i q; cases h; exact lv_idiv hx hb hd q (kk L hl)
    · cases h
  · split at h
    · split at h
      · cases h
      · rename_i q; cases h; exact lv_irem hx hb hd q (kk L hl)
    · cases h
  · split at h
    · cases h; exact lv_i2c hx hb hd rfl (kk L hl)
    · cases h
  · split at h
    · split at h
      · rename_i q; cases h; exact lv_dup hx hb hd (am_cat hV q) (kk L hl)
      · cases h
    · cases h
  · split at h
    · split at h
      · rename_i q; cases h
        rw [Bool.and_eq_true] at q
        exact lv_dup2_11 hx hb hd (am_cat hV q.1) (am_cat hV q.2) (kk L hl)
      · cases h
    · cases h
  · split at h
    · split at h
      · rename_i q; cases h; exact lv_pop hx hb hd (am_cat hV q) (kk L hl)
      · cases h
    · cases h
  · cases h
theorem am_tg_some {o : Int} (h : am_tg pc o st = some (pc', st')) : (pc : Int) + o = (pc' : Int) ∧ st = st' := by
  unfold am_tg at h
  split at h
  · cases h; exact ⟨by omega, rfl⟩
  · cases h
theorem am_br_some {b : Bool} {o : Int} (h : am_br b pc o st = some (pc', st')) : ∃ tg : Nat, (pc : Int) + o = (tg : Int) ∧ st = st' ∧ pc' = if b then tg else pc + 3 := by
  unfold am_br at h
  split at h
  · cases h
  · rename_i t ht
    obtain ⟨tp, tst⟩ := t
    obtain ⟨h1, rfl⟩ := am_tg_some ht
    cases b
    · cases h; exact ⟨tp, h1, rfl, rfl⟩
    · cases h; exact ⟨_, h1, rfl, rfl⟩
set_option maxHeartbeats 4000000 in
theorem am_s2 (hx : p.tables.exec = Jvm.exec) (hb : c.code = cc) (hd : decode cc pc = .ok (i, n)) (h : am_g2 pc st i n = some (pc', st'))
    (kk : W p l e R s m args below meth c H locs cells slots Q (F0 m pc' L (st'.map (am_sh G)))) : W p l e R s m args below meth c H locs cells slots Q (F0 m pc L (st.map (am_sh G))) := by
  unfold am_g2 at h
  split at h
  · obtain ⟨h1, rfl⟩ := am_tg_some h
    exact lv_goto hx hb hd h1 kk
  · split at h
    · obtain ⟨tg, h1, rfl, rfl⟩ := am_br_some h
      exact lv_if_eq hx hb hd h1 (fun z => by simpa [z] using kk) (fun z => by simpa [z] using kk)
    · cases h
  · split at h
    · obtain ⟨tg, h1, rfl, rfl⟩ := am_br_some h
      exact lv_icmp_eq hx hb hd h1 (fun z => by simpa [z] using kk) (fun z => by simpa [z] using kk)
    · cases h
  · split at h
    · obtain ⟨tg, h1, rfl, rfl⟩ := am_br_some h
      exact lv_if_ne hx hb hd h1 (fun z => by simpa [z] using kk) (fun z => by simpa [z] using kk)
    · cases h
  · split at h
    · obtain ⟨tg, h1, rfl, rfl⟩ := am_br_some h
      exact lv_icmp_ne hx hb hd h1 (fun z => by simpa [z] using kk) (fun z => by simpa [z] using kk)
    · cases h
  · split at h
    · obtain ⟨tg, h1, rfl, rfl⟩ := am_br_some h
      exact lv_if_lt hx hb hd h1 (fun z => by simpa [z] using kk) (fun z => by simpa [z] using kk)
    · cases h
  · split at h
    · obtain ⟨tg, h1, rfl, rfl⟩ := am_br_some h
      exact lv_icmp_lt hx hb hd h1 (fun z => by simpa [z] using kk) (fun z => by simpa [z] using kk)
    · cases h
  · split at h
    · obtain ⟨tg, h1, rfl, rfl⟩ := am_br_some h
      exact lv_if_ge hx hb hd h1 (fun z => by simpa [z] using kk) (fun z => by simpa [z] using kk)
    · cases h
  · split at h
    · obtain ⟨tg, h1, rfl, rfl⟩ := am_br_some h
      exact lv_icmp_ge hx hb hd h1 (fun z => by simpa [z] using kk) (fun z => by simpa [z] using kk)
    · cases h
  · split at h
    · obtain ⟨tg, h1, rfl, rfl⟩ := am_br_some h
      exact lv_if_gt hx hb hd h1 (fun z => by simpa [z] using kk) (fun z => by simpa [z] using kk)
    · cases h
  · split at h
    · obtain ⟨tg, h1, rfl, rfl⟩ := am_br_some h
      exact lv_icmp_gt hx hb hd h1 (fun z => by simpa [z] using kk) (fun z => by simpa [z] using kk)
    · cases h
  · split at h
    · obtain ⟨tg, h1, rfl, rfl⟩ := am_br_some h
      exact lv_if_le hx hb hd h1 (fun z => by simpa [z] using kk) (fun z => by simpa [z] using kk)
    · cases h
  · split at h
    · obtain ⟨tg, h1, rfl, rfl⟩ := am_br_some h
      exact lv_icmp_le hx hb hd h1 (fun z => by simpa [z] using kk) (fun z => by simpa [z] using kk)
    · cases h
  · split at h
    · cases h; exact lv_ifnull hx hb hd kk
    · obtain ⟨h1, rfl⟩ := am_tg_some h
      exact lv_ifnullN hx hb hd h1 kk
    · cases h
  · split at h
    · obtain ⟨h1, rfl⟩ := am_tg_some h
      exact lv_ifnonnull hx hb hd h1 kk
    · cases h; exact lv_ifnonnullN hx hb hd kk
    · cases h
  · split at h
    · split at h
      · rename_i q; obtain ⟨h1, rfl⟩ := am_tg_some h
        exact lv_tableOut hx hb hd q h1 kk
      · split at h
        · rename_i q _ o ho; obtain ⟨h1, rfl⟩ := am_tg_some h
          exact lv_tableIn hx hb hd (fun z => q (Or.inl z)) (fun z => q (Or.inr z)) ho h1 kk
        · cases h
    · cases h
  · split at h
    · split at h
      · rename_i q; obtain ⟨h1, rfl⟩ := am_tg_some h
        exact lv_lookup hx hb hd q rfl h1 kk
      · cases h
    · cases h
  · cases h
end AMB
end
section
def am_X (G : am_Gt) (k : Nat) (p : Program) (R : Room) (s : State) (m : MethodId) (args : Array Value) (meth : Method) (c : Code) : Prop :=
  p.tables.exec = Jvm.exec ∧ c.code = am_c k ∧ meth.sig.returnType = am_rt k ∧ c.maxLocals = am_nl k ∧ s.vm.findClass (am_cn (am_own k)) = some m.cls ∧ (∀ w ∈ am_gw, w.before args s = true) ∧ am_lev k ≤ R.frames ∧ 38 * am_lev k ≤ R.locals ∧ (am_ini k = true → meth.name = "<init>") ∧ meth.locks = false ∧ am_TB G s
theorem am_is_of {M : am_M} {a t : Nat} (h : am_is M a t = true) : 3 ≤ a ∧ a < M.2.2.2.1 ∧ am_tag a = t := by
  unfold am_is am_isK at h
  simp only [Bool.and_eq_true, decide_eq_true_eq, beq_iff_eq] at h
  exact ⟨h.1.1, h.1.2, h.2⟩
theorem am_ix_of {i : Int32} {n : Nat} (h : am_ix i n = true) : vp_in i n := by
  unfold am_ix at h
  unfold vp_in
  simp only [Bool.not_eq_true', Bool.or_eq_false_iff, decide_eq_false_iff_not] at h
  exact fun q => q.elim h.1 h.2
theorem am_fld_of {o ix ci j : Nat} (h : am_fld o ix = some (ci, j)) : Cond.fieldLink (am_cn o) ix (am_fT ci j).1 (am_fT ci j).2.1 (am_fT ci j).2.2.1 ∈ am_gw ∧ ci ≤ 10 ∧ j < am_cN ci ∧ (am_fT ci j).1 = am_cn ci := by
  unfold am_fld at h
  obtain ⟨⟨o', ix', ci', j', pl⟩, h1, h2⟩ := Option.map_eq_some_iff.mp h
  have hm := List.mem_of_find?_eq_some h1
  have hp := List.find?_some h1
  have hk := List.all_eq_true.mp am_okF_all _ hm
  simp only [Bool.and_eq_true, beq_iff_eq] at hp
  obtain ⟨rfl, rfl⟩ := hp
  cases h2
  unfold am_okF at hk
  simp only [Bool.and_eq_true, decide_eq_true_eq] at hk
  exact ⟨am_at_in hk.1.1.1, hk.1.1.2, hk.1.2, hk.2⟩
theorem am_K_of {ci : Nat} (h : ci ≤ 10) : (∀ w ∈ u_ws (am_cn ci) (am_fT ci) (am_cN ci), w ∈ am_gw) ∧ (∀ k, k < am_cN ci → parseFieldDescriptor (am_fT ci k).2.2.1 = some (am_ty ci k)) ∧ (∀ a, a < am_cN ci → ∀ b, b < am_cN ci → a ≠ b → (am_fT ci a).2.1 ≠ (am_fT ci b).2.1) := by
  have hk := List.all_eq_true.mp am_okK_all ci (List.mem_range.mpr (by omega))
  unfold am_okK at hk
  have hk := List.all_eq_true.mp hk
  refine ⟨fun w hw => ?_, fun k h1 => ?_, fun a ha b hb hab => ?_⟩
  · obtain ⟨k, h1, rfl⟩ := List.mem_map.mp hw
    have := hk k h1
    simp only [Bool.and_eq_true] at this
    exact am_at_in this.1.1
  · have := hk k (List.mem_range.mpr h1)
    simp only [Bool.and_eq_true, decide_eq_true_eq] at this
    exact this.1.2
  · have := hk b (List.mem_range.mpr hb)
    simp only [Bool.and_eq_true] at this
    have := List.all_eq_true.mp this.2 a (List.mem_range.mpr ha)
    simp only [Bool.or_eq_true, decide_eq_true_eq] at this
    exact this.resolve_left hab
theorem am_fs_V (G : am_Gt) (M : am_M) (a t : Nat) {j : Nat} (h : j < am_cN t) : vp_V (am_fs G M a t) j = (if am_isI t j then .int (M.1 a j) else am_sh G (am_rf (M.2.1 a j))) := by
  unfold vp_V am_fs
  simp [h]
theorem am_fs_get (G : am_Gt) (M : am_M) (a t : Nat) {j : Nat} (h : j < am_cN t) : (am_fs G M a t)[j]? = some (if am_isI t j then .int (M.1 a j) else am_sh G (am_rf (M.2.1 a j))) := by
  unfold am_fs
  simp [h]
theorem am_one {D : va_G} {cl : List vw_C} {q : Nat × va_E} {H : Heap} (h : va_at D cl q H) : va_P D cl [q] H := by
  intro k x hx
  match k, hx with
  | 0, hx => cases hx; exact h
  | k + 1, hx => simp at hx
theorem am_rf_sh (G : am_Gt) (r : Option Nat) : va_rf (r.map (am_ab G)) = am_sh G (am_rf r) := by cases r <;> rfl
theorem am_narI {ty : FieldType} {v : Value} (hv : v = .null ∨ ∃ a, v = .ref a) : narrow ty v = v := by
  rcases hv with rfl | ⟨a, rfl⟩ <;> cases ty <;> rfl
theorem am_fitR {ci j : Nat} {v : Value} (h : am_isI ci j = false) (hv : v = .null ∨ ∃ a, v = .ref a) : fits (am_ty ci j) v = true := by
  unfold am_isI at h
  split at h
  · rename_i q; rw [q]; rcases hv with rfl | ⟨a, rfl⟩ <;> rfl
  · rename_i q; rw [q]; rcases hv with rfl | ⟨a, rfl⟩ <;> rfl
  · cases h
section AMC
variable {p : Program} {l : Launch} {e : Env} {R : Room} {s : State} {m : MethodId} {args : Array Value} {below : List Frame} {meth : Method} {c : Code} {H : Heap} {locs : List Loc} {cells slots : Nat} {Q : State → Prop}
variable {k pc : Nat} {G : am_Gt} {L : Array Slot} {rest : List Value} {M : am_M}
/-- a field is written: what the class file says of it, final or not -/
theorem am_putf (hX : am_X G k p R s m args meth c) (hP : am_RP G M H) (hS : va_S (gA G) s.heap H locs) {ix ci j a : Nat} (hf : am_fld (am_own k) ix = some (ci, j)) (ha : am_is M a ci = true) (hfin : (am_fT ci j).2.2.2 = false ∨ (am_ini k = true ∧ ci = am_own k)) {v : Value} (hn : narrow (am_ty ci j) v = v) (hfit : fits (am_ty ci j) v = true) {I' : am_I} {R' : am_R}
    (hI : ∀ q, q ≠ a → I' q = M.1 q) (hR : ∀ q, q ≠ a → R' q = M.2.1 q) (hv : ∀ x, x < am_cN ci → updV (vp_V (am_fs G M a ci)) j v x = vp_V (am_fs G (I', R', M.2.2) a ci) x) (hdg : decode (am_c k) pc = .ok (.putfield ix, 3))
    (kk : ∀ (H1 : Heap) (locs1 : List Loc), am_RP G (I', R', M.2.2) H1 → va_S (gA G) s.heap H1 locs1 → W p l e R s m args below meth c H1 locs1 cells slots Q (F0 m (pc + 3) L rest)) : W p l e R s m args below meth c H locs cells slots Q (F0 m pc L (v :: .ref (am_ab G a) :: rest)) := by
  obtain ⟨hx, hb, -, -, hown, hts, -, -, hin2, -, hT⟩ := hX
  obtain ⟨hfl, hci, hj, hdecl⟩ := am_fld_of hf
  obtain ⟨h3, hlt, htag⟩ := am_is_of ha
  obtain ⟨hin, hty, hnm⟩ := am_K_of hci
  have hK := hT.1
  have hc := am_vw hci
  have hat := hP.2.2.2.2 a h3 hlt
  rw [am_E_o G M htag hci] at hat
  have hap := va_apart (own := am_cn (am_own k)) hts hin (am_ty ci) hty hnm hK hc
  obtain ⟨r, h1, cell, q1, q2, q3, q4⟩ := hat
  have hr : r = (am_cn ci, am_fT ci, am_cN ci) := Option.some.inj (h1.symm.trans hc)
  subst hr
  obtain ⟨hSl, hfc, kC, hkC, hkind⟩ := hK.1 ci _ hc
  obtain ⟨cf, kf, fi, f, hi, hsl⟩ := hSl j hj
  have hlay := hts _ (hin _ (u_in_lay hj))
  have hst := (u_facts hfc hkC (u_lays hts hin hj) hi).1
  have fin : ∀ H' : Heap, H'[am_ab G a]? = some (cell.setSlot f.slot v) → H'.size = H.size → (∀ q, q ≠ am_ab G a → H'[q]? = H[q]?) → W p l e R s m args below meth c H' (locs ++ [⟨am_ab G a, f.slot⟩]) cells slots Q (F0 m (pc + 3) L rest) := by
    intro H' e1 e2 e3
    rw [hsl] at e1 ⊢
    refine kk H' _ (hP.upd h3 rfl hI hR rfl e2 e3 ?_) (hS.put e2 e3 (am_ab_A G h3))
    rw [am_E_o G (I', R', M.2.2) htag hci]
    exact ⟨_, hc, t_OB.to (V := updV (vp_V (am_fs G M a ci)) j v) ⟨_, e1, q2, q3, t_set q4 hap hj v⟩ hv⟩
  rcases hfin with hfin | ⟨hini, hco⟩
  · unfold u_lay at hlay
    rw [if_neg (by rw [hfin]; decide)] at hlay
    have h6 := u_store hfc hkC hkind hlay hi (hty j hj) hn hfit
    exact W.putK hx hb (f := f) ⟨hown, hts _ hfl, ⟨_, _, _, hi⟩, hst⟩ (by rw [q2]; exact h6) q1 q3 (by rw [hsl]; exact k2_hasslot (q4 j hj)) rfl rfl hdg fin
  · by_cases hfin : (am_fT ci j).2.2.2 = true
    · unfold u_lay at hlay
      rw [if_pos hfin] at hlay
      have hcf : m.cls = cf := by
        obtain ⟨_, _, c', _, _, _, -, -, hf', -, -, -, hown2, -⟩ := Cond.laysFinal_spec hlay
        have e1 : c' = cf := by have := hi.symm.trans hf'; simp at this; exact this.1.symm
        rw [hdecl, hco] at hown2
        rw [← e1]; exact Option.some.inj (hown.symm.trans hown2)
      have h6 := u_fits hfc hkC hkind (Or.inr hlay) hi (hty j hj) hn hfit
      exact W.putFinK hx hb hown (hts _ hfl) hi hst hcf (hin2 hini) (by rw [q2]; exact h6) q1 q3 (by rw [hsl]; exact k2_hasslot (q4 j hj)) rfl rfl hdg fin
    · unfold u_lay at hlay
      rw [if_neg hfin] at hlay
      have h6 := u_store hfc hkC hkind hlay hi (hty j hj) hn hfit
      exact W.putK hx hb (f := f) ⟨hown, hts _ hfl, ⟨_, _, _, hi⟩, hst⟩ (by rw [q2]; exact h6) q1 q3 (by rw [hsl]; exact k2_hasslot (q4 j hj)) rfl rfl hdg fin
theorem am_arI {M : am_M} {a t : Nat} (hP : am_RP G M H) (ha : am_is M a t = true) : va_at (gD G) vwCl (am_ab G a, am_E G M a) H := hP.2.2.2.2 a (am_is_of ha).1 (am_is_of ha).2.1
/-- int, boolean and char arrays are written -/
theorem am_iast (hX : am_X G k p R s m args meth c) (hP : am_RP G M H) (hS : va_S (gA G) s.heap H locs) {a : Nat} (ha : am_is M a 20 = true) {i x : Int32} (hin : vp_in i (M.2.2.1 a)) (hdg : decode (am_c k) pc = .ok (.iastore, 1))
    (kk : ∀ (H1 : Heap) (locs1 : List Loc), am_RP G (am_ui M.1 a i.toNatClampNeg x, M.2) H1 → va_S (gA G) s.heap H1 locs1 → W p l e R s m args below meth c H1 locs1 cells slots Q (F0 m (pc + 1) L rest)) : W p l e R s m args below meth c H locs cells slots Q (F0 m pc L (.int x :: .int i :: .ref (am_ab G a) :: rest)) := by
  obtain ⟨hx, hb, -, -, -, -, -, -, -, -, hT⟩ := hX
  obtain ⟨h3, hlt, htag⟩ := am_is_of ha
  have hat := am_arI hP ha
  rw [am_E_20 G M htag] at hat
  have hA := (hT.1.2 0 _ rfl).1 (M.2.2.1 a) (fun j => .int (M.1 a j))
  refine W.iast hx hb hat hA (fun q => by cases q) (by show ¬ (i < 0 ∨ (arrV _ _ _).slots.size ≤ _); rw [arrV_size]; exact hin) rfl rfl hdg fun H1 e z oq => ?_
  refine kk H1 _ (hP.upd h3 rfl (fun q hq => ?_) (fun q hq => rfl) rfl z oq ?_) (hS.put z oq (am_ab_A G h3))
  · funext j; show am_ui M.1 a _ x q j = _; unfold am_ui; rw [if_neg (fun h => hq h.1)]
  · rw [am_E_20 G _ htag]
    show H1[am_ab G a]? = some (vp_cell _ _)
    rw [e, vp_cell_i, vp_cell_i, arrV_store]
    congr 2
    funext q
    by_cases hq : q = i.toNatClampNeg
    · subst hq
      simp [updV, am_ui]
    · simp [updV, am_ui, hq]
theorem am_zast (hX : am_X G k p R s m args meth c) (hP : am_RP G M H) (hS : va_S (gA G) s.heap H locs) {a : Nat} (ha : am_is M a 21 = true) {i x : Int32} (hin : vp_in i (M.2.2.1 a)) (hdg : decode (am_c k) pc = .ok (.bastore, 1))
    (kk : ∀ (H1 : Heap) (locs1 : List Loc), am_RP G (am_ui M.1 a i.toNatClampNeg x, M.2) H1 → va_S (gA G) s.heap H1 locs1 → W p l e R s m args below meth c H1 locs1 cells slots Q (F0 m (pc + 1) L rest)) : W p l e R s m args below meth c H locs cells slots Q (F0 m pc L (.int x :: .int i :: .ref (am_ab G a) :: rest)) := by
  obtain ⟨hx, hb, -, -, -, -, -, -, -, -, hT⟩ := hX
  obtain ⟨h3, hlt, htag⟩ := am_is_of ha
  have hat := am_arI hP ha
  rw [am_E_21 G M htag] at hat
  have hA := (hT.1.2 1 _ rfl).1 (M.2.2.1 a) (fun j => .int (am_b (M.1 a j)))
  refine W.zast hx hb hat hA (fun q => by cases q) (by show ¬ (i < 0 ∨ (arrV _ _ _).slots.size ≤ _); rw [arrV_size]; exact hin) rfl rfl hdg fun H1 e z oq => ?_
  refine kk H1 _ (hP.upd h3 rfl (fun q hq => ?_) (fun q hq => rfl) rfl z oq ?_) (hS.put z oq (am_ab_A G h3))
  · funext j; show am_ui M.1 a _ x q j = _; unfold am_ui; rw [if_neg (fun h => hq h.1)]
  · rw [am_E_21 G _ htag]
    show H1[am_ab G a]? = some (vp_cell _ _)
    rw [e, vp_cell_i, vp_cell_i, arrV_store]
    congr 2
    funext q
    by_cases hq : q = i.toNatClampNeg
    · subst hq
      simp [updV, am_ui, am_b, vp_nar]
      try rfl
    · simp [updV, am_ui, hq]
theorem am_cast (hX : am_X G k p R s m args meth c) (hP : am_RP G M H) (hS : va_S (gA G) s.heap H locs) {a : Nat} (ha : am_is M a 22 = true) {i x : Int32} (hin : vp_in i (M.2.2.1 a)) (hdg : decode (am_c k) pc = .ok (.castore, 1))
    (kk : ∀ (H1 : Heap) (locs1 : List Loc), am_RP G (am_ui M.1 a i.toNatClampNeg x, M.2) H1 → va_S (gA G) s.heap H1 locs1 → W p l e R s m args below meth c H1 locs1 cells slots Q (F0 m (pc + 1) L rest)) : W p l e R s m args below meth c H locs cells slots Q (F0 m pc L (.int x :: .int i :: .ref (am_ab G a) :: rest)) := by
  obtain ⟨hx, hb, -, -, -, -, -, -, -, -, hT⟩ := hX
  obtain ⟨h3, hlt, htag⟩ := am_is_of ha
  have hat := am_arI hP ha
  rw [am_E_22 G M htag] at hat
  have hA := (hT.1.2 2 _ rfl).1 (M.2.2.1 a) (fun j => .int (am_h (M.1 a j)))
  refine W.cast hx hb hat hA (fun q => by cases q) (by show ¬ (i < 0 ∨ (arrV _ _ _).slots.size ≤ _); rw [arrV_size]; exact hin) rfl rfl hdg fun H1 e z oq => ?_
  refine kk H1 _ (hP.upd h3 rfl (fun q hq => ?_) (fun q hq => rfl) rfl z oq ?_) (hS.put z oq (am_ab_A G h3))
  · funext j; show am_ui M.1 a _ x q j = _; unfold am_ui; rw [if_neg (fun h => hq h.1)]
  · rw [am_E_22 G _ htag]
    show H1[am_ab G a]? = some (vp_cell _ _)
    rw [e, vp_cell_i, vp_cell_i, arrV_store]
    congr 2
    funext q
    by_cases hq : q = i.toNatClampNeg
    · subst hq
      simp [updV, am_ui, am_h, vp_nar]
      try rfl
    · simp [updV, am_ui, hq]
/-- arrays of references are written -/
theorem am_aast (hX : am_X G k p R s m args meth c) (hP : am_RP G M H) (hS : va_S (gA G) s.heap H locs) {a b : Nat} (hab : (am_is M a 23 = true ∧ am_is M b 3 = true) ∨ (am_is M a 24 = true ∧ am_is M b 7 = true)) {i : Int32} (hin : vp_in i (M.2.2.1 a)) (hdg : decode (am_c k) pc = .ok (.aastore, 1))
    (kk : ∀ (H1 : Heap) (locs1 : List Loc), am_RP G (M.1, am_ur M.2.1 a i.toNatClampNeg (some b), M.2.2) H1 → va_S (gA G) s.heap H1 locs1 → W p l e R s m args below meth c H1 locs1 cells slots Q (F0 m (pc + 1) L rest)) : W p l e R s m args below meth c H locs cells slots Q (F0 m pc L (.ref (am_ab G b) :: .int i :: .ref (am_ab G a) :: rest)) := by
  obtain ⟨hx, hb, -, -, -, -, -, -, -, -, hT⟩ := hX
  have key : ∀ (t tv : Nat) (cA : ClassId) (C : String), am_is M a t = true → am_is M b tv = true → tv ≤ 10 → am_cn tv = C → (∀ M' : am_M, am_E G M' a = .inl (cA, M'.2.2.1 a, .inr (.inr (.inr (.inr (fun j => (M'.2.1 a j).map (am_ab G))))))) → va_RA s cA (.object C) → W p l e R s m args below meth c H locs cells slots Q (F0 m pc L (.ref (am_ab G b) :: .int i :: .ref (am_ab G a) :: rest)) := by
    intro t tv cA C ha hb2 htv hC hE hRA
    obtain ⟨h3, hlt, htag⟩ := am_is_of ha
    obtain ⟨h3b, hltb, htagb⟩ := am_is_of hb2
    have hat := am_arI hP ha
    rw [hE M] at hat
    have hbt := am_arI hP hb2
    rw [am_E_o G M htagb htv] at hbt
    obtain ⟨r', hr', cellV, g1, g2, g3, -⟩ := hbt
    have hcls := (hT.1.1 tv _ (am_vw htv)).2
    obtain ⟨kA, comp, k1, k2, k3, -⟩ := hRA
    have hcomp : comp = (gD G).1 tv := Option.some.inj (k3.symm.trans (by rw [← hC]; exact hcls.1))
    subst hcomp
    obtain ⟨kC, hkC, -⟩ := hcls.2
    have h0 : ¬ i < 0 := fun q => hin (Or.inl q)
    have hlt2 : i.toNatClampNeg < M.2.2.1 a := Nat.not_le.mp fun q => hin (Or.inr q)
    refine W.aast hx hb hat (fun q h => by cases h) (fun h => by cases h) k1 k2 rfl hkC ⟨h0, by show _ < (arrV _ _ _).slots.size; rw [arrV_size]; exact hlt2⟩ g1 (fun q h => by rw [g3] at h; cases h) (by rw [g2]; exact hkC) (by rw [g2]; exact va_assign hcls) rfl rfl hdg fun H1 e z oq => ?_
    refine kk H1 _ (hP.upd h3 rfl (fun q hq => rfl) (fun q hq => ?_) rfl z oq ?_) (hS.put z oq (am_ab_A G h3))
    · funext j; show am_ur M.2.1 a _ _ q j = _; unfold am_ur; rw [if_neg (fun h => hq h.1)]
    · rw [hE]
      show H1[am_ab G a]? = some (vp_cell _ _)
      rw [e, vp_cell_q, vp_cell_q, arrV_store]
      congr 2
      funext q
      by_cases hq : q = i.toNatClampNeg
      · subst hq
        simp [updV, am_ur, va_rf]
      · simp [updV, am_ur, hq]
  rcases hab with ⟨h1, h2⟩ | ⟨h1, h2⟩
  · exact key 23 3 (gP G) RX3 h1 h2 (by decide) rfl (fun M' => am_E_23 G M' (am_is_of h1).2.2) (hT.1.2 3 _ rfl).2
  · exact key 24 7 (gS G) RX7 h1 h2 (by decide) rfl (fun M' => am_E_24 G M' (am_is_of h1).2.2) (hT.1.2 4 _ rfl).2
end AMC
end
section
theorem am_okD : ∀ ci, ci < 11 → ∀ j, j < am_cN ci → defaultValue (am_ty ci j) = (if am_isI ci j then .int 0 else .null) := by decide +kernel
theorem am_call_of {o ix kd j : Nat} (h : am_call o ix = some (kd, j)) : ∃ lk p2 se ini, am_okC (o, ix, kd, j, lk, p2, se, ini) = true := by
  unfold am_call at h
  obtain ⟨⟨o', ix', kd', j', lk, p2, se, ini⟩, h1, h2⟩ := Option.map_eq_some_iff.mp h
  have hm := List.mem_of_find?_eq_some h1
  have hp := List.find?_some h1
  have hk := List.all_eq_true.mp am_okC_all _ hm
  simp only [Bool.and_eq_true, beq_iff_eq] at hp
  obtain ⟨rfl, rfl⟩ := hp
  cases h2
  exact ⟨lk, p2, se, ini, hk⟩
theorem am_new_of {o ix ci : Nat} (h : am_new o ix = some ci) : Cond.classLink (am_cn o) ix (am_cn ci) ∈ am_gw ∧ Cond.instantiable (am_cn ci) (am_cN ci) ∈ am_gw ∧ Cond.initialized (am_cn ci) ∈ am_gw ∧ ci ≤ 10 := by
  unfold am_new at h
  obtain ⟨⟨o', ix', ci', p1, p2, p3⟩, h1, h2⟩ := Option.map_eq_some_iff.mp h
  have hm := List.mem_of_find?_eq_some h1
  have hp := List.find?_some h1
  have hk := List.all_eq_true.mp am_okN_all _ hm
  simp only [Bool.and_eq_true, beq_iff_eq] at hp
  obtain ⟨rfl, rfl⟩ := hp
  cases h2
  unfold am_okN at hk
  simp only [Bool.and_eq_true, decide_eq_true_eq] at hk
  exact ⟨am_at_in hk.1.1.1, am_at_in hk.1.1.2, am_at_in hk.1.2, hk.2⟩
theorem am_anew_of {o ix ci : Nat} (h : am_anew o ix = some ci) : Cond.classLink (am_cn o) ix (am_cn ci) ∈ am_gw := by
  unfold am_anew at h
  obtain ⟨⟨o', ix', ci', p1⟩, h1, h2⟩ := Option.map_eq_some_iff.mp h
  have hm := List.mem_of_find?_eq_some h1
  have hp := List.find?_some h1
  have hk := List.all_eq_true.mp am_okA_all _ hm
  simp only [Bool.and_eq_true, beq_iff_eq] at hp
  obtain ⟨rfl, rfl⟩ := hp
  cases h2
  unfold am_okA at hk
  simp only [Bool.and_eq_true] at hk
  exact am_at_in hk.1
theorem am_sum {G : am_Gt} (hV : (gV G).category = 1) : ∀ {r : List Value}, r.all am_c1 = true → ((r.map (am_sh G)).map fun v => v.category).sum = r.length
  | [], _ => rfl
  | v :: r, h => by
    simp only [List.all_cons, Bool.and_eq_true] at h
    have := am_sum hV h.2
    simp only [List.map_cons, List.sum_cons, List.length_cons, am_cat hV h.1, this]
    omega
section AMD
variable {p : Program} {l : Launch} {e : Env} {R : Room} {s : State} {m : MethodId} {args : Array Value} {below : List Frame} {meth : Method} {c : Code} {H : Heap} {locs : List Loc} {cells slots : Nat} {Q : State → Prop}
variable {k pc pc' : Nat} {G : am_Gt} {L : Array Slot} {rest st st' : List Value} {M M' : am_M} {i : Instr} {n : Nat}
theorem am_copy (hX : am_X G k p R s m args meth c) (hL : L.size = am_nl k) (hP : am_RP G M H) (hS : va_S (gA G) s.heap H locs) {ix a d : Nat} {kd : Nat} (hcall : am_call (am_own k) ix = some (4, kd)) (hlv : 0 < am_lev k) (ha : am_is M a 20 = true) (hd : am_is M d 20 = true) {sp dp n : Int32} (h1 : ¬ sp < 0) (h2 : ¬ dp < 0) (h3 : ¬ n < 0) (h4 : sp.toNatClampNeg + n.toNatClampNeg ≤ M.2.2.1 a) (h5 : dp.toNatClampNeg + n.toNatClampNeg ≤ M.2.2.1 d) (hrest : (rest.map fun v => v.category).sum ≤ 8) (hdg : decode (am_c k) pc = .ok (.invokestatic ix, 3))
    (kk : ∀ (H1 : Heap) (locs1 : List Loc), am_RP G (am_cp M.1 a sp.toNatClampNeg d dp.toNatClampNeg n.toNatClampNeg, M.2) H1 → va_S (gA G) s.heap H1 locs1 → W p l e R s m args below meth c H1 locs1 cells slots Q (F0 m (pc + 3) L rest)) : W p l e R s m args below meth c H locs cells slots Q (F0 m pc L (.int n :: .int dp :: .ref (am_ab G d) :: .int sp :: .ref (am_ab G a) :: rest)) := by
  obtain ⟨hx, hb, -, hml, hown, hts, hfr, hlo, -, -, hT⟩ := hX
  obtain ⟨lk, p2, se, ini, hok⟩ := am_call_of hcall
  unfold am_okC at hok
  simp only [Bool.and_eq_true] at hok
  have hlink := hts _ (am_at_in hok.1.1)
  have hstat := hts _ (am_at_in hok.1.2)
  have hini := hts _ (am_at_in hok.2)
  have hnat := hts _ (am_at_in am_wNat)
  obtain ⟨a3, alt, atag⟩ := am_is_of ha
  obtain ⟨d3, dlt, dtag⟩ := am_is_of hd
  have nn : ∀ z : Int32, ¬ z < 0 → z.toInt = (z.toNatClampNeg : Int) := by
    intro z hz
    have hz0 : (0 : Int) ≤ z.toInt := by
      have := Int32.not_lt.mp hz
      simpa using Int32.le_iff_toInt_le.mp this
    show z.toInt = ((z.toInt.toNat : Nat) : Int)
    omega
  have hnw : nativeFrameWords "java/lang/System" "arraycopy" 5 + 11 = 18 := by decide
  intro T hTh X
  have hc0 : H[am_ab G a]? = some (vp_cell (gI G) (M.2.2.1 a, .inl (M.1 a))) := by have := am_arI hP ha; rw [am_E_20 G M atag] at this; exact this
  have hc1 : H[am_ab G d]? = some (vp_cell (gI G) (M.2.2.1 d, .inl (M.1 d))) := by have := am_arI hP hd; rw [am_E_20 G M dtag] at this; exact this
  obtain ⟨-, k0, hk0, cm0, hkk0⟩ := (hT.1.2 0 _ rfl).1 (M.2.2.1 a) (fun j => .int (M.1 a j))
  obtain ⟨-, k1, hk1, cm1, hkk1⟩ := (hT.1.2 0 _ rfl).1 (M.2.2.1 d) (fun j => .int (M.1 d j))
  obtain ⟨vm', X', step⟩ := X.arraycopy hx hown hlink hnat hstat hini (src := am_ab G a) (dst := am_ab G d) (cs := vp_cell (gI G) (M.2.2.1 a, .inl (M.1 a))) (cd := vp_cell (gI G) (M.2.2.1 d, .inl (M.1 d))) (srcPos := sp) (destPos := dp) (n := n) (by rw [hTh]; exact hc0) (by rw [hTh]; exact hc1)
    (fun _ h => by cases h) (fun _ h => by cases h) (fun h => by cases h) (fun h => by cases h) hk0 hk1 hkk0 hkk1 (by simp [refKind]) h1 h2 h3
    (by rw [nn sp h1, nn n h3]; show ¬ _ > ((arrV (gI G) (M.2.2.1 a) (fun j => .int (M.1 a j))).slots.size : Int); rw [arrV_size]; omega)
    (by rw [nn dp h2, nn n h3]; show ¬ _ > ((arrV (gI G) (M.2.2.1 d) (fun j => .int (M.1 d j))).slots.size : Int); rw [arrV_size]; omega)
    (fun vm₁ _ i hi => by
      have e : (vp_cell (gI G) (M.2.2.1 a, .inl (M.1 a))).slots.getD (sp.toNatClampNeg + i) .null = .int (M.1 a (sp.toNatClampNeg + i)) := by
        show (arrV (gI G) (M.2.2.1 a) (fun j => .int (M.1 a j))).slots.getD _ _ = _
        rw [Array.getD_eq_getD_getElem?, arrV_read _ _ (by omega)]
        rfl
      refine ⟨?_, ?_⟩
      · rw [e]; rfl
      · rw [e]; exact trivial)
    (g := F0 m pc L (.int n :: .int dp :: .ref (am_ab G d) :: .int sp :: .ref (am_ab G a) :: rest)) rfl (by rw [hml]; exact hL) (rest := rest) rfl (by rw [hb]; exact hdg) (by omega) (by show 2 * 0 + _ + _ ≤ _; rw [hnw]; omega)
  have e1 : copied (vp_cell (gI G) (M.2.2.1 a, .inl (M.1 a))) (vp_cell (gI G) (M.2.2.1 d, .inl (M.1 d))) sp dp n = vp_cell (gI G) (M.2.2.1 d, .inl (va_cpy (M.1 a) (M.1 d) sp.toNatClampNeg dp.toNatClampNeg n.toNatClampNeg)) := va_copied (fun z => .int z) (gI G) (gI G) (M.1 a) (M.1 d) h4
  rw [e1] at X' step
  have hl : am_ab G d < H.size := (Array.getElem?_eq_some_iff.mp hc1).1
  have hheap : ((T.setVm vm').setCell (am_ab G d) (vp_cell (gI G) (M.2.2.1 d, .inl (va_cpy (M.1 a) (M.1 d) sp.toNatClampNeg dp.toNatClampNeg n.toNatClampNeg)))).heap = H.setIfInBounds (am_ab G d) (vp_cell (gI G) (M.2.2.1 d, .inl (va_cpy (M.1 a) (M.1 d) sp.toNatClampNeg dp.toNatClampNeg n.toNatClampNeg))) := by rw [← hTh]; rfl
  have oq : ∀ q : Nat, q ≠ am_ab G d → (H.setIfInBounds (am_ab G d) (vp_cell (gI G) (M.2.2.1 d, .inl (va_cpy (M.1 a) (M.1 d) sp.toNatClampNeg dp.toNatClampNeg n.toNatClampNeg))))[q]? = H[q]? := fun q hq => by simp [Array.getElem?_setIfInBounds, Ne.symm hq]
  have hrp : am_RP G (am_cp M.1 a sp.toNatClampNeg d dp.toNatClampNeg n.toNatClampNeg, M.2) (H.setIfInBounds (am_ab G d) (vp_cell (gI G) (M.2.2.1 d, .inl (va_cpy (M.1 a) (M.1 d) sp.toNatClampNeg dp.toNatClampNeg n.toNatClampNeg)))) := by
    refine hP.upd d3 rfl (fun q hq => ?_) (fun q hq => rfl) rfl (by simp) oq ?_
    · funext j; show am_cp M.1 a _ d _ _ q j = _; unfold am_cp; rw [if_neg (fun h => hq h.1)]
    · rw [am_E_20 G _ dtag]
      show (H.setIfInBounds (am_ab G d) _)[am_ab G d]? = some (vp_cell (gI G) (M.2.2.1 d, .inl (am_cp M.1 a _ d _ _ d)))
      have : am_cp M.1 a sp.toNatClampNeg d dp.toNatClampNeg n.toNatClampNeg d = va_cpy (M.1 a) (M.1 d) sp.toNatClampNeg dp.toNatClampNeg n.toNatClampNeg := by
        funext j; simp [am_cp, va_cpy]
      rw [this]
      simp [Array.getElem?_setIfInBounds, hl]
  obtain ⟨t, a1, b1⟩ := kk _ _ hrp ⟨by simp; exact hS.1, fun q g1 g2 => by
      rw [oq q (fun e => g2 (by rw [e]; exact am_ab_A G d3))]
      exact hS.2.1 q g1 g2, fun q hq => by
      rcases List.mem_append.mp hq with h | h
      · exact hS.2.2 q h
      · obtain ⟨z, -, hz⟩ := List.mem_map.mp h
        rw [← hz]
        exact am_ab_A G d3⟩ _ hheap X'
  exact ⟨t, step t a1, b1⟩
set_option maxHeartbeats 4000000 in
theorem am_s3 (hX : am_X G k p R s m args meth c) (hL : L.size = am_nl k) (hd : decode (am_c k) pc = .ok (i, n)) {I' : am_I} {R' : am_R} (h : am_g3 (am_own k) (am_lev k) (am_ini k) pc st M i n = some (pc', st', I', R')) (hP : am_RP G M H) (hS : va_S (gA G) s.heap H locs)
    (kk : ∀ (H1 : Heap) (locs1 : List Loc), am_RP G (I', R', M.2.2) H1 → va_S (gA G) s.heap H1 locs1 → W p l e R s m args below meth c H1 locs1 cells slots Q (F0 m pc' L (st'.map (am_sh G)))) : W p l e R s m args below meth c H locs cells slots Q (F0 m pc L (st.map (am_sh G))) := by
  have hX0 := hX
  obtain ⟨hx, hb, hrt, hml, hown, hts, hfr, hlo, hini, hlk, hT⟩ := hX
  have hV := hT.2.2.2.2.2.2.1
  unfold am_g3 at h
  split at h
  · -- getfield
    split at h
    · rename_i ix _ a r
      split at h
      · rename_i ha; subst ha
        split at h
        · rename_i q; cases h
          have hown' : s.vm.findClass RJ0 = some m.cls := by rw [q.1] at hown; exact hown
          rw [q.2] at hd
          exact vk_getf hx hb hT.2.2.2.2.1.2.2.1 hS hown' (hts _ (am_at_in am_wCod)) (fun _ h => h) hd (kk H locs hP hS)
        · split at h
          · rename_i q; cases h
            have hown' : s.vm.findClass RJ0 = some m.cls := by rw [q.1] at hown; exact hown
            rw [q.2] at hd
            exact vk_getf hx hb hT.2.2.2.2.1.2.2.2.1 hS hown' (hts _ (am_at_in am_wVal)) (fun _ h => h) hd (kk H locs hP hS)
          · cases h
      · split at h
        · rename_i ci j hf
          split at h
          · rename_i ha; cases h
            obtain ⟨hfl, hci, hj, hdecl⟩ := am_fld_of hf
            obtain ⟨a3, alt, atag⟩ := am_is_of ha
            have hat := am_arI hP ha
            rw [am_E_o G M atag hci] at hat
            have kk := kk H locs hP hS
            refine va_get hx hb hts (am_K_of hci).1 hown hT.1 (am_one hat) 0 rfl (am_vw hci) j hj (hts _ hfl) (fun _ h => h) (am_fs_get G M a ci hj) hd ?_
            have e : am_sh G (if am_isI ci j = true then Value.int (M.1 a j) else am_rf (M.2.1 a j)) = (if am_isI ci j = true then Value.int (M.1 a j) else am_sh G (am_rf (M.2.1 a j))) := by
              split <;> rfl
            rw [List.map_cons, e] at kk
            exact kk
          · cases h
        · cases h
    · cases h
  · -- putfield
    split at h
    · rename_i ix _ ci j hf
      split at h
      · rename_i x a r
        split at h
        · rename_i q; cases h
          simp only [Bool.and_eq_true, Bool.or_eq_true, Bool.not_eq_true', decide_eq_true_eq, beq_iff_eq] at q
          obtain ⟨⟨⟨⟨q1, q2⟩, q3⟩, q4⟩, q5⟩ := q
          refine am_putf hX0 hP hS hf q1 q3 q4 q5 (fun z hz => ?_) (fun z hz => rfl) (fun z hz => ?_) hd kk
          · funext y; unfold am_ui; rw [if_neg (fun h => hz h.1)]
          · rw [am_fs_V G _ a ci hz]
            unfold updV
            by_cases e : z = j
            · rw [if_pos e, e, if_pos q2]; simp [am_ui, am_sh]
            · rw [if_neg e, am_fs_V G M a ci hz]; simp [am_ui, e]
        · cases h
      · rename_i b a r
        split at h
        · rename_i q; cases h
          simp only [Bool.and_eq_true, Bool.or_eq_true, Bool.not_eq_true', beq_iff_eq] at q
          obtain ⟨⟨q1, q2⟩, q3⟩ := q
          refine am_putf hX0 hP hS hf q1 q3 (am_narI (Or.inr ⟨_, rfl⟩)) (am_fitR q2 (Or.inr ⟨_, rfl⟩)) (fun z hz => rfl) (fun z hz => ?_) (fun z hz => ?_) hd kk
          · funext y; unfold am_ur; rw [if_neg (fun h => hz h.1)]
          · rw [am_fs_V G _ a ci hz]
            unfold updV
            by_cases e : z = j
            · rw [if_pos e, e, q2]; simp [am_ur, am_rf, am_sh]
            · rw [if_neg e, am_fs_V G M a ci hz]; simp [am_ur, e]
        · cases h
      · rename_i a r
        split at h
        · rename_i q; cases h
          simp only [Bool.and_eq_true, Bool.or_eq_true, Bool.not_eq_true', beq_iff_eq] at q
          obtain ⟨⟨q1, q2⟩, q3⟩ := q
          refine am_putf hX0 hP hS hf q1 q3 (am_narI (Or.inl rfl)) (am_fitR q2 (Or.inl rfl)) (fun z hz => rfl) (fun z hz => ?_) (fun z hz => ?_) hd kk
          · funext y; unfold am_ur; rw [if_neg (fun h => hz h.1)]
          · rw [am_fs_V G _ a ci hz]
            unfold updV
            by_cases e : z = j
            · rw [if_pos e, e, q2]; simp [am_ur, am_rf, am_sh]
            · rw [if_neg e, am_fs_V G M a ci hz]; simp [am_ur, e]
        · cases h
      · cases h
    · cases h
  · -- iaload
    split at h
    · rename_i ii a r
      split at h
      · rename_i q; cases h
        simp only [Bool.and_eq_true, Bool.or_eq_true, beq_iff_eq] at q
        obtain ⟨q1, q2⟩ := q
        rcases q1 with rfl | q1
        · have kk := kk H locs hP hS
          have e1 := hP.2.2.1
          have e2 := hP.2.2.2.1
          rw [e1] at kk
          rw [e2] at q2
          exact va_sld hx hb hT.2.2.2.1.1 (Nat.lt_of_lt_of_le hT.2.2.2.1.2 hT.2.2.2.2.2.2.2) (Nat.not_le.mpr hT.2.2.2.1.2) hS (am_ix_of q2) hd kk
        · have hat := am_arI hP q1
          rw [am_E_20 G M (am_is_of q1).2.2] at hat
          exact va_iald hx hb hT.1 (am_one hat) 0 0 rfl rfl (am_ix_of q2) hd (kk H locs hP hS)
      · cases h
    · cases h
  · -- baload
    split at h
    · rename_i ii a r
      split at h
      · rename_i ha; subst ha
        split at h
        · rename_i q; cases h
          exact va_tb hx hb hT.2.2.2.2.1.2.2.2.2 hS (am_ix_of q) rfl hd (kk H locs hP hS)
        · cases h
      · split at h
        · rename_i q; cases h
          simp only [Bool.and_eq_true] at q
          have hat := am_arI hP q.1
          rw [am_E_21 G M (am_is_of q.1).2.2] at hat
          exact va_zald hx hb hT.1 (am_one hat) 0 1 rfl rfl (am_ix_of q.2) hd (kk H locs hP hS)
        · cases h
    · cases h
  · -- caload
    split at h
    · rename_i ii a r
      split at h
      · rename_i q; cases h
        simp only [Bool.and_eq_true] at q
        have hat := am_arI hP q.1
        rw [am_E_22 G M (am_is_of q.1).2.2] at hat
        exact va_cald hx hb hT.1 (am_one hat) 0 2 rfl rfl (am_ix_of q.2) hd (kk H locs hP hS)
      · cases h
    · cases h
  · -- aaload
    split at h
    · rename_i ii a r
      split at h
      · rename_i q; cases h
        simp only [Bool.and_eq_true, Bool.or_eq_true] at q
        have kk := kk H locs hP hS
        rw [List.map_cons, ← am_rf_sh] at kk
        rcases q.1 with q1 | q1
        · have hat := am_arI hP q1
          rw [am_E_23 G M (am_is_of q1).2.2] at hat
          exact va_aldq hx hb hT.1 (am_one hat) 0 3 rfl rfl (am_ix_of q.2) hd kk
        · have hat := am_arI hP q1
          rw [am_E_24 G M (am_is_of q1).2.2] at hat
          exact va_aldq hx hb hT.1 (am_one hat) 0 4 rfl rfl (am_ix_of q.2) hd kk
      · cases h
    · cases h
  · split at h
    · split at h
      · rename_i q; cases h
        simp only [Bool.and_eq_true] at q
        exact am_iast hX0 hP hS q.1 (am_ix_of q.2) hd kk
      · cases h
    · cases h
  · split at h
    · split at h
      · rename_i q; cases h
        simp only [Bool.and_eq_true] at q
        exact am_zast hX0 hP hS q.1 (am_ix_of q.2) hd kk
      · cases h
    · cases h
  · split at h
    · split at h
      · rename_i q; cases h
        simp only [Bool.and_eq_true] at q
        exact am_cast hX0 hP hS q.1 (am_ix_of q.2) hd kk
      · cases h
    · cases h
  · split at h
    · split at h
      · rename_i q; cases h
        simp only [Bool.and_eq_true, Bool.or_eq_true] at q
        exact am_aast hX0 hP hS q.1 (am_ix_of q.2) hd kk
      · cases h
    · cases h
  · -- arraylength
    split at h
    · rename_i a r
      split at h
      · rename_i ha; subst ha; cases h
        exact va_tlen hx hb hT.2.2.2.2.1.2.2.2.2 hS rfl hd (kk H locs hP hS)
      · split at h
        · rename_i q; cases h
          have kk := kk H locs hP hS
          simp only [Bool.or_eq_true, beq_iff_eq] at q
          rcases q with (((rfl | q) | q) | q) | q
          · rw [hP.2.2.2.1] at kk
            exact va_slen hx hb hT.2.2.2.1.1 (Nat.lt_of_lt_of_le hT.2.2.2.1.2 hT.2.2.2.2.2.2.2) (Nat.not_le.mpr hT.2.2.2.1.2) hS hd kk
          · have hat := am_arI hP q
            rw [am_E_20 G M (am_is_of q).2.2] at hat
            exact va_alen hx hb hT.1 (am_one hat) 0 0 rfl rfl rfl hd kk
          · have hat := am_arI hP q
            rw [am_E_21 G M (am_is_of q).2.2] at hat
            exact va_alen hx hb hT.1 (am_one hat) 0 1 rfl rfl rfl hd kk
          · have hat := am_arI hP q
            rw [am_E_22 G M (am_is_of q).2.2] at hat
            exact va_alen hx hb hT.1 (am_one hat) 0 2 rfl rfl rfl hd kk
          · have hat := am_arI hP q
            rw [am_E_23 G M (am_is_of q).2.2] at hat
            exact va_alen hx hb hT.1 (am_one hat) 0 3 rfl rfl rfl hd kk
        · cases h
    · cases h
  · -- ldc
    split at h
    · rename_i q; cases h
      have hown' : s.vm.findClass "CodeProbes" = some m.cls := by rw [q.1] at hown; exact hown
      rw [q.2] at hd
      exact va_ldcS hx hb hown' hT.2.2.2.2.1.1 hd (kk H locs hP hS)
    · cases h
  · -- getstatic
    split at h
    · rename_i q; cases h
      have hown' : s.vm.findClass RJ0 = some m.cls := by rw [q.1] at hown; exact hown
      rw [q.2] at hd
      exact va_gets hx hb hT.2.2.2.2.2.1.1 hS hown' (hts _ (am_at_in am_wCmp)) (fun _ h => h) hd (kk H locs hP hS)
    · split at h
      · rename_i q; cases h
        have hown' : s.vm.findClass RJ0 = some m.cls := by rw [q.1] at hown; exact hown
        rw [q.2] at hd
        exact va_gets hx hb hT.2.2.2.2.2.1.2 hS hown' (hts _ (am_at_in am_wFmt)) (fun _ h => h) hd (kk H locs hP hS)
      · cases h
  · -- Object.<init>
    split at h
    · rename_i hc
      split at h
      · split at h
        · rename_i q; cases h
          simp only [Bool.and_eq_true, decide_eq_true_eq] at q
          obtain ⟨lk, p2, se, ini, hok⟩ := am_call_of hc
          unfold am_okC at hok
          simp only [Bool.and_eq_true] at hok
          have hs := am_sum hV q.2
          exact W.objInit hx hb hown (hts _ (am_at_in hok.1)) (hts _ (am_at_in hok.2)) (hts _ (am_at_in am_wObj)) rfl (hL.trans hml.symm) rfl hd (by omega) (by show 2 * 0 + _ + 12 ≤ _; rw [hs]; omega) (kk H locs hP hS)
        · cases h
      · cases h
    · cases h
  · -- arraycopy
    split at h
    · rename_i hc
      split at h
      · split at h
        · rename_i q; cases h
          simp only [Bool.and_eq_true, decide_eq_true_eq, Bool.not_eq_true', decide_eq_false_iff_not] at q
          obtain ⟨⟨⟨⟨⟨⟨⟨⟨⟨q1, q2⟩, q3⟩, q4⟩, q5⟩, q6⟩, q7⟩, q8⟩, q9⟩, q10⟩ := q
          exact am_copy hX0 hL hP hS hc q1 q4 q5 q6 q7 q8 q9 q10 (by rw [am_sum hV q3]; exact q2) hd kk
        · cases h
      · cases h
    · cases h
  · cases h
end AMD
end
section
section AME
variable {p : Program} {l : Launch} {e : Env} {R : Room} {s : State} {m : MethodId} {args : Array Value} {below : List Frame} {meth : Method} {c : Code} {H : Heap} {locs : List Loc} {cells slots : Nat} {Q : State → Prop}
variable {k pc pc' : Nat} {G : am_Gt} {L : Array Slot} {rest st st' : List Value} {M M' : am_M} {i : Instr} {n : Nat}
theorem am_S_push {H1 : Heap} (hP : am_RP G M H) (hS : va_S (gA G) s.heap H locs) (z1 : H1.size = H.size + 1) (o1 : ∀ q, q < H.size → H1[q]? = H[q]?) : va_S (gA G) s.heap H1 locs :=
  ⟨Nat.le_trans hS.1 (by omega), fun x h1 h2 => (o1 x (Nat.lt_of_lt_of_le h1 hS.1)).trans (hS.2.1 x h1 h2), hS.2.2⟩
theorem am_ab_n (hP : am_RP G M H) : am_ab G M.2.2.2.1 = H.size := by rw [am_ab_3 G hP.2.1, hP.1]
theorem am_zi_n (I : am_I) (a j : Nat) : am_zi I a a j = 0 := by unfold am_zi; rw [if_pos rfl]
theorem am_zr_n (R : am_R) (a j : Nat) : am_zr R a a j = none := by unfold am_zr; rw [if_pos rfl]
theorem am_ul_n (f : Nat → Nat) (a n : Nat) : am_ul f a n a = n := by unfold am_ul; rw [if_pos rfl]
theorem am_newo (hX : am_X G k p R s m args meth c) (hP : am_RP G M H) (hS : va_S (gA G) s.heap H locs) {ix ci : Nat} (hn : am_new (am_own k) ix = some ci) (htag : am_tag M.2.2.2.1 = ci) (hc : cells + 1 ≤ R.cells) (hs : slots + am_cN ci ≤ R.slots) (hdg : decode (am_c k) pc = .ok (.new ix, 3))
    (kk : ∀ (H1 : Heap) (locs1 : List Loc), am_RP G (am_mk M 0 (am_cN ci)) H1 → va_S (gA G) s.heap H1 locs1 → W p l e R s m args below meth c H1 locs1 (cells + 1) (slots + am_cN ci) Q (F0 m (pc + 3) L (.ref (am_ab G M.2.2.2.1) :: rest))) : W p l e R s m args below meth c H locs cells slots Q (F0 m pc L rest) := by
  obtain ⟨hx, hb, -, -, hown, hts, -, -, -, -, hT⟩ := hX
  obtain ⟨h1, h2, h3, hci⟩ := am_new_of hn
  obtain ⟨hin, hty, -⟩ := am_K_of hci
  have hKn := hT.1.1 ci _ (am_vw hci)
  have hab := am_ab_n hP
  refine W.newcK hx hb hown (hts _ h1) (hts _ h2) (hts _ h3) rfl hdg hc hs hKn.2.1 rfl fun H1 kC hkC e1 z1 o1 => ?_
  rw [hab] at kk
  refine kk H1 locs (hP.mk z1 o1 ?_) (am_S_push hP hS z1 o1)
  rw [hab, am_E_o G _ htag hci]
  refine ⟨_, am_vw hci, (u_born (am_ty ci) hts hin hKn hkC e1 hty).to fun j hj => ?_⟩
  rw [am_fs_V G _ _ ci hj, am_okD ci (by omega) j hj]
  show _ = if am_isI ci j = true then Value.int (am_zi M.1 M.2.2.2.1 M.2.2.2.1 j) else am_sh G (am_rf (am_zr M.2.1 M.2.2.2.1 M.2.2.2.1 j))
  rw [am_zi_n, am_zr_n]
  split <;> rfl
theorem am_newa (hX : am_X G k p R s m args meth c) (hP : am_RP G M H) (hS : va_S (gA G) s.heap H locs) {t : ArrayType} {K : Int32} (hw : Cond.arrayClass (newarray.typeOf t) ∈ am_gw) {cA : ClassId} (hcA : s.vm.findClass ("[" ++ (newarray.typeOf t).toString) = some cA) (hbt : componentBytes (newarray.typeOf t) ≤ 8)
    (hE : va_at (gD G) vwCl (H.size, am_E G (am_mk M K.toNatClampNeg K.toNatClampNeg) M.2.2.2.1) = va_at (gD G) vwCl (H.size, .inl (cA, K.toNatClampNeg, .inl (fun _ => 0)))) (hdv : defaultValue (newarray.typeOf t) = .int 0) (hk0 : ¬ K < 0) (hk1 : K.toNatClampNeg ≤ 10000) (hc : cells + 1 ≤ R.cells) (hs : slots + K.toNatClampNeg ≤ R.slots) (hdg : decode (am_c k) pc = .ok (.newarray t, 2))
    (kk : ∀ (H1 : Heap) (locs1 : List Loc), am_RP G (am_mk M K.toNatClampNeg K.toNatClampNeg) H1 → va_S (gA G) s.heap H1 locs1 → W p l e R s m args below meth c H1 locs1 (cells + 1) (slots + K.toNatClampNeg) Q (F0 m (pc + 2) L (.ref (am_ab G M.2.2.2.1) :: rest))) : W p l e R s m args below meth c H locs cells slots Q (F0 m pc L (.int K :: rest)) := by
  obtain ⟨hx, hb, -, -, hown, hts, -, -, -, -, hT⟩ := hX
  have hab := am_ab_n hP
  rw [hab] at kk
  refine va_newaK hx hb (hts _ hw) rfl hdg rfl hk0 rfl (Nat.le_trans (Nat.mul_le_mul hk1 hbt) (by decide)) hc hs rfl fun H1 cB e1 z1 o1 hAr hNm => ?_
  refine kk H1 locs (hP.mk z1 o1 ?_) (am_S_push hP hS z1 o1)
  rw [hab, hE]
  have : cB = cA := Option.some.inj (hNm.symm.trans hcA)
  subst this
  show H1[H.size]? = some (vp_cell _ _)
  rw [e1, hdv]
  rfl
theorem am_newq (hX : am_X G k p R s m args meth c) (hP : am_RP G M H) (hS : va_S (gA G) s.heap H locs) {ix : Nat} {C : String} {K : Int32} (hw : Cond.classLink (am_cn (am_own k)) ix C ∈ am_gw) (hO : va_AO C s) {cA : ClassId} (hcA : s.vm.findClass ("[" ++ (FieldType.object C).toString) = some cA)
    (hE : va_at (gD G) vwCl (H.size, am_E G (am_mk M K.toNatClampNeg K.toNatClampNeg) M.2.2.2.1) = va_at (gD G) vwCl (H.size, .inl (cA, K.toNatClampNeg, .inr (.inr (.inr (.inr (fun _ => none))))))) (hk0 : ¬ K < 0) (hk1 : K.toNatClampNeg ≤ 10000) (hc : cells + 1 ≤ R.cells) (hs : slots + K.toNatClampNeg ≤ R.slots) (hdg : decode (am_c k) pc = .ok (.anewarray ix, 3))
    (kk : ∀ (H1 : Heap) (locs1 : List Loc), am_RP G (am_mk M K.toNatClampNeg K.toNatClampNeg) H1 → va_S (gA G) s.heap H1 locs1 → W p l e R s m args below meth c H1 locs1 (cells + 1) (slots + K.toNatClampNeg) Q (F0 m (pc + 3) L (.ref (am_ab G M.2.2.2.1) :: rest))) : W p l e R s m args below meth c H locs cells slots Q (F0 m pc L (.int K :: rest)) := by
  obtain ⟨hx, hb, -, -, hown, hts, -, -, -, -, hT⟩ := hX
  have hab := am_ab_n hP
  rw [hab] at kk
  refine W.anew hx hb hown (hts _ hw) (va_AO.use hO) rfl hdg rfl hk0 (Nat.le_trans (Nat.mul_le_mul hk1 (Nat.le_refl 4)) (by decide)) hc hs fun cB kA comp f1 f2 f3 f4 => ?_
  have : cB = cA := Option.some.inj (f1.symm.trans hcA)
  subst this
  generalize hH1 : H.push ({ cls := cB, slots := Array.replicate K.toNatClampNeg .null, vm := .none } : Cell) = H1
  have z1 : H1.size = H.size + 1 := by rw [← hH1, Array.size_push]
  have e1 : H1[H.size]? = some (arrV cB K.toNatClampNeg (fun _ => .null)) := by rw [← hH1, Array.getElem?_push_size, ← arrV_new]
  have o1 : ∀ q : Nat, q < H.size → H1[q]? = H[q]? := fun q hq => by rw [← hH1, Array.getElem?_push, if_neg (Nat.ne_of_lt hq)]
  refine kk H1 locs (hP.mk z1 o1 ?_) (am_S_push hP hS z1 o1)
  rw [hab, hE]
  show H1[H.size]? = some (vp_cell _ _)
  rw [vp_cell_q]
  exact e1
theorem am_mk_I (M : am_M) (a b : Nat) : (am_mk M a b).1 M.2.2.2.1 = fun _ => 0 := funext fun j => am_zi_n _ _ j
theorem am_mk_R (M : am_M) (a b : Nat) : (am_mk M a b).2.1 M.2.2.2.1 = fun _ => none := funext fun j => am_zr_n _ _ j
theorem am_mk_L (M : am_M) (a b : Nat) : (am_mk M a b).2.2.1 M.2.2.2.1 = a := am_ul_n _ _ _
theorem am_nar0 (ty : FieldType) (h : narrow ty (.int 0) = .int 0) : vp_nar ty 0 = 0 := by unfold vp_nar; rw [h]
theorem am_b0 : am_b 0 = 0 := am_nar0 .boolean rfl
theorem am_h0 : am_h 0 = 0 := am_nar0 .char rfl
set_option maxHeartbeats 4000000 in
theorem am_s6 (hX : am_X G k p R s m args meth c) (hd : decode (am_c k) pc = .ok (i, n)) (h : am_g6 (am_own k) pc st M i n = some (pc', st', M')) (hP : am_RP G M H) (hS : va_S (gA G) s.heap H locs) :
    ∃ sl, M'.2.2.2.1 = M.2.2.2.1 + 1 ∧ M'.2.2.2.2 = M.2.2.2.2 + sl ∧ (cells + 1 ≤ R.cells → slots + sl ≤ R.slots → (∀ (H1 : Heap) (locs1 : List Loc), am_RP G M' H1 → va_S (gA G) s.heap H1 locs1 → W p l e R s m args below meth c H1 locs1 (cells + 1) (slots + sl) Q (F0 m pc' L (st'.map (am_sh G)))) → W p l e R s m args below meth c H locs cells slots Q (F0 m pc L (st.map (am_sh G)))) := by
  have hT : am_TB G s := hX.2.2.2.2.2.2.2.2.2.2
  unfold am_g6 at h
  split at h
  · split at h
    · rename_i ix _ ci hn
      split at h
      · rename_i ht; cases h
        exact ⟨am_cN ci, rfl, rfl, fun hc hs kk => am_newo hX hP hS hn ht hc hs hd kk⟩
      · cases h
    · cases h
  · split at h
    · rename_i K r
      split at h
      · rename_i q; cases h
        simp only [Bool.and_eq_true, Bool.not_eq_true', decide_eq_false_iff_not, decide_eq_true_eq, beq_iff_eq] at q
        refine ⟨K.toNatClampNeg, rfl, rfl, fun hc hs kk => am_newa (t := .int) hX hP hS (am_at_in am_wAI) (hT.1.2 0 _ rfl).2 (by decide) ?_ rfl q.1.1 q.1.2 hc hs hd kk⟩
        rw [am_E_20 G _ q.2]
        rw [am_mk_I, am_mk_L]
      · cases h
    · cases h
  · split at h
    · rename_i K r
      split at h
      · rename_i q; cases h
        simp only [Bool.and_eq_true, Bool.not_eq_true', decide_eq_false_iff_not, decide_eq_true_eq, beq_iff_eq] at q
        refine ⟨K.toNatClampNeg, rfl, rfl, fun hc hs kk => am_newa (t := .boolean) hX hP hS (am_at_in am_wAZ) (hT.1.2 1 _ rfl).2 (by decide) ?_ rfl q.1.1 q.1.2 hc hs hd kk⟩
        rw [am_E_21 G _ q.2]
        rw [am_mk_I, am_mk_L]
        simp only [am_b0]
      · cases h
    · cases h
  · split at h
    · rename_i K r
      split at h
      · rename_i q; cases h
        simp only [Bool.and_eq_true, Bool.not_eq_true', decide_eq_false_iff_not, decide_eq_true_eq, beq_iff_eq] at q
        refine ⟨K.toNatClampNeg, rfl, rfl, fun hc hs kk => am_newa (t := .char) hX hP hS (am_at_in am_wAC) (hT.1.2 2 _ rfl).2 (by decide) ?_ rfl q.1.1 q.1.2 hc hs hd kk⟩
        rw [am_E_22 G _ q.2]
        rw [am_mk_I, am_mk_L]
        simp only [am_h0]
      · cases h
    · cases h
  · split at h
    · rename_i ix _ K r
      split at h
      · rename_i q; cases h
        simp only [Bool.and_eq_true, Bool.or_eq_true, Bool.not_eq_true', decide_eq_false_iff_not, decide_eq_true_eq, beq_iff_eq] at q
        obtain ⟨⟨q1, q2⟩, q3⟩ := q
        rcases q3 with ⟨q3, q4⟩ | ⟨q3, q4⟩
        · refine ⟨K.toNatClampNeg, rfl, rfl, fun hc hs kk => am_newq hX hP hS (am_anew_of q3) hT.2.2.1.1 (hT.1.2 3 _ rfl).2.choose_spec.choose_spec.2.2.2 ?_ q1 q2 hc hs hd kk⟩
          rw [am_E_23 G _ q4]
          rw [am_mk_R, am_mk_L]; rfl
        · refine ⟨K.toNatClampNeg, rfl, rfl, fun hc hs kk => am_newq hX hP hS (am_anew_of q3) hT.2.2.1.2 (hT.1.2 4 _ rfl).2.choose_spec.choose_spec.2.2.2 ?_ q1 q2 hc hs hd kk⟩
          rw [am_E_24 G _ q4]
          rw [am_mk_R, am_mk_L]; rfl
      · cases h
    · cases h
  · cases h
end AME
end
section
/-- what a return is, as a row: the end of the walk -/
def am_Snd (G : am_Gt) (k pc : Nat) (ls : am_L) (st : List Value) (M : am_M) (v : Option Value) (M' : am_M) : Prop :=
  (M.2.2.2.1 ≤ M'.2.2.2.1 ∧ M.2.2.2.2 ≤ M'.2.2.2.2) ∧ ∀ (p : Program) (l : Launch) (e : Env) (R : Room) (s : State) (m : MethodId) (args : Array Value) (below : List Frame) (meth : Method) (c : Code) (H : Heap) (locs : List Loc) (cells slots fc fs : Nat) (Q : State → Prop) (L : Array Slot),
    am_X G k p R s m args meth c → am_RP G M H → am_lr G L (am_nl k) ls → va_S (gA G) s.heap H locs → cells + (M'.2.2.2.1 - M.2.2.2.1) = fc → slots + (M'.2.2.2.2 - M.2.2.2.2) = fs → fc ≤ R.cells → fs ≤ R.slots →
    (∀ (H' : Heap) (locs' : List Loc) (pc' : Nat) (L' : Array Slot) (st' : List Value) (i : Instr) (n : Nat), decode (am_c k) pc' = .ok (i, n) → am_g5 (am_rt k) st' i n = some v → am_RP G M' H' → va_S (gA G) s.heap H' locs' → W p l e R s m args below meth c H' locs' fc fs Q (F0 m pc' L' (st'.map (am_sh G)))) →
    W p l e R s m args below meth c H locs cells slots Q (F0 m pc L (st.map (am_sh G)))
def am_Q (G : am_Gt) (v : Option Value) (M' : am_M) : Array Value → State → Outcome → State → Prop := fun _ st oc t => oc = .returned (v.map (am_sh G)) ∧ am_RP G M' t.heap ∧ va_F (gA G) st t
def am_rm (j mc ms : Nat) : Room := { frames := am_lev j, cells := mc, slots := ms, locals := 38 * am_lev j }
theorem am_lvargs {i : Nat} {v : Value} : ∀ {vs : List Value} (o : Nat), (∀ w ∈ vs, w.category = 1) → vs[i]? = some v → (o + i, v) ∈ lv_args o vs := by
  induction i with
  | zero =>
    intro vs o h1 h2
    cases vs with
    | nil => cases h2
    | cons w ws => cases h2; unfold lv_args; exact List.mem_cons_self
  | succ i ih =>
    intro vs o h1 h2
    cases vs with
    | nil => cases h2
    | cons w ws =>
      unfold lv_args
      rw [if_neg (by rw [h1 w List.mem_cons_self]; decide)]
      refine List.mem_cons_of_mem _ ?_
      have := ih (o + 1) (fun w hw => h1 w (List.mem_cons_of_mem _ hw)) h2
      rw [show o + (i + 1) = o + 1 + i by omega]
      exact this
theorem am_sllen : ∀ {vs : List Value}, (∀ w ∈ vs, w.category = 1) → (lg_sl vs).length = vs.length
  | [], _ => rfl
  | v :: vs, h => by
    have h1 := am_sllen (vs := vs) (fun w hw => h w (List.mem_cons_of_mem _ hw))
    unfold lg_sl at h1 ⊢
    rw [List.flatMap_cons, if_neg (by rw [h v List.mem_cons_self]; decide), List.length_append, h1]
    simp [Nat.add_comm]
theorem am_code_in {j : Nat} (hj : j < 161) : Cond.code (am_y j) (am_c j) (am_nl j) (am_rt j) ∈ am_gw ∧ am_okM j = true := by
  have hk := List.all_eq_true.mp am_okM_all j (List.mem_range.mpr hj)
  refine ⟨?_, hk⟩
  unfold am_okM at hk
  simp only [Bool.and_eq_true, decide_eq_true_eq] at hk
  have hlen : am_tab.length = 162 := by decide +kernel
  have hmem : am_row j ∈ am_tab := by
    unfold am_row
    rw [List.getD_eq_getElem?_getD, List.getElem?_eq_getElem (by omega)]
    exact List.getElem_mem _
  have h := (am_mcs _ hmem).resolve_left hk.1.1.1.1.1.1
  exact List.mem_filter.mpr ⟨List.mem_of_getElem? h, rfl⟩
theorem am_met {G : am_Gt} {l : Launch} {j : Nat} {as : List Value} {M M' : am_M} {v : Option Value} (hj : j < 161) (h : am_Snd G j 0 (am_ent j as) [] M v M') (hV : (gV G).category = 1) (hc : as.all am_c1 = true) (hn : as.length ≤ am_nl j) :
    Met l (am_y j) (am_ws j) (am_rm j (M'.2.2.2.1 - M.2.2.2.1) (M'.2.2.2.2 - M.2.2.2.2)) (va_Pc (as.map (am_sh G)) (fun U => am_TB G U ∧ am_RP G M U.heap)) (am_Q G v M') (M'.2.2.2.1 - M.2.2.2.1) (M'.2.2.2.2 - M.2.2.2.2) (gA G) := by
  obtain ⟨hcd, hok⟩ := am_code_in hj
  unfold am_okM at hok
  simp only [Bool.and_eq_true, decide_eq_true_eq] at hok
  obtain ⟨⟨⟨⟨⟨⟨-, hpl⟩, -⟩, -⟩, -⟩, hcn⟩, -⟩ := hok
  refine va_MetF (cc := am_c j) (maxL := am_nl j) (ret := am_rt j) hpl rfl ?_
  intro p e s m args below meth c s₁ B hml hv
  obtain ⟨rfl, hTB, hRP⟩ := hv
  have hts := atoms_spec (ws := am_ws j) B.pre
  have hown : s.vm.findClass (am_y j).cls = some m.cls := findClass_of_methodNamed B.named
  rw [hcn] at hown
  have hcat : ∀ w ∈ as.map (am_sh G), w.category = 1 := by
    intro w hw
    obtain ⟨u, hu, rfl⟩ := List.mem_map.mp hw
    exact am_cat hV (List.all_eq_true.mp hc u hu)
  have hl := lv_entry (as.map (am_sh G)) (n := am_nl j) (by rw [am_sllen hcat, List.length_map]; exact hn)
  rw [lg_entry_eq]
  generalize (lg_sl (as.map (am_sh G)) ++ List.replicate (am_nl j - (lg_sl (as.map (am_sh G))).length) Slot.unset).toArray = L at hl ⊢
  have hent : ∀ (i : Nat) (u : Value), (am_ent j as)[i]? = some (some u) → as[i]? = some u := by
    intro i u hu
    unfold am_ent at hu
    rcases Nat.lt_or_ge i as.length with q | q
    · rw [List.getElem?_append_left (by rw [List.length_map]; exact q), List.getElem?_map] at hu
      cases ha : as[i]? with
      | none => rw [ha] at hu; cases hu
      | some w => rw [ha] at hu; cases hu; rfl
    · rw [List.getElem?_append_right (by rw [List.length_map]; exact q), List.getElem?_replicate] at hu
      split at hu <;> cases hu
  have hlr : am_lr G L (am_nl j) (am_ent j as) := by
    refine ⟨by unfold am_ent; rw [List.length_append, List.length_map, List.length_replicate]; omega, fun i u hu => List.all_eq_true.mp hc u (List.mem_of_getElem? (hent i u hu)), hl.1, hl.2.1, fun q hq => ?_⟩
    obtain ⟨u, h1, h2⟩ := am_lv_of hq
    have h3 := am_lvargs (i := q.1) (v := am_sh G u) (vs := as.map (am_sh G)) 0 hcat (by rw [List.getElem?_map, hent _ _ h1]; rfl)
    rw [Nat.zero_add, ← h2] at h3
    exact hl.2.2 _ h3
  have hx : am_X G j p (headSpec (am_ws j) (am_rm j (M'.2.2.2.1 - M.2.2.2.1) (M'.2.2.2.2 - M.2.2.2.2))).room s m (as.map (am_sh G)).toArray meth c :=
    ⟨B.exec, B.bytes, B.returns, hml, hown, fun w hw => hts w (List.mem_cons_of_mem _ hw), Nat.le_refl _, Nat.le_refl _, fun hi => by
      rw [(name_of_methodNamed B.named B.method).1]
      unfold am_ini at hi
      exact beq_iff_eq.mp hi, B.notSynchronized, hTB⟩
  refine h.2 p l e _ s m _ below meth c s.heap [] 0 0 _ _ _ L hx hRP hlr va_S.rf (Nat.zero_add _) (Nat.zero_add _) (Nat.le_refl _) (Nat.le_refl _) ?_
  intro H' locs' pc' L' st' i n hd h5 hRP' hS'
  unfold am_g5 at h5
  split at h5
  · split at h5
    · rename_i t x hrt
      split at h5
      · rename_i hn5; cases h5
        exact W.zret B.exec B.bytes (B.returns.trans hrt) hn5 (fun t ht hW => ⟨rfl, by rw [ht]; exact hRP', hS'.F ht⟩) hS'.2.2 hd B.notSynchronized
      · cases h5
    · cases h5
  · split at h5
    · rename_i t a hrt; cases h5
      exact W.aret B.exec B.bytes (B.returns.trans hrt) (Or.inl ⟨_, rfl⟩) (Or.inr ⟨_, rfl⟩) (fun t ht hW => ⟨rfl, by rw [ht]; exact hRP', hS'.F ht⟩) hS'.2.2 hd B.notSynchronized
    · rename_i t hrt; cases h5
      exact W.aret B.exec B.bytes (B.returns.trans hrt) (Or.inl ⟨_, rfl⟩) (Or.inl rfl) (fun t ht hW => ⟨rfl, by rw [ht]; exact hRP', hS'.F ht⟩) hS'.2.2 hd B.notSynchronized
    · cases h5
  · split at h5
    · rename_i hrt; cases h5
      exact W.vret B.exec B.bytes (B.returns.trans hrt) (fun t ht hW => ⟨rfl, by rw [ht]; exact hRP', hS'.F ht⟩) hS'.2.2 hd B.notSynchronized
    · cases h5
  · cases h5
end
section
theorem am_link_of {o ix lk : Nat} {y : MethodName} (h : am_okL o ix lk y = true) : Cond.methodLink (am_cn o) ix y ∈ am_gw ∨ Cond.methodLinkNest (am_cn o) ix y "CodeProbes" ∈ am_nest := by
  unfold am_okL at h
  simp only [Bool.or_eq_true, Bool.and_eq_true, decide_eq_true_eq] at h
  rcases h with h | h
  · exact Or.inl (am_at_in h)
  · exact Or.inr (List.mem_of_getElem? h.2)
theorem am_good {j : Nat} (hj : j < 161) : GoodIn am_gw (am_ws j) := by
  intro w hw
  have hm : w ∈ am_gw := by
    rcases List.mem_cons.mp hw with rfl | h
    · exact (am_code_in hj).1
    · exact h
  exact ⟨hm, good_of_word (List.mem_filter.mp hm).2⟩
theorem am_split {G : am_Gt} {st as : List Value} {b np : Nat} (h : (st.take (np + 1)).reverse = .ref b :: as) : st.map (am_sh G) = (as.map (am_sh G)).reverse ++ .ref (am_ab G b) :: (st.drop (np + 1)).map (am_sh G) := by
  have e2 : st.take (np + 1) = as.reverse ++ [.ref b] := by
    have := congrArg List.reverse h
    rw [List.reverse_reverse] at this
    rw [this]; simp
  have e3 : st.map (am_sh G) = (st.take (np + 1)).map (am_sh G) ++ (st.drop (np + 1)).map (am_sh G) := by rw [← List.map_append, List.take_append_drop]
  rw [e3, e2]
  simp [am_sh]
section AMG
variable {p : Program} {l : Launch} {e : Env} {R : Room} {s : State} {m : MethodId} {args : Array Value} {below : List Frame} {meth : Method} {c : Code} {H : Heap} {locs : List Loc} {cells slots : Nat} {Q : State → Prop}
variable {k pc pc' : Nat} {G : am_Gt} {L : Array Slot} {rest st st' : List Value} {M M' : am_M} {i : Instr} {n : Nat}
theorem am_cont {v : Option Value} {mc ms : Nat} {st0 : List Value} {Qa : State → Outcome → State → Prop} (hr : va_Run p l e R s m args below meth c H locs cells slots mc ms (F0 m pc L st0) rest Qa (gA G)) (hQa : ∀ st oc t, Qa st oc t → oc = .returned (v.map (am_sh G)) ∧ am_RP G M' t.heap ∧ va_F (gA G) st t) (hS : va_S (gA G) s.heap H locs)
    (kk : ∀ (H1 : Heap) (locs1 : List Loc), am_RP G M' H1 → va_S (gA G) s.heap H1 locs1 → W p l e R s m args below meth c H1 locs1 (cells + mc) (slots + ms) Q (F0 m (pc + 3) L ((v.map (am_sh G)).toList ++ rest))) : W p l e R s m args below meth c H locs cells slots Q (F0 m pc L st0) := by
  intro T hT X
  obtain ⟨w, st₀, t, T', L', h0, X', hL, e1, e2, hq, st⟩ := hr T hT X
  obtain ⟨hv, hrp, hz, hk⟩ := hQa _ _ _ hq
  cases hv
  rw [h0] at hz hk
  obtain ⟨t2, a1, b1⟩ := kk T'.heap (locs ++ L') (by rw [e1]; exact hrp) ⟨Nat.le_trans hS.1 (by rw [e1]; exact hz), fun q h1 h2 => by rw [e1, hk q (Nat.lt_of_lt_of_le h1 hS.1) h2]; exact hS.2.1 q h1 h2, fun q hq => by
      rcases List.mem_append.mp hq with h | h
      · exact hS.2.2 q h
      · exact hL q h⟩ T' rfl X'
  exact ⟨t2, st t2 a1, b1⟩
/-- a call -/
theorem am_s4 (hX : am_X G k p R s m args meth c) (hL : L.size = am_nl k) (hd : decode (am_c k) pc = .ok (i, n)) {j : Nat} {as r : List Value} (h : am_g4 (am_own k) (am_lev k) st M i n = some (j, as, r)) (hP : am_RP G M H) (hS : va_S (gA G) s.heap H locs) {v : Option Value} (hsn : am_Snd G j 0 (am_ent j as) [] M v M') (hc : cells + (M'.2.2.2.1 - M.2.2.2.1) ≤ R.cells) (hs : slots + (M'.2.2.2.2 - M.2.2.2.2) ≤ R.slots)
    (kk : ∀ (H1 : Heap) (locs1 : List Loc), am_RP G M' H1 → va_S (gA G) s.heap H1 locs1 → W p l e R s m args below meth c H1 locs1 (cells + (M'.2.2.2.1 - M.2.2.2.1)) (slots + (M'.2.2.2.2 - M.2.2.2.2)) Q (F0 m (pc + 3) L ((v.toList ++ r).map (am_sh G)))) : W p l e R s m args below meth c H locs cells slots Q (F0 m pc L (st.map (am_sh G))) := by
  obtain ⟨hx, hb, hrt, hml, hown, hts, hfr, hlo, hini, hlk, hT⟩ := hX
  have hV := hT.2.2.2.2.2.2.1
  have hmap : ((v.toList ++ r).map (am_sh G)) = (v.map (am_sh G)).toList ++ r.map (am_sh G) := by cases v <;> simp
  rw [hmap] at kk
  have hblind : FrameBlind (va_Pc (as.map (am_sh G)) (fun U => am_TB G U ∧ am_RP G M U.heap)) := fun a U g mk q => ⟨q.1, am_TB.blind g mk a q.2.1, q.2.2⟩
  have hpre : ∀ U : State, U.heap = H → s.WarmedH U.vm → va_Pc (as.map (am_sh G)) (fun U => am_TB G U ∧ am_RP G M U.heap) (as.map (am_sh G)).toArray U := fun U hU hW => ⟨rfl, hT.go hW hS hU, by rw [hU]; exact hP⟩
  have hfix : CallFix p m c (am_c k) (am_nl k) s args am_gw (am_cn (am_own k)) := ⟨hx, hb, hml, hown, hts⟩
  have hroom : am_lev j < am_lev k → (am_rm j (M'.2.2.2.1 - M.2.2.2.1) (M'.2.2.2.2 - M.2.2.2.2)).frames + 1 ≤ R.frames ∧ (am_nl j ≤ 19 → 8 + (am_nl j + 11) + (am_rm j (M'.2.2.2.1 - M.2.2.2.1) (M'.2.2.2.2 - M.2.2.2.2)).locals ≤ R.locals) := by
    intro hlt
    refine ⟨Nat.le_trans hlt hfr, fun h19 => ?_⟩
    show 8 + (am_nl j + 11) + 38 * am_lev j ≤ R.locals
    omega
  have facts : j < 161 → (Cond.code (am_y j) (am_c j) (am_nl j) (am_rt j)).before args s = true ∧ ((am_y j).cls ≠ "java/lang/invoke/MethodHandle" ∧ (am_y j).cls ≠ "java/lang/invoke/VarHandle" ∧ (parseMethodDescriptor (am_y j).desc).map (fun d => d.parameters.length) = some (am_np j)) ∧ (am_y j).cls = am_cn (am_own j) ∧ am_nl j ≤ 19 := by
    intro hj
    obtain ⟨hcd, hok⟩ := am_code_in hj
    unfold am_okM at hok
    simp only [Bool.and_eq_true, decide_eq_true_eq] at hok
    exact ⟨hts _ hcd, ⟨hok.1.1.1.1.2, hok.1.1.1.2, hok.1.1.2⟩, hok.1.2, hok.2⟩
  unfold am_g4 at h
  split at h
  · -- virtual
    split at h
    · rename_i ix _ j' hcall
      split at h
      · rename_i b as' hst
        split at h
        · rename_i q; cases h
          simp only [Bool.and_eq_true, decide_eq_true_eq, Bool.or_eq_true, beq_iff_eq] at q
          obtain ⟨⟨⟨⟨⟨⟨q1, q2⟩, q3⟩, q4⟩, q5⟩, q6⟩, q7⟩ := q
          obtain ⟨lk, p2, se, ini, hok⟩ := am_call_of hcall
          unfold am_okC at hok
          simp only [Bool.and_eq_true, decide_eq_true_eq] at hok
          obtain ⟨⟨⟨⟨hj, hlnk⟩, hin⟩, hsel⟩, hini⟩ := hok
          obtain ⟨hcode, hdd, hcn, h19⟩ := facts hj
          have hM := am_met (l := l) hj hsn hV (by simp only [List.all_cons, Bool.and_eq_true]; exact ⟨rfl, q3⟩) (by rw [List.length_cons, q1]; exact q6)
          have hrecv : ∃ cellB : Cell, H[am_ab G b]? = some cellB ∧ cellB.vm.isStatics = false ∧ s.vm.findClass (am_y j).cls = some cellB.cls := by
            rcases q7 with q7 | ⟨rfl, q7⟩
            · have h10 : am_own j ≤ 10 ∨ ¬ am_own j ≤ 10 := Decidable.em _
              rcases h10 with h10 | h10
              · have hat := am_arI hP q7
                rw [am_E_o G M (am_is_of q7).2.2 h10] at hat
                obtain ⟨r', hr', cellV, g1, g2, g3, -⟩ := hat
                exact ⟨cellV, g1, by rw [g3]; rfl, by rw [g2, hcn]; exact (hT.1.1 _ _ (am_vw h10)).2.1⟩
              · exfalso
                have h20 : am_own j = 20 ∨ am_own j = 21 ∨ am_own j = 22 ∨ am_own j = 23 ∨ am_own j = 24 ∨ 10 < am_own j := by omega
                have hall : (List.range 161).all (fun z => decide (am_own z ≤ 15)) = true := by decide +kernel
                have hj15 := List.all_eq_true.mp hall j (List.mem_range.mpr hj)
                simp only [decide_eq_true_eq] at hj15
                have htg := (am_is_of q7).2.2
                have htags : am_tags.all (fun z => decide (z ≤ 10 ∨ 16 ≤ z)) = true := by decide +kernel
                unfold am_tag at htg
                split at htg
                · rename_i hlt
                  have hm : am_tags.getD b 99 ∈ am_tags := by
                    rw [List.getD_eq_getElem?_getD, List.getElem?_eq_getElem (by have : am_tags.length = 156 := by decide +kernel
                                                                                 omega)]
                    exact List.getElem_mem _
                  have := List.all_eq_true.mp htags _ hm
                  simp only [decide_eq_true_eq] at this
                  omega
                · split at htg <;> omega
            · obtain ⟨cell, h1, h2, h3, -⟩ := hT.2.2.2.2.1.2.1.kept hS.2.1
              exact ⟨cell, h1, h2, by rw [hcn, q7]; exact h3⟩
          have hsplit : st.map (am_sh G) = (as'.map (am_sh G)).reverse ++ .ref (am_ab G b) :: (st.drop (am_np j + 1)).map (am_sh G) := am_split hst
          rw [hsplit]
          have hR := hroom q5
          have hsum : (((st.drop (am_np j + 1)).map (am_sh G)).map fun v => v.category).sum ≤ 8 := by rw [am_sum hV q2]; exact q4
          rcases am_link_of hlnk with hl1 | hl1
          · exact am_cont (va_runV (C := (am_y j).cls) (bytes := am_c j) (maxL := am_nl j) (ret := am_rt j) (n := am_np j) (b := am_ab G b) (As := as'.map (am_sh G)) (rest := (st.drop (am_np j + 1)).map (am_sh G)) hfix hM ⟨callB_of (ws' := am_gw) (am_np j) hts (am_good hj) rfl rfl rfl (hts _ (am_at_in hini)) (hts _ hl1) hdd ⟨hR.1, hR.2 h19⟩, hts _ (am_at_in hin), hts _ (am_at_in hsel)⟩ ⟨hblind, hrecv, hpre⟩ rfl (by rw [List.length_map]; exact q1) hL rfl (lv_room hsum) hd ⟨hc, hs⟩) (fun _ _ _ hq => hq) hS kk
          · exact am_cont (va_runVN (C := (am_y j).cls) (host := "CodeProbes") (bytes := am_c j) (maxL := am_nl j) (ret := am_rt j) (n := am_np j) (b := am_ab G b) (As := as'.map (am_sh G)) (rest := (st.drop (am_np j + 1)).map (am_sh G)) hfix hM ⟨va_cnB (ws' := am_gw) (am_np j) hts (am_good hj) rfl rfl rfl (hT.2.1 _ hl1) (hts _ (am_at_in hini)) hdd ⟨hR.1, hR.2 h19⟩, hts _ (am_at_in hin), hts _ (am_at_in hsel)⟩ ⟨hblind, hrecv, hpre⟩ rfl (by rw [List.length_map]; exact q1) hL rfl (lv_room hsum) hd ⟨hc, hs⟩) (fun _ _ _ hq => hq) hS kk
        · cases h
      · cases h
    · cases h
  · -- constructors
    split at h
    · rename_i ix _ j' hcall
      split at h
      · rename_i b as' hst
        split at h
        · rename_i q; cases h
          simp only [Bool.and_eq_true, decide_eq_true_eq] at q
          obtain ⟨⟨⟨⟨⟨q1, q2⟩, q3⟩, q4⟩, q5⟩, q6⟩ := q
          obtain ⟨lk, p2, se, ini, hok⟩ := am_call_of hcall
          unfold am_okC at hok
          simp only [Bool.and_eq_true, decide_eq_true_eq] at hok
          obtain ⟨⟨⟨⟨⟨hj, hlnk⟩, hin⟩, hini⟩, hnm⟩, hrn⟩ := hok
          obtain ⟨hcode, hdd, hcn, h19⟩ := facts hj
          have hM := am_met (l := l) hj hsn hV (by simp only [List.all_cons, Bool.and_eq_true]; exact ⟨rfl, q3⟩) (by rw [List.length_cons, q1]; exact q6)
          have hsplit : st.map (am_sh G) = (as'.map (am_sh G)).reverse ++ .ref (am_ab G b) :: (st.drop (am_np j + 1)).map (am_sh G) := am_split hst
          rw [hsplit]
          have hR := hroom q5
          have hsum : (((st.drop (am_np j + 1)).map (am_sh G)).map fun v => v.category).sum ≤ 8 := by rw [am_sum hV q2]; exact q4
          have hws : am_ws j = Cond.code (am_y j) (am_c j) (am_nl j) none :: am_gw := by unfold am_ws; rw [hrn]
          rcases am_link_of hlnk with hl1 | hl1
          · exact am_cont (va_runI (bytes := am_c j) (maxL := am_nl j) (n := am_np j) (b := am_ab G b) (As := as'.map (am_sh G)) (rest := (st.drop (am_np j + 1)).map (am_sh G)) hfix hM ⟨callB_of (ws' := am_gw) (am_np j) hts (am_good hj) hws rfl rfl (hts _ (am_at_in hini)) (hts _ hl1) hdd ⟨hR.1, hR.2 h19⟩, hnm, hts _ (am_at_in hin)⟩ ⟨hblind, hpre⟩ rfl (by rw [List.length_map]; exact q1) hL rfl (lv_room hsum) hd ⟨hc, hs⟩) (fun _ _ _ hq => hq) hS kk
          · exact am_cont (va_runIN (host := "CodeProbes") (bytes := am_c j) (maxL := am_nl j) (n := am_np j) (b := am_ab G b) (As := as'.map (am_sh G)) (rest := (st.drop (am_np j + 1)).map (am_sh G)) hfix hM ⟨va_cnB (ws' := am_gw) (am_np j) hts (am_good hj) hws rfl rfl (hT.2.1 _ hl1) (hts _ (am_at_in hini)) hdd ⟨hR.1, hR.2 h19⟩, hnm, hts _ (am_at_in hin)⟩ ⟨hblind, hpre⟩ rfl (by rw [List.length_map]; exact q1) hL rfl (lv_room hsum) hd ⟨hc, hs⟩) (fun _ _ _ hq => hq) hS kk
        · cases h
      · cases h
    · cases h
  · -- static
    split at h
    · rename_i ix _ j' hcall
      split at h
      · rename_i q; cases h
        simp only [Bool.and_eq_true, decide_eq_true_eq] at q
        obtain ⟨⟨⟨⟨⟨q1, q2⟩, q3⟩, q4⟩, q5⟩, q6⟩ := q
        obtain ⟨lk, p2, se, ini, hok⟩ := am_call_of hcall
        unfold am_okC at hok
        simp only [Bool.and_eq_true, decide_eq_true_eq] at hok
        obtain ⟨⟨⟨hj, hlnk⟩, hin⟩, hini⟩ := hok
        obtain ⟨hcode, hdd, hcn, h19⟩ := facts hj
        have hM := am_met (l := l) hj hsn hV (by rw [List.all_reverse]; exact q3) (by rw [List.length_reverse, q1]; exact q6)
        have hsplit : st.map (am_sh G) = (((st.take (am_np j)).reverse).map (am_sh G)).reverse ++ (st.drop (am_np j)).map (am_sh G) := by
          rw [List.map_reverse, List.reverse_reverse, ← List.map_append, List.take_append_drop]
        rw [hsplit]
        have hR := hroom q5
        have hsum : (((st.drop (am_np j)).map (am_sh G)).map fun v => v.category).sum ≤ 8 := by rw [am_sum hV q2]; exact q4
        rcases am_link_of hlnk with hl1 | hl1
        · exact am_cont (va_runS (bytes := am_c j) (maxL := am_nl j) (ret := am_rt j) (n := am_np j) (As := ((st.take (am_np j)).reverse).map (am_sh G)) (rest := (st.drop (am_np j)).map (am_sh G)) hfix hM ⟨callB_of (ws' := am_gw) (am_np j) hts (am_good hj) rfl rfl rfl (hts _ (am_at_in hini)) (hts _ hl1) hdd ⟨hR.1, hR.2 h19⟩, hts _ (am_at_in hin)⟩ ⟨hblind, hpre⟩ rfl (by rw [List.length_map, List.length_reverse]; exact q1) hL rfl (lv_room hsum) hd ⟨hc, hs⟩) (fun _ _ _ hq => hq) hS kk
        · exact am_cont (va_runSN (host := "CodeProbes") (bytes := am_c j) (maxL := am_nl j) (ret := am_rt j) (n := am_np j) (As := ((st.take (am_np j)).reverse).map (am_sh G)) (rest := (st.drop (am_np j)).map (am_sh G)) hfix hM ⟨va_cnB (ws' := am_gw) (am_np j) hts (am_good hj) rfl rfl rfl (hT.2.1 _ hl1) (hts _ (am_at_in hini)) hdd ⟨hR.1, hR.2 h19⟩, hts _ (am_at_in hin), trivial⟩ ⟨hblind, hpre⟩ rfl (by rw [List.length_map, List.length_reverse]; exact q1) hL rfl (lv_room hsum) hd ⟨hc, hs⟩) (fun _ _ _ hq => hq) hS kk
      · cases h
    · cases h
  · cases h
end AMG
/-- THE SMALL MACHINE IS THE REAL ONE -/
theorem am_sound (G : am_Gt) : ∀ (N k pc : Nat) (ls : am_L) (st : List Value) (M : am_M) (v : Option Value) (M' : am_M), am_run N k pc ls st M = some (v, M') → am_Snd G k pc ls st M v M' := by
  intro N
  induction N with
  | zero => intro k pc ls st M v M' h; cases h
  | succ N ih =>
    intro k pc ls st M v M' h
    rw [am_run] at h
    unfold am_act at h
    cases hd : decode (am_c k) pc with
    | error z => rw [hd] at h; cases h
    | ok q =>
      obtain ⟨i, n⟩ := q
      rw [hd] at h
      dsimp only at h
      unfold am_do at h
      cases h1 : am_g1 pc ls st i n with
      | some q =>
        obtain ⟨pc1, ls1, st1⟩ := q
        rw [h1] at h
        obtain ⟨hm, hw⟩ := ih _ _ _ _ _ _ _ h
        refine ⟨hm, fun p l e R s m args below meth c H locs cells slots fc fs Q L hX hP hl hS hc hs hc2 hs2 hret => ?_⟩
        exact am_s1 hX.1 hX.2.1 hX.2.2.2.2.2.2.2.2.2.2.2.2.2.2.2.2.1 hd h1 hl (fun L' hl' => hw p l e R s m args below meth c H locs cells slots fc fs Q L' hX hP hl' hS hc hs hc2 hs2 hret)
      | none =>
        rw [h1] at h
        dsimp only at h
        cases h2 : am_g2 pc st i n with
        | some q =>
          obtain ⟨pc1, st1⟩ := q
          rw [h2] at h
          obtain ⟨hm, hw⟩ := ih _ _ _ _ _ _ _ h
          refine ⟨hm, fun p l e R s m args below meth c H locs cells slots fc fs Q L hX hP hl hS hc hs hc2 hs2 hret => ?_⟩
          exact am_s2 hX.1 hX.2.1 hd h2 (hw p l e R s m args below meth c H locs cells slots fc fs Q L hX hP hl hS hc hs hc2 hs2 hret)
        | none =>
          rw [h2] at h
          dsimp only at h
          cases h3 : am_g3 (am_own k) (am_lev k) (am_ini k) pc st M i n with
          | some q =>
            obtain ⟨pc1, st1, I1, R1⟩ := q
            rw [h3] at h
            obtain ⟨hm, hw⟩ := ih _ _ _ _ _ _ _ h
            refine ⟨hm, fun p l e R s m args below meth c H locs cells slots fc fs Q L hX hP hl hS hc hs hc2 hs2 hret => ?_⟩
            exact am_s3 hX hl.2.2.1 hd h3 hP hS (fun H1 locs1 hP1 hS1 => hw p l e R s m args below meth c H1 locs1 cells slots fc fs Q L hX hP1 hl hS1 hc hs hc2 hs2 hret)
          | none =>
            rw [h3] at h
            dsimp only at h
            cases h6 : am_g6 (am_own k) pc st M i n with
            | some q =>
              obtain ⟨pc1, st1, M1⟩ := q
              rw [h6] at h
              obtain ⟨hm, hw⟩ := ih _ _ _ _ _ _ _ h
              have hgrow : M1.2.2.2.1 = M.2.2.2.1 + 1 ∧ M.2.2.2.2 ≤ M1.2.2.2.2 := by
                have h6' := h6
                unfold am_g6 at h6'
                repeat' split at h6'
                all_goals first | (cases h6'; done) | (cases h6'; exact ⟨rfl, Nat.le_add_right _ _⟩)
              refine ⟨⟨by omega, by omega⟩, fun p l e R s m args below meth c H locs cells slots fc fs Q L hX hP hl hS hc hs hc2 hs2 hret => ?_⟩
              obtain ⟨sl, e1, e2, hstep⟩ := am_s6 (p := p) (l := l) (e := e) (below := below) (Q := Q) (L := L) (cells := cells) (slots := slots) hX hd h6 hP hS
              refine hstep (by omega) (by omega) (fun H1 locs1 hP1 hS1 => hw p l e R s m args below meth c H1 locs1 (cells + 1) (slots + sl) fc fs Q L hX hP1 hl hS1 (by omega) (by omega) hc2 hs2 hret)
            | none =>
              rw [h6] at h
              dsimp only at h
              cases h4 : am_g4 (am_own k) (am_lev k) st M i n with
              | some q =>
                obtain ⟨j, as, r⟩ := q
                rw [h4] at h
                dsimp only at h
                cases hc : am_run N j 0 (am_ent j as) [] M with
                | none => rw [hc] at h; cases h
                | some q =>
                  obtain ⟨v1, M1⟩ := q
                  rw [hc] at h
                  have hs1 := ih _ _ _ _ _ _ _ hc
                  obtain ⟨hm, hw⟩ := ih _ _ _ _ _ _ _ h
                  have hm1 := hs1.1
                  refine ⟨⟨by omega, by omega⟩, fun p l e R s m args below meth c H locs cells slots fc fs Q L hX hP hl hS hc hs hc2 hs2 hret => ?_⟩
                  exact am_s4 hX hl.2.2.1 hd h4 hP hS hs1 (by omega) (by omega) (fun H1 locs1 hP1 hS1 => hw p l e R s m args below meth c H1 locs1 _ _ fc fs Q L hX hP1 hl hS1 (by omega) (by omega) hc2 hs2 hret)
              | none =>
                rw [h4] at h
                dsimp only at h
                cases h5 : am_g5 (am_rt k) st i n with
                | none => rw [h5] at h; cases h
                | some v1 =>
                  rw [h5] at h
                  cases h
                  refine ⟨⟨Nat.le_refl _, Nat.le_refl _⟩, fun p l e R s m args below meth c H locs cells slots fc fs Q L hX hP hl hS hc hs hc2 hs2 hret => ?_⟩
                  rw [Nat.sub_self, Nat.add_zero] at hc hs
                  subst hc; subst hs
                  exact hret H locs pc L st i n hd h5 hP hS
end
section
/-! equations of ev, an instruction each -/
theorem am_act_of {m pc : Nat} {cc : ByteArray} {i : Instr} {n : Nat} (hc : am_c m = cc) (hd : decode cc pc = .ok (i, n)) (ls : am_L) (st : List Value) (M : am_M) : am_act m pc ls st M = am_do m pc ls st M i n := by
  unfold am_act; rw [hc, hd]
section EV
variable {m pc pc' : Nat} {cc : ByteArray} {i : Instr} {n : Nat} {ls ls' : am_L} {st st' : List Value} {I : am_I} {R : am_R} {K : am_K}
theorem e1 (hc : am_c m = cc) (hd : decode cc pc = .ok (i, n)) (h : am_g1 pc ls st i n = some (pc', ls', st')) : ev m pc ls st (I, R, K) = ev m pc' ls' st' (I, R, K) := by
  apply ev_next; rw [am_act_of hc hd]; unfold am_do; rw [h]
theorem e2 (hc : am_c m = cc) (hd : decode cc pc = .ok (i, n)) (h1 : am_g1 pc ls st i n = none) (h : am_g2 pc st i n = some (pc', st')) : ev m pc ls st (I, R, K) = ev m pc' ls st' (I, R, K) := by
  apply ev_next; rw [am_act_of hc hd]; unfold am_do; rw [h1]; dsimp only; rw [h]
theorem e2p {o : Int} {r : List Value} {t : Nat} {P : Prop} {dP : Decidable P} (hc : am_c m = cc) (hd : decode cc pc = .ok (i, n)) (h1 : am_g1 pc ls st i n = none) (h : am_g2 pc st i n = am_br (@decide P dP) pc o r) (ht : (pc : Int) + o = (t : Int)) : ev m pc ls st (I, R, K) = @ite _ P dP (ev m t ls r (I, R, K)) (ev m (pc + 3) ls r (I, R, K)) := by
  have hb : am_br (@decide P dP) pc o r = some (if @decide P dP then (t, r) else (pc + 3, r)) := by
    unfold am_br am_tg; rw [ht]; simp
  by_cases q : P
  · rw [if_pos q]; exact e2 hc hd h1 (by rw [h, hb]; simp [q])
  · rw [if_neg q]; exact e2 hc hd h1 (by rw [h, hb]; simp [q])
theorem e2n {o : Int} {r : List Value} {t : Nat} {P : Prop} {dP : Decidable P} (hc : am_c m = cc) (hd : decode cc pc = .ok (i, n)) (h1 : am_g1 pc ls st i n = none) (h : am_g2 pc st i n = am_br (!@decide P dP) pc o r) (ht : (pc : Int) + o = (t : Int)) : ev m pc ls st (I, R, K) = @ite _ P dP (ev m (pc + 3) ls r (I, R, K)) (ev m t ls r (I, R, K)) := by
  have hb : am_br (!@decide P dP) pc o r = some (if @decide P dP then (pc + 3, r) else (t, r)) := by
    unfold am_br am_tg; rw [ht]; by_cases q : P <;> simp [q]
  by_cases q : P
  · rw [if_pos q]; exact e2 hc hd h1 (by rw [h, hb]; simp [q])
  · rw [if_neg q]; exact e2 hc hd h1 (by rw [h, hb]; simp [q])
theorem e3 {I' : am_I} {R' : am_R} (hc : am_c m = cc) (hd : decode cc pc = .ok (i, n)) (h1 : am_g1 pc ls st i n = none) (h2 : am_g2 pc st i n = none) (h : am_g3 (am_own m) (am_lev m) (am_ini m) pc st (I, R, K) i n = some (pc', st', I', R')) : ev m pc ls st (I, R, K) = ev m pc' ls st' (I', R', K) := by
  apply ev_next; rw [am_act_of hc hd]; unfold am_do; rw [h1]; dsimp only; rw [h2]; dsimp only; rw [h]
theorem e6 {M' : am_M} (hc : am_c m = cc) (hd : decode cc pc = .ok (i, n)) (h1 : am_g1 pc ls st i n = none) (h2 : am_g2 pc st i n = none) (h3 : am_g3 (am_own m) (am_lev m) (am_ini m) pc st (I, R, K) i n = none) (h : am_g6 (am_own m) pc st (I, R, K) i n = some (pc', st', M')) : ev m pc ls st (I, R, K) = ev m pc' ls st' M' := by
  apply ev_next; rw [am_act_of hc hd]; unfold am_do; rw [h1]; dsimp only; rw [h2]; dsimp only; rw [h3]; dsimp only; rw [h]
theorem e4 {j : Nat} {as r : List Value} (hc : am_c m = cc) (hd : decode cc pc = .ok (i, n)) (h1 : am_g1 pc ls st i n = none) (h2 : am_g2 pc st i n = none) (h3 : am_g3 (am_own m) (am_lev m) (am_ini m) pc st (I, R, K) i n = none) (h6 : am_g6 (am_own m) pc st (I, R, K) i n = none) (h : am_g4 (am_own m) (am_lev m) st (I, R, K) i n = some (j, as, r)) : ev m pc ls st (I, R, K) = (ev j 0 (am_ent j as) [] (I, R, K)).bind (fun q => ev m (pc + 3) ls (q.1.toList ++ r) q.2) := by
  apply ev_call; rw [am_act_of hc hd]; unfold am_do; rw [h1]; dsimp only; rw [h2]; dsimp only; rw [h3]; dsimp only; rw [h6]; dsimp only; rw [h]
theorem e5 {v : Option Value} (hc : am_c m = cc) (hd : decode cc pc = .ok (i, n)) (h1 : am_g1 pc ls st i n = none) (h2 : am_g2 pc st i n = none) (h3 : am_g3 (am_own m) (am_lev m) (am_ini m) pc st (I, R, K) i n = none) (h6 : am_g6 (am_own m) pc st (I, R, K) i n = none) (h4 : am_g4 (am_own m) (am_lev m) st (I, R, K) i n = none) (h : am_g5 (am_rt m) st i n = some v) : ev m pc ls st (I, R, K) = some (v, (I, R, K)) := by
  apply ev_ret; rw [am_act_of hc hd]; unfold am_do; rw [h1]; dsimp only; rw [h2]; dsimp only; rw [h3]; dsimp only; rw [h6]; dsimp only; rw [h4]; dsimp only; rw [h]
end EV
section EM
variable {m pc ix ci j a b d : Nat} {cc : ByteArray} {ls : am_L} {st r : List Value} {I : am_I} {R : am_R} {K : am_K} {x i : Int32} {o : Nat}
theorem am_isK_of {a t : Nat} (h : am_isK K a t = true) : 3 ≤ a ∧ a < K.2.1 ∧ am_tag a = t := am_is_of (M := (fun _ _ => 0, fun _ _ => none, K)) h
theorem e_getI (hc : am_c m = cc) (hd : decode cc pc = .ok (.getfield ix, 3)) (ho : am_own m = o) (hf : am_fld o ix = some (ci, j)) (hi : am_isI ci j = true) (h : am_isK K a ci = true) : ev m pc ls (.ref a :: r) (I, R, K) = ev m (pc + 3) ls (.int (I a j) :: r) (I, R, K) := by
  refine e3 hc hd rfl rfl ?_
  have h3 := (am_isK_of h).1
  simp [am_g3, ho, hf, hi, am_is, h, show a ≠ 1 by omega]
theorem e_getR (hc : am_c m = cc) (hd : decode cc pc = .ok (.getfield ix, 3)) (ho : am_own m = o) (hf : am_fld o ix = some (ci, j)) (hi : am_isI ci j = false) (h : am_isK K a ci = true) : ev m pc ls (.ref a :: r) (I, R, K) = ev m (pc + 3) ls (am_rf (R a j) :: r) (I, R, K) := by
  refine e3 hc hd rfl rfl ?_
  have h3 := (am_isK_of h).1
  simp [am_g3, ho, hf, hi, am_is, h, show a ≠ 1 by omega]
theorem e_putI (hc : am_c m = cc) (hd : decode cc pc = .ok (.putfield ix, 3)) (ho : am_own m = o) (hf : am_fld o ix = some (ci, j)) (hi : am_isI ci j = true) (hz : (!(am_fT ci j).2.2.2 || (am_ini m && ci == o)) = true) (ht : am_ty ci j = .int) (h : am_isK K a ci = true) : ev m pc ls (.int x :: .ref a :: r) (I, R, K) = ev m (pc + 3) ls r (am_ui I a j x, R, K) := by
  refine e3 hc hd rfl rfl ?_
  simp only [am_g3, ho, hf, hi, am_is, h, hz, ht]
  simp [narrow, fits]
theorem e_putZ (hc : am_c m = cc) (hd : decode cc pc = .ok (.putfield ix, 3)) (ho : am_own m = o) (hf : am_fld o ix = some (ci, j)) (hi : am_isI ci j = true) (hz : (!(am_fT ci j).2.2.2 || (am_ini m && ci == o)) = true) (ht : am_ty ci j = .boolean) (hx : x = 0 ∨ x = 1) (h : am_isK K a ci = true) : ev m pc ls (.int x :: .ref a :: r) (I, R, K) = ev m (pc + 3) ls r (am_ui I a j x, R, K) := by
  refine e3 hc hd rfl rfl ?_
  simp only [am_g3, ho, hf, hi, am_is, h, hz, ht]
  rcases hx with rfl | rfl <;> simp [narrow, fits]
theorem e_putR (hc : am_c m = cc) (hd : decode cc pc = .ok (.putfield ix, 3)) (ho : am_own m = o) (hf : am_fld o ix = some (ci, j)) (hi : am_isI ci j = false) (hz : (!(am_fT ci j).2.2.2 || (am_ini m && ci == o)) = true) (h : am_isK K a ci = true) : ev m pc ls (.ref b :: .ref a :: r) (I, R, K) = ev m (pc + 3) ls r (I, am_ur R a j (some b), K) := by
  refine e3 hc hd rfl rfl ?_
  simp only [am_g3, ho, hf, hi, am_is, h, hz]
  simp
theorem e_putN (hc : am_c m = cc) (hd : decode cc pc = .ok (.putfield ix, 3)) (ho : am_own m = o) (hf : am_fld o ix = some (ci, j)) (hi : am_isI ci j = false) (hz : (!(am_fT ci j).2.2.2 || (am_ini m && ci == o)) = true) (h : am_isK K a ci = true) : ev m pc ls (.null :: .ref a :: r) (I, R, K) = ev m (pc + 3) ls r (I, am_ur R a j none, K) := by
  refine e3 hc hd rfl rfl ?_
  simp only [am_g3, ho, hf, hi, am_is, h, hz]
  simp
theorem e_iald (hc : am_c m = cc) (hd : decode cc pc = .ok (.iaload, 1)) (h : am_isK K a 20 = true) (hx : am_ix i (K.1 a) = true) : ev m pc ls (.int i :: .ref a :: r) (I, R, K) = ev m (pc + 1) ls (.int (I a i.toNatClampNeg) :: r) (I, R, K) := by
  refine e3 hc hd rfl rfl ?_
  simp [am_g3, am_is, h, hx]
theorem e_sald (hc : am_c m = cc) (hd : decode cc pc = .ok (.iaload, 1)) (hx : am_ix i (K.1 0) = true) : ev m pc ls (.int i :: .ref 0 :: r) (I, R, K) = ev m (pc + 1) ls (.int (I 0 i.toNatClampNeg) :: r) (I, R, K) := by
  refine e3 hc hd rfl rfl ?_
  simp [am_g3, hx]
theorem e_zald (hc : am_c m = cc) (hd : decode cc pc = .ok (.baload, 1)) (h : am_isK K a 21 = true) (hx : am_ix i (K.1 a) = true) : ev m pc ls (.int i :: .ref a :: r) (I, R, K) = ev m (pc + 1) ls (.int (am_b (I a i.toNatClampNeg)) :: r) (I, R, K) := by
  refine e3 hc hd rfl rfl ?_
  have h3 := (am_isK_of h).1
  simp [am_g3, am_is, h, hx, show a ≠ 2 by omega]
theorem e_cald (hc : am_c m = cc) (hd : decode cc pc = .ok (.caload, 1)) (h : am_isK K a 22 = true) (hx : am_ix i (K.1 a) = true) : ev m pc ls (.int i :: .ref a :: r) (I, R, K) = ev m (pc + 1) ls (.int (am_h (I a i.toNatClampNeg)) :: r) (I, R, K) := by
  refine e3 hc hd rfl rfl ?_
  simp [am_g3, am_is, h, hx]
theorem e_aald (hc : am_c m = cc) (hd : decode cc pc = .ok (.aaload, 1)) (h : (am_isK K a 23 || am_isK K a 24) = true) (hx : am_ix i (K.1 a) = true) : ev m pc ls (.int i :: .ref a :: r) (I, R, K) = ev m (pc + 1) ls (am_rf (R a i.toNatClampNeg) :: r) (I, R, K) := by
  refine e3 hc hd rfl rfl ?_
  simp only [am_g3, am_is, h, hx]
  simp
theorem e_iast (hc : am_c m = cc) (hd : decode cc pc = .ok (.iastore, 1)) (h : am_isK K a 20 = true) (hx : am_ix i (K.1 a) = true) : ev m pc ls (.int x :: .int i :: .ref a :: r) (I, R, K) = ev m (pc + 1) ls r (am_ui I a i.toNatClampNeg x, R, K) := by
  refine e3 hc hd rfl rfl ?_
  simp [am_g3, am_is, h, hx]
theorem e_zast (hc : am_c m = cc) (hd : decode cc pc = .ok (.bastore, 1)) (h : am_isK K a 21 = true) (hx : am_ix i (K.1 a) = true) : ev m pc ls (.int x :: .int i :: .ref a :: r) (I, R, K) = ev m (pc + 1) ls r (am_ui I a i.toNatClampNeg x, R, K) := by
  refine e3 hc hd rfl rfl ?_
  simp [am_g3, am_is, h, hx]
theorem e_cast (hc : am_c m = cc) (hd : decode cc pc = .ok (.castore, 1)) (h : am_isK K a 22 = true) (hx : am_ix i (K.1 a) = true) : ev m pc ls (.int x :: .int i :: .ref a :: r) (I, R, K) = ev m (pc + 1) ls r (am_ui I a i.toNatClampNeg x, R, K) := by
  refine e3 hc hd rfl rfl ?_
  simp [am_g3, am_is, h, hx]
theorem e_aast (hc : am_c m = cc) (hd : decode cc pc = .ok (.aastore, 1)) (h : ((am_isK K a 23 && am_isK K b 3) || (am_isK K a 24 && am_isK K b 7)) = true) (hx : am_ix i (K.1 a) = true) : ev m pc ls (.ref b :: .int i :: .ref a :: r) (I, R, K) = ev m (pc + 1) ls r (I, am_ur R a i.toNatClampNeg (some b), K) := by
  refine e3 hc hd rfl rfl ?_
  simp only [am_g3, am_is, h, hx]
  simp
theorem e_alen (hc : am_c m = cc) (hd : decode cc pc = .ok (.arraylength, 1)) (h : (a == 0 || am_isK K a 20 || am_isK K a 21 || am_isK K a 22 || am_isK K a 23) = true) (h2 : a ≠ 2) : ev m pc ls (.ref a :: r) (I, R, K) = ev m (pc + 1) ls (.int (nI (K.1 a)) :: r) (I, R, K) := by
  refine e3 hc hd rfl rfl ?_
  simp only [am_g3, am_is, h, if_neg h2]
  simp [nI]
theorem e_new (hc : am_c m = cc) (hd : decode cc pc = .ok (.new ix, 3)) (ho : am_own m = o) (hn : am_new o ix = some ci) (h : am_tag K.2.1 = ci) : ev m pc ls st (I, R, K) = ev m (pc + 3) ls (.ref K.2.1 :: st) (am_mk (I, R, K) 0 (am_cN ci)) := by
  refine e6 hc hd rfl rfl rfl ?_
  simp [am_g6, ho, hn, h]
theorem e_objI (hc : am_c m = cc) (hd : decode cc pc = .ok (.invokespecial ix, 3)) (ho : am_own m = o) (hf : am_call o ix = some (3, j)) (hl : 0 < am_lev m) (hr : r.length ≤ 8) (hr2 : r.all am_c1 = true) : ev m pc ls (.ref a :: r) (I, R, K) = ev m (pc + 3) ls r (I, R, K) := by
  refine e3 hc hd rfl rfl ?_
  simp only [am_g3, ho, hf, hl, hr, hr2]
  simp
theorem e_copy {n sp dp : Int32} (hc : am_c m = cc) (hd : decode cc pc = .ok (.invokestatic ix, 3)) (ho : am_own m = o) (hf : am_call o ix = some (4, j)) (hl : 0 < am_lev m) (hr : r.length ≤ 8) (hr2 : r.all am_c1 = true) (h1 : am_isK K a 20 = true) (h2 : am_isK K d 20 = true) (h3 : ¬ sp < 0) (h4 : ¬ dp < 0) (h5 : ¬ n < 0) (h6 : sp.toNatClampNeg + n.toNatClampNeg ≤ K.1 a) (h7 : dp.toNatClampNeg + n.toNatClampNeg ≤ K.1 d) : ev m pc ls (.int n :: .int dp :: .ref d :: .int sp :: .ref a :: r) (I, R, K) = ev m (pc + 3) ls r (am_cp I a sp.toNatClampNeg d dp.toNatClampNeg n.toNatClampNeg, R, K) := by
  refine e3 hc hd rfl rfl ?_
  simp only [am_g3, ho, hf, hl, hr, hr2, am_is, h1, h2, h3, h4, h5, h6, h7]
  simp
end EM
section EC
variable {m pc ix j a b d nl oj : Nat} {cc : ByteArray} {ls : am_L} {st r as : List Value} {I : am_I} {R : am_R} {K : am_K} {x i : Int32} {o : Nat}
theorem e_callV (as : List Value) (hc : am_c m = cc) (hd : decode cc pc = .ok (.invokevirtual ix, 3)) (ho : am_own m = o) (hf : am_call o ix = some (0, j)) (hnp : am_np j = as.length) (hoj : am_own j = oj) (hlev : am_lev j < am_lev m) (hnl : am_nl j = nl) (hn : as.length + 1 ≤ nl) (ha : as.all am_c1 = true) (hr : r.all am_c1 = true) (hr8 : r.length ≤ 8) (h : am_isK K b oj = true) :
    ev m pc ls (as.reverse ++ .ref b :: r) (I, R, K) = (ev j 0 ((Value.ref b :: as).map some ++ List.replicate (nl - (as.length + 1)) none) [] (I, R, K)).bind (fun q => ev m (pc + 3) ls (q.1.toList ++ r) q.2) := by
  have e : am_ent j (.ref b :: as) = (Value.ref b :: as).map some ++ List.replicate (nl - (as.length + 1)) none := by
    unfold am_ent; rw [hnl]; rfl
  rw [← e]
  refine e4 hc hd rfl rfl rfl rfl ?_
  have h1 : (List.take (am_np j + 1) (as.reverse ++ Value.ref b :: r)).reverse = Value.ref b :: as := by
    rw [hnp, List.take_append, List.length_reverse]
    simp [List.take_of_length_le]
  have h2 : List.drop (am_np j + 1) (as.reverse ++ Value.ref b :: r) = r := by
    rw [hnp, List.drop_append, List.length_reverse]
    simp
  simp only [am_g4, ho, hf, h1, h2, hoj, hnl, am_is, h, ha, hr]
  simp [hnp, hlev, hr8, hn]
theorem e_callI (as : List Value) (hc : am_c m = cc) (hd : decode cc pc = .ok (.invokespecial ix, 3)) (ho : am_own m = o) (hf : am_call o ix = some (2, j)) (hnp : am_np j = as.length) (hlev : am_lev j < am_lev m) (hnl : am_nl j = nl) (hn : as.length + 1 ≤ nl) (ha : as.all am_c1 = true) (hr : r.all am_c1 = true) (hr8 : r.length ≤ 8) :
    ev m pc ls (as.reverse ++ .ref b :: r) (I, R, K) = (ev j 0 ((Value.ref b :: as).map some ++ List.replicate (nl - (as.length + 1)) none) [] (I, R, K)).bind (fun q => ev m (pc + 3) ls (q.1.toList ++ r) q.2) := by
  have e : am_ent j (.ref b :: as) = (Value.ref b :: as).map some ++ List.replicate (nl - (as.length + 1)) none := by
    unfold am_ent; rw [hnl]; rfl
  rw [← e]
  have h1 : (List.take (am_np j + 1) (as.reverse ++ Value.ref b :: r)).reverse = Value.ref b :: as := by
    rw [hnp, List.take_append, List.length_reverse]
    simp [List.take_of_length_le]
  have h2 : List.drop (am_np j + 1) (as.reverse ++ Value.ref b :: r) = r := by
    rw [hnp, List.drop_append, List.length_reverse]
    simp
  refine e4 hc hd rfl rfl ?_ rfl ?_
  · simp only [am_g3, ho, hf]
  · simp only [am_g4, ho, hf, h1, h2, hnl, ha, hr]
    simp [hnp, hlev, hr8, hn]
theorem e_callS (as : List Value) (hc : am_c m = cc) (hd : decode cc pc = .ok (.invokestatic ix, 3)) (ho : am_own m = o) (hf : am_call o ix = some (1, j)) (hnp : am_np j = as.length) (hlev : am_lev j < am_lev m) (hnl : am_nl j = nl) (hn : as.length ≤ nl) (ha : as.all am_c1 = true) (hr : r.all am_c1 = true) (hr8 : r.length ≤ 8) :
    ev m pc ls (as.reverse ++ r) (I, R, K) = (ev j 0 (as.map some ++ List.replicate (nl - as.length) none) [] (I, R, K)).bind (fun q => ev m (pc + 3) ls (q.1.toList ++ r) q.2) := by
  have e : am_ent j as = as.map some ++ List.replicate (nl - as.length) none := by
    unfold am_ent; rw [hnl]
  rw [← e]
  have h1 : List.take (am_np j) (as.reverse ++ r) = as.reverse := by
    rw [hnp, List.take_append, List.length_reverse]
    simp [List.take_of_length_le]
  have h2 : List.drop (am_np j) (as.reverse ++ r) = r := by
    rw [hnp, List.drop_append, List.length_reverse]
    simp
  refine e4 hc hd rfl rfl ?_ rfl ?_
  · simp only [am_g3, ho, hf]
  · simp only [am_g4, ho, hf, h1, h2, hnl, ha, hr, List.reverse_reverse, List.all_reverse, List.length_reverse]
    simp [hnp, hlev, hr8, hn]
theorem e_callT (as : List Value) (hc : am_c m = cc) (hd : decode cc pc = .ok (.invokevirtual ix, 3)) (ho : am_own m = o) (hf : am_call o ix = some (0, j)) (hnp : am_np j = as.length) (hoj : am_own j = 13) (hlev : am_lev j < am_lev m) (hnl : am_nl j = nl) (hn : as.length + 1 ≤ nl) (ha : as.all am_c1 = true) (hr : r.all am_c1 = true) (hr8 : r.length ≤ 8) :
    ev m pc ls (as.reverse ++ .ref 1 :: r) (I, R, K) = (ev j 0 ((Value.ref 1 :: as).map some ++ List.replicate (nl - (as.length + 1)) none) [] (I, R, K)).bind (fun q => ev m (pc + 3) ls (q.1.toList ++ r) q.2) := by
  have e : am_ent j (.ref 1 :: as) = (Value.ref 1 :: as).map some ++ List.replicate (nl - (as.length + 1)) none := by
    unfold am_ent; rw [hnl]; rfl
  rw [← e]
  refine e4 hc hd rfl rfl rfl rfl ?_
  have h1 : (List.take (am_np j + 1) (as.reverse ++ Value.ref 1 :: r)).reverse = Value.ref 1 :: as := by
    rw [hnp, List.take_append, List.length_reverse]
    simp [List.take_of_length_le]
  have h2 : List.drop (am_np j + 1) (as.reverse ++ Value.ref 1 :: r) = r := by
    rw [hnp, List.drop_append, List.length_reverse]
    simp
  simp only [am_g4, ho, hf, h1, h2, hoj, hnl, am_is, ha, hr]
  simp [hnp, hlev, hr8, hn]
theorem e_ireti {v : Int32} (hc : am_c m = cc) (hd : decode cc pc = .ok (.ireturn, 1)) (hr : am_rt m = some .int) : ev m pc ls [.int v] (I, R, K) = some (some (.int v), (I, R, K)) := by
  refine e5 hc hd rfl rfl rfl rfl rfl ?_
  simp [am_g5, hr, narrow]
theorem e_iretn {v : Int32} {ty : FieldType} (hc : am_c m = cc) (hd : decode cc pc = .ok (.ireturn, 1)) (hr : am_rt m = some ty) (hn : narrow ty (.int v) = .int v) : ev m pc ls [.int v] (I, R, K) = some (some (.int v), (I, R, K)) := by
  refine e5 hc hd rfl rfl rfl rfl rfl ?_
  simp [am_g5, hr, hn]
theorem e_aretR {C : String} (hc : am_c m = cc) (hd : decode cc pc = .ok (.areturn, 1)) (hr : am_rt m = some (.object C)) : ev m pc ls [.ref a] (I, R, K) = some (some (.ref a), (I, R, K)) := by
  refine e5 hc hd rfl rfl rfl rfl rfl ?_
  simp [am_g5, hr]
theorem e_aretN {C : String} (hc : am_c m = cc) (hd : decode cc pc = .ok (.areturn, 1)) (hr : am_rt m = some (.object C)) : ev m pc ls [.null] (I, R, K) = some (some .null, (I, R, K)) := by
  refine e5 hc hd rfl rfl rfl rfl rfl ?_
  simp [am_g5, hr]
theorem e_vret (hc : am_c m = cc) (hd : decode cc pc = .ok (.return_, 1)) (hr : am_rt m = none) : ev m pc ls [] (I, R, K) = some (none, (I, R, K)) := by
  refine e5 hc hd rfl rfl rfl rfl rfl ?_
  simp [am_g5, hr]
theorem e_newa {t : ArrayType} {tg : Nat} (ht : (t = .int ∧ tg = 20) ∨ (t = .boolean ∧ tg = 21) ∨ (t = .char ∧ tg = 22)) (hc : am_c m = cc) (hd : decode cc pc = .ok (.newarray t, 2)) (h0 : ¬ i < 0) (h1 : i.toNatClampNeg ≤ 10000) (h : am_tag K.2.1 = tg) : ev m pc ls (.int i :: r) (I, R, K) = ev m (pc + 2) ls (.ref K.2.1 :: r) (am_mk (I, R, K) i.toNatClampNeg i.toNatClampNeg) := by
  rcases ht with ⟨rfl, rfl⟩ | ⟨rfl, rfl⟩ | ⟨rfl, rfl⟩
  all_goals
    refine e6 hc hd rfl rfl rfl ?_
    simp only [am_g6, h0, h1, h]
    simp
theorem e_newq {ci tg : Nat} (ht : (ci = 3 ∧ tg = 23) ∨ (ci = 7 ∧ tg = 24)) (hc : am_c m = cc) (hd : decode cc pc = .ok (.anewarray ix, 3)) (ho : am_own m = o) (hf : am_anew o ix = some ci) (h0 : ¬ i < 0) (h1 : i.toNatClampNeg ≤ 10000) (h : am_tag K.2.1 = tg) : ev m pc ls (.int i :: r) (I, R, K) = ev m (pc + 3) ls (.ref K.2.1 :: r) (am_mk (I, R, K) i.toNatClampNeg i.toNatClampNeg) := by
  rcases ht with ⟨rfl, rfl⟩ | ⟨rfl, rfl⟩
  all_goals
    refine e6 hc hd rfl rfl rfl ?_
    simp only [am_g6, ho, hf, h0, h1, h]
    simp
end EC
end
