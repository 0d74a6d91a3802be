-- ===== PART A: goes FIRST, ahead of the names: the tables' words, and 'selects' of the private methods out of them =====
/-- a private method of a class that the tables say can be made, by its rows of tables_1 -/
def lw_okq (q : MethodName × Nat) : Prop := (q.1.cls ≠ "java/lang/invoke/MethodHandle" ∧ q.1.cls ≠ "java/lang/invoke/VarHandle") ∧ Cond.instantiable q.1.cls q.2 ∈ tables_1 ∧ Cond.privateMethod q.1 ∈ tables_1 ∧ Cond.instanceMethod q.1 ∈ tables_1
theorem lw_p0 : lw_okq (⟨"CodeProbes$Code", "take", "(LCodeProbes$Text;II)V"⟩, 3) := ⟨⟨by decide +kernel, by decide +kernel⟩, List.mem_of_getElem? (i := 48) (by decide +kernel), List.mem_of_getElem? (i := 324) (by decide +kernel), List.mem_of_getElem? (i := 325) (by decide +kernel)⟩
theorem lw_p1 : lw_okq (⟨"CodeProbes$Code", "firstAstray", "()I"⟩, 3) := ⟨⟨by decide +kernel, by decide +kernel⟩, List.mem_of_getElem? (i := 48) (by decide +kernel), List.mem_of_getElem? (i := 329) (by decide +kernel), List.mem_of_getElem? (i := 330) (by decide +kernel)⟩
theorem lw_p2 : lw_okq (⟨"CodeProbes$Stack", "put", "(I)Z"⟩, 2) := ⟨⟨by decide +kernel, by decide +kernel⟩, List.mem_of_getElem? (i := 228) (by decide +kernel), List.mem_of_getElem? (i := 514) (by decide +kernel), List.mem_of_getElem? (i := 515) (by decide +kernel)⟩
theorem lw_p3 : lw_okq (⟨"CodeProbes$Stack", "turnTop", "()Z"⟩, 2) := ⟨⟨by decide +kernel, by decide +kernel⟩, List.mem_of_getElem? (i := 228) (by decide +kernel), List.mem_of_getElem? (i := 518) (by decide +kernel), List.mem_of_getElem? (i := 519) (by decide +kernel)⟩
theorem lw_p4 : lw_okq (⟨"CodeProbes$Stack", "join", "(C)Z"⟩, 2) := ⟨⟨by decide +kernel, by decide +kernel⟩, List.mem_of_getElem? (i := 228) (by decide +kernel), List.mem_of_getElem? (i := 522) (by decide +kernel), List.mem_of_getElem? (i := 523) (by decide +kernel)⟩
theorem lw_p5 : lw_okq (⟨"CodeProbes", "stepWithProbes", "(LCodeProbes$Processor;)V"⟩, 8) := ⟨⟨by decide +kernel, by decide +kernel⟩, List.mem_of_getElem? (i := 19) (by decide +kernel), List.mem_of_getElem? (i := 561) (by decide +kernel), List.mem_of_getElem? (i := 562) (by decide +kernel)⟩
theorem lw_p6 : lw_okq (⟨"CodeProbes", "comeBy", "(LCodeProbes$Processor;LCodeProbes$Probe;)V"⟩, 8) := ⟨⟨by decide +kernel, by decide +kernel⟩, List.mem_of_getElem? (i := 19) (by decide +kernel), List.mem_of_getElem? (i := 570) (by decide +kernel), List.mem_of_getElem? (i := 571) (by decide +kernel)⟩
theorem lw_p7 : lw_okq (⟨"CodeProbes", "hit", "(LCodeProbes$Processor;LCodeProbes$Probe;)V"⟩, 8) := ⟨⟨by decide +kernel, by decide +kernel⟩, List.mem_of_getElem? (i := 19) (by decide +kernel), List.mem_of_getElem? (i := 574) (by decide +kernel), List.mem_of_getElem? (i := 575) (by decide +kernel)⟩
theorem lw_p8 : lw_okq (⟨"CodeProbes$Ring", "loseOldest", "()V"⟩, 5) := ⟨⟨by decide +kernel, by decide +kernel⟩, List.mem_of_getElem? (i := 92) (by decide +kernel), List.mem_of_getElem? (i := 582) (by decide +kernel), List.mem_of_getElem? (i := 583) (by decide +kernel)⟩
theorem lw_p9 : lw_okq (⟨"CodeProbes$Processor", "reckon", "(CILCodeProbes$Memory;)V"⟩, 8) := ⟨⟨by decide +kernel, by decide +kernel⟩, List.mem_of_getElem? (i := 86) (by decide +kernel), List.mem_of_getElem? (i := 602) (by decide +kernel), List.mem_of_getElem? (i := 603) (by decide +kernel)⟩
theorem lw_p10 : lw_okq (⟨"CodeProbes$Processor", "goingOn", "(CI)I"⟩, 8) := ⟨⟨by decide +kernel, by decide +kernel⟩, List.mem_of_getElem? (i := 86) (by decide +kernel), List.mem_of_getElem? (i := 611) (by decide +kernel), List.mem_of_getElem? (i := 612) (by decide +kernel)⟩
theorem lw_p11 : lw_okq (⟨"CodeProbes$Processor", "called", "(II)I"⟩, 8) := ⟨⟨by decide +kernel, by decide +kernel⟩, List.mem_of_getElem? (i := 86) (by decide +kernel), List.mem_of_getElem? (i := 616) (by decide +kernel), List.mem_of_getElem? (i := 617) (by decide +kernel)⟩
theorem lw_p12 : lw_okq (⟨"CodeProbes$Processor", "returned", "()I"⟩, 8) := ⟨⟨by decide +kernel, by decide +kernel⟩, List.mem_of_getElem? (i := 86) (by decide +kernel), List.mem_of_getElem? (i := 620) (by decide +kernel), List.mem_of_getElem? (i := 621) (by decide +kernel)⟩
theorem lw_p13 : lw_okq (⟨"CodeProbes", "leave", "(LCodeProbes$Processor;LCodeProbes$Probe;)V"⟩, 8) := ⟨⟨by decide +kernel, by decide +kernel⟩, List.mem_of_getElem? (i := 19) (by decide +kernel), List.mem_of_getElem? (i := 625) (by decide +kernel), List.mem_of_getElem? (i := 626) (by decide +kernel)⟩
theorem lw_p14 : lw_okq (⟨"CodeProbesModel", "one", "(II)V"⟩, 12) := ⟨⟨by decide +kernel, by decide +kernel⟩, List.mem_of_getElem? (i := 712) (by decide +kernel), List.mem_of_getElem? (i := 718) (by decide +kernel), List.mem_of_getElem? (i := 719) (by decide +kernel)⟩
theorem lw_p15 : lw_okq (⟨"CodeProbesModel", "none", "(I)V"⟩, 12) := ⟨⟨by decide +kernel, by decide +kernel⟩, List.mem_of_getElem? (i := 712) (by decide +kernel), List.mem_of_getElem? (i := 722) (by decide +kernel), List.mem_of_getElem? (i := 723) (by decide +kernel)⟩
def lw_privs_1 : List (MethodName × Nat) := [(⟨"CodeProbes$Code", "take", "(LCodeProbes$Text;II)V"⟩, 3), (⟨"CodeProbes$Code", "firstAstray", "()I"⟩, 3), (⟨"CodeProbes$Stack", "put", "(I)Z"⟩, 2), (⟨"CodeProbes$Stack", "turnTop", "()Z"⟩, 2), (⟨"CodeProbes$Stack", "join", "(C)Z"⟩, 2), (⟨"CodeProbes", "stepWithProbes", "(LCodeProbes$Processor;)V"⟩, 8), (⟨"CodeProbes", "comeBy", "(LCodeProbes$Processor;LCodeProbes$Probe;)V"⟩, 8), (⟨"CodeProbes", "hit", "(LCodeProbes$Processor;LCodeProbes$Probe;)V"⟩, 8), (⟨"CodeProbes$Ring", "loseOldest", "()V"⟩, 5), (⟨"CodeProbes$Processor", "reckon", "(CILCodeProbes$Memory;)V"⟩, 8), (⟨"CodeProbes$Processor", "goingOn", "(CI)I"⟩, 8), (⟨"CodeProbes$Processor", "called", "(II)I"⟩, 8), (⟨"CodeProbes$Processor", "returned", "()I"⟩, 8), (⟨"CodeProbes", "leave", "(LCodeProbes$Processor;LCodeProbes$Probe;)V"⟩, 8), (⟨"CodeProbesModel", "one", "(II)V"⟩, 12), (⟨"CodeProbesModel", "none", "(I)V"⟩, 12)]
theorem lw_r1 : ∀ q ∈ lw_privs_1, lw_okq q := List.forall_mem_cons.mpr ⟨lw_p0, List.forall_mem_cons.mpr ⟨lw_p1, List.forall_mem_cons.mpr ⟨lw_p2, List.forall_mem_cons.mpr ⟨lw_p3, List.forall_mem_cons.mpr ⟨lw_p4, List.forall_mem_cons.mpr ⟨lw_p5, List.forall_mem_cons.mpr ⟨lw_p6, List.forall_mem_cons.mpr ⟨lw_p7, List.forall_mem_cons.mpr ⟨lw_p8, List.forall_mem_cons.mpr ⟨lw_p9, List.forall_mem_cons.mpr ⟨lw_p10, List.forall_mem_cons.mpr ⟨lw_p11, List.forall_mem_cons.mpr ⟨lw_p12, List.forall_mem_cons.mpr ⟨lw_p13, List.forall_mem_cons.mpr ⟨lw_p14, List.forall_mem_cons.mpr ⟨lw_p15, fun _ h => absurd h List.not_mem_nil⟩⟩⟩⟩⟩⟩⟩⟩⟩⟩⟩⟩⟩⟩⟩⟩
theorem lw_p16 : lw_okq (⟨"CodeProbesModel", "two", "(II)V"⟩, 12) := ⟨⟨by decide +kernel, by decide +kernel⟩, List.mem_of_getElem? (i := 712) (by decide +kernel), List.mem_of_getElem? (i := 726) (by decide +kernel), List.mem_of_getElem? (i := 727) (by decide +kernel)⟩
theorem lw_p17 : lw_okq (⟨"CodeProbesModel", "empties", "()V"⟩, 12) := ⟨⟨by decide +kernel, by decide +kernel⟩, List.mem_of_getElem? (i := 712) (by decide +kernel), List.mem_of_getElem? (i := 730) (by decide +kernel), List.mem_of_getElem? (i := 731) (by decide +kernel)⟩
theorem lw_p18 : lw_okq (⟨"CodeProbesModel", "reads", "()I"⟩, 12) := ⟨⟨by decide +kernel, by decide +kernel⟩, List.mem_of_getElem? (i := 712) (by decide +kernel), List.mem_of_getElem? (i := 783) (by decide +kernel), List.mem_of_getElem? (i := 784) (by decide +kernel)⟩
theorem lw_p19 : lw_okq (⟨"CodeProbesModel", "wideAt", "(I)I"⟩, 12) := ⟨⟨by decide +kernel, by decide +kernel⟩, List.mem_of_getElem? (i := 712) (by decide +kernel), List.mem_of_getElem? (i := 787) (by decide +kernel), List.mem_of_getElem? (i := 788) (by decide +kernel)⟩
theorem lw_p20 : lw_okq (⟨"CodeProbesModel", "isFigure", "(II)Z"⟩, 12) := ⟨⟨by decide +kernel, by decide +kernel⟩, List.mem_of_getElem? (i := 712) (by decide +kernel), List.mem_of_getElem? (i := 791) (by decide +kernel), List.mem_of_getElem? (i := 792) (by decide +kernel)⟩
theorem lw_p21 : lw_okq (⟨"CodeProbesModel", "asks", "([IIII)I"⟩, 12) := ⟨⟨by decide +kernel, by decide +kernel⟩, List.mem_of_getElem? (i := 712) (by decide +kernel), List.mem_of_getElem? (i := 806) (by decide +kernel), List.mem_of_getElem? (i := 807) (by decide +kernel)⟩
theorem lw_p22 : lw_okq (⟨"CodeProbesModel", "comes", "(I)Z"⟩, 12) := ⟨⟨by decide +kernel, by decide +kernel⟩, List.mem_of_getElem? (i := 712) (by decide +kernel), List.mem_of_getElem? (i := 810) (by decide +kernel), List.mem_of_getElem? (i := 811) (by decide +kernel)⟩
theorem lw_p23 : lw_okq (⟨"CodeProbesModel", "takes", "(I)Z"⟩, 12) := ⟨⟨by decide +kernel, by decide +kernel⟩, List.mem_of_getElem? (i := 712) (by decide +kernel), List.mem_of_getElem? (i := 814) (by decide +kernel), List.mem_of_getElem? (i := 815) (by decide +kernel)⟩
theorem lw_p24 : lw_okq (⟨"CodeProbesModel", "isCell", "(I)Z"⟩, 12) := ⟨⟨by decide +kernel, by decide +kernel⟩, List.mem_of_getElem? (i := 712) (by decide +kernel), List.mem_of_getElem? (i := 829) (by decide +kernel), List.mem_of_getElem? (i := 830) (by decide +kernel)⟩
theorem lw_p25 : lw_okq (⟨"CodeProbesModel", "probeOn", "(I)I"⟩, 12) := ⟨⟨by decide +kernel, by decide +kernel⟩, List.mem_of_getElem? (i := 712) (by decide +kernel), List.mem_of_getElem? (i := 833) (by decide +kernel), List.mem_of_getElem? (i := 834) (by decide +kernel)⟩
theorem lw_p26 : lw_okq (⟨"CodeProbesModel", "manyThat", "(I)I"⟩, 12) := ⟨⟨by decide +kernel, by decide +kernel⟩, List.mem_of_getElem? (i := 712) (by decide +kernel), List.mem_of_getElem? (i := 840) (by decide +kernel), List.mem_of_getElem? (i := 841) (by decide +kernel)⟩
theorem lw_p27 : lw_okq (⟨"CodeProbesModel", "keeps", "()V"⟩, 12) := ⟨⟨by decide +kernel, by decide +kernel⟩, List.mem_of_getElem? (i := 712) (by decide +kernel), List.mem_of_getElem? (i := 844) (by decide +kernel), List.mem_of_getElem? (i := 845) (by decide +kernel)⟩
theorem lw_p28 : lw_okq (⟨"CodeProbesModel", "isProbe", "(I)Z"⟩, 12) := ⟨⟨by decide +kernel, by decide +kernel⟩, List.mem_of_getElem? (i := 712) (by decide +kernel), List.mem_of_getElem? (i := 852) (by decide +kernel), List.mem_of_getElem? (i := 853) (by decide +kernel)⟩
theorem lw_p29 : lw_okq (⟨"CodeProbesModel", "does", "(I)Z"⟩, 12) := ⟨⟨by decide +kernel, by decide +kernel⟩, List.mem_of_getElem? (i := 712) (by decide +kernel), List.mem_of_getElem? (i := 874) (by decide +kernel), List.mem_of_getElem? (i := 875) (by decide +kernel)⟩
theorem lw_p30 : lw_okq (⟨"CodeProbesModel", "isBegin", "(I)Z"⟩, 12) := ⟨⟨by decide +kernel, by decide +kernel⟩, List.mem_of_getElem? (i := 712) (by decide +kernel), List.mem_of_getElem? (i := 878) (by decide +kernel), List.mem_of_getElem? (i := 879) (by decide +kernel)⟩
theorem lw_p31 : lw_okq (⟨"CodeProbesModel", "meets", "(II)V"⟩, 12) := ⟨⟨by decide +kernel, by decide +kernel⟩, List.mem_of_getElem? (i := 712) (by decide +kernel), List.mem_of_getElem? (i := 882) (by decide +kernel), List.mem_of_getElem? (i := 883) (by decide +kernel)⟩
def lw_privs_2 : List (MethodName × Nat) := [(⟨"CodeProbesModel", "two", "(II)V"⟩, 12), (⟨"CodeProbesModel", "empties", "()V"⟩, 12), (⟨"CodeProbesModel", "reads", "()I"⟩, 12), (⟨"CodeProbesModel", "wideAt", "(I)I"⟩, 12), (⟨"CodeProbesModel", "isFigure", "(II)Z"⟩, 12), (⟨"CodeProbesModel", "asks", "([IIII)I"⟩, 12), (⟨"CodeProbesModel", "comes", "(I)Z"⟩, 12), (⟨"CodeProbesModel", "takes", "(I)Z"⟩, 12), (⟨"CodeProbesModel", "isCell", "(I)Z"⟩, 12), (⟨"CodeProbesModel", "probeOn", "(I)I"⟩, 12), (⟨"CodeProbesModel", "manyThat", "(I)I"⟩, 12), (⟨"CodeProbesModel", "keeps", "()V"⟩, 12), (⟨"CodeProbesModel", "isProbe", "(I)Z"⟩, 12), (⟨"CodeProbesModel", "does", "(I)Z"⟩, 12), (⟨"CodeProbesModel", "isBegin", "(I)Z"⟩, 12), (⟨"CodeProbesModel", "meets", "(II)V"⟩, 12)]
theorem lw_r2 : ∀ q ∈ lw_privs_2, lw_okq q := List.forall_mem_cons.mpr ⟨lw_p16, List.forall_mem_cons.mpr ⟨lw_p17, List.forall_mem_cons.mpr ⟨lw_p18, List.forall_mem_cons.mpr ⟨lw_p19, List.forall_mem_cons.mpr ⟨lw_p20, List.forall_mem_cons.mpr ⟨lw_p21, List.forall_mem_cons.mpr ⟨lw_p22, List.forall_mem_cons.mpr ⟨lw_p23, List.forall_mem_cons.mpr ⟨lw_p24, List.forall_mem_cons.mpr ⟨lw_p25, List.forall_mem_cons.mpr ⟨lw_p26, List.forall_mem_cons.mpr ⟨lw_p27, List.forall_mem_cons.mpr ⟨lw_p28, List.forall_mem_cons.mpr ⟨lw_p29, List.forall_mem_cons.mpr ⟨lw_p30, List.forall_mem_cons.mpr ⟨lw_p31, fun _ h => absurd h List.not_mem_nil⟩⟩⟩⟩⟩⟩⟩⟩⟩⟩⟩⟩⟩⟩⟩⟩
theorem lw_p32 : lw_okq (⟨"CodeProbesModel", "hits", "(II)V"⟩, 12) := ⟨⟨by decide +kernel, by decide +kernel⟩, List.mem_of_getElem? (i := 712) (by decide +kernel), List.mem_of_getElem? (i := 886) (by decide +kernel), List.mem_of_getElem? (i := 887) (by decide +kernel)⟩
theorem lw_p33 : lw_okq (⟨"CodeProbesModel", "goes", "([II)Z"⟩, 12) := ⟨⟨by decide +kernel, by decide +kernel⟩, List.mem_of_getElem? (i := 712) (by decide +kernel), List.mem_of_getElem? (i := 890) (by decide +kernel), List.mem_of_getElem? (i := 891) (by decide +kernel)⟩
theorem lw_p34 : lw_okq (⟨"CodeProbesModel", "turns", "([III)I"⟩, 12) := ⟨⟨by decide +kernel, by decide +kernel⟩, List.mem_of_getElem? (i := 712) (by decide +kernel), List.mem_of_getElem? (i := 894) (by decide +kernel), List.mem_of_getElem? (i := 895) (by decide +kernel)⟩
theorem lw_p35 : lw_okq (⟨"CodeProbesModel", "plain", "([III)I"⟩, 12) := ⟨⟨by decide +kernel, by decide +kernel⟩, List.mem_of_getElem? (i := 712) (by decide +kernel), List.mem_of_getElem? (i := 901) (by decide +kernel), List.mem_of_getElem? (i := 902) (by decide +kernel)⟩
theorem lw_p36 : lw_okq (⟨"CodeProbesModel", "frees", "(I)V"⟩, 12) := ⟨⟨by decide +kernel, by decide +kernel⟩, List.mem_of_getElem? (i := 712) (by decide +kernel), List.mem_of_getElem? (i := 905) (by decide +kernel), List.mem_of_getElem? (i := 906) (by decide +kernel)⟩
theorem lw_p37 : lw_okq (⟨"CodeProbesModel", "heldInAll", "()I"⟩, 12) := ⟨⟨by decide +kernel, by decide +kernel⟩, List.mem_of_getElem? (i := 712) (by decide +kernel), List.mem_of_getElem? (i := 949) (by decide +kernel), List.mem_of_getElem? (i := 950) (by decide +kernel)⟩
def lw_privs_3 : List (MethodName × Nat) := [(⟨"CodeProbesModel", "hits", "(II)V"⟩, 12), (⟨"CodeProbesModel", "goes", "([II)Z"⟩, 12), (⟨"CodeProbesModel", "turns", "([III)I"⟩, 12), (⟨"CodeProbesModel", "plain", "([III)I"⟩, 12), (⟨"CodeProbesModel", "frees", "(I)V"⟩, 12), (⟨"CodeProbesModel", "heldInAll", "()I"⟩, 12)]
theorem lw_r3 : ∀ q ∈ lw_privs_3, lw_okq q := List.forall_mem_cons.mpr ⟨lw_p32, List.forall_mem_cons.mpr ⟨lw_p33, List.forall_mem_cons.mpr ⟨lw_p34, List.forall_mem_cons.mpr ⟨lw_p35, List.forall_mem_cons.mpr ⟨lw_p36, List.forall_mem_cons.mpr ⟨lw_p37, fun _ h => absurd h List.not_mem_nil⟩⟩⟩⟩⟩⟩
def lw_privs : List (MethodName × Nat) := lw_privs_1 ++ (lw_privs_2 ++ (lw_privs_3))
def lw_tbl : List Cond := k2_sels lw_privs ++ tables_1
theorem lw_privs_ok : ∀ q ∈ lw_privs, lw_okq q := by
  show ∀ q ∈ lw_privs_1 ++ (lw_privs_2 ++ (lw_privs_3)), lw_okq q
  exact List.forall_mem_append.mpr ⟨lw_r1, List.forall_mem_append.mpr ⟨lw_r2, lw_r3⟩⟩
/-! names: printed by the task, cut to what is used here -/
def RX0 : String := "CodeProbes$Code"
def TX0 : u_T := fun k => match k with
  | 0 => ("CodeProbes$Code", "cells", "LCodeProbes$Text;", true)
  | 1 => ("CodeProbes$Code", "begins", "[Z", true)
  | _ => ("CodeProbes$Code", "instructions", "I", false)
def tyX0 : Nat → FieldType := fun k => match k with
  | 0 => .object "CodeProbes$Text"
  | 1 => .array .boolean
  | _ => .int
abbrev wsX00 : List Cond := u_ws RX0 TX0 3
theorem nmX0 : ∀ a, a < 3 → ∀ b, b < 3 → a ≠ b → (TX0 a).2.1 ≠ (TX0 b).2.1 := by decide +kernel
theorem tyX0_ok : ∀ k, k < 3 → parseFieldDescriptor (TX0 k).2.2.1 = some (tyX0 k) := by decide +kernel
abbrev cX0_init : ByteArray := prog_2_method_1_code
def yX0_init : MethodName := ⟨RX0, "<init>", "()V"⟩
abbrev cX0_readFrom : ByteArray := prog_2_method_2_code
def yX0_readFrom : MethodName := ⟨RX0, "readFrom", "(LCodeProbes$Text;)I"⟩
abbrev cX0_take : ByteArray := prog_2_method_3_code
def yX0_take : MethodName := ⟨RX0, "take", "(LCodeProbes$Text;II)V"⟩
abbrev cX0_firstAstray : ByteArray := prog_2_method_4_code
def yX0_firstAstray : MethodName := ⟨RX0, "firstAstray", "()I"⟩
abbrev cX0_widthAt : ByteArray := prog_2_method_5_code
def yX0_widthAt : MethodName := ⟨RX0, "widthAt", "(LCodeProbes$Text;I)I"⟩
abbrev cX0_has : ByteArray := prog_2_method_6_code
def yX0_has : MethodName := ⟨RX0, "has", "(I)Z"⟩
abbrev cX0_beginsAt : ByteArray := prog_2_method_7_code
def yX0_beginsAt : MethodName := ⟨RX0, "beginsAt", "(I)Z"⟩
abbrev cX0_letterAt : ByteArray := prog_2_method_8_code
def yX0_letterAt : MethodName := ⟨RX0, "letterAt", "(I)C"⟩
abbrev cX0_numberAt : ByteArray := prog_2_method_9_code
def yX0_numberAt : MethodName := ⟨RX0, "numberAt", "(I)I"⟩
def RX1 : String := "CodeProbes$History"
def TX1 : u_T := fun k => match k with
  | 0 => ("CodeProbes$History", "kept", "[LCodeProbes$State;", true)
  | 1 => ("CodeProbes$History", "latest", "I", false)
  | _ => ("CodeProbes$History", "size", "I", false)
def tyX1 : Nat → FieldType := fun k => match k with
  | 0 => .array (.object "CodeProbes$State")
  | 1 => .int
  | _ => .int
abbrev wsX10 : List Cond := u_ws RX1 TX1 3
theorem nmX1 : ∀ a, a < 3 → ∀ b, b < 3 → a ≠ b → (TX1 a).2.1 ≠ (TX1 b).2.1 := by decide +kernel
theorem tyX1_ok : ∀ k, k < 3 → parseFieldDescriptor (TX1 k).2.2.1 = some (tyX1 k) := by decide +kernel
abbrev cX1_init : ByteArray := prog_3_method_1_code
def yX1_init : MethodName := ⟨RX1, "<init>", "()V"⟩
abbrev cX1_keep : ByteArray := prog_3_method_2_code
def yX1_keep : MethodName := ⟨RX1, "keep", "(LCodeProbes$State;)V"⟩
abbrev cX1_giveBack : ByteArray := prog_3_method_3_code
def yX1_giveBack : MethodName := ⟨RX1, "giveBack", "(LCodeProbes$State;)V"⟩
abbrev cX1_clear : ByteArray := prog_3_method_4_code
def yX1_clear : MethodName := ⟨RX1, "clear", "()V"⟩
def RX2 : String := "CodeProbes$Memory"
def TX2 : u_T := fun k => match k with
  | _ => ("CodeProbes$Memory", "numbers", "[I", true)
def tyX2 : Nat → FieldType := fun k => match k with
  | _ => .array .int
abbrev wsX20 : List Cond := u_ws RX2 TX2 1
theorem nmX2 : ∀ a, a < 1 → ∀ b, b < 1 → a ≠ b → (TX2 a).2.1 ≠ (TX2 b).2.1 := by decide +kernel
theorem tyX2_ok : ∀ k, k < 1 → parseFieldDescriptor (TX2 k).2.2.1 = some (tyX2 k) := by decide +kernel
abbrev cX2_init : ByteArray := prog_4_method_1_code
def yX2_init : MethodName := ⟨RX2, "<init>", "()V"⟩
abbrev cX2_has : ByteArray := prog_4_method_2_code
def yX2_has : MethodName := ⟨RX2, "has", "(I)Z"⟩
abbrev cX2_get : ByteArray := prog_4_method_3_code
def yX2_get : MethodName := ⟨RX2, "get", "(I)I"⟩
abbrev cX2_put : ByteArray := prog_4_method_4_code
def yX2_put : MethodName := ⟨RX2, "put", "(II)V"⟩
abbrev cX2_together : ByteArray := prog_4_method_5_code
def yX2_together : MethodName := ⟨RX2, "together", "()I"⟩
abbrev cX2_clear : ByteArray := prog_4_method_6_code
def yX2_clear : MethodName := ⟨RX2, "clear", "()V"⟩
abbrev cX2_copyFrom : ByteArray := prog_4_method_7_code
def yX2_copyFrom : MethodName := ⟨RX2, "copyFrom", "(LCodeProbes$Memory;)V"⟩
def RX3 : String := "CodeProbes$Probe"
def TX3 : u_T := fun k => match k with
  | 0 => ("CodeProbes$Probe", "number", "I", true)
  | 1 => ("CodeProbes$Probe", "is", "I", false)
  | 2 => ("CodeProbes$Probe", "kind", "I", false)
  | 3 => ("CodeProbes$Probe", "cell", "I", false)
  | 4 => ("CodeProbes$Probe", "hits", "I", false)
  | 5 => ("CodeProbes$Probe", "filtered", "I", false)
  | 6 => ("CodeProbes$Probe", "missed", "I", false)
  | 7 => ("CodeProbes$Probe", "holds", "I", false)
  | _ => ("CodeProbes$Probe", "filter", "LCodeProbes$Text;", false)
def tyX3 : Nat → FieldType := fun k => match k with
  | 0 => .int
  | 1 => .int
  | 2 => .int
  | 3 => .int
  | 4 => .int
  | 5 => .int
  | 6 => .int
  | 7 => .int
  | _ => .object "CodeProbes$Text"
abbrev wsX30 : List Cond := u_ws RX3 TX3 9
theorem nmX3 : ∀ a, a < 9 → ∀ b, b < 9 → a ≠ b → (TX3 a).2.1 ≠ (TX3 b).2.1 := by decide +kernel
theorem tyX3_ok : ∀ k, k < 9 → parseFieldDescriptor (TX3 k).2.2.1 = some (tyX3 k) := by decide +kernel
abbrev cX3_init : ByteArray := prog_5_method_1_code
def yX3_init : MethodName := ⟨RX3, "<init>", "(I)V"⟩
abbrev cX3_layOn : ByteArray := prog_5_method_2_code
def yX3_layOn : MethodName := ⟨RX3, "layOn", "(II)V"⟩
abbrev cX3_goIfNobodyIsInside : ByteArray := prog_5_method_3_code
def yX3_goIfNobodyIsInside : MethodName := ⟨RX3, "goIfNobodyIsInside", "()V"⟩
abbrev cX3_tell : ByteArray := prog_5_method_4_code
def yX3_tell : MethodName := ⟨RX3, "tell", "(I)I"⟩
abbrev cX3_copyFrom : ByteArray := prog_5_method_5_code
def yX3_copyFrom : MethodName := ⟨RX3, "copyFrom", "(LCodeProbes$Probe;)V"⟩
def RX4 : String := "CodeProbes$Processor"
def TX4 : u_T := fun k => match k with
  | 0 => ("CodeProbes$Processor", "backs", "[I", true)
  | 1 => ("CodeProbes$Processor", "holders", "[I", true)
  | 2 => ("CodeProbes$Processor", "ring", "LCodeProbes$Ring;", true)
  | 3 => ("CodeProbes$Processor", "depth", "I", false)
  | 4 => ("CodeProbes$Processor", "cell", "I", false)
  | 5 => ("CodeProbes$Processor", "acc", "I", false)
  | 6 => ("CodeProbes$Processor", "halted", "Z", false)
  | _ => ("CodeProbes$Processor", "steps", "I", false)
def tyX4 : Nat → FieldType := fun k => match k with
  | 0 => .array .int
  | 1 => .array .int
  | 2 => .object "CodeProbes$Ring"
  | 3 => .int
  | 4 => .int
  | 5 => .int
  | 6 => .boolean
  | _ => .int
abbrev wsX40 : List Cond := u_ws RX4 TX4 8
theorem nmX4 : ∀ a, a < 8 → ∀ b, b < 8 → a ≠ b → (TX4 a).2.1 ≠ (TX4 b).2.1 := by decide +kernel
theorem tyX4_ok : ∀ k, k < 8 → parseFieldDescriptor (TX4 k).2.2.1 = some (tyX4 k) := by decide +kernel
abbrev cX4_init : ByteArray := prog_6_method_1_code
def yX4_init : MethodName := ⟨RX4, "<init>", "()V"⟩
abbrev cX4_isAtInstruction : ByteArray := prog_6_method_2_code
def yX4_isAtInstruction : MethodName := ⟨RX4, "isAtInstruction", "(LCodeProbes$Code;)Z"⟩
abbrev cX4_perform : ByteArray := prog_6_method_3_code
def yX4_perform : MethodName := ⟨RX4, "perform", "(LCodeProbes$Code;LCodeProbes$Memory;)V"⟩
abbrev cX4_reckon : ByteArray := prog_6_method_4_code
def yX4_reckon : MethodName := ⟨RX4, "reckon", "(CILCodeProbes$Memory;)V"⟩
abbrev cX4_goingOn : ByteArray := prog_6_method_5_code
def yX4_goingOn : MethodName := ⟨RX4, "goingOn", "(CI)I"⟩
abbrev cX4_called : ByteArray := prog_6_method_6_code
def yX4_called : MethodName := ⟨RX4, "called", "(II)I"⟩
abbrev cX4_returned : ByteArray := prog_6_method_7_code
def yX4_returned : MethodName := ⟨RX4, "returned", "()I"⟩
abbrev cX4_returnAt : ByteArray := prog_6_method_8_code
def yX4_returnAt : MethodName := ⟨RX4, "returnAt", "(I)I"⟩
abbrev cX4_holderAt : ByteArray := prog_6_method_9_code
def yX4_holderAt : MethodName := ⟨RX4, "holderAt", "(I)I"⟩
abbrev cX4_topHolder : ByteArray := prog_6_method_10_code
def yX4_topHolder : MethodName := ⟨RX4, "topHolder", "()I"⟩
abbrev cX4_holdTop : ByteArray := prog_6_method_11_code
def yX4_holdTop : MethodName := ⟨RX4, "holdTop", "(I)Z"⟩
abbrev cX4_goTo : ByteArray := prog_6_method_12_code
def yX4_goTo : MethodName := ⟨RX4, "goTo", "(II)V"⟩
abbrev cX4_tell : ByteArray := prog_6_method_13_code
def yX4_tell : MethodName := ⟨RX4, "tell", "(I)I"⟩
abbrev cX4_clear : ByteArray := prog_6_method_14_code
def yX4_clear : MethodName := ⟨RX4, "clear", "()V"⟩
abbrev cX4_copyFrom : ByteArray := prog_6_method_15_code
def yX4_copyFrom : MethodName := ⟨RX4, "copyFrom", "(LCodeProbes$Processor;)V"⟩
def RX5 : String := "CodeProbes$Ring"
def TX5 : u_T := fun k => match k with
  | 0 => ("CodeProbes$Ring", "probes", "[I", true)
  | 1 => ("CodeProbes$Ring", "accs", "[I", true)
  | 2 => ("CodeProbes$Ring", "steps", "[I", true)
  | 3 => ("CodeProbes$Ring", "size", "I", false)
  | _ => ("CodeProbes$Ring", "lost", "I", false)
def tyX5 : Nat → FieldType := fun k => match k with
  | 0 => .array .int
  | 1 => .array .int
  | 2 => .array .int
  | 3 => .int
  | _ => .int
abbrev wsX50 : List Cond := u_ws RX5 TX5 5
theorem nmX5 : ∀ a, a < 5 → ∀ b, b < 5 → a ≠ b → (TX5 a).2.1 ≠ (TX5 b).2.1 := by decide +kernel
theorem tyX5_ok : ∀ k, k < 5 → parseFieldDescriptor (TX5 k).2.2.1 = some (tyX5 k) := by decide +kernel
abbrev cX5_init : ByteArray := prog_7_method_1_code
def yX5_init : MethodName := ⟨RX5, "<init>", "()V"⟩
abbrev cX5_enter : ByteArray := prog_7_method_2_code
def yX5_enter : MethodName := ⟨RX5, "enter", "(III)V"⟩
abbrev cX5_loseOldest : ByteArray := prog_7_method_3_code
def yX5_loseOldest : MethodName := ⟨RX5, "loseOldest", "()V"⟩
abbrev cX5_tell : ByteArray := prog_7_method_4_code
def yX5_tell : MethodName := ⟨RX5, "tell", "(II)I"⟩
abbrev cX5_clear : ByteArray := prog_7_method_5_code
def yX5_clear : MethodName := ⟨RX5, "clear", "()V"⟩
abbrev cX5_copyFrom : ByteArray := prog_7_method_6_code
def yX5_copyFrom : MethodName := ⟨RX5, "copyFrom", "(LCodeProbes$Ring;)V"⟩
def RX6 : String := "CodeProbes$Stack"
def TX6 : u_T := fun k => match k with
  | 0 => ("CodeProbes$Stack", "numbers", "[I", true)
  | _ => ("CodeProbes$Stack", "height", "I", false)
def tyX6 : Nat → FieldType := fun k => match k with
  | 0 => .array .int
  | _ => .int
abbrev wsX60 : List Cond := u_ws RX6 TX6 2
theorem nmX6 : ∀ a, a < 2 → ∀ b, b < 2 → a ≠ b → (TX6 a).2.1 ≠ (TX6 b).2.1 := by decide +kernel
theorem tyX6_ok : ∀ k, k < 2 → parseFieldDescriptor (TX6 k).2.2.1 = some (tyX6 k) := by decide +kernel
abbrev cX6_init : ByteArray := prog_8_method_1_code
def yX6_init : MethodName := ⟨RX6, "<init>", "()V"⟩
abbrev cX6_ask : ByteArray := prog_8_method_2_code
def yX6_ask : MethodName := ⟨RX6, "ask", "(LCodeProbes$Text;ILCodeProbes$Memory;)I"⟩
abbrev cX6_put : ByteArray := prog_8_method_3_code
def yX6_put : MethodName := ⟨RX6, "put", "(I)Z"⟩
abbrev cX6_turnTop : ByteArray := prog_8_method_4_code
def yX6_turnTop : MethodName := ⟨RX6, "turnTop", "()Z"⟩
abbrev cX6_join : ByteArray := prog_8_method_5_code
def yX6_join : MethodName := ⟨RX6, "join", "(C)Z"⟩
abbrev cX6_joined : ByteArray := prog_8_method_6_code
def yX6_joined : MethodName := ⟨RX6, "joined", "(CII)I"⟩
def RX7 : String := "CodeProbes$State"
def TX7 : u_T := fun k => match k with
  | 0 => ("CodeProbes$State", "memory", "LCodeProbes$Memory;", true)
  | 1 => ("CodeProbes$State", "first", "LCodeProbes$Processor;", true)
  | 2 => ("CodeProbes$State", "second", "LCodeProbes$Processor;", true)
  | _ => ("CodeProbes$State", "probes", "[LCodeProbes$Probe;", true)
def tyX7 : Nat → FieldType := fun k => match k with
  | 0 => .object "CodeProbes$Memory"
  | 1 => .object "CodeProbes$Processor"
  | 2 => .object "CodeProbes$Processor"
  | _ => .array (.object "CodeProbes$Probe")
abbrev wsX70 : List Cond := u_ws RX7 TX7 4
theorem nmX7 : ∀ a, a < 4 → ∀ b, b < 4 → a ≠ b → (TX7 a).2.1 ≠ (TX7 b).2.1 := by decide +kernel
theorem tyX7_ok : ∀ k, k < 4 → parseFieldDescriptor (TX7 k).2.2.1 = some (tyX7 k) := by decide +kernel
abbrev cX7_init : ByteArray := prog_9_method_1_code
def yX7_init : MethodName := ⟨RX7, "<init>", "()V"⟩
abbrev cX7_processorOrNull : ByteArray := prog_9_method_2_code
def yX7_processorOrNull : MethodName := ⟨RX7, "processorOrNull", "(I)LCodeProbes$Processor;"⟩
abbrev cX7_probeOrNull : ByteArray := prog_9_method_3_code
def yX7_probeOrNull : MethodName := ⟨RX7, "probeOrNull", "(I)LCodeProbes$Probe;"⟩
abbrev cX7_probeNotGone : ByteArray := prog_9_method_4_code
def yX7_probeNotGone : MethodName := ⟨RX7, "probeNotGone", "(I)LCodeProbes$Probe;"⟩
abbrev cX7_probeOn : ByteArray := prog_9_method_5_code
def yX7_probeOn : MethodName := ⟨RX7, "probeOn", "(I)LCodeProbes$Probe;"⟩
abbrev cX7_probeIsOnAt : ByteArray := prog_9_method_6_code
def yX7_probeIsOnAt : MethodName := ⟨RX7, "probeIsOnAt", "(I)Z"⟩
abbrev cX7_lowestGone : ByteArray := prog_9_method_7_code
def yX7_lowestGone : MethodName := ⟨RX7, "lowestGone", "()LCodeProbes$Probe;"⟩
abbrev cX7_howManyAre : ByteArray := prog_9_method_8_code
def yX7_howManyAre : MethodName := ⟨RX7, "howManyAre", "(I)I"⟩
abbrev cX7_howManyHeld : ByteArray := prog_9_method_9_code
def yX7_howManyHeld : MethodName := ⟨RX7, "howManyHeld", "()I"⟩
abbrev cX7_letGoReturns : ByteArray := prog_9_method_10_code
def yX7_letGoReturns : MethodName := ⟨RX7, "letGoReturns", "(LCodeProbes$Processor;)I"⟩
abbrev cX7_clear : ByteArray := prog_9_method_11_code
def yX7_clear : MethodName := ⟨RX7, "clear", "()V"⟩
abbrev cX7_copyFrom : ByteArray := prog_9_method_12_code
def yX7_copyFrom : MethodName := ⟨RX7, "copyFrom", "(LCodeProbes$State;)V"⟩
def RX8 : String := "CodeProbes$Text"
def TX8 : u_T := fun k => match k with
  | 0 => ("CodeProbes$Text", "letters", "[C", true)
  | _ => ("CodeProbes$Text", "length", "I", false)
def tyX8 : Nat → FieldType := fun k => match k with
  | 0 => .array .char
  | _ => .int
abbrev wsX80 : List Cond := u_ws RX8 TX8 2
theorem nmX8 : ∀ a, a < 2 → ∀ b, b < 2 → a ≠ b → (TX8 a).2.1 ≠ (TX8 b).2.1 := by decide +kernel
theorem tyX8_ok : ∀ k, k < 2 → parseFieldDescriptor (TX8 k).2.2.1 = some (tyX8 k) := by decide +kernel
abbrev cX8_init : ByteArray := prog_10_method_1_code
def yX8_init : MethodName := ⟨RX8, "<init>", "(I)V"⟩
abbrev cX8_add : ByteArray := prog_10_method_2_code
def yX8_add : MethodName := ⟨RX8, "add", "(C)Z"⟩
abbrev cX8_clear : ByteArray := prog_10_method_3_code
def yX8_clear : MethodName := ⟨RX8, "clear", "()V"⟩
abbrev cX8_at : ByteArray := prog_10_method_4_code
def yX8_at : MethodName := ⟨RX8, "at", "(I)C"⟩
abbrev cX8_figureAt : ByteArray := prog_10_method_5_code
def yX8_figureAt : MethodName := ⟨RX8, "figureAt", "(I)I"⟩
abbrev cX8_copy : ByteArray := prog_10_method_6_code
def yX8_copy : MethodName := ⟨RX8, "copy", "()LCodeProbes$Text;"⟩
def RX9 : String := "CodeProbes"
def TX9 : u_T := fun k => match k with
  | 0 => ("CodeProbes", "text", "LCodeProbes$Text;", true)
  | 1 => ("CodeProbes", "laid", "LCodeProbes$Code;", true)
  | 2 => ("CodeProbes", "draft", "LCodeProbes$Code;", true)
  | 3 => ("CodeProbes", "now", "LCodeProbes$State;", true)
  | 4 => ("CodeProbes", "history", "LCodeProbes$History;", true)
  | 5 => ("CodeProbes", "stack", "LCodeProbes$Stack;", true)
  | 6 => ("CodeProbes", "everProcessor", "LCodeProbes$Processor;", true)
  | _ => ("CodeProbes", "everMemory", "LCodeProbes$Memory;", true)
def tyX9 : Nat → FieldType := fun k => match k with
  | 0 => .object "CodeProbes$Text"
  | 1 => .object "CodeProbes$Code"
  | 2 => .object "CodeProbes$Code"
  | 3 => .object "CodeProbes$State"
  | 4 => .object "CodeProbes$History"
  | 5 => .object "CodeProbes$Stack"
  | 6 => .object "CodeProbes$Processor"
  | _ => .object "CodeProbes$Memory"
abbrev wsX90 : List Cond := u_ws RX9 TX9 8
theorem nmX9 : ∀ a, a < 8 → ∀ b, b < 8 → a ≠ b → (TX9 a).2.1 ≠ (TX9 b).2.1 := by decide +kernel
theorem tyX9_ok : ∀ k, k < 8 → parseFieldDescriptor (TX9 k).2.2.1 = some (tyX9 k) := by decide +kernel
abbrev cX9_init : ByteArray := prog_1_method_1_code
def yX9_init : MethodName := ⟨RX9, "<init>", "()V"⟩
abbrev cX9_write : ByteArray := prog_1_method_2_code
def yX9_write : MethodName := ⟨RX9, "write", "(I)I"⟩
abbrev cX9_wipe : ByteArray := prog_1_method_3_code
def yX9_wipe : MethodName := ⟨RX9, "wipe", "()I"⟩
abbrev cX9_fault : ByteArray := prog_1_method_4_code
def yX9_fault : MethodName := ⟨RX9, "fault", "()I"⟩
abbrev cX9_lay : ByteArray := prog_1_method_5_code
def yX9_lay : MethodName := ⟨RX9, "lay", "()I"⟩
abbrev cX9_probe : ByteArray := prog_1_method_6_code
def yX9_probe : MethodName := ⟨RX9, "probe", "(II)I"⟩
abbrev cX9_turn : ByteArray := prog_1_method_7_code
def yX9_turn : MethodName := ⟨RX9, "turn", "(II)I"⟩
abbrev cX9_remove : ByteArray := prog_1_method_8_code
def yX9_remove : MethodName := ⟨RX9, "remove", "(I)I"⟩
abbrev cX9_filter : ByteArray := prog_1_method_9_code
def yX9_filter : MethodName := ⟨RX9, "filter", "(I)I"⟩
abbrev cX9_start : ByteArray := prog_1_method_10_code
def yX9_start : MethodName := ⟨RX9, "start", "(III)I"⟩
abbrev cX9_step : ByteArray := prog_1_method_11_code
def yX9_step : MethodName := ⟨RX9, "step", "(II)I"⟩
abbrev cX9_poke : ByteArray := prog_1_method_12_code
def yX9_poke : MethodName := ⟨RX9, "poke", "(II)I"⟩
abbrev cX9_undo : ByteArray := prog_1_method_13_code
def yX9_undo : MethodName := ⟨RX9, "undo", "()I"⟩
abbrev cX9_code : ByteArray := prog_1_method_14_code
def yX9_code : MethodName := ⟨RX9, "code", "(II)I"⟩
abbrev cX9_memory : ByteArray := prog_1_method_15_code
def yX9_memory : MethodName := ⟨RX9, "memory", "(I)I"⟩
abbrev cX9_processor : ByteArray := prog_1_method_16_code
def yX9_processor : MethodName := ⟨RX9, "processor", "(II)I"⟩
abbrev cX9_returns : ByteArray := prog_1_method_17_code
def yX9_returns : MethodName := ⟨RX9, "returns", "(III)I"⟩
abbrev cX9_ring : ByteArray := prog_1_method_18_code
def yX9_ring : MethodName := ⟨RX9, "ring", "(III)I"⟩
abbrev cX9_look : ByteArray := prog_1_method_19_code
def yX9_look : MethodName := ⟨RX9, "look", "(II)I"⟩
abbrev cX9_asked : ByteArray := prog_1_method_20_code
def yX9_asked : MethodName := ⟨RX9, "asked", "(I)I"⟩
abbrev cX9_ever : ByteArray := prog_1_method_21_code
def yX9_ever : MethodName := ⟨RX9, "ever", "(III)I"⟩
abbrev cX9_count : ByteArray := prog_1_method_22_code
def yX9_count : MethodName := ⟨RX9, "count", "(I)I"⟩
abbrev cX9_stepWithProbes : ByteArray := prog_1_method_23_code
def yX9_stepWithProbes : MethodName := ⟨RX9, "stepWithProbes", "(LCodeProbes$Processor;)V"⟩
abbrev cX9_comeBy : ByteArray := prog_1_method_24_code
def yX9_comeBy : MethodName := ⟨RX9, "comeBy", "(LCodeProbes$Processor;LCodeProbes$Probe;)V"⟩
abbrev cX9_leave : ByteArray := prog_1_method_25_code
def yX9_leave : MethodName := ⟨RX9, "leave", "(LCodeProbes$Processor;LCodeProbes$Probe;)V"⟩
abbrev cX9_hit : ByteArray := prog_1_method_26_code
def yX9_hit : MethodName := ⟨RX9, "hit", "(LCodeProbes$Processor;LCodeProbes$Probe;)V"⟩
abbrev cX9_within : ByteArray := prog_1_method_27_code
def yX9_within : MethodName := ⟨RX9, "within", "(III)Z"⟩
abbrev cX9_isNumber : ByteArray := prog_1_method_28_code
def yX9_isNumber : MethodName := ⟨RX9, "isNumber", "(I)Z"⟩
abbrev cX9_widthOf : ByteArray := prog_1_method_29_code
def yX9_widthOf : MethodName := ⟨RX9, "widthOf", "(C)I"⟩
def RX10 : String := "CodeProbesModel"
def TX10 : u_T := fun k => match k with
  | 0 => ("CodeProbesModel", "length", "I", false)
  | 1 => ("CodeProbesModel", "text", "[I", true)
  | 2 => ("CodeProbesModel", "cells", "I", false)
  | 3 => ("CodeProbesModel", "code", "[I", true)
  | 4 => ("CodeProbesModel", "begins", "[Z", true)
  | 5 => ("CodeProbesModel", "now", "[I", true)
  | 6 => ("CodeProbesModel", "aside", "[I", true)
  | 7 => ("CodeProbesModel", "was", "[I", true)
  | 8 => ("CodeProbesModel", "changes", "I", false)
  | 9 => ("CodeProbesModel", "readBegins", "[Z", true)
  | 10 => ("CodeProbesModel", "stack", "[I", true)
  | _ => ("CodeProbesModel", "deep", "I", false)
def tyX10 : Nat → FieldType := fun k => match k with
  | 0 => .int
  | 1 => .array .int
  | 2 => .int
  | 3 => .array .int
  | 4 => .array .boolean
  | 5 => .array .int
  | 6 => .array .int
  | 7 => .array .int
  | 8 => .int
  | 9 => .array .boolean
  | 10 => .array .int
  | _ => .int
abbrev wsX100 : List Cond := u_ws RX10 TX10 12
theorem nmX10 : ∀ a, a < 12 → ∀ b, b < 12 → a ≠ b → (TX10 a).2.1 ≠ (TX10 b).2.1 := by decide +kernel
theorem tyX10_ok : ∀ k, k < 12 → parseFieldDescriptor (TX10 k).2.2.1 = some (tyX10 k) := by decide +kernel
abbrev cX10_init : ByteArray := prog_12_method_1_code
def yX10_init : MethodName := ⟨RX10, "<init>", "()V"⟩
abbrev cX10_none : ByteArray := prog_12_method_2_code
def yX10_none : MethodName := ⟨RX10, "none", "(I)V"⟩
abbrev cX10_one : ByteArray := prog_12_method_3_code
def yX10_one : MethodName := ⟨RX10, "one", "(II)V"⟩
abbrev cX10_two : ByteArray := prog_12_method_4_code
def yX10_two : MethodName := ⟨RX10, "two", "(II)V"⟩
abbrev cX10_empties : ByteArray := prog_12_method_5_code
def yX10_empties : MethodName := ⟨RX10, "empties", "()V"⟩
abbrev cX10_isIn : ByteArray := prog_12_method_6_code
def yX10_isIn : MethodName := ⟨RX10, "isIn", "(III)Z"⟩
abbrev cX10_isFigure : ByteArray := prog_12_method_7_code
def yX10_isFigure : MethodName := ⟨RX10, "isFigure", "(II)Z"⟩
abbrev cX10_wideAt : ByteArray := prog_12_method_8_code
def yX10_wideAt : MethodName := ⟨RX10, "wideAt", "(I)I"⟩
abbrev cX10_reads : ByteArray := prog_12_method_9_code
def yX10_reads : MethodName := ⟨RX10, "reads", "()I"⟩
abbrev cX10_write : ByteArray := prog_12_method_10_code
def yX10_write : MethodName := ⟨RX10, "write", "(I)I"⟩
abbrev cX10_wipe : ByteArray := prog_12_method_11_code
def yX10_wipe : MethodName := ⟨RX10, "wipe", "()I"⟩
abbrev cX10_fault : ByteArray := prog_12_method_12_code
def yX10_fault : MethodName := ⟨RX10, "fault", "()I"⟩
abbrev cX10_lay : ByteArray := prog_12_method_13_code
def yX10_lay : MethodName := ⟨RX10, "lay", "()I"⟩
abbrev cX10_both : ByteArray := prog_12_method_14_code
def yX10_both : MethodName := ⟨RX10, "both", "(III)I"⟩
abbrev cX10_comes : ByteArray := prog_12_method_15_code
def yX10_comes : MethodName := ⟨RX10, "comes", "(I)Z"⟩
abbrev cX10_takes : ByteArray := prog_12_method_16_code
def yX10_takes : MethodName := ⟨RX10, "takes", "(I)Z"⟩
abbrev cX10_asks : ByteArray := prog_12_method_17_code
def yX10_asks : MethodName := ⟨RX10, "asks", "([IIII)I"⟩
abbrev cX10_asked : ByteArray := prog_12_method_18_code
def yX10_asked : MethodName := ⟨RX10, "asked", "(I)I"⟩
abbrev cX10_keeps : ByteArray := prog_12_method_19_code
def yX10_keeps : MethodName := ⟨RX10, "keeps", "()V"⟩
abbrev cX10_undo : ByteArray := prog_12_method_20_code
def yX10_undo : MethodName := ⟨RX10, "undo", "()I"⟩
abbrev cX10_processorAt : ByteArray := prog_12_method_21_code
def yX10_processorAt : MethodName := ⟨RX10, "processorAt", "(I)I"⟩
abbrev cX10_probeAt : ByteArray := prog_12_method_22_code
def yX10_probeAt : MethodName := ⟨RX10, "probeAt", "(I)I"⟩
abbrev cX10_isCell : ByteArray := prog_12_method_23_code
def yX10_isCell : MethodName := ⟨RX10, "isCell", "(I)Z"⟩
abbrev cX10_isBegin : ByteArray := prog_12_method_24_code
def yX10_isBegin : MethodName := ⟨RX10, "isBegin", "(I)Z"⟩
abbrev cX10_isProbe : ByteArray := prog_12_method_25_code
def yX10_isProbe : MethodName := ⟨RX10, "isProbe", "(I)Z"⟩
abbrev cX10_probeOn : ByteArray := prog_12_method_26_code
def yX10_probeOn : MethodName := ⟨RX10, "probeOn", "(I)I"⟩
abbrev cX10_manyThat : ByteArray := prog_12_method_27_code
def yX10_manyThat : MethodName := ⟨RX10, "manyThat", "(I)I"⟩
abbrev cX10_probe : ByteArray := prog_12_method_28_code
def yX10_probe : MethodName := ⟨RX10, "probe", "(II)I"⟩
abbrev cX10_turn : ByteArray := prog_12_method_29_code
def yX10_turn : MethodName := ⟨RX10, "turn", "(II)I"⟩
abbrev cX10_remove : ByteArray := prog_12_method_30_code
def yX10_remove : MethodName := ⟨RX10, "remove", "(I)I"⟩
abbrev cX10_filter : ByteArray := prog_12_method_31_code
def yX10_filter : MethodName := ⟨RX10, "filter", "(I)I"⟩
abbrev cX10_hits : ByteArray := prog_12_method_32_code
def yX10_hits : MethodName := ⟨RX10, "hits", "(II)V"⟩
abbrev cX10_frees : ByteArray := prog_12_method_33_code
def yX10_frees : MethodName := ⟨RX10, "frees", "(I)V"⟩
abbrev cX10_meets : ByteArray := prog_12_method_34_code
def yX10_meets : MethodName := ⟨RX10, "meets", "(II)V"⟩
abbrev cX10_figures : ByteArray := prog_12_method_35_code
def yX10_figures : MethodName := ⟨RX10, "figures", "([II)I"⟩
abbrev cX10_plain : ByteArray := prog_12_method_36_code
def yX10_plain : MethodName := ⟨RX10, "plain", "([III)I"⟩
abbrev cX10_turns : ByteArray := prog_12_method_37_code
def yX10_turns : MethodName := ⟨RX10, "turns", "([III)I"⟩
abbrev cX10_goes : ByteArray := prog_12_method_38_code
def yX10_goes : MethodName := ⟨RX10, "goes", "([II)Z"⟩
abbrev cX10_does : ByteArray := prog_12_method_39_code
def yX10_does : MethodName := ⟨RX10, "does", "(I)Z"⟩
abbrev cX10_isProcessor : ByteArray := prog_12_method_40_code
def yX10_isProcessor : MethodName := ⟨RX10, "isProcessor", "(I)Z"⟩
abbrev cX10_step : ByteArray := prog_12_method_41_code
def yX10_step : MethodName := ⟨RX10, "step", "(II)I"⟩
abbrev cX10_start : ByteArray := prog_12_method_42_code
def yX10_start : MethodName := ⟨RX10, "start", "(III)I"⟩
abbrev cX10_poke : ByteArray := prog_12_method_43_code
def yX10_poke : MethodName := ⟨RX10, "poke", "(II)I"⟩
abbrev cX10_code : ByteArray := prog_12_method_44_code
def yX10_code : MethodName := ⟨RX10, "code", "(II)I"⟩
abbrev cX10_memory : ByteArray := prog_12_method_45_code
def yX10_memory : MethodName := ⟨RX10, "memory", "(I)I"⟩
abbrev cX10_processor : ByteArray := prog_12_method_46_code
def yX10_processor : MethodName := ⟨RX10, "processor", "(II)I"⟩
abbrev cX10_returns : ByteArray := prog_12_method_47_code
def yX10_returns : MethodName := ⟨RX10, "returns", "(III)I"⟩
abbrev cX10_ring : ByteArray := prog_12_method_48_code
def yX10_ring : MethodName := ⟨RX10, "ring", "(III)I"⟩
abbrev cX10_look : ByteArray := prog_12_method_49_code
def yX10_look : MethodName := ⟨RX10, "look", "(II)I"⟩
abbrev cX10_ever : ByteArray := prog_12_method_50_code
def yX10_ever : MethodName := ⟨RX10, "ever", "(III)I"⟩
abbrev cX10_heldInAll : ByteArray := prog_12_method_51_code
def yX10_heldInAll : MethodName := ⟨RX10, "heldInAll", "()I"⟩
abbrev cX10_count : ByteArray := prog_12_method_52_code
def yX10_count : MethodName := ⟨RX10, "count", "(I)I"⟩
def RJ9 : String := "java/lang/Math"
abbrev cJ9_floorMod_7cf53 : ByteArray := prog_13_method_50_code
def yJ9_floorMod_7cf53 : MethodName := ⟨RJ9, "floorMod", "(II)I"⟩
abbrev cJ9_max_7cf53 : ByteArray := prog_13_method_65_code
def yJ9_max_7cf53 : MethodName := ⟨RJ9, "max", "(II)I"⟩
abbrev cJ9_min_7cf53 : ByteArray := prog_13_method_69_code
def yJ9_min_7cf53 : MethodName := ⟨RJ9, "min", "(II)I"⟩
def RJ0 : String := "java/lang/String"
abbrev cJ0_length_8abf5 : ByteArray := prog_14_method_54_code
def yJ0_length_8abf5 : MethodName := ⟨RJ0, "length", "()I"⟩
abbrev cJ0_charAt_5068e : ByteArray := prog_14_method_56_code
def yJ0_charAt_5068e : MethodName := ⟨RJ0, "charAt", "(I)C"⟩
abbrev cJ0_coder_7d493 : ByteArray := prog_14_method_152_code
def yJ0_coder_7d493 : MethodName := ⟨RJ0, "coder", "()B"⟩
abbrev cJ0_isLatin1_aae02 : ByteArray := prog_14_method_154_code
def yJ0_isLatin1_aae02 : MethodName := ⟨RJ0, "isLatin1", "()Z"⟩
abbrev cJ0_checkIndex_df160 : ByteArray := prog_14_method_155_code
def yJ0_checkIndex_df160 : MethodName := ⟨RJ0, "checkIndex", "(II)V"⟩
def RJ1 : String := "java/lang/StringLatin1"
abbrev cJ1_charAt_3b067 : ByteArray := prog_15_method_2_code
def yJ1_charAt_3b067 : MethodName := ⟨RJ1, "charAt", "([BI)C"⟩
def RJ2 : String := "java/lang/StringUTF16"
def RJ10 : String := "java/lang/System"
def RJ3 : String := "jdk/internal/util/Preconditions"
abbrev cJ3_checkIndex_8e157 : ByteArray := prog_18_method_11_code
def yJ3_checkIndex_8e157 : MethodName := ⟨RJ3, "checkIndex", "(IILjava/util/function/BiFunction;)I"⟩
def RL : String := "CodeProbesLaw"
abbrev cL_law : ByteArray := code
def yL_law : MethodName := ⟨RL, "law", "([I)Z"⟩
abbrev vwCl : List vw_C := [(RX0, TX0, 3), (RX1, TX1, 3), (RX2, TX2, 1), (RX3, TX3, 9), (RX4, TX4, 8), (RX5, TX5, 5), (RX6, TX6, 2), (RX7, TX7, 4), (RX8, TX8, 2), (RX9, TX9, 8), (RX10, TX10, 12)]
