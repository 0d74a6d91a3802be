def am_lp : List (List Nat) := [[98, 100, 102], [258, 260, 262], [119], [212, 214, 216, 218, 220, 222, 224, 226, 228], [168, 170, 172, 174, 176, 178, 180, 182], [142, 144, 146, 148, 150], [273, 275], [236, 238, 240, 242], [79, 81], [395, 397, 399, 401, 403, 405, 407, 409], [783, 785, 787, 789, 791, 793, 795, 797, 799, 801, 803, 805]]
/-- the words that hold wherever the tables are warmer -/
def am_gw : List Cond := lw_tbl.filter goodWord
def am_at (i : Nat) (w : Cond) : Bool := decide (lw_tbl[i]? = some w) && goodWord w
theorem am_at_in {i : Nat} {w : Cond} (h : am_at i w = true) : w ∈ am_gw := by
  unfold am_at at h
  rw [Bool.and_eq_true, decide_eq_true_eq] at h
  exact List.mem_filter.mpr ⟨List.mem_of_getElem? h.1, h.2⟩
def am_ws (m : Nat) : List Cond := .code (am_y m) (am_c m) (am_nl m) (am_rt m) :: am_gw
def am_okM (m : Nat) : Bool := decide ((am_row m).2.2.2.2.2.2.2 ≠ 0) && plainFor (am_y m) && decide ((am_y m).cls ≠ "java/lang/invoke/MethodHandle") && decide ((am_y m).cls ≠ "java/lang/invoke/VarHandle") && decide ((parseMethodDescriptor (am_y m).desc).map (fun d => d.parameters.length) = some (am_np m)) && decide ((am_y m).cls = am_cn (am_own m)) && decide (am_nl m ≤ 19)
set_option maxRecDepth 100000 in
theorem am_mc_0 : lw_tbl[89]? = some (.code yX0_init cX0_init 1 none) := rfl
set_option maxRecDepth 100000 in
theorem am_mc_1 : lw_tbl[338]? = some (.code yX0_readFrom cX0_readFrom 4 (some .int)) := rfl
set_option maxRecDepth 100000 in
theorem am_mc_2 : lw_tbl[364]? = some (.code yX0_take cX0_take 5 none) := rfl
set_option maxRecDepth 100000 in
theorem am_mc_3 : lw_tbl[369]? = some (.code yX0_firstAstray cX0_firstAstray 3 (some .int)) := rfl
set_option maxRecDepth 100000 in
theorem am_mc_4 : lw_tbl[345]? = some (.code yX0_widthAt cX0_widthAt 4 (some .int)) := rfl
set_option maxRecDepth 100000 in
theorem am_mc_5 : lw_tbl[377]? = some (.code yX0_has cX0_has 2 (some .boolean)) := rfl
set_option maxRecDepth 100000 in
theorem am_mc_6 : lw_tbl[373]? = some (.code yX0_beginsAt cX0_beginsAt 2 (some .boolean)) := rfl
set_option maxRecDepth 100000 in
theorem am_mc_7 : lw_tbl[381]? = some (.code yX0_letterAt cX0_letterAt 2 (some .char)) := rfl
set_option maxRecDepth 100000 in
theorem am_mc_8 : lw_tbl[385]? = some (.code yX0_numberAt cX0_numberAt 2 (some .int)) := rfl
set_option maxRecDepth 100000 in
theorem am_mc_9 : lw_tbl[249]? = some (.code yX1_init cX1_init 2 none) := rfl
set_option maxRecDepth 100000 in
theorem am_mc_10 : lw_tbl[479]? = some (.code yX1_keep cX1_keep 3 none) := rfl
set_option maxRecDepth 100000 in
theorem am_mc_11 : lw_tbl[680]? = some (.code yX1_giveBack cX1_giveBack 4 none) := rfl
set_option maxRecDepth 100000 in
theorem am_mc_12 : lw_tbl[457]? = some (.code yX1_clear cX1_clear 1 none) := rfl
set_option maxRecDepth 100000 in
theorem am_mc_13 : lw_tbl[116]? = some (.code yX2_init cX2_init 1 none) := rfl
set_option maxRecDepth 100000 in
theorem am_mc_14 : lw_tbl[545]? = some (.code yX2_has cX2_has 2 (some .boolean)) := rfl
set_option maxRecDepth 100000 in
theorem am_mc_15 : lw_tbl[549]? = some (.code yX2_get cX2_get 2 (some .int)) := rfl
set_option maxRecDepth 100000 in
theorem am_mc_16 : lw_tbl[647]? = some (.code yX2_put cX2_put 3 none) := rfl
set_option maxRecDepth 100000 in
theorem am_mc_17 : lw_tbl[740]? = some (.code yX2_together cX2_together 3 (some .int)) := rfl
set_option maxRecDepth 100000 in
theorem am_mc_18 : lw_tbl[437]? = some (.code yX2_clear cX2_clear 2 none) := rfl
set_option maxRecDepth 100000 in
theorem am_mc_19 : lw_tbl[490]? = some (.code yX2_copyFrom cX2_copyFrom 2 none) := rfl
set_option maxRecDepth 100000 in
theorem am_mc_20 : lw_tbl[190]? = some (.code yX3_init cX3_init 2 none) := rfl
set_option maxRecDepth 100000 in
theorem am_mc_21 : lw_tbl[514]? = some (.code yX3_layOn cX3_layOn 3 none) := rfl
set_option maxRecDepth 100000 in
theorem am_mc_22 : lw_tbl[531]? = some (.code yX3_goIfNobodyIsInside cX3_goIfNobodyIsInside 1 none) := rfl
set_option maxRecDepth 100000 in
theorem am_mc_23 : lw_tbl[726]? = some (.code yX3_tell cX3_tell 2 (some .int)) := rfl
set_option maxRecDepth 100000 in
theorem am_mc_24 : lw_tbl[507]? = some (.code yX3_copyFrom cX3_copyFrom 2 none) := rfl
set_option maxRecDepth 100000 in
theorem am_mc_25 : lw_tbl[127]? = some (.code yX4_init cX4_init 1 none) := rfl
set_option maxRecDepth 100000 in
theorem am_mc_26 : lw_tbl[605]? = some (.code yX4_isAtInstruction cX4_isAtInstruction 2 (some .boolean)) := rfl
set_option maxRecDepth 100000 in
theorem am_mcs_0 : ∀ e ∈ am_tab_0, (e.2.2.2.2.2.2.2 = 0 ∨ lw_tbl[e.2.2.2.2.2.2.2]? = some (.code e.1 e.2.1 e.2.2.1 e.2.2.2.1)) := List.forall_mem_cons.mpr ⟨Or.inr am_mc_0, List.forall_mem_cons.mpr ⟨Or.inr am_mc_1, List.forall_mem_cons.mpr ⟨Or.inr am_mc_2, List.forall_mem_cons.mpr ⟨Or.inr am_mc_3, List.forall_mem_cons.mpr ⟨Or.inr am_mc_4, List.forall_mem_cons.mpr ⟨Or.inr am_mc_5, List.forall_mem_cons.mpr ⟨Or.inr am_mc_6, List.forall_mem_cons.mpr ⟨Or.inr am_mc_7, List.forall_mem_cons.mpr ⟨Or.inr am_mc_8, List.forall_mem_cons.mpr ⟨Or.inr am_mc_9, List.forall_mem_cons.mpr ⟨Or.inr am_mc_10, List.forall_mem_cons.mpr ⟨Or.inr am_mc_11, List.forall_mem_cons.mpr ⟨Or.inr am_mc_12, List.forall_mem_cons.mpr ⟨Or.inr am_mc_13, List.forall_mem_cons.mpr ⟨Or.inr am_mc_14, List.forall_mem_cons.mpr ⟨Or.inr am_mc_15, List.forall_mem_cons.mpr ⟨Or.inr am_mc_16, List.forall_mem_cons.mpr ⟨Or.inr am_mc_17, List.forall_mem_cons.mpr ⟨Or.inr am_mc_18, List.forall_mem_cons.mpr ⟨Or.inr am_mc_19, List.forall_mem_cons.mpr ⟨Or.inr am_mc_20, List.forall_mem_cons.mpr ⟨Or.inr am_mc_21, List.forall_mem_cons.mpr ⟨Or.inr am_mc_22, List.forall_mem_cons.mpr ⟨Or.inr am_mc_23, List.forall_mem_cons.mpr ⟨Or.inr am_mc_24, List.forall_mem_cons.mpr ⟨Or.inr am_mc_25, List.forall_mem_cons.mpr ⟨Or.inr am_mc_26, fun _ h => absurd h List.not_mem_nil⟩⟩⟩⟩⟩⟩⟩⟩⟩⟩⟩⟩⟩⟩⟩⟩⟩⟩⟩⟩⟩⟩⟩⟩⟩⟩⟩
set_option maxRecDepth 100000 in
theorem am_mc_27 : lw_tbl[636]? = some (.code yX4_perform cX4_perform 5 none) := rfl
set_option maxRecDepth 100000 in
theorem am_mc_28 : lw_tbl[642]? = some (.code yX4_reckon cX4_reckon 4 none) := rfl
set_option maxRecDepth 100000 in
theorem am_mc_29 : lw_tbl[651]? = some (.code yX4_goingOn cX4_goingOn 4 (some .int)) := rfl
set_option maxRecDepth 100000 in
theorem am_mc_30 : lw_tbl[656]? = some (.code yX4_called cX4_called 3 (some .int)) := rfl
set_option maxRecDepth 100000 in
theorem am_mc_31 : lw_tbl[660]? = some (.code yX4_returned cX4_returned 1 (some .int)) := rfl
set_option maxRecDepth 100000 in
theorem am_mc_32 : lw_tbl[710]? = some (.code yX4_returnAt cX4_returnAt 2 (some .int)) := rfl
set_option maxRecDepth 100000 in
theorem am_mc_33 : lw_tbl[591]? = some (.code yX4_holderAt cX4_holderAt 2 (some .int)) := rfl
set_option maxRecDepth 100000 in
theorem am_mc_34 : lw_tbl[631]? = some (.code yX4_topHolder cX4_topHolder 1 (some .int)) := rfl
set_option maxRecDepth 100000 in
theorem am_mc_35 : lw_tbl[626]? = some (.code yX4_holdTop cX4_holdTop 3 (some .boolean)) := rfl
set_option maxRecDepth 100000 in
theorem am_mc_36 : lw_tbl[445]? = some (.code yX4_goTo cX4_goTo 3 none) := rfl
set_option maxRecDepth 100000 in
theorem am_mc_37 : lw_tbl[701]? = some (.code yX4_tell cX4_tell 2 (some .int)) := rfl
set_option maxRecDepth 100000 in
theorem am_mc_38 : lw_tbl[441]? = some (.code yX4_clear cX4_clear 1 none) := rfl
set_option maxRecDepth 100000 in
theorem am_mc_39 : lw_tbl[497]? = some (.code yX4_copyFrom cX4_copyFrom 2 none) := rfl
set_option maxRecDepth 100000 in
theorem am_mc_40 : lw_tbl[133]? = some (.code yX5_init cX5_init 1 none) := rfl
set_option maxRecDepth 100000 in
theorem am_mc_41 : lw_tbl[618]? = some (.code yX5_enter cX5_enter 4 none) := rfl
set_option maxRecDepth 100000 in
theorem am_mc_42 : lw_tbl[622]? = some (.code yX5_loseOldest cX5_loseOldest 2 none) := rfl
set_option maxRecDepth 100000 in
theorem am_mc_43 : lw_tbl[718]? = some (.code yX5_tell cX5_tell 3 (some .int)) := rfl
set_option maxRecDepth 100000 in
theorem am_mc_44 : lw_tbl[449]? = some (.code yX5_clear cX5_clear 1 none) := rfl
set_option maxRecDepth 100000 in
theorem am_mc_45 : lw_tbl[502]? = some (.code yX5_copyFrom cX5_copyFrom 2 none) := rfl
set_option maxRecDepth 100000 in
theorem am_mc_46 : lw_tbl[269]? = some (.code yX6_init cX6_init 1 none) := rfl
set_option maxRecDepth 100000 in
theorem am_mc_47 : lw_tbl[539]? = some (.code yX6_ask cX6_ask 8 (some .int)) := rfl
set_option maxRecDepth 100000 in
theorem am_mc_48 : lw_tbl[554]? = some (.code yX6_put cX6_put 2 (some .boolean)) := rfl
set_option maxRecDepth 100000 in
theorem am_mc_49 : lw_tbl[558]? = some (.code yX6_turnTop cX6_turnTop 2 (some .boolean)) := rfl
set_option maxRecDepth 100000 in
theorem am_mc_50 : lw_tbl[562]? = some (.code yX6_join cX6_join 4 (some .boolean)) := rfl
set_option maxRecDepth 100000 in
theorem am_mc_51 : lw_tbl[565]? = some (.code yX6_joined cX6_joined 3 (some .int)) := rfl
set_option maxRecDepth 100000 in
theorem am_mc_52 : lw_tbl[110]? = some (.code yX7_init cX7_init 2 none) := rfl
set_option maxRecDepth 100000 in
theorem am_mc_53 : lw_tbl[580]? = some (.code yX7_processorOrNull cX7_processorOrNull 2 (some (.object "CodeProbes$Processor"))) := rfl
set_option maxRecDepth 100000 in
theorem am_mcs_1 : ∀ e ∈ am_tab_1, (e.2.2.2.2.2.2.2 = 0 ∨ lw_tbl[e.2.2.2.2.2.2.2]? = some (.code e.1 e.2.1 e.2.2.1 e.2.2.2.1)) := List.forall_mem_cons.mpr ⟨Or.inr am_mc_27, List.forall_mem_cons.mpr ⟨Or.inr am_mc_28, List.forall_mem_cons.mpr ⟨Or.inr am_mc_29, List.forall_mem_cons.mpr ⟨Or.inr am_mc_30, List.forall_mem_cons.mpr ⟨Or.inr am_mc_31, List.forall_mem_cons.mpr ⟨Or.inr am_mc_32, List.forall_mem_cons.mpr ⟨Or.inr am_mc_33, List.forall_mem_cons.mpr ⟨Or.inr am_mc_34, List.forall_mem_cons.mpr ⟨Or.inr am_mc_35, List.forall_mem_cons.mpr ⟨Or.inr am_mc_36, List.forall_mem_cons.mpr ⟨Or.inr am_mc_37, List.forall_mem_cons.mpr ⟨Or.inr am_mc_38, List.forall_mem_cons.mpr ⟨Or.inr am_mc_39, List.forall_mem_cons.mpr ⟨Or.inr am_mc_40, List.forall_mem_cons.mpr ⟨Or.inr am_mc_41, List.forall_mem_cons.mpr ⟨Or.inr am_mc_42, List.forall_mem_cons.mpr ⟨Or.inr am_mc_43, List.forall_mem_cons.mpr ⟨Or.inr am_mc_44, List.forall_mem_cons.mpr ⟨Or.inr am_mc_45, List.forall_mem_cons.mpr ⟨Or.inr am_mc_46, List.forall_mem_cons.mpr ⟨Or.inr am_mc_47, List.forall_mem_cons.mpr ⟨Or.inr am_mc_48, List.forall_mem_cons.mpr ⟨Or.inr am_mc_49, List.forall_mem_cons.mpr ⟨Or.inr am_mc_50, List.forall_mem_cons.mpr ⟨Or.inr am_mc_51, List.forall_mem_cons.mpr ⟨Or.inr am_mc_52, List.forall_mem_cons.mpr ⟨Or.inr am_mc_53, fun _ h => absurd h List.not_mem_nil⟩⟩⟩⟩⟩⟩⟩⟩⟩⟩⟩⟩⟩⟩⟩⟩⟩⟩⟩⟩⟩⟩⟩⟩⟩⟩⟩
set_option maxRecDepth 100000 in
theorem am_mc_54 : lw_tbl[453]? = some (.code yX7_probeOrNull cX7_probeOrNull 2 (some (.object "CodeProbes$Probe"))) := rfl
set_option maxRecDepth 100000 in
theorem am_mc_55 : lw_tbl[471]? = some (.code yX7_probeNotGone cX7_probeNotGone 3 (some (.object "CodeProbes$Probe"))) := rfl
set_option maxRecDepth 100000 in
theorem am_mc_56 : lw_tbl[467]? = some (.code yX7_probeOn cX7_probeOn 4 (some (.object "CodeProbes$Probe"))) := rfl
set_option maxRecDepth 100000 in
theorem am_mc_57 : lw_tbl[688]? = some (.code yX7_probeIsOnAt cX7_probeIsOnAt 3 (some .boolean)) := rfl
set_option maxRecDepth 100000 in
theorem am_mc_58 : lw_tbl[475]? = some (.code yX7_lowestGone cX7_lowestGone 2 (some (.object "CodeProbes$Probe"))) := rfl
set_option maxRecDepth 100000 in
theorem am_mc_59 : lw_tbl[523]? = some (.code yX7_howManyAre cX7_howManyAre 5 (some .int)) := rfl
set_option maxRecDepth 100000 in
theorem am_mc_60 : lw_tbl[748]? = some (.code yX7_howManyHeld cX7_howManyHeld 4 (some .int)) := rfl
set_option maxRecDepth 100000 in
theorem am_mc_61 : lw_tbl[587]? = some (.code yX7_letGoReturns cX7_letGoReturns 5 (some .int)) := rfl
set_option maxRecDepth 100000 in
theorem am_mc_62 : lw_tbl[433]? = some (.code yX7_clear cX7_clear 3 none) := rfl
set_option maxRecDepth 100000 in
theorem am_mc_63 : lw_tbl[486]? = some (.code yX7_copyFrom cX7_copyFrom 5 none) := rfl
set_option maxRecDepth 100000 in
theorem am_mc_64 : lw_tbl[68]? = some (.code yX8_init cX8_init 2 none) := rfl
set_option maxRecDepth 100000 in
theorem am_mc_65 : lw_tbl[334]? = some (.code yX8_add cX8_add 2 (some .boolean)) := rfl
set_option maxRecDepth 100000 in
theorem am_mc_66 : lw_tbl[342]? = some (.code yX8_clear cX8_clear 1 none) := rfl
set_option maxRecDepth 100000 in
theorem am_mc_67 : lw_tbl[349]? = some (.code yX8_at cX8_at 2 (some .char)) := rfl
set_option maxRecDepth 100000 in
theorem am_mc_68 : lw_tbl[356]? = some (.code yX8_figureAt cX8_figureAt 3 (some .int)) := rfl
set_option maxRecDepth 100000 in
theorem am_mc_69 : lw_tbl[569]? = some (.code yX8_copy cX8_copy 3 (some (.object "CodeProbes$Text"))) := rfl
set_option maxRecDepth 100000 in
theorem am_mc_70 : lw_tbl[60]? = some (.code yX9_init cX9_init 2 none) := rfl
set_option maxRecDepth 100000 in
theorem am_mc_71 : lw_tbl[416]? = some (.code yX9_write cX9_write 2 (some .int)) := rfl
set_option maxRecDepth 100000 in
theorem am_mc_72 : lw_tbl[421]? = some (.code yX9_wipe cX9_wipe 2 (some .int)) := rfl
set_option maxRecDepth 100000 in
theorem am_mc_73 : lw_tbl[425]? = some (.code yX9_fault cX9_fault 1 (some .int)) := rfl
set_option maxRecDepth 100000 in
theorem am_mc_74 : lw_tbl[429]? = some (.code yX9_lay cX9_lay 1 (some .int)) := rfl
set_option maxRecDepth 100000 in
theorem am_mc_75 : lw_tbl[461]? = some (.code yX9_probe cX9_probe 4 (some .int)) := rfl
set_option maxRecDepth 100000 in
theorem am_mc_76 : lw_tbl[518]? = some (.code yX9_turn cX9_turn 5 (some .int)) := rfl
set_option maxRecDepth 100000 in
theorem am_mc_77 : lw_tbl[527]? = some (.code yX9_remove cX9_remove 3 (some .int)) := rfl
set_option maxRecDepth 100000 in
theorem am_mc_78 : lw_tbl[535]? = some (.code yX9_filter cX9_filter 3 (some .int)) := rfl
set_option maxRecDepth 100000 in
theorem am_mc_79 : lw_tbl[576]? = some (.code yX9_start cX9_start 6 (some .int)) := rfl
set_option maxRecDepth 100000 in
theorem am_mc_80 : lw_tbl[597]? = some (.code yX9_step cX9_step 6 (some .int)) := rfl
set_option maxRecDepth 100000 in
theorem am_mcs_2 : ∀ e ∈ am_tab_2, (e.2.2.2.2.2.2.2 = 0 ∨ lw_tbl[e.2.2.2.2.2.2.2]? = some (.code e.1 e.2.1 e.2.2.1 e.2.2.2.1)) := List.forall_mem_cons.mpr ⟨Or.inr am_mc_54, List.forall_mem_cons.mpr ⟨Or.inr am_mc_55, List.forall_mem_cons.mpr ⟨Or.inr am_mc_56, List.forall_mem_cons.mpr ⟨Or.inr am_mc_57, List.forall_mem_cons.mpr ⟨Or.inr am_mc_58, List.forall_mem_cons.mpr ⟨Or.inr am_mc_59, List.forall_mem_cons.mpr ⟨Or.inr am_mc_60, List.forall_mem_cons.mpr ⟨Or.inr am_mc_61, List.forall_mem_cons.mpr ⟨Or.inr am_mc_62, List.forall_mem_cons.mpr ⟨Or.inr am_mc_63, List.forall_mem_cons.mpr ⟨Or.inr am_mc_64, List.forall_mem_cons.mpr ⟨Or.inr am_mc_65, List.forall_mem_cons.mpr ⟨Or.inr am_mc_66, List.forall_mem_cons.mpr ⟨Or.inr am_mc_67, List.forall_mem_cons.mpr ⟨Or.inr am_mc_68, List.forall_mem_cons.mpr ⟨Or.inr am_mc_69, List.forall_mem_cons.mpr ⟨Or.inr am_mc_70, List.forall_mem_cons.mpr ⟨Or.inr am_mc_71, List.forall_mem_cons.mpr ⟨Or.inr am_mc_72, List.forall_mem_cons.mpr ⟨Or.inr am_mc_73, List.forall_mem_cons.mpr ⟨Or.inr am_mc_74, List.forall_mem_cons.mpr ⟨Or.inr am_mc_75, List.forall_mem_cons.mpr ⟨Or.inr am_mc_76, List.forall_mem_cons.mpr ⟨Or.inr am_mc_77, List.forall_mem_cons.mpr ⟨Or.inr am_mc_78, List.forall_mem_cons.mpr ⟨Or.inr am_mc_79, List.forall_mem_cons.mpr ⟨Or.inr am_mc_80, fun _ h => absurd h List.not_mem_nil⟩⟩⟩⟩⟩⟩⟩⟩⟩⟩⟩⟩⟩⟩⟩⟩⟩⟩⟩⟩⟩⟩⟩⟩⟩⟩⟩
set_option maxRecDepth 100000 in
theorem am_mc_81 : lw_tbl[669]? = some (.code yX9_poke cX9_poke 4 (some .int)) := rfl
set_option maxRecDepth 100000 in
theorem am_mc_82 : lw_tbl[676]? = some (.code yX9_undo cX9_undo 1 (some .int)) := rfl
set_option maxRecDepth 100000 in
theorem am_mc_83 : lw_tbl[684]? = some (.code yX9_code cX9_code 4 (some .int)) := rfl
set_option maxRecDepth 100000 in
theorem am_mc_84 : lw_tbl[693]? = some (.code yX9_memory cX9_memory 2 (some .int)) := rfl
set_option maxRecDepth 100000 in
theorem am_mc_85 : lw_tbl[697]? = some (.code yX9_processor cX9_processor 4 (some .int)) := rfl
set_option maxRecDepth 100000 in
theorem am_mc_86 : lw_tbl[705]? = some (.code yX9_returns cX9_returns 6 (some .int)) := rfl
set_option maxRecDepth 100000 in
theorem am_mc_87 : lw_tbl[714]? = some (.code yX9_ring cX9_ring 5 (some .int)) := rfl
set_option maxRecDepth 100000 in
theorem am_mc_88 : lw_tbl[722]? = some (.code yX9_look cX9_look 4 (some .int)) := rfl
set_option maxRecDepth 100000 in
theorem am_mc_89 : lw_tbl[730]? = some (.code yX9_asked cX9_asked 2 (some .int)) := rfl
set_option maxRecDepth 100000 in
theorem am_mc_90 : lw_tbl[734]? = some (.code yX9_ever cX9_ever 6 (some .int)) := rfl
set_option maxRecDepth 100000 in
theorem am_mc_91 : lw_tbl[744]? = some (.code yX9_count cX9_count 2 (some .int)) := rfl
set_option maxRecDepth 100000 in
theorem am_mc_92 : lw_tbl[601]? = some (.code yX9_stepWithProbes cX9_stepWithProbes 5 none) := rfl
set_option maxRecDepth 100000 in
theorem am_mc_93 : lw_tbl[610]? = some (.code yX9_comeBy cX9_comeBy 3 none) := rfl
set_option maxRecDepth 100000 in
theorem am_mc_94 : lw_tbl[665]? = some (.code yX9_leave cX9_leave 3 none) := rfl
set_option maxRecDepth 100000 in
theorem am_mc_95 : lw_tbl[614]? = some (.code yX9_hit cX9_hit 3 none) := rfl
set_option maxRecDepth 100000 in
theorem am_mc_96 : lw_tbl[360]? = some (.code yX9_within cX9_within 3 (some .boolean)) := rfl
set_option maxRecDepth 100000 in
theorem am_mc_97 : lw_tbl[583]? = some (.code yX9_isNumber cX9_isNumber 1 (some .boolean)) := rfl
set_option maxRecDepth 100000 in
theorem am_mc_98 : lw_tbl[352]? = some (.code yX9_widthOf cX9_widthOf 1 (some .int)) := rfl
set_option maxRecDepth 100000 in
theorem am_mc_99 : lw_tbl[753]? = some (.code yX10_init cX10_init 1 none) := rfl
set_option maxRecDepth 100000 in
theorem am_mc_100 : lw_tbl[762]? = some (.code yX10_none cX10_none 2 none) := rfl
set_option maxRecDepth 100000 in
theorem am_mc_101 : lw_tbl[758]? = some (.code yX10_one cX10_one 3 none) := rfl
set_option maxRecDepth 100000 in
theorem am_mc_102 : lw_tbl[766]? = some (.code yX10_two cX10_two 3 none) := rfl
set_option maxRecDepth 100000 in
theorem am_mc_103 : lw_tbl[770]? = some (.code yX10_empties cX10_empties 2 none) := rfl
set_option maxRecDepth 100000 in
theorem am_mc_104 : lw_tbl[834]? = some (.code yX10_isIn cX10_isIn 3 (some .boolean)) := rfl
set_option maxRecDepth 100000 in
theorem am_mc_105 : lw_tbl[831]? = some (.code yX10_isFigure cX10_isFigure 3 (some .boolean)) := rfl
set_option maxRecDepth 100000 in
theorem am_mc_106 : lw_tbl[827]? = some (.code yX10_wideAt cX10_wideAt 2 (some .int)) := rfl
set_option maxRecDepth 100000 in
theorem am_mc_107 : lw_tbl[823]? = some (.code yX10_reads cX10_reads 4 (some .int)) := rfl
set_option maxRecDepth 100000 in
theorem am_mcs_3 : ∀ e ∈ am_tab_3, (e.2.2.2.2.2.2.2 = 0 ∨ lw_tbl[e.2.2.2.2.2.2.2]? = some (.code e.1 e.2.1 e.2.2.1 e.2.2.2.1)) := List.forall_mem_cons.mpr ⟨Or.inr am_mc_81, List.forall_mem_cons.mpr ⟨Or.inr am_mc_82, List.forall_mem_cons.mpr ⟨Or.inr am_mc_83, List.forall_mem_cons.mpr ⟨Or.inr am_mc_84, List.forall_mem_cons.mpr ⟨Or.inr am_mc_85, List.forall_mem_cons.mpr ⟨Or.inr am_mc_86, List.forall_mem_cons.mpr ⟨Or.inr am_mc_87, List.forall_mem_cons.mpr ⟨Or.inr am_mc_88, List.forall_mem_cons.mpr ⟨Or.inr am_mc_89, List.forall_mem_cons.mpr ⟨Or.inr am_mc_90, List.forall_mem_cons.mpr ⟨Or.inr am_mc_91, List.forall_mem_cons.mpr ⟨Or.inr am_mc_92, List.forall_mem_cons.mpr ⟨Or.inr am_mc_93, List.forall_mem_cons.mpr ⟨Or.inr am_mc_94, List.forall_mem_cons.mpr ⟨Or.inr am_mc_95, List.forall_mem_cons.mpr ⟨Or.inr am_mc_96, List.forall_mem_cons.mpr ⟨Or.inr am_mc_97, List.forall_mem_cons.mpr ⟨Or.inr am_mc_98, List.forall_mem_cons.mpr ⟨Or.inr am_mc_99, List.forall_mem_cons.mpr ⟨Or.inr am_mc_100, List.forall_mem_cons.mpr ⟨Or.inr am_mc_101, List.forall_mem_cons.mpr ⟨Or.inr am_mc_102, List.forall_mem_cons.mpr ⟨Or.inr am_mc_103, List.forall_mem_cons.mpr ⟨Or.inr am_mc_104, List.forall_mem_cons.mpr ⟨Or.inr am_mc_105, List.forall_mem_cons.mpr ⟨Or.inr am_mc_106, List.forall_mem_cons.mpr ⟨Or.inr am_mc_107, fun _ h => absurd h List.not_mem_nil⟩⟩⟩⟩⟩⟩⟩⟩⟩⟩⟩⟩⟩⟩⟩⟩⟩⟩⟩⟩⟩⟩⟩⟩⟩⟩⟩
set_option maxRecDepth 100000 in
theorem am_mc_108 : lw_tbl[811]? = some (.code yX10_write cX10_write 2 (some .int)) := rfl
set_option maxRecDepth 100000 in
theorem am_mc_109 : lw_tbl[815]? = some (.code yX10_wipe cX10_wipe 2 (some .int)) := rfl
set_option maxRecDepth 100000 in
theorem am_mc_110 : lw_tbl[819]? = some (.code yX10_fault cX10_fault 1 (some .int)) := rfl
set_option maxRecDepth 100000 in
theorem am_mc_111 : lw_tbl[838]? = some (.code yX10_lay cX10_lay 2 (some .int)) := rfl
set_option maxRecDepth 100000 in
theorem am_mc_112 : lw_tbl[857]? = some (.code yX10_both cX10_both 3 (some .int)) := rfl
set_option maxRecDepth 100000 in
theorem am_mc_113 : lw_tbl[850]? = some (.code yX10_comes cX10_comes 2 (some .boolean)) := rfl
set_option maxRecDepth 100000 in
theorem am_mc_114 : lw_tbl[854]? = some (.code yX10_takes cX10_takes 2 (some .boolean)) := rfl
set_option maxRecDepth 100000 in
theorem am_mc_115 : lw_tbl[846]? = some (.code yX10_asks cX10_asks 8 (some .int)) := rfl
set_option maxRecDepth 100000 in
theorem am_mc_116 : lw_tbl[842]? = some (.code yX10_asked cX10_asked 3 (some .int)) := rfl
set_option maxRecDepth 100000 in
theorem am_mc_117 : lw_tbl[884]? = some (.code yX10_keeps cX10_keeps 2 none) := rfl
set_option maxRecDepth 100000 in
theorem am_mc_118 : lw_tbl[861]? = some (.code yX10_undo cX10_undo 2 (some .int)) := rfl
set_option maxRecDepth 100000 in
theorem am_mc_119 : lw_tbl[910]? = some (.code yX10_processorAt cX10_processorAt 1 (some .int)) := rfl
set_option maxRecDepth 100000 in
theorem am_mc_120 : lw_tbl[876]? = some (.code yX10_probeAt cX10_probeAt 1 (some .int)) := rfl
set_option maxRecDepth 100000 in
theorem am_mc_121 : lw_tbl[869]? = some (.code yX10_isCell cX10_isCell 2 (some .boolean)) := rfl
set_option maxRecDepth 100000 in
theorem am_mc_122 : lw_tbl[918]? = some (.code yX10_isBegin cX10_isBegin 2 (some .boolean)) := rfl
set_option maxRecDepth 100000 in
theorem am_mc_123 : lw_tbl[892]? = some (.code yX10_isProbe cX10_isProbe 2 (some .boolean)) := rfl
set_option maxRecDepth 100000 in
theorem am_mc_124 : lw_tbl[873]? = some (.code yX10_probeOn cX10_probeOn 3 (some .int)) := rfl
set_option maxRecDepth 100000 in
theorem am_mc_125 : lw_tbl[880]? = some (.code yX10_manyThat cX10_manyThat 4 (some .int)) := rfl
set_option maxRecDepth 100000 in
theorem am_mc_126 : lw_tbl[865]? = some (.code yX10_probe cX10_probe 5 (some .int)) := rfl
set_option maxRecDepth 100000 in
theorem am_mc_127 : lw_tbl[888]? = some (.code yX10_turn cX10_turn 4 (some .int)) := rfl
set_option maxRecDepth 100000 in
theorem am_mc_128 : lw_tbl[896]? = some (.code yX10_remove cX10_remove 3 (some .int)) := rfl
set_option maxRecDepth 100000 in
theorem am_mc_129 : lw_tbl[900]? = some (.code yX10_filter cX10_filter 4 (some .int)) := rfl
set_option maxRecDepth 100000 in
theorem am_mc_130 : lw_tbl[926]? = some (.code yX10_hits cX10_hits 7 none) := rfl
set_option maxRecDepth 100000 in
theorem am_mc_131 : lw_tbl[945]? = some (.code yX10_frees cX10_frees 3 none) := rfl
set_option maxRecDepth 100000 in
theorem am_mc_132 : lw_tbl[922]? = some (.code yX10_meets cX10_meets 6 none) := rfl
set_option maxRecDepth 100000 in
theorem am_mc_133 : lw_tbl[937]? = some (.code yX10_figures cX10_figures 2 (some .int)) := rfl
set_option maxRecDepth 100000 in
theorem am_mc_134 : lw_tbl[941]? = some (.code yX10_plain cX10_plain 5 (some .int)) := rfl
set_option maxRecDepth 100000 in
theorem am_mcs_4 : ∀ e ∈ am_tab_4, (e.2.2.2.2.2.2.2 = 0 ∨ lw_tbl[e.2.2.2.2.2.2.2]? = some (.code e.1 e.2.1 e.2.2.1 e.2.2.2.1)) := List.forall_mem_cons.mpr ⟨Or.inr am_mc_108, List.forall_mem_cons.mpr ⟨Or.inr am_mc_109, List.forall_mem_cons.mpr ⟨Or.inr am_mc_110, List.forall_mem_cons.mpr ⟨Or.inr am_mc_111, List.forall_mem_cons.mpr ⟨Or.inr am_mc_112, List.forall_mem_cons.mpr ⟨Or.inr am_mc_113, List.forall_mem_cons.mpr ⟨Or.inr am_mc_114, List.forall_mem_cons.mpr ⟨Or.inr am_mc_115, List.forall_mem_cons.mpr ⟨Or.inr am_mc_116, List.forall_mem_cons.mpr ⟨Or.inr am_mc_117, List.forall_mem_cons.mpr ⟨Or.inr am_mc_118, List.forall_mem_cons.mpr ⟨Or.inr am_mc_119, List.forall_mem_cons.mpr ⟨Or.inr am_mc_120, List.forall_mem_cons.mpr ⟨Or.inr am_mc_121, List.forall_mem_cons.mpr ⟨Or.inr am_mc_122, List.forall_mem_cons.mpr ⟨Or.inr am_mc_123, List.forall_mem_cons.mpr ⟨Or.inr am_mc_124, List.forall_mem_cons.mpr ⟨Or.inr am_mc_125, List.forall_mem_cons.mpr ⟨Or.inr am_mc_126, List.forall_mem_cons.mpr ⟨Or.inr am_mc_127, List.forall_mem_cons.mpr ⟨Or.inr am_mc_128, List.forall_mem_cons.mpr ⟨Or.inr am_mc_129, List.forall_mem_cons.mpr ⟨Or.inr am_mc_130, List.forall_mem_cons.mpr ⟨Or.inr am_mc_131, List.forall_mem_cons.mpr ⟨Or.inr am_mc_132, List.forall_mem_cons.mpr ⟨Or.inr am_mc_133, List.forall_mem_cons.mpr ⟨Or.inr am_mc_134, fun _ h => absurd h List.not_mem_nil⟩⟩⟩⟩⟩⟩⟩⟩⟩⟩⟩⟩⟩⟩⟩⟩⟩⟩⟩⟩⟩⟩⟩⟩⟩⟩⟩
set_option maxRecDepth 100000 in
theorem am_mc_135 : lw_tbl[934]? = some (.code yX10_turns cX10_turns 5 (some .int)) := rfl
set_option maxRecDepth 100000 in
theorem am_mc_136 : lw_tbl[930]? = some (.code yX10_goes cX10_goes 6 (some .boolean)) := rfl
set_option maxRecDepth 100000 in
theorem am_mc_137 : lw_tbl[914]? = some (.code yX10_does cX10_does 7 (some .boolean)) := rfl
set_option maxRecDepth 100000 in
theorem am_mc_138 : lw_tbl[907]? = some (.code yX10_isProcessor cX10_isProcessor 1 (some .boolean)) := rfl
set_option maxRecDepth 100000 in
theorem am_mc_139 : lw_tbl[904]? = some (.code yX10_step cX10_step 5 (some .int)) := rfl
set_option maxRecDepth 100000 in
theorem am_mc_140 : lw_tbl[949]? = some (.code yX10_start cX10_start 7 (some .int)) := rfl
set_option maxRecDepth 100000 in
theorem am_mc_141 : lw_tbl[953]? = some (.code yX10_poke cX10_poke 4 (some .int)) := rfl
set_option maxRecDepth 100000 in
theorem am_mc_142 : lw_tbl[957]? = some (.code yX10_code cX10_code 4 (some .int)) := rfl
set_option maxRecDepth 100000 in
theorem am_mc_143 : lw_tbl[961]? = some (.code yX10_memory cX10_memory 2 (some .int)) := rfl
set_option maxRecDepth 100000 in
theorem am_mc_144 : lw_tbl[965]? = some (.code yX10_processor cX10_processor 4 (some .int)) := rfl
set_option maxRecDepth 100000 in
theorem am_mc_145 : lw_tbl[969]? = some (.code yX10_returns cX10_returns 5 (some .int)) := rfl
set_option maxRecDepth 100000 in
theorem am_mc_146 : lw_tbl[973]? = some (.code yX10_ring cX10_ring 5 (some .int)) := rfl
set_option maxRecDepth 100000 in
theorem am_mc_147 : lw_tbl[977]? = some (.code yX10_look cX10_look 4 (some .int)) := rfl
set_option maxRecDepth 100000 in
theorem am_mc_148 : lw_tbl[981]? = some (.code yX10_ever cX10_ever 7 (some .int)) := rfl
set_option maxRecDepth 100000 in
theorem am_mc_149 : lw_tbl[989]? = some (.code yX10_heldInAll cX10_heldInAll 3 (some .int)) := rfl
set_option maxRecDepth 100000 in
theorem am_mc_150 : lw_tbl[985]? = some (.code yX10_count cX10_count 4 (some .int)) := rfl
set_option maxRecDepth 100000 in
theorem am_mc_151 : lw_tbl[482]? = some (.code yJ9_floorMod_7cf53 cJ9_floorMod_7cf53 3 (some .int)) := rfl
set_option maxRecDepth 100000 in
theorem am_mc_152 : lw_tbl[72]? = some (.code yJ9_max_7cf53 cJ9_max_7cf53 2 (some .int)) := rfl
set_option maxRecDepth 100000 in
theorem am_mc_153 : lw_tbl[510]? = some (.code yJ9_min_7cf53 cJ9_min_7cf53 2 (some .int)) := rfl
set_option maxRecDepth 100000 in
theorem am_mc_154 : lw_tbl[286]? = some (.code yJ0_length_8abf5 cJ0_length_8abf5 1 (some .int)) := rfl
set_option maxRecDepth 100000 in
theorem am_mc_155 : lw_tbl[296]? = some (.code yJ0_charAt_5068e cJ0_charAt_5068e 2 (some .char)) := rfl
set_option maxRecDepth 100000 in
theorem am_mc_156 : lw_tbl[290]? = some (.code yJ0_coder_7d493 cJ0_coder_7d493 1 (some .byte)) := rfl
set_option maxRecDepth 100000 in
theorem am_mc_157 : lw_tbl[300]? = some (.code yJ0_isLatin1_aae02 cJ0_isLatin1_aae02 1 (some .boolean)) := rfl
set_option maxRecDepth 100000 in
theorem am_mc_158 : lw_tbl[306]? = some (.code yJ0_checkIndex_df160 cJ0_checkIndex_df160 2 none) := rfl
set_option maxRecDepth 100000 in
theorem am_mc_159 : lw_tbl[303]? = some (.code yJ1_charAt_3b067 cJ1_charAt_3b067 2 (some .char)) := rfl
set_option maxRecDepth 100000 in
theorem am_mc_160 : lw_tbl[311]? = some (.code yJ3_checkIndex_8e157 cJ3_checkIndex_8e157 3 (some .int)) := rfl
set_option maxRecDepth 100000 in
theorem am_mcs_5 : ∀ e ∈ am_tab_5, (e.2.2.2.2.2.2.2 = 0 ∨ lw_tbl[e.2.2.2.2.2.2.2]? = some (.code e.1 e.2.1 e.2.2.1 e.2.2.2.1)) := List.forall_mem_cons.mpr ⟨Or.inr am_mc_135, List.forall_mem_cons.mpr ⟨Or.inr am_mc_136, List.forall_mem_cons.mpr ⟨Or.inr am_mc_137, List.forall_mem_cons.mpr ⟨Or.inr am_mc_138, List.forall_mem_cons.mpr ⟨Or.inr am_mc_139, List.forall_mem_cons.mpr ⟨Or.inr am_mc_140, List.forall_mem_cons.mpr ⟨Or.inr am_mc_141, List.forall_mem_cons.mpr ⟨Or.inr am_mc_142, List.forall_mem_cons.mpr ⟨Or.inr am_mc_143, List.forall_mem_cons.mpr ⟨Or.inr am_mc_144, List.forall_mem_cons.mpr ⟨Or.inr am_mc_145, List.forall_mem_cons.mpr ⟨Or.inr am_mc_146, List.forall_mem_cons.mpr ⟨Or.inr am_mc_147, List.forall_mem_cons.mpr ⟨Or.inr am_mc_148, List.forall_mem_cons.mpr ⟨Or.inr am_mc_149, List.forall_mem_cons.mpr ⟨Or.inr am_mc_150, List.forall_mem_cons.mpr ⟨Or.inr am_mc_151, List.forall_mem_cons.mpr ⟨Or.inr am_mc_152, List.forall_mem_cons.mpr ⟨Or.inr am_mc_153, List.forall_mem_cons.mpr ⟨Or.inr am_mc_154, List.forall_mem_cons.mpr ⟨Or.inr am_mc_155, List.forall_mem_cons.mpr ⟨Or.inr am_mc_156, List.forall_mem_cons.mpr ⟨Or.inr am_mc_157, List.forall_mem_cons.mpr ⟨Or.inr am_mc_158, List.forall_mem_cons.mpr ⟨Or.inr am_mc_159, List.forall_mem_cons.mpr ⟨Or.inr am_mc_160, List.forall_mem_cons.mpr ⟨Or.inl rfl, fun _ h => absurd h List.not_mem_nil⟩⟩⟩⟩⟩⟩⟩⟩⟩⟩⟩⟩⟩⟩⟩⟩⟩⟩⟩⟩⟩⟩⟩⟩⟩⟩⟩
theorem am_mcs : ∀ e ∈ am_tab, (e.2.2.2.2.2.2.2 = 0 ∨ lw_tbl[e.2.2.2.2.2.2.2]? = some (.code e.1 e.2.1 e.2.2.1 e.2.2.2.1)) := List.forall_mem_append.mpr ⟨am_mcs_0, List.forall_mem_append.mpr ⟨am_mcs_1, List.forall_mem_append.mpr ⟨am_mcs_2, List.forall_mem_append.mpr ⟨am_mcs_3, List.forall_mem_append.mpr ⟨am_mcs_4, am_mcs_5⟩⟩⟩⟩⟩
theorem am_okM_all : (List.range 161).all am_okM = true := by decide +kernel
def am_okL (o ix lk : Nat) (y : MethodName) : Bool := am_at lk (.methodLink (am_cn o) ix y) || (decide (10000 ≤ lk) && decide (am_nest[lk - 10000]? = some (.methodLinkNest (am_cn o) ix y "CodeProbes")))
def am_okC (e : Nat × Nat × Nat × Nat × Nat × Nat × Nat × Nat) : Bool := match e with
  | (o, ix, 0, j, lk, p2, se, ini) => decide (j < 161) && am_okL o ix lk (am_y j) && am_at p2 (.instanceMethod (am_y j)) && am_at se (.selects (am_y j).cls (am_y j) (am_y j)) && am_at ini (.initialized (am_y j).cls)
  | (o, ix, 1, j, lk, p2, _, ini) => decide (j < 161) && am_okL o ix lk (am_y j) && am_at p2 (.static (am_y j)) && am_at ini (.initialized (am_y j).cls)
  | (o, ix, 2, j, lk, p2, _, ini) => decide (j < 161) && am_okL o ix lk (am_y j) && am_at p2 (.instanceMethod (am_y j)) && am_at ini (.initialized (am_y j).cls) && decide ((am_y j).name = "<init>") && decide (am_rt j = none)
  | (o, ix, 3, _, lk, p2, _, _) => am_at lk (.methodLink (am_cn o) ix objectInit) && am_at p2 (.instanceMethod objectInit)
  | (o, ix, _, _, lk, p2, _, ini) => am_at lk (.methodLink (am_cn o) ix arraycopyName) && am_at p2 (.static arraycopyName) && am_at ini (.initialized "java/lang/System")
theorem am_okC_all : am_cl.all am_okC = true := by decide +kernel
theorem am_wObj : am_at 63 (.code objectInit ⟨#[0xb1]⟩ 1 none) = true := by decide +kernel
theorem am_wNat : am_at 493 (.native arraycopyName) = true := by decide +kernel
theorem am_wAI : am_at 122 (.arrayClass .int) = true := by decide +kernel
theorem am_wAZ : am_at 105 (.arrayClass .boolean) = true := by decide +kernel
theorem am_wAC : am_at 84 (.arrayClass .char) = true := by decide +kernel
def am_okF (e : Nat × Nat × Nat × Nat × Nat) : Bool := match e with
  | (o, ix, ci, j, pl) => am_at pl (.fieldLink (am_cn o) ix (am_fT ci j).1 (am_fT ci j).2.1 (am_fT ci j).2.2.1) && decide (ci ≤ 10) && decide (j < am_cN ci) && decide ((am_fT ci j).1 = am_cn ci)
theorem am_okF_all : am_fl.all am_okF = true := by decide +kernel
def am_okN (e : Nat × Nat × Nat × Nat × Nat × Nat) : Bool := match e with
  | (o, ix, ci, p1, p2, p3) => am_at p1 (.classLink (am_cn o) ix (am_cn ci)) && am_at p2 (.instantiable (am_cn ci) (am_cN ci)) && am_at p3 (.initialized (am_cn ci)) && decide (ci ≤ 10)
theorem am_okN_all : am_nw.all am_okN = true := by decide +kernel
def am_okA (e : Nat × Nat × Nat × Nat) : Bool := match e with
  | (o, ix, ci, p1) => am_at p1 (.classLink (am_cn o) ix (am_cn ci)) && decide (ci = 3 ∨ ci = 7)
theorem am_okA_all : am_an.all am_okA = true := by decide +kernel
def am_okK (ci : Nat) : Bool := (List.range (am_cN ci)).all (fun k => am_at ((am_lp.getD ci []).getD k 0) (u_lay (am_cn ci) (am_fT ci) k) && decide (parseFieldDescriptor (am_fT ci k).2.2.1 = some (am_ty ci k)) && (List.range (am_cN ci)).all (fun j => decide (j = k) || decide ((am_fT ci j).2.1 ≠ (am_fT ci k).2.1)))
theorem am_okK_all : (List.range 11).all am_okK = true := by decide +kernel
theorem am_okV : ∀ ci, ci < 11 → (vwCl[ci]?.map (fun q => (q.1, q.2.2))) = some (am_cn ci, am_cN ci) := by decide +kernel
theorem am_vw {ci : Nat} (h : ci ≤ 10) : vwCl[ci]? = some (am_cn ci, am_fT ci, am_cN ci) := by
  match ci, h with
  | 0, _ => rfl
  | 1, _ => rfl
  | 2, _ => rfl
  | 3, _ => rfl
  | 4, _ => rfl
  | 5, _ => rfl
  | 6, _ => rfl
  | 7, _ => rfl
  | 8, _ => rfl
  | 9, _ => rfl
  | 10, _ => rfl
theorem am_wCod : am_at 991 (.fieldLink RJ0 15 "java/lang/String" "coder" "B") = true := by decide +kernel
theorem am_wVal : am_at 990 (.fieldLink RJ0 9 "java/lang/String" "value" "[B") = true := by decide +kernel
theorem am_wCmp : am_at 291 (.fieldLink RJ0 38 "java/lang/String" "COMPACT_STRINGS" "Z") = true := by decide +kernel
theorem am_wFmt : am_at 307 (.fieldLink RJ0 1053 "jdk/internal/util/Preconditions" "SIOOBE_FORMATTER" "Ljava/util/function/BiFunction;") = true := by decide +kernel
