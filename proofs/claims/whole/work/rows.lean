section
-- ===== PART A: goes FIRST, ahead of the names: the tables' words, and 'selects' of the private methods out of them =====
/-- a private method of a class that the tables say can be made, by its rows of tables_1 -/
def lw_okq (q : MethodName × Nat) : Prop := (q.1.cls ≠ "java/lang/invoke/MethodHandle" ∧ q.1.cls ≠ "java/lang/invoke/VarHandle") ∧ Cond.instantiable q.1.cls q.2 ∈ tables_1 ∧ Cond.privateMethod q.1 ∈ tables_1 ∧ Cond.instanceMethod q.1 ∈ tables_1
theorem lw_p0 : lw_okq (⟨"RepairGroups", "readShard", "(LRepairGroups$Stripe;I)Z"⟩, 7) := ⟨⟨by decide +kernel, by decide +kernel⟩, List.mem_of_getElem? (i := 9) (by decide +kernel), List.mem_of_getElem? (i := 133) (by decide +kernel), List.mem_of_getElem? (i := 134) (by decide +kernel)⟩
theorem lw_p1 : lw_okq (⟨"RepairGroups", "updateCoded", "(LRepairGroups$Stripe;IJ)I"⟩, 7) := ⟨⟨by decide +kernel, by decide +kernel⟩, List.mem_of_getElem? (i := 9) (by decide +kernel), List.mem_of_getElem? (i := 149) (by decide +kernel), List.mem_of_getElem? (i := 150) (by decide +kernel)⟩
theorem lw_p2 : lw_okq (⟨"RepairGroups", "readShardFor", "(LRepairGroups$Stripe;II)Z"⟩, 7) := ⟨⟨by decide +kernel, by decide +kernel⟩, List.mem_of_getElem? (i := 9) (by decide +kernel), List.mem_of_getElem? (i := 156) (by decide +kernel), List.mem_of_getElem? (i := 157) (by decide +kernel)⟩
theorem lw_p3 : lw_okq (⟨"RepairGroups", "writeShard", "(LRepairGroups$Stripe;IJ)V"⟩, 7) := ⟨⟨by decide +kernel, by decide +kernel⟩, List.mem_of_getElem? (i := 9) (by decide +kernel), List.mem_of_getElem? (i := 165) (by decide +kernel), List.mem_of_getElem? (i := 166) (by decide +kernel)⟩
theorem lw_p4 : lw_okq (⟨"RepairGroups", "isShard", "(II)Z"⟩, 7) := ⟨⟨by decide +kernel, by decide +kernel⟩, List.mem_of_getElem? (i := 9) (by decide +kernel), List.mem_of_getElem? (i := 177) (by decide +kernel), List.mem_of_getElem? (i := 178) (by decide +kernel)⟩
theorem lw_p5 : lw_okq (⟨"RepairGroups", "followPlans", "(LRepairGroups$Stripe;I)I"⟩, 7) := ⟨⟨by decide +kernel, by decide +kernel⟩, List.mem_of_getElem? (i := 9) (by decide +kernel), List.mem_of_getElem? (i := 181) (by decide +kernel), List.mem_of_getElem? (i := 182) (by decide +kernel)⟩
theorem lw_p6 : lw_okq (⟨"RepairGroups", "choosePlan", "(LRepairGroups$Stripe;I)I"⟩, 7) := ⟨⟨by decide +kernel, by decide +kernel⟩, List.mem_of_getElem? (i := 9) (by decide +kernel), List.mem_of_getElem? (i := 185) (by decide +kernel), List.mem_of_getElem? (i := 186) (by decide +kernel)⟩
theorem lw_p7 : lw_okq (⟨"RepairGroups", "localPlan", "(LRepairGroups$Stripe;I)I"⟩, 7) := ⟨⟨by decide +kernel, by decide +kernel⟩, List.mem_of_getElem? (i := 9) (by decide +kernel), List.mem_of_getElem? (i := 189) (by decide +kernel), List.mem_of_getElem? (i := 190) (by decide +kernel)⟩
theorem lw_p8 : lw_okq (⟨"RepairGroups", "independentShards", "(LRepairGroups$Stripe;)I"⟩, 7) := ⟨⟨by decide +kernel, by decide +kernel⟩, List.mem_of_getElem? (i := 9) (by decide +kernel), List.mem_of_getElem? (i := 202) (by decide +kernel), List.mem_of_getElem? (i := 203) (by decide +kernel)⟩
theorem lw_p9 : lw_okq (⟨"RepairGroups", "readPlan", "(LRepairGroups$Stripe;II)Z"⟩, 7) := ⟨⟨by decide +kernel, by decide +kernel⟩, List.mem_of_getElem? (i := 9) (by decide +kernel), List.mem_of_getElem? (i := 226) (by decide +kernel), List.mem_of_getElem? (i := 227) (by decide +kernel)⟩
theorem lw_p10 : lw_okq (⟨"RepairGroups", "decode", "(LRepairGroups$Stripe;II)J"⟩, 7) := ⟨⟨by decide +kernel, by decide +kernel⟩, List.mem_of_getElem? (i := 9) (by decide +kernel), List.mem_of_getElem? (i := 231) (by decide +kernel), List.mem_of_getElem? (i := 232) (by decide +kernel)⟩
theorem lw_p11 : lw_okq (⟨"RepairGroups", "dropShardsOn", "(LRepairGroups$Stripe;I)I"⟩, 7) := ⟨⟨by decide +kernel, by decide +kernel⟩, List.mem_of_getElem? (i := 9) (by decide +kernel), List.mem_of_getElem? (i := 250) (by decide +kernel), List.mem_of_getElem? (i := 251) (by decide +kernel)⟩
theorem lw_p12 : lw_okq (⟨"RepairGroups", "rebuild", "(LRepairGroups$Stripe;I)I"⟩, 7) := ⟨⟨by decide +kernel, by decide +kernel⟩, List.mem_of_getElem? (i := 9) (by decide +kernel), List.mem_of_getElem? (i := 270) (by decide +kernel), List.mem_of_getElem? (i := 271) (by decide +kernel)⟩
theorem lw_p13 : lw_okq (⟨"RepairGroups", "nextToMend", "(LRepairGroups$Stripe;)I"⟩, 7) := ⟨⟨by decide +kernel, by decide +kernel⟩, List.mem_of_getElem? (i := 9) (by decide +kernel), List.mem_of_getElem? (i := 278) (by decide +kernel), List.mem_of_getElem? (i := 279) (by decide +kernel)⟩
theorem lw_p14 : lw_okq (⟨"RepairGroups", "canBeWritten", "(LRepairGroups$Stripe;I)Z"⟩, 7) := ⟨⟨by decide +kernel, by decide +kernel⟩, List.mem_of_getElem? (i := 9) (by decide +kernel), List.mem_of_getElem? (i := 282) (by decide +kernel), List.mem_of_getElem? (i := 283) (by decide +kernel)⟩
theorem lw_p15 : lw_okq (⟨"RepairGroupsModel", "coefficient", "(II)I"⟩, 18) := ⟨⟨by decide +kernel, by decide +kernel⟩, List.mem_of_getElem? (i := 325) (by decide +kernel), List.mem_of_getElem? (i := 331) (by decide +kernel), List.mem_of_getElem? (i := 332) (by decide +kernel)⟩
def lw_privs_1 : List (MethodName × Nat) := [(⟨"RepairGroups", "readShard", "(LRepairGroups$Stripe;I)Z"⟩, 7), (⟨"RepairGroups", "updateCoded", "(LRepairGroups$Stripe;IJ)I"⟩, 7), (⟨"RepairGroups", "readShardFor", "(LRepairGroups$Stripe;II)Z"⟩, 7), (⟨"RepairGroups", "writeShard", "(LRepairGroups$Stripe;IJ)V"⟩, 7), (⟨"RepairGroups", "isShard", "(II)Z"⟩, 7), (⟨"RepairGroups", "followPlans", "(LRepairGroups$Stripe;I)I"⟩, 7), (⟨"RepairGroups", "choosePlan", "(LRepairGroups$Stripe;I)I"⟩, 7), (⟨"RepairGroups", "localPlan", "(LRepairGroups$Stripe;I)I"⟩, 7), (⟨"RepairGroups", "independentShards", "(LRepairGroups$Stripe;)I"⟩, 7), (⟨"RepairGroups", "readPlan", "(LRepairGroups$Stripe;II)Z"⟩, 7), (⟨"RepairGroups", "decode", "(LRepairGroups$Stripe;II)J"⟩, 7), (⟨"RepairGroups", "dropShardsOn", "(LRepairGroups$Stripe;I)I"⟩, 7), (⟨"RepairGroups", "rebuild", "(LRepairGroups$Stripe;I)I"⟩, 7), (⟨"RepairGroups", "nextToMend", "(LRepairGroups$Stripe;)I"⟩, 7), (⟨"RepairGroups", "canBeWritten", "(LRepairGroups$Stripe;I)Z"⟩, 7), (⟨"RepairGroupsModel", "coefficient", "(II)I"⟩, 18)]
theorem lw_r1 : ∀ q ∈ lw_privs_1, lw_okq q := List.forall_mem_cons.mpr ⟨lw_p0, List.forall_mem_cons.mpr ⟨lw_p1, List.forall_mem_cons.mpr ⟨lw_p2, List.forall_mem_cons.mpr ⟨lw_p3, List.forall_mem_cons.mpr ⟨lw_p4, List.forall_mem_cons.mpr ⟨lw_p5, List.forall_mem_cons.mpr ⟨lw_p6, List.forall_mem_cons.mpr ⟨lw_p7, List.forall_mem_cons.mpr ⟨lw_p8, List.forall_mem_cons.mpr ⟨lw_p9, List.forall_mem_cons.mpr ⟨lw_p10, List.forall_mem_cons.mpr ⟨lw_p11, List.forall_mem_cons.mpr ⟨lw_p12, List.forall_mem_cons.mpr ⟨lw_p13, List.forall_mem_cons.mpr ⟨lw_p14, List.forall_mem_cons.mpr ⟨lw_p15, fun _ h => absurd h List.not_mem_nil⟩⟩⟩⟩⟩⟩⟩⟩⟩⟩⟩⟩⟩⟩⟩⟩
theorem lw_p16 : lw_okq (⟨"RepairGroupsModel", "inverse", "(I)I"⟩, 18) := ⟨⟨by decide +kernel, by decide +kernel⟩, List.mem_of_getElem? (i := 325) (by decide +kernel), List.mem_of_getElem? (i := 335) (by decide +kernel), List.mem_of_getElem? (i := 336) (by decide +kernel)⟩
theorem lw_p17 : lw_okq (⟨"RepairGroupsModel", "product", "(II)I"⟩, 18) := ⟨⟨by decide +kernel, by decide +kernel⟩, List.mem_of_getElem? (i := 325) (by decide +kernel), List.mem_of_getElem? (i := 339) (by decide +kernel), List.mem_of_getElem? (i := 340) (by decide +kernel)⟩
theorem lw_p18 : lw_okq (⟨"RepairGroupsModel", "noStripe", "(I)Z"⟩, 18) := ⟨⟨by decide +kernel, by decide +kernel⟩, List.mem_of_getElem? (i := 325) (by decide +kernel), List.mem_of_getElem? (i := 402) (by decide +kernel), List.mem_of_getElem? (i := 403) (by decide +kernel)⟩
theorem lw_p19 : lw_okq (⟨"RepairGroupsModel", "cell", "(II)I"⟩, 18) := ⟨⟨by decide +kernel, by decide +kernel⟩, List.mem_of_getElem? (i := 325) (by decide +kernel), List.mem_of_getElem? (i := 406) (by decide +kernel), List.mem_of_getElem? (i := 407) (by decide +kernel)⟩
theorem lw_p20 : lw_okq (⟨"RepairGroupsModel", "rejected", "(II)Z"⟩, 18) := ⟨⟨by decide +kernel, by decide +kernel⟩, List.mem_of_getElem? (i := 325) (by decide +kernel), List.mem_of_getElem? (i := 410) (by decide +kernel), List.mem_of_getElem? (i := 411) (by decide +kernel)⟩
theorem lw_p21 : lw_okq (⟨"RepairGroupsModel", "rejectedFor", "(III)Z"⟩, 18) := ⟨⟨by decide +kernel, by decide +kernel⟩, List.mem_of_getElem? (i := 325) (by decide +kernel), List.mem_of_getElem? (i := 414) (by decide +kernel), List.mem_of_getElem? (i := 415) (by decide +kernel)⟩
theorem lw_p22 : lw_okq (⟨"RepairGroupsModel", "place", "(II)I"⟩, 18) := ⟨⟨by decide +kernel, by decide +kernel⟩, List.mem_of_getElem? (i := 325) (by decide +kernel), List.mem_of_getElem? (i := 418) (by decide +kernel), List.mem_of_getElem? (i := 419) (by decide +kernel)⟩
theorem lw_p23 : lw_okq (⟨"RepairGroupsModel", "written", "(II)V"⟩, 18) := ⟨⟨by decide +kernel, by decide +kernel⟩, List.mem_of_getElem? (i := 325) (by decide +kernel), List.mem_of_getElem? (i := 422) (by decide +kernel), List.mem_of_getElem? (i := 423) (by decide +kernel)⟩
theorem lw_p24 : lw_okq (⟨"RepairGroupsModel", "noShard", "(II)Z"⟩, 18) := ⟨⟨by decide +kernel, by decide +kernel⟩, List.mem_of_getElem? (i := 325) (by decide +kernel), List.mem_of_getElem? (i := 430) (by decide +kernel), List.mem_of_getElem? (i := 431) (by decide +kernel)⟩
theorem lw_p25 : lw_okq (⟨"RepairGroupsModel", "follow", "(II)I"⟩, 18) := ⟨⟨by decide +kernel, by decide +kernel⟩, List.mem_of_getElem? (i := 325) (by decide +kernel), List.mem_of_getElem? (i := 434) (by decide +kernel), List.mem_of_getElem? (i := 435) (by decide +kernel)⟩
theorem lw_p26 : lw_okq (⟨"RepairGroupsModel", "choose", "(II)Z"⟩, 18) := ⟨⟨by decide +kernel, by decide +kernel⟩, List.mem_of_getElem? (i := 325) (by decide +kernel), List.mem_of_getElem? (i := 438) (by decide +kernel), List.mem_of_getElem? (i := 439) (by decide +kernel)⟩
theorem lw_p27 : lw_okq (⟨"RepairGroupsModel", "local", "(II)Z"⟩, 18) := ⟨⟨by decide +kernel, by decide +kernel⟩, List.mem_of_getElem? (i := 325) (by decide +kernel), List.mem_of_getElem? (i := 442) (by decide +kernel), List.mem_of_getElem? (i := 443) (by decide +kernel)⟩
theorem lw_p28 : lw_okq (⟨"RepairGroupsModel", "grouped", "(II)Z"⟩, 18) := ⟨⟨by decide +kernel, by decide +kernel⟩, List.mem_of_getElem? (i := 325) (by decide +kernel), List.mem_of_getElem? (i := 446) (by decide +kernel), List.mem_of_getElem? (i := 447) (by decide +kernel)⟩
theorem lw_p29 : lw_okq (⟨"RepairGroupsModel", "group", "(I)I"⟩, 18) := ⟨⟨by decide +kernel, by decide +kernel⟩, List.mem_of_getElem? (i := 325) (by decide +kernel), List.mem_of_getElem? (i := 450) (by decide +kernel), List.mem_of_getElem? (i := 451) (by decide +kernel)⟩
theorem lw_p30 : lw_okq (⟨"RepairGroupsModel", "goOver", "(I)V"⟩, 18) := ⟨⟨by decide +kernel, by decide +kernel⟩, List.mem_of_getElem? (i := 325) (by decide +kernel), List.mem_of_getElem? (i := 454) (by decide +kernel), List.mem_of_getElem? (i := 455) (by decide +kernel)⟩
theorem lw_p31 : lw_okq (⟨"RepairGroupsModel", "adds", "(I)Z"⟩, 18) := ⟨⟨by decide +kernel, by decide +kernel⟩, List.mem_of_getElem? (i := 325) (by decide +kernel), List.mem_of_getElem? (i := 458) (by decide +kernel), List.mem_of_getElem? (i := 459) (by decide +kernel)⟩
def lw_privs_2 : List (MethodName × Nat) := [(⟨"RepairGroupsModel", "inverse", "(I)I"⟩, 18), (⟨"RepairGroupsModel", "product", "(II)I"⟩, 18), (⟨"RepairGroupsModel", "noStripe", "(I)Z"⟩, 18), (⟨"RepairGroupsModel", "cell", "(II)I"⟩, 18), (⟨"RepairGroupsModel", "rejected", "(II)Z"⟩, 18), (⟨"RepairGroupsModel", "rejectedFor", "(III)Z"⟩, 18), (⟨"RepairGroupsModel", "place", "(II)I"⟩, 18), (⟨"RepairGroupsModel", "written", "(II)V"⟩, 18), (⟨"RepairGroupsModel", "noShard", "(II)Z"⟩, 18), (⟨"RepairGroupsModel", "follow", "(II)I"⟩, 18), (⟨"RepairGroupsModel", "choose", "(II)Z"⟩, 18), (⟨"RepairGroupsModel", "local", "(II)Z"⟩, 18), (⟨"RepairGroupsModel", "grouped", "(II)Z"⟩, 18), (⟨"RepairGroupsModel", "group", "(I)I"⟩, 18), (⟨"RepairGroupsModel", "goOver", "(I)V"⟩, 18), (⟨"RepairGroupsModel", "adds", "(I)Z"⟩, 18)]
theorem lw_r2 : ∀ q ∈ lw_privs_2, lw_okq q := List.forall_mem_cons.mpr ⟨lw_p16, List.forall_mem_cons.mpr ⟨lw_p17, List.forall_mem_cons.mpr ⟨lw_p18, List.forall_mem_cons.mpr ⟨lw_p19, List.forall_mem_cons.mpr ⟨lw_p20, List.forall_mem_cons.mpr ⟨lw_p21, List.forall_mem_cons.mpr ⟨lw_p22, List.forall_mem_cons.mpr ⟨lw_p23, List.forall_mem_cons.mpr ⟨lw_p24, List.forall_mem_cons.mpr ⟨lw_p25, List.forall_mem_cons.mpr ⟨lw_p26, List.forall_mem_cons.mpr ⟨lw_p27, List.forall_mem_cons.mpr ⟨lw_p28, List.forall_mem_cons.mpr ⟨lw_p29, List.forall_mem_cons.mpr ⟨lw_p30, List.forall_mem_cons.mpr ⟨lw_p31, fun _ h => absurd h List.not_mem_nil⟩⟩⟩⟩⟩⟩⟩⟩⟩⟩⟩⟩⟩⟩⟩⟩
theorem lw_p32 : lw_okq (⟨"RepairGroupsModel", "value", "(II)J"⟩, 18) := ⟨⟨by decide +kernel, by decide +kernel⟩, List.mem_of_getElem? (i := 325) (by decide +kernel), List.mem_of_getElem? (i := 462) (by decide +kernel), List.mem_of_getElem? (i := 463) (by decide +kernel)⟩
theorem lw_p33 : lw_okq (⟨"RepairGroupsModel", "byteOf", "(JI)I"⟩, 18) := ⟨⟨by decide +kernel, by decide +kernel⟩, List.mem_of_getElem? (i := 325) (by decide +kernel), List.mem_of_getElem? (i := 466) (by decide +kernel), List.mem_of_getElem? (i := 467) (by decide +kernel)⟩
theorem lw_p34 : lw_okq (⟨"RepairGroupsModel", "next", "(I)I"⟩, 18) := ⟨⟨by decide +kernel, by decide +kernel⟩, List.mem_of_getElem? (i := 325) (by decide +kernel), List.mem_of_getElem? (i := 495) (by decide +kernel), List.mem_of_getElem? (i := 496) (by decide +kernel)⟩
def lw_privs_3 : List (MethodName × Nat) := [(⟨"RepairGroupsModel", "value", "(II)J"⟩, 18), (⟨"RepairGroupsModel", "byteOf", "(JI)I"⟩, 18), (⟨"RepairGroupsModel", "next", "(I)I"⟩, 18)]
theorem lw_r3 : ∀ q ∈ lw_privs_3, lw_okq q := List.forall_mem_cons.mpr ⟨lw_p32, List.forall_mem_cons.mpr ⟨lw_p33, List.forall_mem_cons.mpr ⟨lw_p34, fun _ h => absurd h List.not_mem_nil⟩⟩⟩
def lw_privs : List (MethodName × Nat) := lw_privs_1 ++ (lw_privs_2 ++ (lw_privs_3))
def lw_tbl : List Cond := k2_sels lw_privs ++ tables_1
theorem lw_privs_ok : ∀ q ∈ lw_privs, lw_okq q := by
  show ∀ q ∈ lw_privs_1 ++ (lw_privs_2 ++ (lw_privs_3)), lw_okq q
  exact List.forall_mem_append.mpr ⟨lw_r1, List.forall_mem_append.mpr ⟨lw_r2, lw_r3⟩⟩
end
section
abbrev bb_RG_init : ByteArray := prog_1_method_1_code
def yy_RG_init : MethodName := ⟨"RepairGroups", "<init>", "(I)V"⟩
abbrev bb_RG_put : ByteArray := prog_1_method_2_code
def yy_RG_put : MethodName := ⟨"RepairGroups", "put", "(IIJ)I"⟩
abbrev bb_RG_fetch : ByteArray := prog_1_method_3_code
def yy_RG_fetch : MethodName := ⟨"RepairGroups", "fetch", "(II)I"⟩
abbrev bb_RG_fetched : ByteArray := prog_1_method_4_code
def yy_RG_fetched : MethodName := ⟨"RepairGroups", "fetched", "()J"⟩
abbrev bb_RG_fail : ByteArray := prog_1_method_5_code
def yy_RG_fail : MethodName := ⟨"RepairGroups", "fail", "(I)I"⟩
abbrev bb_RG_revive : ByteArray := prog_1_method_6_code
def yy_RG_revive : MethodName := ⟨"RepairGroups", "revive", "(I)Z"⟩
abbrev bb_RG_damage : ByteArray := prog_1_method_7_code
def yy_RG_damage : MethodName := ⟨"RepairGroups", "damage", "(III)Z"⟩
abbrev bb_RG_repair : ByteArray := prog_1_method_8_code
def yy_RG_repair : MethodName := ⟨"RepairGroups", "repair", "(II)I"⟩
abbrev bb_RG_mend : ByteArray := prog_1_method_9_code
def yy_RG_mend : MethodName := ⟨"RepairGroups", "mend", "(I)I"⟩
abbrev bb_RG_scrub : ByteArray := prog_1_method_10_code
def yy_RG_scrub : MethodName := ⟨"RepairGroups", "scrub", "(I)I"⟩
abbrev bb_RG_cost : ByteArray := prog_1_method_11_code
def yy_RG_cost : MethodName := ⟨"RepairGroups", "cost", "(II)I"⟩
abbrev bb_RG_rank : ByteArray := prog_1_method_12_code
def yy_RG_rank : MethodName := ⟨"RepairGroups", "rank", "(I)I"⟩
abbrev bb_RG_lost : ByteArray := prog_1_method_13_code
def yy_RG_lost : MethodName := ⟨"RepairGroups", "lost", "(I)I"⟩
abbrev bb_RG_content : ByteArray := prog_1_method_14_code
def yy_RG_content : MethodName := ⟨"RepairGroups", "content", "(II)J"⟩
abbrev bb_RG_node : ByteArray := prog_1_method_15_code
def yy_RG_node : MethodName := ⟨"RepairGroups", "node", "(II)I"⟩
abbrev bb_RG_up : ByteArray := prog_1_method_16_code
def yy_RG_up : MethodName := ⟨"RepairGroups", "up", "(I)Z"⟩
abbrev bb_RG_count : ByteArray := prog_1_method_17_code
def yy_RG_count : MethodName := ⟨"RepairGroups", "count", "(I)I"⟩
abbrev bb_RG_size : ByteArray := prog_1_method_18_code
def yy_RG_size : MethodName := ⟨"RepairGroups", "size", "()I"⟩
abbrev bb_RG_isStripe : ByteArray := prog_1_method_19_code
def yy_RG_isStripe : MethodName := ⟨"RepairGroups", "isStripe", "(I)Z"⟩
abbrev bb_RG_isShard : ByteArray := prog_1_method_20_code
def yy_RG_isShard : MethodName := ⟨"RepairGroups", "isShard", "(II)Z"⟩
abbrev bb_RG_isNode : ByteArray := prog_1_method_21_code
def yy_RG_isNode : MethodName := ⟨"RepairGroups", "isNode", "(I)Z"⟩
abbrev bb_RG_readShard : ByteArray := prog_1_method_22_code
def yy_RG_readShard : MethodName := ⟨"RepairGroups", "readShard", "(LRepairGroups$Stripe;I)Z"⟩
abbrev bb_RG_readShardFor : ByteArray := prog_1_method_23_code
def yy_RG_readShardFor : MethodName := ⟨"RepairGroups", "readShardFor", "(LRepairGroups$Stripe;II)Z"⟩
abbrev bb_RG_writeShard : ByteArray := prog_1_method_24_code
def yy_RG_writeShard : MethodName := ⟨"RepairGroups", "writeShard", "(LRepairGroups$Stripe;IJ)V"⟩
abbrev bb_RG_updateCoded : ByteArray := prog_1_method_25_code
def yy_RG_updateCoded : MethodName := ⟨"RepairGroups", "updateCoded", "(LRepairGroups$Stripe;IJ)I"⟩
abbrev bb_RG_dropShardsOn : ByteArray := prog_1_method_26_code
def yy_RG_dropShardsOn : MethodName := ⟨"RepairGroups", "dropShardsOn", "(LRepairGroups$Stripe;I)I"⟩
abbrev bb_RG_rebuild : ByteArray := prog_1_method_27_code
def yy_RG_rebuild : MethodName := ⟨"RepairGroups", "rebuild", "(LRepairGroups$Stripe;I)I"⟩
abbrev bb_RG_followPlans : ByteArray := prog_1_method_28_code
def yy_RG_followPlans : MethodName := ⟨"RepairGroups", "followPlans", "(LRepairGroups$Stripe;I)I"⟩
abbrev bb_RG_readPlan : ByteArray := prog_1_method_29_code
def yy_RG_readPlan : MethodName := ⟨"RepairGroups", "readPlan", "(LRepairGroups$Stripe;II)Z"⟩
abbrev bb_RG_decode : ByteArray := prog_1_method_30_code
def yy_RG_decode : MethodName := ⟨"RepairGroups", "decode", "(LRepairGroups$Stripe;II)J"⟩
abbrev bb_RG_choosePlan : ByteArray := prog_1_method_31_code
def yy_RG_choosePlan : MethodName := ⟨"RepairGroups", "choosePlan", "(LRepairGroups$Stripe;I)I"⟩
abbrev bb_RG_localPlan : ByteArray := prog_1_method_32_code
def yy_RG_localPlan : MethodName := ⟨"RepairGroups", "localPlan", "(LRepairGroups$Stripe;I)I"⟩
abbrev bb_RG_globalPlan : ByteArray := prog_1_method_33_code
def yy_RG_globalPlan : MethodName := ⟨"RepairGroups", "globalPlan", "(I)I"⟩
abbrev bb_RG_independentShards : ByteArray := prog_1_method_34_code
def yy_RG_independentShards : MethodName := ⟨"RepairGroups", "independentShards", "(LRepairGroups$Stripe;)I"⟩
abbrev bb_RG_nextToMend : ByteArray := prog_1_method_35_code
def yy_RG_nextToMend : MethodName := ⟨"RepairGroups", "nextToMend", "(LRepairGroups$Stripe;)I"⟩
abbrev bb_RG_canBeWritten : ByteArray := prog_1_method_36_code
def yy_RG_canBeWritten : MethodName := ⟨"RepairGroups", "canBeWritten", "(LRepairGroups$Stripe;I)Z"⟩
abbrev bb_RG_isIn : ByteArray := prog_1_method_37_code
def yy_RG_isIn : MethodName := ⟨"RepairGroups", "isIn", "(II)Z"⟩
abbrev bb_By_at : ByteArray := prog_2_method_2_code
def yy_By_at : MethodName := ⟨"RepairGroups$Bytes", "at", "(JI)I"⟩
abbrev bb_By_placed : ByteArray := prog_2_method_3_code
def yy_By_placed : MethodName := ⟨"RepairGroups$Bytes", "placed", "(II)J"⟩
abbrev bb_By_times : ByteArray := prog_2_method_4_code
def yy_By_times : MethodName := ⟨"RepairGroups$Bytes", "times", "(IJ)J"⟩
abbrev bb_By_inverse : ByteArray := prog_2_method_5_code
def yy_By_inverse : MethodName := ⟨"RepairGroups$Bytes", "inverse", "(I)I"⟩
abbrev bb_Co_init : ByteArray := prog_3_method_1_code
def yy_Co_init : MethodName := ⟨"RepairGroups$Code", "<init>", "(I)V"⟩
abbrev bb_Co_plainRow : ByteArray := prog_3_method_2_code
def yy_Co_plainRow : MethodName := ⟨"RepairGroups$Code", "plainRow", "(I)J"⟩
abbrev bb_Co_groupedRow : ByteArray := prog_3_method_3_code
def yy_Co_groupedRow : MethodName := ⟨"RepairGroups$Code", "groupedRow", "(I)J"⟩
abbrev bb_Co_inversesRow : ByteArray := prog_3_method_4_code
def yy_Co_inversesRow : MethodName := ⟨"RepairGroups$Code", "inversesRow", "(I)J"⟩
abbrev bb_Co_groupOf : ByteArray := prog_3_method_5_code
def yy_Co_groupOf : MethodName := ⟨"RepairGroups$Code", "groupOf", "(I)I"⟩
abbrev bb_Sp_init : ByteArray := prog_4_method_1_code
def yy_Sp_init : MethodName := ⟨"RepairGroups$Span", "<init>", "()V"⟩
abbrev bb_Sp_clear : ByteArray := prog_4_method_2_code
def yy_Sp_clear : MethodName := ⟨"RepairGroups$Span", "clear", "()V"⟩
abbrev bb_Sp_take : ByteArray := prog_4_method_3_code
def yy_Sp_take : MethodName := ⟨"RepairGroups$Span", "take", "(JJ)Z"⟩
abbrev bb_Sp_valueOf : ByteArray := prog_4_method_4_code
def yy_Sp_valueOf : MethodName := ⟨"RepairGroups$Span", "valueOf", "(J)J"⟩
abbrev bb_Sq_init : ByteArray := prog_5_method_1_code
def yy_Sq_init : MethodName := ⟨"RepairGroups$Stripe", "<init>", "(II)V"⟩
abbrev bb_Sq_nodeOf : ByteArray := prog_5_method_2_code
def yy_Sq_nodeOf : MethodName := ⟨"RepairGroups$Stripe", "nodeOf", "(I)I"⟩
abbrev bb_Sq_isThere : ByteArray := prog_5_method_3_code
def yy_Sq_isThere : MethodName := ⟨"RepairGroups$Stripe", "isThere", "(I)Z"⟩
abbrev bb_Sq_lostMask : ByteArray := prog_5_method_4_code
def yy_Sq_lostMask : MethodName := ⟨"RepairGroups$Stripe", "lostMask", "()I"⟩
abbrev bb_Sq_isDamaged : ByteArray := prog_5_method_5_code
def yy_Sq_isDamaged : MethodName := ⟨"RepairGroups$Stripe", "isDamaged", "(I)Z"⟩
abbrev bb_Sq_held : ByteArray := prog_5_method_6_code
def yy_Sq_held : MethodName := ⟨"RepairGroups$Stripe", "held", "(I)J"⟩
abbrev bb_Sq_flip : ByteArray := prog_5_method_7_code
def yy_Sq_flip : MethodName := ⟨"RepairGroups$Stripe", "flip", "(II)V"⟩
abbrev bb_Sq_lose : ByteArray := prog_5_method_8_code
def yy_Sq_lose : MethodName := ⟨"RepairGroups$Stripe", "lose", "(I)V"⟩
abbrev bb_Sq_store : ByteArray := prog_5_method_9_code
def yy_Sq_store : MethodName := ⟨"RepairGroups$Stripe", "store", "(IJ)V"⟩
abbrev bb_Mo_init : ByteArray := prog_7_method_1_code
def yy_Mo_init : MethodName := ⟨"RepairGroupsModel", "<init>", "(I)V"⟩
abbrev bb_Mo_product : ByteArray := prog_7_method_2_code
def yy_Mo_product : MethodName := ⟨"RepairGroupsModel", "product", "(II)I"⟩
abbrev bb_Mo_inverse : ByteArray := prog_7_method_3_code
def yy_Mo_inverse : MethodName := ⟨"RepairGroupsModel", "inverse", "(I)I"⟩
abbrev bb_Mo_coefficient : ByteArray := prog_7_method_4_code
def yy_Mo_coefficient : MethodName := ⟨"RepairGroupsModel", "coefficient", "(II)I"⟩
abbrev bb_Mo_byteOf : ByteArray := prog_7_method_5_code
def yy_Mo_byteOf : MethodName := ⟨"RepairGroupsModel", "byteOf", "(JI)I"⟩
abbrev bb_Mo_value : ByteArray := prog_7_method_6_code
def yy_Mo_value : MethodName := ⟨"RepairGroupsModel", "value", "(II)J"⟩
abbrev bb_Mo_noStripe : ByteArray := prog_7_method_7_code
def yy_Mo_noStripe : MethodName := ⟨"RepairGroupsModel", "noStripe", "(I)Z"⟩
abbrev bb_Mo_noShard : ByteArray := prog_7_method_8_code
def yy_Mo_noShard : MethodName := ⟨"RepairGroupsModel", "noShard", "(II)Z"⟩
abbrev bb_Mo_place : ByteArray := prog_7_method_9_code
def yy_Mo_place : MethodName := ⟨"RepairGroupsModel", "place", "(II)I"⟩
abbrev bb_Mo_cell : ByteArray := prog_7_method_10_code
def yy_Mo_cell : MethodName := ⟨"RepairGroupsModel", "cell", "(II)I"⟩
abbrev bb_Mo_rejected : ByteArray := prog_7_method_11_code
def yy_Mo_rejected : MethodName := ⟨"RepairGroupsModel", "rejected", "(II)Z"⟩
abbrev bb_Mo_rejectedFor : ByteArray := prog_7_method_12_code
def yy_Mo_rejectedFor : MethodName := ⟨"RepairGroupsModel", "rejectedFor", "(III)Z"⟩
abbrev bb_Mo_written : ByteArray := prog_7_method_13_code
def yy_Mo_written : MethodName := ⟨"RepairGroupsModel", "written", "(II)V"⟩
abbrev bb_Mo_grouped : ByteArray := prog_7_method_14_code
def yy_Mo_grouped : MethodName := ⟨"RepairGroupsModel", "grouped", "(II)Z"⟩
abbrev bb_Mo_group : ByteArray := prog_7_method_15_code
def yy_Mo_group : MethodName := ⟨"RepairGroupsModel", "group", "(I)I"⟩
abbrev bb_Mo_local : ByteArray := prog_7_method_16_code
def yy_Mo_local : MethodName := ⟨"RepairGroupsModel", "local", "(II)Z"⟩
abbrev bb_Mo_adds : ByteArray := prog_7_method_17_code
def yy_Mo_adds : MethodName := ⟨"RepairGroupsModel", "adds", "(I)Z"⟩
abbrev bb_Mo_goOver : ByteArray := prog_7_method_18_code
def yy_Mo_goOver : MethodName := ⟨"RepairGroupsModel", "goOver", "(I)V"⟩
abbrev bb_Mo_choose : ByteArray := prog_7_method_19_code
def yy_Mo_choose : MethodName := ⟨"RepairGroupsModel", "choose", "(II)Z"⟩
abbrev bb_Mo_follow : ByteArray := prog_7_method_20_code
def yy_Mo_follow : MethodName := ⟨"RepairGroupsModel", "follow", "(II)I"⟩
abbrev bb_Mo_put : ByteArray := prog_7_method_21_code
def yy_Mo_put : MethodName := ⟨"RepairGroupsModel", "put", "(IIJ)I"⟩
abbrev bb_Mo_fetch : ByteArray := prog_7_method_22_code
def yy_Mo_fetch : MethodName := ⟨"RepairGroupsModel", "fetch", "(II)I"⟩
abbrev bb_Mo_fetched : ByteArray := prog_7_method_23_code
def yy_Mo_fetched : MethodName := ⟨"RepairGroupsModel", "fetched", "()J"⟩
abbrev bb_Mo_fail : ByteArray := prog_7_method_24_code
def yy_Mo_fail : MethodName := ⟨"RepairGroupsModel", "fail", "(I)I"⟩
abbrev bb_Mo_revive : ByteArray := prog_7_method_25_code
def yy_Mo_revive : MethodName := ⟨"RepairGroupsModel", "revive", "(I)Z"⟩
abbrev bb_Mo_damage : ByteArray := prog_7_method_26_code
def yy_Mo_damage : MethodName := ⟨"RepairGroupsModel", "damage", "(III)Z"⟩
abbrev bb_Mo_repair : ByteArray := prog_7_method_27_code
def yy_Mo_repair : MethodName := ⟨"RepairGroupsModel", "repair", "(II)I"⟩
abbrev bb_Mo_next : ByteArray := prog_7_method_28_code
def yy_Mo_next : MethodName := ⟨"RepairGroupsModel", "next", "(I)I"⟩
abbrev bb_Mo_mend : ByteArray := prog_7_method_29_code
def yy_Mo_mend : MethodName := ⟨"RepairGroupsModel", "mend", "(I)I"⟩
abbrev bb_Mo_scrub : ByteArray := prog_7_method_30_code
def yy_Mo_scrub : MethodName := ⟨"RepairGroupsModel", "scrub", "(I)I"⟩
abbrev bb_Mo_cost : ByteArray := prog_7_method_31_code
def yy_Mo_cost : MethodName := ⟨"RepairGroupsModel", "cost", "(II)I"⟩
abbrev bb_Mo_rank : ByteArray := prog_7_method_32_code
def yy_Mo_rank : MethodName := ⟨"RepairGroupsModel", "rank", "(I)I"⟩
abbrev bb_Mo_lost : ByteArray := prog_7_method_33_code
def yy_Mo_lost : MethodName := ⟨"RepairGroupsModel", "lost", "(I)I"⟩
abbrev bb_Mo_content : ByteArray := prog_7_method_34_code
def yy_Mo_content : MethodName := ⟨"RepairGroupsModel", "content", "(II)J"⟩
abbrev bb_Mo_node : ByteArray := prog_7_method_35_code
def yy_Mo_node : MethodName := ⟨"RepairGroupsModel", "node", "(II)I"⟩
abbrev bb_Mo_up : ByteArray := prog_7_method_36_code
def yy_Mo_up : MethodName := ⟨"RepairGroupsModel", "up", "(I)Z"⟩
abbrev bb_Mo_count : ByteArray := prog_7_method_37_code
def yy_Mo_count : MethodName := ⟨"RepairGroupsModel", "count", "(I)I"⟩
abbrev bb_Mo_size : ByteArray := prog_7_method_38_code
def yy_Mo_size : MethodName := ⟨"RepairGroupsModel", "size", "()I"⟩
abbrev bb_La_cell : ByteArray := method_2_code
def yy_La_cell : MethodName := ⟨"RepairGroupsLaw", "cell", "([II)I"⟩
abbrev bb_La_law : ByteArray := code
def yy_La_law : MethodName := ⟨"RepairGroupsLaw", "law", "([I)Z"⟩
abbrev bb_In_bitCount : ByteArray := prog_8_method_49_code
def yy_In_bitCount : MethodName := ⟨"java/lang/Integer", "bitCount", "(I)I"⟩
def ff_RG : u_T := fun k => match k with
  | 0 => ("RepairGroups", "code", "LRepairGroups$Code;", true)
  | 1 => ("RepairGroups", "span", "LRepairGroups$Span;", true)
  | 2 => ("RepairGroups", "stripes", "[LRepairGroups$Stripe;", true)
  | 3 => ("RepairGroups", "nodeUp", "[Z", true)
  | 4 => ("RepairGroups", "counters", "[I", true)
  | 5 => ("RepairGroups", "latestFetched", "J", false)
  | _ => ("RepairGroups", "rebuilt", "J", false)
def ty_RG : Nat → FieldType := fun k => match k with
  | 0 => .object "RepairGroups$Code"
  | 1 => .object "RepairGroups$Span"
  | 2 => .array (.object "RepairGroups$Stripe")
  | 3 => .array .boolean
  | 4 => .array .int
  | 5 => .long
  | _ => .long
theorem nn_RG : ∀ a, a < 7 → ∀ b, b < 7 → a ≠ b → (ff_RG a).2.1 ≠ (ff_RG b).2.1 := by decide +kernel
theorem tt_RG : ∀ k, k < 7 → parseFieldDescriptor (ff_RG k).2.2.1 = some (ty_RG k) := by decide +kernel
def ff_Co : u_T := fun k => match k with
  | 0 => ("RepairGroups$Code", "shards", "I", true)
  | 1 => ("RepairGroups$Code", "rows", "[J", true)
  | _ => ("RepairGroups$Code", "grouped", "Z", true)
def ty_Co : Nat → FieldType := fun k => match k with
  | 0 => .int
  | 1 => .array .long
  | _ => .boolean
theorem nn_Co : ∀ a, a < 3 → ∀ b, b < 3 → a ≠ b → (ff_Co a).2.1 ≠ (ff_Co b).2.1 := by decide +kernel
theorem tt_Co : ∀ k, k < 3 → parseFieldDescriptor (ff_Co k).2.2.1 = some (ty_Co k) := by decide +kernel
def ff_Sp : u_T := fun k => match k with
  | 0 => ("RepairGroups$Span", "rows", "[J", true)
  | _ => ("RepairGroups$Span", "values", "[J", true)
def ty_Sp : Nat → FieldType := fun k => match k with
  | 0 => .array .long
  | _ => .array .long
theorem nn_Sp : ∀ a, a < 2 → ∀ b, b < 2 → a ≠ b → (ff_Sp a).2.1 ≠ (ff_Sp b).2.1 := by decide +kernel
theorem tt_Sp : ∀ k, k < 2 → parseFieldDescriptor (ff_Sp k).2.2.1 = some (ty_Sp k) := by decide +kernel
def ff_Sq : u_T := fun k => match k with
  | 0 => ("RepairGroups$Stripe", "firstNode", "I", true)
  | 1 => ("RepairGroups$Stripe", "all", "I", true)
  | 2 => ("RepairGroups$Stripe", "written", "[J", true)
  | 3 => ("RepairGroups$Stripe", "flipped", "[J", true)
  | _ => ("RepairGroups$Stripe", "there", "I", false)
def ty_Sq : Nat → FieldType := fun k => match k with
  | 0 => .int
  | 1 => .int
  | 2 => .array .long
  | 3 => .array .long
  | _ => .int
theorem nn_Sq : ∀ a, a < 5 → ∀ b, b < 5 → a ≠ b → (ff_Sq a).2.1 ≠ (ff_Sq b).2.1 := by decide +kernel
theorem tt_Sq : ∀ k, k < 5 → parseFieldDescriptor (ff_Sq k).2.2.1 = some (ty_Sq k) := by decide +kernel
def ff_Mo : u_T := fun k => match k with
  | 0 => ("RepairGroupsModel", "kind", "I", false)
  | 1 => ("RepairGroupsModel", "n", "I", false)
  | 2 => ("RepairGroupsModel", "rows", "[I", false)
  | 3 => ("RepairGroupsModel", "data", "[J", false)
  | 4 => ("RepairGroupsModel", "there", "[Z", false)
  | 5 => ("RepairGroupsModel", "flips", "[J", false)
  | 6 => ("RepairGroupsModel", "down", "[Z", false)
  | 7 => ("RepairGroupsModel", "reads", "I", false)
  | 8 => ("RepairGroupsModel", "writes", "I", false)
  | 9 => ("RepairGroupsModel", "crossings", "I", false)
  | 10 => ("RepairGroupsModel", "plans", "I", false)
  | 11 => ("RepairGroupsModel", "latest", "J", false)
  | 12 => ("RepairGroupsModel", "planSize", "I", false)
  | 13 => ("RepairGroupsModel", "plan", "[I", false)
  | 14 => ("RepairGroupsModel", "taken", "I", false)
  | 15 => ("RepairGroupsModel", "basis", "[I", false)
  | 16 => ("RepairGroupsModel", "pivot", "[I", false)
  | _ => ("RepairGroupsModel", "row", "[I", false)
def ty_Mo : Nat → FieldType := fun k => match k with
  | 0 => .int
  | 1 => .int
  | 2 => .array .int
  | 3 => .array .long
  | 4 => .array .boolean
  | 5 => .array .long
  | 6 => .array .boolean
  | 7 => .int
  | 8 => .int
  | 9 => .int
  | 10 => .int
  | 11 => .long
  | 12 => .int
  | 13 => .array .int
  | 14 => .int
  | 15 => .array .int
  | 16 => .array .int
  | _ => .array .int
theorem nn_Mo : ∀ a, a < 18 → ∀ b, b < 18 → a ≠ b → (ff_Mo a).2.1 ≠ (ff_Mo b).2.1 := by decide +kernel
theorem tt_Mo : ∀ k, k < 18 → parseFieldDescriptor (ff_Mo k).2.2.1 = some (ty_Mo k) := by decide +kernel
abbrev cl_all : List vw_C := [("RepairGroups", ff_RG, 7), ("RepairGroups$Code", ff_Co, 3), ("RepairGroups$Span", ff_Sp, 2), ("RepairGroups$Stripe", ff_Sq, 5), ("RepairGroupsModel", ff_Mo, 18)]
def tyA (K : Nat → ClassId) : List (ClassId × FieldType) := [(K 0, .long), (K 1, .int), (K 2, .boolean), (K 3, .object "RepairGroups$Stripe")]
def aO : List String := ["RepairGroups$Stripe"]
theorem ao_Sq : "RepairGroups$Stripe" ∈ aO := List.mem_cons_self
end
section
set_option maxRecDepth 100000 in
def wA : List Cond := [
  .laysFinal "RepairGroups" "RepairGroups" "code" "LRepairGroups$Code;",
  .laysFinal "RepairGroups" "RepairGroups" "span" "LRepairGroups$Span;",
  .laysFinal "RepairGroups" "RepairGroups" "stripes" "[LRepairGroups$Stripe;",
  .laysFinal "RepairGroups" "RepairGroups" "nodeUp" "[Z",
  .laysFinal "RepairGroups" "RepairGroups" "counters" "[I",
  .lays "RepairGroups" "RepairGroups" "latestFetched" "J",
  .lays "RepairGroups" "RepairGroups" "rebuilt" "J",
  .laysFinal "RepairGroups$Code" "RepairGroups$Code" "shards" "I",
  .laysFinal "RepairGroups$Code" "RepairGroups$Code" "rows" "[J",
  .laysFinal "RepairGroups$Code" "RepairGroups$Code" "grouped" "Z",
  .laysFinal "RepairGroups$Span" "RepairGroups$Span" "rows" "[J",
  .laysFinal "RepairGroups$Span" "RepairGroups$Span" "values" "[J",
  .laysFinal "RepairGroups$Stripe" "RepairGroups$Stripe" "firstNode" "I",
  .laysFinal "RepairGroups$Stripe" "RepairGroups$Stripe" "all" "I",
  .laysFinal "RepairGroups$Stripe" "RepairGroups$Stripe" "written" "[J",
  .laysFinal "RepairGroups$Stripe" "RepairGroups$Stripe" "flipped" "[J",
  .lays "RepairGroups$Stripe" "RepairGroups$Stripe" "there" "I",
  .lays "RepairGroupsModel" "RepairGroupsModel" "kind" "I",
  .lays "RepairGroupsModel" "RepairGroupsModel" "n" "I",
  .lays "RepairGroupsModel" "RepairGroupsModel" "rows" "[I",
  .lays "RepairGroupsModel" "RepairGroupsModel" "data" "[J",
  .lays "RepairGroupsModel" "RepairGroupsModel" "there" "[Z",
  .lays "RepairGroupsModel" "RepairGroupsModel" "flips" "[J",
  .lays "RepairGroupsModel" "RepairGroupsModel" "down" "[Z",
  .lays "RepairGroupsModel" "RepairGroupsModel" "reads" "I",
  .lays "RepairGroupsModel" "RepairGroupsModel" "writes" "I",
  .lays "RepairGroupsModel" "RepairGroupsModel" "crossings" "I",
  .lays "RepairGroupsModel" "RepairGroupsModel" "plans" "I",
  .lays "RepairGroupsModel" "RepairGroupsModel" "latest" "J",
  .lays "RepairGroupsModel" "RepairGroupsModel" "planSize" "I",
  .lays "RepairGroupsModel" "RepairGroupsModel" "plan" "[I",
  .lays "RepairGroupsModel" "RepairGroupsModel" "taken" "I",
  .lays "RepairGroupsModel" "RepairGroupsModel" "basis" "[I",
  .lays "RepairGroupsModel" "RepairGroupsModel" "pivot" "[I",
  .lays "RepairGroupsModel" "RepairGroupsModel" "row" "[I",
  .code yy_RG_init bb_RG_init 3 none,
  .methodLink "RepairGroups" 1 objectInit,
  .instanceMethod objectInit,
  .code objectInit ⟨#[0xb1]⟩ 1 none,
  .classLink "RepairGroups" 7 "RepairGroups$Code",
  .instantiable "RepairGroups$Code" 3,
  .initialized "RepairGroups$Code",
  .methodLink "RepairGroups" 9 yy_Co_init,
  .instanceMethod yy_Co_init,
  .fieldLink "RepairGroups" 12 "RepairGroups" "code" "LRepairGroups$Code;",
  .classLink "RepairGroups" 18 "RepairGroups$Span",
  .instantiable "RepairGroups$Span" 2,
  .initialized "RepairGroups$Span",
  .instanceMethod yy_Sp_init,
  .fieldLink "RepairGroups" 21 "RepairGroups" "span" "LRepairGroups$Span;",
  .classLink "RepairGroups" 25 "RepairGroups$Stripe",
  .fieldLink "RepairGroups" 27 "RepairGroups" "stripes" "[LRepairGroups$Stripe;",
  .instantiable "RepairGroups$Stripe" 5,
  .initialized "RepairGroups$Stripe",
  .methodLink "RepairGroups" 35 yy_Sq_init,
  .instanceMethod yy_Sq_init,
  .arrayClass .boolean,
  .fieldLink "RepairGroups" 38 "RepairGroups" "nodeUp" "[Z",
  .arrayClass .int,
  .fieldLink "RepairGroups" 42 "RepairGroups" "counters" "[I",
  .code yy_RG_put bb_RG_put 7 (some .int),
  .methodLink "RepairGroups" 46 yy_RG_isStripe,
  .initialized "RepairGroups",
  .static yy_RG_isStripe,
  .methodLink "RepairGroups" 50 yy_Sq_isThere,
  .instanceMethod yy_Sq_isThere,
  .selects "RepairGroups$Stripe" yy_Sq_isThere yy_Sq_isThere,
  .methodLink "RepairGroups" 53 yy_RG_readShard,
  .instanceMethod yy_RG_readShard,
  .selects "RepairGroups" yy_RG_readShard yy_RG_readShard,
  .methodLink "RepairGroups" 57 yy_Sq_held,
  .instanceMethod yy_Sq_held,
  .selects "RepairGroups$Stripe" yy_Sq_held yy_Sq_held,
  .methodLink "RepairGroups" 61 yy_RG_updateCoded,
  .instanceMethod yy_RG_updateCoded,
  .selects "RepairGroups" yy_RG_updateCoded yy_RG_updateCoded,
  .methodLink "RepairGroups" 65 yy_RG_writeShard,
  .instanceMethod yy_RG_writeShard,
  .selects "RepairGroups" yy_RG_writeShard yy_RG_writeShard,
  .code yy_RG_fetch bb_RG_fetch 5 (some .int),
  .methodLink "RepairGroups" 69 yy_RG_isShard,
  .instanceMethod yy_RG_isShard,
  .selects "RepairGroups" yy_RG_isShard yy_RG_isShard,
  .fieldLink "RepairGroups" 73 "RepairGroups" "latestFetched" "J",
  .methodLink "RepairGroups" 77 yy_RG_followPlans,
  .instanceMethod yy_RG_followPlans,
  .selects "RepairGroups" yy_RG_followPlans yy_RG_followPlans,
  .fieldLink "RepairGroups" 81 "RepairGroups" "rebuilt" "J",
  .code yy_RG_fetched bb_RG_fetched 1 (some .long),
  .code yy_RG_fail bb_RG_fail 4 (some .int),
  .methodLink "RepairGroups" 84 yy_RG_isNode,
  .static yy_RG_isNode,
  .methodLink "RepairGroups" 87 yy_RG_dropShardsOn,
  .instanceMethod yy_RG_dropShardsOn,
  .selects "RepairGroups" yy_RG_dropShardsOn yy_RG_dropShardsOn,
  .code yy_RG_revive bb_RG_revive 2 (some .boolean),
  .code yy_RG_damage bb_RG_damage 4 (some .boolean),
  .methodLink "RepairGroups" 90 yy_Sq_flip,
  .instanceMethod yy_Sq_flip,
  .selects "RepairGroups$Stripe" yy_Sq_flip yy_Sq_flip,
  .code yy_RG_repair bb_RG_repair 4 (some .int),
  .methodLink "RepairGroups" 93 yy_Sq_nodeOf,
  .instanceMethod yy_Sq_nodeOf,
  .selects "RepairGroups$Stripe" yy_Sq_nodeOf yy_Sq_nodeOf,
  .methodLink "RepairGroups" 97 yy_RG_rebuild,
  .instanceMethod yy_RG_rebuild,
  .selects "RepairGroups" yy_RG_rebuild yy_RG_rebuild,
  .code yy_RG_mend bb_RG_mend 6 (some .int),
  .methodLink "RepairGroups" 100 yy_RG_nextToMend,
  .instanceMethod yy_RG_nextToMend,
  .selects "RepairGroups" yy_RG_nextToMend yy_RG_nextToMend,
  .code yy_RG_scrub bb_RG_scrub 5 (some .int),
  .code yy_RG_cost bb_RG_cost 4 (some .int),
  .methodLink "RepairGroups" 104 yy_RG_choosePlan,
  .instanceMethod yy_RG_choosePlan,
  .selects "RepairGroups" yy_RG_choosePlan yy_RG_choosePlan,
  .methodLink "RepairGroups" 107 yy_In_bitCount,
  .initialized "java/lang/Integer",
  .static yy_In_bitCount,
  .code yy_RG_rank bb_RG_rank 2 (some .int),
  .methodLink "RepairGroups" 112 yy_RG_independentShards,
  .instanceMethod yy_RG_independentShards,
  .selects "RepairGroups" yy_RG_independentShards yy_RG_independentShards,
  .code yy_RG_lost bb_RG_lost 2 (some .int),
  .methodLink "RepairGroups" 115 yy_Sq_lostMask,
  .instanceMethod yy_Sq_lostMask,
  .selects "RepairGroups$Stripe" yy_Sq_lostMask yy_Sq_lostMask,
  .code yy_RG_content bb_RG_content 3 (some .long),
  .code yy_RG_node bb_RG_node 3 (some .int),
  .code yy_RG_up bb_RG_up 2 (some .boolean),
  .code yy_RG_count bb_RG_count 2 (some .int),
  .code yy_RG_size bb_RG_size 1 (some .int),
  .code yy_RG_isStripe bb_RG_isStripe 1 (some .boolean),
  .code yy_RG_isShard bb_RG_isShard 3 (some .boolean),
  .code yy_RG_isNode bb_RG_isNode 1 (some .boolean),
  .code yy_RG_readShard bb_RG_readShard 3 (some .boolean),
  .methodLink "RepairGroups" 119 yy_Sq_isDamaged,
  .instanceMethod yy_Sq_isDamaged,
  .selects "RepairGroups$Stripe" yy_Sq_isDamaged yy_Sq_isDamaged,
  .methodLink "RepairGroups" 122 yy_Sq_lose,
  .instanceMethod yy_Sq_lose,
  .selects "RepairGroups$Stripe" yy_Sq_lose yy_Sq_lose,
  .code yy_RG_readShardFor bb_RG_readShardFor 5 (some .boolean),
  .code yy_RG_writeShard bb_RG_writeShard 5 none,
  .methodLink "RepairGroups" 125 yy_Sq_store,
  .instanceMethod yy_Sq_store,
  .selects "RepairGroups$Stripe" yy_Sq_store yy_Sq_store,
  .code yy_RG_updateCoded bb_RG_updateCoded 8 (some .int),
  .methodLink "RepairGroups" 133 yy_By_at,
  .initialized "RepairGroups$Bytes",
  .static yy_By_at,
  .methodLink "RepairGroups" 139 yy_RG_readShardFor,
  .instanceMethod yy_RG_readShardFor,
  .selects "RepairGroups" yy_RG_readShardFor yy_RG_readShardFor,
  .methodLink "RepairGroups" 143 yy_By_times,
  .static yy_By_times,
  .code yy_RG_dropShardsOn bb_RG_dropShardsOn 5 (some .int),
  .code yy_RG_rebuild bb_RG_rebuild 4 (some .int),
  .code yy_RG_followPlans bb_RG_followPlans 5 (some .int),
  .methodLink "RepairGroups" 147 yy_RG_readPlan,
  .instanceMethod yy_RG_readPlan,
  .selects "RepairGroups" yy_RG_readPlan yy_RG_readPlan,
  .methodLink "RepairGroups" 150 yy_RG_decode,
  .instanceMethod yy_RG_decode,
  .selects "RepairGroups" yy_RG_decode yy_RG_decode,
  .code yy_RG_readPlan bb_RG_readPlan 5 (some .boolean),
  .methodLink "RepairGroups" 154 yy_RG_isIn,
  .static yy_RG_isIn,
  .code yy_RG_decode bb_RG_decode 5 (some .long),
  .methodLink "RepairGroups" 157 yy_Sp_clear,
  .instanceMethod yy_Sp_clear,
  .selects "RepairGroups$Span" yy_Sp_clear yy_Sp_clear,
  .methodLink "RepairGroups" 160 yy_Sp_take,
  .instanceMethod yy_Sp_take,
  .selects "RepairGroups$Span" yy_Sp_take yy_Sp_take,
  .methodLink "RepairGroups" 164 yy_Sp_valueOf,
  .instanceMethod yy_Sp_valueOf,
  .selects "RepairGroups$Span" yy_Sp_valueOf yy_Sp_valueOf,
  .code yy_RG_choosePlan bb_RG_choosePlan 4 (some .int),
  .methodLink "RepairGroups" 168 yy_RG_localPlan,
  .instanceMethod yy_RG_localPlan,
  .selects "RepairGroups" yy_RG_localPlan yy_RG_localPlan,
  .methodLink "RepairGroups" 171 yy_RG_globalPlan,
  .static yy_RG_globalPlan,
  .code yy_RG_localPlan bb_RG_localPlan 4 (some .int),
  .methodLink "RepairGroups" 174 yy_Co_groupOf,
  .instanceMethod yy_Co_groupOf,
  .selects "RepairGroups$Code" yy_Co_groupOf yy_Co_groupOf,
  .code yy_RG_globalPlan bb_RG_globalPlan 1 (some .int),
  .code yy_RG_independentShards bb_RG_independentShards 4 (some .int),
  .code yy_RG_nextToMend bb_RG_nextToMend 4 (some .int),
  .methodLink "RepairGroups" 177 yy_RG_canBeWritten,
  .instanceMethod yy_RG_canBeWritten,
  .selects "RepairGroups" yy_RG_canBeWritten yy_RG_canBeWritten,
  .code yy_RG_canBeWritten bb_RG_canBeWritten 3 (some .boolean),
  .code yy_RG_isIn bb_RG_isIn 2 (some .boolean),
  .code yy_By_at bb_By_at 3 (some .int),
  .code yy_By_placed bb_By_placed 2 (some .long),
  .code yy_By_times bb_By_times 12 (some .long),
  .constantLong "RepairGroups$Bytes" 9 (72340172838076673),
  .constantLong "RepairGroups$Bytes" 11 (9187201950435737471),
  .constantLong "RepairGroups$Bytes" 13 (29),
  .code yy_By_inverse bb_By_inverse 4 (some .int),
  .methodLink "RepairGroups$Bytes" 15 yy_By_times,
  .code yy_Co_init bb_Co_init 3 none,
  .methodLink "RepairGroups$Code" 3 objectInit,
  .fieldLink "RepairGroups$Code" 11 "RepairGroups$Code" "shards" "I",
  .fieldLink "RepairGroups$Code" 15 "RepairGroups$Code" "grouped" "Z",
  .arrayClass .long,
  .fieldLink "RepairGroups$Code" 19 "RepairGroups$Code" "rows" "[J",
  .methodLink "RepairGroups$Code" 23 yy_Co_groupedRow,
  .static yy_Co_groupedRow,
  .methodLink "RepairGroups$Code" 27 yy_Co_plainRow,
  .static yy_Co_plainRow,
  .code yy_Co_plainRow bb_Co_plainRow 1 (some .long),
  .methodLink "RepairGroups$Code" 30 yy_By_placed,
  .static yy_By_placed,
  .methodLink "RepairGroups$Code" 36 yy_Co_inversesRow,
  .static yy_Co_inversesRow,
  .code yy_Co_groupedRow bb_Co_groupedRow 1 (some .long),
  .constantLong "RepairGroups$Code" 39 (65793),
  .constantLong "RepairGroups$Code" 41 (1103823372288),
  .code yy_Co_inversesRow bb_Co_inversesRow 4 (some .long),
  .methodLink "RepairGroups$Code" 43 yy_By_inverse,
  .static yy_By_inverse,
  .code yy_Co_groupOf bb_Co_groupOf 2 (some .int),
  .code yy_Sp_init bb_Sp_init 1 none,
  .methodLink "RepairGroups$Span" 3 objectInit,
  .fieldLink "RepairGroups$Span" 9 "RepairGroups$Span" "rows" "[J",
  .fieldLink "RepairGroups$Span" 15 "RepairGroups$Span" "values" "[J",
  .code yy_Sp_clear bb_Sp_clear 2 none,
  .code yy_Sp_take bb_Sp_take 12 (some .boolean),
  .methodLink "RepairGroups$Span" 18 yy_By_at,
  .methodLink "RepairGroups$Span" 24 yy_By_inverse,
  .methodLink "RepairGroups$Span" 28 yy_By_times,
  .code yy_Sp_valueOf bb_Sp_valueOf 9 (some .long),
  .code yy_Sq_init bb_Sq_init 3 none,
  .methodLink "RepairGroups$Stripe" 3 objectInit,
  .fieldLink "RepairGroups$Stripe" 11 "RepairGroups$Stripe" "firstNode" "I",
  .fieldLink "RepairGroups$Stripe" 15 "RepairGroups$Stripe" "all" "I",
  .fieldLink "RepairGroups$Stripe" 18 "RepairGroups$Stripe" "written" "[J",
  .fieldLink "RepairGroups$Stripe" 22 "RepairGroups$Stripe" "flipped" "[J",
  .fieldLink "RepairGroups$Stripe" 25 "RepairGroups$Stripe" "there" "I",
  .code yy_Sq_nodeOf bb_Sq_nodeOf 2 (some .int),
  .code yy_Sq_isThere bb_Sq_isThere 2 (some .boolean),
  .code yy_Sq_lostMask bb_Sq_lostMask 1 (some .int),
  .code yy_Sq_isDamaged bb_Sq_isDamaged 2 (some .boolean),
  .code yy_Sq_held bb_Sq_held 2 (some .long),
  .code yy_Sq_flip bb_Sq_flip 3 none,
  .code yy_Sq_lose bb_Sq_lose 2 none,
  .code yy_Sq_store bb_Sq_store 4 none,
  .code yy_Mo_init bb_Mo_init 4 none,
  .methodLink "RepairGroupsModel" 1 objectInit,
  .fieldLink "RepairGroupsModel" 7 "RepairGroupsModel" "rows" "[I",
  .fieldLink "RepairGroupsModel" 13 "RepairGroupsModel" "data" "[J",
  .fieldLink "RepairGroupsModel" 17 "RepairGroupsModel" "there" "[Z",
  .fieldLink "RepairGroupsModel" 21 "RepairGroupsModel" "flips" "[J",
  .fieldLink "RepairGroupsModel" 24 "RepairGroupsModel" "down" "[Z",
  .fieldLink "RepairGroupsModel" 27 "RepairGroupsModel" "plan" "[I",
  .fieldLink "RepairGroupsModel" 30 "RepairGroupsModel" "basis" "[I",
  .fieldLink "RepairGroupsModel" 33 "RepairGroupsModel" "pivot" "[I",
  .fieldLink "RepairGroupsModel" 36 "RepairGroupsModel" "row" "[I",
  .fieldLink "RepairGroupsModel" 39 "RepairGroupsModel" "kind" "I",
  .fieldLink "RepairGroupsModel" 43 "RepairGroupsModel" "n" "I",
  .methodLink "RepairGroupsModel" 46 yy_Mo_coefficient,
  .initialized "RepairGroupsModel",
  .instanceMethod yy_Mo_coefficient,
  .selects "RepairGroupsModel" yy_Mo_coefficient yy_Mo_coefficient,
  .code yy_Mo_product bb_Mo_product 5 (some .int),
  .code yy_Mo_inverse bb_Mo_inverse 4 (some .int),
  .methodLink "RepairGroupsModel" 50 yy_Mo_product,
  .instanceMethod yy_Mo_product,
  .selects "RepairGroupsModel" yy_Mo_product yy_Mo_product,
  .code yy_Mo_coefficient bb_Mo_coefficient 3 (some .int),
  .methodLink "RepairGroupsModel" 53 yy_Mo_inverse,
  .instanceMethod yy_Mo_inverse,
  .selects "RepairGroupsModel" yy_Mo_inverse yy_Mo_inverse,
  .code yy_Mo_byteOf bb_Mo_byteOf 4 (some .int),
  .constantLong "RepairGroupsModel" 57 (255),
  .code yy_Mo_value bb_Mo_value 9 (some .long),
  .methodLink "RepairGroupsModel" 59 yy_Mo_byteOf,
  .instanceMethod yy_Mo_byteOf,
  .selects "RepairGroupsModel" yy_Mo_byteOf yy_Mo_byteOf,
  .code yy_Mo_noStripe bb_Mo_noStripe 2 (some .boolean),
  .code yy_Mo_noShard bb_Mo_noShard 3 (some .boolean),
  .methodLink "RepairGroupsModel" 63 yy_Mo_noStripe,
  .instanceMethod yy_Mo_noStripe,
  .selects "RepairGroupsModel" yy_Mo_noStripe yy_Mo_noStripe,
  .code yy_Mo_place bb_Mo_place 3 (some .int),
  .code yy_Mo_cell bb_Mo_cell 3 (some .int),
  .code yy_Mo_rejected bb_Mo_rejected 4 (some .boolean),
  .fieldLink "RepairGroupsModel" 67 "RepairGroupsModel" "reads" "I",
  .methodLink "RepairGroupsModel" 70 yy_Mo_cell,
  .instanceMethod yy_Mo_cell,
  .selects "RepairGroupsModel" yy_Mo_cell yy_Mo_cell,
  .code yy_Mo_rejectedFor bb_Mo_rejectedFor 4 (some .boolean),
  .fieldLink "RepairGroupsModel" 73 "RepairGroupsModel" "crossings" "I",
  .methodLink "RepairGroupsModel" 76 yy_Mo_place,
  .instanceMethod yy_Mo_place,
  .selects "RepairGroupsModel" yy_Mo_place yy_Mo_place,
  .methodLink "RepairGroupsModel" 79 yy_Mo_rejected,
  .instanceMethod yy_Mo_rejected,
  .selects "RepairGroupsModel" yy_Mo_rejected yy_Mo_rejected,
  .code yy_Mo_written bb_Mo_written 3 none,
  .fieldLink "RepairGroupsModel" 83 "RepairGroupsModel" "writes" "I",
  .code yy_Mo_grouped bb_Mo_grouped 3 (some .boolean),
  .methodLink "RepairGroupsModel" 86 yy_Mo_group,
  .instanceMethod yy_Mo_group,
  .selects "RepairGroupsModel" yy_Mo_group yy_Mo_group,
  .code yy_Mo_group bb_Mo_group 2 (some .int),
  .code yy_Mo_local bb_Mo_local 6 (some .boolean),
  .methodLink "RepairGroupsModel" 89 yy_Mo_grouped,
  .instanceMethod yy_Mo_grouped,
  .selects "RepairGroupsModel" yy_Mo_grouped yy_Mo_grouped,
  .code yy_Mo_adds bb_Mo_adds 5 (some .boolean),
  .fieldLink "RepairGroupsModel" 92 "RepairGroupsModel" "taken" "I",
  .code yy_Mo_goOver bb_Mo_goOver 3 none,
  .fieldLink "RepairGroupsModel" 95 "RepairGroupsModel" "planSize" "I",
  .methodLink "RepairGroupsModel" 98 yy_Mo_adds,
  .instanceMethod yy_Mo_adds,
  .selects "RepairGroupsModel" yy_Mo_adds yy_Mo_adds,
  .code yy_Mo_choose bb_Mo_choose 4 (some .boolean),
  .methodLink "RepairGroupsModel" 101 yy_Mo_local,
  .instanceMethod yy_Mo_local,
  .selects "RepairGroupsModel" yy_Mo_local yy_Mo_local,
  .methodLink "RepairGroupsModel" 104 yy_Mo_goOver,
  .instanceMethod yy_Mo_goOver,
  .selects "RepairGroupsModel" yy_Mo_goOver yy_Mo_goOver,
  .code yy_Mo_follow bb_Mo_follow 7 (some .int),
  .methodLink "RepairGroupsModel" 108 yy_Mo_choose,
  .instanceMethod yy_Mo_choose,
  .selects "RepairGroupsModel" yy_Mo_choose yy_Mo_choose,
  .fieldLink "RepairGroupsModel" 111 "RepairGroupsModel" "plans" "I",
  .methodLink "RepairGroupsModel" 114 yy_Mo_rejectedFor,
  .instanceMethod yy_Mo_rejectedFor,
  .selects "RepairGroupsModel" yy_Mo_rejectedFor yy_Mo_rejectedFor,
  .code yy_Mo_put bb_Mo_put 7 (some .int),
  .methodLink "RepairGroupsModel" 118 yy_Mo_written,
  .instanceMethod yy_Mo_written,
  .selects "RepairGroupsModel" yy_Mo_written yy_Mo_written,
  .code yy_Mo_fetch bb_Mo_fetch 5 (some .int),
  .methodLink "RepairGroupsModel" 122 yy_Mo_noShard,
  .instanceMethod yy_Mo_noShard,
  .selects "RepairGroupsModel" yy_Mo_noShard yy_Mo_noShard,
  .methodLink "RepairGroupsModel" 125 yy_Mo_follow,
  .instanceMethod yy_Mo_follow,
  .selects "RepairGroupsModel" yy_Mo_follow yy_Mo_follow,
  .methodLink "RepairGroupsModel" 128 yy_Mo_value,
  .instanceMethod yy_Mo_value,
  .selects "RepairGroupsModel" yy_Mo_value yy_Mo_value,
  .fieldLink "RepairGroupsModel" 132 "RepairGroupsModel" "latest" "J",
  .code yy_Mo_fetched bb_Mo_fetched 1 (some .long),
  .code yy_Mo_fail bb_Mo_fail 5 (some .int),
  .code yy_Mo_revive bb_Mo_revive 2 (some .boolean),
  .code yy_Mo_damage bb_Mo_damage 4 (some .boolean),
  .code yy_Mo_repair bb_Mo_repair 4 (some .int),
  .code yy_Mo_next bb_Mo_next 5 (some .int),
  .code yy_Mo_mend bb_Mo_mend 5 (some .int),
  .methodLink "RepairGroupsModel" 136 yy_Mo_next,
  .instanceMethod yy_Mo_next,
  .selects "RepairGroupsModel" yy_Mo_next yy_Mo_next,
  .methodLink "RepairGroupsModel" 139 yy_Mo_repair,
  .instanceMethod yy_Mo_repair,
  .selects "RepairGroupsModel" yy_Mo_repair yy_Mo_repair,
  .code yy_Mo_scrub bb_Mo_scrub 4 (some .int),
  .code yy_Mo_cost bb_Mo_cost 3 (some .int),
  .code yy_Mo_rank bb_Mo_rank 2 (some .int),
  .code yy_Mo_lost bb_Mo_lost 4 (some .int),
  .code yy_Mo_content bb_Mo_content 3 (some .long),
  .code yy_Mo_node bb_Mo_node 3 (some .int),
  .code yy_Mo_up bb_Mo_up 2 (some .boolean),
  .code yy_Mo_count bb_Mo_count 2 (some .int),
  .code yy_Mo_size bb_Mo_size 1 (some .int),
  .code yy_La_cell bb_La_cell 2 (some .int),
  .classLink "RepairGroupsLaw" 7 "RepairGroups",
  .instantiable "RepairGroups" 7,
  .methodLink "RepairGroupsLaw" 9 yy_La_cell,
  .initialized "RepairGroupsLaw",
  .static yy_La_cell,
  .methodLink "RepairGroupsLaw" 15 yy_RG_init,
  .instanceMethod yy_RG_init,
  .classLink "RepairGroupsLaw" 18 "RepairGroupsModel",
  .instantiable "RepairGroupsModel" 18,
  .methodLink "RepairGroupsLaw" 20 yy_Mo_init,
  .instanceMethod yy_Mo_init,
  .constantLong "RepairGroupsLaw" 21 (4294967295),
  .methodLink "RepairGroupsLaw" 23 yy_RG_put,
  .instanceMethod yy_RG_put,
  .selects "RepairGroups" yy_RG_put yy_RG_put,
  .methodLink "RepairGroupsLaw" 27 yy_Mo_put,
  .instanceMethod yy_Mo_put,
  .selects "RepairGroupsModel" yy_Mo_put yy_Mo_put,
  .methodLink "RepairGroupsLaw" 28 yy_RG_fetch,
  .instanceMethod yy_RG_fetch,
  .selects "RepairGroups" yy_RG_fetch yy_RG_fetch,
  .methodLink "RepairGroupsLaw" 32 yy_Mo_fetch,
  .instanceMethod yy_Mo_fetch,
  .selects "RepairGroupsModel" yy_Mo_fetch yy_Mo_fetch,
  .methodLink "RepairGroupsLaw" 33 yy_RG_fetched,
  .instanceMethod yy_RG_fetched,
  .selects "RepairGroups" yy_RG_fetched yy_RG_fetched,
  .methodLink "RepairGroupsLaw" 37 yy_Mo_fetched,
  .instanceMethod yy_Mo_fetched,
  .selects "RepairGroupsModel" yy_Mo_fetched yy_Mo_fetched,
  .methodLink "RepairGroupsLaw" 38 yy_RG_fail,
  .instanceMethod yy_RG_fail,
  .selects "RepairGroups" yy_RG_fail yy_RG_fail,
  .methodLink "RepairGroupsLaw" 42 yy_Mo_fail,
  .instanceMethod yy_Mo_fail,
  .selects "RepairGroupsModel" yy_Mo_fail yy_Mo_fail,
  .methodLink "RepairGroupsLaw" 43 yy_RG_revive,
  .instanceMethod yy_RG_revive,
  .selects "RepairGroups" yy_RG_revive yy_RG_revive,
  .methodLink "RepairGroupsLaw" 47 yy_Mo_revive,
  .instanceMethod yy_Mo_revive,
  .selects "RepairGroupsModel" yy_Mo_revive yy_Mo_revive,
  .methodLink "RepairGroupsLaw" 48 yy_RG_damage,
  .instanceMethod yy_RG_damage,
  .selects "RepairGroups" yy_RG_damage yy_RG_damage,
  .methodLink "RepairGroupsLaw" 52 yy_Mo_damage,
  .instanceMethod yy_Mo_damage,
  .selects "RepairGroupsModel" yy_Mo_damage yy_Mo_damage,
  .methodLink "RepairGroupsLaw" 53 yy_RG_repair,
  .instanceMethod yy_RG_repair,
  .selects "RepairGroups" yy_RG_repair yy_RG_repair,
  .methodLink "RepairGroupsLaw" 56 yy_Mo_repair,
  .methodLink "RepairGroupsLaw" 57 yy_RG_mend,
  .instanceMethod yy_RG_mend,
  .selects "RepairGroups" yy_RG_mend yy_RG_mend,
  .methodLink "RepairGroupsLaw" 60 yy_Mo_mend,
  .instanceMethod yy_Mo_mend,
  .selects "RepairGroupsModel" yy_Mo_mend yy_Mo_mend,
  .methodLink "RepairGroupsLaw" 61 yy_RG_scrub,
  .instanceMethod yy_RG_scrub,
  .selects "RepairGroups" yy_RG_scrub yy_RG_scrub,
  .methodLink "RepairGroupsLaw" 64 yy_Mo_scrub,
  .instanceMethod yy_Mo_scrub,
  .selects "RepairGroupsModel" yy_Mo_scrub yy_Mo_scrub,
  .methodLink "RepairGroupsLaw" 65 yy_RG_cost,
  .instanceMethod yy_RG_cost,
  .selects "RepairGroups" yy_RG_cost yy_RG_cost,
  .methodLink "RepairGroupsLaw" 68 yy_Mo_cost,
  .instanceMethod yy_Mo_cost,
  .selects "RepairGroupsModel" yy_Mo_cost yy_Mo_cost,
  .methodLink "RepairGroupsLaw" 69 yy_RG_rank,
  .instanceMethod yy_RG_rank,
  .selects "RepairGroups" yy_RG_rank yy_RG_rank,
  .methodLink "RepairGroupsLaw" 72 yy_Mo_rank,
  .instanceMethod yy_Mo_rank,
  .selects "RepairGroupsModel" yy_Mo_rank yy_Mo_rank,
  .methodLink "RepairGroupsLaw" 73 yy_RG_lost,
  .instanceMethod yy_RG_lost,
  .selects "RepairGroups" yy_RG_lost yy_RG_lost,
  .methodLink "RepairGroupsLaw" 76 yy_Mo_lost,
  .instanceMethod yy_Mo_lost,
  .selects "RepairGroupsModel" yy_Mo_lost yy_Mo_lost,
  .methodLink "RepairGroupsLaw" 77 yy_RG_content,
  .instanceMethod yy_RG_content,
  .selects "RepairGroups" yy_RG_content yy_RG_content,
  .methodLink "RepairGroupsLaw" 81 yy_Mo_content,
  .instanceMethod yy_Mo_content,
  .selects "RepairGroupsModel" yy_Mo_content yy_Mo_content,
  .methodLink "RepairGroupsLaw" 82 yy_RG_node,
  .instanceMethod yy_RG_node,
  .selects "RepairGroups" yy_RG_node yy_RG_node,
  .methodLink "RepairGroupsLaw" 85 yy_Mo_node,
  .instanceMethod yy_Mo_node,
  .selects "RepairGroupsModel" yy_Mo_node yy_Mo_node,
  .methodLink "RepairGroupsLaw" 86 yy_RG_up,
  .instanceMethod yy_RG_up,
  .selects "RepairGroups" yy_RG_up yy_RG_up,
  .methodLink "RepairGroupsLaw" 89 yy_Mo_up,
  .instanceMethod yy_Mo_up,
  .selects "RepairGroupsModel" yy_Mo_up yy_Mo_up,
  .methodLink "RepairGroupsLaw" 90 yy_RG_count,
  .instanceMethod yy_RG_count,
  .selects "RepairGroups" yy_RG_count yy_RG_count,
  .methodLink "RepairGroupsLaw" 93 yy_Mo_count,
  .instanceMethod yy_Mo_count,
  .selects "RepairGroupsModel" yy_Mo_count yy_Mo_count,
  .methodLink "RepairGroupsLaw" 94 yy_RG_size,
  .instanceMethod yy_RG_size,
  .selects "RepairGroups" yy_RG_size yy_RG_size,
  .methodLink "RepairGroupsLaw" 98 yy_Mo_size,
  .instanceMethod yy_Mo_size,
  .selects "RepairGroupsModel" yy_Mo_size yy_Mo_size,
  .code yy_In_bitCount bb_In_bitCount 1 (some .int),
  .constant "java/lang/Integer" 265 (1431655765),
  .constant "java/lang/Integer" 266 (858993459),
  .constant "java/lang/Integer" 267 (252645135)]
theorem wa_0 : (Cond.laysFinal "RepairGroups" "RepairGroups" "code" "LRepairGroups$Code;" : Cond) ∈ wA := List.mem_of_getElem? (i := 0) rfl
theorem wa_1 : (Cond.laysFinal "RepairGroups" "RepairGroups" "span" "LRepairGroups$Span;" : Cond) ∈ wA := List.mem_of_getElem? (i := 1) rfl
theorem wa_2 : (Cond.laysFinal "RepairGroups" "RepairGroups" "stripes" "[LRepairGroups$Stripe;" : Cond) ∈ wA := List.mem_of_getElem? (i := 2) rfl
theorem wa_3 : (Cond.laysFinal "RepairGroups" "RepairGroups" "nodeUp" "[Z" : Cond) ∈ wA := List.mem_of_getElem? (i := 3) rfl
theorem wa_4 : (Cond.laysFinal "RepairGroups" "RepairGroups" "counters" "[I" : Cond) ∈ wA := List.mem_of_getElem? (i := 4) rfl
theorem wa_5 : (Cond.lays "RepairGroups" "RepairGroups" "latestFetched" "J" : Cond) ∈ wA := List.mem_of_getElem? (i := 5) rfl
theorem wa_6 : (Cond.lays "RepairGroups" "RepairGroups" "rebuilt" "J" : Cond) ∈ wA := List.mem_of_getElem? (i := 6) rfl
theorem wa_7 : (Cond.laysFinal "RepairGroups$Code" "RepairGroups$Code" "shards" "I" : Cond) ∈ wA := List.mem_of_getElem? (i := 7) rfl
theorem wa_8 : (Cond.laysFinal "RepairGroups$Code" "RepairGroups$Code" "rows" "[J" : Cond) ∈ wA := List.mem_of_getElem? (i := 8) rfl
theorem wa_9 : (Cond.laysFinal "RepairGroups$Code" "RepairGroups$Code" "grouped" "Z" : Cond) ∈ wA := List.mem_of_getElem? (i := 9) rfl
theorem wa_10 : (Cond.laysFinal "RepairGroups$Span" "RepairGroups$Span" "rows" "[J" : Cond) ∈ wA := List.mem_of_getElem? (i := 10) rfl
theorem wa_11 : (Cond.laysFinal "RepairGroups$Span" "RepairGroups$Span" "values" "[J" : Cond) ∈ wA := List.mem_of_getElem? (i := 11) rfl
theorem wa_12 : (Cond.laysFinal "RepairGroups$Stripe" "RepairGroups$Stripe" "firstNode" "I" : Cond) ∈ wA := List.mem_of_getElem? (i := 12) rfl
theorem wa_13 : (Cond.laysFinal "RepairGroups$Stripe" "RepairGroups$Stripe" "all" "I" : Cond) ∈ wA := List.mem_of_getElem? (i := 13) rfl
theorem wa_14 : (Cond.laysFinal "RepairGroups$Stripe" "RepairGroups$Stripe" "written" "[J" : Cond) ∈ wA := List.mem_of_getElem? (i := 14) rfl
theorem wa_15 : (Cond.laysFinal "RepairGroups$Stripe" "RepairGroups$Stripe" "flipped" "[J" : Cond) ∈ wA := List.mem_of_getElem? (i := 15) rfl
theorem wa_16 : (Cond.lays "RepairGroups$Stripe" "RepairGroups$Stripe" "there" "I" : Cond) ∈ wA := List.mem_of_getElem? (i := 16) rfl
theorem wa_17 : (Cond.lays "RepairGroupsModel" "RepairGroupsModel" "kind" "I" : Cond) ∈ wA := List.mem_of_getElem? (i := 17) rfl
theorem wa_18 : (Cond.lays "RepairGroupsModel" "RepairGroupsModel" "n" "I" : Cond) ∈ wA := List.mem_of_getElem? (i := 18) rfl
theorem wa_19 : (Cond.lays "RepairGroupsModel" "RepairGroupsModel" "rows" "[I" : Cond) ∈ wA := List.mem_of_getElem? (i := 19) rfl
theorem wa_20 : (Cond.lays "RepairGroupsModel" "RepairGroupsModel" "data" "[J" : Cond) ∈ wA := List.mem_of_getElem? (i := 20) rfl
theorem wa_21 : (Cond.lays "RepairGroupsModel" "RepairGroupsModel" "there" "[Z" : Cond) ∈ wA := List.mem_of_getElem? (i := 21) rfl
theorem wa_22 : (Cond.lays "RepairGroupsModel" "RepairGroupsModel" "flips" "[J" : Cond) ∈ wA := List.mem_of_getElem? (i := 22) rfl
theorem wa_23 : (Cond.lays "RepairGroupsModel" "RepairGroupsModel" "down" "[Z" : Cond) ∈ wA := List.mem_of_getElem? (i := 23) rfl
theorem wa_24 : (Cond.lays "RepairGroupsModel" "RepairGroupsModel" "reads" "I" : Cond) ∈ wA := List.mem_of_getElem? (i := 24) rfl
theorem wa_25 : (Cond.lays "RepairGroupsModel" "RepairGroupsModel" "writes" "I" : Cond) ∈ wA := List.mem_of_getElem? (i := 25) rfl
theorem wa_26 : (Cond.lays "RepairGroupsModel" "RepairGroupsModel" "crossings" "I" : Cond) ∈ wA := List.mem_of_getElem? (i := 26) rfl
theorem wa_27 : (Cond.lays "RepairGroupsModel" "RepairGroupsModel" "plans" "I" : Cond) ∈ wA := List.mem_of_getElem? (i := 27) rfl
theorem wa_28 : (Cond.lays "RepairGroupsModel" "RepairGroupsModel" "latest" "J" : Cond) ∈ wA := List.mem_of_getElem? (i := 28) rfl
theorem wa_29 : (Cond.lays "RepairGroupsModel" "RepairGroupsModel" "planSize" "I" : Cond) ∈ wA := List.mem_of_getElem? (i := 29) rfl
theorem wa_30 : (Cond.lays "RepairGroupsModel" "RepairGroupsModel" "plan" "[I" : Cond) ∈ wA := List.mem_of_getElem? (i := 30) rfl
theorem wa_31 : (Cond.lays "RepairGroupsModel" "RepairGroupsModel" "taken" "I" : Cond) ∈ wA := List.mem_of_getElem? (i := 31) rfl
theorem wa_32 : (Cond.lays "RepairGroupsModel" "RepairGroupsModel" "basis" "[I" : Cond) ∈ wA := List.mem_of_getElem? (i := 32) rfl
theorem wa_33 : (Cond.lays "RepairGroupsModel" "RepairGroupsModel" "pivot" "[I" : Cond) ∈ wA := List.mem_of_getElem? (i := 33) rfl
theorem wa_34 : (Cond.lays "RepairGroupsModel" "RepairGroupsModel" "row" "[I" : Cond) ∈ wA := List.mem_of_getElem? (i := 34) rfl
theorem wa_35 : (Cond.code yy_RG_init bb_RG_init 3 none : Cond) ∈ wA := List.mem_of_getElem? (i := 35) rfl
theorem wa_36 : (Cond.methodLink "RepairGroups" 1 objectInit : Cond) ∈ wA := List.mem_of_getElem? (i := 36) rfl
theorem wa_37 : (Cond.instanceMethod objectInit : Cond) ∈ wA := List.mem_of_getElem? (i := 37) rfl
theorem wa_38 : (Cond.code objectInit ⟨#[0xb1]⟩ 1 none : Cond) ∈ wA := List.mem_of_getElem? (i := 38) rfl
theorem wa_39 : (Cond.classLink "RepairGroups" 7 "RepairGroups$Code" : Cond) ∈ wA := List.mem_of_getElem? (i := 39) rfl
theorem wa_40 : (Cond.instantiable "RepairGroups$Code" 3 : Cond) ∈ wA := List.mem_of_getElem? (i := 40) rfl
theorem wa_41 : (Cond.initialized "RepairGroups$Code" : Cond) ∈ wA := List.mem_of_getElem? (i := 41) rfl
theorem wa_42 : (Cond.methodLink "RepairGroups" 9 yy_Co_init : Cond) ∈ wA := List.mem_of_getElem? (i := 42) rfl
theorem wa_43 : (Cond.instanceMethod yy_Co_init : Cond) ∈ wA := List.mem_of_getElem? (i := 43) rfl
theorem wa_44 : (Cond.fieldLink "RepairGroups" 12 "RepairGroups" "code" "LRepairGroups$Code;" : Cond) ∈ wA := List.mem_of_getElem? (i := 44) rfl
theorem wa_45 : (Cond.classLink "RepairGroups" 18 "RepairGroups$Span" : Cond) ∈ wA := List.mem_of_getElem? (i := 45) rfl
theorem wa_46 : (Cond.instantiable "RepairGroups$Span" 2 : Cond) ∈ wA := List.mem_of_getElem? (i := 46) rfl
theorem wa_47 : (Cond.initialized "RepairGroups$Span" : Cond) ∈ wA := List.mem_of_getElem? (i := 47) rfl
theorem wa_48 : (Cond.instanceMethod yy_Sp_init : Cond) ∈ wA := List.mem_of_getElem? (i := 48) rfl
theorem wa_49 : (Cond.fieldLink "RepairGroups" 21 "RepairGroups" "span" "LRepairGroups$Span;" : Cond) ∈ wA := List.mem_of_getElem? (i := 49) rfl
theorem wa_50 : (Cond.classLink "RepairGroups" 25 "RepairGroups$Stripe" : Cond) ∈ wA := List.mem_of_getElem? (i := 50) rfl
theorem wa_51 : (Cond.fieldLink "RepairGroups" 27 "RepairGroups" "stripes" "[LRepairGroups$Stripe;" : Cond) ∈ wA := List.mem_of_getElem? (i := 51) rfl
theorem wa_52 : (Cond.instantiable "RepairGroups$Stripe" 5 : Cond) ∈ wA := List.mem_of_getElem? (i := 52) rfl
theorem wa_53 : (Cond.initialized "RepairGroups$Stripe" : Cond) ∈ wA := List.mem_of_getElem? (i := 53) rfl
theorem wa_54 : (Cond.methodLink "RepairGroups" 35 yy_Sq_init : Cond) ∈ wA := List.mem_of_getElem? (i := 54) rfl
theorem wa_55 : (Cond.instanceMethod yy_Sq_init : Cond) ∈ wA := List.mem_of_getElem? (i := 55) rfl
theorem wa_56 : (Cond.arrayClass .boolean : Cond) ∈ wA := List.mem_of_getElem? (i := 56) rfl
theorem wa_57 : (Cond.fieldLink "RepairGroups" 38 "RepairGroups" "nodeUp" "[Z" : Cond) ∈ wA := List.mem_of_getElem? (i := 57) rfl
theorem wa_58 : (Cond.arrayClass .int : Cond) ∈ wA := List.mem_of_getElem? (i := 58) rfl
theorem wa_59 : (Cond.fieldLink "RepairGroups" 42 "RepairGroups" "counters" "[I" : Cond) ∈ wA := List.mem_of_getElem? (i := 59) rfl
theorem wa_60 : (Cond.code yy_RG_put bb_RG_put 7 (some .int) : Cond) ∈ wA := List.mem_of_getElem? (i := 60) rfl
theorem wa_61 : (Cond.methodLink "RepairGroups" 46 yy_RG_isStripe : Cond) ∈ wA := List.mem_of_getElem? (i := 61) rfl
theorem wa_62 : (Cond.initialized "RepairGroups" : Cond) ∈ wA := List.mem_of_getElem? (i := 62) rfl
theorem wa_63 : (Cond.static yy_RG_isStripe : Cond) ∈ wA := List.mem_of_getElem? (i := 63) rfl
theorem wa_64 : (Cond.methodLink "RepairGroups" 50 yy_Sq_isThere : Cond) ∈ wA := List.mem_of_getElem? (i := 64) rfl
theorem wa_65 : (Cond.instanceMethod yy_Sq_isThere : Cond) ∈ wA := List.mem_of_getElem? (i := 65) rfl
theorem wa_66 : (Cond.selects "RepairGroups$Stripe" yy_Sq_isThere yy_Sq_isThere : Cond) ∈ wA := List.mem_of_getElem? (i := 66) rfl
theorem wa_67 : (Cond.methodLink "RepairGroups" 53 yy_RG_readShard : Cond) ∈ wA := List.mem_of_getElem? (i := 67) rfl
theorem wa_68 : (Cond.instanceMethod yy_RG_readShard : Cond) ∈ wA := List.mem_of_getElem? (i := 68) rfl
theorem wa_69 : (Cond.selects "RepairGroups" yy_RG_readShard yy_RG_readShard : Cond) ∈ wA := List.mem_of_getElem? (i := 69) rfl
theorem wa_70 : (Cond.methodLink "RepairGroups" 57 yy_Sq_held : Cond) ∈ wA := List.mem_of_getElem? (i := 70) rfl
theorem wa_71 : (Cond.instanceMethod yy_Sq_held : Cond) ∈ wA := List.mem_of_getElem? (i := 71) rfl
theorem wa_72 : (Cond.selects "RepairGroups$Stripe" yy_Sq_held yy_Sq_held : Cond) ∈ wA := List.mem_of_getElem? (i := 72) rfl
theorem wa_73 : (Cond.methodLink "RepairGroups" 61 yy_RG_updateCoded : Cond) ∈ wA := List.mem_of_getElem? (i := 73) rfl
theorem wa_74 : (Cond.instanceMethod yy_RG_updateCoded : Cond) ∈ wA := List.mem_of_getElem? (i := 74) rfl
theorem wa_75 : (Cond.selects "RepairGroups" yy_RG_updateCoded yy_RG_updateCoded : Cond) ∈ wA := List.mem_of_getElem? (i := 75) rfl
theorem wa_76 : (Cond.methodLink "RepairGroups" 65 yy_RG_writeShard : Cond) ∈ wA := List.mem_of_getElem? (i := 76) rfl
theorem wa_77 : (Cond.instanceMethod yy_RG_writeShard : Cond) ∈ wA := List.mem_of_getElem? (i := 77) rfl
theorem wa_78 : (Cond.selects "RepairGroups" yy_RG_writeShard yy_RG_writeShard : Cond) ∈ wA := List.mem_of_getElem? (i := 78) rfl
theorem wa_79 : (Cond.code yy_RG_fetch bb_RG_fetch 5 (some .int) : Cond) ∈ wA := List.mem_of_getElem? (i := 79) rfl
theorem wa_80 : (Cond.methodLink "RepairGroups" 69 yy_RG_isShard : Cond) ∈ wA := List.mem_of_getElem? (i := 80) rfl
theorem wa_81 : (Cond.instanceMethod yy_RG_isShard : Cond) ∈ wA := List.mem_of_getElem? (i := 81) rfl
theorem wa_82 : (Cond.selects "RepairGroups" yy_RG_isShard yy_RG_isShard : Cond) ∈ wA := List.mem_of_getElem? (i := 82) rfl
theorem wa_83 : (Cond.fieldLink "RepairGroups" 73 "RepairGroups" "latestFetched" "J" : Cond) ∈ wA := List.mem_of_getElem? (i := 83) rfl
theorem wa_84 : (Cond.methodLink "RepairGroups" 77 yy_RG_followPlans : Cond) ∈ wA := List.mem_of_getElem? (i := 84) rfl
theorem wa_85 : (Cond.instanceMethod yy_RG_followPlans : Cond) ∈ wA := List.mem_of_getElem? (i := 85) rfl
theorem wa_86 : (Cond.selects "RepairGroups" yy_RG_followPlans yy_RG_followPlans : Cond) ∈ wA := List.mem_of_getElem? (i := 86) rfl
theorem wa_87 : (Cond.fieldLink "RepairGroups" 81 "RepairGroups" "rebuilt" "J" : Cond) ∈ wA := List.mem_of_getElem? (i := 87) rfl
theorem wa_88 : (Cond.code yy_RG_fetched bb_RG_fetched 1 (some .long) : Cond) ∈ wA := List.mem_of_getElem? (i := 88) rfl
theorem wa_89 : (Cond.code yy_RG_fail bb_RG_fail 4 (some .int) : Cond) ∈ wA := List.mem_of_getElem? (i := 89) rfl
theorem wa_90 : (Cond.methodLink "RepairGroups" 84 yy_RG_isNode : Cond) ∈ wA := List.mem_of_getElem? (i := 90) rfl
theorem wa_91 : (Cond.static yy_RG_isNode : Cond) ∈ wA := List.mem_of_getElem? (i := 91) rfl
theorem wa_92 : (Cond.methodLink "RepairGroups" 87 yy_RG_dropShardsOn : Cond) ∈ wA := List.mem_of_getElem? (i := 92) rfl
theorem wa_93 : (Cond.instanceMethod yy_RG_dropShardsOn : Cond) ∈ wA := List.mem_of_getElem? (i := 93) rfl
theorem wa_94 : (Cond.selects "RepairGroups" yy_RG_dropShardsOn yy_RG_dropShardsOn : Cond) ∈ wA := List.mem_of_getElem? (i := 94) rfl
theorem wa_95 : (Cond.code yy_RG_revive bb_RG_revive 2 (some .boolean) : Cond) ∈ wA := List.mem_of_getElem? (i := 95) rfl
theorem wa_96 : (Cond.code yy_RG_damage bb_RG_damage 4 (some .boolean) : Cond) ∈ wA := List.mem_of_getElem? (i := 96) rfl
theorem wa_97 : (Cond.methodLink "RepairGroups" 90 yy_Sq_flip : Cond) ∈ wA := List.mem_of_getElem? (i := 97) rfl
theorem wa_98 : (Cond.instanceMethod yy_Sq_flip : Cond) ∈ wA := List.mem_of_getElem? (i := 98) rfl
theorem wa_99 : (Cond.selects "RepairGroups$Stripe" yy_Sq_flip yy_Sq_flip : Cond) ∈ wA := List.mem_of_getElem? (i := 99) rfl
theorem wa_100 : (Cond.code yy_RG_repair bb_RG_repair 4 (some .int) : Cond) ∈ wA := List.mem_of_getElem? (i := 100) rfl
theorem wa_101 : (Cond.methodLink "RepairGroups" 93 yy_Sq_nodeOf : Cond) ∈ wA := List.mem_of_getElem? (i := 101) rfl
theorem wa_102 : (Cond.instanceMethod yy_Sq_nodeOf : Cond) ∈ wA := List.mem_of_getElem? (i := 102) rfl
theorem wa_103 : (Cond.selects "RepairGroups$Stripe" yy_Sq_nodeOf yy_Sq_nodeOf : Cond) ∈ wA := List.mem_of_getElem? (i := 103) rfl
theorem wa_104 : (Cond.methodLink "RepairGroups" 97 yy_RG_rebuild : Cond) ∈ wA := List.mem_of_getElem? (i := 104) rfl
theorem wa_105 : (Cond.instanceMethod yy_RG_rebuild : Cond) ∈ wA := List.mem_of_getElem? (i := 105) rfl
theorem wa_106 : (Cond.selects "RepairGroups" yy_RG_rebuild yy_RG_rebuild : Cond) ∈ wA := List.mem_of_getElem? (i := 106) rfl
theorem wa_107 : (Cond.code yy_RG_mend bb_RG_mend 6 (some .int) : Cond) ∈ wA := List.mem_of_getElem? (i := 107) rfl
theorem wa_108 : (Cond.methodLink "RepairGroups" 100 yy_RG_nextToMend : Cond) ∈ wA := List.mem_of_getElem? (i := 108) rfl
theorem wa_109 : (Cond.instanceMethod yy_RG_nextToMend : Cond) ∈ wA := List.mem_of_getElem? (i := 109) rfl
theorem wa_110 : (Cond.selects "RepairGroups" yy_RG_nextToMend yy_RG_nextToMend : Cond) ∈ wA := List.mem_of_getElem? (i := 110) rfl
theorem wa_111 : (Cond.code yy_RG_scrub bb_RG_scrub 5 (some .int) : Cond) ∈ wA := List.mem_of_getElem? (i := 111) rfl
theorem wa_112 : (Cond.code yy_RG_cost bb_RG_cost 4 (some .int) : Cond) ∈ wA := List.mem_of_getElem? (i := 112) rfl
theorem wa_113 : (Cond.methodLink "RepairGroups" 104 yy_RG_choosePlan : Cond) ∈ wA := List.mem_of_getElem? (i := 113) rfl
theorem wa_114 : (Cond.instanceMethod yy_RG_choosePlan : Cond) ∈ wA := List.mem_of_getElem? (i := 114) rfl
theorem wa_115 : (Cond.selects "RepairGroups" yy_RG_choosePlan yy_RG_choosePlan : Cond) ∈ wA := List.mem_of_getElem? (i := 115) rfl
theorem wa_116 : (Cond.methodLink "RepairGroups" 107 yy_In_bitCount : Cond) ∈ wA := List.mem_of_getElem? (i := 116) rfl
theorem wa_117 : (Cond.initialized "java/lang/Integer" : Cond) ∈ wA := List.mem_of_getElem? (i := 117) rfl
theorem wa_118 : (Cond.static yy_In_bitCount : Cond) ∈ wA := List.mem_of_getElem? (i := 118) rfl
theorem wa_119 : (Cond.code yy_RG_rank bb_RG_rank 2 (some .int) : Cond) ∈ wA := List.mem_of_getElem? (i := 119) rfl
theorem wa_120 : (Cond.methodLink "RepairGroups" 112 yy_RG_independentShards : Cond) ∈ wA := List.mem_of_getElem? (i := 120) rfl
theorem wa_121 : (Cond.instanceMethod yy_RG_independentShards : Cond) ∈ wA := List.mem_of_getElem? (i := 121) rfl
theorem wa_122 : (Cond.selects "RepairGroups" yy_RG_independentShards yy_RG_independentShards : Cond) ∈ wA := List.mem_of_getElem? (i := 122) rfl
theorem wa_123 : (Cond.code yy_RG_lost bb_RG_lost 2 (some .int) : Cond) ∈ wA := List.mem_of_getElem? (i := 123) rfl
theorem wa_124 : (Cond.methodLink "RepairGroups" 115 yy_Sq_lostMask : Cond) ∈ wA := List.mem_of_getElem? (i := 124) rfl
theorem wa_125 : (Cond.instanceMethod yy_Sq_lostMask : Cond) ∈ wA := List.mem_of_getElem? (i := 125) rfl
theorem wa_126 : (Cond.selects "RepairGroups$Stripe" yy_Sq_lostMask yy_Sq_lostMask : Cond) ∈ wA := List.mem_of_getElem? (i := 126) rfl
theorem wa_127 : (Cond.code yy_RG_content bb_RG_content 3 (some .long) : Cond) ∈ wA := List.mem_of_getElem? (i := 127) rfl
theorem wa_128 : (Cond.code yy_RG_node bb_RG_node 3 (some .int) : Cond) ∈ wA := List.mem_of_getElem? (i := 128) rfl
theorem wa_129 : (Cond.code yy_RG_up bb_RG_up 2 (some .boolean) : Cond) ∈ wA := List.mem_of_getElem? (i := 129) rfl
theorem wa_130 : (Cond.code yy_RG_count bb_RG_count 2 (some .int) : Cond) ∈ wA := List.mem_of_getElem? (i := 130) rfl
theorem wa_131 : (Cond.code yy_RG_size bb_RG_size 1 (some .int) : Cond) ∈ wA := List.mem_of_getElem? (i := 131) rfl
theorem wa_132 : (Cond.code yy_RG_isStripe bb_RG_isStripe 1 (some .boolean) : Cond) ∈ wA := List.mem_of_getElem? (i := 132) rfl
theorem wa_133 : (Cond.code yy_RG_isShard bb_RG_isShard 3 (some .boolean) : Cond) ∈ wA := List.mem_of_getElem? (i := 133) rfl
theorem wa_134 : (Cond.code yy_RG_isNode bb_RG_isNode 1 (some .boolean) : Cond) ∈ wA := List.mem_of_getElem? (i := 134) rfl
theorem wa_135 : (Cond.code yy_RG_readShard bb_RG_readShard 3 (some .boolean) : Cond) ∈ wA := List.mem_of_getElem? (i := 135) rfl
theorem wa_136 : (Cond.methodLink "RepairGroups" 119 yy_Sq_isDamaged : Cond) ∈ wA := List.mem_of_getElem? (i := 136) rfl
theorem wa_137 : (Cond.instanceMethod yy_Sq_isDamaged : Cond) ∈ wA := List.mem_of_getElem? (i := 137) rfl
theorem wa_138 : (Cond.selects "RepairGroups$Stripe" yy_Sq_isDamaged yy_Sq_isDamaged : Cond) ∈ wA := List.mem_of_getElem? (i := 138) rfl
theorem wa_139 : (Cond.methodLink "RepairGroups" 122 yy_Sq_lose : Cond) ∈ wA := List.mem_of_getElem? (i := 139) rfl
theorem wa_140 : (Cond.instanceMethod yy_Sq_lose : Cond) ∈ wA := List.mem_of_getElem? (i := 140) rfl
theorem wa_141 : (Cond.selects "RepairGroups$Stripe" yy_Sq_lose yy_Sq_lose : Cond) ∈ wA := List.mem_of_getElem? (i := 141) rfl
theorem wa_142 : (Cond.code yy_RG_readShardFor bb_RG_readShardFor 5 (some .boolean) : Cond) ∈ wA := List.mem_of_getElem? (i := 142) rfl
theorem wa_143 : (Cond.code yy_RG_writeShard bb_RG_writeShard 5 none : Cond) ∈ wA := List.mem_of_getElem? (i := 143) rfl
theorem wa_144 : (Cond.methodLink "RepairGroups" 125 yy_Sq_store : Cond) ∈ wA := List.mem_of_getElem? (i := 144) rfl
theorem wa_145 : (Cond.instanceMethod yy_Sq_store : Cond) ∈ wA := List.mem_of_getElem? (i := 145) rfl
theorem wa_146 : (Cond.selects "RepairGroups$Stripe" yy_Sq_store yy_Sq_store : Cond) ∈ wA := List.mem_of_getElem? (i := 146) rfl
theorem wa_147 : (Cond.code yy_RG_updateCoded bb_RG_updateCoded 8 (some .int) : Cond) ∈ wA := List.mem_of_getElem? (i := 147) rfl
theorem wa_148 : (Cond.methodLink "RepairGroups" 133 yy_By_at : Cond) ∈ wA := List.mem_of_getElem? (i := 148) rfl
theorem wa_149 : (Cond.initialized "RepairGroups$Bytes" : Cond) ∈ wA := List.mem_of_getElem? (i := 149) rfl
theorem wa_150 : (Cond.static yy_By_at : Cond) ∈ wA := List.mem_of_getElem? (i := 150) rfl
theorem wa_151 : (Cond.methodLink "RepairGroups" 139 yy_RG_readShardFor : Cond) ∈ wA := List.mem_of_getElem? (i := 151) rfl
theorem wa_152 : (Cond.instanceMethod yy_RG_readShardFor : Cond) ∈ wA := List.mem_of_getElem? (i := 152) rfl
theorem wa_153 : (Cond.selects "RepairGroups" yy_RG_readShardFor yy_RG_readShardFor : Cond) ∈ wA := List.mem_of_getElem? (i := 153) rfl
theorem wa_154 : (Cond.methodLink "RepairGroups" 143 yy_By_times : Cond) ∈ wA := List.mem_of_getElem? (i := 154) rfl
theorem wa_155 : (Cond.static yy_By_times : Cond) ∈ wA := List.mem_of_getElem? (i := 155) rfl
theorem wa_156 : (Cond.code yy_RG_dropShardsOn bb_RG_dropShardsOn 5 (some .int) : Cond) ∈ wA := List.mem_of_getElem? (i := 156) rfl
theorem wa_157 : (Cond.code yy_RG_rebuild bb_RG_rebuild 4 (some .int) : Cond) ∈ wA := List.mem_of_getElem? (i := 157) rfl
theorem wa_158 : (Cond.code yy_RG_followPlans bb_RG_followPlans 5 (some .int) : Cond) ∈ wA := List.mem_of_getElem? (i := 158) rfl
theorem wa_159 : (Cond.methodLink "RepairGroups" 147 yy_RG_readPlan : Cond) ∈ wA := List.mem_of_getElem? (i := 159) rfl
theorem wa_160 : (Cond.instanceMethod yy_RG_readPlan : Cond) ∈ wA := List.mem_of_getElem? (i := 160) rfl
theorem wa_161 : (Cond.selects "RepairGroups" yy_RG_readPlan yy_RG_readPlan : Cond) ∈ wA := List.mem_of_getElem? (i := 161) rfl
theorem wa_162 : (Cond.methodLink "RepairGroups" 150 yy_RG_decode : Cond) ∈ wA := List.mem_of_getElem? (i := 162) rfl
theorem wa_163 : (Cond.instanceMethod yy_RG_decode : Cond) ∈ wA := List.mem_of_getElem? (i := 163) rfl
theorem wa_164 : (Cond.selects "RepairGroups" yy_RG_decode yy_RG_decode : Cond) ∈ wA := List.mem_of_getElem? (i := 164) rfl
theorem wa_165 : (Cond.code yy_RG_readPlan bb_RG_readPlan 5 (some .boolean) : Cond) ∈ wA := List.mem_of_getElem? (i := 165) rfl
theorem wa_166 : (Cond.methodLink "RepairGroups" 154 yy_RG_isIn : Cond) ∈ wA := List.mem_of_getElem? (i := 166) rfl
theorem wa_167 : (Cond.static yy_RG_isIn : Cond) ∈ wA := List.mem_of_getElem? (i := 167) rfl
theorem wa_168 : (Cond.code yy_RG_decode bb_RG_decode 5 (some .long) : Cond) ∈ wA := List.mem_of_getElem? (i := 168) rfl
theorem wa_169 : (Cond.methodLink "RepairGroups" 157 yy_Sp_clear : Cond) ∈ wA := List.mem_of_getElem? (i := 169) rfl
theorem wa_170 : (Cond.instanceMethod yy_Sp_clear : Cond) ∈ wA := List.mem_of_getElem? (i := 170) rfl
theorem wa_171 : (Cond.selects "RepairGroups$Span" yy_Sp_clear yy_Sp_clear : Cond) ∈ wA := List.mem_of_getElem? (i := 171) rfl
theorem wa_172 : (Cond.methodLink "RepairGroups" 160 yy_Sp_take : Cond) ∈ wA := List.mem_of_getElem? (i := 172) rfl
theorem wa_173 : (Cond.instanceMethod yy_Sp_take : Cond) ∈ wA := List.mem_of_getElem? (i := 173) rfl
theorem wa_174 : (Cond.selects "RepairGroups$Span" yy_Sp_take yy_Sp_take : Cond) ∈ wA := List.mem_of_getElem? (i := 174) rfl
theorem wa_175 : (Cond.methodLink "RepairGroups" 164 yy_Sp_valueOf : Cond) ∈ wA := List.mem_of_getElem? (i := 175) rfl
theorem wa_176 : (Cond.instanceMethod yy_Sp_valueOf : Cond) ∈ wA := List.mem_of_getElem? (i := 176) rfl
theorem wa_177 : (Cond.selects "RepairGroups$Span" yy_Sp_valueOf yy_Sp_valueOf : Cond) ∈ wA := List.mem_of_getElem? (i := 177) rfl
theorem wa_178 : (Cond.code yy_RG_choosePlan bb_RG_choosePlan 4 (some .int) : Cond) ∈ wA := List.mem_of_getElem? (i := 178) rfl
theorem wa_179 : (Cond.methodLink "RepairGroups" 168 yy_RG_localPlan : Cond) ∈ wA := List.mem_of_getElem? (i := 179) rfl
theorem wa_180 : (Cond.instanceMethod yy_RG_localPlan : Cond) ∈ wA := List.mem_of_getElem? (i := 180) rfl
theorem wa_181 : (Cond.selects "RepairGroups" yy_RG_localPlan yy_RG_localPlan : Cond) ∈ wA := List.mem_of_getElem? (i := 181) rfl
theorem wa_182 : (Cond.methodLink "RepairGroups" 171 yy_RG_globalPlan : Cond) ∈ wA := List.mem_of_getElem? (i := 182) rfl
theorem wa_183 : (Cond.static yy_RG_globalPlan : Cond) ∈ wA := List.mem_of_getElem? (i := 183) rfl
theorem wa_184 : (Cond.code yy_RG_localPlan bb_RG_localPlan 4 (some .int) : Cond) ∈ wA := List.mem_of_getElem? (i := 184) rfl
theorem wa_185 : (Cond.methodLink "RepairGroups" 174 yy_Co_groupOf : Cond) ∈ wA := List.mem_of_getElem? (i := 185) rfl
theorem wa_186 : (Cond.instanceMethod yy_Co_groupOf : Cond) ∈ wA := List.mem_of_getElem? (i := 186) rfl
theorem wa_187 : (Cond.selects "RepairGroups$Code" yy_Co_groupOf yy_Co_groupOf : Cond) ∈ wA := List.mem_of_getElem? (i := 187) rfl
theorem wa_188 : (Cond.code yy_RG_globalPlan bb_RG_globalPlan 1 (some .int) : Cond) ∈ wA := List.mem_of_getElem? (i := 188) rfl
theorem wa_189 : (Cond.code yy_RG_independentShards bb_RG_independentShards 4 (some .int) : Cond) ∈ wA := List.mem_of_getElem? (i := 189) rfl
theorem wa_190 : (Cond.code yy_RG_nextToMend bb_RG_nextToMend 4 (some .int) : Cond) ∈ wA := List.mem_of_getElem? (i := 190) rfl
theorem wa_191 : (Cond.methodLink "RepairGroups" 177 yy_RG_canBeWritten : Cond) ∈ wA := List.mem_of_getElem? (i := 191) rfl
theorem wa_192 : (Cond.instanceMethod yy_RG_canBeWritten : Cond) ∈ wA := List.mem_of_getElem? (i := 192) rfl
theorem wa_193 : (Cond.selects "RepairGroups" yy_RG_canBeWritten yy_RG_canBeWritten : Cond) ∈ wA := List.mem_of_getElem? (i := 193) rfl
theorem wa_194 : (Cond.code yy_RG_canBeWritten bb_RG_canBeWritten 3 (some .boolean) : Cond) ∈ wA := List.mem_of_getElem? (i := 194) rfl
theorem wa_195 : (Cond.code yy_RG_isIn bb_RG_isIn 2 (some .boolean) : Cond) ∈ wA := List.mem_of_getElem? (i := 195) rfl
theorem wa_196 : (Cond.code yy_By_at bb_By_at 3 (some .int) : Cond) ∈ wA := List.mem_of_getElem? (i := 196) rfl
theorem wa_197 : (Cond.code yy_By_placed bb_By_placed 2 (some .long) : Cond) ∈ wA := List.mem_of_getElem? (i := 197) rfl
theorem wa_198 : (Cond.code yy_By_times bb_By_times 12 (some .long) : Cond) ∈ wA := List.mem_of_getElem? (i := 198) rfl
theorem wa_199 : (Cond.constantLong "RepairGroups$Bytes" 9 (72340172838076673) : Cond) ∈ wA := List.mem_of_getElem? (i := 199) rfl
theorem wa_200 : (Cond.constantLong "RepairGroups$Bytes" 11 (9187201950435737471) : Cond) ∈ wA := List.mem_of_getElem? (i := 200) rfl
theorem wa_201 : (Cond.constantLong "RepairGroups$Bytes" 13 (29) : Cond) ∈ wA := List.mem_of_getElem? (i := 201) rfl
theorem wa_202 : (Cond.code yy_By_inverse bb_By_inverse 4 (some .int) : Cond) ∈ wA := List.mem_of_getElem? (i := 202) rfl
theorem wa_203 : (Cond.methodLink "RepairGroups$Bytes" 15 yy_By_times : Cond) ∈ wA := List.mem_of_getElem? (i := 203) rfl
theorem wa_204 : (Cond.code yy_Co_init bb_Co_init 3 none : Cond) ∈ wA := List.mem_of_getElem? (i := 204) rfl
theorem wa_205 : (Cond.methodLink "RepairGroups$Code" 3 objectInit : Cond) ∈ wA := List.mem_of_getElem? (i := 205) rfl
theorem wa_206 : (Cond.fieldLink "RepairGroups$Code" 11 "RepairGroups$Code" "shards" "I" : Cond) ∈ wA := List.mem_of_getElem? (i := 206) rfl
theorem wa_207 : (Cond.fieldLink "RepairGroups$Code" 15 "RepairGroups$Code" "grouped" "Z" : Cond) ∈ wA := List.mem_of_getElem? (i := 207) rfl
theorem wa_208 : (Cond.arrayClass .long : Cond) ∈ wA := List.mem_of_getElem? (i := 208) rfl
theorem wa_209 : (Cond.fieldLink "RepairGroups$Code" 19 "RepairGroups$Code" "rows" "[J" : Cond) ∈ wA := List.mem_of_getElem? (i := 209) rfl
theorem wa_210 : (Cond.methodLink "RepairGroups$Code" 23 yy_Co_groupedRow : Cond) ∈ wA := List.mem_of_getElem? (i := 210) rfl
theorem wa_211 : (Cond.static yy_Co_groupedRow : Cond) ∈ wA := List.mem_of_getElem? (i := 211) rfl
theorem wa_212 : (Cond.methodLink "RepairGroups$Code" 27 yy_Co_plainRow : Cond) ∈ wA := List.mem_of_getElem? (i := 212) rfl
theorem wa_213 : (Cond.static yy_Co_plainRow : Cond) ∈ wA := List.mem_of_getElem? (i := 213) rfl
theorem wa_214 : (Cond.code yy_Co_plainRow bb_Co_plainRow 1 (some .long) : Cond) ∈ wA := List.mem_of_getElem? (i := 214) rfl
theorem wa_215 : (Cond.methodLink "RepairGroups$Code" 30 yy_By_placed : Cond) ∈ wA := List.mem_of_getElem? (i := 215) rfl
theorem wa_216 : (Cond.static yy_By_placed : Cond) ∈ wA := List.mem_of_getElem? (i := 216) rfl
theorem wa_217 : (Cond.methodLink "RepairGroups$Code" 36 yy_Co_inversesRow : Cond) ∈ wA := List.mem_of_getElem? (i := 217) rfl
theorem wa_218 : (Cond.static yy_Co_inversesRow : Cond) ∈ wA := List.mem_of_getElem? (i := 218) rfl
theorem wa_219 : (Cond.code yy_Co_groupedRow bb_Co_groupedRow 1 (some .long) : Cond) ∈ wA := List.mem_of_getElem? (i := 219) rfl
theorem wa_220 : (Cond.constantLong "RepairGroups$Code" 39 (65793) : Cond) ∈ wA := List.mem_of_getElem? (i := 220) rfl
theorem wa_221 : (Cond.constantLong "RepairGroups$Code" 41 (1103823372288) : Cond) ∈ wA := List.mem_of_getElem? (i := 221) rfl
theorem wa_222 : (Cond.code yy_Co_inversesRow bb_Co_inversesRow 4 (some .long) : Cond) ∈ wA := List.mem_of_getElem? (i := 222) rfl
theorem wa_223 : (Cond.methodLink "RepairGroups$Code" 43 yy_By_inverse : Cond) ∈ wA := List.mem_of_getElem? (i := 223) rfl
theorem wa_224 : (Cond.static yy_By_inverse : Cond) ∈ wA := List.mem_of_getElem? (i := 224) rfl
theorem wa_225 : (Cond.code yy_Co_groupOf bb_Co_groupOf 2 (some .int) : Cond) ∈ wA := List.mem_of_getElem? (i := 225) rfl
theorem wa_226 : (Cond.code yy_Sp_init bb_Sp_init 1 none : Cond) ∈ wA := List.mem_of_getElem? (i := 226) rfl
theorem wa_227 : (Cond.methodLink "RepairGroups$Span" 3 objectInit : Cond) ∈ wA := List.mem_of_getElem? (i := 227) rfl
theorem wa_228 : (Cond.fieldLink "RepairGroups$Span" 9 "RepairGroups$Span" "rows" "[J" : Cond) ∈ wA := List.mem_of_getElem? (i := 228) rfl
theorem wa_229 : (Cond.fieldLink "RepairGroups$Span" 15 "RepairGroups$Span" "values" "[J" : Cond) ∈ wA := List.mem_of_getElem? (i := 229) rfl
theorem wa_230 : (Cond.code yy_Sp_clear bb_Sp_clear 2 none : Cond) ∈ wA := List.mem_of_getElem? (i := 230) rfl
theorem wa_231 : (Cond.code yy_Sp_take bb_Sp_take 12 (some .boolean) : Cond) ∈ wA := List.mem_of_getElem? (i := 231) rfl
theorem wa_232 : (Cond.methodLink "RepairGroups$Span" 18 yy_By_at : Cond) ∈ wA := List.mem_of_getElem? (i := 232) rfl
theorem wa_233 : (Cond.methodLink "RepairGroups$Span" 24 yy_By_inverse : Cond) ∈ wA := List.mem_of_getElem? (i := 233) rfl
theorem wa_234 : (Cond.methodLink "RepairGroups$Span" 28 yy_By_times : Cond) ∈ wA := List.mem_of_getElem? (i := 234) rfl
theorem wa_235 : (Cond.code yy_Sp_valueOf bb_Sp_valueOf 9 (some .long) : Cond) ∈ wA := List.mem_of_getElem? (i := 235) rfl
theorem wa_236 : (Cond.code yy_Sq_init bb_Sq_init 3 none : Cond) ∈ wA := List.mem_of_getElem? (i := 236) rfl
theorem wa_237 : (Cond.methodLink "RepairGroups$Stripe" 3 objectInit : Cond) ∈ wA := List.mem_of_getElem? (i := 237) rfl
theorem wa_238 : (Cond.fieldLink "RepairGroups$Stripe" 11 "RepairGroups$Stripe" "firstNode" "I" : Cond) ∈ wA := List.mem_of_getElem? (i := 238) rfl
theorem wa_239 : (Cond.fieldLink "RepairGroups$Stripe" 15 "RepairGroups$Stripe" "all" "I" : Cond) ∈ wA := List.mem_of_getElem? (i := 239) rfl
theorem wa_240 : (Cond.fieldLink "RepairGroups$Stripe" 18 "RepairGroups$Stripe" "written" "[J" : Cond) ∈ wA := List.mem_of_getElem? (i := 240) rfl
theorem wa_241 : (Cond.fieldLink "RepairGroups$Stripe" 22 "RepairGroups$Stripe" "flipped" "[J" : Cond) ∈ wA := List.mem_of_getElem? (i := 241) rfl
theorem wa_242 : (Cond.fieldLink "RepairGroups$Stripe" 25 "RepairGroups$Stripe" "there" "I" : Cond) ∈ wA := List.mem_of_getElem? (i := 242) rfl
theorem wa_243 : (Cond.code yy_Sq_nodeOf bb_Sq_nodeOf 2 (some .int) : Cond) ∈ wA := List.mem_of_getElem? (i := 243) rfl
theorem wa_244 : (Cond.code yy_Sq_isThere bb_Sq_isThere 2 (some .boolean) : Cond) ∈ wA := List.mem_of_getElem? (i := 244) rfl
theorem wa_245 : (Cond.code yy_Sq_lostMask bb_Sq_lostMask 1 (some .int) : Cond) ∈ wA := List.mem_of_getElem? (i := 245) rfl
theorem wa_246 : (Cond.code yy_Sq_isDamaged bb_Sq_isDamaged 2 (some .boolean) : Cond) ∈ wA := List.mem_of_getElem? (i := 246) rfl
theorem wa_247 : (Cond.code yy_Sq_held bb_Sq_held 2 (some .long) : Cond) ∈ wA := List.mem_of_getElem? (i := 247) rfl
theorem wa_248 : (Cond.code yy_Sq_flip bb_Sq_flip 3 none : Cond) ∈ wA := List.mem_of_getElem? (i := 248) rfl
theorem wa_249 : (Cond.code yy_Sq_lose bb_Sq_lose 2 none : Cond) ∈ wA := List.mem_of_getElem? (i := 249) rfl
theorem wa_250 : (Cond.code yy_Sq_store bb_Sq_store 4 none : Cond) ∈ wA := List.mem_of_getElem? (i := 250) rfl
theorem wa_251 : (Cond.code yy_Mo_init bb_Mo_init 4 none : Cond) ∈ wA := List.mem_of_getElem? (i := 251) rfl
theorem wa_252 : (Cond.methodLink "RepairGroupsModel" 1 objectInit : Cond) ∈ wA := List.mem_of_getElem? (i := 252) rfl
theorem wa_253 : (Cond.fieldLink "RepairGroupsModel" 7 "RepairGroupsModel" "rows" "[I" : Cond) ∈ wA := List.mem_of_getElem? (i := 253) rfl
theorem wa_254 : (Cond.fieldLink "RepairGroupsModel" 13 "RepairGroupsModel" "data" "[J" : Cond) ∈ wA := List.mem_of_getElem? (i := 254) rfl
theorem wa_255 : (Cond.fieldLink "RepairGroupsModel" 17 "RepairGroupsModel" "there" "[Z" : Cond) ∈ wA := List.mem_of_getElem? (i := 255) rfl
theorem wa_256 : (Cond.fieldLink "RepairGroupsModel" 21 "RepairGroupsModel" "flips" "[J" : Cond) ∈ wA := List.mem_of_getElem? (i := 256) rfl
theorem wa_257 : (Cond.fieldLink "RepairGroupsModel" 24 "RepairGroupsModel" "down" "[Z" : Cond) ∈ wA := List.mem_of_getElem? (i := 257) rfl
theorem wa_258 : (Cond.fieldLink "RepairGroupsModel" 27 "RepairGroupsModel" "plan" "[I" : Cond) ∈ wA := List.mem_of_getElem? (i := 258) rfl
theorem wa_259 : (Cond.fieldLink "RepairGroupsModel" 30 "RepairGroupsModel" "basis" "[I" : Cond) ∈ wA := List.mem_of_getElem? (i := 259) rfl
theorem wa_260 : (Cond.fieldLink "RepairGroupsModel" 33 "RepairGroupsModel" "pivot" "[I" : Cond) ∈ wA := List.mem_of_getElem? (i := 260) rfl
theorem wa_261 : (Cond.fieldLink "RepairGroupsModel" 36 "RepairGroupsModel" "row" "[I" : Cond) ∈ wA := List.mem_of_getElem? (i := 261) rfl
theorem wa_262 : (Cond.fieldLink "RepairGroupsModel" 39 "RepairGroupsModel" "kind" "I" : Cond) ∈ wA := List.mem_of_getElem? (i := 262) rfl
theorem wa_263 : (Cond.fieldLink "RepairGroupsModel" 43 "RepairGroupsModel" "n" "I" : Cond) ∈ wA := List.mem_of_getElem? (i := 263) rfl
theorem wa_264 : (Cond.methodLink "RepairGroupsModel" 46 yy_Mo_coefficient : Cond) ∈ wA := List.mem_of_getElem? (i := 264) rfl
theorem wa_265 : (Cond.initialized "RepairGroupsModel" : Cond) ∈ wA := List.mem_of_getElem? (i := 265) rfl
theorem wa_266 : (Cond.instanceMethod yy_Mo_coefficient : Cond) ∈ wA := List.mem_of_getElem? (i := 266) rfl
theorem wa_267 : (Cond.selects "RepairGroupsModel" yy_Mo_coefficient yy_Mo_coefficient : Cond) ∈ wA := List.mem_of_getElem? (i := 267) rfl
theorem wa_268 : (Cond.code yy_Mo_product bb_Mo_product 5 (some .int) : Cond) ∈ wA := List.mem_of_getElem? (i := 268) rfl
theorem wa_269 : (Cond.code yy_Mo_inverse bb_Mo_inverse 4 (some .int) : Cond) ∈ wA := List.mem_of_getElem? (i := 269) rfl
theorem wa_270 : (Cond.methodLink "RepairGroupsModel" 50 yy_Mo_product : Cond) ∈ wA := List.mem_of_getElem? (i := 270) rfl
theorem wa_271 : (Cond.instanceMethod yy_Mo_product : Cond) ∈ wA := List.mem_of_getElem? (i := 271) rfl
theorem wa_272 : (Cond.selects "RepairGroupsModel" yy_Mo_product yy_Mo_product : Cond) ∈ wA := List.mem_of_getElem? (i := 272) rfl
theorem wa_273 : (Cond.code yy_Mo_coefficient bb_Mo_coefficient 3 (some .int) : Cond) ∈ wA := List.mem_of_getElem? (i := 273) rfl
theorem wa_274 : (Cond.methodLink "RepairGroupsModel" 53 yy_Mo_inverse : Cond) ∈ wA := List.mem_of_getElem? (i := 274) rfl
theorem wa_275 : (Cond.instanceMethod yy_Mo_inverse : Cond) ∈ wA := List.mem_of_getElem? (i := 275) rfl
theorem wa_276 : (Cond.selects "RepairGroupsModel" yy_Mo_inverse yy_Mo_inverse : Cond) ∈ wA := List.mem_of_getElem? (i := 276) rfl
theorem wa_277 : (Cond.code yy_Mo_byteOf bb_Mo_byteOf 4 (some .int) : Cond) ∈ wA := List.mem_of_getElem? (i := 277) rfl
theorem wa_278 : (Cond.constantLong "RepairGroupsModel" 57 (255) : Cond) ∈ wA := List.mem_of_getElem? (i := 278) rfl
theorem wa_279 : (Cond.code yy_Mo_value bb_Mo_value 9 (some .long) : Cond) ∈ wA := List.mem_of_getElem? (i := 279) rfl
theorem wa_280 : (Cond.methodLink "RepairGroupsModel" 59 yy_Mo_byteOf : Cond) ∈ wA := List.mem_of_getElem? (i := 280) rfl
theorem wa_281 : (Cond.instanceMethod yy_Mo_byteOf : Cond) ∈ wA := List.mem_of_getElem? (i := 281) rfl
theorem wa_282 : (Cond.selects "RepairGroupsModel" yy_Mo_byteOf yy_Mo_byteOf : Cond) ∈ wA := List.mem_of_getElem? (i := 282) rfl
theorem wa_283 : (Cond.code yy_Mo_noStripe bb_Mo_noStripe 2 (some .boolean) : Cond) ∈ wA := List.mem_of_getElem? (i := 283) rfl
theorem wa_284 : (Cond.code yy_Mo_noShard bb_Mo_noShard 3 (some .boolean) : Cond) ∈ wA := List.mem_of_getElem? (i := 284) rfl
theorem wa_285 : (Cond.methodLink "RepairGroupsModel" 63 yy_Mo_noStripe : Cond) ∈ wA := List.mem_of_getElem? (i := 285) rfl
theorem wa_286 : (Cond.instanceMethod yy_Mo_noStripe : Cond) ∈ wA := List.mem_of_getElem? (i := 286) rfl
theorem wa_287 : (Cond.selects "RepairGroupsModel" yy_Mo_noStripe yy_Mo_noStripe : Cond) ∈ wA := List.mem_of_getElem? (i := 287) rfl
theorem wa_288 : (Cond.code yy_Mo_place bb_Mo_place 3 (some .int) : Cond) ∈ wA := List.mem_of_getElem? (i := 288) rfl
theorem wa_289 : (Cond.code yy_Mo_cell bb_Mo_cell 3 (some .int) : Cond) ∈ wA := List.mem_of_getElem? (i := 289) rfl
theorem wa_290 : (Cond.code yy_Mo_rejected bb_Mo_rejected 4 (some .boolean) : Cond) ∈ wA := List.mem_of_getElem? (i := 290) rfl
theorem wa_291 : (Cond.fieldLink "RepairGroupsModel" 67 "RepairGroupsModel" "reads" "I" : Cond) ∈ wA := List.mem_of_getElem? (i := 291) rfl
theorem wa_292 : (Cond.methodLink "RepairGroupsModel" 70 yy_Mo_cell : Cond) ∈ wA := List.mem_of_getElem? (i := 292) rfl
theorem wa_293 : (Cond.instanceMethod yy_Mo_cell : Cond) ∈ wA := List.mem_of_getElem? (i := 293) rfl
theorem wa_294 : (Cond.selects "RepairGroupsModel" yy_Mo_cell yy_Mo_cell : Cond) ∈ wA := List.mem_of_getElem? (i := 294) rfl
theorem wa_295 : (Cond.code yy_Mo_rejectedFor bb_Mo_rejectedFor 4 (some .boolean) : Cond) ∈ wA := List.mem_of_getElem? (i := 295) rfl
theorem wa_296 : (Cond.fieldLink "RepairGroupsModel" 73 "RepairGroupsModel" "crossings" "I" : Cond) ∈ wA := List.mem_of_getElem? (i := 296) rfl
theorem wa_297 : (Cond.methodLink "RepairGroupsModel" 76 yy_Mo_place : Cond) ∈ wA := List.mem_of_getElem? (i := 297) rfl
theorem wa_298 : (Cond.instanceMethod yy_Mo_place : Cond) ∈ wA := List.mem_of_getElem? (i := 298) rfl
theorem wa_299 : (Cond.selects "RepairGroupsModel" yy_Mo_place yy_Mo_place : Cond) ∈ wA := List.mem_of_getElem? (i := 299) rfl
theorem wa_300 : (Cond.methodLink "RepairGroupsModel" 79 yy_Mo_rejected : Cond) ∈ wA := List.mem_of_getElem? (i := 300) rfl
theorem wa_301 : (Cond.instanceMethod yy_Mo_rejected : Cond) ∈ wA := List.mem_of_getElem? (i := 301) rfl
theorem wa_302 : (Cond.selects "RepairGroupsModel" yy_Mo_rejected yy_Mo_rejected : Cond) ∈ wA := List.mem_of_getElem? (i := 302) rfl
theorem wa_303 : (Cond.code yy_Mo_written bb_Mo_written 3 none : Cond) ∈ wA := List.mem_of_getElem? (i := 303) rfl
theorem wa_304 : (Cond.fieldLink "RepairGroupsModel" 83 "RepairGroupsModel" "writes" "I" : Cond) ∈ wA := List.mem_of_getElem? (i := 304) rfl
theorem wa_305 : (Cond.code yy_Mo_grouped bb_Mo_grouped 3 (some .boolean) : Cond) ∈ wA := List.mem_of_getElem? (i := 305) rfl
theorem wa_306 : (Cond.methodLink "RepairGroupsModel" 86 yy_Mo_group : Cond) ∈ wA := List.mem_of_getElem? (i := 306) rfl
theorem wa_307 : (Cond.instanceMethod yy_Mo_group : Cond) ∈ wA := List.mem_of_getElem? (i := 307) rfl
theorem wa_308 : (Cond.selects "RepairGroupsModel" yy_Mo_group yy_Mo_group : Cond) ∈ wA := List.mem_of_getElem? (i := 308) rfl
theorem wa_309 : (Cond.code yy_Mo_group bb_Mo_group 2 (some .int) : Cond) ∈ wA := List.mem_of_getElem? (i := 309) rfl
theorem wa_310 : (Cond.code yy_Mo_local bb_Mo_local 6 (some .boolean) : Cond) ∈ wA := List.mem_of_getElem? (i := 310) rfl
theorem wa_311 : (Cond.methodLink "RepairGroupsModel" 89 yy_Mo_grouped : Cond) ∈ wA := List.mem_of_getElem? (i := 311) rfl
theorem wa_312 : (Cond.instanceMethod yy_Mo_grouped : Cond) ∈ wA := List.mem_of_getElem? (i := 312) rfl
theorem wa_313 : (Cond.selects "RepairGroupsModel" yy_Mo_grouped yy_Mo_grouped : Cond) ∈ wA := List.mem_of_getElem? (i := 313) rfl
theorem wa_314 : (Cond.code yy_Mo_adds bb_Mo_adds 5 (some .boolean) : Cond) ∈ wA := List.mem_of_getElem? (i := 314) rfl
theorem wa_315 : (Cond.fieldLink "RepairGroupsModel" 92 "RepairGroupsModel" "taken" "I" : Cond) ∈ wA := List.mem_of_getElem? (i := 315) rfl
theorem wa_316 : (Cond.code yy_Mo_goOver bb_Mo_goOver 3 none : Cond) ∈ wA := List.mem_of_getElem? (i := 316) rfl
theorem wa_317 : (Cond.fieldLink "RepairGroupsModel" 95 "RepairGroupsModel" "planSize" "I" : Cond) ∈ wA := List.mem_of_getElem? (i := 317) rfl
theorem wa_318 : (Cond.methodLink "RepairGroupsModel" 98 yy_Mo_adds : Cond) ∈ wA := List.mem_of_getElem? (i := 318) rfl
theorem wa_319 : (Cond.instanceMethod yy_Mo_adds : Cond) ∈ wA := List.mem_of_getElem? (i := 319) rfl
theorem wa_320 : (Cond.selects "RepairGroupsModel" yy_Mo_adds yy_Mo_adds : Cond) ∈ wA := List.mem_of_getElem? (i := 320) rfl
theorem wa_321 : (Cond.code yy_Mo_choose bb_Mo_choose 4 (some .boolean) : Cond) ∈ wA := List.mem_of_getElem? (i := 321) rfl
theorem wa_322 : (Cond.methodLink "RepairGroupsModel" 101 yy_Mo_local : Cond) ∈ wA := List.mem_of_getElem? (i := 322) rfl
theorem wa_323 : (Cond.instanceMethod yy_Mo_local : Cond) ∈ wA := List.mem_of_getElem? (i := 323) rfl
theorem wa_324 : (Cond.selects "RepairGroupsModel" yy_Mo_local yy_Mo_local : Cond) ∈ wA := List.mem_of_getElem? (i := 324) rfl
theorem wa_325 : (Cond.methodLink "RepairGroupsModel" 104 yy_Mo_goOver : Cond) ∈ wA := List.mem_of_getElem? (i := 325) rfl
theorem wa_326 : (Cond.instanceMethod yy_Mo_goOver : Cond) ∈ wA := List.mem_of_getElem? (i := 326) rfl
theorem wa_327 : (Cond.selects "RepairGroupsModel" yy_Mo_goOver yy_Mo_goOver : Cond) ∈ wA := List.mem_of_getElem? (i := 327) rfl
theorem wa_328 : (Cond.code yy_Mo_follow bb_Mo_follow 7 (some .int) : Cond) ∈ wA := List.mem_of_getElem? (i := 328) rfl
theorem wa_329 : (Cond.methodLink "RepairGroupsModel" 108 yy_Mo_choose : Cond) ∈ wA := List.mem_of_getElem? (i := 329) rfl
theorem wa_330 : (Cond.instanceMethod yy_Mo_choose : Cond) ∈ wA := List.mem_of_getElem? (i := 330) rfl
theorem wa_331 : (Cond.selects "RepairGroupsModel" yy_Mo_choose yy_Mo_choose : Cond) ∈ wA := List.mem_of_getElem? (i := 331) rfl
theorem wa_332 : (Cond.fieldLink "RepairGroupsModel" 111 "RepairGroupsModel" "plans" "I" : Cond) ∈ wA := List.mem_of_getElem? (i := 332) rfl
theorem wa_333 : (Cond.methodLink "RepairGroupsModel" 114 yy_Mo_rejectedFor : Cond) ∈ wA := List.mem_of_getElem? (i := 333) rfl
theorem wa_334 : (Cond.instanceMethod yy_Mo_rejectedFor : Cond) ∈ wA := List.mem_of_getElem? (i := 334) rfl
theorem wa_335 : (Cond.selects "RepairGroupsModel" yy_Mo_rejectedFor yy_Mo_rejectedFor : Cond) ∈ wA := List.mem_of_getElem? (i := 335) rfl
theorem wa_336 : (Cond.code yy_Mo_put bb_Mo_put 7 (some .int) : Cond) ∈ wA := List.mem_of_getElem? (i := 336) rfl
theorem wa_337 : (Cond.methodLink "RepairGroupsModel" 118 yy_Mo_written : Cond) ∈ wA := List.mem_of_getElem? (i := 337) rfl
theorem wa_338 : (Cond.instanceMethod yy_Mo_written : Cond) ∈ wA := List.mem_of_getElem? (i := 338) rfl
theorem wa_339 : (Cond.selects "RepairGroupsModel" yy_Mo_written yy_Mo_written : Cond) ∈ wA := List.mem_of_getElem? (i := 339) rfl
theorem wa_340 : (Cond.code yy_Mo_fetch bb_Mo_fetch 5 (some .int) : Cond) ∈ wA := List.mem_of_getElem? (i := 340) rfl
theorem wa_341 : (Cond.methodLink "RepairGroupsModel" 122 yy_Mo_noShard : Cond) ∈ wA := List.mem_of_getElem? (i := 341) rfl
theorem wa_342 : (Cond.instanceMethod yy_Mo_noShard : Cond) ∈ wA := List.mem_of_getElem? (i := 342) rfl
theorem wa_343 : (Cond.selects "RepairGroupsModel" yy_Mo_noShard yy_Mo_noShard : Cond) ∈ wA := List.mem_of_getElem? (i := 343) rfl
theorem wa_344 : (Cond.methodLink "RepairGroupsModel" 125 yy_Mo_follow : Cond) ∈ wA := List.mem_of_getElem? (i := 344) rfl
theorem wa_345 : (Cond.instanceMethod yy_Mo_follow : Cond) ∈ wA := List.mem_of_getElem? (i := 345) rfl
theorem wa_346 : (Cond.selects "RepairGroupsModel" yy_Mo_follow yy_Mo_follow : Cond) ∈ wA := List.mem_of_getElem? (i := 346) rfl
theorem wa_347 : (Cond.methodLink "RepairGroupsModel" 128 yy_Mo_value : Cond) ∈ wA := List.mem_of_getElem? (i := 347) rfl
theorem wa_348 : (Cond.instanceMethod yy_Mo_value : Cond) ∈ wA := List.mem_of_getElem? (i := 348) rfl
theorem wa_349 : (Cond.selects "RepairGroupsModel" yy_Mo_value yy_Mo_value : Cond) ∈ wA := List.mem_of_getElem? (i := 349) rfl
theorem wa_350 : (Cond.fieldLink "RepairGroupsModel" 132 "RepairGroupsModel" "latest" "J" : Cond) ∈ wA := List.mem_of_getElem? (i := 350) rfl
theorem wa_351 : (Cond.code yy_Mo_fetched bb_Mo_fetched 1 (some .long) : Cond) ∈ wA := List.mem_of_getElem? (i := 351) rfl
theorem wa_352 : (Cond.code yy_Mo_fail bb_Mo_fail 5 (some .int) : Cond) ∈ wA := List.mem_of_getElem? (i := 352) rfl
theorem wa_353 : (Cond.code yy_Mo_revive bb_Mo_revive 2 (some .boolean) : Cond) ∈ wA := List.mem_of_getElem? (i := 353) rfl
theorem wa_354 : (Cond.code yy_Mo_damage bb_Mo_damage 4 (some .boolean) : Cond) ∈ wA := List.mem_of_getElem? (i := 354) rfl
theorem wa_355 : (Cond.code yy_Mo_repair bb_Mo_repair 4 (some .int) : Cond) ∈ wA := List.mem_of_getElem? (i := 355) rfl
theorem wa_356 : (Cond.code yy_Mo_next bb_Mo_next 5 (some .int) : Cond) ∈ wA := List.mem_of_getElem? (i := 356) rfl
theorem wa_357 : (Cond.code yy_Mo_mend bb_Mo_mend 5 (some .int) : Cond) ∈ wA := List.mem_of_getElem? (i := 357) rfl
theorem wa_358 : (Cond.methodLink "RepairGroupsModel" 136 yy_Mo_next : Cond) ∈ wA := List.mem_of_getElem? (i := 358) rfl
theorem wa_359 : (Cond.instanceMethod yy_Mo_next : Cond) ∈ wA := List.mem_of_getElem? (i := 359) rfl
theorem wa_360 : (Cond.selects "RepairGroupsModel" yy_Mo_next yy_Mo_next : Cond) ∈ wA := List.mem_of_getElem? (i := 360) rfl
theorem wa_361 : (Cond.methodLink "RepairGroupsModel" 139 yy_Mo_repair : Cond) ∈ wA := List.mem_of_getElem? (i := 361) rfl
theorem wa_362 : (Cond.instanceMethod yy_Mo_repair : Cond) ∈ wA := List.mem_of_getElem? (i := 362) rfl
theorem wa_363 : (Cond.selects "RepairGroupsModel" yy_Mo_repair yy_Mo_repair : Cond) ∈ wA := List.mem_of_getElem? (i := 363) rfl
theorem wa_364 : (Cond.code yy_Mo_scrub bb_Mo_scrub 4 (some .int) : Cond) ∈ wA := List.mem_of_getElem? (i := 364) rfl
theorem wa_365 : (Cond.code yy_Mo_cost bb_Mo_cost 3 (some .int) : Cond) ∈ wA := List.mem_of_getElem? (i := 365) rfl
theorem wa_366 : (Cond.code yy_Mo_rank bb_Mo_rank 2 (some .int) : Cond) ∈ wA := List.mem_of_getElem? (i := 366) rfl
theorem wa_367 : (Cond.code yy_Mo_lost bb_Mo_lost 4 (some .int) : Cond) ∈ wA := List.mem_of_getElem? (i := 367) rfl
theorem wa_368 : (Cond.code yy_Mo_content bb_Mo_content 3 (some .long) : Cond) ∈ wA := List.mem_of_getElem? (i := 368) rfl
theorem wa_369 : (Cond.code yy_Mo_node bb_Mo_node 3 (some .int) : Cond) ∈ wA := List.mem_of_getElem? (i := 369) rfl
theorem wa_370 : (Cond.code yy_Mo_up bb_Mo_up 2 (some .boolean) : Cond) ∈ wA := List.mem_of_getElem? (i := 370) rfl
theorem wa_371 : (Cond.code yy_Mo_count bb_Mo_count 2 (some .int) : Cond) ∈ wA := List.mem_of_getElem? (i := 371) rfl
theorem wa_372 : (Cond.code yy_Mo_size bb_Mo_size 1 (some .int) : Cond) ∈ wA := List.mem_of_getElem? (i := 372) rfl
theorem wa_373 : (Cond.code yy_La_cell bb_La_cell 2 (some .int) : Cond) ∈ wA := List.mem_of_getElem? (i := 373) rfl
theorem wa_374 : (Cond.classLink "RepairGroupsLaw" 7 "RepairGroups" : Cond) ∈ wA := List.mem_of_getElem? (i := 374) rfl
theorem wa_375 : (Cond.instantiable "RepairGroups" 7 : Cond) ∈ wA := List.mem_of_getElem? (i := 375) rfl
theorem wa_376 : (Cond.methodLink "RepairGroupsLaw" 9 yy_La_cell : Cond) ∈ wA := List.mem_of_getElem? (i := 376) rfl
theorem wa_377 : (Cond.initialized "RepairGroupsLaw" : Cond) ∈ wA := List.mem_of_getElem? (i := 377) rfl
theorem wa_378 : (Cond.static yy_La_cell : Cond) ∈ wA := List.mem_of_getElem? (i := 378) rfl
theorem wa_379 : (Cond.methodLink "RepairGroupsLaw" 15 yy_RG_init : Cond) ∈ wA := List.mem_of_getElem? (i := 379) rfl
theorem wa_380 : (Cond.instanceMethod yy_RG_init : Cond) ∈ wA := List.mem_of_getElem? (i := 380) rfl
theorem wa_381 : (Cond.classLink "RepairGroupsLaw" 18 "RepairGroupsModel" : Cond) ∈ wA := List.mem_of_getElem? (i := 381) rfl
theorem wa_382 : (Cond.instantiable "RepairGroupsModel" 18 : Cond) ∈ wA := List.mem_of_getElem? (i := 382) rfl
theorem wa_383 : (Cond.methodLink "RepairGroupsLaw" 20 yy_Mo_init : Cond) ∈ wA := List.mem_of_getElem? (i := 383) rfl
theorem wa_384 : (Cond.instanceMethod yy_Mo_init : Cond) ∈ wA := List.mem_of_getElem? (i := 384) rfl
theorem wa_385 : (Cond.constantLong "RepairGroupsLaw" 21 (4294967295) : Cond) ∈ wA := List.mem_of_getElem? (i := 385) rfl
theorem wa_386 : (Cond.methodLink "RepairGroupsLaw" 23 yy_RG_put : Cond) ∈ wA := List.mem_of_getElem? (i := 386) rfl
theorem wa_387 : (Cond.instanceMethod yy_RG_put : Cond) ∈ wA := List.mem_of_getElem? (i := 387) rfl
theorem wa_388 : (Cond.selects "RepairGroups" yy_RG_put yy_RG_put : Cond) ∈ wA := List.mem_of_getElem? (i := 388) rfl
theorem wa_389 : (Cond.methodLink "RepairGroupsLaw" 27 yy_Mo_put : Cond) ∈ wA := List.mem_of_getElem? (i := 389) rfl
theorem wa_390 : (Cond.instanceMethod yy_Mo_put : Cond) ∈ wA := List.mem_of_getElem? (i := 390) rfl
theorem wa_391 : (Cond.selects "RepairGroupsModel" yy_Mo_put yy_Mo_put : Cond) ∈ wA := List.mem_of_getElem? (i := 391) rfl
theorem wa_392 : (Cond.methodLink "RepairGroupsLaw" 28 yy_RG_fetch : Cond) ∈ wA := List.mem_of_getElem? (i := 392) rfl
theorem wa_393 : (Cond.instanceMethod yy_RG_fetch : Cond) ∈ wA := List.mem_of_getElem? (i := 393) rfl
theorem wa_394 : (Cond.selects "RepairGroups" yy_RG_fetch yy_RG_fetch : Cond) ∈ wA := List.mem_of_getElem? (i := 394) rfl
theorem wa_395 : (Cond.methodLink "RepairGroupsLaw" 32 yy_Mo_fetch : Cond) ∈ wA := List.mem_of_getElem? (i := 395) rfl
theorem wa_396 : (Cond.instanceMethod yy_Mo_fetch : Cond) ∈ wA := List.mem_of_getElem? (i := 396) rfl
theorem wa_397 : (Cond.selects "RepairGroupsModel" yy_Mo_fetch yy_Mo_fetch : Cond) ∈ wA := List.mem_of_getElem? (i := 397) rfl
theorem wa_398 : (Cond.methodLink "RepairGroupsLaw" 33 yy_RG_fetched : Cond) ∈ wA := List.mem_of_getElem? (i := 398) rfl
theorem wa_399 : (Cond.instanceMethod yy_RG_fetched : Cond) ∈ wA := List.mem_of_getElem? (i := 399) rfl
theorem wa_400 : (Cond.selects "RepairGroups" yy_RG_fetched yy_RG_fetched : Cond) ∈ wA := List.mem_of_getElem? (i := 400) rfl
theorem wa_401 : (Cond.methodLink "RepairGroupsLaw" 37 yy_Mo_fetched : Cond) ∈ wA := List.mem_of_getElem? (i := 401) rfl
theorem wa_402 : (Cond.instanceMethod yy_Mo_fetched : Cond) ∈ wA := List.mem_of_getElem? (i := 402) rfl
theorem wa_403 : (Cond.selects "RepairGroupsModel" yy_Mo_fetched yy_Mo_fetched : Cond) ∈ wA := List.mem_of_getElem? (i := 403) rfl
theorem wa_404 : (Cond.methodLink "RepairGroupsLaw" 38 yy_RG_fail : Cond) ∈ wA := List.mem_of_getElem? (i := 404) rfl
theorem wa_405 : (Cond.instanceMethod yy_RG_fail : Cond) ∈ wA := List.mem_of_getElem? (i := 405) rfl
theorem wa_406 : (Cond.selects "RepairGroups" yy_RG_fail yy_RG_fail : Cond) ∈ wA := List.mem_of_getElem? (i := 406) rfl
theorem wa_407 : (Cond.methodLink "RepairGroupsLaw" 42 yy_Mo_fail : Cond) ∈ wA := List.mem_of_getElem? (i := 407) rfl
theorem wa_408 : (Cond.instanceMethod yy_Mo_fail : Cond) ∈ wA := List.mem_of_getElem? (i := 408) rfl
theorem wa_409 : (Cond.selects "RepairGroupsModel" yy_Mo_fail yy_Mo_fail : Cond) ∈ wA := List.mem_of_getElem? (i := 409) rfl
theorem wa_410 : (Cond.methodLink "RepairGroupsLaw" 43 yy_RG_revive : Cond) ∈ wA := List.mem_of_getElem? (i := 410) rfl
theorem wa_411 : (Cond.instanceMethod yy_RG_revive : Cond) ∈ wA := List.mem_of_getElem? (i := 411) rfl
theorem wa_412 : (Cond.selects "RepairGroups" yy_RG_revive yy_RG_revive : Cond) ∈ wA := List.mem_of_getElem? (i := 412) rfl
theorem wa_413 : (Cond.methodLink "RepairGroupsLaw" 47 yy_Mo_revive : Cond) ∈ wA := List.mem_of_getElem? (i := 413) rfl
theorem wa_414 : (Cond.instanceMethod yy_Mo_revive : Cond) ∈ wA := List.mem_of_getElem? (i := 414) rfl
theorem wa_415 : (Cond.selects "RepairGroupsModel" yy_Mo_revive yy_Mo_revive : Cond) ∈ wA := List.mem_of_getElem? (i := 415) rfl
theorem wa_416 : (Cond.methodLink "RepairGroupsLaw" 48 yy_RG_damage : Cond) ∈ wA := List.mem_of_getElem? (i := 416) rfl
theorem wa_417 : (Cond.instanceMethod yy_RG_damage : Cond) ∈ wA := List.mem_of_getElem? (i := 417) rfl
theorem wa_418 : (Cond.selects "RepairGroups" yy_RG_damage yy_RG_damage : Cond) ∈ wA := List.mem_of_getElem? (i := 418) rfl
theorem wa_419 : (Cond.methodLink "RepairGroupsLaw" 52 yy_Mo_damage : Cond) ∈ wA := List.mem_of_getElem? (i := 419) rfl
theorem wa_420 : (Cond.instanceMethod yy_Mo_damage : Cond) ∈ wA := List.mem_of_getElem? (i := 420) rfl
theorem wa_421 : (Cond.selects "RepairGroupsModel" yy_Mo_damage yy_Mo_damage : Cond) ∈ wA := List.mem_of_getElem? (i := 421) rfl
theorem wa_422 : (Cond.methodLink "RepairGroupsLaw" 53 yy_RG_repair : Cond) ∈ wA := List.mem_of_getElem? (i := 422) rfl
theorem wa_423 : (Cond.instanceMethod yy_RG_repair : Cond) ∈ wA := List.mem_of_getElem? (i := 423) rfl
theorem wa_424 : (Cond.selects "RepairGroups" yy_RG_repair yy_RG_repair : Cond) ∈ wA := List.mem_of_getElem? (i := 424) rfl
theorem wa_425 : (Cond.methodLink "RepairGroupsLaw" 56 yy_Mo_repair : Cond) ∈ wA := List.mem_of_getElem? (i := 425) rfl
theorem wa_426 : (Cond.methodLink "RepairGroupsLaw" 57 yy_RG_mend : Cond) ∈ wA := List.mem_of_getElem? (i := 426) rfl
theorem wa_427 : (Cond.instanceMethod yy_RG_mend : Cond) ∈ wA := List.mem_of_getElem? (i := 427) rfl
theorem wa_428 : (Cond.selects "RepairGroups" yy_RG_mend yy_RG_mend : Cond) ∈ wA := List.mem_of_getElem? (i := 428) rfl
theorem wa_429 : (Cond.methodLink "RepairGroupsLaw" 60 yy_Mo_mend : Cond) ∈ wA := List.mem_of_getElem? (i := 429) rfl
theorem wa_430 : (Cond.instanceMethod yy_Mo_mend : Cond) ∈ wA := List.mem_of_getElem? (i := 430) rfl
theorem wa_431 : (Cond.selects "RepairGroupsModel" yy_Mo_mend yy_Mo_mend : Cond) ∈ wA := List.mem_of_getElem? (i := 431) rfl
theorem wa_432 : (Cond.methodLink "RepairGroupsLaw" 61 yy_RG_scrub : Cond) ∈ wA := List.mem_of_getElem? (i := 432) rfl
theorem wa_433 : (Cond.instanceMethod yy_RG_scrub : Cond) ∈ wA := List.mem_of_getElem? (i := 433) rfl
theorem wa_434 : (Cond.selects "RepairGroups" yy_RG_scrub yy_RG_scrub : Cond) ∈ wA := List.mem_of_getElem? (i := 434) rfl
theorem wa_435 : (Cond.methodLink "RepairGroupsLaw" 64 yy_Mo_scrub : Cond) ∈ wA := List.mem_of_getElem? (i := 435) rfl
theorem wa_436 : (Cond.instanceMethod yy_Mo_scrub : Cond) ∈ wA := List.mem_of_getElem? (i := 436) rfl
theorem wa_437 : (Cond.selects "RepairGroupsModel" yy_Mo_scrub yy_Mo_scrub : Cond) ∈ wA := List.mem_of_getElem? (i := 437) rfl
theorem wa_438 : (Cond.methodLink "RepairGroupsLaw" 65 yy_RG_cost : Cond) ∈ wA := List.mem_of_getElem? (i := 438) rfl
theorem wa_439 : (Cond.instanceMethod yy_RG_cost : Cond) ∈ wA := List.mem_of_getElem? (i := 439) rfl
theorem wa_440 : (Cond.selects "RepairGroups" yy_RG_cost yy_RG_cost : Cond) ∈ wA := List.mem_of_getElem? (i := 440) rfl
theorem wa_441 : (Cond.methodLink "RepairGroupsLaw" 68 yy_Mo_cost : Cond) ∈ wA := List.mem_of_getElem? (i := 441) rfl
theorem wa_442 : (Cond.instanceMethod yy_Mo_cost : Cond) ∈ wA := List.mem_of_getElem? (i := 442) rfl
theorem wa_443 : (Cond.selects "RepairGroupsModel" yy_Mo_cost yy_Mo_cost : Cond) ∈ wA := List.mem_of_getElem? (i := 443) rfl
theorem wa_444 : (Cond.methodLink "RepairGroupsLaw" 69 yy_RG_rank : Cond) ∈ wA := List.mem_of_getElem? (i := 444) rfl
theorem wa_445 : (Cond.instanceMethod yy_RG_rank : Cond) ∈ wA := List.mem_of_getElem? (i := 445) rfl
theorem wa_446 : (Cond.selects "RepairGroups" yy_RG_rank yy_RG_rank : Cond) ∈ wA := List.mem_of_getElem? (i := 446) rfl
theorem wa_447 : (Cond.methodLink "RepairGroupsLaw" 72 yy_Mo_rank : Cond) ∈ wA := List.mem_of_getElem? (i := 447) rfl
theorem wa_448 : (Cond.instanceMethod yy_Mo_rank : Cond) ∈ wA := List.mem_of_getElem? (i := 448) rfl
theorem wa_449 : (Cond.selects "RepairGroupsModel" yy_Mo_rank yy_Mo_rank : Cond) ∈ wA := List.mem_of_getElem? (i := 449) rfl
theorem wa_450 : (Cond.methodLink "RepairGroupsLaw" 73 yy_RG_lost : Cond) ∈ wA := List.mem_of_getElem? (i := 450) rfl
theorem wa_451 : (Cond.instanceMethod yy_RG_lost : Cond) ∈ wA := List.mem_of_getElem? (i := 451) rfl
theorem wa_452 : (Cond.selects "RepairGroups" yy_RG_lost yy_RG_lost : Cond) ∈ wA := List.mem_of_getElem? (i := 452) rfl
theorem wa_453 : (Cond.methodLink "RepairGroupsLaw" 76 yy_Mo_lost : Cond) ∈ wA := List.mem_of_getElem? (i := 453) rfl
theorem wa_454 : (Cond.instanceMethod yy_Mo_lost : Cond) ∈ wA := List.mem_of_getElem? (i := 454) rfl
theorem wa_455 : (Cond.selects "RepairGroupsModel" yy_Mo_lost yy_Mo_lost : Cond) ∈ wA := List.mem_of_getElem? (i := 455) rfl
theorem wa_456 : (Cond.methodLink "RepairGroupsLaw" 77 yy_RG_content : Cond) ∈ wA := List.mem_of_getElem? (i := 456) rfl
theorem wa_457 : (Cond.instanceMethod yy_RG_content : Cond) ∈ wA := List.mem_of_getElem? (i := 457) rfl
theorem wa_458 : (Cond.selects "RepairGroups" yy_RG_content yy_RG_content : Cond) ∈ wA := List.mem_of_getElem? (i := 458) rfl
theorem wa_459 : (Cond.methodLink "RepairGroupsLaw" 81 yy_Mo_content : Cond) ∈ wA := List.mem_of_getElem? (i := 459) rfl
theorem wa_460 : (Cond.instanceMethod yy_Mo_content : Cond) ∈ wA := List.mem_of_getElem? (i := 460) rfl
theorem wa_461 : (Cond.selects "RepairGroupsModel" yy_Mo_content yy_Mo_content : Cond) ∈ wA := List.mem_of_getElem? (i := 461) rfl
theorem wa_462 : (Cond.methodLink "RepairGroupsLaw" 82 yy_RG_node : Cond) ∈ wA := List.mem_of_getElem? (i := 462) rfl
theorem wa_463 : (Cond.instanceMethod yy_RG_node : Cond) ∈ wA := List.mem_of_getElem? (i := 463) rfl
theorem wa_464 : (Cond.selects "RepairGroups" yy_RG_node yy_RG_node : Cond) ∈ wA := List.mem_of_getElem? (i := 464) rfl
theorem wa_465 : (Cond.methodLink "RepairGroupsLaw" 85 yy_Mo_node : Cond) ∈ wA := List.mem_of_getElem? (i := 465) rfl
theorem wa_466 : (Cond.instanceMethod yy_Mo_node : Cond) ∈ wA := List.mem_of_getElem? (i := 466) rfl
theorem wa_467 : (Cond.selects "RepairGroupsModel" yy_Mo_node yy_Mo_node : Cond) ∈ wA := List.mem_of_getElem? (i := 467) rfl
theorem wa_468 : (Cond.methodLink "RepairGroupsLaw" 86 yy_RG_up : Cond) ∈ wA := List.mem_of_getElem? (i := 468) rfl
theorem wa_469 : (Cond.instanceMethod yy_RG_up : Cond) ∈ wA := List.mem_of_getElem? (i := 469) rfl
theorem wa_470 : (Cond.selects "RepairGroups" yy_RG_up yy_RG_up : Cond) ∈ wA := List.mem_of_getElem? (i := 470) rfl
theorem wa_471 : (Cond.methodLink "RepairGroupsLaw" 89 yy_Mo_up : Cond) ∈ wA := List.mem_of_getElem? (i := 471) rfl
theorem wa_472 : (Cond.instanceMethod yy_Mo_up : Cond) ∈ wA := List.mem_of_getElem? (i := 472) rfl
theorem wa_473 : (Cond.selects "RepairGroupsModel" yy_Mo_up yy_Mo_up : Cond) ∈ wA := List.mem_of_getElem? (i := 473) rfl
theorem wa_474 : (Cond.methodLink "RepairGroupsLaw" 90 yy_RG_count : Cond) ∈ wA := List.mem_of_getElem? (i := 474) rfl
theorem wa_475 : (Cond.instanceMethod yy_RG_count : Cond) ∈ wA := List.mem_of_getElem? (i := 475) rfl
theorem wa_476 : (Cond.selects "RepairGroups" yy_RG_count yy_RG_count : Cond) ∈ wA := List.mem_of_getElem? (i := 476) rfl
theorem wa_477 : (Cond.methodLink "RepairGroupsLaw" 93 yy_Mo_count : Cond) ∈ wA := List.mem_of_getElem? (i := 477) rfl
theorem wa_478 : (Cond.instanceMethod yy_Mo_count : Cond) ∈ wA := List.mem_of_getElem? (i := 478) rfl
theorem wa_479 : (Cond.selects "RepairGroupsModel" yy_Mo_count yy_Mo_count : Cond) ∈ wA := List.mem_of_getElem? (i := 479) rfl
theorem wa_480 : (Cond.methodLink "RepairGroupsLaw" 94 yy_RG_size : Cond) ∈ wA := List.mem_of_getElem? (i := 480) rfl
theorem wa_481 : (Cond.instanceMethod yy_RG_size : Cond) ∈ wA := List.mem_of_getElem? (i := 481) rfl
theorem wa_482 : (Cond.selects "RepairGroups" yy_RG_size yy_RG_size : Cond) ∈ wA := List.mem_of_getElem? (i := 482) rfl
theorem wa_483 : (Cond.methodLink "RepairGroupsLaw" 98 yy_Mo_size : Cond) ∈ wA := List.mem_of_getElem? (i := 483) rfl
theorem wa_484 : (Cond.instanceMethod yy_Mo_size : Cond) ∈ wA := List.mem_of_getElem? (i := 484) rfl
theorem wa_485 : (Cond.selects "RepairGroupsModel" yy_Mo_size yy_Mo_size : Cond) ∈ wA := List.mem_of_getElem? (i := 485) rfl
theorem wa_486 : (Cond.code yy_In_bitCount bb_In_bitCount 1 (some .int) : Cond) ∈ wA := List.mem_of_getElem? (i := 486) rfl
theorem wa_487 : (Cond.constant "java/lang/Integer" 265 (1431655765) : Cond) ∈ wA := List.mem_of_getElem? (i := 487) rfl
theorem wa_488 : (Cond.constant "java/lang/Integer" 266 (858993459) : Cond) ∈ wA := List.mem_of_getElem? (i := 488) rfl
theorem wa_489 : (Cond.constant "java/lang/Integer" 267 (252645135) : Cond) ∈ wA := List.mem_of_getElem? (i := 489) rfl
theorem wA_all : wA.all goodWord = true := by decide +kernel
theorem wA_good : ∀ w ∈ wA, (w.onTables && w.keeps) = true ∨ ∃ ty, w = .arrayClass ty := fun w hw => good_of_word (List.all_eq_true.mp wA_all w hw)
def nW : List Cond := [.methodLinkNest "RepairGroups" 20 yy_Sp_init "RepairGroups",
  .fieldLinkNest "RepairGroups" 31 "RepairGroups$Code" "shards" "I" "RepairGroups",
  .fieldLinkNest "RepairGroups" 129 "RepairGroups$Code" "rows" "[J" "RepairGroups",
  .methodLinkNest "RepairGroups$Code" 47 yy_RG_isIn "RepairGroups",
  .methodLinkNest "RepairGroups$Stripe" 28 yy_RG_isIn "RepairGroups"]
theorem nw_0 : (Cond.methodLinkNest "RepairGroups" 20 yy_Sp_init "RepairGroups" : Cond) ∈ nW := List.mem_of_getElem? (i := 0) rfl
theorem nw_1 : (Cond.fieldLinkNest "RepairGroups" 31 "RepairGroups$Code" "shards" "I" "RepairGroups" : Cond) ∈ nW := List.mem_of_getElem? (i := 1) rfl
theorem nw_2 : (Cond.fieldLinkNest "RepairGroups" 129 "RepairGroups$Code" "rows" "[J" "RepairGroups" : Cond) ∈ nW := List.mem_of_getElem? (i := 2) rfl
theorem nw_3 : (Cond.methodLinkNest "RepairGroups$Code" 47 yy_RG_isIn "RepairGroups" : Cond) ∈ nW := List.mem_of_getElem? (i := 3) rfl
theorem nw_4 : (Cond.methodLinkNest "RepairGroups$Stripe" 28 yy_RG_isIn "RepairGroups" : Cond) ∈ nW := List.mem_of_getElem? (i := 4) rfl
theorem nW_tab : ∀ w ∈ nW, w.onTables = true := by decide +kernel
theorem nW_warm {s U : State} (hW : s.WarmedH U.vm) : ∀ w ∈ nW, va_Nw w s → va_Nw w U := by
  intro w hw h
  simp only [nW, List.mem_cons, List.not_mem_nil, or_false] at hw
  rcases hw with rfl | rfl | rfl | rfl | rfl <;> first | exact va_Nw.warmF hW h | exact va_Nw.warmM hW h
theorem uw_RG : ∀ w ∈ u_ws "RepairGroups" ff_RG 7, w ∈ wA := by decide +kernel
theorem uw_Co : ∀ w ∈ u_ws "RepairGroups$Code" ff_Co 3, w ∈ wA := by decide +kernel
theorem uw_Sp : ∀ w ∈ u_ws "RepairGroups$Span" ff_Sp 2, w ∈ wA := by decide +kernel
theorem uw_Sq : ∀ w ∈ u_ws "RepairGroups$Stripe" ff_Sq 5, w ∈ wA := by decide +kernel
theorem uw_Mo : ∀ w ∈ u_ws "RepairGroupsModel" ff_Mo 18, w ∈ wA := by decide +kernel
end
section
/-! A layer over the kit's rows: methods whose answer and whose cells behind them are functions of what they find.
    Ahead of it (part of the names): cl_all (the classes of all worlds), wA (all words of the tables that methods need), nW (the links to members of nest mates), tyA (the array classes). -/
theorem ly_fm {α β : Type} {f : α → Option β} : ∀ {is : List α} {l : List β}, is.map f = l.map some → is.filterMap f = l
  | [], [], _ => rfl
  | [], _ :: _, h => by cases h
  | _ :: _, [], h => by cases h
  | i :: is, x :: l, h => by
    simp only [List.map_cons, List.cons.injEq] at h
    rw [List.filterMap_cons, h.1, ly_fm h.2]
/-- the nest's links hold, and the arrays of objects have their classes -/
def ly_N (U : State) : Prop := (∀ w ∈ nW, va_Nw w U) ∧ ∀ Cn ∈ aO, va_AO Cn U
theorem ly_N.same {u U : State} (h : u.vm = U.vm) (hN : ly_N u) : ly_N U := ⟨fun w hw => va_Nw.same (nW_tab w hw) h (hN.1 w hw), fun Cn hc => va_AO.moved (by rw [h]; exact Vm.Alike.refl _) (hN.2 Cn hc)⟩
theorem ly_N.warm {s U : State} (hW : s.WarmedH U.vm) (hN : ly_N s) : ly_N U := ⟨fun w hw => nW_warm hW w hw (hN.1 w hw), fun Cn hc => va_AO.moved hW.alike (hN.2 Cn hc)⟩
/-- a contract's start -/
def ly_pre (D : va_G) (K : Nat → ClassId) (args : List Value) (ws : va_W) (sz : Nat) : Array Value → State → Prop :=
  va_Pc args (fun U => U.heap.size = sz ∧ va_P D cl_all ws U.heap ∧ va_K D cl_all (tyA K) U ∧ va_D (fun _ => True) ws ∧ ly_N U)
/-- the world behind it -/
def ly_B (D : va_G) (K : Nat → ClassId) (A : Nat → Prop) (ws : va_W) (_ : Unit) (t : State) : Prop := va_P D cl_all ws t.heap ∧ va_K D cl_all (tyA K) t ∧ va_D A ws
def ly_rm (fr lo mc ms : Nat) : Room := { frames := fr, cells := mc, slots := ms, locals := lo }
/-- what a walk stands on -/
def ly_C (p : Program) (m : MethodId) (c : Code) (cc : ByteArray) (nL : Nat) (own : String) (s : State) (args : Array Value) (A : Nat → Prop) (D : va_G) (K : Nat → ClassId) : Prop :=
  p.tables.exec = Jvm.exec ∧ c.code = cc ∧ c.maxLocals = nL ∧ s.vm.findClass own = some m.cls ∧ (∀ w ∈ wA, w.before args s = true) ∧ (∀ q, s.heap.size ≤ q → A q) ∧ va_K D cl_all (tyA K) s ∧ ly_N s
/-- the answer is an int (a long; none): a function of the result, as are the cells -/
def ly_i {ρ : Type} (l : Launch) (y : MethodName) (cc : ByteArray) (maxL : Nat) (ret : Option FieldType) (fr lo : Nat) (D : va_G) (K : Nat → ClassId) (args : List Value) (ws : va_W) (rf : ρ → Int32) (wf : ρ → va_W) (res : ρ) : Prop :=
  ∀ sz : Nat, Met l y (Cond.code y cc maxL ret :: wA) (ly_rm fr lo 0 0) (ly_pre D K args ws sz) (va_Qi (fun x (_ : Unit) => x = rf res) (ly_B D K (va_A ws sz) (wf res)) (va_A ws sz)) 0 0 (va_A ws sz)
def ly_l {ρ : Type} (l : Launch) (y : MethodName) (cc : ByteArray) (maxL : Nat) (ret : Option FieldType) (fr lo : Nat) (D : va_G) (K : Nat → ClassId) (args : List Value) (ws : va_W) (rf : ρ → Int64) (wf : ρ → va_W) (res : ρ) : Prop :=
  ∀ sz : Nat, Met l y (Cond.code y cc maxL ret :: wA) (ly_rm fr lo 0 0) (ly_pre D K args ws sz) (va_Ql (fun x (_ : Unit) => x = rf res) (ly_B D K (va_A ws sz) (wf res)) (va_A ws sz)) 0 0 (va_A ws sz)
def ly_v {ρ : Type} (l : Launch) (y : MethodName) (cc : ByteArray) (maxL : Nat) (ret : Option FieldType) (fr lo : Nat) (D : va_G) (K : Nat → ClassId) (args : List Value) (ws : va_W) (wf : ρ → va_W) (res : ρ) : Prop :=
  ∀ sz : Nat, Met l y (Cond.code y cc maxL ret :: wA) (ly_rm fr lo 0 0) (ly_pre D K args ws sz) (va_Qv (fun (_ : Unit) => True) (ly_B D K (va_A ws sz) (wf res)) (va_A ws sz)) 0 0 (va_A ws sz)
/-- a constructor: it makes at most mc cells of ms slots, at addresses u -/
def ly_n (l : Launch) (y : MethodName) (cc : ByteArray) (maxL : Nat) (fr lo mc ms : Nat) (D : va_G) (K : Nat → ClassId) (args : List Value) (ws : va_W) (wfu : (Nat → Nat) → va_W) : Prop :=
  ∀ sz : Nat, Met l y (Cond.code y cc maxL none :: wA) (ly_rm fr lo mc ms) (ly_pre D K args ws sz) (va_Qv (fun (_ : Nat → Nat) => True) (fun u t => ly_B D K (va_A ws sz) (wfu u) () t) (va_A ws sz)) mc ms (va_A ws sz)
theorem ly_blind {D : va_G} {K : Nat → ClassId} {args : List Value} {ws : va_W} {sz : Nat} : FrameBlind (ly_pre D K args ws sz) := by
  intro a U g mk q
  obtain ⟨q0, q1, qP, qK, qD, qN⟩ := q
  exact ⟨q0, q1, qP, va_K.moved (u := U) (U := U.calling g mk a) (Vm.Alike.refl U.vm) qK, qD, ly_N.same (u := U) rfl qN⟩
theorem ly_good {w : Cond} (hw : w ∈ wA) : (w.onTables && w.keeps) = true ∨ ∃ ty, w = .arrayClass ty := wA_good w hw
theorem ly_GI {w : Cond} (hw : w ∈ wA) : GoodIn wA (w :: wA) := by
  intro x hx
  rcases List.mem_cons.mp hx with rfl | h
  · exact ⟨hw, ly_good hw⟩
  · exact ⟨h, ly_good h⟩
section LYE
variable {l : Launch} {y : MethodName} {cc : ByteArray} {maxL fr lo : Nat} {D : va_G} {K : Nat → ClassId} {args : List Value} {ws : va_W} {ρ : Type} {wf : ρ → va_W} {res0 : ρ}
theorem ly_ent {Qf : (Nat → Prop) → Array Value → State → Outcome → State → Prop} {ret : Option FieldType} {sz mc ms : Nat} (hy : plainName y.cls = true) (hlen : (lg_sl args).length ≤ maxL)
    (body : ∀ (p : Program) (e : Env) (s : State) (m : MethodId) (below : List Frame) (meth : Method) (c : Code) (A : Nat → Prop) (ls : Array Slot), meth.sig.returnType = ret → meth.locks = false → meth.name = y.name →
      ly_C p m c cc maxL y.cls s args.toArray A D K → va_S A s.heap s.heap [] → va_P D cl_all ws s.heap → va_D A ws → lv_has ls maxL (lv_args 0 args) →
      W p l e (ly_rm fr lo mc ms) s m args.toArray below meth c s.heap [] 0 0 (MQ below (Qf A) args.toArray s mc ms A) (F0 m 0 ls [])) :
    Met l y (Cond.code y cc maxL ret :: wA) (ly_rm fr lo mc ms) (ly_pre D K args ws sz) (Qf (va_A ws sz)) mc ms (va_A ws sz) := by
  refine Met.ofW (cc := cc) (maxL := maxL) (ret := ret) hy rfl ?_
  intro p e s m args' below meth c s₁ B hml hv
  obtain ⟨rfl, hsz, hP, hK, hD0, hN⟩ := hv
  subst hsz
  have hl := lv_entry args (n := maxL) hlen
  rw [lg_entry_eq]
  generalize (lg_sl args ++ List.replicate (maxL - (lg_sl args).length) Slot.unset).toArray = ls at hl ⊢
  have hts := atoms_spec (ws := Cond.code y cc maxL ret :: wA) B.pre
  exact body p e s m below meth c (va_A ws s.heap.size) ls B.returns B.notSynchronized (name_of_methodNamed B.named B.method).1
    ⟨B.exec, B.bytes, hml, findClass_of_methodNamed B.named, fun w h => hts w (List.mem_cons_of_mem _ h), fun q h => Or.inr h, hK, hN⟩ va_S.rf hP hD0.self hl
theorem ly_entI {rf : ρ → Int32} {ty : FieldType} (hy : plainName y.cls = true) (hlen : (lg_sl args).length ≤ maxL)
    (body : ∀ (p : Program) (e : Env) (s : State) (m : MethodId) (av : Array Value) (below : List Frame) (meth : Method) (c : Code) (A : Nat → Prop) (ls : Array Slot) (R : Room) (Q : State → Prop) (H : Heap) (locs : List Loc) (res : ρ), res0 = res →
      ly_C p m c cc maxL y.cls s av A D K → fr ≤ R.frames → lo ≤ R.locals → va_S A s.heap H locs → va_P D cl_all ws H → va_D A ws → lv_has ls maxL (lv_args 0 args) →
      (∀ (z : ρ) (H : Heap) (locs : List Loc) (pc : Nat) (ls : Array Slot), z = res → narrow ty (.int (rf z)) = .int (rf z) → va_S A s.heap H locs → va_P D cl_all (wf z) H → va_D A (wf z) → decode cc pc = .ok (.ireturn, 1) →
        W p l e R s m av below meth c H locs 0 0 Q (F0 m pc ls [.int (rf z)])) →
      W p l e R s m av below meth c H locs 0 0 Q (F0 m 0 ls [])) : ly_i l y cc maxL (some ty) fr lo D K args ws rf wf res0 := by
  intro sz
  refine ly_ent (Qf := fun A => va_Qi (fun x (_ : Unit) => x = rf res0) (ly_B D K A (wf res0)) A) hy hlen ?_
  intro p e s m below meth c A ls hr hlk _ C hS hP hD hl
  refine body p e s m args.toArray below meth c A ls _ _ s.heap [] res0 rfl C (Nat.le_refl _) (Nat.le_refl _) hS hP hD hl ?_
  intro z H locs pc ls' hz hn hS' hP' hD' hdg
  subst hz
  exact W.zret C.1 C.2.1 hr hn (fun t ht hW => ⟨⟨rf z, (), rfl, rfl, by rw [ht]; exact hP', va_K.moved hW.alike C.2.2.2.2.2.2.1, hD'⟩, hS'.F ht⟩) hS'.2.2 hdg (hlocks := hlk)
theorem ly_entL {rf : ρ → Int64} (hy : plainName y.cls = true) (hlen : (lg_sl args).length ≤ maxL)
    (body : ∀ (p : Program) (e : Env) (s : State) (m : MethodId) (av : Array Value) (below : List Frame) (meth : Method) (c : Code) (A : Nat → Prop) (ls : Array Slot) (R : Room) (Q : State → Prop) (H : Heap) (locs : List Loc) (res : ρ), res0 = res →
      ly_C p m c cc maxL y.cls s av A D K → fr ≤ R.frames → lo ≤ R.locals → va_S A s.heap H locs → va_P D cl_all ws H → va_D A ws → lv_has ls maxL (lv_args 0 args) →
      (∀ (z : ρ) (H : Heap) (locs : List Loc) (pc : Nat) (ls : Array Slot), z = res → va_S A s.heap H locs → va_P D cl_all (wf z) H → va_D A (wf z) → decode cc pc = .ok (.lreturn, 1) →
        W p l e R s m av below meth c H locs 0 0 Q (F0 m pc ls [.long (rf z)])) →
      W p l e R s m av below meth c H locs 0 0 Q (F0 m 0 ls [])) : ly_l l y cc maxL (some .long) fr lo D K args ws rf wf res0 := by
  intro sz
  refine ly_ent (Qf := fun A => va_Ql (fun x (_ : Unit) => x = rf res0) (ly_B D K A (wf res0)) A) hy hlen ?_
  intro p e s m below meth c A ls hr hlk _ C hS hP hD hl
  refine body p e s m args.toArray below meth c A ls _ _ s.heap [] res0 rfl C (Nat.le_refl _) (Nat.le_refl _) hS hP hD hl ?_
  intro z H locs pc ls' hz hS' hP' hD' hdg
  subst hz
  exact W.lret C.1 C.2.1 hr (fun t ht hW => ⟨⟨rf z, (), rfl, rfl, by rw [ht]; exact hP', va_K.moved hW.alike C.2.2.2.2.2.2.1, hD'⟩, hS'.F ht⟩) hS'.2.2 hdg (hlocks := hlk)
theorem ly_entV (hy : plainName y.cls = true) (hlen : (lg_sl args).length ≤ maxL)
    (body : ∀ (p : Program) (e : Env) (s : State) (m : MethodId) (av : Array Value) (below : List Frame) (meth : Method) (c : Code) (A : Nat → Prop) (ls : Array Slot) (R : Room) (Q : State → Prop) (H : Heap) (locs : List Loc) (res : ρ), res0 = res →
      ly_C p m c cc maxL y.cls s av A D K → fr ≤ R.frames → lo ≤ R.locals → va_S A s.heap H locs → va_P D cl_all ws H → va_D A ws → lv_has ls maxL (lv_args 0 args) →
      (∀ (z : ρ) (H : Heap) (locs : List Loc) (pc : Nat) (ls : Array Slot), z = res → va_S A s.heap H locs → va_P D cl_all (wf z) H → va_D A (wf z) → decode cc pc = .ok (.return_, 1) →
        W p l e R s m av below meth c H locs 0 0 Q (F0 m pc ls [])) →
      W p l e R s m av below meth c H locs 0 0 Q (F0 m 0 ls [])) : ly_v l y cc maxL none fr lo D K args ws wf res0 := by
  intro sz
  refine ly_ent (Qf := fun A => va_Qv (fun (_ : Unit) => True) (ly_B D K A (wf res0)) A) hy hlen ?_
  intro p e s m below meth c A ls hr hlk _ C hS hP hD hl
  refine body p e s m args.toArray below meth c A ls _ _ s.heap [] res0 rfl C (Nat.le_refl _) (Nat.le_refl _) hS hP hD hl ?_
  intro z H locs pc ls' hz hS' hP' hD' hdg
  subst hz
  exact W.vret C.1 C.2.1 hr (fun t ht hW => ⟨⟨(), rfl, trivial, by rw [ht]; exact hP', va_K.moved hW.alike C.2.2.2.2.2.2.1, hD'⟩, hS'.F ht⟩) hS'.2.2 hdg (hlocks := hlk)
theorem ly_entN {mc ms : Nat} {wfu : (Nat → Nat) → va_W} (hy : plainName y.cls = true) (hlen : (lg_sl args).length ≤ maxL) (hnm : y.name = "<init>")
    (body : ∀ (p : Program) (e : Env) (s : State) (m : MethodId) (av : Array Value) (below : List Frame) (meth : Method) (c : Code) (A : Nat → Prop) (ls : Array Slot) (R : Room) (Q : State → Prop) (H : Heap) (locs : List Loc),
      ly_C p m c cc maxL y.cls s av A D K → meth.name = "<init>" → fr ≤ R.frames → lo ≤ R.locals → mc ≤ R.cells → ms ≤ R.slots → va_S A s.heap H locs → va_P D cl_all ws H → va_D A ws → lv_has ls maxL (lv_args 0 args) →
      (∀ (u : Nat → Nat) (H : Heap) (locs : List Loc) (pc : Nat) (ls : Array Slot), va_S A s.heap H locs → va_P D cl_all (wfu u) H → va_D A (wfu u) → decode cc pc = .ok (.return_, 1) →
        W p l e R s m av below meth c H locs mc ms Q (F0 m pc ls [])) →
      W p l e R s m av below meth c H locs 0 0 Q (F0 m 0 ls [])) : ly_n l y cc maxL fr lo mc ms D K args ws wfu := by
  intro sz
  refine ly_ent (Qf := fun A => va_Qv (fun (_ : Nat → Nat) => True) (fun u t => ly_B D K A (wfu u) () t) A) hy hlen ?_
  intro p e s m below meth c A ls hr hlk hname C hS hP hD hl
  refine body p e s m args.toArray below meth c A ls _ _ s.heap [] C (hname.trans hnm) (Nat.le_refl _) (Nat.le_refl _) (Nat.le_refl _) (Nat.le_refl _) hS hP hD hl ?_
  intro u H locs pc ls' hS' hP' hD' hdg
  exact W.vret C.1 C.2.1 hr (fun t ht hW => ⟨⟨u, rfl, trivial, by rw [ht]; exact hP', va_K.moved hW.alike C.2.2.2.2.2.2.1, hD'⟩, hS'.F ht⟩) hS'.2.2 hdg (hlocks := hlk)
end LYE
section LYR
variable {p : Program} {l : Launch} {e : Env} {R : Room} {s : State} {m : MethodId} {args : Array Value} {below : List Frame} {meth : Method} {c : Code} {H : Heap} {locs : List Loc} {cells slots : Nat} {Q : State → Prop}
variable {cc : ByteArray} {pc nL : Nat} {own : String} {ls : Array Slot} {D : va_G} {K : Nat → ClassId} {A : Nat → Prop} {ws ws' wc wr wn : va_W} {a : Array Value} {st0 rest : List Value} {ρ : Type} {wf : ρ → va_W} {z res : ρ}
/-- the start of a callee, out of the caller's world -/
theorem ly_preS {As : List Value} (C : ly_C p m c cc nL own s args A D K) (hP : va_P D cl_all wc H) (hD : va_D A wc) : PreS s H (ly_pre D K As wc H.size) As :=
  ⟨ly_blind, fun U hU hW => ⟨rfl, by rw [hU], by rw [hU]; exact hP, va_K.moved hW.alike C.2.2.2.2.2.2.1, hD.weaken (fun _ _ _ _ => trivial), ly_N.warm hW C.2.2.2.2.2.2.2⟩⟩
theorem ly_preV {As : List Value} {b : Nat} {Cn : String} {T : u_T} {N q0 ci : Nat} {fs : List Value} (C : ly_C p m c cc nL own s args A D K) (hP : va_P D cl_all wc H) (hD : va_D A wc) (he : wc[q0]? = some (b, .inr (ci, fs))) (hc : cl_all[ci]? = some (Cn, T, N)) : PreV s H Cn b (ly_pre D K (.ref b :: As) wc H.size) As :=
  ⟨ly_blind, va_recv (q := (Cn, T, N)) C.2.2.2.2.2.2.1 hP hc he, (ly_preS C hP hD).2⟩
section LYQ
variable {y : MethodName} {bytes : ByteArray} {maxL fr lo n index : Nat} {ret : Option FieldType} {As : List Value} {b : Nat} {host : String} {Qc : Array Value → State → Outcome → State → Prop} {Cn : String} {T : u_T} {N q0 ci : Nat} {fs : List Value}
/-- a static method: by a link, by a nest's link -/
theorem ly_runS (C : ly_C p m c cc nL own s args A D K) (hM : Met l y (Cond.code y bytes maxL ret :: wA) (ly_rm fr lo 0 0) (ly_pre D K As wc H.size) Qc 0 0 (va_A wc H.size))
    (hcode : Cond.code y bytes maxL ret ∈ wA) (hlk : Cond.methodLink own index y ∈ wA) (hini : Cond.initialized y.cls ∈ wA) (hst : Cond.static y ∈ wA)
    (hd : y.cls ≠ "java/lang/invoke/MethodHandle" ∧ y.cls ≠ "java/lang/invoke/VarHandle" ∧ (parseMethodDescriptor y.desc).map (fun d => d.parameters.length) = some n) (hfr : fr + 1 ≤ R.frames) (hlo : 8 + (maxL + 11) + lo ≤ R.locals)
    (hcs : cells ≤ R.cells ∧ slots ≤ R.slots) (hP : va_P D cl_all wc H) (hD : va_D A wc) (hn : As.length = n) (hsize : ls.size = nL) (hstack : st0 = As.reverse ++ rest) (hW : (rest.map fun v => v.category).sum ≤ 8) (hdg : decode cc pc = .ok (.invokestatic index, 3)) :
    va_Run p l e R s m args below meth c H locs cells slots 0 0 (F0 m pc ls st0) rest (Qc As.toArray) (va_A wc H.size) :=
  va_runS (Ts := wA) ⟨C.1, C.2.1, C.2.2.1, C.2.2.2.1, C.2.2.2.2.1⟩ hM ⟨callB_of n C.2.2.2.2.1 (ly_GI hcode) rfl rfl rfl (C.2.2.2.2.1 _ hini) (C.2.2.2.2.1 _ hlk) hd ⟨hfr, hlo⟩, C.2.2.2.2.1 _ hst⟩ (ly_preS C hP hD) rfl hn hsize hstack (lv_room hW) hdg hcs
theorem ly_runSN (C : ly_C p m c cc nL own s args A D K) (hM : Met l y (Cond.code y bytes maxL ret :: wA) (ly_rm fr lo 0 0) (ly_pre D K As wc H.size) Qc 0 0 (va_A wc H.size))
    (hcode : Cond.code y bytes maxL ret ∈ wA) (hlk : Cond.methodLinkNest own index y host ∈ nW) (hini : Cond.initialized y.cls ∈ wA) (hst : Cond.static y ∈ wA)
    (hd : y.cls ≠ "java/lang/invoke/MethodHandle" ∧ y.cls ≠ "java/lang/invoke/VarHandle" ∧ (parseMethodDescriptor y.desc).map (fun d => d.parameters.length) = some n) (hfr : fr + 1 ≤ R.frames) (hlo : 8 + (maxL + 11) + lo ≤ R.locals)
    (hcs : cells ≤ R.cells ∧ slots ≤ R.slots) (hP : va_P D cl_all wc H) (hD : va_D A wc) (hn : As.length = n) (hsize : ls.size = nL) (hstack : st0 = As.reverse ++ rest) (hW : (rest.map fun v => v.category).sum ≤ 8) (hdg : decode cc pc = .ok (.invokestatic index, 3)) :
    va_Run p l e R s m args below meth c H locs cells slots 0 0 (F0 m pc ls st0) rest (Qc As.toArray) (va_A wc H.size) :=
  va_runSN (Ts := wA) ⟨C.1, C.2.1, C.2.2.1, C.2.2.2.1, C.2.2.2.2.1⟩ hM ⟨va_cnB n C.2.2.2.2.1 (ly_GI hcode) rfl rfl rfl (C.2.2.2.2.2.2.2.1 _ hlk) (C.2.2.2.2.1 _ hini) hd ⟨hfr, hlo⟩, C.2.2.2.2.1 _ hst, trivial⟩ (ly_preS C hP hD) rfl hn hsize hstack (lv_room hW) hdg hcs
theorem ly_runV (C : ly_C p m c cc nL own s args A D K) (hM : Met l y (Cond.code y bytes maxL ret :: wA) (ly_rm fr lo 0 0) (ly_pre D K (.ref b :: As) wc H.size) Qc 0 0 (va_A wc H.size))
    (hcode : Cond.code y bytes maxL ret ∈ wA) (hlk : Cond.methodLink own index y ∈ wA) (hini : Cond.initialized y.cls ∈ wA) (hst : Cond.instanceMethod y ∈ wA) (hsel : Cond.selects Cn y y ∈ wA)
    (hd : y.cls ≠ "java/lang/invoke/MethodHandle" ∧ y.cls ≠ "java/lang/invoke/VarHandle" ∧ (parseMethodDescriptor y.desc).map (fun d => d.parameters.length) = some n) (hfr : fr + 1 ≤ R.frames) (hlo : 8 + (maxL + 11) + lo ≤ R.locals)
    (hcs : cells ≤ R.cells ∧ slots ≤ R.slots) (hP : va_P D cl_all wc H) (hD : va_D A wc) (q0 : Nat) (he : wc[q0]? = some (b, .inr (ci, fs))) (hc : cl_all[ci]? = some (Cn, T, N)) (hn : As.length = n) (hsize : ls.size = nL) (hstack : st0 = As.reverse ++ .ref b :: rest) (hW : (rest.map fun v => v.category).sum ≤ 8) (hdg : decode cc pc = .ok (.invokevirtual index, 3)) :
    va_Run p l e R s m args below meth c H locs cells slots 0 0 (F0 m pc ls st0) rest (Qc (Value.ref b :: As).toArray) (va_A wc H.size) :=
  va_runV (Ts := wA) ⟨C.1, C.2.1, C.2.2.1, C.2.2.2.1, C.2.2.2.2.1⟩ hM ⟨callB_of n C.2.2.2.2.1 (ly_GI hcode) rfl rfl rfl (C.2.2.2.2.1 _ hini) (C.2.2.2.2.1 _ hlk) hd ⟨hfr, hlo⟩, C.2.2.2.2.1 _ hst, C.2.2.2.2.1 _ hsel⟩ (ly_preV C hP hD he hc) rfl hn hsize hstack (lv_room hW) hdg hcs
theorem ly_runVN (C : ly_C p m c cc nL own s args A D K) (hM : Met l y (Cond.code y bytes maxL ret :: wA) (ly_rm fr lo 0 0) (ly_pre D K (.ref b :: As) wc H.size) Qc 0 0 (va_A wc H.size))
    (hcode : Cond.code y bytes maxL ret ∈ wA) (hlk : Cond.methodLinkNest own index y host ∈ nW) (hini : Cond.initialized y.cls ∈ wA) (hst : Cond.instanceMethod y ∈ wA) (hsel : Cond.selects Cn y y ∈ wA)
    (hd : y.cls ≠ "java/lang/invoke/MethodHandle" ∧ y.cls ≠ "java/lang/invoke/VarHandle" ∧ (parseMethodDescriptor y.desc).map (fun d => d.parameters.length) = some n) (hfr : fr + 1 ≤ R.frames) (hlo : 8 + (maxL + 11) + lo ≤ R.locals)
    (hcs : cells ≤ R.cells ∧ slots ≤ R.slots) (hP : va_P D cl_all wc H) (hD : va_D A wc) (q0 : Nat) (he : wc[q0]? = some (b, .inr (ci, fs))) (hc : cl_all[ci]? = some (Cn, T, N)) (hn : As.length = n) (hsize : ls.size = nL) (hstack : st0 = As.reverse ++ .ref b :: rest) (hW : (rest.map fun v => v.category).sum ≤ 8) (hdg : decode cc pc = .ok (.invokevirtual index, 3)) :
    va_Run p l e R s m args below meth c H locs cells slots 0 0 (F0 m pc ls st0) rest (Qc (Value.ref b :: As).toArray) (va_A wc H.size) :=
  va_runVN (Ts := wA) ⟨C.1, C.2.1, C.2.2.1, C.2.2.2.1, C.2.2.2.2.1⟩ hM ⟨va_cnB n C.2.2.2.2.1 (ly_GI hcode) rfl rfl rfl (C.2.2.2.2.2.2.2.1 _ hlk) (C.2.2.2.2.1 _ hini) hd ⟨hfr, hlo⟩, C.2.2.2.2.1 _ hst, C.2.2.2.2.1 _ hsel⟩ (ly_preV C hP hD he hc) rfl hn hsize hstack (lv_room hW) hdg hcs
end LYQ
section LYW
variable {y : MethodName} {bytes : ByteArray} {maxL fr lo n index : Nat} {ret : Option FieldType} {As : List Value} {b : Nat} {host : String} {Cn : String} {T : u_T} {N ci : Nat} {fs : List Value}
/-! a call: isC the callee's places, isR the rest's, isB the order wanted behind it -/
theorem ly_j_i {rf : ρ → Int32} (C : ly_C p m c cc nL own s args A D K) (hz : z = res) (isC isR isB : List Nat) (hP : va_P D cl_all ws H) (hD : va_D A ws) (hS : va_S A s.heap H locs) (hC : isC.map (fun i => ws[i]?) = wc.map some) (hR : isR.map (fun i => ws[i]?) = (isR.filterMap (fun i => ws[i]?)).map some)
    (hnd : va_nd isR = true ∧ va_nd isC = true ∧ va_nd isB = true ∧ ∀ i ∈ isR, i ∉ isC) (hB : isB.map (fun i => (isR.filterMap (fun i => ws[i]?) ++ wf z)[i]?) = wn.map some)
    (run : va_P D cl_all wc H → va_D A wc → va_Run p l e R s m args below meth c H locs cells slots 0 0 (F0 m pc ls st0) rest (va_Qi (fun x (_ : Unit) => x = rf res) (ly_B D K (va_A wc H.size) (wf res)) (va_A wc H.size) a) (va_A wc H.size))
    (kk : ∀ (H1 : Heap) (locs1 : List Loc), va_P D cl_all wn H1 → va_D A wn → va_S A s.heap H1 locs1 → W p l e R s m args below meth c H1 locs1 cells slots Q (F0 m (pc + 3) ls (.int (rf z) :: rest))) : W p l e R s m args below meth c H locs cells slots Q (F0 m pc ls st0) := by
  subst hz
  have hFc := va_free (wc := wc) hD hS C.2.2.2.2.2.1 isC hC
  refine va_calli (run (hP.sub isC (ly_fm hC)) (hD.sub isC hnd.2.1 hC)) hS (fun q _ h => hFc q h) hFc (fun x u t H1 locs1 ht hvm hx hB1 hz hk hS1 => ?_)
  subst hx
  obtain ⟨hP1, -, hD1⟩ := hB1
  rw [ht] at hP1
  obtain ⟨hP2, hD2⟩ := va_join hP hD isC isR hC hR hnd.1 hnd.2.2.2 hk hFc hP1 hD1
  exact kk H1 locs1 (hP2.sub isB (ly_fm hB)) (hD2.sub isB hnd.2.2.1 hB) hS1
theorem ly_cS_i {rf : ρ → Int32} (C : ly_C p m c cc nL own s args A D K) (hM : ly_i l y bytes maxL ret fr lo D K As wc rf wf res) (hz : z = res) (hcode : Cond.code y bytes maxL ret ∈ wA) (hlk : Cond.methodLink own index y ∈ wA) (hini : Cond.initialized y.cls ∈ wA) (hst : Cond.static y ∈ wA)
    (hd : y.cls ≠ "java/lang/invoke/MethodHandle" ∧ y.cls ≠ "java/lang/invoke/VarHandle" ∧ (parseMethodDescriptor y.desc).map (fun d => d.parameters.length) = some n) (hfr : fr + 1 ≤ R.frames) (hlo : 8 + (maxL + 11) + lo ≤ R.locals) (hn : As.length = n) (hsize : ls.size = nL) (hstack : st0 = As.reverse ++ rest) (hW : (rest.map fun v => v.category).sum ≤ 8) (hdg : decode cc pc = .ok (.invokestatic index, 3))
    (hcs : cells ≤ R.cells ∧ slots ≤ R.slots) (isC isR isB : List Nat) (hP : va_P D cl_all ws H) (hD : va_D A ws) (hS : va_S A s.heap H locs) (hC : isC.map (fun i => ws[i]?) = wc.map some) (hR : isR.map (fun i => ws[i]?) = (isR.filterMap (fun i => ws[i]?)).map some)
    (hnd : va_nd isR = true ∧ va_nd isC = true ∧ va_nd isB = true ∧ ∀ i ∈ isR, i ∉ isC) (hB : isB.map (fun i => (isR.filterMap (fun i => ws[i]?) ++ wf z)[i]?) = wn.map some)
    (kk : ∀ (H1 : Heap) (locs1 : List Loc), va_P D cl_all wn H1 → va_D A wn → va_S A s.heap H1 locs1 → W p l e R s m args below meth c H1 locs1 cells slots Q (F0 m (pc + 3) ls (.int (rf z) :: rest))) : W p l e R s m args below meth c H locs cells slots Q (F0 m pc ls st0) :=
  ly_j_i C hz isC isR isB hP hD hS hC hR hnd hB (fun hPc hDc => ly_runS C (hM H.size) hcode hlk hini hst hd hfr hlo hcs hPc hDc hn hsize hstack hW hdg) kk
theorem ly_cSN_i {rf : ρ → Int32} (C : ly_C p m c cc nL own s args A D K) (hM : ly_i l y bytes maxL ret fr lo D K As wc rf wf res) (hz : z = res) (hcode : Cond.code y bytes maxL ret ∈ wA) (hlk : Cond.methodLinkNest own index y host ∈ nW) (hini : Cond.initialized y.cls ∈ wA) (hst : Cond.static y ∈ wA)
    (hd : y.cls ≠ "java/lang/invoke/MethodHandle" ∧ y.cls ≠ "java/lang/invoke/VarHandle" ∧ (parseMethodDescriptor y.desc).map (fun d => d.parameters.length) = some n) (hfr : fr + 1 ≤ R.frames) (hlo : 8 + (maxL + 11) + lo ≤ R.locals) (hn : As.length = n) (hsize : ls.size = nL) (hstack : st0 = As.reverse ++ rest) (hW : (rest.map fun v => v.category).sum ≤ 8) (hdg : decode cc pc = .ok (.invokestatic index, 3))
    (hcs : cells ≤ R.cells ∧ slots ≤ R.slots) (isC isR isB : List Nat) (hP : va_P D cl_all ws H) (hD : va_D A ws) (hS : va_S A s.heap H locs) (hC : isC.map (fun i => ws[i]?) = wc.map some) (hR : isR.map (fun i => ws[i]?) = (isR.filterMap (fun i => ws[i]?)).map some)
    (hnd : va_nd isR = true ∧ va_nd isC = true ∧ va_nd isB = true ∧ ∀ i ∈ isR, i ∉ isC) (hB : isB.map (fun i => (isR.filterMap (fun i => ws[i]?) ++ wf z)[i]?) = wn.map some)
    (kk : ∀ (H1 : Heap) (locs1 : List Loc), va_P D cl_all wn H1 → va_D A wn → va_S A s.heap H1 locs1 → W p l e R s m args below meth c H1 locs1 cells slots Q (F0 m (pc + 3) ls (.int (rf z) :: rest))) : W p l e R s m args below meth c H locs cells slots Q (F0 m pc ls st0) :=
  ly_j_i C hz isC isR isB hP hD hS hC hR hnd hB (fun hPc hDc => ly_runSN C (hM H.size) hcode hlk hini hst hd hfr hlo hcs hPc hDc hn hsize hstack hW hdg) kk
theorem ly_cV_i {rf : ρ → Int32} (C : ly_C p m c cc nL own s args A D K) (hM : ly_i l y bytes maxL ret fr lo D K (.ref b :: As) wc rf wf res) (hz : z = res) (hcode : Cond.code y bytes maxL ret ∈ wA) (hlk : Cond.methodLink own index y ∈ wA) (hini : Cond.initialized y.cls ∈ wA) (hst : Cond.instanceMethod y ∈ wA) (hsel : Cond.selects Cn y y ∈ wA)
    (hd : y.cls ≠ "java/lang/invoke/MethodHandle" ∧ y.cls ≠ "java/lang/invoke/VarHandle" ∧ (parseMethodDescriptor y.desc).map (fun d => d.parameters.length) = some n) (hfr : fr + 1 ≤ R.frames) (hlo : 8 + (maxL + 11) + lo ≤ R.locals) (hn : As.length = n) (hsize : ls.size = nL) (hstack : st0 = As.reverse ++ .ref b :: rest) (hW : (rest.map fun v => v.category).sum ≤ 8) (hdg : decode cc pc = .ok (.invokevirtual index, 3))
    (hcs : cells ≤ R.cells ∧ slots ≤ R.slots) (isC isR isB : List Nat) (hP : va_P D cl_all ws H) (hD : va_D A ws) (hS : va_S A s.heap H locs) (hC : isC.map (fun i => ws[i]?) = wc.map some) (hR : isR.map (fun i => ws[i]?) = (isR.filterMap (fun i => ws[i]?)).map some)
    (hnd : va_nd isR = true ∧ va_nd isC = true ∧ va_nd isB = true ∧ ∀ i ∈ isR, i ∉ isC) (hB : isB.map (fun i => (isR.filterMap (fun i => ws[i]?) ++ wf z)[i]?) = wn.map some) (he : wc[0]? = some (b, .inr (ci, fs))) (hc : cl_all[ci]? = some (Cn, T, N))
    (kk : ∀ (H1 : Heap) (locs1 : List Loc), va_P D cl_all wn H1 → va_D A wn → va_S A s.heap H1 locs1 → W p l e R s m args below meth c H1 locs1 cells slots Q (F0 m (pc + 3) ls (.int (rf z) :: rest))) : W p l e R s m args below meth c H locs cells slots Q (F0 m pc ls st0) :=
  ly_j_i C hz isC isR isB hP hD hS hC hR hnd hB (fun hPc hDc => ly_runV C (hM H.size) hcode hlk hini hst hsel hd hfr hlo hcs hPc hDc 0 he hc hn hsize hstack hW hdg) kk
theorem ly_cVN_i {rf : ρ → Int32} (C : ly_C p m c cc nL own s args A D K) (hM : ly_i l y bytes maxL ret fr lo D K (.ref b :: As) wc rf wf res) (hz : z = res) (hcode : Cond.code y bytes maxL ret ∈ wA) (hlk : Cond.methodLinkNest own index y host ∈ nW) (hini : Cond.initialized y.cls ∈ wA) (hst : Cond.instanceMethod y ∈ wA) (hsel : Cond.selects Cn y y ∈ wA)
    (hd : y.cls ≠ "java/lang/invoke/MethodHandle" ∧ y.cls ≠ "java/lang/invoke/VarHandle" ∧ (parseMethodDescriptor y.desc).map (fun d => d.parameters.length) = some n) (hfr : fr + 1 ≤ R.frames) (hlo : 8 + (maxL + 11) + lo ≤ R.locals) (hn : As.length = n) (hsize : ls.size = nL) (hstack : st0 = As.reverse ++ .ref b :: rest) (hW : (rest.map fun v => v.category).sum ≤ 8) (hdg : decode cc pc = .ok (.invokevirtual index, 3))
    (hcs : cells ≤ R.cells ∧ slots ≤ R.slots) (isC isR isB : List Nat) (hP : va_P D cl_all ws H) (hD : va_D A ws) (hS : va_S A s.heap H locs) (hC : isC.map (fun i => ws[i]?) = wc.map some) (hR : isR.map (fun i => ws[i]?) = (isR.filterMap (fun i => ws[i]?)).map some)
    (hnd : va_nd isR = true ∧ va_nd isC = true ∧ va_nd isB = true ∧ ∀ i ∈ isR, i ∉ isC) (hB : isB.map (fun i => (isR.filterMap (fun i => ws[i]?) ++ wf z)[i]?) = wn.map some) (he : wc[0]? = some (b, .inr (ci, fs))) (hc : cl_all[ci]? = some (Cn, T, N))
    (kk : ∀ (H1 : Heap) (locs1 : List Loc), va_P D cl_all wn H1 → va_D A wn → va_S A s.heap H1 locs1 → W p l e R s m args below meth c H1 locs1 cells slots Q (F0 m (pc + 3) ls (.int (rf z) :: rest))) : W p l e R s m args below meth c H locs cells slots Q (F0 m pc ls st0) :=
  ly_j_i C hz isC isR isB hP hD hS hC hR hnd hB (fun hPc hDc => ly_runVN C (hM H.size) hcode hlk hini hst hsel hd hfr hlo hcs hPc hDc 0 he hc hn hsize hstack hW hdg) kk
theorem ly_j_l {rf : ρ → Int64} (C : ly_C p m c cc nL own s args A D K) (hz : z = res) (isC isR isB : List Nat) (hP : va_P D cl_all ws H) (hD : va_D A ws) (hS : va_S A s.heap H locs) (hC : isC.map (fun i => ws[i]?) = wc.map some) (hR : isR.map (fun i => ws[i]?) = (isR.filterMap (fun i => ws[i]?)).map some)
    (hnd : va_nd isR = true ∧ va_nd isC = true ∧ va_nd isB = true ∧ ∀ i ∈ isR, i ∉ isC) (hB : isB.map (fun i => (isR.filterMap (fun i => ws[i]?) ++ wf z)[i]?) = wn.map some)
    (run : va_P D cl_all wc H → va_D A wc → va_Run p l e R s m args below meth c H locs cells slots 0 0 (F0 m pc ls st0) rest (va_Ql (fun x (_ : Unit) => x = rf res) (ly_B D K (va_A wc H.size) (wf res)) (va_A wc H.size) a) (va_A wc H.size))
    (kk : ∀ (H1 : Heap) (locs1 : List Loc), va_P D cl_all wn H1 → va_D A wn → va_S A s.heap H1 locs1 → W p l e R s m args below meth c H1 locs1 cells slots Q (F0 m (pc + 3) ls (.long (rf z) :: rest))) : W p l e R s m args below meth c H locs cells slots Q (F0 m pc ls st0) := by
  subst hz
  have hFc := va_free (wc := wc) hD hS C.2.2.2.2.2.1 isC hC
  refine va_calll (run (hP.sub isC (ly_fm hC)) (hD.sub isC hnd.2.1 hC)) hS (fun q _ h => hFc q h) hFc (fun x u t H1 locs1 ht hvm hx hB1 hz hk hS1 => ?_)
  subst hx
  obtain ⟨hP1, -, hD1⟩ := hB1
  rw [ht] at hP1
  obtain ⟨hP2, hD2⟩ := va_join hP hD isC isR hC hR hnd.1 hnd.2.2.2 hk hFc hP1 hD1
  exact kk H1 locs1 (hP2.sub isB (ly_fm hB)) (hD2.sub isB hnd.2.2.1 hB) hS1
theorem ly_cS_l {rf : ρ → Int64} (C : ly_C p m c cc nL own s args A D K) (hM : ly_l l y bytes maxL ret fr lo D K As wc rf wf res) (hz : z = res) (hcode : Cond.code y bytes maxL ret ∈ wA) (hlk : Cond.methodLink own index y ∈ wA) (hini : Cond.initialized y.cls ∈ wA) (hst : Cond.static y ∈ wA)
    (hd : y.cls ≠ "java/lang/invoke/MethodHandle" ∧ y.cls ≠ "java/lang/invoke/VarHandle" ∧ (parseMethodDescriptor y.desc).map (fun d => d.parameters.length) = some n) (hfr : fr + 1 ≤ R.frames) (hlo : 8 + (maxL + 11) + lo ≤ R.locals) (hn : As.length = n) (hsize : ls.size = nL) (hstack : st0 = As.reverse ++ rest) (hW : (rest.map fun v => v.category).sum ≤ 8) (hdg : decode cc pc = .ok (.invokestatic index, 3))
    (hcs : cells ≤ R.cells ∧ slots ≤ R.slots) (isC isR isB : List Nat) (hP : va_P D cl_all ws H) (hD : va_D A ws) (hS : va_S A s.heap H locs) (hC : isC.map (fun i => ws[i]?) = wc.map some) (hR : isR.map (fun i => ws[i]?) = (isR.filterMap (fun i => ws[i]?)).map some)
    (hnd : va_nd isR = true ∧ va_nd isC = true ∧ va_nd isB = true ∧ ∀ i ∈ isR, i ∉ isC) (hB : isB.map (fun i => (isR.filterMap (fun i => ws[i]?) ++ wf z)[i]?) = wn.map some)
    (kk : ∀ (H1 : Heap) (locs1 : List Loc), va_P D cl_all wn H1 → va_D A wn → va_S A s.heap H1 locs1 → W p l e R s m args below meth c H1 locs1 cells slots Q (F0 m (pc + 3) ls (.long (rf z) :: rest))) : W p l e R s m args below meth c H locs cells slots Q (F0 m pc ls st0) :=
  ly_j_l C hz isC isR isB hP hD hS hC hR hnd hB (fun hPc hDc => ly_runS C (hM H.size) hcode hlk hini hst hd hfr hlo hcs hPc hDc hn hsize hstack hW hdg) kk
theorem ly_cSN_l {rf : ρ → Int64} (C : ly_C p m c cc nL own s args A D K) (hM : ly_l l y bytes maxL ret fr lo D K As wc rf wf res) (hz : z = res) (hcode : Cond.code y bytes maxL ret ∈ wA) (hlk : Cond.methodLinkNest own index y host ∈ nW) (hini : Cond.initialized y.cls ∈ wA) (hst : Cond.static y ∈ wA)
    (hd : y.cls ≠ "java/lang/invoke/MethodHandle" ∧ y.cls ≠ "java/lang/invoke/VarHandle" ∧ (parseMethodDescriptor y.desc).map (fun d => d.parameters.length) = some n) (hfr : fr + 1 ≤ R.frames) (hlo : 8 + (maxL + 11) + lo ≤ R.locals) (hn : As.length = n) (hsize : ls.size = nL) (hstack : st0 = As.reverse ++ rest) (hW : (rest.map fun v => v.category).sum ≤ 8) (hdg : decode cc pc = .ok (.invokestatic index, 3))
    (hcs : cells ≤ R.cells ∧ slots ≤ R.slots) (isC isR isB : List Nat) (hP : va_P D cl_all ws H) (hD : va_D A ws) (hS : va_S A s.heap H locs) (hC : isC.map (fun i => ws[i]?) = wc.map some) (hR : isR.map (fun i => ws[i]?) = (isR.filterMap (fun i => ws[i]?)).map some)
    (hnd : va_nd isR = true ∧ va_nd isC = true ∧ va_nd isB = true ∧ ∀ i ∈ isR, i ∉ isC) (hB : isB.map (fun i => (isR.filterMap (fun i => ws[i]?) ++ wf z)[i]?) = wn.map some)
    (kk : ∀ (H1 : Heap) (locs1 : List Loc), va_P D cl_all wn H1 → va_D A wn → va_S A s.heap H1 locs1 → W p l e R s m args below meth c H1 locs1 cells slots Q (F0 m (pc + 3) ls (.long (rf z) :: rest))) : W p l e R s m args below meth c H locs cells slots Q (F0 m pc ls st0) :=
  ly_j_l C hz isC isR isB hP hD hS hC hR hnd hB (fun hPc hDc => ly_runSN C (hM H.size) hcode hlk hini hst hd hfr hlo hcs hPc hDc hn hsize hstack hW hdg) kk
theorem ly_cV_l {rf : ρ → Int64} (C : ly_C p m c cc nL own s args A D K) (hM : ly_l l y bytes maxL ret fr lo D K (.ref b :: As) wc rf wf res) (hz : z = res) (hcode : Cond.code y bytes maxL ret ∈ wA) (hlk : Cond.methodLink own index y ∈ wA) (hini : Cond.initialized y.cls ∈ wA) (hst : Cond.instanceMethod y ∈ wA) (hsel : Cond.selects Cn y y ∈ wA)
    (hd : y.cls ≠ "java/lang/invoke/MethodHandle" ∧ y.cls ≠ "java/lang/invoke/VarHandle" ∧ (parseMethodDescriptor y.desc).map (fun d => d.parameters.length) = some n) (hfr : fr + 1 ≤ R.frames) (hlo : 8 + (maxL + 11) + lo ≤ R.locals) (hn : As.length = n) (hsize : ls.size = nL) (hstack : st0 = As.reverse ++ .ref b :: rest) (hW : (rest.map fun v => v.category).sum ≤ 8) (hdg : decode cc pc = .ok (.invokevirtual index, 3))
    (hcs : cells ≤ R.cells ∧ slots ≤ R.slots) (isC isR isB : List Nat) (hP : va_P D cl_all ws H) (hD : va_D A ws) (hS : va_S A s.heap H locs) (hC : isC.map (fun i => ws[i]?) = wc.map some) (hR : isR.map (fun i => ws[i]?) = (isR.filterMap (fun i => ws[i]?)).map some)
    (hnd : va_nd isR = true ∧ va_nd isC = true ∧ va_nd isB = true ∧ ∀ i ∈ isR, i ∉ isC) (hB : isB.map (fun i => (isR.filterMap (fun i => ws[i]?) ++ wf z)[i]?) = wn.map some) (he : wc[0]? = some (b, .inr (ci, fs))) (hc : cl_all[ci]? = some (Cn, T, N))
    (kk : ∀ (H1 : Heap) (locs1 : List Loc), va_P D cl_all wn H1 → va_D A wn → va_S A s.heap H1 locs1 → W p l e R s m args below meth c H1 locs1 cells slots Q (F0 m (pc + 3) ls (.long (rf z) :: rest))) : W p l e R s m args below meth c H locs cells slots Q (F0 m pc ls st0) :=
  ly_j_l C hz isC isR isB hP hD hS hC hR hnd hB (fun hPc hDc => ly_runV C (hM H.size) hcode hlk hini hst hsel hd hfr hlo hcs hPc hDc 0 he hc hn hsize hstack hW hdg) kk
theorem ly_cVN_l {rf : ρ → Int64} (C : ly_C p m c cc nL own s args A D K) (hM : ly_l l y bytes maxL ret fr lo D K (.ref b :: As) wc rf wf res) (hz : z = res) (hcode : Cond.code y bytes maxL ret ∈ wA) (hlk : Cond.methodLinkNest own index y host ∈ nW) (hini : Cond.initialized y.cls ∈ wA) (hst : Cond.instanceMethod y ∈ wA) (hsel : Cond.selects Cn y y ∈ wA)
    (hd : y.cls ≠ "java/lang/invoke/MethodHandle" ∧ y.cls ≠ "java/lang/invoke/VarHandle" ∧ (parseMethodDescriptor y.desc).map (fun d => d.parameters.length) = some n) (hfr : fr + 1 ≤ R.frames) (hlo : 8 + (maxL + 11) + lo ≤ R.locals) (hn : As.length = n) (hsize : ls.size = nL) (hstack : st0 = As.reverse ++ .ref b :: rest) (hW : (rest.map fun v => v.category).sum ≤ 8) (hdg : decode cc pc = .ok (.invokevirtual index, 3))
    (hcs : cells ≤ R.cells ∧ slots ≤ R.slots) (isC isR isB : List Nat) (hP : va_P D cl_all ws H) (hD : va_D A ws) (hS : va_S A s.heap H locs) (hC : isC.map (fun i => ws[i]?) = wc.map some) (hR : isR.map (fun i => ws[i]?) = (isR.filterMap (fun i => ws[i]?)).map some)
    (hnd : va_nd isR = true ∧ va_nd isC = true ∧ va_nd isB = true ∧ ∀ i ∈ isR, i ∉ isC) (hB : isB.map (fun i => (isR.filterMap (fun i => ws[i]?) ++ wf z)[i]?) = wn.map some) (he : wc[0]? = some (b, .inr (ci, fs))) (hc : cl_all[ci]? = some (Cn, T, N))
    (kk : ∀ (H1 : Heap) (locs1 : List Loc), va_P D cl_all wn H1 → va_D A wn → va_S A s.heap H1 locs1 → W p l e R s m args below meth c H1 locs1 cells slots Q (F0 m (pc + 3) ls (.long (rf z) :: rest))) : W p l e R s m args below meth c H locs cells slots Q (F0 m pc ls st0) :=
  ly_j_l C hz isC isR isB hP hD hS hC hR hnd hB (fun hPc hDc => ly_runVN C (hM H.size) hcode hlk hini hst hsel hd hfr hlo hcs hPc hDc 0 he hc hn hsize hstack hW hdg) kk
theorem ly_j_v (C : ly_C p m c cc nL own s args A D K) (hz : z = res) (isC isR isB : List Nat) (hP : va_P D cl_all ws H) (hD : va_D A ws) (hS : va_S A s.heap H locs) (hC : isC.map (fun i => ws[i]?) = wc.map some) (hR : isR.map (fun i => ws[i]?) = (isR.filterMap (fun i => ws[i]?)).map some)
    (hnd : va_nd isR = true ∧ va_nd isC = true ∧ va_nd isB = true ∧ ∀ i ∈ isR, i ∉ isC) (hB : isB.map (fun i => (isR.filterMap (fun i => ws[i]?) ++ wf z)[i]?) = wn.map some)
    (run : va_P D cl_all wc H → va_D A wc → va_Run p l e R s m args below meth c H locs cells slots 0 0 (F0 m pc ls st0) rest (va_Qv (fun (_ : Unit) => True) (ly_B D K (va_A wc H.size) (wf res)) (va_A wc H.size) a) (va_A wc H.size))
    (kk : ∀ (H1 : Heap) (locs1 : List Loc), va_P D cl_all wn H1 → va_D A wn → va_S A s.heap H1 locs1 → W p l e R s m args below meth c H1 locs1 cells slots Q (F0 m (pc + 3) ls rest)) : W p l e R s m args below meth c H locs cells slots Q (F0 m pc ls st0) := by
  subst hz
  have hFc := va_free (wc := wc) hD hS C.2.2.2.2.2.1 isC hC
  refine va_callv (run (hP.sub isC (ly_fm hC)) (hD.sub isC hnd.2.1 hC)) hS (fun q _ h => hFc q h) hFc (fun u t H1 locs1 ht hvm hx hB1 hz hk hS1 => ?_)
  obtain ⟨hP1, -, hD1⟩ := hB1
  rw [ht] at hP1
  obtain ⟨hP2, hD2⟩ := va_join hP hD isC isR hC hR hnd.1 hnd.2.2.2 hk hFc hP1 hD1
  exact kk H1 locs1 (hP2.sub isB (ly_fm hB)) (hD2.sub isB hnd.2.2.1 hB) hS1
theorem ly_cS_v (C : ly_C p m c cc nL own s args A D K) (hM : ly_v l y bytes maxL ret fr lo D K As wc wf res) (hz : z = res) (hcode : Cond.code y bytes maxL ret ∈ wA) (hlk : Cond.methodLink own index y ∈ wA) (hini : Cond.initialized y.cls ∈ wA) (hst : Cond.static y ∈ wA)
    (hd : y.cls ≠ "java/lang/invoke/MethodHandle" ∧ y.cls ≠ "java/lang/invoke/VarHandle" ∧ (parseMethodDescriptor y.desc).map (fun d => d.parameters.length) = some n) (hfr : fr + 1 ≤ R.frames) (hlo : 8 + (maxL + 11) + lo ≤ R.locals) (hn : As.length = n) (hsize : ls.size = nL) (hstack : st0 = As.reverse ++ rest) (hW : (rest.map fun v => v.category).sum ≤ 8) (hdg : decode cc pc = .ok (.invokestatic index, 3))
    (hcs : cells ≤ R.cells ∧ slots ≤ R.slots) (isC isR isB : List Nat) (hP : va_P D cl_all ws H) (hD : va_D A ws) (hS : va_S A s.heap H locs) (hC : isC.map (fun i => ws[i]?) = wc.map some) (hR : isR.map (fun i => ws[i]?) = (isR.filterMap (fun i => ws[i]?)).map some)
    (hnd : va_nd isR = true ∧ va_nd isC = true ∧ va_nd isB = true ∧ ∀ i ∈ isR, i ∉ isC) (hB : isB.map (fun i => (isR.filterMap (fun i => ws[i]?) ++ wf z)[i]?) = wn.map some)
    (kk : ∀ (H1 : Heap) (locs1 : List Loc), va_P D cl_all wn H1 → va_D A wn → va_S A s.heap H1 locs1 → W p l e R s m args below meth c H1 locs1 cells slots Q (F0 m (pc + 3) ls rest)) : W p l e R s m args below meth c H locs cells slots Q (F0 m pc ls st0) :=
  ly_j_v C hz isC isR isB hP hD hS hC hR hnd hB (fun hPc hDc => ly_runS C (hM H.size) hcode hlk hini hst hd hfr hlo hcs hPc hDc hn hsize hstack hW hdg) kk
theorem ly_cSN_v (C : ly_C p m c cc nL own s args A D K) (hM : ly_v l y bytes maxL ret fr lo D K As wc wf res) (hz : z = res) (hcode : Cond.code y bytes maxL ret ∈ wA) (hlk : Cond.methodLinkNest own index y host ∈ nW) (hini : Cond.initialized y.cls ∈ wA) (hst : Cond.static y ∈ wA)
    (hd : y.cls ≠ "java/lang/invoke/MethodHandle" ∧ y.cls ≠ "java/lang/invoke/VarHandle" ∧ (parseMethodDescriptor y.desc).map (fun d => d.parameters.length) = some n) (hfr : fr + 1 ≤ R.frames) (hlo : 8 + (maxL + 11) + lo ≤ R.locals) (hn : As.length = n) (hsize : ls.size = nL) (hstack : st0 = As.reverse ++ rest) (hW : (rest.map fun v => v.category).sum ≤ 8) (hdg : decode cc pc = .ok (.invokestatic index, 3))
    (hcs : cells ≤ R.cells ∧ slots ≤ R.slots) (isC isR isB : List Nat) (hP : va_P D cl_all ws H) (hD : va_D A ws) (hS : va_S A s.heap H locs) (hC : isC.map (fun i => ws[i]?) = wc.map some) (hR : isR.map (fun i => ws[i]?) = (isR.filterMap (fun i => ws[i]?)).map some)
    (hnd : va_nd isR = true ∧ va_nd isC = true ∧ va_nd isB = true ∧ ∀ i ∈ isR, i ∉ isC) (hB : isB.map (fun i => (isR.filterMap (fun i => ws[i]?) ++ wf z)[i]?) = wn.map some)
    (kk : ∀ (H1 : Heap) (locs1 : List Loc), va_P D cl_all wn H1 → va_D A wn → va_S A s.heap H1 locs1 → W p l e R s m args below meth c H1 locs1 cells slots Q (F0 m (pc + 3) ls rest)) : W p l e R s m args below meth c H locs cells slots Q (F0 m pc ls st0) :=
  ly_j_v C hz isC isR isB hP hD hS hC hR hnd hB (fun hPc hDc => ly_runSN C (hM H.size) hcode hlk hini hst hd hfr hlo hcs hPc hDc hn hsize hstack hW hdg) kk
theorem ly_cV_v (C : ly_C p m c cc nL own s args A D K) (hM : ly_v l y bytes maxL ret fr lo D K (.ref b :: As) wc wf res) (hz : z = res) (hcode : Cond.code y bytes maxL ret ∈ wA) (hlk : Cond.methodLink own index y ∈ wA) (hini : Cond.initialized y.cls ∈ wA) (hst : Cond.instanceMethod y ∈ wA) (hsel : Cond.selects Cn y y ∈ wA)
    (hd : y.cls ≠ "java/lang/invoke/MethodHandle" ∧ y.cls ≠ "java/lang/invoke/VarHandle" ∧ (parseMethodDescriptor y.desc).map (fun d => d.parameters.length) = some n) (hfr : fr + 1 ≤ R.frames) (hlo : 8 + (maxL + 11) + lo ≤ R.locals) (hn : As.length = n) (hsize : ls.size = nL) (hstack : st0 = As.reverse ++ .ref b :: rest) (hW : (rest.map fun v => v.category).sum ≤ 8) (hdg : decode cc pc = .ok (.invokevirtual index, 3))
    (hcs : cells ≤ R.cells ∧ slots ≤ R.slots) (isC isR isB : List Nat) (hP : va_P D cl_all ws H) (hD : va_D A ws) (hS : va_S A s.heap H locs) (hC : isC.map (fun i => ws[i]?) = wc.map some) (hR : isR.map (fun i => ws[i]?) = (isR.filterMap (fun i => ws[i]?)).map some)
    (hnd : va_nd isR = true ∧ va_nd isC = true ∧ va_nd isB = true ∧ ∀ i ∈ isR, i ∉ isC) (hB : isB.map (fun i => (isR.filterMap (fun i => ws[i]?) ++ wf z)[i]?) = wn.map some) (he : wc[0]? = some (b, .inr (ci, fs))) (hc : cl_all[ci]? = some (Cn, T, N))
    (kk : ∀ (H1 : Heap) (locs1 : List Loc), va_P D cl_all wn H1 → va_D A wn → va_S A s.heap H1 locs1 → W p l e R s m args below meth c H1 locs1 cells slots Q (F0 m (pc + 3) ls rest)) : W p l e R s m args below meth c H locs cells slots Q (F0 m pc ls st0) :=
  ly_j_v C hz isC isR isB hP hD hS hC hR hnd hB (fun hPc hDc => ly_runV C (hM H.size) hcode hlk hini hst hsel hd hfr hlo hcs hPc hDc 0 he hc hn hsize hstack hW hdg) kk
theorem ly_cVN_v (C : ly_C p m c cc nL own s args A D K) (hM : ly_v l y bytes maxL ret fr lo D K (.ref b :: As) wc wf res) (hz : z = res) (hcode : Cond.code y bytes maxL ret ∈ wA) (hlk : Cond.methodLinkNest own index y host ∈ nW) (hini : Cond.initialized y.cls ∈ wA) (hst : Cond.instanceMethod y ∈ wA) (hsel : Cond.selects Cn y y ∈ wA)
    (hd : y.cls ≠ "java/lang/invoke/MethodHandle" ∧ y.cls ≠ "java/lang/invoke/VarHandle" ∧ (parseMethodDescriptor y.desc).map (fun d => d.parameters.length) = some n) (hfr : fr + 1 ≤ R.frames) (hlo : 8 + (maxL + 11) + lo ≤ R.locals) (hn : As.length = n) (hsize : ls.size = nL) (hstack : st0 = As.reverse ++ .ref b :: rest) (hW : (rest.map fun v => v.category).sum ≤ 8) (hdg : decode cc pc = .ok (.invokevirtual index, 3))
    (hcs : cells ≤ R.cells ∧ slots ≤ R.slots) (isC isR isB : List Nat) (hP : va_P D cl_all ws H) (hD : va_D A ws) (hS : va_S A s.heap H locs) (hC : isC.map (fun i => ws[i]?) = wc.map some) (hR : isR.map (fun i => ws[i]?) = (isR.filterMap (fun i => ws[i]?)).map some)
    (hnd : va_nd isR = true ∧ va_nd isC = true ∧ va_nd isB = true ∧ ∀ i ∈ isR, i ∉ isC) (hB : isB.map (fun i => (isR.filterMap (fun i => ws[i]?) ++ wf z)[i]?) = wn.map some) (he : wc[0]? = some (b, .inr (ci, fs))) (hc : cl_all[ci]? = some (Cn, T, N))
    (kk : ∀ (H1 : Heap) (locs1 : List Loc), va_P D cl_all wn H1 → va_D A wn → va_S A s.heap H1 locs1 → W p l e R s m args below meth c H1 locs1 cells slots Q (F0 m (pc + 3) ls rest)) : W p l e R s m args below meth c H locs cells slots Q (F0 m pc ls st0) :=
  ly_j_v C hz isC isR isB hP hD hS hC hR hnd hB (fun hPc hDc => ly_runVN C (hM H.size) hcode hlk hini hst hsel hd hfr hlo hcs hPc hDc 0 he hc hn hsize hstack hW hdg) kk
/-- a constructor's contract: new cells at addresses u -/
theorem ly_cI {mc ms : Nat} {wfu wnf : (Nat → Nat) → va_W} (C : ly_C p m c cc nL own s args A D K) (hM : ly_n l y bytes maxL fr lo mc ms D K (.ref b :: As) wc wfu) (hcode : Cond.code y bytes maxL none ∈ wA) (hlk : Cond.methodLink own index y ∈ wA) (hini : Cond.initialized y.cls ∈ wA) (hst : Cond.instanceMethod y ∈ wA) (hy1 : y.name = "<init>")
    (hd : y.cls ≠ "java/lang/invoke/MethodHandle" ∧ y.cls ≠ "java/lang/invoke/VarHandle" ∧ (parseMethodDescriptor y.desc).map (fun d => d.parameters.length) = some n) (hfr : fr + 1 ≤ R.frames) (hlo : 8 + (maxL + 11) + lo ≤ R.locals) (hn : As.length = n) (hsize : ls.size = nL) (hstack : st0 = As.reverse ++ .ref b :: rest) (hW : (rest.map fun v => v.category).sum ≤ 8) (hdg : decode cc pc = .ok (.invokespecial index, 3))
    (hcs : cells + mc ≤ R.cells ∧ slots + ms ≤ R.slots) (isC isR isB : List Nat) (hP : va_P D cl_all ws H) (hD : va_D A ws) (hS : va_S A s.heap H locs) (hC : isC.map (fun i => ws[i]?) = wc.map some) (hR : isR.map (fun i => ws[i]?) = (isR.filterMap (fun i => ws[i]?)).map some)
    (hnd : va_nd isR = true ∧ va_nd isC = true ∧ va_nd isB = true ∧ ∀ i ∈ isR, i ∉ isC) (hB : ∀ u, isB.map (fun i => (isR.filterMap (fun i => ws[i]?) ++ wfu u)[i]?) = (wnf u).map some)
    (kk : ∀ (u : Nat → Nat) (H1 : Heap) (locs1 : List Loc), va_P D cl_all (wnf u) H1 → va_D A (wnf u) → va_S A s.heap H1 locs1 → W p l e R s m args below meth c H1 locs1 (cells + mc) (slots + ms) Q (F0 m (pc + 3) ls rest)) : W p l e R s m args below meth c H locs cells slots Q (F0 m pc ls st0) := by
  have hFc := va_free (wc := wc) hD hS C.2.2.2.2.2.1 isC hC
  have hPc := hP.sub isC (ly_fm hC)
  have hDc := hD.sub isC hnd.2.1 hC
  refine va_callv (va_runI (Ts := wA) ⟨C.1, C.2.1, C.2.2.1, C.2.2.2.1, C.2.2.2.2.1⟩ (hM H.size) (cwI n C.2.2.2.2.1 (ly_GI hcode) rfl rfl rfl (C.2.2.2.2.1 _ hini) (C.2.2.2.2.1 _ hlk) (C.2.2.2.2.1 _ hst) hy1 hd ⟨hfr, hlo⟩) (ly_preS C hPc hDc) rfl hn hsize hstack (lv_room hW) hdg hcs) hS (fun q _ h => hFc q h) hFc (fun u t H1 locs1 ht hvm hx hB1 hz hk hS1 => ?_)
  obtain ⟨hP1, -, hD1⟩ := hB1
  rw [ht] at hP1
  obtain ⟨hP2, hD2⟩ := va_join hP hD isC isR hC hR hnd.1 hnd.2.2.2 hk hFc hP1 hD1
  exact kk u H1 locs1 (hP2.sub isB (ly_fm (hB u))) (hD2.sub isB hnd.2.2.1 (hB u)) hS1
theorem ly_cIN {mc ms : Nat} {wfu wnf : (Nat → Nat) → va_W} (C : ly_C p m c cc nL own s args A D K) (hM : ly_n l y bytes maxL fr lo mc ms D K (.ref b :: As) wc wfu) (hcode : Cond.code y bytes maxL none ∈ wA) (hlk : Cond.methodLinkNest own index y host ∈ nW) (hini : Cond.initialized y.cls ∈ wA) (hst : Cond.instanceMethod y ∈ wA) (hy1 : y.name = "<init>")
    (hd : y.cls ≠ "java/lang/invoke/MethodHandle" ∧ y.cls ≠ "java/lang/invoke/VarHandle" ∧ (parseMethodDescriptor y.desc).map (fun d => d.parameters.length) = some n) (hfr : fr + 1 ≤ R.frames) (hlo : 8 + (maxL + 11) + lo ≤ R.locals) (hn : As.length = n) (hsize : ls.size = nL) (hstack : st0 = As.reverse ++ .ref b :: rest) (hW : (rest.map fun v => v.category).sum ≤ 8) (hdg : decode cc pc = .ok (.invokespecial index, 3))
    (hcs : cells + mc ≤ R.cells ∧ slots + ms ≤ R.slots) (isC isR isB : List Nat) (hP : va_P D cl_all ws H) (hD : va_D A ws) (hS : va_S A s.heap H locs) (hC : isC.map (fun i => ws[i]?) = wc.map some) (hR : isR.map (fun i => ws[i]?) = (isR.filterMap (fun i => ws[i]?)).map some)
    (hnd : va_nd isR = true ∧ va_nd isC = true ∧ va_nd isB = true ∧ ∀ i ∈ isR, i ∉ isC) (hB : ∀ u, isB.map (fun i => (isR.filterMap (fun i => ws[i]?) ++ wfu u)[i]?) = (wnf u).map some)
    (kk : ∀ (u : Nat → Nat) (H1 : Heap) (locs1 : List Loc), va_P D cl_all (wnf u) H1 → va_D A (wnf u) → va_S A s.heap H1 locs1 → W p l e R s m args below meth c H1 locs1 (cells + mc) (slots + ms) Q (F0 m (pc + 3) ls rest)) : W p l e R s m args below meth c H locs cells slots Q (F0 m pc ls st0) := by
  have hFc := va_free (wc := wc) hD hS C.2.2.2.2.2.1 isC hC
  have hPc := hP.sub isC (ly_fm hC)
  have hDc := hD.sub isC hnd.2.1 hC
  refine va_callv (va_runIN (Ts := wA) ⟨C.1, C.2.1, C.2.2.1, C.2.2.2.1, C.2.2.2.2.1⟩ (hM H.size) ⟨va_cnB n C.2.2.2.2.1 (ly_GI hcode) rfl rfl rfl (C.2.2.2.2.2.2.2.1 _ hlk) (C.2.2.2.2.1 _ hini) hd ⟨hfr, hlo⟩, hy1, C.2.2.2.2.1 _ hst⟩ (ly_preS C hPc hDc) rfl hn hsize hstack (lv_room hW) hdg hcs) hS (fun q _ h => hFc q h) hFc (fun u t H1 locs1 ht hvm hx hB1 hz hk hS1 => ?_)
  obtain ⟨hP1, -, hD1⟩ := hB1
  rw [ht] at hP1
  obtain ⟨hP2, hD2⟩ := va_join hP hD isC isR hC hR hnd.1 hnd.2.2.2 hk hFc hP1 hD1
  exact kk u H1 locs1 (hP2.sub isB (ly_fm (hB u))) (hD2.sub isB hnd.2.2.1 (hB u)) hS1
end LYW
/-! arrays, by a number that is their place -/
theorem ly_iald (C : ly_C p m c cc nL own s args A D K) (hP : va_P D cl_all ws H) (q0 : Nat) {ad n : Nat} {f : Nat → Int32} (ha : ws[q0]? = some (ad, .inl (K 1, n, .inl f))) {i : Int32} (j : Nat) (hi : i = nI j) (hj : j < n) (hn : n < 2 ^ 31) (hdg : decode cc pc = .ok (.iaload, 1))
    (kk : W p l e R s m args below meth c H locs cells slots Q (F0 m (pc + 1) ls (.int (f j) :: rest))) : W p l e R s m args below meth c H locs cells slots Q (F0 m pc ls (.int i :: .ref ad :: rest)) := by
  subst hi
  refine va_iald C.1 C.2.1 C.2.2.2.2.2.2.1 hP q0 1 ha rfl (vp_in_nI hj hn) hdg ?_
  rw [nI_clamp (Nat.lt_trans hj hn)]
  exact kk
theorem ly_zald (C : ly_C p m c cc nL own s args A D K) (hP : va_P D cl_all ws H) (q0 : Nat) {ad n : Nat} {f : Nat → Int32} (ha : ws[q0]? = some (ad, .inl (K 2, n, .inl f))) {i : Int32} (j : Nat) (hi : i = nI j) (hj : j < n) (hn : n < 2 ^ 31) (hdg : decode cc pc = .ok (.baload, 1))
    (kk : W p l e R s m args below meth c H locs cells slots Q (F0 m (pc + 1) ls (.int (f j) :: rest))) : W p l e R s m args below meth c H locs cells slots Q (F0 m pc ls (.int i :: .ref ad :: rest)) := by
  subst hi
  refine va_zald C.1 C.2.1 C.2.2.2.2.2.2.1 hP q0 2 ha rfl (vp_in_nI hj hn) hdg ?_
  rw [nI_clamp (Nat.lt_trans hj hn)]
  exact kk
theorem ly_lald (C : ly_C p m c cc nL own s args A D K) (hP : va_P D cl_all ws H) (q0 : Nat) {ad n : Nat} {f : Nat → Int64} (ha : ws[q0]? = some (ad, .inl (K 0, n, .inr (.inl f)))) {i : Int32} (j : Nat) (hi : i = nI j) (hj : j < n) (hn : n < 2 ^ 31) (hdg : decode cc pc = .ok (.laload, 1))
    (kk : W p l e R s m args below meth c H locs cells slots Q (F0 m (pc + 1) ls (.long (f j) :: rest))) : W p l e R s m args below meth c H locs cells slots Q (F0 m pc ls (.int i :: .ref ad :: rest)) := by
  subst hi
  refine va_lald C.1 C.2.1 C.2.2.2.2.2.2.1 hP q0 0 ha rfl (vp_in_nI hj hn) hdg ?_
  rw [nI_clamp (Nat.lt_trans hj hn)]
  exact kk
theorem ly_iast (C : ly_C p m c cc nL own s args A D K) (hP : va_P D cl_all ws H) (hD : va_D A ws) (hS : va_S A s.heap H locs) (q0 : Nat) {ad n : Nat} {f : Nat → Int32} (ha : ws[q0]? = some (ad, .inl (K 1, n, .inl f))) {i x : Int32} (j : Nat) (hi : i = nI j) (hj : j < n) (hn : n < 2 ^ 31) (hdg : decode cc pc = .ok (.iastore, 1)) (hw : ws.set q0 (ad, .inl (K 1, n, .inl (upd f j x))) = ws')
    (kk : ∀ (H1 : Heap) (locs1 : List Loc), va_P D cl_all ws' H1 → va_D A ws' → va_S A s.heap H1 locs1 → W p l e R s m args below meth c H1 locs1 cells slots Q (F0 m (pc + 1) ls rest)) : W p l e R s m args below meth c H locs cells slots Q (F0 m pc ls (.int x :: .int i :: .ref ad :: rest)) := by
  subst hi; subst hw
  have h := va_iast (p := p) (l := l) (e := e) (R := R) (s := s) (m := m) (args := args) (below := below) (meth := meth) (c := c) (cells := cells) (slots := slots) (Q := Q) (ls := ls) (rest := rest) (x := x) C.1 C.2.1 C.2.2.2.2.2.2.1 hP hD hS q0 1 ha rfl (vp_in_nI hj hn) hdg
  rw [nI_clamp (Nat.lt_trans hj hn)] at h
  exact h kk
theorem ly_zast (C : ly_C p m c cc nL own s args A D K) (hP : va_P D cl_all ws H) (hD : va_D A ws) (hS : va_S A s.heap H locs) (q0 : Nat) {ad n : Nat} {f : Nat → Int32} (ha : ws[q0]? = some (ad, .inl (K 2, n, .inl f))) {i x x' : Int32} (hx : vp_nar .boolean x = x') (j : Nat) (hi : i = nI j) (hj : j < n) (hn : n < 2 ^ 31) (hdg : decode cc pc = .ok (.bastore, 1)) (hw : ws.set q0 (ad, .inl (K 2, n, .inl (upd f j x'))) = ws')
    (kk : ∀ (H1 : Heap) (locs1 : List Loc), va_P D cl_all ws' H1 → va_D A ws' → va_S A s.heap H1 locs1 → W p l e R s m args below meth c H1 locs1 cells slots Q (F0 m (pc + 1) ls rest)) : W p l e R s m args below meth c H locs cells slots Q (F0 m pc ls (.int x :: .int i :: .ref ad :: rest)) := by
  subst hi; subst hx; subst hw
  have h := va_zast (p := p) (l := l) (e := e) (R := R) (s := s) (m := m) (args := args) (below := below) (meth := meth) (c := c) (cells := cells) (slots := slots) (Q := Q) (ls := ls) (rest := rest) (x := x) C.1 C.2.1 C.2.2.2.2.2.2.1 hP hD hS q0 2 ha rfl (vp_in_nI hj hn) hdg
  rw [nI_clamp (Nat.lt_trans hj hn)] at h
  exact h kk
theorem ly_last (C : ly_C p m c cc nL own s args A D K) (hP : va_P D cl_all ws H) (hD : va_D A ws) (hS : va_S A s.heap H locs) (q0 : Nat) {ad n : Nat} {f : Nat → Int64} (ha : ws[q0]? = some (ad, .inl (K 0, n, .inr (.inl f)))) {i : Int32} {x : Int64} (j : Nat) (hi : i = nI j) (hj : j < n) (hn : n < 2 ^ 31) (hdg : decode cc pc = .ok (.lastore, 1)) (hw : ws.set q0 (ad, .inl (K 0, n, .inr (.inl (vp_updL f j x)))) = ws')
    (kk : ∀ (H1 : Heap) (locs1 : List Loc), va_P D cl_all ws' H1 → va_D A ws' → va_S A s.heap H1 locs1 → W p l e R s m args below meth c H1 locs1 cells slots Q (F0 m (pc + 1) ls rest)) : W p l e R s m args below meth c H locs cells slots Q (F0 m pc ls (.long x :: .int i :: .ref ad :: rest)) := by
  subst hi; subst hw
  have h := va_last (p := p) (l := l) (e := e) (R := R) (s := s) (m := m) (args := args) (below := below) (meth := meth) (c := c) (cells := cells) (slots := slots) (Q := Q) (ls := ls) (rest := rest) (x := x) C.1 C.2.1 C.2.2.2.2.2.2.1 hP hD hS q0 0 ha rfl (vp_in_nI hj hn) hdg
  rw [nI_clamp (Nat.lt_trans hj hn)] at h
  exact h kk
end LYR
section LYG
variable {p : Program} {l : Launch} {e : Env} {R : Room} {s : State} {m : MethodId} {args : Array Value} {below : List Frame} {meth : Method} {c : Code} {H : Heap} {locs : List Loc} {cells slots : Nat} {Q : State → Prop}
variable {cc : ByteArray} {pc nL : Nat} {own : String} {ls : Array Slot} {D : va_G} {K : Nat → ClassId} {A : Nat → Prop} {ws ws' : va_W} {rest : List Value} {ad index : Nat} {Cn : String}
theorem ly_newq (C : ly_C p m c cc nL own s args A D K) (t0 : Nat) (ht : (tyA K)[t0]? = some (K t0, .object Cn)) (hlk : Cond.classLink own index Cn ∈ wA) (hao : Cn ∈ aO) (hP : va_P D cl_all ws H) (hD : va_D A ws) (hS : va_S A s.heap H locs)
    {n : Int32} (N' : Nat) (hn : n = nI N') (hN : N' < 2 ^ 24) (hcells : cells + 1 ≤ R.cells) (hslots : slots + N' ≤ R.slots) (hdg : decode cc pc = .ok (.anewarray index, 3))
    (kk : ∀ (q : Nat) (H1 : Heap), va_P D cl_all (ws ++ [(q, .inl (K t0, N', .inr (.inr (.inr (.inr (fun _ => none))))))]) H1 → va_D A (ws ++ [(q, .inl (K t0, N', .inr (.inr (.inr (.inr (fun _ => none))))))]) → va_S A s.heap H1 locs → W p l e R s m args below meth c H1 locs (cells + 1) (slots + N') Q (F0 m (pc + 3) ls (.ref q :: rest))) : W p l e R s m args below meth c H locs cells slots Q (F0 m pc ls (.int n :: rest)) := by
  subst hn
  have hK := C.2.2.2.2.2.2.1
  refine va_newq C.1 C.2.1 C.2.2.2.1 (C.2.2.2.2.1 _ hlk) (C.2.2.2.2.2.2.2.2 _ hao) hK hP hD hS C.2.2.2.2.2.1 (nI_pos (by omega)) (nI_clamp (by omega)) (by omega) hcells hslots hdg (fun q cA H1 hK1 hP1 hD1 hS1 => ?_)
  obtain ⟨_, _, _, _, _, h1⟩ := (hK1.2 (tyA K).length (cA, .object Cn) (by rw [List.getElem?_append_right (Nat.le_refl _), Nat.sub_self]; rfl)).2
  obtain ⟨_, _, _, _, _, h2⟩ := (hK.2 t0 (K t0, .object Cn) ht).2
  have h3 : cA = K t0 := Option.some.inj (h1.symm.trans h2)
  subst h3
  exact kk q H1 hP1 hD1 hS1
theorem ly_astq (C : ly_C p m c cc nL own s args A D K) (hP : va_P D cl_all ws H) (hD : va_D A ws) (hS : va_S A s.heap H locs) (q0 qk : Nat) {t0 ci n v : Nat} {r : vw_C} {vs : List Value} {f : Nat → Option Nat} (ht : (tyA K)[t0]? = some (K t0, .object r.1)) (ha : ws[q0]? = some (ad, .inl (K t0, n, .inr (.inr (.inr (.inr f)))))) (hv : ws[qk]? = some (v, .inr (ci, vs))) (hc : cl_all[ci]? = some r) {i : Int32} (j : Nat) (hi : i = nI j) (hj : j < n) (hn : n < 2 ^ 31) (hdg : decode cc pc = .ok (.aastore, 1)) (hw : ws.set q0 (ad, .inl (K t0, n, .inr (.inr (.inr (.inr (va_up f j (some v))))))) = ws')
    (kk : ∀ (H1 : Heap) (locs1 : List Loc), va_P D cl_all ws' H1 → va_D A ws' → va_S A s.heap H1 locs1 → W p l e R s m args below meth c H1 locs1 cells slots Q (F0 m (pc + 1) ls rest)) : W p l e R s m args below meth c H locs cells slots Q (F0 m pc ls (.ref v :: .int i :: .ref ad :: rest)) := by
  subst hi; subst hw
  have h := va_astq (p := p) (l := l) (e := e) (R := R) (s := s) (m := m) (args := args) (below := below) (meth := meth) (c := c) (cells := cells) (slots := slots) (Q := Q) (ls := ls) (rest := rest) C.1 C.2.1 C.2.2.2.2.2.2.1 hP hD hS q0 t0 qk ci ha ht hv hc (vp_in_nI hj hn) hdg
  rw [nI_clamp (Nat.lt_trans hj hn)] at h
  exact h kk
end LYG
theorem ly_inc (x : Int32) : x + Int32.ofInt 1 = x + 1 := rfl
theorem ly_incN (j : Nat) : nI j + Int32.ofInt 1 = nI (j + 1) := (nI_succ j).symm
theorem ly_decN (j : Nat) : nI j + Int32.ofInt (-1) = nI j - 1 := by
  rw [Int32.sub_eq_add_neg]; rfl
section LYF
variable {p : Program} {l : Launch} {e : Env} {R : Room} {s : State} {m : MethodId} {args : Array Value} {below : List Frame} {meth : Method} {c : Code} {H : Heap} {locs : List Loc} {cells slots : Nat} {Q : State → Prop}
variable {cc : ByteArray} {pc nL : Nat} {own : String} {ls : Array Slot} {D : va_G} {K : Nat → ClassId} {A : Nat → Prop} {ws ws' : va_W} {rest : List Value} {ad ci N index : Nat} {fs : List Value} {Cn host : String} {T : u_T} {v : Value} {ty0 : Nat → FieldType} {ty : FieldType}
theorem ly_get (C : ly_C p m c cc nL own s args A D K) (hP : va_P D cl_all ws H) (q0 : Nat) (he : ws[q0]? = some (ad, .inr (ci, fs))) (hin : ∀ w ∈ u_ws Cn T N, w ∈ wA) (hc : cl_all[ci]? = some (Cn, T, N)) (k : Nat) (hk : k < N) (hlk : Cond.fieldLink own index (T k).1 (T k).2.1 (T k).2.2.1 ∈ wA) (hv : fs[k]? = some v) (hdg : decode cc pc = .ok (.getfield index, 3))
    (kk : W p l e R s m args below meth c H locs cells slots Q (F0 m (pc + 3) ls (v :: rest))) : W p l e R s m args below meth c H locs cells slots Q (F0 m pc ls (.ref ad :: rest)) :=
  va_get C.1 C.2.1 C.2.2.2.2.1 hin C.2.2.2.1 C.2.2.2.2.2.2.1 hP q0 he hc k hk (C.2.2.2.2.1 _ hlk) (fun _ h => h) hv hdg kk
theorem ly_getN (C : ly_C p m c cc nL own s args A D K) (hP : va_P D cl_all ws H) (q0 : Nat) (he : ws[q0]? = some (ad, .inr (ci, fs))) (hin : ∀ w ∈ u_ws Cn T N, w ∈ wA) (hc : cl_all[ci]? = some (Cn, T, N)) (k : Nat) (hk : k < N) (hlk : Cond.fieldLinkNest own index (T k).1 (T k).2.1 (T k).2.2.1 host ∈ nW) (hv : fs[k]? = some v) (hdg : decode cc pc = .ok (.getfield index, 3))
    (kk : W p l e R s m args below meth c H locs cells slots Q (F0 m (pc + 3) ls (v :: rest))) : W p l e R s m args below meth c H locs cells slots Q (F0 m pc ls (.ref ad :: rest)) :=
  va_getN C.1 C.2.1 C.2.2.2.2.1 hin C.2.2.2.1 C.2.2.2.2.2.2.1 hP q0 he hc k hk (va_Nw.use rfl (C.2.2.2.2.2.2.2.1 _ hlk)) (fun _ h => h) hv hdg kk
theorem ly_put (C : ly_C p m c cc nL own s args A D K) (hP : va_P D cl_all ws H) (hD : va_D A ws) (hS : va_S A s.heap H locs) (q0 : Nat) (he : ws[q0]? = some (ad, .inr (ci, fs))) (hin : ∀ w ∈ u_ws Cn T N, w ∈ wA) (hty : ∀ k, k < N → parseFieldDescriptor (T k).2.2.1 = some (ty0 k)) (hnm : ∀ a, a < N → ∀ b, b < N → a ≠ b → (T a).2.1 ≠ (T b).2.1) (hc : cl_all[ci]? = some (Cn, T, N)) (k : Nat) (hk : k < N) (hlk : Cond.fieldLink own index (T k).1 (T k).2.1 (T k).2.2.1 ∈ wA)
    (hfin : (T k).2.2.2 = false) (hn : narrow (ty0 k) v = v) (hfit : fits (ty0 k) v = true) (hl : k < fs.length) (hdg : decode cc pc = .ok (.putfield index, 3)) (hw : ws.set q0 (ad, .inr (ci, fs.set k v)) = ws')
    (kk : ∀ (H1 : Heap) (locs1 : List Loc), va_P D cl_all ws' H1 → va_D A ws' → va_S A s.heap H1 locs1 → W p l e R s m args below meth c H1 locs1 cells slots Q (F0 m (pc + 3) ls rest)) : W p l e R s m args below meth c H locs cells slots Q (F0 m pc ls (v :: .ref ad :: rest)) := by
  subst hw
  exact va_put C.1 C.2.1 C.2.2.2.2.1 hin ty0 hty hnm C.2.2.2.1 C.2.2.2.2.2.2.1 hP hD hS q0 he hc k hk (C.2.2.2.2.1 _ hlk) (fun _ h => h) hfin (hty k hk) hn hfit hl hdg kk
theorem ly_putF (C : ly_C p m c cc nL own s args A D K) (hP : va_P D cl_all ws H) (hD : va_D A ws) (hS : va_S A s.heap H locs) (q0 : Nat) (he : ws[q0]? = some (ad, .inr (ci, fs))) (hin : ∀ w ∈ u_ws Cn T N, w ∈ wA) (hty : ∀ k, k < N → parseFieldDescriptor (T k).2.2.1 = some (ty0 k)) (hnm : ∀ a, a < N → ∀ b, b < N → a ≠ b → (T a).2.1 ≠ (T b).2.1) (hc : cl_all[ci]? = some (Cn, T, N)) (k : Nat) (hk : k < N) (hlk : Cond.fieldLink own index (T k).1 (T k).2.1 (T k).2.2.1 ∈ wA)
    (hfin : (T k).2.2.2 = true) (hin2 : meth.name = "<init>") (hdecl : (T k).1 = own) (hn : narrow (ty0 k) v = v) (hfit : fits (ty0 k) v = true) (hl : k < fs.length) (hdg : decode cc pc = .ok (.putfield index, 3)) (hw : ws.set q0 (ad, .inr (ci, fs.set k v)) = ws')
    (kk : ∀ (H1 : Heap) (locs1 : List Loc), va_P D cl_all ws' H1 → va_D A ws' → va_S A s.heap H1 locs1 → W p l e R s m args below meth c H1 locs1 cells slots Q (F0 m (pc + 3) ls rest)) : W p l e R s m args below meth c H locs cells slots Q (F0 m pc ls (v :: .ref ad :: rest)) := by
  subst hw
  exact va_putF C.1 C.2.1 C.2.2.2.2.1 hin ty0 hty hnm C.2.2.2.1 C.2.2.2.2.2.2.1 hP hD hS q0 he hc k hk (C.2.2.2.2.1 _ hlk) (fun _ h => h) hfin hin2 hdecl (hty k hk) hn hfit hl hdg kk
theorem ly_ldc2 {x : Int64} (C : ly_C p m c cc nL own s args A D K) (hlk : Cond.constantLong own index x ∈ wA) (hdg : decode cc pc = .ok (.ldc2_w index, 3))
    (kk : W p l e R s m args below meth c H locs cells slots Q (F0 m (pc + 3) ls (.long x :: rest))) : W p l e R s m args below meth c H locs cells slots Q (F0 m pc ls rest) :=
  lv_ldc2 C.1 C.2.1 C.2.2.2.1 (C.2.2.2.2.1 _ hlk) hdg kk
theorem ly_ldcw {x : Int32} (C : ly_C p m c cc nL own s args A D K) (hlk : Cond.constant own index x ∈ wA) (hdg : decode cc pc = .ok (.ldc_w index, 3))
    (kk : W p l e R s m args below meth c H locs cells slots Q (F0 m (pc + 3) ls (.int x :: rest))) : W p l e R s m args below meth c H locs cells slots Q (F0 m pc ls rest) :=
  lv_ldcw C.1 C.2.1 C.2.2.2.1 (C.2.2.2.2.1 _ hlk) hdg kk
theorem ly_aldq (C : ly_C p m c cc nL own s args A D K) (hP : va_P D cl_all ws H) (q0 : Nat) {n t0 b : Nat} {f : Nat → Option Nat} {Cq : String} (ht : (tyA K)[t0]? = some (K t0, .object Cq)) (ha : ws[q0]? = some (ad, .inl (K t0, n, .inr (.inr (.inr (.inr f)))))) {i : Int32} (j : Nat) (hi : i = nI j) (hj : j < n) (hn : n < 2 ^ 31) (hf : f j = some b) (hdg : decode cc pc = .ok (.aaload, 1))
    (kk : W p l e R s m args below meth c H locs cells slots Q (F0 m (pc + 1) ls (.ref b :: rest))) : W p l e R s m args below meth c H locs cells slots Q (F0 m pc ls (.int i :: .ref ad :: rest)) := by
  subst hi
  refine va_aldq C.1 C.2.1 C.2.2.2.2.2.2.1 hP q0 t0 ha ht (vp_in_nI hj hn) hdg ?_
  rw [nI_clamp (Nat.lt_trans hj hn), hf]
  exact kk
theorem ly_new (C : ly_C p m c cc nL own s args A D K) (hin : ∀ w ∈ u_ws Cn T N, w ∈ wA) (hty : ∀ k, k < N → parseFieldDescriptor (T k).2.2.1 = some (ty0 k)) (hlk : Cond.classLink own index Cn ∈ wA) (hinst : Cond.instantiable Cn N ∈ wA) (hini : Cond.initialized Cn ∈ wA) (hP : va_P D cl_all ws H) (hD : va_D A ws) (hS : va_S A s.heap H locs) (hc : cl_all[ci]? = some (Cn, T, N)) (hfs : ∀ j, j < N → defaultValue (ty0 j) = vp_V fs j) (hcells : cells + 1 ≤ R.cells) (hslots : slots + N ≤ R.slots) (hdg : decode cc pc = .ok (.new index, 3))
    (kk : ∀ (q : Nat) (H1 : Heap), va_P D cl_all (ws ++ [(q, .inr (ci, fs))]) H1 → va_D A (ws ++ [(q, .inr (ci, fs))]) → va_S A s.heap H1 locs → W p l e R s m args below meth c H1 locs (cells + 1) (slots + N) Q (F0 m (pc + 3) ls (.ref q :: rest))) : W p l e R s m args below meth c H locs cells slots Q (F0 m pc ls rest) :=
  va_new C.1 C.2.1 C.2.2.2.2.1 hin ty0 hty C.2.2.2.1 (C.2.2.2.2.1 _ hlk) (C.2.2.2.2.1 _ hinst) (C.2.2.2.2.1 _ hini) C.2.2.2.2.2.2.1 hP hD hS C.2.2.2.2.2.1 hc hfs hcells hslots hdg kk
theorem ly_newa (C : ly_C p m c cc nL own s args A D K) {at0 : ArrayType} (t0 : Nat) (hty : newarray.typeOf at0 = ty) (ht : (tyA K)[t0]? = some (K t0, ty)) (hprim : ∀ (cA : ClassId), va_RA s cA ty → s.vm.findClass ("[" ++ ty.toString) = some cA) (harr : Cond.arrayClass ty ∈ wA) (hP : va_P D cl_all ws H) (hD : va_D A ws) (hS : va_S A s.heap H locs)
    {n : Int32} (N' : Nat) {a0 : vp_A} (ha : ∀ cA : ClassId, vp_cell cA a0 = arrV cA N' (fun _ => defaultValue ty)) (hn : n = nI N') (hN : N' < 2 ^ 24) (hb8 : componentBytes ty ≤ 8) (hcells : cells + 1 ≤ R.cells) (hslots : slots + N' ≤ R.slots) (hdg : decode cc pc = .ok (.newarray at0, 2))
    (kk : ∀ (q : Nat) (H1 : Heap), va_P D cl_all (ws ++ [(q, .inl (K t0, a0))]) H1 → va_D A (ws ++ [(q, .inl (K t0, a0))]) → va_S A s.heap H1 locs → W p l e R s m args below meth c H1 locs (cells + 1) (slots + N') Q (F0 m (pc + 2) ls (.ref q :: rest))) : W p l e R s m args below meth c H locs cells slots Q (F0 m pc ls (.int n :: rest)) := by
  subst hn
  have hK := C.2.2.2.2.2.2.1
  refine va_newa C.1 C.2.1 (atype := at0) (by rw [hty]; exact C.2.2.2.2.1 _ harr) hty hK hP hD hS C.2.2.2.2.2.1 ha (nI_pos (by omega)) (nI_clamp (by omega)) (Nat.le_trans (Nat.mul_le_mul (Nat.le_of_lt hN) hb8) (by decide)) hcells hslots hdg (fun q cA H1 hK1 hP1 hD1 hS1 => ?_)
  have h1 := hprim _ (hK1.2 (tyA K).length (cA, ty) (by rw [List.getElem?_append_right (Nat.le_refl _), Nat.sub_self]; rfl)).2
  have h2 := hprim _ (hK.2 t0 (K t0, ty) ht).2
  have h3 : cA = K t0 := Option.some.inj (h1.symm.trans h2)
  subst h3
  exact kk q H1 hP1 hD1 hS1
end LYF
/-! a contract over the same cells in another order -/
theorem ly_mono {l : Launch} {y : MethodName} {wd : List Cond} {rm : Room} {Pc Pc' : Array Value → State → Prop} {Qc Qc' : Array Value → State → Outcome → State → Prop} {mc ms : Nat} {fr fr' : Addr → Prop} (h : Met l y wd rm Pc Qc mc ms fr) (hP : ∀ a s, Pc' a s → Pc a s) (hQ : ∀ a s o t, Qc a s o t → Qc' a s o t) (hf : ∀ q, fr q → fr' q) : Met l y wd rm Pc' Qc' mc ms fr' := by
  intro p e h1 h2 h3 s m args below h4 h5 h6 h7
  obtain ⟨n, o, a1, a2, a3, q, L, b1, b2⟩ := h p e h1 h2 h3 s m args below h4 h5 (hP _ _ h6) h7
  exact ⟨n, o, a1, a2, a3, hQ _ _ _ _ q, L, b1, fun q hq => hf _ (b2 q hq)⟩
theorem ly_mapAt {ws w : va_W} {is : List Nat} (hs : is.map (fun i => ws[i]?) = w.map some) (k : Nat) (q : Nat × va_E) (hq : w[k]? = some q) : ∃ i, is[k]? = some i ∧ ws[i]? = some q := by
  have h1 : (is.map (fun i => ws[i]?))[k]? = some (some q) := by rw [hs, List.getElem?_map, hq]; rfl
  rw [List.getElem?_map] at h1
  cases hi : is[k]? with
  | none => rw [hi] at h1; cases h1
  | some i => rw [hi] at h1; exact ⟨i, rfl, Option.some.inj h1⟩
theorem ly_permA {ws w : va_W} {is : List Nat} (hs : is.map (fun i => ws[i]?) = w.map some) (hc : ∀ k, k < ws.length → k ∈ is) (sz q : Nat) : va_A w sz q ↔ va_A ws sz q := by
  constructor
  · rintro (⟨k, e, h⟩ | h)
    · obtain ⟨i, -, h2⟩ := ly_mapAt hs k (q, e) h
      exact Or.inl ⟨i, e, h2⟩
    · exact Or.inr h
  · rintro (⟨k, e, h⟩ | h)
    · obtain ⟨i, hi⟩ := List.getElem?_of_mem (hc k (List.getElem?_eq_some_iff.mp h).1)
      have h1 : (is.map (fun i => ws[i]?))[i]? = some (ws[k]?) := by rw [List.getElem?_map, hi]; rfl
      rw [hs, List.getElem?_map, h] at h1
      cases hw : w[i]? with
      | none => rw [hw] at h1; cases h1
      | some x =>
        rw [hw] at h1
        have hx : x = (q, e) := Option.some.inj (Option.some.inj h1)
        exact Or.inl ⟨i, e, by rw [hw, hx]⟩
    · exact Or.inr h
theorem ly_permD {ws : va_W} {A B : Nat → Prop} (h : ∀ q, A q ↔ B q) (hD : va_D A ws) : va_D B ws := ⟨hD.1, fun k q hk => (h q.1).mp (hD.2 k q hk)⟩
theorem ly_permF {A B : Nat → Prop} (h : ∀ q, A q ↔ B q) {st t : State} (hF : va_F A st t) : va_F B st t := ⟨hF.1, fun q h1 h2 => hF.2 q h1 (fun z => h2 ((h q).mp z))⟩
section LYP
variable {ρ σ : Type} {l : Launch} {y : MethodName} {cc : ByteArray} {maxL : Nat} {ret : Option FieldType} {fr lo : Nat} {D : va_G} {K : Nat → ClassId} {args : List Value} {ws ws2 : va_W} {wf : ρ → va_W} {wf2 : σ → va_W} {res : ρ} {res2 : σ}
theorem ly_permP (is : List Nat) (h1 : is.map (fun i => ws2[i]?) = ws.map some) (hn : va_nd is = true) (sz : Nat) (a : Array Value) (s : State) (h : ly_pre D K args ws2 sz a s) : ly_pre D K args ws sz a s := by
  obtain ⟨q0, q1, qP, qK, qD, qN⟩ := h
  exact ⟨q0, q1, qP.sub is (ly_fm h1), qK, qD.sub is hn h1, qN⟩
theorem ly_perm_i {rf : ρ → Int32} {rf2 : σ → Int32} (h : ly_i l y cc maxL ret fr lo D K args ws rf wf res) (is js : List Nat) (h1 : is.map (fun i => ws2[i]?) = ws.map some) (h2 : js.map (fun i => (wf res)[i]?) = (wf2 res2).map some) (hr : rf res = rf2 res2) (hc : va_nd is = true ∧ va_nd js = true) (hcov : ∀ k, k < ws2.length → k ∈ is) : ly_i l y cc maxL ret fr lo D K args ws2 rf2 wf2 res2 := by
  intro sz
  have hA := ly_permA h1 hcov sz
  refine ly_mono (h sz) (ly_permP is h1 hc.1 sz) ?_ (fun q hq => (hA q).mp hq)
  rintro a s o t ⟨⟨r, u, ho, hp, hB⟩, hF⟩
  exact ⟨⟨r, u, ho, hp.trans hr, hB.1.sub js (ly_fm h2), hB.2.1, (ly_permD hA hB.2.2).sub js hc.2 h2⟩, ly_permF hA hF⟩
theorem ly_perm_l {rf : ρ → Int64} {rf2 : σ → Int64} (h : ly_l l y cc maxL ret fr lo D K args ws rf wf res) (is js : List Nat) (h1 : is.map (fun i => ws2[i]?) = ws.map some) (h2 : js.map (fun i => (wf res)[i]?) = (wf2 res2).map some) (hr : rf res = rf2 res2) (hc : va_nd is = true ∧ va_nd js = true) (hcov : ∀ k, k < ws2.length → k ∈ is) : ly_l l y cc maxL ret fr lo D K args ws2 rf2 wf2 res2 := by
  intro sz
  have hA := ly_permA h1 hcov sz
  refine ly_mono (h sz) (ly_permP is h1 hc.1 sz) ?_ (fun q hq => (hA q).mp hq)
  rintro a s o t ⟨⟨r, u, ho, hp, hB⟩, hF⟩
  exact ⟨⟨r, u, ho, hp.trans hr, hB.1.sub js (ly_fm h2), hB.2.1, (ly_permD hA hB.2.2).sub js hc.2 h2⟩, ly_permF hA hF⟩
end LYP
end
section
theorem dd_RG_init_0 : decode bb_RG_init 0 = .ok (.aload_n 0, 1) := by decide +kernel
theorem dd_RG_init_1 : decode bb_RG_init 1 = .ok (.invokespecial 1, 3) := by decide +kernel
theorem dd_RG_init_4 : decode bb_RG_init 4 = .ok (.aload_n 0, 1) := by decide +kernel
theorem dd_RG_init_5 : decode bb_RG_init 5 = .ok (.new 7, 3) := by decide +kernel
theorem dd_RG_init_8 : decode bb_RG_init 8 = .ok (.dup, 1) := by decide +kernel
theorem dd_RG_init_9 : decode bb_RG_init 9 = .ok (.iload_n 1, 1) := by decide +kernel
theorem dd_RG_init_10 : decode bb_RG_init 10 = .ok (.invokespecial 9, 3) := by decide +kernel
theorem dd_RG_init_13 : decode bb_RG_init 13 = .ok (.putfield 12, 3) := by decide +kernel
theorem dd_RG_init_16 : decode bb_RG_init 16 = .ok (.aload_n 0, 1) := by decide +kernel
theorem dd_RG_init_17 : decode bb_RG_init 17 = .ok (.new 18, 3) := by decide +kernel
theorem dd_RG_init_20 : decode bb_RG_init 20 = .ok (.dup, 1) := by decide +kernel
theorem dd_RG_init_21 : decode bb_RG_init 21 = .ok (.invokespecial 20, 3) := by decide +kernel
theorem dd_RG_init_24 : decode bb_RG_init 24 = .ok (.putfield 21, 3) := by decide +kernel
theorem dd_RG_init_27 : decode bb_RG_init 27 = .ok (.aload_n 0, 1) := by decide +kernel
theorem dd_RG_init_28 : decode bb_RG_init 28 = .ok (.iconst 3, 1) := by decide +kernel
theorem dd_RG_init_29 : decode bb_RG_init 29 = .ok (.anewarray 25, 3) := by decide +kernel
theorem dd_RG_init_32 : decode bb_RG_init 32 = .ok (.putfield 27, 3) := by decide +kernel
theorem dd_RG_init_35 : decode bb_RG_init 35 = .ok (.iconst 0, 1) := by decide +kernel
theorem dd_RG_init_36 : decode bb_RG_init 36 = .ok (.istore_n 2, 1) := by decide +kernel
theorem dd_RG_init_37 : decode bb_RG_init 37 = .ok (.iload_n 2, 1) := by decide +kernel
theorem dd_RG_init_38 : decode bb_RG_init 38 = .ok (.iconst 3, 1) := by decide +kernel
theorem dd_RG_init_39 : decode bb_RG_init 39 = .ok (.if_icmp .ge 30, 3) := by decide +kernel
theorem dd_RG_init_42 : decode bb_RG_init 42 = .ok (.aload_n 0, 1) := by decide +kernel
theorem dd_RG_init_43 : decode bb_RG_init 43 = .ok (.getfield 27, 3) := by decide +kernel
theorem dd_RG_init_46 : decode bb_RG_init 46 = .ok (.iload_n 2, 1) := by decide +kernel
theorem dd_RG_init_47 : decode bb_RG_init 47 = .ok (.new 25, 3) := by decide +kernel
theorem dd_RG_init_50 : decode bb_RG_init 50 = .ok (.dup, 1) := by decide +kernel
theorem dd_RG_init_51 : decode bb_RG_init 51 = .ok (.iload_n 2, 1) := by decide +kernel
theorem dd_RG_init_52 : decode bb_RG_init 52 = .ok (.aload_n 0, 1) := by decide +kernel
theorem dd_RG_init_53 : decode bb_RG_init 53 = .ok (.getfield 12, 3) := by decide +kernel
theorem dd_RG_init_56 : decode bb_RG_init 56 = .ok (.getfield 31, 3) := by decide +kernel
theorem dd_RG_init_59 : decode bb_RG_init 59 = .ok (.invokespecial 35, 3) := by decide +kernel
theorem dd_RG_init_62 : decode bb_RG_init 62 = .ok (.aastore, 1) := by decide +kernel
theorem dd_RG_init_63 : decode bb_RG_init 63 = .ok (.iinc 2 1, 3) := by decide +kernel
theorem dd_RG_init_66 : decode bb_RG_init 66 = .ok (.goto (-29), 3) := by decide +kernel
theorem dd_RG_init_69 : decode bb_RG_init 69 = .ok (.aload_n 0, 1) := by decide +kernel
theorem dd_RG_init_70 : decode bb_RG_init 70 = .ok (.bipush 12, 2) := by decide +kernel
theorem dd_RG_init_72 : decode bb_RG_init 72 = .ok (.newarray .boolean, 2) := by decide +kernel
theorem dd_RG_init_74 : decode bb_RG_init 74 = .ok (.putfield 38, 3) := by decide +kernel
theorem dd_RG_init_77 : decode bb_RG_init 77 = .ok (.iconst 0, 1) := by decide +kernel
theorem dd_RG_init_78 : decode bb_RG_init 78 = .ok (.istore_n 2, 1) := by decide +kernel
theorem dd_RG_init_79 : decode bb_RG_init 79 = .ok (.iload_n 2, 1) := by decide +kernel
theorem dd_RG_init_80 : decode bb_RG_init 80 = .ok (.bipush 12, 2) := by decide +kernel
theorem dd_RG_init_82 : decode bb_RG_init 82 = .ok (.if_icmp .ge 16, 3) := by decide +kernel
theorem dd_RG_init_85 : decode bb_RG_init 85 = .ok (.aload_n 0, 1) := by decide +kernel
theorem dd_RG_init_86 : decode bb_RG_init 86 = .ok (.getfield 38, 3) := by decide +kernel
theorem dd_RG_init_89 : decode bb_RG_init 89 = .ok (.iload_n 2, 1) := by decide +kernel
theorem dd_RG_init_90 : decode bb_RG_init 90 = .ok (.iconst 1, 1) := by decide +kernel
theorem dd_RG_init_91 : decode bb_RG_init 91 = .ok (.bastore, 1) := by decide +kernel
theorem dd_RG_init_92 : decode bb_RG_init 92 = .ok (.iinc 2 1, 3) := by decide +kernel
theorem dd_RG_init_95 : decode bb_RG_init 95 = .ok (.goto (-16), 3) := by decide +kernel
theorem dd_RG_init_98 : decode bb_RG_init 98 = .ok (.aload_n 0, 1) := by decide +kernel
theorem dd_RG_init_99 : decode bb_RG_init 99 = .ok (.iconst 4, 1) := by decide +kernel
theorem dd_RG_init_100 : decode bb_RG_init 100 = .ok (.newarray .int, 2) := by decide +kernel
theorem dd_RG_init_102 : decode bb_RG_init 102 = .ok (.putfield 42, 3) := by decide +kernel
theorem dd_RG_init_105 : decode bb_RG_init 105 = .ok (.return_, 1) := by decide +kernel
theorem dd_RG_put_0 : decode bb_RG_put 0 = .ok (.iload_n 1, 1) := by decide +kernel
theorem dd_RG_put_1 : decode bb_RG_put 1 = .ok (.invokestatic 46, 3) := by decide +kernel
theorem dd_RG_put_4 : decode bb_RG_put 4 = .ok (.ifCond .eq 13, 3) := by decide +kernel
theorem dd_RG_put_7 : decode bb_RG_put 7 = .ok (.iload_n 2, 1) := by decide +kernel
theorem dd_RG_put_8 : decode bb_RG_put 8 = .ok (.ifCond .lt 9, 3) := by decide +kernel
theorem dd_RG_put_11 : decode bb_RG_put 11 = .ok (.iload_n 2, 1) := by decide +kernel
theorem dd_RG_put_12 : decode bb_RG_put 12 = .ok (.bipush 6, 2) := by decide +kernel
theorem dd_RG_put_14 : decode bb_RG_put 14 = .ok (.if_icmp .lt 5, 3) := by decide +kernel
theorem dd_RG_put_17 : decode bb_RG_put 17 = .ok (.iconst (-1), 1) := by decide +kernel
theorem dd_RG_put_18 : decode bb_RG_put 18 = .ok (.ireturn, 1) := by decide +kernel
theorem dd_RG_put_19 : decode bb_RG_put 19 = .ok (.aload_n 0, 1) := by decide +kernel
theorem dd_RG_put_20 : decode bb_RG_put 20 = .ok (.getfield 27, 3) := by decide +kernel
theorem dd_RG_put_23 : decode bb_RG_put 23 = .ok (.iload_n 1, 1) := by decide +kernel
theorem dd_RG_put_24 : decode bb_RG_put 24 = .ok (.aaload, 1) := by decide +kernel
theorem dd_RG_put_25 : decode bb_RG_put 25 = .ok (.astore 5, 2) := by decide +kernel
theorem dd_RG_put_27 : decode bb_RG_put 27 = .ok (.aload 5, 2) := by decide +kernel
theorem dd_RG_put_29 : decode bb_RG_put 29 = .ok (.iload_n 2, 1) := by decide +kernel
theorem dd_RG_put_30 : decode bb_RG_put 30 = .ok (.invokevirtual 50, 3) := by decide +kernel
theorem dd_RG_put_33 : decode bb_RG_put 33 = .ok (.ifCond .ne 6, 3) := by decide +kernel
theorem dd_RG_put_36 : decode bb_RG_put 36 = .ok (.bipush (-2), 2) := by decide +kernel
theorem dd_RG_put_38 : decode bb_RG_put 38 = .ok (.ireturn, 1) := by decide +kernel
theorem dd_RG_put_39 : decode bb_RG_put 39 = .ok (.aload_n 0, 1) := by decide +kernel
theorem dd_RG_put_40 : decode bb_RG_put 40 = .ok (.aload 5, 2) := by decide +kernel
theorem dd_RG_put_42 : decode bb_RG_put 42 = .ok (.iload_n 2, 1) := by decide +kernel
theorem dd_RG_put_43 : decode bb_RG_put 43 = .ok (.invokevirtual 53, 3) := by decide +kernel
theorem dd_RG_put_46 : decode bb_RG_put 46 = .ok (.ifCond .ne 6, 3) := by decide +kernel
theorem dd_RG_put_49 : decode bb_RG_put 49 = .ok (.bipush (-3), 2) := by decide +kernel
theorem dd_RG_put_51 : decode bb_RG_put 51 = .ok (.ireturn, 1) := by decide +kernel
theorem dd_RG_put_52 : decode bb_RG_put 52 = .ok (.aload_n 0, 1) := by decide +kernel
theorem dd_RG_put_53 : decode bb_RG_put 53 = .ok (.aload 5, 2) := by decide +kernel
theorem dd_RG_put_55 : decode bb_RG_put 55 = .ok (.iload_n 2, 1) := by decide +kernel
theorem dd_RG_put_56 : decode bb_RG_put 56 = .ok (.aload 5, 2) := by decide +kernel
theorem dd_RG_put_58 : decode bb_RG_put 58 = .ok (.iload_n 2, 1) := by decide +kernel
theorem dd_RG_put_59 : decode bb_RG_put 59 = .ok (.invokevirtual 57, 3) := by decide +kernel
theorem dd_RG_put_62 : decode bb_RG_put 62 = .ok (.lload_n 3, 1) := by decide +kernel
theorem dd_RG_put_63 : decode bb_RG_put 63 = .ok (.lxor, 1) := by decide +kernel
theorem dd_RG_put_64 : decode bb_RG_put 64 = .ok (.invokevirtual 61, 3) := by decide +kernel
theorem dd_RG_put_67 : decode bb_RG_put 67 = .ok (.istore 6, 2) := by decide +kernel
theorem dd_RG_put_69 : decode bb_RG_put 69 = .ok (.aload_n 0, 1) := by decide +kernel
theorem dd_RG_put_70 : decode bb_RG_put 70 = .ok (.aload 5, 2) := by decide +kernel
theorem dd_RG_put_72 : decode bb_RG_put 72 = .ok (.iload_n 2, 1) := by decide +kernel
theorem dd_RG_put_73 : decode bb_RG_put 73 = .ok (.lload_n 3, 1) := by decide +kernel
theorem dd_RG_put_74 : decode bb_RG_put 74 = .ok (.invokevirtual 65, 3) := by decide +kernel
theorem dd_RG_put_77 : decode bb_RG_put 77 = .ok (.iload 6, 2) := by decide +kernel
theorem dd_RG_put_79 : decode bb_RG_put 79 = .ok (.ireturn, 1) := by decide +kernel
theorem dd_RG_fetch_0 : decode bb_RG_fetch 0 = .ok (.aload_n 0, 1) := by decide +kernel
theorem dd_RG_fetch_1 : decode bb_RG_fetch 1 = .ok (.iload_n 1, 1) := by decide +kernel
theorem dd_RG_fetch_2 : decode bb_RG_fetch 2 = .ok (.iload_n 2, 1) := by decide +kernel
theorem dd_RG_fetch_3 : decode bb_RG_fetch 3 = .ok (.invokevirtual 69, 3) := by decide +kernel
theorem dd_RG_fetch_6 : decode bb_RG_fetch 6 = .ok (.ifCond .ne 5, 3) := by decide +kernel
theorem dd_RG_fetch_9 : decode bb_RG_fetch 9 = .ok (.iconst (-1), 1) := by decide +kernel
theorem dd_RG_fetch_10 : decode bb_RG_fetch 10 = .ok (.ireturn, 1) := by decide +kernel
theorem dd_RG_fetch_11 : decode bb_RG_fetch 11 = .ok (.aload_n 0, 1) := by decide +kernel
theorem dd_RG_fetch_12 : decode bb_RG_fetch 12 = .ok (.getfield 27, 3) := by decide +kernel
theorem dd_RG_fetch_15 : decode bb_RG_fetch 15 = .ok (.iload_n 1, 1) := by decide +kernel
theorem dd_RG_fetch_16 : decode bb_RG_fetch 16 = .ok (.aaload, 1) := by decide +kernel
theorem dd_RG_fetch_17 : decode bb_RG_fetch 17 = .ok (.astore_n 3, 1) := by decide +kernel
theorem dd_RG_fetch_18 : decode bb_RG_fetch 18 = .ok (.aload_n 3, 1) := by decide +kernel
theorem dd_RG_fetch_19 : decode bb_RG_fetch 19 = .ok (.iload_n 2, 1) := by decide +kernel
theorem dd_RG_fetch_20 : decode bb_RG_fetch 20 = .ok (.invokevirtual 50, 3) := by decide +kernel
theorem dd_RG_fetch_23 : decode bb_RG_fetch 23 = .ok (.ifCond .eq 23, 3) := by decide +kernel
theorem dd_RG_fetch_26 : decode bb_RG_fetch 26 = .ok (.aload_n 0, 1) := by decide +kernel
theorem dd_RG_fetch_27 : decode bb_RG_fetch 27 = .ok (.aload_n 3, 1) := by decide +kernel
theorem dd_RG_fetch_28 : decode bb_RG_fetch 28 = .ok (.iload_n 2, 1) := by decide +kernel
theorem dd_RG_fetch_29 : decode bb_RG_fetch 29 = .ok (.invokevirtual 53, 3) := by decide +kernel
theorem dd_RG_fetch_32 : decode bb_RG_fetch 32 = .ok (.ifCond .eq 14, 3) := by decide +kernel
theorem dd_RG_fetch_35 : decode bb_RG_fetch 35 = .ok (.aload_n 0, 1) := by decide +kernel
theorem dd_RG_fetch_36 : decode bb_RG_fetch 36 = .ok (.aload_n 3, 1) := by decide +kernel
theorem dd_RG_fetch_37 : decode bb_RG_fetch 37 = .ok (.iload_n 2, 1) := by decide +kernel
theorem dd_RG_fetch_38 : decode bb_RG_fetch 38 = .ok (.invokevirtual 57, 3) := by decide +kernel
theorem dd_RG_fetch_41 : decode bb_RG_fetch 41 = .ok (.putfield 73, 3) := by decide +kernel
theorem dd_RG_fetch_44 : decode bb_RG_fetch 44 = .ok (.iconst 0, 1) := by decide +kernel
theorem dd_RG_fetch_45 : decode bb_RG_fetch 45 = .ok (.ireturn, 1) := by decide +kernel
theorem dd_RG_fetch_46 : decode bb_RG_fetch 46 = .ok (.aload_n 0, 1) := by decide +kernel
theorem dd_RG_fetch_47 : decode bb_RG_fetch 47 = .ok (.aload_n 3, 1) := by decide +kernel
theorem dd_RG_fetch_48 : decode bb_RG_fetch 48 = .ok (.iload_n 2, 1) := by decide +kernel
theorem dd_RG_fetch_49 : decode bb_RG_fetch 49 = .ok (.invokevirtual 77, 3) := by decide +kernel
theorem dd_RG_fetch_52 : decode bb_RG_fetch 52 = .ok (.istore 4, 2) := by decide +kernel
theorem dd_RG_fetch_54 : decode bb_RG_fetch 54 = .ok (.iload 4, 2) := by decide +kernel
theorem dd_RG_fetch_56 : decode bb_RG_fetch 56 = .ok (.ifCond .lt 11, 3) := by decide +kernel
theorem dd_RG_fetch_59 : decode bb_RG_fetch 59 = .ok (.aload_n 0, 1) := by decide +kernel
theorem dd_RG_fetch_60 : decode bb_RG_fetch 60 = .ok (.aload_n 0, 1) := by decide +kernel
theorem dd_RG_fetch_61 : decode bb_RG_fetch 61 = .ok (.getfield 81, 3) := by decide +kernel
theorem dd_RG_fetch_64 : decode bb_RG_fetch 64 = .ok (.putfield 73, 3) := by decide +kernel
theorem dd_RG_fetch_67 : decode bb_RG_fetch 67 = .ok (.iload 4, 2) := by decide +kernel
theorem dd_RG_fetch_69 : decode bb_RG_fetch 69 = .ok (.ireturn, 1) := by decide +kernel
theorem dd_RG_fetched_0 : decode bb_RG_fetched 0 = .ok (.aload_n 0, 1) := by decide +kernel
theorem dd_RG_fetched_1 : decode bb_RG_fetched 1 = .ok (.getfield 73, 3) := by decide +kernel
theorem dd_RG_fetched_4 : decode bb_RG_fetched 4 = .ok (.lreturn, 1) := by decide +kernel
theorem dd_RG_fail_0 : decode bb_RG_fail 0 = .ok (.iload_n 1, 1) := by decide +kernel
theorem dd_RG_fail_1 : decode bb_RG_fail 1 = .ok (.invokestatic 84, 3) := by decide +kernel
theorem dd_RG_fail_4 : decode bb_RG_fail 4 = .ok (.ifCond .ne 5, 3) := by decide +kernel
theorem dd_RG_fail_7 : decode bb_RG_fail 7 = .ok (.iconst (-1), 1) := by decide +kernel
theorem dd_RG_fail_8 : decode bb_RG_fail 8 = .ok (.ireturn, 1) := by decide +kernel
theorem dd_RG_fail_9 : decode bb_RG_fail 9 = .ok (.aload_n 0, 1) := by decide +kernel
theorem dd_RG_fail_10 : decode bb_RG_fail 10 = .ok (.getfield 38, 3) := by decide +kernel
theorem dd_RG_fail_13 : decode bb_RG_fail 13 = .ok (.iload_n 1, 1) := by decide +kernel
theorem dd_RG_fail_14 : decode bb_RG_fail 14 = .ok (.baload, 1) := by decide +kernel
theorem dd_RG_fail_15 : decode bb_RG_fail 15 = .ok (.ifCond .ne 6, 3) := by decide +kernel
theorem dd_RG_fail_18 : decode bb_RG_fail 18 = .ok (.bipush (-2), 2) := by decide +kernel
theorem dd_RG_fail_20 : decode bb_RG_fail 20 = .ok (.ireturn, 1) := by decide +kernel
theorem dd_RG_fail_21 : decode bb_RG_fail 21 = .ok (.aload_n 0, 1) := by decide +kernel
theorem dd_RG_fail_22 : decode bb_RG_fail 22 = .ok (.getfield 38, 3) := by decide +kernel
theorem dd_RG_fail_25 : decode bb_RG_fail 25 = .ok (.iload_n 1, 1) := by decide +kernel
theorem dd_RG_fail_26 : decode bb_RG_fail 26 = .ok (.iconst 0, 1) := by decide +kernel
theorem dd_RG_fail_27 : decode bb_RG_fail 27 = .ok (.bastore, 1) := by decide +kernel
theorem dd_RG_fail_28 : decode bb_RG_fail 28 = .ok (.iconst 0, 1) := by decide +kernel
theorem dd_RG_fail_29 : decode bb_RG_fail 29 = .ok (.istore_n 2, 1) := by decide +kernel
theorem dd_RG_fail_30 : decode bb_RG_fail 30 = .ok (.iconst 0, 1) := by decide +kernel
theorem dd_RG_fail_31 : decode bb_RG_fail 31 = .ok (.istore_n 3, 1) := by decide +kernel
theorem dd_RG_fail_32 : decode bb_RG_fail 32 = .ok (.iload_n 3, 1) := by decide +kernel
theorem dd_RG_fail_33 : decode bb_RG_fail 33 = .ok (.iconst 3, 1) := by decide +kernel
theorem dd_RG_fail_34 : decode bb_RG_fail 34 = .ok (.if_icmp .ge 23, 3) := by decide +kernel
theorem dd_RG_fail_37 : decode bb_RG_fail 37 = .ok (.iload_n 2, 1) := by decide +kernel
theorem dd_RG_fail_38 : decode bb_RG_fail 38 = .ok (.aload_n 0, 1) := by decide +kernel
theorem dd_RG_fail_39 : decode bb_RG_fail 39 = .ok (.aload_n 0, 1) := by decide +kernel
theorem dd_RG_fail_40 : decode bb_RG_fail 40 = .ok (.getfield 27, 3) := by decide +kernel
theorem dd_RG_fail_43 : decode bb_RG_fail 43 = .ok (.iload_n 3, 1) := by decide +kernel
theorem dd_RG_fail_44 : decode bb_RG_fail 44 = .ok (.aaload, 1) := by decide +kernel
theorem dd_RG_fail_45 : decode bb_RG_fail 45 = .ok (.iload_n 1, 1) := by decide +kernel
theorem dd_RG_fail_46 : decode bb_RG_fail 46 = .ok (.invokevirtual 87, 3) := by decide +kernel
theorem dd_RG_fail_49 : decode bb_RG_fail 49 = .ok (.iadd, 1) := by decide +kernel
theorem dd_RG_fail_50 : decode bb_RG_fail 50 = .ok (.istore_n 2, 1) := by decide +kernel
theorem dd_RG_fail_51 : decode bb_RG_fail 51 = .ok (.iinc 3 1, 3) := by decide +kernel
theorem dd_RG_fail_54 : decode bb_RG_fail 54 = .ok (.goto (-22), 3) := by decide +kernel
theorem dd_RG_fail_57 : decode bb_RG_fail 57 = .ok (.iload_n 2, 1) := by decide +kernel
theorem dd_RG_fail_58 : decode bb_RG_fail 58 = .ok (.ireturn, 1) := by decide +kernel
theorem dd_RG_revive_0 : decode bb_RG_revive 0 = .ok (.iload_n 1, 1) := by decide +kernel
theorem dd_RG_revive_1 : decode bb_RG_revive 1 = .ok (.invokestatic 84, 3) := by decide +kernel
theorem dd_RG_revive_4 : decode bb_RG_revive 4 = .ok (.ifCond .eq 12, 3) := by decide +kernel
theorem dd_RG_revive_7 : decode bb_RG_revive 7 = .ok (.aload_n 0, 1) := by decide +kernel
theorem dd_RG_revive_8 : decode bb_RG_revive 8 = .ok (.getfield 38, 3) := by decide +kernel
theorem dd_RG_revive_11 : decode bb_RG_revive 11 = .ok (.iload_n 1, 1) := by decide +kernel
theorem dd_RG_revive_12 : decode bb_RG_revive 12 = .ok (.baload, 1) := by decide +kernel
theorem dd_RG_revive_13 : decode bb_RG_revive 13 = .ok (.ifCond .eq 5, 3) := by decide +kernel
theorem dd_RG_revive_16 : decode bb_RG_revive 16 = .ok (.iconst 0, 1) := by decide +kernel
theorem dd_RG_revive_17 : decode bb_RG_revive 17 = .ok (.ireturn, 1) := by decide +kernel
theorem dd_RG_revive_18 : decode bb_RG_revive 18 = .ok (.aload_n 0, 1) := by decide +kernel
theorem dd_RG_revive_19 : decode bb_RG_revive 19 = .ok (.getfield 38, 3) := by decide +kernel
theorem dd_RG_revive_22 : decode bb_RG_revive 22 = .ok (.iload_n 1, 1) := by decide +kernel
theorem dd_RG_revive_23 : decode bb_RG_revive 23 = .ok (.iconst 1, 1) := by decide +kernel
theorem dd_RG_revive_24 : decode bb_RG_revive 24 = .ok (.bastore, 1) := by decide +kernel
theorem dd_RG_revive_25 : decode bb_RG_revive 25 = .ok (.iconst 1, 1) := by decide +kernel
theorem dd_RG_revive_26 : decode bb_RG_revive 26 = .ok (.ireturn, 1) := by decide +kernel
theorem dd_RG_damage_0 : decode bb_RG_damage 0 = .ok (.aload_n 0, 1) := by decide +kernel
theorem dd_RG_damage_1 : decode bb_RG_damage 1 = .ok (.iload_n 1, 1) := by decide +kernel
theorem dd_RG_damage_2 : decode bb_RG_damage 2 = .ok (.iload_n 2, 1) := by decide +kernel
theorem dd_RG_damage_3 : decode bb_RG_damage 3 = .ok (.invokevirtual 69, 3) := by decide +kernel
theorem dd_RG_damage_6 : decode bb_RG_damage 6 = .ok (.ifCond .eq 26, 3) := by decide +kernel
theorem dd_RG_damage_9 : decode bb_RG_damage 9 = .ok (.iload_n 3, 1) := by decide +kernel
theorem dd_RG_damage_10 : decode bb_RG_damage 10 = .ok (.ifCond .lt 22, 3) := by decide +kernel
theorem dd_RG_damage_13 : decode bb_RG_damage 13 = .ok (.iload_n 3, 1) := by decide +kernel
theorem dd_RG_damage_14 : decode bb_RG_damage 14 = .ok (.bipush 64, 2) := by decide +kernel
theorem dd_RG_damage_16 : decode bb_RG_damage 16 = .ok (.if_icmp .ge 16, 3) := by decide +kernel
theorem dd_RG_damage_19 : decode bb_RG_damage 19 = .ok (.aload_n 0, 1) := by decide +kernel
theorem dd_RG_damage_20 : decode bb_RG_damage 20 = .ok (.getfield 27, 3) := by decide +kernel
theorem dd_RG_damage_23 : decode bb_RG_damage 23 = .ok (.iload_n 1, 1) := by decide +kernel
theorem dd_RG_damage_24 : decode bb_RG_damage 24 = .ok (.aaload, 1) := by decide +kernel
theorem dd_RG_damage_25 : decode bb_RG_damage 25 = .ok (.iload_n 2, 1) := by decide +kernel
theorem dd_RG_damage_26 : decode bb_RG_damage 26 = .ok (.invokevirtual 50, 3) := by decide +kernel
theorem dd_RG_damage_29 : decode bb_RG_damage 29 = .ok (.ifCond .ne 5, 3) := by decide +kernel
theorem dd_RG_damage_32 : decode bb_RG_damage 32 = .ok (.iconst 0, 1) := by decide +kernel
theorem dd_RG_damage_33 : decode bb_RG_damage 33 = .ok (.ireturn, 1) := by decide +kernel
theorem dd_RG_damage_34 : decode bb_RG_damage 34 = .ok (.aload_n 0, 1) := by decide +kernel
theorem dd_RG_damage_35 : decode bb_RG_damage 35 = .ok (.getfield 27, 3) := by decide +kernel
theorem dd_RG_damage_38 : decode bb_RG_damage 38 = .ok (.iload_n 1, 1) := by decide +kernel
theorem dd_RG_damage_39 : decode bb_RG_damage 39 = .ok (.aaload, 1) := by decide +kernel
theorem dd_RG_damage_40 : decode bb_RG_damage 40 = .ok (.iload_n 2, 1) := by decide +kernel
theorem dd_RG_damage_41 : decode bb_RG_damage 41 = .ok (.iload_n 3, 1) := by decide +kernel
theorem dd_RG_damage_42 : decode bb_RG_damage 42 = .ok (.invokevirtual 90, 3) := by decide +kernel
theorem dd_RG_damage_45 : decode bb_RG_damage 45 = .ok (.iconst 1, 1) := by decide +kernel
theorem dd_RG_damage_46 : decode bb_RG_damage 46 = .ok (.ireturn, 1) := by decide +kernel
theorem dd_RG_repair_0 : decode bb_RG_repair 0 = .ok (.aload_n 0, 1) := by decide +kernel
theorem dd_RG_repair_1 : decode bb_RG_repair 1 = .ok (.iload_n 1, 1) := by decide +kernel
theorem dd_RG_repair_2 : decode bb_RG_repair 2 = .ok (.iload_n 2, 1) := by decide +kernel
theorem dd_RG_repair_3 : decode bb_RG_repair 3 = .ok (.invokevirtual 69, 3) := by decide +kernel
theorem dd_RG_repair_6 : decode bb_RG_repair 6 = .ok (.ifCond .ne 5, 3) := by decide +kernel
theorem dd_RG_repair_9 : decode bb_RG_repair 9 = .ok (.iconst (-1), 1) := by decide +kernel
theorem dd_RG_repair_10 : decode bb_RG_repair 10 = .ok (.ireturn, 1) := by decide +kernel
theorem dd_RG_repair_11 : decode bb_RG_repair 11 = .ok (.aload_n 0, 1) := by decide +kernel
theorem dd_RG_repair_12 : decode bb_RG_repair 12 = .ok (.getfield 27, 3) := by decide +kernel
theorem dd_RG_repair_15 : decode bb_RG_repair 15 = .ok (.iload_n 1, 1) := by decide +kernel
theorem dd_RG_repair_16 : decode bb_RG_repair 16 = .ok (.aaload, 1) := by decide +kernel
theorem dd_RG_repair_17 : decode bb_RG_repair 17 = .ok (.astore_n 3, 1) := by decide +kernel
theorem dd_RG_repair_18 : decode bb_RG_repair 18 = .ok (.aload_n 3, 1) := by decide +kernel
theorem dd_RG_repair_19 : decode bb_RG_repair 19 = .ok (.iload_n 2, 1) := by decide +kernel
theorem dd_RG_repair_20 : decode bb_RG_repair 20 = .ok (.invokevirtual 50, 3) := by decide +kernel
theorem dd_RG_repair_23 : decode bb_RG_repair 23 = .ok (.ifCond .eq 6, 3) := by decide +kernel
theorem dd_RG_repair_26 : decode bb_RG_repair 26 = .ok (.bipush (-2), 2) := by decide +kernel
theorem dd_RG_repair_28 : decode bb_RG_repair 28 = .ok (.ireturn, 1) := by decide +kernel
theorem dd_RG_repair_29 : decode bb_RG_repair 29 = .ok (.aload_n 0, 1) := by decide +kernel
theorem dd_RG_repair_30 : decode bb_RG_repair 30 = .ok (.getfield 38, 3) := by decide +kernel
theorem dd_RG_repair_33 : decode bb_RG_repair 33 = .ok (.aload_n 3, 1) := by decide +kernel
theorem dd_RG_repair_34 : decode bb_RG_repair 34 = .ok (.iload_n 2, 1) := by decide +kernel
theorem dd_RG_repair_35 : decode bb_RG_repair 35 = .ok (.invokevirtual 93, 3) := by decide +kernel
theorem dd_RG_repair_38 : decode bb_RG_repair 38 = .ok (.baload, 1) := by decide +kernel
theorem dd_RG_repair_39 : decode bb_RG_repair 39 = .ok (.ifCond .ne 6, 3) := by decide +kernel
theorem dd_RG_repair_42 : decode bb_RG_repair 42 = .ok (.bipush (-3), 2) := by decide +kernel
theorem dd_RG_repair_44 : decode bb_RG_repair 44 = .ok (.ireturn, 1) := by decide +kernel
theorem dd_RG_repair_45 : decode bb_RG_repair 45 = .ok (.aload_n 0, 1) := by decide +kernel
theorem dd_RG_repair_46 : decode bb_RG_repair 46 = .ok (.aload_n 3, 1) := by decide +kernel
theorem dd_RG_repair_47 : decode bb_RG_repair 47 = .ok (.iload_n 2, 1) := by decide +kernel
theorem dd_RG_repair_48 : decode bb_RG_repair 48 = .ok (.invokevirtual 97, 3) := by decide +kernel
theorem dd_RG_repair_51 : decode bb_RG_repair 51 = .ok (.ireturn, 1) := by decide +kernel
theorem dd_RG_mend_0 : decode bb_RG_mend 0 = .ok (.iload_n 1, 1) := by decide +kernel
theorem dd_RG_mend_1 : decode bb_RG_mend 1 = .ok (.invokestatic 46, 3) := by decide +kernel
theorem dd_RG_mend_4 : decode bb_RG_mend 4 = .ok (.ifCond .ne 5, 3) := by decide +kernel
theorem dd_RG_mend_7 : decode bb_RG_mend 7 = .ok (.iconst (-1), 1) := by decide +kernel
theorem dd_RG_mend_8 : decode bb_RG_mend 8 = .ok (.ireturn, 1) := by decide +kernel
theorem dd_RG_mend_9 : decode bb_RG_mend 9 = .ok (.aload_n 0, 1) := by decide +kernel
theorem dd_RG_mend_10 : decode bb_RG_mend 10 = .ok (.getfield 27, 3) := by decide +kernel
theorem dd_RG_mend_13 : decode bb_RG_mend 13 = .ok (.iload_n 1, 1) := by decide +kernel
theorem dd_RG_mend_14 : decode bb_RG_mend 14 = .ok (.aaload, 1) := by decide +kernel
theorem dd_RG_mend_15 : decode bb_RG_mend 15 = .ok (.astore_n 2, 1) := by decide +kernel
theorem dd_RG_mend_16 : decode bb_RG_mend 16 = .ok (.iconst 0, 1) := by decide +kernel
theorem dd_RG_mend_17 : decode bb_RG_mend 17 = .ok (.istore_n 3, 1) := by decide +kernel
theorem dd_RG_mend_18 : decode bb_RG_mend 18 = .ok (.iconst 0, 1) := by decide +kernel
theorem dd_RG_mend_19 : decode bb_RG_mend 19 = .ok (.istore 4, 2) := by decide +kernel
theorem dd_RG_mend_21 : decode bb_RG_mend 21 = .ok (.iload 4, 2) := by decide +kernel
theorem dd_RG_mend_23 : decode bb_RG_mend 23 = .ok (.bipush 64, 2) := by decide +kernel
theorem dd_RG_mend_25 : decode bb_RG_mend 25 = .ok (.if_icmp .ge 38, 3) := by decide +kernel
theorem dd_RG_mend_28 : decode bb_RG_mend 28 = .ok (.aload_n 0, 1) := by decide +kernel
theorem dd_RG_mend_29 : decode bb_RG_mend 29 = .ok (.aload_n 2, 1) := by decide +kernel
theorem dd_RG_mend_30 : decode bb_RG_mend 30 = .ok (.invokevirtual 100, 3) := by decide +kernel
theorem dd_RG_mend_33 : decode bb_RG_mend 33 = .ok (.istore 5, 2) := by decide +kernel
theorem dd_RG_mend_35 : decode bb_RG_mend 35 = .ok (.iload 5, 2) := by decide +kernel
theorem dd_RG_mend_37 : decode bb_RG_mend 37 = .ok (.iconst (-1), 1) := by decide +kernel
theorem dd_RG_mend_38 : decode bb_RG_mend 38 = .ok (.if_icmp .ne 6, 3) := by decide +kernel
theorem dd_RG_mend_41 : decode bb_RG_mend 41 = .ok (.goto 22, 3) := by decide +kernel
theorem dd_RG_mend_44 : decode bb_RG_mend 44 = .ok (.aload_n 0, 1) := by decide +kernel
theorem dd_RG_mend_45 : decode bb_RG_mend 45 = .ok (.aload_n 2, 1) := by decide +kernel
theorem dd_RG_mend_46 : decode bb_RG_mend 46 = .ok (.iload 5, 2) := by decide +kernel
theorem dd_RG_mend_48 : decode bb_RG_mend 48 = .ok (.invokevirtual 97, 3) := by decide +kernel
theorem dd_RG_mend_51 : decode bb_RG_mend 51 = .ok (.ifCond .lt 6, 3) := by decide +kernel
theorem dd_RG_mend_54 : decode bb_RG_mend 54 = .ok (.iinc 3 1, 3) := by decide +kernel
theorem dd_RG_mend_57 : decode bb_RG_mend 57 = .ok (.iinc 4 1, 3) := by decide +kernel
theorem dd_RG_mend_60 : decode bb_RG_mend 60 = .ok (.goto (-39), 3) := by decide +kernel
theorem dd_RG_mend_63 : decode bb_RG_mend 63 = .ok (.iload_n 3, 1) := by decide +kernel
theorem dd_RG_mend_64 : decode bb_RG_mend 64 = .ok (.ireturn, 1) := by decide +kernel
theorem dd_RG_scrub_0 : decode bb_RG_scrub 0 = .ok (.iload_n 1, 1) := by decide +kernel
theorem dd_RG_scrub_1 : decode bb_RG_scrub 1 = .ok (.invokestatic 46, 3) := by decide +kernel
theorem dd_RG_scrub_4 : decode bb_RG_scrub 4 = .ok (.ifCond .ne 5, 3) := by decide +kernel
theorem dd_RG_scrub_7 : decode bb_RG_scrub 7 = .ok (.iconst (-1), 1) := by decide +kernel
theorem dd_RG_scrub_8 : decode bb_RG_scrub 8 = .ok (.ireturn, 1) := by decide +kernel
theorem dd_RG_scrub_9 : decode bb_RG_scrub 9 = .ok (.aload_n 0, 1) := by decide +kernel
theorem dd_RG_scrub_10 : decode bb_RG_scrub 10 = .ok (.getfield 27, 3) := by decide +kernel
theorem dd_RG_scrub_13 : decode bb_RG_scrub 13 = .ok (.iload_n 1, 1) := by decide +kernel
theorem dd_RG_scrub_14 : decode bb_RG_scrub 14 = .ok (.aaload, 1) := by decide +kernel
theorem dd_RG_scrub_15 : decode bb_RG_scrub 15 = .ok (.astore_n 2, 1) := by decide +kernel
theorem dd_RG_scrub_16 : decode bb_RG_scrub 16 = .ok (.iconst 0, 1) := by decide +kernel
theorem dd_RG_scrub_17 : decode bb_RG_scrub 17 = .ok (.istore_n 3, 1) := by decide +kernel
theorem dd_RG_scrub_18 : decode bb_RG_scrub 18 = .ok (.iconst 0, 1) := by decide +kernel
theorem dd_RG_scrub_19 : decode bb_RG_scrub 19 = .ok (.istore 4, 2) := by decide +kernel
theorem dd_RG_scrub_21 : decode bb_RG_scrub 21 = .ok (.iload 4, 2) := by decide +kernel
theorem dd_RG_scrub_23 : decode bb_RG_scrub 23 = .ok (.aload_n 0, 1) := by decide +kernel
theorem dd_RG_scrub_24 : decode bb_RG_scrub 24 = .ok (.getfield 12, 3) := by decide +kernel
theorem dd_RG_scrub_27 : decode bb_RG_scrub 27 = .ok (.getfield 31, 3) := by decide +kernel
theorem dd_RG_scrub_30 : decode bb_RG_scrub 30 = .ok (.if_icmp .ge 31, 3) := by decide +kernel
theorem dd_RG_scrub_33 : decode bb_RG_scrub 33 = .ok (.aload_n 2, 1) := by decide +kernel
theorem dd_RG_scrub_34 : decode bb_RG_scrub 34 = .ok (.iload 4, 2) := by decide +kernel
theorem dd_RG_scrub_36 : decode bb_RG_scrub 36 = .ok (.invokevirtual 50, 3) := by decide +kernel
theorem dd_RG_scrub_39 : decode bb_RG_scrub 39 = .ok (.ifCond .eq 16, 3) := by decide +kernel
theorem dd_RG_scrub_42 : decode bb_RG_scrub 42 = .ok (.aload_n 0, 1) := by decide +kernel
theorem dd_RG_scrub_43 : decode bb_RG_scrub 43 = .ok (.aload_n 2, 1) := by decide +kernel
theorem dd_RG_scrub_44 : decode bb_RG_scrub 44 = .ok (.iload 4, 2) := by decide +kernel
theorem dd_RG_scrub_46 : decode bb_RG_scrub 46 = .ok (.invokevirtual 53, 3) := by decide +kernel
theorem dd_RG_scrub_49 : decode bb_RG_scrub 49 = .ok (.ifCond .ne 6, 3) := by decide +kernel
theorem dd_RG_scrub_52 : decode bb_RG_scrub 52 = .ok (.iinc 3 1, 3) := by decide +kernel
theorem dd_RG_scrub_55 : decode bb_RG_scrub 55 = .ok (.iinc 4 1, 3) := by decide +kernel
theorem dd_RG_scrub_58 : decode bb_RG_scrub 58 = .ok (.goto (-37), 3) := by decide +kernel
theorem dd_RG_scrub_61 : decode bb_RG_scrub 61 = .ok (.iload_n 3, 1) := by decide +kernel
theorem dd_RG_scrub_62 : decode bb_RG_scrub 62 = .ok (.ireturn, 1) := by decide +kernel
theorem dd_RG_cost_0 : decode bb_RG_cost 0 = .ok (.aload_n 0, 1) := by decide +kernel
theorem dd_RG_cost_1 : decode bb_RG_cost 1 = .ok (.iload_n 1, 1) := by decide +kernel
theorem dd_RG_cost_2 : decode bb_RG_cost 2 = .ok (.iload_n 2, 1) := by decide +kernel
theorem dd_RG_cost_3 : decode bb_RG_cost 3 = .ok (.invokevirtual 69, 3) := by decide +kernel
theorem dd_RG_cost_6 : decode bb_RG_cost 6 = .ok (.ifCond .ne 5, 3) := by decide +kernel
theorem dd_RG_cost_9 : decode bb_RG_cost 9 = .ok (.iconst (-1), 1) := by decide +kernel
theorem dd_RG_cost_10 : decode bb_RG_cost 10 = .ok (.ireturn, 1) := by decide +kernel
theorem dd_RG_cost_11 : decode bb_RG_cost 11 = .ok (.aload_n 0, 1) := by decide +kernel
theorem dd_RG_cost_12 : decode bb_RG_cost 12 = .ok (.getfield 27, 3) := by decide +kernel
theorem dd_RG_cost_15 : decode bb_RG_cost 15 = .ok (.iload_n 1, 1) := by decide +kernel
theorem dd_RG_cost_16 : decode bb_RG_cost 16 = .ok (.aaload, 1) := by decide +kernel
theorem dd_RG_cost_17 : decode bb_RG_cost 17 = .ok (.iload_n 2, 1) := by decide +kernel
theorem dd_RG_cost_18 : decode bb_RG_cost 18 = .ok (.invokevirtual 50, 3) := by decide +kernel
theorem dd_RG_cost_21 : decode bb_RG_cost 21 = .ok (.ifCond .eq 5, 3) := by decide +kernel
theorem dd_RG_cost_24 : decode bb_RG_cost 24 = .ok (.iconst 0, 1) := by decide +kernel
theorem dd_RG_cost_25 : decode bb_RG_cost 25 = .ok (.ireturn, 1) := by decide +kernel
theorem dd_RG_cost_26 : decode bb_RG_cost 26 = .ok (.aload_n 0, 1) := by decide +kernel
theorem dd_RG_cost_27 : decode bb_RG_cost 27 = .ok (.aload_n 0, 1) := by decide +kernel
theorem dd_RG_cost_28 : decode bb_RG_cost 28 = .ok (.getfield 27, 3) := by decide +kernel
theorem dd_RG_cost_31 : decode bb_RG_cost 31 = .ok (.iload_n 1, 1) := by decide +kernel
theorem dd_RG_cost_32 : decode bb_RG_cost 32 = .ok (.aaload, 1) := by decide +kernel
theorem dd_RG_cost_33 : decode bb_RG_cost 33 = .ok (.iload_n 2, 1) := by decide +kernel
theorem dd_RG_cost_34 : decode bb_RG_cost 34 = .ok (.invokevirtual 104, 3) := by decide +kernel
theorem dd_RG_cost_37 : decode bb_RG_cost 37 = .ok (.istore_n 3, 1) := by decide +kernel
theorem dd_RG_cost_38 : decode bb_RG_cost 38 = .ok (.iload_n 3, 1) := by decide +kernel
theorem dd_RG_cost_39 : decode bb_RG_cost 39 = .ok (.ifCond .ne 8, 3) := by decide +kernel
theorem dd_RG_cost_42 : decode bb_RG_cost 42 = .ok (.bipush (-4), 2) := by decide +kernel
theorem dd_RG_cost_44 : decode bb_RG_cost 44 = .ok (.goto 7, 3) := by decide +kernel
theorem dd_RG_cost_47 : decode bb_RG_cost 47 = .ok (.iload_n 3, 1) := by decide +kernel
theorem dd_RG_cost_48 : decode bb_RG_cost 48 = .ok (.invokestatic 107, 3) := by decide +kernel
theorem dd_RG_cost_51 : decode bb_RG_cost 51 = .ok (.ireturn, 1) := by decide +kernel
theorem dd_RG_rank_0 : decode bb_RG_rank 0 = .ok (.iload_n 1, 1) := by decide +kernel
theorem dd_RG_rank_1 : decode bb_RG_rank 1 = .ok (.invokestatic 46, 3) := by decide +kernel
theorem dd_RG_rank_4 : decode bb_RG_rank 4 = .ok (.ifCond .ne 5, 3) := by decide +kernel
theorem dd_RG_rank_7 : decode bb_RG_rank 7 = .ok (.iconst (-1), 1) := by decide +kernel
theorem dd_RG_rank_8 : decode bb_RG_rank 8 = .ok (.ireturn, 1) := by decide +kernel
theorem dd_RG_rank_9 : decode bb_RG_rank 9 = .ok (.aload_n 0, 1) := by decide +kernel
theorem dd_RG_rank_10 : decode bb_RG_rank 10 = .ok (.aload_n 0, 1) := by decide +kernel
theorem dd_RG_rank_11 : decode bb_RG_rank 11 = .ok (.getfield 27, 3) := by decide +kernel
theorem dd_RG_rank_14 : decode bb_RG_rank 14 = .ok (.iload_n 1, 1) := by decide +kernel
theorem dd_RG_rank_15 : decode bb_RG_rank 15 = .ok (.aaload, 1) := by decide +kernel
theorem dd_RG_rank_16 : decode bb_RG_rank 16 = .ok (.invokevirtual 112, 3) := by decide +kernel
theorem dd_RG_rank_19 : decode bb_RG_rank 19 = .ok (.invokestatic 107, 3) := by decide +kernel
theorem dd_RG_rank_22 : decode bb_RG_rank 22 = .ok (.ireturn, 1) := by decide +kernel
theorem dd_RG_lost_0 : decode bb_RG_lost 0 = .ok (.iload_n 1, 1) := by decide +kernel
theorem dd_RG_lost_1 : decode bb_RG_lost 1 = .ok (.invokestatic 46, 3) := by decide +kernel
theorem dd_RG_lost_4 : decode bb_RG_lost 4 = .ok (.ifCond .eq 15, 3) := by decide +kernel
theorem dd_RG_lost_7 : decode bb_RG_lost 7 = .ok (.aload_n 0, 1) := by decide +kernel
theorem dd_RG_lost_8 : decode bb_RG_lost 8 = .ok (.getfield 27, 3) := by decide +kernel
theorem dd_RG_lost_11 : decode bb_RG_lost 11 = .ok (.iload_n 1, 1) := by decide +kernel
theorem dd_RG_lost_12 : decode bb_RG_lost 12 = .ok (.aaload, 1) := by decide +kernel
theorem dd_RG_lost_13 : decode bb_RG_lost 13 = .ok (.invokevirtual 115, 3) := by decide +kernel
theorem dd_RG_lost_16 : decode bb_RG_lost 16 = .ok (.goto 4, 3) := by decide +kernel
theorem dd_RG_lost_19 : decode bb_RG_lost 19 = .ok (.iconst (-1), 1) := by decide +kernel
theorem dd_RG_lost_20 : decode bb_RG_lost 20 = .ok (.ireturn, 1) := by decide +kernel
theorem dd_RG_content_0 : decode bb_RG_content 0 = .ok (.aload_n 0, 1) := by decide +kernel
theorem dd_RG_content_1 : decode bb_RG_content 1 = .ok (.iload_n 1, 1) := by decide +kernel
theorem dd_RG_content_2 : decode bb_RG_content 2 = .ok (.iload_n 2, 1) := by decide +kernel
theorem dd_RG_content_3 : decode bb_RG_content 3 = .ok (.invokevirtual 69, 3) := by decide +kernel
theorem dd_RG_content_6 : decode bb_RG_content 6 = .ok (.ifCond .eq 29, 3) := by decide +kernel
theorem dd_RG_content_9 : decode bb_RG_content 9 = .ok (.aload_n 0, 1) := by decide +kernel
theorem dd_RG_content_10 : decode bb_RG_content 10 = .ok (.getfield 27, 3) := by decide +kernel
theorem dd_RG_content_13 : decode bb_RG_content 13 = .ok (.iload_n 1, 1) := by decide +kernel
theorem dd_RG_content_14 : decode bb_RG_content 14 = .ok (.aaload, 1) := by decide +kernel
theorem dd_RG_content_15 : decode bb_RG_content 15 = .ok (.iload_n 2, 1) := by decide +kernel
theorem dd_RG_content_16 : decode bb_RG_content 16 = .ok (.invokevirtual 50, 3) := by decide +kernel
theorem dd_RG_content_19 : decode bb_RG_content 19 = .ok (.ifCond .eq 16, 3) := by decide +kernel
theorem dd_RG_content_22 : decode bb_RG_content 22 = .ok (.aload_n 0, 1) := by decide +kernel
theorem dd_RG_content_23 : decode bb_RG_content 23 = .ok (.getfield 27, 3) := by decide +kernel
theorem dd_RG_content_26 : decode bb_RG_content 26 = .ok (.iload_n 1, 1) := by decide +kernel
theorem dd_RG_content_27 : decode bb_RG_content 27 = .ok (.aaload, 1) := by decide +kernel
theorem dd_RG_content_28 : decode bb_RG_content 28 = .ok (.iload_n 2, 1) := by decide +kernel
theorem dd_RG_content_29 : decode bb_RG_content 29 = .ok (.invokevirtual 57, 3) := by decide +kernel
theorem dd_RG_content_32 : decode bb_RG_content 32 = .ok (.goto 4, 3) := by decide +kernel
theorem dd_RG_content_35 : decode bb_RG_content 35 = .ok (.lconst 0, 1) := by decide +kernel
theorem dd_RG_content_36 : decode bb_RG_content 36 = .ok (.lreturn, 1) := by decide +kernel
theorem dd_RG_node_0 : decode bb_RG_node 0 = .ok (.aload_n 0, 1) := by decide +kernel
theorem dd_RG_node_1 : decode bb_RG_node 1 = .ok (.iload_n 1, 1) := by decide +kernel
theorem dd_RG_node_2 : decode bb_RG_node 2 = .ok (.iload_n 2, 1) := by decide +kernel
theorem dd_RG_node_3 : decode bb_RG_node 3 = .ok (.invokevirtual 69, 3) := by decide +kernel
theorem dd_RG_node_6 : decode bb_RG_node 6 = .ok (.ifCond .eq 16, 3) := by decide +kernel
theorem dd_RG_node_9 : decode bb_RG_node 9 = .ok (.aload_n 0, 1) := by decide +kernel
theorem dd_RG_node_10 : decode bb_RG_node 10 = .ok (.getfield 27, 3) := by decide +kernel
theorem dd_RG_node_13 : decode bb_RG_node 13 = .ok (.iload_n 1, 1) := by decide +kernel
theorem dd_RG_node_14 : decode bb_RG_node 14 = .ok (.aaload, 1) := by decide +kernel
theorem dd_RG_node_15 : decode bb_RG_node 15 = .ok (.iload_n 2, 1) := by decide +kernel
theorem dd_RG_node_16 : decode bb_RG_node 16 = .ok (.invokevirtual 93, 3) := by decide +kernel
theorem dd_RG_node_19 : decode bb_RG_node 19 = .ok (.goto 4, 3) := by decide +kernel
theorem dd_RG_node_22 : decode bb_RG_node 22 = .ok (.iconst (-1), 1) := by decide +kernel
theorem dd_RG_node_23 : decode bb_RG_node 23 = .ok (.ireturn, 1) := by decide +kernel
theorem dd_RG_up_0 : decode bb_RG_up 0 = .ok (.iload_n 1, 1) := by decide +kernel
theorem dd_RG_up_1 : decode bb_RG_up 1 = .ok (.invokestatic 84, 3) := by decide +kernel
theorem dd_RG_up_4 : decode bb_RG_up 4 = .ok (.ifCond .eq 16, 3) := by decide +kernel
theorem dd_RG_up_7 : decode bb_RG_up 7 = .ok (.aload_n 0, 1) := by decide +kernel
theorem dd_RG_up_8 : decode bb_RG_up 8 = .ok (.getfield 38, 3) := by decide +kernel
theorem dd_RG_up_11 : decode bb_RG_up 11 = .ok (.iload_n 1, 1) := by decide +kernel
theorem dd_RG_up_12 : decode bb_RG_up 12 = .ok (.baload, 1) := by decide +kernel
theorem dd_RG_up_13 : decode bb_RG_up 13 = .ok (.ifCond .eq 7, 3) := by decide +kernel
theorem dd_RG_up_16 : decode bb_RG_up 16 = .ok (.iconst 1, 1) := by decide +kernel
theorem dd_RG_up_17 : decode bb_RG_up 17 = .ok (.goto 4, 3) := by decide +kernel
theorem dd_RG_up_20 : decode bb_RG_up 20 = .ok (.iconst 0, 1) := by decide +kernel
theorem dd_RG_up_21 : decode bb_RG_up 21 = .ok (.ireturn, 1) := by decide +kernel
theorem dd_RG_count_0 : decode bb_RG_count 0 = .ok (.iload_n 1, 1) := by decide +kernel
theorem dd_RG_count_1 : decode bb_RG_count 1 = .ok (.ifCond .lt 17, 3) := by decide +kernel
theorem dd_RG_count_4 : decode bb_RG_count 4 = .ok (.iload_n 1, 1) := by decide +kernel
theorem dd_RG_count_5 : decode bb_RG_count 5 = .ok (.iconst 4, 1) := by decide +kernel
theorem dd_RG_count_6 : decode bb_RG_count 6 = .ok (.if_icmp .ge 12, 3) := by decide +kernel
theorem dd_RG_count_9 : decode bb_RG_count 9 = .ok (.aload_n 0, 1) := by decide +kernel
theorem dd_RG_count_10 : decode bb_RG_count 10 = .ok (.getfield 42, 3) := by decide +kernel
theorem dd_RG_count_13 : decode bb_RG_count 13 = .ok (.iload_n 1, 1) := by decide +kernel
theorem dd_RG_count_14 : decode bb_RG_count 14 = .ok (.iaload, 1) := by decide +kernel
theorem dd_RG_count_15 : decode bb_RG_count 15 = .ok (.goto 4, 3) := by decide +kernel
theorem dd_RG_count_18 : decode bb_RG_count 18 = .ok (.iconst (-1), 1) := by decide +kernel
theorem dd_RG_count_19 : decode bb_RG_count 19 = .ok (.ireturn, 1) := by decide +kernel
theorem dd_RG_size_0 : decode bb_RG_size 0 = .ok (.aload_n 0, 1) := by decide +kernel
theorem dd_RG_size_1 : decode bb_RG_size 1 = .ok (.getfield 12, 3) := by decide +kernel
theorem dd_RG_size_4 : decode bb_RG_size 4 = .ok (.getfield 31, 3) := by decide +kernel
theorem dd_RG_size_7 : decode bb_RG_size 7 = .ok (.ireturn, 1) := by decide +kernel
theorem dd_RG_isStripe_0 : decode bb_RG_isStripe 0 = .ok (.iload_n 0, 1) := by decide +kernel
theorem dd_RG_isStripe_1 : decode bb_RG_isStripe 1 = .ok (.ifCond .lt 12, 3) := by decide +kernel
theorem dd_RG_isStripe_4 : decode bb_RG_isStripe 4 = .ok (.iload_n 0, 1) := by decide +kernel
theorem dd_RG_isStripe_5 : decode bb_RG_isStripe 5 = .ok (.iconst 3, 1) := by decide +kernel
theorem dd_RG_isStripe_6 : decode bb_RG_isStripe 6 = .ok (.if_icmp .ge 7, 3) := by decide +kernel
theorem dd_RG_isStripe_9 : decode bb_RG_isStripe 9 = .ok (.iconst 1, 1) := by decide +kernel
theorem dd_RG_isStripe_10 : decode bb_RG_isStripe 10 = .ok (.goto 4, 3) := by decide +kernel
theorem dd_RG_isStripe_13 : decode bb_RG_isStripe 13 = .ok (.iconst 0, 1) := by decide +kernel
theorem dd_RG_isStripe_14 : decode bb_RG_isStripe 14 = .ok (.ireturn, 1) := by decide +kernel
theorem dd_RG_isShard_0 : decode bb_RG_isShard 0 = .ok (.iload_n 1, 1) := by decide +kernel
theorem dd_RG_isShard_1 : decode bb_RG_isShard 1 = .ok (.invokestatic 46, 3) := by decide +kernel
theorem dd_RG_isShard_4 : decode bb_RG_isShard 4 = .ok (.ifCond .eq 22, 3) := by decide +kernel
theorem dd_RG_isShard_7 : decode bb_RG_isShard 7 = .ok (.iload_n 2, 1) := by decide +kernel
theorem dd_RG_isShard_8 : decode bb_RG_isShard 8 = .ok (.ifCond .lt 18, 3) := by decide +kernel
theorem dd_RG_isShard_11 : decode bb_RG_isShard 11 = .ok (.iload_n 2, 1) := by decide +kernel
theorem dd_RG_isShard_12 : decode bb_RG_isShard 12 = .ok (.aload_n 0, 1) := by decide +kernel
theorem dd_RG_isShard_13 : decode bb_RG_isShard 13 = .ok (.getfield 12, 3) := by decide +kernel
theorem dd_RG_isShard_16 : decode bb_RG_isShard 16 = .ok (.getfield 31, 3) := by decide +kernel
theorem dd_RG_isShard_19 : decode bb_RG_isShard 19 = .ok (.if_icmp .ge 7, 3) := by decide +kernel
theorem dd_RG_isShard_22 : decode bb_RG_isShard 22 = .ok (.iconst 1, 1) := by decide +kernel
theorem dd_RG_isShard_23 : decode bb_RG_isShard 23 = .ok (.goto 4, 3) := by decide +kernel
theorem dd_RG_isShard_26 : decode bb_RG_isShard 26 = .ok (.iconst 0, 1) := by decide +kernel
theorem dd_RG_isShard_27 : decode bb_RG_isShard 27 = .ok (.ireturn, 1) := by decide +kernel
theorem dd_RG_isNode_0 : decode bb_RG_isNode 0 = .ok (.iload_n 0, 1) := by decide +kernel
theorem dd_RG_isNode_1 : decode bb_RG_isNode 1 = .ok (.ifCond .lt 13, 3) := by decide +kernel
theorem dd_RG_isNode_4 : decode bb_RG_isNode 4 = .ok (.iload_n 0, 1) := by decide +kernel
theorem dd_RG_isNode_5 : decode bb_RG_isNode 5 = .ok (.bipush 12, 2) := by decide +kernel
theorem dd_RG_isNode_7 : decode bb_RG_isNode 7 = .ok (.if_icmp .ge 7, 3) := by decide +kernel
theorem dd_RG_isNode_10 : decode bb_RG_isNode 10 = .ok (.iconst 1, 1) := by decide +kernel
theorem dd_RG_isNode_11 : decode bb_RG_isNode 11 = .ok (.goto 4, 3) := by decide +kernel
theorem dd_RG_isNode_14 : decode bb_RG_isNode 14 = .ok (.iconst 0, 1) := by decide +kernel
theorem dd_RG_isNode_15 : decode bb_RG_isNode 15 = .ok (.ireturn, 1) := by decide +kernel
theorem dd_RG_readShard_0 : decode bb_RG_readShard 0 = .ok (.aload_n 0, 1) := by decide +kernel
theorem dd_RG_readShard_1 : decode bb_RG_readShard 1 = .ok (.getfield 42, 3) := by decide +kernel
theorem dd_RG_readShard_4 : decode bb_RG_readShard 4 = .ok (.iconst 0, 1) := by decide +kernel
theorem dd_RG_readShard_5 : decode bb_RG_readShard 5 = .ok (.dup2, 1) := by decide +kernel
theorem dd_RG_readShard_6 : decode bb_RG_readShard 6 = .ok (.iaload, 1) := by decide +kernel
theorem dd_RG_readShard_7 : decode bb_RG_readShard 7 = .ok (.iconst 1, 1) := by decide +kernel
theorem dd_RG_readShard_8 : decode bb_RG_readShard 8 = .ok (.iadd, 1) := by decide +kernel
theorem dd_RG_readShard_9 : decode bb_RG_readShard 9 = .ok (.iastore, 1) := by decide +kernel
theorem dd_RG_readShard_10 : decode bb_RG_readShard 10 = .ok (.aload_n 1, 1) := by decide +kernel
theorem dd_RG_readShard_11 : decode bb_RG_readShard 11 = .ok (.iload_n 2, 1) := by decide +kernel
theorem dd_RG_readShard_12 : decode bb_RG_readShard 12 = .ok (.invokevirtual 119, 3) := by decide +kernel
theorem dd_RG_readShard_15 : decode bb_RG_readShard 15 = .ok (.ifCond .eq 10, 3) := by decide +kernel
theorem dd_RG_readShard_18 : decode bb_RG_readShard 18 = .ok (.aload_n 1, 1) := by decide +kernel
theorem dd_RG_readShard_19 : decode bb_RG_readShard 19 = .ok (.iload_n 2, 1) := by decide +kernel
theorem dd_RG_readShard_20 : decode bb_RG_readShard 20 = .ok (.invokevirtual 122, 3) := by decide +kernel
theorem dd_RG_readShard_23 : decode bb_RG_readShard 23 = .ok (.iconst 0, 1) := by decide +kernel
theorem dd_RG_readShard_24 : decode bb_RG_readShard 24 = .ok (.ireturn, 1) := by decide +kernel
theorem dd_RG_readShard_25 : decode bb_RG_readShard 25 = .ok (.iconst 1, 1) := by decide +kernel
theorem dd_RG_readShard_26 : decode bb_RG_readShard 26 = .ok (.ireturn, 1) := by decide +kernel
theorem dd_RG_readShardFor_0 : decode bb_RG_readShardFor 0 = .ok (.aload_n 1, 1) := by decide +kernel
theorem dd_RG_readShardFor_1 : decode bb_RG_readShardFor 1 = .ok (.iload_n 2, 1) := by decide +kernel
theorem dd_RG_readShardFor_2 : decode bb_RG_readShardFor 2 = .ok (.invokevirtual 93, 3) := by decide +kernel
theorem dd_RG_readShardFor_5 : decode bb_RG_readShardFor 5 = .ok (.iconst 3, 1) := by decide +kernel
theorem dd_RG_readShardFor_6 : decode bb_RG_readShardFor 6 = .ok (.idiv, 1) := by decide +kernel
theorem dd_RG_readShardFor_7 : decode bb_RG_readShardFor 7 = .ok (.istore 4, 2) := by decide +kernel
theorem dd_RG_readShardFor_9 : decode bb_RG_readShardFor 9 = .ok (.iload 4, 2) := by decide +kernel
theorem dd_RG_readShardFor_11 : decode bb_RG_readShardFor 11 = .ok (.aload_n 1, 1) := by decide +kernel
theorem dd_RG_readShardFor_12 : decode bb_RG_readShardFor 12 = .ok (.iload_n 3, 1) := by decide +kernel
theorem dd_RG_readShardFor_13 : decode bb_RG_readShardFor 13 = .ok (.invokevirtual 93, 3) := by decide +kernel
theorem dd_RG_readShardFor_16 : decode bb_RG_readShardFor 16 = .ok (.iconst 3, 1) := by decide +kernel
theorem dd_RG_readShardFor_17 : decode bb_RG_readShardFor 17 = .ok (.idiv, 1) := by decide +kernel
theorem dd_RG_readShardFor_18 : decode bb_RG_readShardFor 18 = .ok (.if_icmp .eq 13, 3) := by decide +kernel
theorem dd_RG_readShardFor_21 : decode bb_RG_readShardFor 21 = .ok (.aload_n 0, 1) := by decide +kernel
theorem dd_RG_readShardFor_22 : decode bb_RG_readShardFor 22 = .ok (.getfield 42, 3) := by decide +kernel
theorem dd_RG_readShardFor_25 : decode bb_RG_readShardFor 25 = .ok (.iconst 2, 1) := by decide +kernel
theorem dd_RG_readShardFor_26 : decode bb_RG_readShardFor 26 = .ok (.dup2, 1) := by decide +kernel
theorem dd_RG_readShardFor_27 : decode bb_RG_readShardFor 27 = .ok (.iaload, 1) := by decide +kernel
theorem dd_RG_readShardFor_28 : decode bb_RG_readShardFor 28 = .ok (.iconst 1, 1) := by decide +kernel
theorem dd_RG_readShardFor_29 : decode bb_RG_readShardFor 29 = .ok (.iadd, 1) := by decide +kernel
theorem dd_RG_readShardFor_30 : decode bb_RG_readShardFor 30 = .ok (.iastore, 1) := by decide +kernel
theorem dd_RG_readShardFor_31 : decode bb_RG_readShardFor 31 = .ok (.aload_n 0, 1) := by decide +kernel
theorem dd_RG_readShardFor_32 : decode bb_RG_readShardFor 32 = .ok (.aload_n 1, 1) := by decide +kernel
theorem dd_RG_readShardFor_33 : decode bb_RG_readShardFor 33 = .ok (.iload_n 2, 1) := by decide +kernel
theorem dd_RG_readShardFor_34 : decode bb_RG_readShardFor 34 = .ok (.invokevirtual 53, 3) := by decide +kernel
theorem dd_RG_readShardFor_37 : decode bb_RG_readShardFor 37 = .ok (.ireturn, 1) := by decide +kernel
theorem dd_RG_writeShard_0 : decode bb_RG_writeShard 0 = .ok (.aload_n 0, 1) := by decide +kernel
theorem dd_RG_writeShard_1 : decode bb_RG_writeShard 1 = .ok (.getfield 42, 3) := by decide +kernel
theorem dd_RG_writeShard_4 : decode bb_RG_writeShard 4 = .ok (.iconst 1, 1) := by decide +kernel
theorem dd_RG_writeShard_5 : decode bb_RG_writeShard 5 = .ok (.dup2, 1) := by decide +kernel
theorem dd_RG_writeShard_6 : decode bb_RG_writeShard 6 = .ok (.iaload, 1) := by decide +kernel
theorem dd_RG_writeShard_7 : decode bb_RG_writeShard 7 = .ok (.iconst 1, 1) := by decide +kernel
theorem dd_RG_writeShard_8 : decode bb_RG_writeShard 8 = .ok (.iadd, 1) := by decide +kernel
theorem dd_RG_writeShard_9 : decode bb_RG_writeShard 9 = .ok (.iastore, 1) := by decide +kernel
theorem dd_RG_writeShard_10 : decode bb_RG_writeShard 10 = .ok (.aload_n 1, 1) := by decide +kernel
theorem dd_RG_writeShard_11 : decode bb_RG_writeShard 11 = .ok (.iload_n 2, 1) := by decide +kernel
theorem dd_RG_writeShard_12 : decode bb_RG_writeShard 12 = .ok (.lload_n 3, 1) := by decide +kernel
theorem dd_RG_writeShard_13 : decode bb_RG_writeShard 13 = .ok (.invokevirtual 125, 3) := by decide +kernel
theorem dd_RG_writeShard_16 : decode bb_RG_writeShard 16 = .ok (.return_, 1) := by decide +kernel
theorem dd_RG_updateCoded_0 : decode bb_RG_updateCoded 0 = .ok (.iconst 0, 1) := by decide +kernel
theorem dd_RG_updateCoded_1 : decode bb_RG_updateCoded 1 = .ok (.istore 5, 2) := by decide +kernel
theorem dd_RG_updateCoded_3 : decode bb_RG_updateCoded 3 = .ok (.bipush 6, 2) := by decide +kernel
theorem dd_RG_updateCoded_5 : decode bb_RG_updateCoded 5 = .ok (.istore 6, 2) := by decide +kernel
theorem dd_RG_updateCoded_7 : decode bb_RG_updateCoded 7 = .ok (.iload 6, 2) := by decide +kernel
theorem dd_RG_updateCoded_9 : decode bb_RG_updateCoded 9 = .ok (.aload_n 0, 1) := by decide +kernel
theorem dd_RG_updateCoded_10 : decode bb_RG_updateCoded 10 = .ok (.getfield 12, 3) := by decide +kernel
theorem dd_RG_updateCoded_13 : decode bb_RG_updateCoded 13 = .ok (.getfield 31, 3) := by decide +kernel
theorem dd_RG_updateCoded_16 : decode bb_RG_updateCoded 16 = .ok (.if_icmp .ge 73, 3) := by decide +kernel
theorem dd_RG_updateCoded_19 : decode bb_RG_updateCoded 19 = .ok (.aload_n 0, 1) := by decide +kernel
theorem dd_RG_updateCoded_20 : decode bb_RG_updateCoded 20 = .ok (.getfield 12, 3) := by decide +kernel
theorem dd_RG_updateCoded_23 : decode bb_RG_updateCoded 23 = .ok (.getfield 129, 3) := by decide +kernel
theorem dd_RG_updateCoded_26 : decode bb_RG_updateCoded 26 = .ok (.iload 6, 2) := by decide +kernel
theorem dd_RG_updateCoded_28 : decode bb_RG_updateCoded 28 = .ok (.laload, 1) := by decide +kernel
theorem dd_RG_updateCoded_29 : decode bb_RG_updateCoded 29 = .ok (.iload_n 2, 1) := by decide +kernel
theorem dd_RG_updateCoded_30 : decode bb_RG_updateCoded 30 = .ok (.invokestatic 133, 3) := by decide +kernel
theorem dd_RG_updateCoded_33 : decode bb_RG_updateCoded 33 = .ok (.istore 7, 2) := by decide +kernel
theorem dd_RG_updateCoded_35 : decode bb_RG_updateCoded 35 = .ok (.iload 7, 2) := by decide +kernel
theorem dd_RG_updateCoded_37 : decode bb_RG_updateCoded 37 = .ok (.ifCond .eq 46, 3) := by decide +kernel
theorem dd_RG_updateCoded_40 : decode bb_RG_updateCoded 40 = .ok (.aload_n 1, 1) := by decide +kernel
theorem dd_RG_updateCoded_41 : decode bb_RG_updateCoded 41 = .ok (.iload 6, 2) := by decide +kernel
theorem dd_RG_updateCoded_43 : decode bb_RG_updateCoded 43 = .ok (.invokevirtual 50, 3) := by decide +kernel
theorem dd_RG_updateCoded_46 : decode bb_RG_updateCoded 46 = .ok (.ifCond .eq 37, 3) := by decide +kernel
theorem dd_RG_updateCoded_49 : decode bb_RG_updateCoded 49 = .ok (.aload_n 0, 1) := by decide +kernel
theorem dd_RG_updateCoded_50 : decode bb_RG_updateCoded 50 = .ok (.aload_n 1, 1) := by decide +kernel
theorem dd_RG_updateCoded_51 : decode bb_RG_updateCoded 51 = .ok (.iload 6, 2) := by decide +kernel
theorem dd_RG_updateCoded_53 : decode bb_RG_updateCoded 53 = .ok (.iload_n 2, 1) := by decide +kernel
theorem dd_RG_updateCoded_54 : decode bb_RG_updateCoded 54 = .ok (.invokevirtual 139, 3) := by decide +kernel
theorem dd_RG_updateCoded_57 : decode bb_RG_updateCoded 57 = .ok (.ifCond .eq 26, 3) := by decide +kernel
theorem dd_RG_updateCoded_60 : decode bb_RG_updateCoded 60 = .ok (.aload_n 0, 1) := by decide +kernel
theorem dd_RG_updateCoded_61 : decode bb_RG_updateCoded 61 = .ok (.aload_n 1, 1) := by decide +kernel
theorem dd_RG_updateCoded_62 : decode bb_RG_updateCoded 62 = .ok (.iload 6, 2) := by decide +kernel
theorem dd_RG_updateCoded_64 : decode bb_RG_updateCoded 64 = .ok (.aload_n 1, 1) := by decide +kernel
theorem dd_RG_updateCoded_65 : decode bb_RG_updateCoded 65 = .ok (.iload 6, 2) := by decide +kernel
theorem dd_RG_updateCoded_67 : decode bb_RG_updateCoded 67 = .ok (.invokevirtual 57, 3) := by decide +kernel
theorem dd_RG_updateCoded_70 : decode bb_RG_updateCoded 70 = .ok (.iload 7, 2) := by decide +kernel
theorem dd_RG_updateCoded_72 : decode bb_RG_updateCoded 72 = .ok (.lload_n 3, 1) := by decide +kernel
theorem dd_RG_updateCoded_73 : decode bb_RG_updateCoded 73 = .ok (.invokestatic 143, 3) := by decide +kernel
theorem dd_RG_updateCoded_76 : decode bb_RG_updateCoded 76 = .ok (.lxor, 1) := by decide +kernel
theorem dd_RG_updateCoded_77 : decode bb_RG_updateCoded 77 = .ok (.invokevirtual 65, 3) := by decide +kernel
theorem dd_RG_updateCoded_80 : decode bb_RG_updateCoded 80 = .ok (.iinc 5 1, 3) := by decide +kernel
theorem dd_RG_updateCoded_83 : decode bb_RG_updateCoded 83 = .ok (.iinc 6 1, 3) := by decide +kernel
theorem dd_RG_updateCoded_86 : decode bb_RG_updateCoded 86 = .ok (.goto (-79), 3) := by decide +kernel
theorem dd_RG_updateCoded_89 : decode bb_RG_updateCoded 89 = .ok (.iload 5, 2) := by decide +kernel
theorem dd_RG_updateCoded_91 : decode bb_RG_updateCoded 91 = .ok (.ireturn, 1) := by decide +kernel
theorem dd_RG_dropShardsOn_0 : decode bb_RG_dropShardsOn 0 = .ok (.iconst 0, 1) := by decide +kernel
theorem dd_RG_dropShardsOn_1 : decode bb_RG_dropShardsOn 1 = .ok (.istore_n 3, 1) := by decide +kernel
theorem dd_RG_dropShardsOn_2 : decode bb_RG_dropShardsOn 2 = .ok (.iconst 0, 1) := by decide +kernel
theorem dd_RG_dropShardsOn_3 : decode bb_RG_dropShardsOn 3 = .ok (.istore 4, 2) := by decide +kernel
theorem dd_RG_dropShardsOn_5 : decode bb_RG_dropShardsOn 5 = .ok (.iload 4, 2) := by decide +kernel
theorem dd_RG_dropShardsOn_7 : decode bb_RG_dropShardsOn 7 = .ok (.aload_n 0, 1) := by decide +kernel
theorem dd_RG_dropShardsOn_8 : decode bb_RG_dropShardsOn 8 = .ok (.getfield 12, 3) := by decide +kernel
theorem dd_RG_dropShardsOn_11 : decode bb_RG_dropShardsOn 11 = .ok (.getfield 31, 3) := by decide +kernel
theorem dd_RG_dropShardsOn_14 : decode bb_RG_dropShardsOn 14 = .ok (.if_icmp .ge 37, 3) := by decide +kernel
theorem dd_RG_dropShardsOn_17 : decode bb_RG_dropShardsOn 17 = .ok (.aload_n 1, 1) := by decide +kernel
theorem dd_RG_dropShardsOn_18 : decode bb_RG_dropShardsOn 18 = .ok (.iload 4, 2) := by decide +kernel
theorem dd_RG_dropShardsOn_20 : decode bb_RG_dropShardsOn 20 = .ok (.invokevirtual 93, 3) := by decide +kernel
theorem dd_RG_dropShardsOn_23 : decode bb_RG_dropShardsOn 23 = .ok (.iload_n 2, 1) := by decide +kernel
theorem dd_RG_dropShardsOn_24 : decode bb_RG_dropShardsOn 24 = .ok (.if_icmp .ne 21, 3) := by decide +kernel
theorem dd_RG_dropShardsOn_27 : decode bb_RG_dropShardsOn 27 = .ok (.aload_n 1, 1) := by decide +kernel
theorem dd_RG_dropShardsOn_28 : decode bb_RG_dropShardsOn 28 = .ok (.iload 4, 2) := by decide +kernel
theorem dd_RG_dropShardsOn_30 : decode bb_RG_dropShardsOn 30 = .ok (.invokevirtual 50, 3) := by decide +kernel
theorem dd_RG_dropShardsOn_33 : decode bb_RG_dropShardsOn 33 = .ok (.ifCond .eq 12, 3) := by decide +kernel
theorem dd_RG_dropShardsOn_36 : decode bb_RG_dropShardsOn 36 = .ok (.aload_n 1, 1) := by decide +kernel
theorem dd_RG_dropShardsOn_37 : decode bb_RG_dropShardsOn 37 = .ok (.iload 4, 2) := by decide +kernel
theorem dd_RG_dropShardsOn_39 : decode bb_RG_dropShardsOn 39 = .ok (.invokevirtual 122, 3) := by decide +kernel
theorem dd_RG_dropShardsOn_42 : decode bb_RG_dropShardsOn 42 = .ok (.iinc 3 1, 3) := by decide +kernel
theorem dd_RG_dropShardsOn_45 : decode bb_RG_dropShardsOn 45 = .ok (.iinc 4 1, 3) := by decide +kernel
theorem dd_RG_dropShardsOn_48 : decode bb_RG_dropShardsOn 48 = .ok (.goto (-43), 3) := by decide +kernel
theorem dd_RG_dropShardsOn_51 : decode bb_RG_dropShardsOn 51 = .ok (.iload_n 3, 1) := by decide +kernel
theorem dd_RG_dropShardsOn_52 : decode bb_RG_dropShardsOn 52 = .ok (.ireturn, 1) := by decide +kernel
theorem dd_RG_rebuild_0 : decode bb_RG_rebuild 0 = .ok (.aload_n 0, 1) := by decide +kernel
theorem dd_RG_rebuild_1 : decode bb_RG_rebuild 1 = .ok (.aload_n 1, 1) := by decide +kernel
theorem dd_RG_rebuild_2 : decode bb_RG_rebuild 2 = .ok (.iload_n 2, 1) := by decide +kernel
theorem dd_RG_rebuild_3 : decode bb_RG_rebuild 3 = .ok (.invokevirtual 77, 3) := by decide +kernel
theorem dd_RG_rebuild_6 : decode bb_RG_rebuild 6 = .ok (.istore_n 3, 1) := by decide +kernel
theorem dd_RG_rebuild_7 : decode bb_RG_rebuild 7 = .ok (.iload_n 3, 1) := by decide +kernel
theorem dd_RG_rebuild_8 : decode bb_RG_rebuild 8 = .ok (.ifCond .lt 13, 3) := by decide +kernel
theorem dd_RG_rebuild_11 : decode bb_RG_rebuild 11 = .ok (.aload_n 0, 1) := by decide +kernel
theorem dd_RG_rebuild_12 : decode bb_RG_rebuild 12 = .ok (.aload_n 1, 1) := by decide +kernel
theorem dd_RG_rebuild_13 : decode bb_RG_rebuild 13 = .ok (.iload_n 2, 1) := by decide +kernel
theorem dd_RG_rebuild_14 : decode bb_RG_rebuild 14 = .ok (.aload_n 0, 1) := by decide +kernel
theorem dd_RG_rebuild_15 : decode bb_RG_rebuild 15 = .ok (.getfield 81, 3) := by decide +kernel
theorem dd_RG_rebuild_18 : decode bb_RG_rebuild 18 = .ok (.invokevirtual 65, 3) := by decide +kernel
theorem dd_RG_rebuild_21 : decode bb_RG_rebuild 21 = .ok (.iload_n 3, 1) := by decide +kernel
theorem dd_RG_rebuild_22 : decode bb_RG_rebuild 22 = .ok (.ireturn, 1) := by decide +kernel
theorem dd_RG_followPlans_0 : decode bb_RG_followPlans 0 = .ok (.iconst 1, 1) := by decide +kernel
theorem dd_RG_followPlans_1 : decode bb_RG_followPlans 1 = .ok (.istore_n 3, 1) := by decide +kernel
theorem dd_RG_followPlans_2 : decode bb_RG_followPlans 2 = .ok (.iload_n 3, 1) := by decide +kernel
theorem dd_RG_followPlans_3 : decode bb_RG_followPlans 3 = .ok (.bipush 32, 2) := by decide +kernel
theorem dd_RG_followPlans_5 : decode bb_RG_followPlans 5 = .ok (.if_icmp .gt 60, 3) := by decide +kernel
theorem dd_RG_followPlans_8 : decode bb_RG_followPlans 8 = .ok (.aload_n 0, 1) := by decide +kernel
theorem dd_RG_followPlans_9 : decode bb_RG_followPlans 9 = .ok (.aload_n 1, 1) := by decide +kernel
theorem dd_RG_followPlans_10 : decode bb_RG_followPlans 10 = .ok (.iload_n 2, 1) := by decide +kernel
theorem dd_RG_followPlans_11 : decode bb_RG_followPlans 11 = .ok (.invokevirtual 104, 3) := by decide +kernel
theorem dd_RG_followPlans_14 : decode bb_RG_followPlans 14 = .ok (.istore 4, 2) := by decide +kernel
theorem dd_RG_followPlans_16 : decode bb_RG_followPlans 16 = .ok (.iload 4, 2) := by decide +kernel
theorem dd_RG_followPlans_18 : decode bb_RG_followPlans 18 = .ok (.ifCond .ne 6, 3) := by decide +kernel
theorem dd_RG_followPlans_21 : decode bb_RG_followPlans 21 = .ok (.goto 44, 3) := by decide +kernel
theorem dd_RG_followPlans_24 : decode bb_RG_followPlans 24 = .ok (.aload_n 0, 1) := by decide +kernel
theorem dd_RG_followPlans_25 : decode bb_RG_followPlans 25 = .ok (.getfield 42, 3) := by decide +kernel
theorem dd_RG_followPlans_28 : decode bb_RG_followPlans 28 = .ok (.iconst 3, 1) := by decide +kernel
theorem dd_RG_followPlans_29 : decode bb_RG_followPlans 29 = .ok (.dup2, 1) := by decide +kernel
theorem dd_RG_followPlans_30 : decode bb_RG_followPlans 30 = .ok (.iaload, 1) := by decide +kernel
theorem dd_RG_followPlans_31 : decode bb_RG_followPlans 31 = .ok (.iconst 1, 1) := by decide +kernel
theorem dd_RG_followPlans_32 : decode bb_RG_followPlans 32 = .ok (.iadd, 1) := by decide +kernel
theorem dd_RG_followPlans_33 : decode bb_RG_followPlans 33 = .ok (.iastore, 1) := by decide +kernel
theorem dd_RG_followPlans_34 : decode bb_RG_followPlans 34 = .ok (.aload_n 0, 1) := by decide +kernel
theorem dd_RG_followPlans_35 : decode bb_RG_followPlans 35 = .ok (.aload_n 1, 1) := by decide +kernel
theorem dd_RG_followPlans_36 : decode bb_RG_followPlans 36 = .ok (.iload 4, 2) := by decide +kernel
theorem dd_RG_followPlans_38 : decode bb_RG_followPlans 38 = .ok (.iload_n 2, 1) := by decide +kernel
theorem dd_RG_followPlans_39 : decode bb_RG_followPlans 39 = .ok (.invokevirtual 147, 3) := by decide +kernel
theorem dd_RG_followPlans_42 : decode bb_RG_followPlans 42 = .ok (.ifCond .eq 17, 3) := by decide +kernel
theorem dd_RG_followPlans_45 : decode bb_RG_followPlans 45 = .ok (.aload_n 0, 1) := by decide +kernel
theorem dd_RG_followPlans_46 : decode bb_RG_followPlans 46 = .ok (.aload_n 0, 1) := by decide +kernel
theorem dd_RG_followPlans_47 : decode bb_RG_followPlans 47 = .ok (.aload_n 1, 1) := by decide +kernel
theorem dd_RG_followPlans_48 : decode bb_RG_followPlans 48 = .ok (.iload 4, 2) := by decide +kernel
theorem dd_RG_followPlans_50 : decode bb_RG_followPlans 50 = .ok (.iload_n 2, 1) := by decide +kernel
theorem dd_RG_followPlans_51 : decode bb_RG_followPlans 51 = .ok (.invokevirtual 150, 3) := by decide +kernel
theorem dd_RG_followPlans_54 : decode bb_RG_followPlans 54 = .ok (.putfield 81, 3) := by decide +kernel
theorem dd_RG_followPlans_57 : decode bb_RG_followPlans 57 = .ok (.iload_n 3, 1) := by decide +kernel
theorem dd_RG_followPlans_58 : decode bb_RG_followPlans 58 = .ok (.ireturn, 1) := by decide +kernel
theorem dd_RG_followPlans_59 : decode bb_RG_followPlans 59 = .ok (.iinc 3 1, 3) := by decide +kernel
theorem dd_RG_followPlans_62 : decode bb_RG_followPlans 62 = .ok (.goto (-60), 3) := by decide +kernel
theorem dd_RG_followPlans_65 : decode bb_RG_followPlans 65 = .ok (.bipush (-4), 2) := by decide +kernel
theorem dd_RG_followPlans_67 : decode bb_RG_followPlans 67 = .ok (.ireturn, 1) := by decide +kernel
theorem dd_RG_readPlan_0 : decode bb_RG_readPlan 0 = .ok (.iconst 0, 1) := by decide +kernel
theorem dd_RG_readPlan_1 : decode bb_RG_readPlan 1 = .ok (.istore 4, 2) := by decide +kernel
theorem dd_RG_readPlan_3 : decode bb_RG_readPlan 3 = .ok (.iload 4, 2) := by decide +kernel
theorem dd_RG_readPlan_5 : decode bb_RG_readPlan 5 = .ok (.aload_n 0, 1) := by decide +kernel
theorem dd_RG_readPlan_6 : decode bb_RG_readPlan 6 = .ok (.getfield 12, 3) := by decide +kernel
theorem dd_RG_readPlan_9 : decode bb_RG_readPlan 9 = .ok (.getfield 31, 3) := by decide +kernel
theorem dd_RG_readPlan_12 : decode bb_RG_readPlan 12 = .ok (.if_icmp .ge 31, 3) := by decide +kernel
theorem dd_RG_readPlan_15 : decode bb_RG_readPlan 15 = .ok (.iload_n 2, 1) := by decide +kernel
theorem dd_RG_readPlan_16 : decode bb_RG_readPlan 16 = .ok (.iload 4, 2) := by decide +kernel
theorem dd_RG_readPlan_18 : decode bb_RG_readPlan 18 = .ok (.invokestatic 154, 3) := by decide +kernel
theorem dd_RG_readPlan_21 : decode bb_RG_readPlan 21 = .ok (.ifCond .eq 16, 3) := by decide +kernel
theorem dd_RG_readPlan_24 : decode bb_RG_readPlan 24 = .ok (.aload_n 0, 1) := by decide +kernel
theorem dd_RG_readPlan_25 : decode bb_RG_readPlan 25 = .ok (.aload_n 1, 1) := by decide +kernel
theorem dd_RG_readPlan_26 : decode bb_RG_readPlan 26 = .ok (.iload 4, 2) := by decide +kernel
theorem dd_RG_readPlan_28 : decode bb_RG_readPlan 28 = .ok (.iload_n 3, 1) := by decide +kernel
theorem dd_RG_readPlan_29 : decode bb_RG_readPlan 29 = .ok (.invokevirtual 139, 3) := by decide +kernel
theorem dd_RG_readPlan_32 : decode bb_RG_readPlan 32 = .ok (.ifCond .ne 5, 3) := by decide +kernel
theorem dd_RG_readPlan_35 : decode bb_RG_readPlan 35 = .ok (.iconst 0, 1) := by decide +kernel
theorem dd_RG_readPlan_36 : decode bb_RG_readPlan 36 = .ok (.ireturn, 1) := by decide +kernel
theorem dd_RG_readPlan_37 : decode bb_RG_readPlan 37 = .ok (.iinc 4 1, 3) := by decide +kernel
theorem dd_RG_readPlan_40 : decode bb_RG_readPlan 40 = .ok (.goto (-37), 3) := by decide +kernel
theorem dd_RG_readPlan_43 : decode bb_RG_readPlan 43 = .ok (.iconst 1, 1) := by decide +kernel
theorem dd_RG_readPlan_44 : decode bb_RG_readPlan 44 = .ok (.ireturn, 1) := by decide +kernel
theorem dd_RG_decode_0 : decode bb_RG_decode 0 = .ok (.aload_n 0, 1) := by decide +kernel
theorem dd_RG_decode_1 : decode bb_RG_decode 1 = .ok (.getfield 21, 3) := by decide +kernel
theorem dd_RG_decode_4 : decode bb_RG_decode 4 = .ok (.invokevirtual 157, 3) := by decide +kernel
theorem dd_RG_decode_7 : decode bb_RG_decode 7 = .ok (.iconst 0, 1) := by decide +kernel
theorem dd_RG_decode_8 : decode bb_RG_decode 8 = .ok (.istore 4, 2) := by decide +kernel
theorem dd_RG_decode_10 : decode bb_RG_decode 10 = .ok (.iload 4, 2) := by decide +kernel
theorem dd_RG_decode_12 : decode bb_RG_decode 12 = .ok (.aload_n 0, 1) := by decide +kernel
theorem dd_RG_decode_13 : decode bb_RG_decode 13 = .ok (.getfield 12, 3) := by decide +kernel
theorem dd_RG_decode_16 : decode bb_RG_decode 16 = .ok (.getfield 31, 3) := by decide +kernel
theorem dd_RG_decode_19 : decode bb_RG_decode 19 = .ok (.if_icmp .ge 42, 3) := by decide +kernel
theorem dd_RG_decode_22 : decode bb_RG_decode 22 = .ok (.iload_n 2, 1) := by decide +kernel
theorem dd_RG_decode_23 : decode bb_RG_decode 23 = .ok (.iload 4, 2) := by decide +kernel
theorem dd_RG_decode_25 : decode bb_RG_decode 25 = .ok (.invokestatic 154, 3) := by decide +kernel
theorem dd_RG_decode_28 : decode bb_RG_decode 28 = .ok (.ifCond .eq 27, 3) := by decide +kernel
theorem dd_RG_decode_31 : decode bb_RG_decode 31 = .ok (.aload_n 0, 1) := by decide +kernel
theorem dd_RG_decode_32 : decode bb_RG_decode 32 = .ok (.getfield 21, 3) := by decide +kernel
theorem dd_RG_decode_35 : decode bb_RG_decode 35 = .ok (.aload_n 0, 1) := by decide +kernel
theorem dd_RG_decode_36 : decode bb_RG_decode 36 = .ok (.getfield 12, 3) := by decide +kernel
theorem dd_RG_decode_39 : decode bb_RG_decode 39 = .ok (.getfield 129, 3) := by decide +kernel
theorem dd_RG_decode_42 : decode bb_RG_decode 42 = .ok (.iload 4, 2) := by decide +kernel
theorem dd_RG_decode_44 : decode bb_RG_decode 44 = .ok (.laload, 1) := by decide +kernel
theorem dd_RG_decode_45 : decode bb_RG_decode 45 = .ok (.aload_n 1, 1) := by decide +kernel
theorem dd_RG_decode_46 : decode bb_RG_decode 46 = .ok (.iload 4, 2) := by decide +kernel
theorem dd_RG_decode_48 : decode bb_RG_decode 48 = .ok (.invokevirtual 57, 3) := by decide +kernel
theorem dd_RG_decode_51 : decode bb_RG_decode 51 = .ok (.invokevirtual 160, 3) := by decide +kernel
theorem dd_RG_decode_54 : decode bb_RG_decode 54 = .ok (.pop, 1) := by decide +kernel
theorem dd_RG_decode_55 : decode bb_RG_decode 55 = .ok (.iinc 4 1, 3) := by decide +kernel
theorem dd_RG_decode_58 : decode bb_RG_decode 58 = .ok (.goto (-48), 3) := by decide +kernel
theorem dd_RG_decode_61 : decode bb_RG_decode 61 = .ok (.aload_n 0, 1) := by decide +kernel
theorem dd_RG_decode_62 : decode bb_RG_decode 62 = .ok (.getfield 21, 3) := by decide +kernel
theorem dd_RG_decode_65 : decode bb_RG_decode 65 = .ok (.aload_n 0, 1) := by decide +kernel
theorem dd_RG_decode_66 : decode bb_RG_decode 66 = .ok (.getfield 12, 3) := by decide +kernel
theorem dd_RG_decode_69 : decode bb_RG_decode 69 = .ok (.getfield 129, 3) := by decide +kernel
theorem dd_RG_decode_72 : decode bb_RG_decode 72 = .ok (.iload_n 3, 1) := by decide +kernel
theorem dd_RG_decode_73 : decode bb_RG_decode 73 = .ok (.laload, 1) := by decide +kernel
theorem dd_RG_decode_74 : decode bb_RG_decode 74 = .ok (.invokevirtual 164, 3) := by decide +kernel
theorem dd_RG_decode_77 : decode bb_RG_decode 77 = .ok (.lreturn, 1) := by decide +kernel
theorem dd_RG_choosePlan_0 : decode bb_RG_choosePlan 0 = .ok (.aload_n 0, 1) := by decide +kernel
theorem dd_RG_choosePlan_1 : decode bb_RG_choosePlan 1 = .ok (.aload_n 1, 1) := by decide +kernel
theorem dd_RG_choosePlan_2 : decode bb_RG_choosePlan 2 = .ok (.iload_n 2, 1) := by decide +kernel
theorem dd_RG_choosePlan_3 : decode bb_RG_choosePlan 3 = .ok (.invokevirtual 168, 3) := by decide +kernel
theorem dd_RG_choosePlan_6 : decode bb_RG_choosePlan 6 = .ok (.istore_n 3, 1) := by decide +kernel
theorem dd_RG_choosePlan_7 : decode bb_RG_choosePlan 7 = .ok (.iload_n 3, 1) := by decide +kernel
theorem dd_RG_choosePlan_8 : decode bb_RG_choosePlan 8 = .ok (.ifCond .ne 14, 3) := by decide +kernel
theorem dd_RG_choosePlan_11 : decode bb_RG_choosePlan 11 = .ok (.aload_n 0, 1) := by decide +kernel
theorem dd_RG_choosePlan_12 : decode bb_RG_choosePlan 12 = .ok (.aload_n 1, 1) := by decide +kernel
theorem dd_RG_choosePlan_13 : decode bb_RG_choosePlan 13 = .ok (.invokevirtual 112, 3) := by decide +kernel
theorem dd_RG_choosePlan_16 : decode bb_RG_choosePlan 16 = .ok (.invokestatic 171, 3) := by decide +kernel
theorem dd_RG_choosePlan_19 : decode bb_RG_choosePlan 19 = .ok (.goto 4, 3) := by decide +kernel
theorem dd_RG_choosePlan_22 : decode bb_RG_choosePlan 22 = .ok (.iload_n 3, 1) := by decide +kernel
theorem dd_RG_choosePlan_23 : decode bb_RG_choosePlan 23 = .ok (.ireturn, 1) := by decide +kernel
theorem dd_RG_localPlan_0 : decode bb_RG_localPlan 0 = .ok (.aload_n 0, 1) := by decide +kernel
theorem dd_RG_localPlan_1 : decode bb_RG_localPlan 1 = .ok (.getfield 12, 3) := by decide +kernel
theorem dd_RG_localPlan_4 : decode bb_RG_localPlan 4 = .ok (.iload_n 2, 1) := by decide +kernel
theorem dd_RG_localPlan_5 : decode bb_RG_localPlan 5 = .ok (.invokevirtual 174, 3) := by decide +kernel
theorem dd_RG_localPlan_8 : decode bb_RG_localPlan 8 = .ok (.iconst 1, 1) := by decide +kernel
theorem dd_RG_localPlan_9 : decode bb_RG_localPlan 9 = .ok (.iload_n 2, 1) := by decide +kernel
theorem dd_RG_localPlan_10 : decode bb_RG_localPlan 10 = .ok (.ishl, 1) := by decide +kernel
theorem dd_RG_localPlan_11 : decode bb_RG_localPlan 11 = .ok (.iconst (-1), 1) := by decide +kernel
theorem dd_RG_localPlan_12 : decode bb_RG_localPlan 12 = .ok (.ixor, 1) := by decide +kernel
theorem dd_RG_localPlan_13 : decode bb_RG_localPlan 13 = .ok (.iand, 1) := by decide +kernel
theorem dd_RG_localPlan_14 : decode bb_RG_localPlan 14 = .ok (.istore_n 3, 1) := by decide +kernel
theorem dd_RG_localPlan_15 : decode bb_RG_localPlan 15 = .ok (.iload_n 3, 1) := by decide +kernel
theorem dd_RG_localPlan_16 : decode bb_RG_localPlan 16 = .ok (.aload_n 1, 1) := by decide +kernel
theorem dd_RG_localPlan_17 : decode bb_RG_localPlan 17 = .ok (.invokevirtual 115, 3) := by decide +kernel
theorem dd_RG_localPlan_20 : decode bb_RG_localPlan 20 = .ok (.iand, 1) := by decide +kernel
theorem dd_RG_localPlan_21 : decode bb_RG_localPlan 21 = .ok (.ifCond .ne 7, 3) := by decide +kernel
theorem dd_RG_localPlan_24 : decode bb_RG_localPlan 24 = .ok (.iload_n 3, 1) := by decide +kernel
theorem dd_RG_localPlan_25 : decode bb_RG_localPlan 25 = .ok (.goto 4, 3) := by decide +kernel
theorem dd_RG_localPlan_28 : decode bb_RG_localPlan 28 = .ok (.iconst 0, 1) := by decide +kernel
theorem dd_RG_localPlan_29 : decode bb_RG_localPlan 29 = .ok (.ireturn, 1) := by decide +kernel
theorem dd_RG_globalPlan_0 : decode bb_RG_globalPlan 0 = .ok (.iload_n 0, 1) := by decide +kernel
theorem dd_RG_globalPlan_1 : decode bb_RG_globalPlan 1 = .ok (.invokestatic 107, 3) := by decide +kernel
theorem dd_RG_globalPlan_4 : decode bb_RG_globalPlan 4 = .ok (.bipush 6, 2) := by decide +kernel
theorem dd_RG_globalPlan_6 : decode bb_RG_globalPlan 6 = .ok (.if_icmp .ne 7, 3) := by decide +kernel
theorem dd_RG_globalPlan_9 : decode bb_RG_globalPlan 9 = .ok (.iload_n 0, 1) := by decide +kernel
theorem dd_RG_globalPlan_10 : decode bb_RG_globalPlan 10 = .ok (.goto 4, 3) := by decide +kernel
theorem dd_RG_globalPlan_13 : decode bb_RG_globalPlan 13 = .ok (.iconst 0, 1) := by decide +kernel
theorem dd_RG_globalPlan_14 : decode bb_RG_globalPlan 14 = .ok (.ireturn, 1) := by decide +kernel
theorem dd_RG_independentShards_0 : decode bb_RG_independentShards 0 = .ok (.aload_n 0, 1) := by decide +kernel
theorem dd_RG_independentShards_1 : decode bb_RG_independentShards 1 = .ok (.getfield 21, 3) := by decide +kernel
theorem dd_RG_independentShards_4 : decode bb_RG_independentShards 4 = .ok (.invokevirtual 157, 3) := by decide +kernel
theorem dd_RG_independentShards_7 : decode bb_RG_independentShards 7 = .ok (.iconst 0, 1) := by decide +kernel
theorem dd_RG_independentShards_8 : decode bb_RG_independentShards 8 = .ok (.istore_n 2, 1) := by decide +kernel
theorem dd_RG_independentShards_9 : decode bb_RG_independentShards 9 = .ok (.iconst 0, 1) := by decide +kernel
theorem dd_RG_independentShards_10 : decode bb_RG_independentShards 10 = .ok (.istore_n 3, 1) := by decide +kernel
theorem dd_RG_independentShards_11 : decode bb_RG_independentShards 11 = .ok (.iload_n 3, 1) := by decide +kernel
theorem dd_RG_independentShards_12 : decode bb_RG_independentShards 12 = .ok (.aload_n 0, 1) := by decide +kernel
theorem dd_RG_independentShards_13 : decode bb_RG_independentShards 13 = .ok (.getfield 12, 3) := by decide +kernel
theorem dd_RG_independentShards_16 : decode bb_RG_independentShards 16 = .ok (.getfield 31, 3) := by decide +kernel
theorem dd_RG_independentShards_19 : decode bb_RG_independentShards 19 = .ok (.if_icmp .ge 43, 3) := by decide +kernel
theorem dd_RG_independentShards_22 : decode bb_RG_independentShards 22 = .ok (.aload_n 1, 1) := by decide +kernel
theorem dd_RG_independentShards_23 : decode bb_RG_independentShards 23 = .ok (.iload_n 3, 1) := by decide +kernel
theorem dd_RG_independentShards_24 : decode bb_RG_independentShards 24 = .ok (.invokevirtual 50, 3) := by decide +kernel
theorem dd_RG_independentShards_27 : decode bb_RG_independentShards 27 = .ok (.ifCond .eq 29, 3) := by decide +kernel
theorem dd_RG_independentShards_30 : decode bb_RG_independentShards 30 = .ok (.aload_n 0, 1) := by decide +kernel
theorem dd_RG_independentShards_31 : decode bb_RG_independentShards 31 = .ok (.getfield 21, 3) := by decide +kernel
theorem dd_RG_independentShards_34 : decode bb_RG_independentShards 34 = .ok (.aload_n 0, 1) := by decide +kernel
theorem dd_RG_independentShards_35 : decode bb_RG_independentShards 35 = .ok (.getfield 12, 3) := by decide +kernel
theorem dd_RG_independentShards_38 : decode bb_RG_independentShards 38 = .ok (.getfield 129, 3) := by decide +kernel
theorem dd_RG_independentShards_41 : decode bb_RG_independentShards 41 = .ok (.iload_n 3, 1) := by decide +kernel
theorem dd_RG_independentShards_42 : decode bb_RG_independentShards 42 = .ok (.laload, 1) := by decide +kernel
theorem dd_RG_independentShards_43 : decode bb_RG_independentShards 43 = .ok (.lconst 0, 1) := by decide +kernel
theorem dd_RG_independentShards_44 : decode bb_RG_independentShards 44 = .ok (.invokevirtual 160, 3) := by decide +kernel
theorem dd_RG_independentShards_47 : decode bb_RG_independentShards 47 = .ok (.ifCond .eq 9, 3) := by decide +kernel
theorem dd_RG_independentShards_50 : decode bb_RG_independentShards 50 = .ok (.iload_n 2, 1) := by decide +kernel
theorem dd_RG_independentShards_51 : decode bb_RG_independentShards 51 = .ok (.iconst 1, 1) := by decide +kernel
theorem dd_RG_independentShards_52 : decode bb_RG_independentShards 52 = .ok (.iload_n 3, 1) := by decide +kernel
theorem dd_RG_independentShards_53 : decode bb_RG_independentShards 53 = .ok (.ishl, 1) := by decide +kernel
theorem dd_RG_independentShards_54 : decode bb_RG_independentShards 54 = .ok (.ior, 1) := by decide +kernel
theorem dd_RG_independentShards_55 : decode bb_RG_independentShards 55 = .ok (.istore_n 2, 1) := by decide +kernel
theorem dd_RG_independentShards_56 : decode bb_RG_independentShards 56 = .ok (.iinc 3 1, 3) := by decide +kernel
theorem dd_RG_independentShards_59 : decode bb_RG_independentShards 59 = .ok (.goto (-48), 3) := by decide +kernel
theorem dd_RG_independentShards_62 : decode bb_RG_independentShards 62 = .ok (.iload_n 2, 1) := by decide +kernel
theorem dd_RG_independentShards_63 : decode bb_RG_independentShards 63 = .ok (.ireturn, 1) := by decide +kernel
theorem dd_RG_nextToMend_0 : decode bb_RG_nextToMend 0 = .ok (.iconst (-1), 1) := by decide +kernel
theorem dd_RG_nextToMend_1 : decode bb_RG_nextToMend 1 = .ok (.istore_n 2, 1) := by decide +kernel
theorem dd_RG_nextToMend_2 : decode bb_RG_nextToMend 2 = .ok (.aload_n 0, 1) := by decide +kernel
theorem dd_RG_nextToMend_3 : decode bb_RG_nextToMend 3 = .ok (.getfield 12, 3) := by decide +kernel
theorem dd_RG_nextToMend_6 : decode bb_RG_nextToMend 6 = .ok (.getfield 31, 3) := by decide +kernel
theorem dd_RG_nextToMend_9 : decode bb_RG_nextToMend 9 = .ok (.iconst 1, 1) := by decide +kernel
theorem dd_RG_nextToMend_10 : decode bb_RG_nextToMend 10 = .ok (.isub, 1) := by decide +kernel
theorem dd_RG_nextToMend_11 : decode bb_RG_nextToMend 11 = .ok (.istore_n 3, 1) := by decide +kernel
theorem dd_RG_nextToMend_12 : decode bb_RG_nextToMend 12 = .ok (.iload_n 3, 1) := by decide +kernel
theorem dd_RG_nextToMend_13 : decode bb_RG_nextToMend 13 = .ok (.ifCond .lt 20, 3) := by decide +kernel
theorem dd_RG_nextToMend_16 : decode bb_RG_nextToMend 16 = .ok (.aload_n 0, 1) := by decide +kernel
theorem dd_RG_nextToMend_17 : decode bb_RG_nextToMend 17 = .ok (.aload_n 1, 1) := by decide +kernel
theorem dd_RG_nextToMend_18 : decode bb_RG_nextToMend 18 = .ok (.iload_n 3, 1) := by decide +kernel
theorem dd_RG_nextToMend_19 : decode bb_RG_nextToMend 19 = .ok (.invokevirtual 177, 3) := by decide +kernel
theorem dd_RG_nextToMend_22 : decode bb_RG_nextToMend 22 = .ok (.ifCond .eq 5, 3) := by decide +kernel
theorem dd_RG_nextToMend_25 : decode bb_RG_nextToMend 25 = .ok (.iload_n 3, 1) := by decide +kernel
theorem dd_RG_nextToMend_26 : decode bb_RG_nextToMend 26 = .ok (.istore_n 2, 1) := by decide +kernel
theorem dd_RG_nextToMend_27 : decode bb_RG_nextToMend 27 = .ok (.iinc 3 (-1), 3) := by decide +kernel
theorem dd_RG_nextToMend_30 : decode bb_RG_nextToMend 30 = .ok (.goto (-18), 3) := by decide +kernel
theorem dd_RG_nextToMend_33 : decode bb_RG_nextToMend 33 = .ok (.iconst 0, 1) := by decide +kernel
theorem dd_RG_nextToMend_34 : decode bb_RG_nextToMend 34 = .ok (.istore_n 3, 1) := by decide +kernel
theorem dd_RG_nextToMend_35 : decode bb_RG_nextToMend 35 = .ok (.iload_n 3, 1) := by decide +kernel
theorem dd_RG_nextToMend_36 : decode bb_RG_nextToMend 36 = .ok (.aload_n 0, 1) := by decide +kernel
theorem dd_RG_nextToMend_37 : decode bb_RG_nextToMend 37 = .ok (.getfield 12, 3) := by decide +kernel
theorem dd_RG_nextToMend_40 : decode bb_RG_nextToMend 40 = .ok (.getfield 31, 3) := by decide +kernel
theorem dd_RG_nextToMend_43 : decode bb_RG_nextToMend 43 = .ok (.if_icmp .ge 29, 3) := by decide +kernel
theorem dd_RG_nextToMend_46 : decode bb_RG_nextToMend 46 = .ok (.aload_n 0, 1) := by decide +kernel
theorem dd_RG_nextToMend_47 : decode bb_RG_nextToMend 47 = .ok (.aload_n 1, 1) := by decide +kernel
theorem dd_RG_nextToMend_48 : decode bb_RG_nextToMend 48 = .ok (.iload_n 3, 1) := by decide +kernel
theorem dd_RG_nextToMend_49 : decode bb_RG_nextToMend 49 = .ok (.invokevirtual 177, 3) := by decide +kernel
theorem dd_RG_nextToMend_52 : decode bb_RG_nextToMend 52 = .ok (.ifCond .eq 14, 3) := by decide +kernel
theorem dd_RG_nextToMend_55 : decode bb_RG_nextToMend 55 = .ok (.aload_n 0, 1) := by decide +kernel
theorem dd_RG_nextToMend_56 : decode bb_RG_nextToMend 56 = .ok (.aload_n 1, 1) := by decide +kernel
theorem dd_RG_nextToMend_57 : decode bb_RG_nextToMend 57 = .ok (.iload_n 3, 1) := by decide +kernel
theorem dd_RG_nextToMend_58 : decode bb_RG_nextToMend 58 = .ok (.invokevirtual 168, 3) := by decide +kernel
theorem dd_RG_nextToMend_61 : decode bb_RG_nextToMend 61 = .ok (.ifCond .eq 5, 3) := by decide +kernel
theorem dd_RG_nextToMend_64 : decode bb_RG_nextToMend 64 = .ok (.iload_n 3, 1) := by decide +kernel
theorem dd_RG_nextToMend_65 : decode bb_RG_nextToMend 65 = .ok (.ireturn, 1) := by decide +kernel
theorem dd_RG_nextToMend_66 : decode bb_RG_nextToMend 66 = .ok (.iinc 3 1, 3) := by decide +kernel
theorem dd_RG_nextToMend_69 : decode bb_RG_nextToMend 69 = .ok (.goto (-34), 3) := by decide +kernel
theorem dd_RG_nextToMend_72 : decode bb_RG_nextToMend 72 = .ok (.aload_n 0, 1) := by decide +kernel
theorem dd_RG_nextToMend_73 : decode bb_RG_nextToMend 73 = .ok (.aload_n 1, 1) := by decide +kernel
theorem dd_RG_nextToMend_74 : decode bb_RG_nextToMend 74 = .ok (.invokevirtual 112, 3) := by decide +kernel
theorem dd_RG_nextToMend_77 : decode bb_RG_nextToMend 77 = .ok (.invokestatic 171, 3) := by decide +kernel
theorem dd_RG_nextToMend_80 : decode bb_RG_nextToMend 80 = .ok (.ifCond .ne 7, 3) := by decide +kernel
theorem dd_RG_nextToMend_83 : decode bb_RG_nextToMend 83 = .ok (.iconst (-1), 1) := by decide +kernel
theorem dd_RG_nextToMend_84 : decode bb_RG_nextToMend 84 = .ok (.goto 4, 3) := by decide +kernel
theorem dd_RG_nextToMend_87 : decode bb_RG_nextToMend 87 = .ok (.iload_n 2, 1) := by decide +kernel
theorem dd_RG_nextToMend_88 : decode bb_RG_nextToMend 88 = .ok (.ireturn, 1) := by decide +kernel
theorem dd_RG_canBeWritten_0 : decode bb_RG_canBeWritten 0 = .ok (.aload_n 1, 1) := by decide +kernel
theorem dd_RG_canBeWritten_1 : decode bb_RG_canBeWritten 1 = .ok (.iload_n 2, 1) := by decide +kernel
theorem dd_RG_canBeWritten_2 : decode bb_RG_canBeWritten 2 = .ok (.invokevirtual 50, 3) := by decide +kernel
theorem dd_RG_canBeWritten_5 : decode bb_RG_canBeWritten 5 = .ok (.ifCond .ne 20, 3) := by decide +kernel
theorem dd_RG_canBeWritten_8 : decode bb_RG_canBeWritten 8 = .ok (.aload_n 0, 1) := by decide +kernel
theorem dd_RG_canBeWritten_9 : decode bb_RG_canBeWritten 9 = .ok (.getfield 38, 3) := by decide +kernel
theorem dd_RG_canBeWritten_12 : decode bb_RG_canBeWritten 12 = .ok (.aload_n 1, 1) := by decide +kernel
theorem dd_RG_canBeWritten_13 : decode bb_RG_canBeWritten 13 = .ok (.iload_n 2, 1) := by decide +kernel
theorem dd_RG_canBeWritten_14 : decode bb_RG_canBeWritten 14 = .ok (.invokevirtual 93, 3) := by decide +kernel
theorem dd_RG_canBeWritten_17 : decode bb_RG_canBeWritten 17 = .ok (.baload, 1) := by decide +kernel
theorem dd_RG_canBeWritten_18 : decode bb_RG_canBeWritten 18 = .ok (.ifCond .eq 7, 3) := by decide +kernel
theorem dd_RG_canBeWritten_21 : decode bb_RG_canBeWritten 21 = .ok (.iconst 1, 1) := by decide +kernel
theorem dd_RG_canBeWritten_22 : decode bb_RG_canBeWritten 22 = .ok (.goto 4, 3) := by decide +kernel
theorem dd_RG_canBeWritten_25 : decode bb_RG_canBeWritten 25 = .ok (.iconst 0, 1) := by decide +kernel
theorem dd_RG_canBeWritten_26 : decode bb_RG_canBeWritten 26 = .ok (.ireturn, 1) := by decide +kernel
theorem dd_RG_isIn_0 : decode bb_RG_isIn 0 = .ok (.iload_n 0, 1) := by decide +kernel
theorem dd_RG_isIn_1 : decode bb_RG_isIn 1 = .ok (.iload_n 1, 1) := by decide +kernel
theorem dd_RG_isIn_2 : decode bb_RG_isIn 2 = .ok (.ishr, 1) := by decide +kernel
theorem dd_RG_isIn_3 : decode bb_RG_isIn 3 = .ok (.iconst 1, 1) := by decide +kernel
theorem dd_RG_isIn_4 : decode bb_RG_isIn 4 = .ok (.iand, 1) := by decide +kernel
theorem dd_RG_isIn_5 : decode bb_RG_isIn 5 = .ok (.ifCond .eq 7, 3) := by decide +kernel
theorem dd_RG_isIn_8 : decode bb_RG_isIn 8 = .ok (.iconst 1, 1) := by decide +kernel
theorem dd_RG_isIn_9 : decode bb_RG_isIn 9 = .ok (.goto 4, 3) := by decide +kernel
theorem dd_RG_isIn_12 : decode bb_RG_isIn 12 = .ok (.iconst 0, 1) := by decide +kernel
theorem dd_RG_isIn_13 : decode bb_RG_isIn 13 = .ok (.ireturn, 1) := by decide +kernel
theorem dd_By_at_0 : decode bb_By_at 0 = .ok (.lload_n 0, 1) := by decide +kernel
theorem dd_By_at_1 : decode bb_By_at 1 = .ok (.bipush 8, 2) := by decide +kernel
theorem dd_By_at_3 : decode bb_By_at 3 = .ok (.iload_n 2, 1) := by decide +kernel
theorem dd_By_at_4 : decode bb_By_at 4 = .ok (.imul, 1) := by decide +kernel
theorem dd_By_at_5 : decode bb_By_at 5 = .ok (.lushr, 1) := by decide +kernel
theorem dd_By_at_6 : decode bb_By_at 6 = .ok (.l2i, 1) := by decide +kernel
theorem dd_By_at_7 : decode bb_By_at 7 = .ok (.sipush 255, 3) := by decide +kernel
theorem dd_By_at_10 : decode bb_By_at 10 = .ok (.iand, 1) := by decide +kernel
theorem dd_By_at_11 : decode bb_By_at 11 = .ok (.ireturn, 1) := by decide +kernel
theorem dd_By_placed_0 : decode bb_By_placed 0 = .ok (.iload_n 0, 1) := by decide +kernel
theorem dd_By_placed_1 : decode bb_By_placed 1 = .ok (.i2l, 1) := by decide +kernel
theorem dd_By_placed_2 : decode bb_By_placed 2 = .ok (.bipush 8, 2) := by decide +kernel
theorem dd_By_placed_4 : decode bb_By_placed 4 = .ok (.iload_n 1, 1) := by decide +kernel
theorem dd_By_placed_5 : decode bb_By_placed 5 = .ok (.imul, 1) := by decide +kernel
theorem dd_By_placed_6 : decode bb_By_placed 6 = .ok (.lshl, 1) := by decide +kernel
theorem dd_By_placed_7 : decode bb_By_placed 7 = .ok (.lreturn, 1) := by decide +kernel
theorem dd_By_times_0 : decode bb_By_times 0 = .ok (.lconst 0, 1) := by decide +kernel
theorem dd_By_times_1 : decode bb_By_times 1 = .ok (.lstore_n 3, 1) := by decide +kernel
theorem dd_By_times_2 : decode bb_By_times 2 = .ok (.lload_n 1, 1) := by decide +kernel
theorem dd_By_times_3 : decode bb_By_times 3 = .ok (.lstore 5, 2) := by decide +kernel
theorem dd_By_times_5 : decode bb_By_times 5 = .ok (.iconst 0, 1) := by decide +kernel
theorem dd_By_times_6 : decode bb_By_times 6 = .ok (.istore 7, 2) := by decide +kernel
theorem dd_By_times_8 : decode bb_By_times 8 = .ok (.iload 7, 2) := by decide +kernel
theorem dd_By_times_10 : decode bb_By_times 10 = .ok (.bipush 8, 2) := by decide +kernel
theorem dd_By_times_12 : decode bb_By_times 12 = .ok (.if_icmp .ge 55, 3) := by decide +kernel
theorem dd_By_times_15 : decode bb_By_times 15 = .ok (.iload_n 0, 1) := by decide +kernel
theorem dd_By_times_16 : decode bb_By_times 16 = .ok (.iload 7, 2) := by decide +kernel
theorem dd_By_times_18 : decode bb_By_times 18 = .ok (.ishr, 1) := by decide +kernel
theorem dd_By_times_19 : decode bb_By_times 19 = .ok (.iconst 1, 1) := by decide +kernel
theorem dd_By_times_20 : decode bb_By_times 20 = .ok (.iand, 1) := by decide +kernel
theorem dd_By_times_21 : decode bb_By_times 21 = .ok (.ifCond .eq 8, 3) := by decide +kernel
theorem dd_By_times_24 : decode bb_By_times 24 = .ok (.lload_n 3, 1) := by decide +kernel
theorem dd_By_times_25 : decode bb_By_times 25 = .ok (.lload 5, 2) := by decide +kernel
theorem dd_By_times_27 : decode bb_By_times 27 = .ok (.lxor, 1) := by decide +kernel
theorem dd_By_times_28 : decode bb_By_times 28 = .ok (.lstore_n 3, 1) := by decide +kernel
theorem dd_By_times_29 : decode bb_By_times 29 = .ok (.lload 5, 2) := by decide +kernel
theorem dd_By_times_31 : decode bb_By_times 31 = .ok (.bipush 7, 2) := by decide +kernel
theorem dd_By_times_33 : decode bb_By_times 33 = .ok (.lushr, 1) := by decide +kernel
theorem dd_By_times_34 : decode bb_By_times 34 = .ok (.ldc2_w 9, 3) := by decide +kernel
theorem dd_By_times_37 : decode bb_By_times 37 = .ok (.land, 1) := by decide +kernel
theorem dd_By_times_38 : decode bb_By_times 38 = .ok (.lstore 8, 2) := by decide +kernel
theorem dd_By_times_40 : decode bb_By_times 40 = .ok (.lload 5, 2) := by decide +kernel
theorem dd_By_times_42 : decode bb_By_times 42 = .ok (.ldc2_w 11, 3) := by decide +kernel
theorem dd_By_times_45 : decode bb_By_times 45 = .ok (.land, 1) := by decide +kernel
theorem dd_By_times_46 : decode bb_By_times 46 = .ok (.lstore 10, 2) := by decide +kernel
theorem dd_By_times_48 : decode bb_By_times 48 = .ok (.lload 10, 2) := by decide +kernel
theorem dd_By_times_50 : decode bb_By_times 50 = .ok (.iconst 1, 1) := by decide +kernel
theorem dd_By_times_51 : decode bb_By_times 51 = .ok (.lshl, 1) := by decide +kernel
theorem dd_By_times_52 : decode bb_By_times 52 = .ok (.lload 8, 2) := by decide +kernel
theorem dd_By_times_54 : decode bb_By_times 54 = .ok (.ldc2_w 13, 3) := by decide +kernel
theorem dd_By_times_57 : decode bb_By_times 57 = .ok (.lmul, 1) := by decide +kernel
theorem dd_By_times_58 : decode bb_By_times 58 = .ok (.lxor, 1) := by decide +kernel
theorem dd_By_times_59 : decode bb_By_times 59 = .ok (.lstore 5, 2) := by decide +kernel
theorem dd_By_times_61 : decode bb_By_times 61 = .ok (.iinc 7 1, 3) := by decide +kernel
theorem dd_By_times_64 : decode bb_By_times 64 = .ok (.goto (-56), 3) := by decide +kernel
theorem dd_By_times_67 : decode bb_By_times 67 = .ok (.lload_n 3, 1) := by decide +kernel
theorem dd_By_times_68 : decode bb_By_times 68 = .ok (.lreturn, 1) := by decide +kernel
theorem dd_By_inverse_0 : decode bb_By_inverse 0 = .ok (.iload_n 0, 1) := by decide +kernel
theorem dd_By_inverse_1 : decode bb_By_inverse 1 = .ok (.istore_n 1, 1) := by decide +kernel
theorem dd_By_inverse_2 : decode bb_By_inverse 2 = .ok (.iconst 1, 1) := by decide +kernel
theorem dd_By_inverse_3 : decode bb_By_inverse 3 = .ok (.istore_n 2, 1) := by decide +kernel
theorem dd_By_inverse_4 : decode bb_By_inverse 4 = .ok (.iconst 1, 1) := by decide +kernel
theorem dd_By_inverse_5 : decode bb_By_inverse 5 = .ok (.istore_n 3, 1) := by decide +kernel
theorem dd_By_inverse_6 : decode bb_By_inverse 6 = .ok (.iload_n 3, 1) := by decide +kernel
theorem dd_By_inverse_7 : decode bb_By_inverse 7 = .ok (.bipush 8, 2) := by decide +kernel
theorem dd_By_inverse_9 : decode bb_By_inverse 9 = .ok (.if_icmp .ge 25, 3) := by decide +kernel
theorem dd_By_inverse_12 : decode bb_By_inverse 12 = .ok (.iload_n 1, 1) := by decide +kernel
theorem dd_By_inverse_13 : decode bb_By_inverse 13 = .ok (.iload_n 1, 1) := by decide +kernel
theorem dd_By_inverse_14 : decode bb_By_inverse 14 = .ok (.i2l, 1) := by decide +kernel
theorem dd_By_inverse_15 : decode bb_By_inverse 15 = .ok (.invokestatic 15, 3) := by decide +kernel
theorem dd_By_inverse_18 : decode bb_By_inverse 18 = .ok (.l2i, 1) := by decide +kernel
theorem dd_By_inverse_19 : decode bb_By_inverse 19 = .ok (.istore_n 1, 1) := by decide +kernel
theorem dd_By_inverse_20 : decode bb_By_inverse 20 = .ok (.iload_n 2, 1) := by decide +kernel
theorem dd_By_inverse_21 : decode bb_By_inverse 21 = .ok (.iload_n 1, 1) := by decide +kernel
theorem dd_By_inverse_22 : decode bb_By_inverse 22 = .ok (.i2l, 1) := by decide +kernel
theorem dd_By_inverse_23 : decode bb_By_inverse 23 = .ok (.invokestatic 15, 3) := by decide +kernel
theorem dd_By_inverse_26 : decode bb_By_inverse 26 = .ok (.l2i, 1) := by decide +kernel
theorem dd_By_inverse_27 : decode bb_By_inverse 27 = .ok (.istore_n 2, 1) := by decide +kernel
theorem dd_By_inverse_28 : decode bb_By_inverse 28 = .ok (.iinc 3 1, 3) := by decide +kernel
theorem dd_By_inverse_31 : decode bb_By_inverse 31 = .ok (.goto (-25), 3) := by decide +kernel
theorem dd_By_inverse_34 : decode bb_By_inverse 34 = .ok (.iload_n 2, 1) := by decide +kernel
theorem dd_By_inverse_35 : decode bb_By_inverse 35 = .ok (.ireturn, 1) := by decide +kernel
theorem dd_Co_init_0 : decode bb_Co_init 0 = .ok (.aload_n 0, 1) := by decide +kernel
theorem dd_Co_init_1 : decode bb_Co_init 1 = .ok (.invokespecial 3, 3) := by decide +kernel
theorem dd_Co_init_4 : decode bb_Co_init 4 = .ok (.aload_n 0, 1) := by decide +kernel
theorem dd_Co_init_5 : decode bb_Co_init 5 = .ok (.iload_n 1, 1) := by decide +kernel
theorem dd_Co_init_6 : decode bb_Co_init 6 = .ok (.iconst 2, 1) := by decide +kernel
theorem dd_Co_init_7 : decode bb_Co_init 7 = .ok (.if_icmp .ne 8, 3) := by decide +kernel
theorem dd_Co_init_10 : decode bb_Co_init 10 = .ok (.bipush 11, 2) := by decide +kernel
theorem dd_Co_init_12 : decode bb_Co_init 12 = .ok (.goto 5, 3) := by decide +kernel
theorem dd_Co_init_15 : decode bb_Co_init 15 = .ok (.bipush 10, 2) := by decide +kernel
theorem dd_Co_init_17 : decode bb_Co_init 17 = .ok (.putfield 11, 3) := by decide +kernel
theorem dd_Co_init_20 : decode bb_Co_init 20 = .ok (.aload_n 0, 1) := by decide +kernel
theorem dd_Co_init_21 : decode bb_Co_init 21 = .ok (.iload_n 1, 1) := by decide +kernel
theorem dd_Co_init_22 : decode bb_Co_init 22 = .ok (.iconst 1, 1) := by decide +kernel
theorem dd_Co_init_23 : decode bb_Co_init 23 = .ok (.if_icmp .eq 8, 3) := by decide +kernel
theorem dd_Co_init_26 : decode bb_Co_init 26 = .ok (.iload_n 1, 1) := by decide +kernel
theorem dd_Co_init_27 : decode bb_Co_init 27 = .ok (.iconst 2, 1) := by decide +kernel
theorem dd_Co_init_28 : decode bb_Co_init 28 = .ok (.if_icmp .ne 7, 3) := by decide +kernel
theorem dd_Co_init_31 : decode bb_Co_init 31 = .ok (.iconst 1, 1) := by decide +kernel
theorem dd_Co_init_32 : decode bb_Co_init 32 = .ok (.goto 4, 3) := by decide +kernel
theorem dd_Co_init_35 : decode bb_Co_init 35 = .ok (.iconst 0, 1) := by decide +kernel
theorem dd_Co_init_36 : decode bb_Co_init 36 = .ok (.putfield 15, 3) := by decide +kernel
theorem dd_Co_init_39 : decode bb_Co_init 39 = .ok (.aload_n 0, 1) := by decide +kernel
theorem dd_Co_init_40 : decode bb_Co_init 40 = .ok (.aload_n 0, 1) := by decide +kernel
theorem dd_Co_init_41 : decode bb_Co_init 41 = .ok (.getfield 11, 3) := by decide +kernel
theorem dd_Co_init_44 : decode bb_Co_init 44 = .ok (.newarray .long, 2) := by decide +kernel
theorem dd_Co_init_46 : decode bb_Co_init 46 = .ok (.putfield 19, 3) := by decide +kernel
theorem dd_Co_init_49 : decode bb_Co_init 49 = .ok (.iconst 0, 1) := by decide +kernel
theorem dd_Co_init_50 : decode bb_Co_init 50 = .ok (.istore_n 2, 1) := by decide +kernel
theorem dd_Co_init_51 : decode bb_Co_init 51 = .ok (.iload_n 2, 1) := by decide +kernel
theorem dd_Co_init_52 : decode bb_Co_init 52 = .ok (.aload_n 0, 1) := by decide +kernel
theorem dd_Co_init_53 : decode bb_Co_init 53 = .ok (.getfield 11, 3) := by decide +kernel
theorem dd_Co_init_56 : decode bb_Co_init 56 = .ok (.if_icmp .ge 33, 3) := by decide +kernel
theorem dd_Co_init_59 : decode bb_Co_init 59 = .ok (.aload_n 0, 1) := by decide +kernel
theorem dd_Co_init_60 : decode bb_Co_init 60 = .ok (.getfield 19, 3) := by decide +kernel
theorem dd_Co_init_63 : decode bb_Co_init 63 = .ok (.iload_n 2, 1) := by decide +kernel
theorem dd_Co_init_64 : decode bb_Co_init 64 = .ok (.aload_n 0, 1) := by decide +kernel
theorem dd_Co_init_65 : decode bb_Co_init 65 = .ok (.getfield 15, 3) := by decide +kernel
theorem dd_Co_init_68 : decode bb_Co_init 68 = .ok (.ifCond .eq 10, 3) := by decide +kernel
theorem dd_Co_init_71 : decode bb_Co_init 71 = .ok (.iload_n 2, 1) := by decide +kernel
theorem dd_Co_init_72 : decode bb_Co_init 72 = .ok (.invokestatic 23, 3) := by decide +kernel
theorem dd_Co_init_75 : decode bb_Co_init 75 = .ok (.goto 7, 3) := by decide +kernel
theorem dd_Co_init_78 : decode bb_Co_init 78 = .ok (.iload_n 2, 1) := by decide +kernel
theorem dd_Co_init_79 : decode bb_Co_init 79 = .ok (.invokestatic 27, 3) := by decide +kernel
theorem dd_Co_init_82 : decode bb_Co_init 82 = .ok (.lastore, 1) := by decide +kernel
theorem dd_Co_init_83 : decode bb_Co_init 83 = .ok (.iinc 2 1, 3) := by decide +kernel
theorem dd_Co_init_86 : decode bb_Co_init 86 = .ok (.goto (-35), 3) := by decide +kernel
theorem dd_Co_init_89 : decode bb_Co_init 89 = .ok (.return_, 1) := by decide +kernel
theorem dd_Co_plainRow_0 : decode bb_Co_plainRow 0 = .ok (.iload_n 0, 1) := by decide +kernel
theorem dd_Co_plainRow_1 : decode bb_Co_plainRow 1 = .ok (.bipush 6, 2) := by decide +kernel
theorem dd_Co_plainRow_3 : decode bb_Co_plainRow 3 = .ok (.if_icmp .ge 11, 3) := by decide +kernel
theorem dd_Co_plainRow_6 : decode bb_Co_plainRow 6 = .ok (.iconst 1, 1) := by decide +kernel
theorem dd_Co_plainRow_7 : decode bb_Co_plainRow 7 = .ok (.iload_n 0, 1) := by decide +kernel
theorem dd_Co_plainRow_8 : decode bb_Co_plainRow 8 = .ok (.invokestatic 30, 3) := by decide +kernel
theorem dd_Co_plainRow_11 : decode bb_Co_plainRow 11 = .ok (.goto 13, 3) := by decide +kernel
theorem dd_Co_plainRow_14 : decode bb_Co_plainRow 14 = .ok (.bipush 8, 2) := by decide +kernel
theorem dd_Co_plainRow_16 : decode bb_Co_plainRow 16 = .ok (.iload_n 0, 1) := by decide +kernel
theorem dd_Co_plainRow_17 : decode bb_Co_plainRow 17 = .ok (.iadd, 1) := by decide +kernel
theorem dd_Co_plainRow_18 : decode bb_Co_plainRow 18 = .ok (.bipush 6, 2) := by decide +kernel
theorem dd_Co_plainRow_20 : decode bb_Co_plainRow 20 = .ok (.isub, 1) := by decide +kernel
theorem dd_Co_plainRow_21 : decode bb_Co_plainRow 21 = .ok (.invokestatic 36, 3) := by decide +kernel
theorem dd_Co_plainRow_24 : decode bb_Co_plainRow 24 = .ok (.lreturn, 1) := by decide +kernel
theorem dd_Co_groupedRow_0 : decode bb_Co_groupedRow 0 = .ok (.iload_n 0, 1) := by decide +kernel
theorem dd_Co_groupedRow_1 : decode bb_Co_groupedRow 1 = .ok (.bipush 6, 2) := by decide +kernel
theorem dd_Co_groupedRow_3 : decode bb_Co_groupedRow 3 = .ok (.if_icmp .ge 9, 3) := by decide +kernel
theorem dd_Co_groupedRow_6 : decode bb_Co_groupedRow 6 = .ok (.iconst 1, 1) := by decide +kernel
theorem dd_Co_groupedRow_7 : decode bb_Co_groupedRow 7 = .ok (.iload_n 0, 1) := by decide +kernel
theorem dd_Co_groupedRow_8 : decode bb_Co_groupedRow 8 = .ok (.invokestatic 30, 3) := by decide +kernel
theorem dd_Co_groupedRow_11 : decode bb_Co_groupedRow 11 = .ok (.lreturn, 1) := by decide +kernel
theorem dd_Co_groupedRow_12 : decode bb_Co_groupedRow 12 = .ok (.iload_n 0, 1) := by decide +kernel
theorem dd_Co_groupedRow_13 : decode bb_Co_groupedRow 13 = .ok (.tableswitch 51 6 9 #[31, 35, 39, 45], 31) := by decide +kernel
theorem dd_Co_groupedRow_44 : decode bb_Co_groupedRow 44 = .ok (.ldc2_w 39, 3) := by decide +kernel
theorem dd_Co_groupedRow_47 : decode bb_Co_groupedRow 47 = .ok (.lreturn, 1) := by decide +kernel
theorem dd_Co_groupedRow_48 : decode bb_Co_groupedRow 48 = .ok (.ldc2_w 41, 3) := by decide +kernel
theorem dd_Co_groupedRow_51 : decode bb_Co_groupedRow 51 = .ok (.lreturn, 1) := by decide +kernel
theorem dd_Co_groupedRow_52 : decode bb_Co_groupedRow 52 = .ok (.bipush 8, 2) := by decide +kernel
theorem dd_Co_groupedRow_54 : decode bb_Co_groupedRow 54 = .ok (.invokestatic 36, 3) := by decide +kernel
theorem dd_Co_groupedRow_57 : decode bb_Co_groupedRow 57 = .ok (.lreturn, 1) := by decide +kernel
theorem dd_Co_groupedRow_58 : decode bb_Co_groupedRow 58 = .ok (.bipush 9, 2) := by decide +kernel
theorem dd_Co_groupedRow_60 : decode bb_Co_groupedRow 60 = .ok (.invokestatic 36, 3) := by decide +kernel
theorem dd_Co_groupedRow_63 : decode bb_Co_groupedRow 63 = .ok (.lreturn, 1) := by decide +kernel
theorem dd_Co_groupedRow_64 : decode bb_Co_groupedRow 64 = .ok (.bipush 8, 2) := by decide +kernel
theorem dd_Co_groupedRow_66 : decode bb_Co_groupedRow 66 = .ok (.invokestatic 36, 3) := by decide +kernel
theorem dd_Co_groupedRow_69 : decode bb_Co_groupedRow 69 = .ok (.bipush 9, 2) := by decide +kernel
theorem dd_Co_groupedRow_71 : decode bb_Co_groupedRow 71 = .ok (.invokestatic 36, 3) := by decide +kernel
theorem dd_Co_groupedRow_74 : decode bb_Co_groupedRow 74 = .ok (.lxor, 1) := by decide +kernel
theorem dd_Co_groupedRow_75 : decode bb_Co_groupedRow 75 = .ok (.lreturn, 1) := by decide +kernel
theorem dd_Co_inversesRow_0 : decode bb_Co_inversesRow 0 = .ok (.lconst 0, 1) := by decide +kernel
theorem dd_Co_inversesRow_1 : decode bb_Co_inversesRow 1 = .ok (.lstore_n 1, 1) := by decide +kernel
theorem dd_Co_inversesRow_2 : decode bb_Co_inversesRow 2 = .ok (.iconst 0, 1) := by decide +kernel
theorem dd_Co_inversesRow_3 : decode bb_Co_inversesRow 3 = .ok (.istore_n 3, 1) := by decide +kernel
theorem dd_Co_inversesRow_4 : decode bb_Co_inversesRow 4 = .ok (.iload_n 3, 1) := by decide +kernel
theorem dd_Co_inversesRow_5 : decode bb_Co_inversesRow 5 = .ok (.bipush 6, 2) := by decide +kernel
theorem dd_Co_inversesRow_7 : decode bb_Co_inversesRow 7 = .ok (.if_icmp .ge 22, 3) := by decide +kernel
theorem dd_Co_inversesRow_10 : decode bb_Co_inversesRow 10 = .ok (.lload_n 1, 1) := by decide +kernel
theorem dd_Co_inversesRow_11 : decode bb_Co_inversesRow 11 = .ok (.iload_n 0, 1) := by decide +kernel
theorem dd_Co_inversesRow_12 : decode bb_Co_inversesRow 12 = .ok (.iload_n 3, 1) := by decide +kernel
theorem dd_Co_inversesRow_13 : decode bb_Co_inversesRow 13 = .ok (.ixor, 1) := by decide +kernel
theorem dd_Co_inversesRow_14 : decode bb_Co_inversesRow 14 = .ok (.invokestatic 43, 3) := by decide +kernel
theorem dd_Co_inversesRow_17 : decode bb_Co_inversesRow 17 = .ok (.iload_n 3, 1) := by decide +kernel
theorem dd_Co_inversesRow_18 : decode bb_Co_inversesRow 18 = .ok (.invokestatic 30, 3) := by decide +kernel
theorem dd_Co_inversesRow_21 : decode bb_Co_inversesRow 21 = .ok (.lor, 1) := by decide +kernel
theorem dd_Co_inversesRow_22 : decode bb_Co_inversesRow 22 = .ok (.lstore_n 1, 1) := by decide +kernel
theorem dd_Co_inversesRow_23 : decode bb_Co_inversesRow 23 = .ok (.iinc 3 1, 3) := by decide +kernel
theorem dd_Co_inversesRow_26 : decode bb_Co_inversesRow 26 = .ok (.goto (-22), 3) := by decide +kernel
theorem dd_Co_inversesRow_29 : decode bb_Co_inversesRow 29 = .ok (.lload_n 1, 1) := by decide +kernel
theorem dd_Co_inversesRow_30 : decode bb_Co_inversesRow 30 = .ok (.lreturn, 1) := by decide +kernel
theorem dd_Co_groupOf_0 : decode bb_Co_groupOf 0 = .ok (.aload_n 0, 1) := by decide +kernel
theorem dd_Co_groupOf_1 : decode bb_Co_groupOf 1 = .ok (.getfield 15, 3) := by decide +kernel
theorem dd_Co_groupOf_4 : decode bb_Co_groupOf 4 = .ok (.ifCond .ne 5, 3) := by decide +kernel
theorem dd_Co_groupOf_7 : decode bb_Co_groupOf 7 = .ok (.iconst 0, 1) := by decide +kernel
theorem dd_Co_groupOf_8 : decode bb_Co_groupOf 8 = .ok (.ireturn, 1) := by decide +kernel
theorem dd_Co_groupOf_9 : decode bb_Co_groupOf 9 = .ok (.bipush 71, 2) := by decide +kernel
theorem dd_Co_groupOf_11 : decode bb_Co_groupOf 11 = .ok (.iload_n 1, 1) := by decide +kernel
theorem dd_Co_groupOf_12 : decode bb_Co_groupOf 12 = .ok (.invokestatic 47, 3) := by decide +kernel
theorem dd_Co_groupOf_15 : decode bb_Co_groupOf 15 = .ok (.ifCond .eq 6, 3) := by decide +kernel
theorem dd_Co_groupOf_18 : decode bb_Co_groupOf 18 = .ok (.bipush 71, 2) := by decide +kernel
theorem dd_Co_groupOf_20 : decode bb_Co_groupOf 20 = .ok (.ireturn, 1) := by decide +kernel
theorem dd_Co_groupOf_21 : decode bb_Co_groupOf 21 = .ok (.sipush 184, 3) := by decide +kernel
theorem dd_Co_groupOf_24 : decode bb_Co_groupOf 24 = .ok (.iload_n 1, 1) := by decide +kernel
theorem dd_Co_groupOf_25 : decode bb_Co_groupOf 25 = .ok (.invokestatic 47, 3) := by decide +kernel
theorem dd_Co_groupOf_28 : decode bb_Co_groupOf 28 = .ok (.ifCond .eq 7, 3) := by decide +kernel
theorem dd_Co_groupOf_31 : decode bb_Co_groupOf 31 = .ok (.sipush 184, 3) := by decide +kernel
theorem dd_Co_groupOf_34 : decode bb_Co_groupOf 34 = .ok (.ireturn, 1) := by decide +kernel
theorem dd_Co_groupOf_35 : decode bb_Co_groupOf 35 = .ok (.aload_n 0, 1) := by decide +kernel
theorem dd_Co_groupOf_36 : decode bb_Co_groupOf 36 = .ok (.getfield 11, 3) := by decide +kernel
theorem dd_Co_groupOf_39 : decode bb_Co_groupOf 39 = .ok (.bipush 11, 2) := by decide +kernel
theorem dd_Co_groupOf_41 : decode bb_Co_groupOf 41 = .ok (.if_icmp .ne 9, 3) := by decide +kernel
theorem dd_Co_groupOf_44 : decode bb_Co_groupOf 44 = .ok (.sipush 1792, 3) := by decide +kernel
theorem dd_Co_groupOf_47 : decode bb_Co_groupOf 47 = .ok (.goto 4, 3) := by decide +kernel
theorem dd_Co_groupOf_50 : decode bb_Co_groupOf 50 = .ok (.iconst 0, 1) := by decide +kernel
theorem dd_Co_groupOf_51 : decode bb_Co_groupOf 51 = .ok (.ireturn, 1) := by decide +kernel
theorem dd_Sp_init_0 : decode bb_Sp_init 0 = .ok (.aload_n 0, 1) := by decide +kernel
theorem dd_Sp_init_1 : decode bb_Sp_init 1 = .ok (.invokespecial 3, 3) := by decide +kernel
theorem dd_Sp_init_4 : decode bb_Sp_init 4 = .ok (.aload_n 0, 1) := by decide +kernel
theorem dd_Sp_init_5 : decode bb_Sp_init 5 = .ok (.bipush 6, 2) := by decide +kernel
theorem dd_Sp_init_7 : decode bb_Sp_init 7 = .ok (.newarray .long, 2) := by decide +kernel
theorem dd_Sp_init_9 : decode bb_Sp_init 9 = .ok (.putfield 9, 3) := by decide +kernel
theorem dd_Sp_init_12 : decode bb_Sp_init 12 = .ok (.aload_n 0, 1) := by decide +kernel
theorem dd_Sp_init_13 : decode bb_Sp_init 13 = .ok (.bipush 6, 2) := by decide +kernel
theorem dd_Sp_init_15 : decode bb_Sp_init 15 = .ok (.newarray .long, 2) := by decide +kernel
theorem dd_Sp_init_17 : decode bb_Sp_init 17 = .ok (.putfield 15, 3) := by decide +kernel
theorem dd_Sp_init_20 : decode bb_Sp_init 20 = .ok (.return_, 1) := by decide +kernel
theorem dd_Sp_clear_0 : decode bb_Sp_clear 0 = .ok (.iconst 0, 1) := by decide +kernel
theorem dd_Sp_clear_1 : decode bb_Sp_clear 1 = .ok (.istore_n 1, 1) := by decide +kernel
theorem dd_Sp_clear_2 : decode bb_Sp_clear 2 = .ok (.iload_n 1, 1) := by decide +kernel
theorem dd_Sp_clear_3 : decode bb_Sp_clear 3 = .ok (.bipush 6, 2) := by decide +kernel
theorem dd_Sp_clear_5 : decode bb_Sp_clear 5 = .ok (.if_icmp .ge 23, 3) := by decide +kernel
theorem dd_Sp_clear_8 : decode bb_Sp_clear 8 = .ok (.aload_n 0, 1) := by decide +kernel
theorem dd_Sp_clear_9 : decode bb_Sp_clear 9 = .ok (.getfield 9, 3) := by decide +kernel
theorem dd_Sp_clear_12 : decode bb_Sp_clear 12 = .ok (.iload_n 1, 1) := by decide +kernel
theorem dd_Sp_clear_13 : decode bb_Sp_clear 13 = .ok (.lconst 0, 1) := by decide +kernel
theorem dd_Sp_clear_14 : decode bb_Sp_clear 14 = .ok (.lastore, 1) := by decide +kernel
theorem dd_Sp_clear_15 : decode bb_Sp_clear 15 = .ok (.aload_n 0, 1) := by decide +kernel
theorem dd_Sp_clear_16 : decode bb_Sp_clear 16 = .ok (.getfield 15, 3) := by decide +kernel
theorem dd_Sp_clear_19 : decode bb_Sp_clear 19 = .ok (.iload_n 1, 1) := by decide +kernel
theorem dd_Sp_clear_20 : decode bb_Sp_clear 20 = .ok (.lconst 0, 1) := by decide +kernel
theorem dd_Sp_clear_21 : decode bb_Sp_clear 21 = .ok (.lastore, 1) := by decide +kernel
theorem dd_Sp_clear_22 : decode bb_Sp_clear 22 = .ok (.iinc 1 1, 3) := by decide +kernel
theorem dd_Sp_clear_25 : decode bb_Sp_clear 25 = .ok (.goto (-23), 3) := by decide +kernel
theorem dd_Sp_clear_28 : decode bb_Sp_clear 28 = .ok (.return_, 1) := by decide +kernel
theorem dd_Sp_take_0 : decode bb_Sp_take 0 = .ok (.lload_n 1, 1) := by decide +kernel
theorem dd_Sp_take_1 : decode bb_Sp_take 1 = .ok (.lstore 5, 2) := by decide +kernel
theorem dd_Sp_take_3 : decode bb_Sp_take 3 = .ok (.lload_n 3, 1) := by decide +kernel
theorem dd_Sp_take_4 : decode bb_Sp_take 4 = .ok (.lstore 7, 2) := by decide +kernel
theorem dd_Sp_take_6 : decode bb_Sp_take 6 = .ok (.iconst 0, 1) := by decide +kernel
theorem dd_Sp_take_7 : decode bb_Sp_take 7 = .ok (.istore 9, 2) := by decide +kernel
theorem dd_Sp_take_9 : decode bb_Sp_take 9 = .ok (.iload 9, 2) := by decide +kernel
theorem dd_Sp_take_11 : decode bb_Sp_take 11 = .ok (.bipush 6, 2) := by decide +kernel
theorem dd_Sp_take_13 : decode bb_Sp_take 13 = .ok (.if_icmp .ge 106, 3) := by decide +kernel
theorem dd_Sp_take_16 : decode bb_Sp_take 16 = .ok (.lload 5, 2) := by decide +kernel
theorem dd_Sp_take_18 : decode bb_Sp_take 18 = .ok (.iload 9, 2) := by decide +kernel
theorem dd_Sp_take_20 : decode bb_Sp_take 20 = .ok (.invokestatic 18, 3) := by decide +kernel
theorem dd_Sp_take_23 : decode bb_Sp_take 23 = .ok (.istore 10, 2) := by decide +kernel
theorem dd_Sp_take_25 : decode bb_Sp_take 25 = .ok (.iload 10, 2) := by decide +kernel
theorem dd_Sp_take_27 : decode bb_Sp_take 27 = .ok (.ifCond .eq 52, 3) := by decide +kernel
theorem dd_Sp_take_30 : decode bb_Sp_take 30 = .ok (.aload_n 0, 1) := by decide +kernel
theorem dd_Sp_take_31 : decode bb_Sp_take 31 = .ok (.getfield 9, 3) := by decide +kernel
theorem dd_Sp_take_34 : decode bb_Sp_take 34 = .ok (.iload 9, 2) := by decide +kernel
theorem dd_Sp_take_36 : decode bb_Sp_take 36 = .ok (.laload, 1) := by decide +kernel
theorem dd_Sp_take_37 : decode bb_Sp_take 37 = .ok (.lconst 0, 1) := by decide +kernel
theorem dd_Sp_take_38 : decode bb_Sp_take 38 = .ok (.lcmp, 1) := by decide +kernel
theorem dd_Sp_take_39 : decode bb_Sp_take 39 = .ok (.ifCond .ne 40, 3) := by decide +kernel
theorem dd_Sp_take_42 : decode bb_Sp_take 42 = .ok (.iload 10, 2) := by decide +kernel
theorem dd_Sp_take_44 : decode bb_Sp_take 44 = .ok (.invokestatic 24, 3) := by decide +kernel
theorem dd_Sp_take_47 : decode bb_Sp_take 47 = .ok (.istore 11, 2) := by decide +kernel
theorem dd_Sp_take_49 : decode bb_Sp_take 49 = .ok (.aload_n 0, 1) := by decide +kernel
theorem dd_Sp_take_50 : decode bb_Sp_take 50 = .ok (.getfield 9, 3) := by decide +kernel
theorem dd_Sp_take_53 : decode bb_Sp_take 53 = .ok (.iload 9, 2) := by decide +kernel
theorem dd_Sp_take_55 : decode bb_Sp_take 55 = .ok (.iload 11, 2) := by decide +kernel
theorem dd_Sp_take_57 : decode bb_Sp_take 57 = .ok (.lload 5, 2) := by decide +kernel
theorem dd_Sp_take_59 : decode bb_Sp_take 59 = .ok (.invokestatic 28, 3) := by decide +kernel
theorem dd_Sp_take_62 : decode bb_Sp_take 62 = .ok (.lastore, 1) := by decide +kernel
theorem dd_Sp_take_63 : decode bb_Sp_take 63 = .ok (.aload_n 0, 1) := by decide +kernel
theorem dd_Sp_take_64 : decode bb_Sp_take 64 = .ok (.getfield 15, 3) := by decide +kernel
theorem dd_Sp_take_67 : decode bb_Sp_take 67 = .ok (.iload 9, 2) := by decide +kernel
theorem dd_Sp_take_69 : decode bb_Sp_take 69 = .ok (.iload 11, 2) := by decide +kernel
theorem dd_Sp_take_71 : decode bb_Sp_take 71 = .ok (.lload 7, 2) := by decide +kernel
theorem dd_Sp_take_73 : decode bb_Sp_take 73 = .ok (.invokestatic 28, 3) := by decide +kernel
theorem dd_Sp_take_76 : decode bb_Sp_take 76 = .ok (.lastore, 1) := by decide +kernel
theorem dd_Sp_take_77 : decode bb_Sp_take 77 = .ok (.iconst 1, 1) := by decide +kernel
theorem dd_Sp_take_78 : decode bb_Sp_take 78 = .ok (.ireturn, 1) := by decide +kernel
theorem dd_Sp_take_79 : decode bb_Sp_take 79 = .ok (.lload 5, 2) := by decide +kernel
theorem dd_Sp_take_81 : decode bb_Sp_take 81 = .ok (.iload 10, 2) := by decide +kernel
theorem dd_Sp_take_83 : decode bb_Sp_take 83 = .ok (.aload_n 0, 1) := by decide +kernel
theorem dd_Sp_take_84 : decode bb_Sp_take 84 = .ok (.getfield 9, 3) := by decide +kernel
theorem dd_Sp_take_87 : decode bb_Sp_take 87 = .ok (.iload 9, 2) := by decide +kernel
theorem dd_Sp_take_89 : decode bb_Sp_take 89 = .ok (.laload, 1) := by decide +kernel
theorem dd_Sp_take_90 : decode bb_Sp_take 90 = .ok (.invokestatic 28, 3) := by decide +kernel
theorem dd_Sp_take_93 : decode bb_Sp_take 93 = .ok (.lxor, 1) := by decide +kernel
theorem dd_Sp_take_94 : decode bb_Sp_take 94 = .ok (.lstore 5, 2) := by decide +kernel
theorem dd_Sp_take_96 : decode bb_Sp_take 96 = .ok (.lload 7, 2) := by decide +kernel
theorem dd_Sp_take_98 : decode bb_Sp_take 98 = .ok (.iload 10, 2) := by decide +kernel
theorem dd_Sp_take_100 : decode bb_Sp_take 100 = .ok (.aload_n 0, 1) := by decide +kernel
theorem dd_Sp_take_101 : decode bb_Sp_take 101 = .ok (.getfield 15, 3) := by decide +kernel
theorem dd_Sp_take_104 : decode bb_Sp_take 104 = .ok (.iload 9, 2) := by decide +kernel
theorem dd_Sp_take_106 : decode bb_Sp_take 106 = .ok (.laload, 1) := by decide +kernel
theorem dd_Sp_take_107 : decode bb_Sp_take 107 = .ok (.invokestatic 28, 3) := by decide +kernel
theorem dd_Sp_take_110 : decode bb_Sp_take 110 = .ok (.lxor, 1) := by decide +kernel
theorem dd_Sp_take_111 : decode bb_Sp_take 111 = .ok (.lstore 7, 2) := by decide +kernel
theorem dd_Sp_take_113 : decode bb_Sp_take 113 = .ok (.iinc 9 1, 3) := by decide +kernel
theorem dd_Sp_take_116 : decode bb_Sp_take 116 = .ok (.goto (-107), 3) := by decide +kernel
theorem dd_Sp_take_119 : decode bb_Sp_take 119 = .ok (.iconst 0, 1) := by decide +kernel
theorem dd_Sp_take_120 : decode bb_Sp_take 120 = .ok (.ireturn, 1) := by decide +kernel
theorem dd_Sp_valueOf_0 : decode bb_Sp_valueOf 0 = .ok (.lload_n 1, 1) := by decide +kernel
theorem dd_Sp_valueOf_1 : decode bb_Sp_valueOf 1 = .ok (.lstore_n 3, 1) := by decide +kernel
theorem dd_Sp_valueOf_2 : decode bb_Sp_valueOf 2 = .ok (.lconst 0, 1) := by decide +kernel
theorem dd_Sp_valueOf_3 : decode bb_Sp_valueOf 3 = .ok (.lstore 5, 2) := by decide +kernel
theorem dd_Sp_valueOf_5 : decode bb_Sp_valueOf 5 = .ok (.iconst 0, 1) := by decide +kernel
theorem dd_Sp_valueOf_6 : decode bb_Sp_valueOf 6 = .ok (.istore 7, 2) := by decide +kernel
theorem dd_Sp_valueOf_8 : decode bb_Sp_valueOf 8 = .ok (.iload 7, 2) := by decide +kernel
theorem dd_Sp_valueOf_10 : decode bb_Sp_valueOf 10 = .ok (.bipush 6, 2) := by decide +kernel
theorem dd_Sp_valueOf_12 : decode bb_Sp_valueOf 12 = .ok (.if_icmp .ge 49, 3) := by decide +kernel
theorem dd_Sp_valueOf_15 : decode bb_Sp_valueOf 15 = .ok (.lload_n 3, 1) := by decide +kernel
theorem dd_Sp_valueOf_16 : decode bb_Sp_valueOf 16 = .ok (.iload 7, 2) := by decide +kernel
theorem dd_Sp_valueOf_18 : decode bb_Sp_valueOf 18 = .ok (.invokestatic 18, 3) := by decide +kernel
theorem dd_Sp_valueOf_21 : decode bb_Sp_valueOf 21 = .ok (.istore 8, 2) := by decide +kernel
theorem dd_Sp_valueOf_23 : decode bb_Sp_valueOf 23 = .ok (.lload_n 3, 1) := by decide +kernel
theorem dd_Sp_valueOf_24 : decode bb_Sp_valueOf 24 = .ok (.iload 8, 2) := by decide +kernel
theorem dd_Sp_valueOf_26 : decode bb_Sp_valueOf 26 = .ok (.aload_n 0, 1) := by decide +kernel
theorem dd_Sp_valueOf_27 : decode bb_Sp_valueOf 27 = .ok (.getfield 9, 3) := by decide +kernel
theorem dd_Sp_valueOf_30 : decode bb_Sp_valueOf 30 = .ok (.iload 7, 2) := by decide +kernel
theorem dd_Sp_valueOf_32 : decode bb_Sp_valueOf 32 = .ok (.laload, 1) := by decide +kernel
theorem dd_Sp_valueOf_33 : decode bb_Sp_valueOf 33 = .ok (.invokestatic 28, 3) := by decide +kernel
theorem dd_Sp_valueOf_36 : decode bb_Sp_valueOf 36 = .ok (.lxor, 1) := by decide +kernel
theorem dd_Sp_valueOf_37 : decode bb_Sp_valueOf 37 = .ok (.lstore_n 3, 1) := by decide +kernel
theorem dd_Sp_valueOf_38 : decode bb_Sp_valueOf 38 = .ok (.lload 5, 2) := by decide +kernel
theorem dd_Sp_valueOf_40 : decode bb_Sp_valueOf 40 = .ok (.iload 8, 2) := by decide +kernel
theorem dd_Sp_valueOf_42 : decode bb_Sp_valueOf 42 = .ok (.aload_n 0, 1) := by decide +kernel
theorem dd_Sp_valueOf_43 : decode bb_Sp_valueOf 43 = .ok (.getfield 15, 3) := by decide +kernel
theorem dd_Sp_valueOf_46 : decode bb_Sp_valueOf 46 = .ok (.iload 7, 2) := by decide +kernel
theorem dd_Sp_valueOf_48 : decode bb_Sp_valueOf 48 = .ok (.laload, 1) := by decide +kernel
theorem dd_Sp_valueOf_49 : decode bb_Sp_valueOf 49 = .ok (.invokestatic 28, 3) := by decide +kernel
theorem dd_Sp_valueOf_52 : decode bb_Sp_valueOf 52 = .ok (.lxor, 1) := by decide +kernel
theorem dd_Sp_valueOf_53 : decode bb_Sp_valueOf 53 = .ok (.lstore 5, 2) := by decide +kernel
theorem dd_Sp_valueOf_55 : decode bb_Sp_valueOf 55 = .ok (.iinc 7 1, 3) := by decide +kernel
theorem dd_Sp_valueOf_58 : decode bb_Sp_valueOf 58 = .ok (.goto (-50), 3) := by decide +kernel
theorem dd_Sp_valueOf_61 : decode bb_Sp_valueOf 61 = .ok (.lload 5, 2) := by decide +kernel
theorem dd_Sp_valueOf_63 : decode bb_Sp_valueOf 63 = .ok (.lreturn, 1) := by decide +kernel
theorem dd_Sq_init_0 : decode bb_Sq_init 0 = .ok (.aload_n 0, 1) := by decide +kernel
theorem dd_Sq_init_1 : decode bb_Sq_init 1 = .ok (.invokespecial 3, 3) := by decide +kernel
theorem dd_Sq_init_4 : decode bb_Sq_init 4 = .ok (.aload_n 0, 1) := by decide +kernel
theorem dd_Sq_init_5 : decode bb_Sq_init 5 = .ok (.iconst 5, 1) := by decide +kernel
theorem dd_Sq_init_6 : decode bb_Sq_init 6 = .ok (.iload_n 1, 1) := by decide +kernel
theorem dd_Sq_init_7 : decode bb_Sq_init 7 = .ok (.imul, 1) := by decide +kernel
theorem dd_Sq_init_8 : decode bb_Sq_init 8 = .ok (.putfield 11, 3) := by decide +kernel
theorem dd_Sq_init_11 : decode bb_Sq_init 11 = .ok (.aload_n 0, 1) := by decide +kernel
theorem dd_Sq_init_12 : decode bb_Sq_init 12 = .ok (.iconst 1, 1) := by decide +kernel
theorem dd_Sq_init_13 : decode bb_Sq_init 13 = .ok (.iload_n 2, 1) := by decide +kernel
theorem dd_Sq_init_14 : decode bb_Sq_init 14 = .ok (.ishl, 1) := by decide +kernel
theorem dd_Sq_init_15 : decode bb_Sq_init 15 = .ok (.iconst 1, 1) := by decide +kernel
theorem dd_Sq_init_16 : decode bb_Sq_init 16 = .ok (.isub, 1) := by decide +kernel
theorem dd_Sq_init_17 : decode bb_Sq_init 17 = .ok (.putfield 15, 3) := by decide +kernel
theorem dd_Sq_init_20 : decode bb_Sq_init 20 = .ok (.aload_n 0, 1) := by decide +kernel
theorem dd_Sq_init_21 : decode bb_Sq_init 21 = .ok (.iload_n 2, 1) := by decide +kernel
theorem dd_Sq_init_22 : decode bb_Sq_init 22 = .ok (.newarray .long, 2) := by decide +kernel
theorem dd_Sq_init_24 : decode bb_Sq_init 24 = .ok (.putfield 18, 3) := by decide +kernel
theorem dd_Sq_init_27 : decode bb_Sq_init 27 = .ok (.aload_n 0, 1) := by decide +kernel
theorem dd_Sq_init_28 : decode bb_Sq_init 28 = .ok (.iload_n 2, 1) := by decide +kernel
theorem dd_Sq_init_29 : decode bb_Sq_init 29 = .ok (.newarray .long, 2) := by decide +kernel
theorem dd_Sq_init_31 : decode bb_Sq_init 31 = .ok (.putfield 22, 3) := by decide +kernel
theorem dd_Sq_init_34 : decode bb_Sq_init 34 = .ok (.aload_n 0, 1) := by decide +kernel
theorem dd_Sq_init_35 : decode bb_Sq_init 35 = .ok (.aload_n 0, 1) := by decide +kernel
theorem dd_Sq_init_36 : decode bb_Sq_init 36 = .ok (.getfield 15, 3) := by decide +kernel
theorem dd_Sq_init_39 : decode bb_Sq_init 39 = .ok (.putfield 25, 3) := by decide +kernel
theorem dd_Sq_init_42 : decode bb_Sq_init 42 = .ok (.return_, 1) := by decide +kernel
theorem dd_Sq_nodeOf_0 : decode bb_Sq_nodeOf 0 = .ok (.aload_n 0, 1) := by decide +kernel
theorem dd_Sq_nodeOf_1 : decode bb_Sq_nodeOf 1 = .ok (.getfield 11, 3) := by decide +kernel
theorem dd_Sq_nodeOf_4 : decode bb_Sq_nodeOf 4 = .ok (.iload_n 1, 1) := by decide +kernel
theorem dd_Sq_nodeOf_5 : decode bb_Sq_nodeOf 5 = .ok (.iadd, 1) := by decide +kernel
theorem dd_Sq_nodeOf_6 : decode bb_Sq_nodeOf 6 = .ok (.bipush 12, 2) := by decide +kernel
theorem dd_Sq_nodeOf_8 : decode bb_Sq_nodeOf 8 = .ok (.irem, 1) := by decide +kernel
theorem dd_Sq_nodeOf_9 : decode bb_Sq_nodeOf 9 = .ok (.ireturn, 1) := by decide +kernel
theorem dd_Sq_isThere_0 : decode bb_Sq_isThere 0 = .ok (.aload_n 0, 1) := by decide +kernel
theorem dd_Sq_isThere_1 : decode bb_Sq_isThere 1 = .ok (.getfield 25, 3) := by decide +kernel
theorem dd_Sq_isThere_4 : decode bb_Sq_isThere 4 = .ok (.iload_n 1, 1) := by decide +kernel
theorem dd_Sq_isThere_5 : decode bb_Sq_isThere 5 = .ok (.invokestatic 28, 3) := by decide +kernel
theorem dd_Sq_isThere_8 : decode bb_Sq_isThere 8 = .ok (.ireturn, 1) := by decide +kernel
theorem dd_Sq_lostMask_0 : decode bb_Sq_lostMask 0 = .ok (.aload_n 0, 1) := by decide +kernel
theorem dd_Sq_lostMask_1 : decode bb_Sq_lostMask 1 = .ok (.getfield 15, 3) := by decide +kernel
theorem dd_Sq_lostMask_4 : decode bb_Sq_lostMask 4 = .ok (.aload_n 0, 1) := by decide +kernel
theorem dd_Sq_lostMask_5 : decode bb_Sq_lostMask 5 = .ok (.getfield 25, 3) := by decide +kernel
theorem dd_Sq_lostMask_8 : decode bb_Sq_lostMask 8 = .ok (.iconst (-1), 1) := by decide +kernel
theorem dd_Sq_lostMask_9 : decode bb_Sq_lostMask 9 = .ok (.ixor, 1) := by decide +kernel
theorem dd_Sq_lostMask_10 : decode bb_Sq_lostMask 10 = .ok (.iand, 1) := by decide +kernel
theorem dd_Sq_lostMask_11 : decode bb_Sq_lostMask 11 = .ok (.ireturn, 1) := by decide +kernel
theorem dd_Sq_isDamaged_0 : decode bb_Sq_isDamaged 0 = .ok (.aload_n 0, 1) := by decide +kernel
theorem dd_Sq_isDamaged_1 : decode bb_Sq_isDamaged 1 = .ok (.getfield 22, 3) := by decide +kernel
theorem dd_Sq_isDamaged_4 : decode bb_Sq_isDamaged 4 = .ok (.iload_n 1, 1) := by decide +kernel
theorem dd_Sq_isDamaged_5 : decode bb_Sq_isDamaged 5 = .ok (.laload, 1) := by decide +kernel
theorem dd_Sq_isDamaged_6 : decode bb_Sq_isDamaged 6 = .ok (.lconst 0, 1) := by decide +kernel
theorem dd_Sq_isDamaged_7 : decode bb_Sq_isDamaged 7 = .ok (.lcmp, 1) := by decide +kernel
theorem dd_Sq_isDamaged_8 : decode bb_Sq_isDamaged 8 = .ok (.ifCond .eq 7, 3) := by decide +kernel
theorem dd_Sq_isDamaged_11 : decode bb_Sq_isDamaged 11 = .ok (.iconst 1, 1) := by decide +kernel
theorem dd_Sq_isDamaged_12 : decode bb_Sq_isDamaged 12 = .ok (.goto 4, 3) := by decide +kernel
theorem dd_Sq_isDamaged_15 : decode bb_Sq_isDamaged 15 = .ok (.iconst 0, 1) := by decide +kernel
theorem dd_Sq_isDamaged_16 : decode bb_Sq_isDamaged 16 = .ok (.ireturn, 1) := by decide +kernel
theorem dd_Sq_held_0 : decode bb_Sq_held 0 = .ok (.aload_n 0, 1) := by decide +kernel
theorem dd_Sq_held_1 : decode bb_Sq_held 1 = .ok (.getfield 18, 3) := by decide +kernel
theorem dd_Sq_held_4 : decode bb_Sq_held 4 = .ok (.iload_n 1, 1) := by decide +kernel
theorem dd_Sq_held_5 : decode bb_Sq_held 5 = .ok (.laload, 1) := by decide +kernel
theorem dd_Sq_held_6 : decode bb_Sq_held 6 = .ok (.aload_n 0, 1) := by decide +kernel
theorem dd_Sq_held_7 : decode bb_Sq_held 7 = .ok (.getfield 22, 3) := by decide +kernel
theorem dd_Sq_held_10 : decode bb_Sq_held 10 = .ok (.iload_n 1, 1) := by decide +kernel
theorem dd_Sq_held_11 : decode bb_Sq_held 11 = .ok (.laload, 1) := by decide +kernel
theorem dd_Sq_held_12 : decode bb_Sq_held 12 = .ok (.lxor, 1) := by decide +kernel
theorem dd_Sq_held_13 : decode bb_Sq_held 13 = .ok (.lreturn, 1) := by decide +kernel
theorem dd_Sq_flip_0 : decode bb_Sq_flip 0 = .ok (.aload_n 0, 1) := by decide +kernel
theorem dd_Sq_flip_1 : decode bb_Sq_flip 1 = .ok (.getfield 22, 3) := by decide +kernel
theorem dd_Sq_flip_4 : decode bb_Sq_flip 4 = .ok (.iload_n 1, 1) := by decide +kernel
theorem dd_Sq_flip_5 : decode bb_Sq_flip 5 = .ok (.dup2, 1) := by decide +kernel
theorem dd_Sq_flip_6 : decode bb_Sq_flip 6 = .ok (.laload, 1) := by decide +kernel
theorem dd_Sq_flip_7 : decode bb_Sq_flip 7 = .ok (.lconst 1, 1) := by decide +kernel
theorem dd_Sq_flip_8 : decode bb_Sq_flip 8 = .ok (.iload_n 2, 1) := by decide +kernel
theorem dd_Sq_flip_9 : decode bb_Sq_flip 9 = .ok (.lshl, 1) := by decide +kernel
theorem dd_Sq_flip_10 : decode bb_Sq_flip 10 = .ok (.lxor, 1) := by decide +kernel
theorem dd_Sq_flip_11 : decode bb_Sq_flip 11 = .ok (.lastore, 1) := by decide +kernel
theorem dd_Sq_flip_12 : decode bb_Sq_flip 12 = .ok (.return_, 1) := by decide +kernel
theorem dd_Sq_lose_0 : decode bb_Sq_lose 0 = .ok (.aload_n 0, 1) := by decide +kernel
theorem dd_Sq_lose_1 : decode bb_Sq_lose 1 = .ok (.dup, 1) := by decide +kernel
theorem dd_Sq_lose_2 : decode bb_Sq_lose 2 = .ok (.getfield 25, 3) := by decide +kernel
theorem dd_Sq_lose_5 : decode bb_Sq_lose 5 = .ok (.iconst 1, 1) := by decide +kernel
theorem dd_Sq_lose_6 : decode bb_Sq_lose 6 = .ok (.iload_n 1, 1) := by decide +kernel
theorem dd_Sq_lose_7 : decode bb_Sq_lose 7 = .ok (.ishl, 1) := by decide +kernel
theorem dd_Sq_lose_8 : decode bb_Sq_lose 8 = .ok (.iconst (-1), 1) := by decide +kernel
theorem dd_Sq_lose_9 : decode bb_Sq_lose 9 = .ok (.ixor, 1) := by decide +kernel
theorem dd_Sq_lose_10 : decode bb_Sq_lose 10 = .ok (.iand, 1) := by decide +kernel
theorem dd_Sq_lose_11 : decode bb_Sq_lose 11 = .ok (.putfield 25, 3) := by decide +kernel
theorem dd_Sq_lose_14 : decode bb_Sq_lose 14 = .ok (.return_, 1) := by decide +kernel
theorem dd_Sq_store_0 : decode bb_Sq_store 0 = .ok (.aload_n 0, 1) := by decide +kernel
theorem dd_Sq_store_1 : decode bb_Sq_store 1 = .ok (.getfield 18, 3) := by decide +kernel
theorem dd_Sq_store_4 : decode bb_Sq_store 4 = .ok (.iload_n 1, 1) := by decide +kernel
theorem dd_Sq_store_5 : decode bb_Sq_store 5 = .ok (.lload_n 2, 1) := by decide +kernel
theorem dd_Sq_store_6 : decode bb_Sq_store 6 = .ok (.lastore, 1) := by decide +kernel
theorem dd_Sq_store_7 : decode bb_Sq_store 7 = .ok (.aload_n 0, 1) := by decide +kernel
theorem dd_Sq_store_8 : decode bb_Sq_store 8 = .ok (.getfield 22, 3) := by decide +kernel
theorem dd_Sq_store_11 : decode bb_Sq_store 11 = .ok (.iload_n 1, 1) := by decide +kernel
theorem dd_Sq_store_12 : decode bb_Sq_store 12 = .ok (.lconst 0, 1) := by decide +kernel
theorem dd_Sq_store_13 : decode bb_Sq_store 13 = .ok (.lastore, 1) := by decide +kernel
theorem dd_Sq_store_14 : decode bb_Sq_store 14 = .ok (.aload_n 0, 1) := by decide +kernel
theorem dd_Sq_store_15 : decode bb_Sq_store 15 = .ok (.dup, 1) := by decide +kernel
theorem dd_Sq_store_16 : decode bb_Sq_store 16 = .ok (.getfield 25, 3) := by decide +kernel
theorem dd_Sq_store_19 : decode bb_Sq_store 19 = .ok (.iconst 1, 1) := by decide +kernel
theorem dd_Sq_store_20 : decode bb_Sq_store 20 = .ok (.iload_n 1, 1) := by decide +kernel
theorem dd_Sq_store_21 : decode bb_Sq_store 21 = .ok (.ishl, 1) := by decide +kernel
theorem dd_Sq_store_22 : decode bb_Sq_store 22 = .ok (.ior, 1) := by decide +kernel
theorem dd_Sq_store_23 : decode bb_Sq_store 23 = .ok (.putfield 25, 3) := by decide +kernel
theorem dd_Sq_store_26 : decode bb_Sq_store 26 = .ok (.return_, 1) := by decide +kernel
theorem dd_In_bitCount_0 : decode bb_In_bitCount 0 = .ok (.iload_n 0, 1) := by decide +kernel
theorem dd_In_bitCount_1 : decode bb_In_bitCount 1 = .ok (.iload_n 0, 1) := by decide +kernel
theorem dd_In_bitCount_2 : decode bb_In_bitCount 2 = .ok (.iconst 1, 1) := by decide +kernel
theorem dd_In_bitCount_3 : decode bb_In_bitCount 3 = .ok (.iushr, 1) := by decide +kernel
theorem dd_In_bitCount_4 : decode bb_In_bitCount 4 = .ok (.ldc_w 265, 3) := by decide +kernel
theorem dd_In_bitCount_7 : decode bb_In_bitCount 7 = .ok (.iand, 1) := by decide +kernel
theorem dd_In_bitCount_8 : decode bb_In_bitCount 8 = .ok (.isub, 1) := by decide +kernel
theorem dd_In_bitCount_9 : decode bb_In_bitCount 9 = .ok (.istore_n 0, 1) := by decide +kernel
theorem dd_In_bitCount_10 : decode bb_In_bitCount 10 = .ok (.iload_n 0, 1) := by decide +kernel
theorem dd_In_bitCount_11 : decode bb_In_bitCount 11 = .ok (.ldc_w 266, 3) := by decide +kernel
theorem dd_In_bitCount_14 : decode bb_In_bitCount 14 = .ok (.iand, 1) := by decide +kernel
theorem dd_In_bitCount_15 : decode bb_In_bitCount 15 = .ok (.iload_n 0, 1) := by decide +kernel
theorem dd_In_bitCount_16 : decode bb_In_bitCount 16 = .ok (.iconst 2, 1) := by decide +kernel
theorem dd_In_bitCount_17 : decode bb_In_bitCount 17 = .ok (.iushr, 1) := by decide +kernel
theorem dd_In_bitCount_18 : decode bb_In_bitCount 18 = .ok (.ldc_w 266, 3) := by decide +kernel
theorem dd_In_bitCount_21 : decode bb_In_bitCount 21 = .ok (.iand, 1) := by decide +kernel
theorem dd_In_bitCount_22 : decode bb_In_bitCount 22 = .ok (.iadd, 1) := by decide +kernel
theorem dd_In_bitCount_23 : decode bb_In_bitCount 23 = .ok (.istore_n 0, 1) := by decide +kernel
theorem dd_In_bitCount_24 : decode bb_In_bitCount 24 = .ok (.iload_n 0, 1) := by decide +kernel
theorem dd_In_bitCount_25 : decode bb_In_bitCount 25 = .ok (.iload_n 0, 1) := by decide +kernel
theorem dd_In_bitCount_26 : decode bb_In_bitCount 26 = .ok (.iconst 4, 1) := by decide +kernel
theorem dd_In_bitCount_27 : decode bb_In_bitCount 27 = .ok (.iushr, 1) := by decide +kernel
theorem dd_In_bitCount_28 : decode bb_In_bitCount 28 = .ok (.iadd, 1) := by decide +kernel
theorem dd_In_bitCount_29 : decode bb_In_bitCount 29 = .ok (.ldc_w 267, 3) := by decide +kernel
theorem dd_In_bitCount_32 : decode bb_In_bitCount 32 = .ok (.iand, 1) := by decide +kernel
theorem dd_In_bitCount_33 : decode bb_In_bitCount 33 = .ok (.istore_n 0, 1) := by decide +kernel
theorem dd_In_bitCount_34 : decode bb_In_bitCount 34 = .ok (.iload_n 0, 1) := by decide +kernel
theorem dd_In_bitCount_35 : decode bb_In_bitCount 35 = .ok (.iload_n 0, 1) := by decide +kernel
theorem dd_In_bitCount_36 : decode bb_In_bitCount 36 = .ok (.bipush 8, 2) := by decide +kernel
theorem dd_In_bitCount_38 : decode bb_In_bitCount 38 = .ok (.iushr, 1) := by decide +kernel
theorem dd_In_bitCount_39 : decode bb_In_bitCount 39 = .ok (.iadd, 1) := by decide +kernel
theorem dd_In_bitCount_40 : decode bb_In_bitCount 40 = .ok (.istore_n 0, 1) := by decide +kernel
theorem dd_In_bitCount_41 : decode bb_In_bitCount 41 = .ok (.iload_n 0, 1) := by decide +kernel
theorem dd_In_bitCount_42 : decode bb_In_bitCount 42 = .ok (.iload_n 0, 1) := by decide +kernel
theorem dd_In_bitCount_43 : decode bb_In_bitCount 43 = .ok (.bipush 16, 2) := by decide +kernel
theorem dd_In_bitCount_45 : decode bb_In_bitCount 45 = .ok (.iushr, 1) := by decide +kernel
theorem dd_In_bitCount_46 : decode bb_In_bitCount 46 = .ok (.iadd, 1) := by decide +kernel
theorem dd_In_bitCount_47 : decode bb_In_bitCount 47 = .ok (.istore_n 0, 1) := by decide +kernel
theorem dd_In_bitCount_48 : decode bb_In_bitCount 48 = .ok (.iload_n 0, 1) := by decide +kernel
theorem dd_In_bitCount_49 : decode bb_In_bitCount 49 = .ok (.bipush 63, 2) := by decide +kernel
theorem dd_In_bitCount_51 : decode bb_In_bitCount 51 = .ok (.iand, 1) := by decide +kernel
theorem dd_In_bitCount_52 : decode bb_In_bitCount 52 = .ok (.ireturn, 1) := by decide +kernel
end
section
def ws_Sq (K : Nat → ClassId) (a0 aw af : Nat) (n : Nat) (fn : Nat) (al : Int32) (th : Int32) (wr : Nat → Int64) (fl : Nat → Int64) : va_W := [(a0, .inr (3, [.int (nI fn), .int al, .ref aw, .ref af, .int th])), (aw, .inl (K 0, n, .inr (.inl wr))), (af, .inl (K 0, n, .inr (.inl fl)))]
def ws_Co (K : Nat → ClassId) (ac ar : Nat) (n : Nat) (gr : Int32) : va_W := [(ac, .inr (1, [.int (nI n), .ref ar, .int gr]))]
def ws_Sp (K : Nat → ClassId) (ap aq ax : Nat) (sr : Nat → Int64) (sv : Nat → Int64) : va_W := [(ap, .inr (2, [.ref aq, .ref ax])), (aq, .inl (K 0, 6, .inr (.inl sr))), (ax, .inl (K 0, 6, .inr (.inl sv)))]
def ws_RI (K : Nat → ClassId) (ah ac ap az au ak ar : Nat) (n : Nat) (lf : Int64) (rb : Int64) (gr : Int32) : va_W := [(ah, .inr (0, [.ref ac, .ref ap, .ref az, .ref au, .ref ak, .long lf, .long rb])), (ac, .inr (1, [.int (nI n), .ref ar, .int gr]))]
def ws_RG (K : Nat → ClassId) (ah ac ar ap aq ax au ak a0 aw af az : Nat) (n : Nat) (fn : Nat) (lf : Int64) (rb : Int64) (gr : Int32) (ro : Nat → Int64) (sr : Nat → Int64) (sv : Nat → Int64) (up : Nat → Int32) (ct : Nat → Int32) (al : Int32) (th : Int32) (wr : Nat → Int64) (fl : Nat → Int64) : va_W := [(ah, .inr (0, [.ref ac, .ref ap, .ref az, .ref au, .ref ak, .long lf, .long rb])), (ac, .inr (1, [.int (nI n), .ref ar, .int gr])), (ar, .inl (K 0, n, .inr (.inl ro))), (ap, .inr (2, [.ref aq, .ref ax])), (aq, .inl (K 0, 6, .inr (.inl sr))), (ax, .inl (K 0, 6, .inr (.inl sv))), (au, .inl (K 2, 12, .inl up)), (ak, .inl (K 1, 4, .inl ct)), (a0, .inr (3, [.int (nI fn), .int al, .ref aw, .ref af, .int th])), (aw, .inl (K 0, n, .inr (.inl wr))), (af, .inl (K 0, n, .inr (.inl fl)))]
def ws_LJ (K : Nat → ClassId) (ah ac ar ap aq ax au ak a0 aw af az : Nat) (n : Nat) (fn : Nat) (lf : Int64) (rb : Int64) (gr : Int32) (ro : Nat → Int64) (sr : Nat → Int64) (sv : Nat → Int64) (up : Nat → Int32) (ct : Nat → Int32) (al : Int32) (th : Int32) (wr : Nat → Int64) (fl : Nat → Int64) (sf : Nat → Option Nat) (t1 : Nat × va_E) (t2 : Nat × va_E) (t3 : Nat × va_E) (t4 : Nat × va_E) (t5 : Nat × va_E) (t6 : Nat × va_E) : va_W := [(ah, .inr (0, [.ref ac, .ref ap, .ref az, .ref au, .ref ak, .long lf, .long rb])), (ac, .inr (1, [.int (nI n), .ref ar, .int gr])), (ar, .inl (K 0, n, .inr (.inl ro))), (ap, .inr (2, [.ref aq, .ref ax])), (aq, .inl (K 0, 6, .inr (.inl sr))), (ax, .inl (K 0, 6, .inr (.inl sv))), (au, .inl (K 2, 12, .inl up)), (ak, .inl (K 1, 4, .inl ct)), (a0, .inr (3, [.int (nI fn), .int al, .ref aw, .ref af, .int th])), (aw, .inl (K 0, n, .inr (.inl wr))), (af, .inl (K 0, n, .inr (.inl fl))), (az, .inl (K 3, 3, .inr (.inr (.inr (.inr sf))))), t1, t2, t3, t4, t5, t6]
def ws_L3x (K : Nat → ClassId) (ah ac ar ap aq ax au ak az b0 c0 d0 b1 c1 d1 b2 c2 d2 : Nat) (n : Nat) (lf : Int64) (rb : Int64) (gr : Int32) (ro : Nat → Int64) (sr : Nat → Int64) (sv : Nat → Int64) (up : Nat → Int32) (ct : Nat → Int32) (sf : Nat → Option Nat) (al : Int32) (th0 : Int32) (wr0 : Nat → Int64) (fl0 : Nat → Int64) (th1 : Int32) (wr1 : Nat → Int64) (fl1 : Nat → Int64) (th2 : Int32) (wr2 : Nat → Int64) (fl2 : Nat → Int64) : va_W := [(ah, .inr (0, [.ref ac, .ref ap, .ref az, .ref au, .ref ak, .long lf, .long rb])), (ac, .inr (1, [.int (nI n), .ref ar, .int gr])), (ar, .inl (K 0, n, .inr (.inl ro))), (ap, .inr (2, [.ref aq, .ref ax])), (aq, .inl (K 0, 6, .inr (.inl sr))), (ax, .inl (K 0, 6, .inr (.inl sv))), (au, .inl (K 2, 12, .inl up)), (ak, .inl (K 1, 4, .inl ct)), (az, .inl (K 3, 3, .inr (.inr (.inr (.inr sf))))), (b0, .inr (3, [.int (nI 0), .int al, .ref c0, .ref d0, .int th0])), (c0, .inl (K 0, n, .inr (.inl wr0))), (d0, .inl (K 0, n, .inr (.inl fl0))), (b1, .inr (3, [.int (nI 5), .int al, .ref c1, .ref d1, .int th1])), (c1, .inl (K 0, n, .inr (.inl wr1))), (d1, .inl (K 0, n, .inr (.inl fl1))), (b2, .inr (3, [.int (nI 10), .int al, .ref c2, .ref d2, .int th2])), (c2, .inl (K 0, n, .inr (.inl wr2))), (d2, .inl (K 0, n, .inr (.inl fl2)))]
theorem ly_mod12 {f i : Nat} (h : f + i < 2 ^ 31) : ((nI f + nI i) - (nI f + nI i) / (12 : Int32) * (12 : Int32)) = nI ((f + i) % 12) := by
  rw [nI_add]; exact pk_rem h (by decide) (by decide)
theorem ly_rng {y : Int32} {N : Nat} (h0 : ¬ y < 0) (h1 : y < nI N) (hN : N < 2 ^ 31) : ∃ i, i < N ∧ y = nI i := by
  obtain ⟨j, hj, rfl⟩ := nI_of h0
  exact ⟨j, (nI_ltI hj hN).mp h1, rfl⟩
theorem ly_rng2 {y : Int32} {N : Nat} (h0 : ¬ y < 0) (h1 : ¬ nI N ≤ y) (hN : N < 2 ^ 31) : ∃ i, i < N ∧ y = nI i := by
  obtain ⟨j, hj, rfl⟩ := nI_of h0
  exact ⟨j, Nat.lt_of_not_le (fun h => h1 ((nI_leI hN hj).mpr h)), rfl⟩
theorem ly_z0 : narrow .boolean (.int (0 : Int32)) = .int 0 := by decide
theorem ly_z1 : narrow .boolean (.int (1 : Int32)) = .int 1 := by decide
def mm_By_at (bs : Int64) (i : Nat) : Int32 := (((bs.toUInt64 >>> (((8 : Int32) * (nI i)).toInt64.toUInt64 &&& Int64.toUInt64 63)).toInt64).toInt32 &&& (255 : Int32))
set_option maxHeartbeats 4000000 in
set_option maxRecDepth 100000 in
theorem cc_By_at {l : Launch} (D : va_G) (K : Nat → ClassId) (bs : Int64) (i : Nat) : ly_i l yy_By_at bb_By_at 3 (some .int) 0 0 D K [.long bs, .int (nI i)] ([] : va_W) (fun z => z) (fun _ => ([] : va_W)) (mm_By_at bs i) := by
  refine ly_entI (by decide) (Nat.le_of_ble_eq_true rfl) ?_
  intro p e s m av below meth c A ls R Q H locs res hM C hRf hRl hS hP hD hl ret
  obtain ⟨hx, hb, -⟩ := id C
  have hcs : 0 ≤ R.cells ∧ 0 ≤ R.slots := ⟨Nat.zero_le _, Nat.zero_le _⟩
  have hl : lv_has ls 3 [(0, .long bs), (2, .int (nI i))] := hl
  rw [mm_By_at] at hM
  refine lv_lload_n hx hb dd_By_at_0 rfl (lv_at hl 0 rfl) ?_
  refine lv_bipush (v := (8 : Int32)) hx hb dd_By_at_1 (by decide) ?_
  refine lv_iload_n hx hb dd_By_at_3 rfl (lv_at hl 1 rfl) ?_
  refine lv_imul hx hb dd_By_at_4 ?_
  refine lv_lushr (v := (bs.toUInt64 >>> (((8 : Int32) * (nI i)).toInt64.toUInt64 &&& Int64.toUInt64 63)).toInt64) hx hb dd_By_at_5 rfl ?_
  refine lv_l2i (v := ((bs.toUInt64 >>> (((8 : Int32) * (nI i)).toInt64.toUInt64 &&& Int64.toUInt64 63)).toInt64).toInt32) hx hb dd_By_at_6 rfl ?_
  refine lv_sipush (v := (255 : Int32)) hx hb dd_By_at_7 (by decide) ?_
  refine lv_iand hx hb dd_By_at_10 ?_
  exact ret (((bs.toUInt64 >>> (((8 : Int32) * (nI i)).toInt64.toUInt64 &&& Int64.toUInt64 63)).toInt64).toInt32 &&& (255 : Int32)) H locs 11 ls hM rfl hS hP hD dd_By_at_11

def mm_By_placed (x : Int32) (i : Nat) : Int64 := (x.toInt64 <<< (((8 : Int32) * (nI i)).toInt64 &&& 63))
set_option maxHeartbeats 4000000 in
set_option maxRecDepth 100000 in
theorem cc_By_placed {l : Launch} (D : va_G) (K : Nat → ClassId) (x : Int32) (i : Nat) : ly_l l yy_By_placed bb_By_placed 2 (some .long) 0 0 D K [.int x, .int (nI i)] ([] : va_W) (fun z => z) (fun _ => ([] : va_W)) (mm_By_placed x i) := by
  refine ly_entL (by decide) (Nat.le_of_ble_eq_true rfl) ?_
  intro p e s m av below meth c A ls R Q H locs res hM C hRf hRl hS hP hD hl ret
  obtain ⟨hx, hb, -⟩ := id C
  have hcs : 0 ≤ R.cells ∧ 0 ≤ R.slots := ⟨Nat.zero_le _, Nat.zero_le _⟩
  have hl : lv_has ls 2 [(0, .int x), (1, .int (nI i))] := hl
  rw [mm_By_placed] at hM
  refine lv_iload_n hx hb dd_By_placed_0 rfl (lv_at hl 0 rfl) ?_
  refine lv_i2l (v := x.toInt64) hx hb dd_By_placed_1 rfl ?_
  refine lv_bipush (v := (8 : Int32)) hx hb dd_By_placed_2 (by decide) ?_
  refine lv_iload_n hx hb dd_By_placed_4 rfl (lv_at hl 1 rfl) ?_
  refine lv_imul hx hb dd_By_placed_5 ?_
  refine lv_lshl (v := (x.toInt64 <<< (((8 : Int32) * (nI i)).toInt64 &&& 63))) hx hb dd_By_placed_6 rfl ?_
  exact ret (x.toInt64 <<< (((8 : Int32) * (nI i)).toInt64 &&& 63)) H locs 7 ls hM hS hP hD dd_By_placed_7

def mm_By_times_L8 (x : Int32) : Nat → Nat → (Int64) → (Int64) → Int64
  | 0, j, v3, v5 => v3
  | k + 1, j, v3, v5 => (if ((x >>> ((nI j) &&& 31)) &&& (1 : Int32)) = (0 : Int32) then (mm_By_times_L8 x k (j + 1) v3 (((v5 &&& (9187201950435737471 : Int64)) <<< ((1 : Int32).toInt64 &&& 63)) ^^^ (((v5.toUInt64 >>> ((7 : Int32).toInt64.toUInt64 &&& Int64.toUInt64 63)).toInt64 &&& (72340172838076673 : Int64)) * (29 : Int64)))) else (mm_By_times_L8 x k (j + 1) (v3 ^^^ v5) (((v5 &&& (9187201950435737471 : Int64)) <<< ((1 : Int32).toInt64 &&& 63)) ^^^ (((v5.toUInt64 >>> ((7 : Int32).toInt64.toUInt64 &&& Int64.toUInt64 63)).toInt64 &&& (72340172838076673 : Int64)) * (29 : Int64)))))
def mm_By_times (x : Int32) (bs : Int64) : Int64 := (mm_By_times_L8 x 8 0 (0 : Int64) bs)
set_option maxHeartbeats 4000000 in
set_option maxRecDepth 100000 in
theorem cc_By_times {l : Launch} (D : va_G) (K : Nat → ClassId) (x : Int32) (bs : Int64) : ly_l l yy_By_times bb_By_times 12 (some .long) 0 0 D K [.int x, .long bs] ([] : va_W) (fun z => z) (fun _ => ([] : va_W)) (mm_By_times x bs) := by
  refine ly_entL (by decide) (Nat.le_of_ble_eq_true rfl) ?_
  intro p e s m av below meth c A ls R Q H locs res hM C hRf hRl hS hP hD hl ret
  obtain ⟨hx, hb, -⟩ := id C
  have hcs : 0 ≤ R.cells ∧ 0 ≤ R.slots := ⟨Nat.zero_le _, Nat.zero_le _⟩
  have hl : lv_has ls 12 [(0, .int x), (1, .long bs)] := hl
  rw [mm_By_times] at hM
  refine lv_lconst (v := (0 : Int64)) hx hb dd_By_times_0 (by decide) ?_
  refine lv_lstore_n (lv' := [(3, .long (0 : Int64)), (0, .int x), (1, .long bs)]) hx hb dd_By_times_1 rfl hl (by decide) rfl (fun ls hl => ?_)
  refine lv_lload_n hx hb dd_By_times_2 rfl (lv_at hl 2 rfl) ?_
  refine lv_lstore (lv' := [(5, .long bs), (3, .long (0 : Int64)), (0, .int x), (1, .long bs)]) hx hb dd_By_times_3 hl (by decide) rfl (fun ls hl => ?_)
  refine lv_iconst (v := (0 : Int32)) hx hb dd_By_times_5 (by decide) ?_
  refine lv_istore (lv' := [(7, .int (0 : Int32)), (5, .long bs), (3, .long (0 : Int64)), (0, .int x), (1, .long bs)]) hx hb dd_By_times_6 hl (by decide) rfl (fun ls hl => ?_)
  have lp8 : ∀ (k : Nat) (j : Nat) (v3 : Int64) (v5 : Int64) (ls : Array Slot) (H : Heap) (locs : List Loc), j + k = 8 → mm_By_times_L8 x k j v3 v5 = res → lv_has ls 12 [(7, .int (nI j)), (5, .long v5), (3, .long v3), (0, .int x), (1, .long bs)] → va_P D cl_all ([] : va_W) H → va_D A ([] : va_W) → va_S A s.heap H locs → W p l e R s m av below meth c H locs 0 0 Q (F0 m 8 ls []) := by
    intro k
    induction k with
    | zero =>
      intro j v3 v5 ls H locs hjk hM hl hP hD hS
      have hj0 : j = 8 := by omega
      subst j
      rw [mm_By_times_L8] at hM
      refine lv_iload hx hb dd_By_times_8 (lv_at hl 0 rfl) ?_
      refine lv_bipush (v := (8 : Int32)) hx hb dd_By_times_10 (by decide) ?_
      refine lv_icmp_ge (tgt := 67) hx hb dd_By_times_12 (by decide) (fun _ => ?_) (fun h => absurd (nI_le (a := 8) (b := 8) (by omega) (by omega)) h)
      refine lv_lload_n hx hb dd_By_times_67 rfl (lv_at hl 2 rfl) ?_
      exact ret v3 H locs 68 ls hM hS hP hD dd_By_times_68
    | succ k ih8 =>
      intro j v3 v5 ls H locs hjk hM hl hP hD hS
      rw [mm_By_times_L8] at hM
      refine lv_iload hx hb dd_By_times_8 (lv_at hl 0 rfl) ?_
      refine lv_bipush (v := (8 : Int32)) hx hb dd_By_times_10 (by decide) ?_
      refine lv_icmp_ge (tgt := 67) hx hb dd_By_times_12 (by decide) (fun h => absurd h (nI_ge (a := j) (b := 8) (by omega) (by omega))) (fun _ => ?_)
      refine lv_iload_n hx hb dd_By_times_15 rfl (lv_at hl 3 rfl) ?_
      refine lv_iload hx hb dd_By_times_16 (lv_at hl 0 rfl) ?_
      refine lv_ishr hx hb dd_By_times_18 ?_
      refine lv_iconst (v := (1 : Int32)) hx hb dd_By_times_19 (by decide) ?_
      refine lv_iand hx hb dd_By_times_20 ?_
      refine lv_if_eq (tgt := 29) hx hb dd_By_times_21 (by decide) (fun h21 => ?_) (fun h21 => ?_)
      · rw [if_pos h21] at hM
        refine lv_lload hx hb dd_By_times_29 (lv_at hl 1 rfl) ?_
        refine lv_bipush (v := (7 : Int32)) hx hb dd_By_times_31 (by decide) ?_
        refine lv_lushr (v := (v5.toUInt64 >>> ((7 : Int32).toInt64.toUInt64 &&& Int64.toUInt64 63)).toInt64) hx hb dd_By_times_33 rfl ?_
        refine ly_ldc2 (x := (72340172838076673 : Int64)) C wa_199 dd_By_times_34 ?_
        refine lv_land hx hb dd_By_times_37 ?_
        refine lv_lstore (lv' := [(8, .long ((v5.toUInt64 >>> ((7 : Int32).toInt64.toUInt64 &&& Int64.toUInt64 63)).toInt64 &&& (72340172838076673 : Int64))), (7, .int (nI j)), (5, .long v5), (3, .long v3), (0, .int x), (1, .long bs)]) hx hb dd_By_times_38 hl (by decide) rfl (fun ls hl => ?_)
        refine lv_lload hx hb dd_By_times_40 (lv_at hl 2 rfl) ?_
        refine ly_ldc2 (x := (9187201950435737471 : Int64)) C wa_200 dd_By_times_42 ?_
        refine lv_land hx hb dd_By_times_45 ?_
        refine lv_lstore (lv' := [(10, .long (v5 &&& (9187201950435737471 : Int64))), (8, .long ((v5.toUInt64 >>> ((7 : Int32).toInt64.toUInt64 &&& Int64.toUInt64 63)).toInt64 &&& (72340172838076673 : Int64))), (7, .int (nI j)), (5, .long v5), (3, .long v3), (0, .int x), (1, .long bs)]) hx hb dd_By_times_46 hl (by decide) rfl (fun ls hl => ?_)
        refine lv_lload hx hb dd_By_times_48 (lv_at hl 0 rfl) ?_
        refine lv_iconst (v := (1 : Int32)) hx hb dd_By_times_50 (by decide) ?_
        refine lv_lshl (v := ((v5 &&& (9187201950435737471 : Int64)) <<< ((1 : Int32).toInt64 &&& 63))) hx hb dd_By_times_51 rfl ?_
        refine lv_lload hx hb dd_By_times_52 (lv_at hl 1 rfl) ?_
        refine ly_ldc2 (x := (29 : Int64)) C wa_201 dd_By_times_54 ?_
        refine lv_lmul hx hb dd_By_times_57 ?_
        refine lv_lxor hx hb dd_By_times_58 ?_
        refine lv_lstore (lv' := [(5, .long (((v5 &&& (9187201950435737471 : Int64)) <<< ((1 : Int32).toInt64 &&& 63)) ^^^ (((v5.toUInt64 >>> ((7 : Int32).toInt64.toUInt64 &&& Int64.toUInt64 63)).toInt64 &&& (72340172838076673 : Int64)) * (29 : Int64)))), (10, .long (v5 &&& (9187201950435737471 : Int64))), (8, .long ((v5.toUInt64 >>> ((7 : Int32).toInt64.toUInt64 &&& Int64.toUInt64 63)).toInt64 &&& (72340172838076673 : Int64))), (7, .int (nI j)), (3, .long v3), (0, .int x), (1, .long bs)]) hx hb dd_By_times_59 hl (by decide) rfl (fun ls hl => ?_)
        refine lv_iinc (k := 3) (v := (nI (j + 1))) (lv' := [(7, .int (nI (j + 1))), (5, .long (((v5 &&& (9187201950435737471 : Int64)) <<< ((1 : Int32).toInt64 &&& 63)) ^^^ (((v5.toUInt64 >>> ((7 : Int32).toInt64.toUInt64 &&& Int64.toUInt64 63)).toInt64 &&& (72340172838076673 : Int64)) * (29 : Int64)))), (10, .long (v5 &&& (9187201950435737471 : Int64))), (8, .long ((v5.toUInt64 >>> ((7 : Int32).toInt64.toUInt64 &&& Int64.toUInt64 63)).toInt64 &&& (72340172838076673 : Int64))), (3, .long v3), (0, .int x), (1, .long bs)]) hx hb dd_By_times_61 hl rfl (ly_incN _) (by decide) rfl (fun ls hl => ?_)
        refine lv_goto (tgt := 8) hx hb dd_By_times_64 (by decide) ?_
        exact ih8 (j + 1) v3 (((v5 &&& (9187201950435737471 : Int64)) <<< ((1 : Int32).toInt64 &&& 63)) ^^^ (((v5.toUInt64 >>> ((7 : Int32).toInt64.toUInt64 &&& Int64.toUInt64 63)).toInt64 &&& (72340172838076673 : Int64)) * (29 : Int64))) ls H locs (by omega) hM (lv_sub hl [0, 1, 4, 5, 6] rfl) hP hD hS
      · rw [if_neg h21] at hM
        refine lv_lload_n hx hb dd_By_times_24 rfl (lv_at hl 2 rfl) ?_
        refine lv_lload hx hb dd_By_times_25 (lv_at hl 1 rfl) ?_
        refine lv_lxor hx hb dd_By_times_27 ?_
        refine lv_lstore_n (lv' := [(3, .long (v3 ^^^ v5)), (7, .int (nI j)), (5, .long v5), (0, .int x), (1, .long bs)]) hx hb dd_By_times_28 rfl hl (by decide) rfl (fun ls hl => ?_)
        refine lv_lload hx hb dd_By_times_29 (lv_at hl 2 rfl) ?_
        refine lv_bipush (v := (7 : Int32)) hx hb dd_By_times_31 (by decide) ?_
        refine lv_lushr (v := (v5.toUInt64 >>> ((7 : Int32).toInt64.toUInt64 &&& Int64.toUInt64 63)).toInt64) hx hb dd_By_times_33 rfl ?_
        refine ly_ldc2 (x := (72340172838076673 : Int64)) C wa_199 dd_By_times_34 ?_
        refine lv_land hx hb dd_By_times_37 ?_
        refine lv_lstore (lv' := [(8, .long ((v5.toUInt64 >>> ((7 : Int32).toInt64.toUInt64 &&& Int64.toUInt64 63)).toInt64 &&& (72340172838076673 : Int64))), (3, .long (v3 ^^^ v5)), (7, .int (nI j)), (5, .long v5), (0, .int x), (1, .long bs)]) hx hb dd_By_times_38 hl (by decide) rfl (fun ls hl => ?_)
        refine lv_lload hx hb dd_By_times_40 (lv_at hl 3 rfl) ?_
        refine ly_ldc2 (x := (9187201950435737471 : Int64)) C wa_200 dd_By_times_42 ?_
        refine lv_land hx hb dd_By_times_45 ?_
        refine lv_lstore (lv' := [(10, .long (v5 &&& (9187201950435737471 : Int64))), (8, .long ((v5.toUInt64 >>> ((7 : Int32).toInt64.toUInt64 &&& Int64.toUInt64 63)).toInt64 &&& (72340172838076673 : Int64))), (3, .long (v3 ^^^ v5)), (7, .int (nI j)), (5, .long v5), (0, .int x), (1, .long bs)]) hx hb dd_By_times_46 hl (by decide) rfl (fun ls hl => ?_)
        refine lv_lload hx hb dd_By_times_48 (lv_at hl 0 rfl) ?_
        refine lv_iconst (v := (1 : Int32)) hx hb dd_By_times_50 (by decide) ?_
        refine lv_lshl (v := ((v5 &&& (9187201950435737471 : Int64)) <<< ((1 : Int32).toInt64 &&& 63))) hx hb dd_By_times_51 rfl ?_
        refine lv_lload hx hb dd_By_times_52 (lv_at hl 1 rfl) ?_
        refine ly_ldc2 (x := (29 : Int64)) C wa_201 dd_By_times_54 ?_
        refine lv_lmul hx hb dd_By_times_57 ?_
        refine lv_lxor hx hb dd_By_times_58 ?_
        refine lv_lstore (lv' := [(5, .long (((v5 &&& (9187201950435737471 : Int64)) <<< ((1 : Int32).toInt64 &&& 63)) ^^^ (((v5.toUInt64 >>> ((7 : Int32).toInt64.toUInt64 &&& Int64.toUInt64 63)).toInt64 &&& (72340172838076673 : Int64)) * (29 : Int64)))), (10, .long (v5 &&& (9187201950435737471 : Int64))), (8, .long ((v5.toUInt64 >>> ((7 : Int32).toInt64.toUInt64 &&& Int64.toUInt64 63)).toInt64 &&& (72340172838076673 : Int64))), (3, .long (v3 ^^^ v5)), (7, .int (nI j)), (0, .int x), (1, .long bs)]) hx hb dd_By_times_59 hl (by decide) rfl (fun ls hl => ?_)
        refine lv_iinc (k := 4) (v := (nI (j + 1))) (lv' := [(7, .int (nI (j + 1))), (5, .long (((v5 &&& (9187201950435737471 : Int64)) <<< ((1 : Int32).toInt64 &&& 63)) ^^^ (((v5.toUInt64 >>> ((7 : Int32).toInt64.toUInt64 &&& Int64.toUInt64 63)).toInt64 &&& (72340172838076673 : Int64)) * (29 : Int64)))), (10, .long (v5 &&& (9187201950435737471 : Int64))), (8, .long ((v5.toUInt64 >>> ((7 : Int32).toInt64.toUInt64 &&& Int64.toUInt64 63)).toInt64 &&& (72340172838076673 : Int64))), (3, .long (v3 ^^^ v5)), (0, .int x), (1, .long bs)]) hx hb dd_By_times_61 hl rfl (ly_incN _) (by decide) rfl (fun ls hl => ?_)
        refine lv_goto (tgt := 8) hx hb dd_By_times_64 (by decide) ?_
        exact ih8 (j + 1) (v3 ^^^ v5) (((v5 &&& (9187201950435737471 : Int64)) <<< ((1 : Int32).toInt64 &&& 63)) ^^^ (((v5.toUInt64 >>> ((7 : Int32).toInt64.toUInt64 &&& Int64.toUInt64 63)).toInt64 &&& (72340172838076673 : Int64)) * (29 : Int64))) ls H locs (by omega) hM (lv_sub hl [0, 1, 4, 5, 6] rfl) hP hD hS
  exact lp8 8 0 (0 : Int64) bs ls H locs (by omega) hM (lv_sub hl [0, 1, 2, 3, 4] rfl) hP hD hS

def mm_By_inverse_L6 : Nat → Nat → (Int32) → (Int32) → Int32
  | 0, j, v1, v2 => v2
  | k + 1, j, v1, v2 => (mm_By_inverse_L6 k (j + 1) (mm_By_times v1 v1.toInt64).toInt32 (mm_By_times v2 (mm_By_times v1 v1.toInt64).toInt32.toInt64).toInt32)
def mm_By_inverse (x : Int32) : Int32 := (mm_By_inverse_L6 7 1 x (1 : Int32))
set_option maxHeartbeats 4000000 in
set_option maxRecDepth 100000 in
theorem cc_By_inverse {l : Launch} (D : va_G) (K : Nat → ClassId) (x : Int32) : ly_i l yy_By_inverse bb_By_inverse 4 (some .int) 1 31 D K [.int x] ([] : va_W) (fun z => z) (fun _ => ([] : va_W)) (mm_By_inverse x) := by
  refine ly_entI (by decide) (Nat.le_of_ble_eq_true rfl) ?_
  intro p e s m av below meth c A ls R Q H locs res hM C hRf hRl hS hP hD hl ret
  obtain ⟨hx, hb, -⟩ := id C
  have hcs : 0 ≤ R.cells ∧ 0 ≤ R.slots := ⟨Nat.zero_le _, Nat.zero_le _⟩
  have hl : lv_has ls 4 [(0, .int x)] := hl
  rw [mm_By_inverse] at hM
  refine lv_iload_n hx hb dd_By_inverse_0 rfl (lv_at hl 0 rfl) ?_
  refine lv_istore_n (lv' := [(1, .int x), (0, .int x)]) hx hb dd_By_inverse_1 rfl hl (by decide) rfl (fun ls hl => ?_)
  refine lv_iconst (v := (1 : Int32)) hx hb dd_By_inverse_2 (by decide) ?_
  refine lv_istore_n (lv' := [(2, .int (1 : Int32)), (1, .int x), (0, .int x)]) hx hb dd_By_inverse_3 rfl hl (by decide) rfl (fun ls hl => ?_)
  refine lv_iconst (v := (1 : Int32)) hx hb dd_By_inverse_4 (by decide) ?_
  refine lv_istore_n (lv' := [(3, .int (1 : Int32)), (2, .int (1 : Int32)), (1, .int x), (0, .int x)]) hx hb dd_By_inverse_5 rfl hl (by decide) rfl (fun ls hl => ?_)
  have lp6 : ∀ (k : Nat) (j : Nat) (v1 : Int32) (v2 : Int32) (ls : Array Slot) (H : Heap) (locs : List Loc), j + k = 8 → mm_By_inverse_L6 k j v1 v2 = res → lv_has ls 4 [(3, .int (nI j)), (2, .int v2), (1, .int v1), (0, .int x)] → va_P D cl_all ([] : va_W) H → va_D A ([] : va_W) → va_S A s.heap H locs → W p l e R s m av below meth c H locs 0 0 Q (F0 m 6 ls []) := by
    intro k
    induction k with
    | zero =>
      intro j v1 v2 ls H locs hjk hM hl hP hD hS
      have hj0 : j = 8 := by omega
      subst j
      rw [mm_By_inverse_L6] at hM
      refine lv_iload_n hx hb dd_By_inverse_6 rfl (lv_at hl 0 rfl) ?_
      refine lv_bipush (v := (8 : Int32)) hx hb dd_By_inverse_7 (by decide) ?_
      refine lv_icmp_ge (tgt := 34) hx hb dd_By_inverse_9 (by decide) (fun _ => ?_) (fun h => absurd (nI_le (a := 8) (b := 8) (by omega) (by omega)) h)
      refine lv_iload_n hx hb dd_By_inverse_34 rfl (lv_at hl 1 rfl) ?_
      exact ret v2 H locs 35 ls hM rfl hS hP hD dd_By_inverse_35
    | succ k ih6 =>
      intro j v1 v2 ls H locs hjk hM hl hP hD hS
      rw [mm_By_inverse_L6] at hM
      refine lv_iload_n hx hb dd_By_inverse_6 rfl (lv_at hl 0 rfl) ?_
      refine lv_bipush (v := (8 : Int32)) hx hb dd_By_inverse_7 (by decide) ?_
      refine lv_icmp_ge (tgt := 34) hx hb dd_By_inverse_9 (by decide) (fun h => absurd h (nI_ge (a := j) (b := 8) (by omega) (by omega))) (fun _ => ?_)
      refine lv_iload_n hx hb dd_By_inverse_12 rfl (lv_at hl 2 rfl) ?_
      refine lv_iload_n hx hb dd_By_inverse_13 rfl (lv_at hl 2 rfl) ?_
      refine lv_i2l (v := v1.toInt64) hx hb dd_By_inverse_14 rfl ?_
      obtain ⟨r_15, hq15⟩ : ∃ z, z = mm_By_times v1 v1.toInt64 := ⟨_, rfl⟩
      try rw [← hq15] at hM
      refine ly_cS_l (n := 2) (z := r_15) (rest := []) (wn := ([] : va_W)) C (cc_By_times D K v1 v1.toInt64) hq15 wa_198 wa_203 wa_149 wa_155 (by decide) (Nat.le_trans (by decide) hRf) (Nat.le_trans (by decide) hRl) rfl hl.1 rfl (Nat.le_of_ble_eq_true rfl) dd_By_inverse_15 hcs [] [] [] hP hD hS rfl rfl (by decide) rfl (fun H locs hP hD hS => ?_)
      refine W.eq (g2 := F0 m 18 ls [.long r_15]) rfl ?_
      refine lv_l2i (v := r_15.toInt32) hx hb dd_By_inverse_18 rfl ?_
      refine lv_istore_n (lv' := [(1, .int r_15.toInt32), (3, .int (nI j)), (2, .int v2), (0, .int x)]) hx hb dd_By_inverse_19 rfl hl (by decide) rfl (fun ls hl => ?_)
      refine lv_iload_n hx hb dd_By_inverse_20 rfl (lv_at hl 2 rfl) ?_
      refine lv_iload_n hx hb dd_By_inverse_21 rfl (lv_at hl 0 rfl) ?_
      refine lv_i2l (v := r_15.toInt32.toInt64) hx hb dd_By_inverse_22 rfl ?_
      obtain ⟨r_23, hq23⟩ : ∃ z, z = mm_By_times v2 r_15.toInt32.toInt64 := ⟨_, rfl⟩
      try rw [← hq23] at hM
      refine ly_cS_l (n := 2) (z := r_23) (rest := []) (wn := ([] : va_W)) C (cc_By_times D K v2 r_15.toInt32.toInt64) hq23 wa_198 wa_203 wa_149 wa_155 (by decide) (Nat.le_trans (by decide) hRf) (Nat.le_trans (by decide) hRl) rfl hl.1 rfl (Nat.le_of_ble_eq_true rfl) dd_By_inverse_23 hcs [] [] [] hP hD hS rfl rfl (by decide) rfl (fun H locs hP hD hS => ?_)
      refine W.eq (g2 := F0 m 26 ls [.long r_23]) rfl ?_
      refine lv_l2i (v := r_23.toInt32) hx hb dd_By_inverse_26 rfl ?_
      refine lv_istore_n (lv' := [(2, .int r_23.toInt32), (1, .int r_15.toInt32), (3, .int (nI j)), (0, .int x)]) hx hb dd_By_inverse_27 rfl hl (by decide) rfl (fun ls hl => ?_)
      refine lv_iinc (k := 2) (v := (nI (j + 1))) (lv' := [(3, .int (nI (j + 1))), (2, .int r_23.toInt32), (1, .int r_15.toInt32), (0, .int x)]) hx hb dd_By_inverse_28 hl rfl (ly_incN _) (by decide) rfl (fun ls hl => ?_)
      refine lv_goto (tgt := 6) hx hb dd_By_inverse_31 (by decide) ?_
      exact ih6 (j + 1) r_15.toInt32 r_23.toInt32 ls H locs (by omega) hM (lv_sub hl [0, 1, 2, 3] rfl) hP hD hS
  exact lp6 7 1 x (1 : Int32) ls H locs (by omega) hM (lv_sub hl [0, 1, 2, 3] rfl) hP hD hS

def mm_Co_inversesRow_L4 (x : Int32) : Nat → Nat → (Int64) → Int64
  | 0, j, v1 => v1
  | k + 1, j, v1 => (mm_Co_inversesRow_L4 x k (j + 1) (v1 ||| (mm_By_placed (mm_By_inverse (x ^^^ (nI j))) j)))
def mm_Co_inversesRow (x : Int32) : Int64 := (mm_Co_inversesRow_L4 x 6 0 (0 : Int64))
set_option maxHeartbeats 4000000 in
set_option maxRecDepth 100000 in
theorem cc_Co_inversesRow {l : Launch} (D : va_G) (K : Nat → ClassId) (x : Int32) : ly_l l yy_Co_inversesRow bb_Co_inversesRow 4 (some .long) 2 54 D K [.int x] ([] : va_W) (fun z => z) (fun _ => ([] : va_W)) (mm_Co_inversesRow x) := by
  refine ly_entL (by decide) (Nat.le_of_ble_eq_true rfl) ?_
  intro p e s m av below meth c A ls R Q H locs res hM C hRf hRl hS hP hD hl ret
  obtain ⟨hx, hb, -⟩ := id C
  have hcs : 0 ≤ R.cells ∧ 0 ≤ R.slots := ⟨Nat.zero_le _, Nat.zero_le _⟩
  have hl : lv_has ls 4 [(0, .int x)] := hl
  rw [mm_Co_inversesRow] at hM
  refine lv_lconst (v := (0 : Int64)) hx hb dd_Co_inversesRow_0 (by decide) ?_
  refine lv_lstore_n (lv' := [(1, .long (0 : Int64)), (0, .int x)]) hx hb dd_Co_inversesRow_1 rfl hl (by decide) rfl (fun ls hl => ?_)
  refine lv_iconst (v := (0 : Int32)) hx hb dd_Co_inversesRow_2 (by decide) ?_
  refine lv_istore_n (lv' := [(3, .int (0 : Int32)), (1, .long (0 : Int64)), (0, .int x)]) hx hb dd_Co_inversesRow_3 rfl hl (by decide) rfl (fun ls hl => ?_)
  have lp4 : ∀ (k : Nat) (j : Nat) (v1 : Int64) (ls : Array Slot) (H : Heap) (locs : List Loc), j + k = 6 → mm_Co_inversesRow_L4 x k j v1 = res → lv_has ls 4 [(3, .int (nI j)), (1, .long v1), (0, .int x)] → va_P D cl_all ([] : va_W) H → va_D A ([] : va_W) → va_S A s.heap H locs → W p l e R s m av below meth c H locs 0 0 Q (F0 m 4 ls []) := by
    intro k
    induction k with
    | zero =>
      intro j v1 ls H locs hjk hM hl hP hD hS
      have hj0 : j = 6 := by omega
      subst j
      rw [mm_Co_inversesRow_L4] at hM
      refine lv_iload_n hx hb dd_Co_inversesRow_4 rfl (lv_at hl 0 rfl) ?_
      refine lv_bipush (v := (6 : Int32)) hx hb dd_Co_inversesRow_5 (by decide) ?_
      refine lv_icmp_ge (tgt := 29) hx hb dd_Co_inversesRow_7 (by decide) (fun _ => ?_) (fun h => absurd (nI_le (a := 6) (b := 6) (by omega) (by omega)) h)
      refine lv_lload_n hx hb dd_Co_inversesRow_29 rfl (lv_at hl 1 rfl) ?_
      exact ret v1 H locs 30 ls hM hS hP hD dd_Co_inversesRow_30
    | succ k ih4 =>
      intro j v1 ls H locs hjk hM hl hP hD hS
      rw [mm_Co_inversesRow_L4] at hM
      refine lv_iload_n hx hb dd_Co_inversesRow_4 rfl (lv_at hl 0 rfl) ?_
      refine lv_bipush (v := (6 : Int32)) hx hb dd_Co_inversesRow_5 (by decide) ?_
      refine lv_icmp_ge (tgt := 29) hx hb dd_Co_inversesRow_7 (by decide) (fun h => absurd h (nI_ge (a := j) (b := 6) (by omega) (by omega))) (fun _ => ?_)
      refine lv_lload_n hx hb dd_Co_inversesRow_10 rfl (lv_at hl 1 rfl) ?_
      refine lv_iload_n hx hb dd_Co_inversesRow_11 rfl (lv_at hl 2 rfl) ?_
      refine lv_iload_n hx hb dd_Co_inversesRow_12 rfl (lv_at hl 0 rfl) ?_
      refine lv_ixor hx hb dd_Co_inversesRow_13 ?_
      obtain ⟨r_14, hq14⟩ : ∃ z, z = mm_By_inverse (x ^^^ (nI j)) := ⟨_, rfl⟩
      try rw [← hq14] at hM
      refine ly_cS_i (n := 1) (z := r_14) (rest := [.long v1]) (wn := ([] : va_W)) C (cc_By_inverse D K (x ^^^ (nI j))) hq14 wa_202 wa_223 wa_149 wa_224 (by decide) (Nat.le_trans (by decide) hRf) (Nat.le_trans (by decide) hRl) rfl hl.1 rfl (Nat.le_of_ble_eq_true rfl) dd_Co_inversesRow_14 hcs [] [] [] hP hD hS rfl rfl (by decide) rfl (fun H locs hP hD hS => ?_)
      refine W.eq (g2 := F0 m 17 ls [.int r_14, .long v1]) rfl ?_
      refine lv_iload_n hx hb dd_Co_inversesRow_17 rfl (lv_at hl 0 rfl) ?_
      obtain ⟨r_18, hq18⟩ : ∃ z, z = mm_By_placed r_14 j := ⟨_, rfl⟩
      try rw [← hq18] at hM
      refine ly_cS_l (n := 2) (z := r_18) (rest := [.long v1]) (wn := ([] : va_W)) C (cc_By_placed D K r_14 j) hq18 wa_197 wa_215 wa_149 wa_216 (by decide) (Nat.le_trans (by decide) hRf) (Nat.le_trans (by decide) hRl) rfl hl.1 rfl (Nat.le_of_ble_eq_true rfl) dd_Co_inversesRow_18 hcs [] [] [] hP hD hS rfl rfl (by decide) rfl (fun H locs hP hD hS => ?_)
      refine W.eq (g2 := F0 m 21 ls [.long r_18, .long v1]) rfl ?_
      refine lv_lor hx hb dd_Co_inversesRow_21 ?_
      refine lv_lstore_n (lv' := [(1, .long (v1 ||| r_18)), (3, .int (nI j)), (0, .int x)]) hx hb dd_Co_inversesRow_22 rfl hl (by decide) rfl (fun ls hl => ?_)
      refine lv_iinc (k := 1) (v := (nI (j + 1))) (lv' := [(3, .int (nI (j + 1))), (1, .long (v1 ||| r_18)), (0, .int x)]) hx hb dd_Co_inversesRow_23 hl rfl (ly_incN _) (by decide) rfl (fun ls hl => ?_)
      refine lv_goto (tgt := 4) hx hb dd_Co_inversesRow_26 (by decide) ?_
      exact ih4 (j + 1) (v1 ||| r_18) ls H locs (by omega) hM (lv_sub hl [0, 1, 2] rfl) hP hD hS
  exact lp4 6 0 (0 : Int64) ls H locs (by omega) hM (lv_sub hl [0, 1, 2] rfl) hP hD hS

def mm_Co_plainRow (i : Nat) : Int64 := (if (6 : Int32) ≤ (nI i) then (mm_Co_inversesRow (((8 : Int32) + (nI i)) - (6 : Int32))) else (mm_By_placed (1 : Int32) i))
set_option maxHeartbeats 4000000 in
set_option maxRecDepth 100000 in
theorem cc_Co_plainRow {l : Launch} (D : va_G) (K : Nat → ClassId) (i : Nat) : ly_l l yy_Co_plainRow bb_Co_plainRow 1 (some .long) 3 77 D K [.int (nI i)] ([] : va_W) (fun z => z) (fun _ => ([] : va_W)) (mm_Co_plainRow i) := by
  refine ly_entL (by decide) (Nat.le_of_ble_eq_true rfl) ?_
  intro p e s m av below meth c A ls R Q H locs res hM C hRf hRl hS hP hD hl ret
  obtain ⟨hx, hb, -⟩ := id C
  have hcs : 0 ≤ R.cells ∧ 0 ≤ R.slots := ⟨Nat.zero_le _, Nat.zero_le _⟩
  have hl : lv_has ls 1 [(0, .int (nI i))] := hl
  rw [mm_Co_plainRow] at hM
  refine lv_iload_n hx hb dd_Co_plainRow_0 rfl (lv_at hl 0 rfl) ?_
  refine lv_bipush (v := (6 : Int32)) hx hb dd_Co_plainRow_1 (by decide) ?_
  refine lv_icmp_ge (tgt := 14) hx hb dd_Co_plainRow_3 (by decide) (fun h3 => ?_) (fun h3 => ?_)
  · rw [if_pos h3] at hM
    refine lv_bipush (v := (8 : Int32)) hx hb dd_Co_plainRow_14 (by decide) ?_
    refine lv_iload_n hx hb dd_Co_plainRow_16 rfl (lv_at hl 0 rfl) ?_
    refine lv_iadd hx hb dd_Co_plainRow_17 ?_
    refine lv_bipush (v := (6 : Int32)) hx hb dd_Co_plainRow_18 (by decide) ?_
    refine lv_isub hx hb dd_Co_plainRow_20 ?_
    obtain ⟨r_21, hq21⟩ : ∃ z, z = mm_Co_inversesRow (((8 : Int32) + (nI i)) - (6 : Int32)) := ⟨_, rfl⟩
    try rw [← hq21] at hM
    refine ly_cS_l (n := 1) (z := r_21) (rest := []) (wn := ([] : va_W)) C (cc_Co_inversesRow D K (((8 : Int32) + (nI i)) - (6 : Int32))) hq21 wa_222 wa_217 wa_41 wa_218 (by decide) (Nat.le_trans (by decide) hRf) (Nat.le_trans (by decide) hRl) rfl hl.1 rfl (Nat.le_of_ble_eq_true rfl) dd_Co_plainRow_21 hcs [] [] [] hP hD hS rfl rfl (by decide) rfl (fun H locs hP hD hS => ?_)
    refine W.eq (g2 := F0 m 24 ls [.long r_21]) rfl ?_
    exact ret r_21 H locs 24 ls hM hS hP hD dd_Co_plainRow_24
  · rw [if_neg h3] at hM
    refine lv_iconst (v := (1 : Int32)) hx hb dd_Co_plainRow_6 (by decide) ?_
    refine lv_iload_n hx hb dd_Co_plainRow_7 rfl (lv_at hl 0 rfl) ?_
    obtain ⟨r_8, hq8⟩ : ∃ z, z = mm_By_placed (1 : Int32) i := ⟨_, rfl⟩
    try rw [← hq8] at hM
    refine ly_cS_l (n := 2) (z := r_8) (rest := []) (wn := ([] : va_W)) C (cc_By_placed D K (1 : Int32) i) hq8 wa_197 wa_215 wa_149 wa_216 (by decide) (Nat.le_trans (by decide) hRf) (Nat.le_trans (by decide) hRl) rfl hl.1 rfl (Nat.le_of_ble_eq_true rfl) dd_Co_plainRow_8 hcs [] [] [] hP hD hS rfl rfl (by decide) rfl (fun H locs hP hD hS => ?_)
    refine W.eq (g2 := F0 m 11 ls [.long r_8]) rfl ?_
    refine lv_goto (tgt := 24) hx hb dd_Co_plainRow_11 (by decide) ?_
    exact ret r_8 H locs 24 ls hM hS hP hD dd_Co_plainRow_24

def mm_Co_groupedRow (i : Nat) : Int64 := (if (6 : Int32) ≤ (nI i) then (if i = 6 then (65793 : Int64) else (if i = 7 then (1103823372288 : Int64) else (if i = 8 then (mm_Co_inversesRow (8 : Int32)) else (if i = 9 then (mm_Co_inversesRow (9 : Int32)) else ((mm_Co_inversesRow (8 : Int32)) ^^^ (mm_Co_inversesRow (9 : Int32))))))) else (mm_By_placed (1 : Int32) i))
set_option maxHeartbeats 4000000 in
set_option maxRecDepth 100000 in
theorem cc_Co_groupedRow {l : Launch} (D : va_G) (K : Nat → ClassId) (i : Nat) (hi : i < 11) : ly_l l yy_Co_groupedRow bb_Co_groupedRow 1 (some .long) 3 77 D K [.int (nI i)] ([] : va_W) (fun z => z) (fun _ => ([] : va_W)) (mm_Co_groupedRow i) := by
  refine ly_entL (by decide) (Nat.le_of_ble_eq_true rfl) ?_
  intro p e s m av below meth c A ls R Q H locs res hM C hRf hRl hS hP hD hl ret
  obtain ⟨hx, hb, -⟩ := id C
  have hcs : 0 ≤ R.cells ∧ 0 ≤ R.slots := ⟨Nat.zero_le _, Nat.zero_le _⟩
  have hl : lv_has ls 1 [(0, .int (nI i))] := hl
  rw [mm_Co_groupedRow] at hM
  refine lv_iload_n hx hb dd_Co_groupedRow_0 rfl (lv_at hl 0 rfl) ?_
  refine lv_bipush (v := (6 : Int32)) hx hb dd_Co_groupedRow_1 (by decide) ?_
  refine lv_icmp_ge (tgt := 12) hx hb dd_Co_groupedRow_3 (by decide) (fun h3 => ?_) (fun h3 => ?_)
  · rw [if_pos h3] at hM
    have hi6 : 6 ≤ i := (nI_leI (a := 6) (by decide) (by omega)).mp h3
    refine lv_iload_n hx hb dd_Co_groupedRow_12 rfl (lv_at hl 0 rfl) ?_
    rcases (by omega : i = 6 ∨ i = 7 ∨ i = 8 ∨ i = 9 ∨ i = 10) with rfl | rfl | rfl | rfl | rfl
    · rw [if_pos rfl] at hM
      refine lv_tableIn (tgt := 44) hx hb dd_Co_groupedRow_13 (by decide) (by decide) rfl (by decide) ?_
      refine ly_ldc2 (x := (65793 : Int64)) C wa_220 dd_Co_groupedRow_44 ?_
      exact ret (65793 : Int64) H locs 47 ls hM hS hP hD dd_Co_groupedRow_47
    · rw [if_neg (by decide), if_pos rfl] at hM
      refine lv_tableIn (tgt := 48) hx hb dd_Co_groupedRow_13 (by decide) (by decide) rfl (by decide) ?_
      refine ly_ldc2 (x := (1103823372288 : Int64)) C wa_221 dd_Co_groupedRow_48 ?_
      exact ret (1103823372288 : Int64) H locs 51 ls hM hS hP hD dd_Co_groupedRow_51
    · rw [if_neg (by decide), if_neg (by decide), if_pos rfl] at hM
      refine lv_tableIn (tgt := 52) hx hb dd_Co_groupedRow_13 (by decide) (by decide) rfl (by decide) ?_
      refine lv_bipush (v := (8 : Int32)) hx hb dd_Co_groupedRow_52 (by decide) ?_
      obtain ⟨r_54, hq54⟩ : ∃ z, z = mm_Co_inversesRow (8 : Int32) := ⟨_, rfl⟩
      try rw [← hq54] at hM
      refine ly_cS_l (n := 1) (z := r_54) (rest := []) (wn := ([] : va_W)) C (cc_Co_inversesRow D K (8 : Int32)) hq54 wa_222 wa_217 wa_41 wa_218 (by decide) (Nat.le_trans (by decide) hRf) (Nat.le_trans (by decide) hRl) rfl hl.1 rfl (Nat.le_of_ble_eq_true rfl) dd_Co_groupedRow_54 hcs [] [] [] hP hD hS rfl rfl (by decide) rfl (fun H locs hP hD hS => ?_)
      refine W.eq (g2 := F0 m 57 ls [.long r_54]) rfl ?_
      exact ret r_54 H locs 57 ls hM hS hP hD dd_Co_groupedRow_57
    · rw [if_neg (by decide), if_neg (by decide), if_neg (by decide), if_pos rfl] at hM
      refine lv_tableIn (tgt := 58) hx hb dd_Co_groupedRow_13 (by decide) (by decide) rfl (by decide) ?_
      refine lv_bipush (v := (9 : Int32)) hx hb dd_Co_groupedRow_58 (by decide) ?_
      obtain ⟨r_60, hq60⟩ : ∃ z, z = mm_Co_inversesRow (9 : Int32) := ⟨_, rfl⟩
      try rw [← hq60] at hM
      refine ly_cS_l (n := 1) (z := r_60) (rest := []) (wn := ([] : va_W)) C (cc_Co_inversesRow D K (9 : Int32)) hq60 wa_222 wa_217 wa_41 wa_218 (by decide) (Nat.le_trans (by decide) hRf) (Nat.le_trans (by decide) hRl) rfl hl.1 rfl (Nat.le_of_ble_eq_true rfl) dd_Co_groupedRow_60 hcs [] [] [] hP hD hS rfl rfl (by decide) rfl (fun H locs hP hD hS => ?_)
      refine W.eq (g2 := F0 m 63 ls [.long r_60]) rfl ?_
      exact ret r_60 H locs 63 ls hM hS hP hD dd_Co_groupedRow_63
    · rw [if_neg (by decide), if_neg (by decide), if_neg (by decide), if_neg (by decide)] at hM
      refine lv_tableOut (tgt := 64) hx hb dd_Co_groupedRow_13 (by decide) (by decide) ?_
      refine lv_bipush (v := (8 : Int32)) hx hb dd_Co_groupedRow_64 (by decide) ?_
      obtain ⟨r_66, hq66⟩ : ∃ z, z = mm_Co_inversesRow (8 : Int32) := ⟨_, rfl⟩
      try rw [← hq66] at hM
      refine ly_cS_l (n := 1) (z := r_66) (rest := []) (wn := ([] : va_W)) C (cc_Co_inversesRow D K (8 : Int32)) hq66 wa_222 wa_217 wa_41 wa_218 (by decide) (Nat.le_trans (by decide) hRf) (Nat.le_trans (by decide) hRl) rfl hl.1 rfl (Nat.le_of_ble_eq_true rfl) dd_Co_groupedRow_66 hcs [] [] [] hP hD hS rfl rfl (by decide) rfl (fun H locs hP hD hS => ?_)
      refine W.eq (g2 := F0 m 69 ls [.long r_66]) rfl ?_
      refine lv_bipush (v := (9 : Int32)) hx hb dd_Co_groupedRow_69 (by decide) ?_
      obtain ⟨r_71, hq71⟩ : ∃ z, z = mm_Co_inversesRow (9 : Int32) := ⟨_, rfl⟩
      try rw [← hq71] at hM
      refine ly_cS_l (n := 1) (z := r_71) (rest := [.long r_66]) (wn := ([] : va_W)) C (cc_Co_inversesRow D K (9 : Int32)) hq71 wa_222 wa_217 wa_41 wa_218 (by decide) (Nat.le_trans (by decide) hRf) (Nat.le_trans (by decide) hRl) rfl hl.1 rfl (Nat.le_of_ble_eq_true rfl) dd_Co_groupedRow_71 hcs [] [] [] hP hD hS rfl rfl (by decide) rfl (fun H locs hP hD hS => ?_)
      refine W.eq (g2 := F0 m 74 ls [.long r_71, .long r_66]) rfl ?_
      refine lv_lxor hx hb dd_Co_groupedRow_74 ?_
      exact ret (r_66 ^^^ r_71) H locs 75 ls hM hS hP hD dd_Co_groupedRow_75
  · rw [if_neg h3] at hM
    refine lv_iconst (v := (1 : Int32)) hx hb dd_Co_groupedRow_6 (by decide) ?_
    refine lv_iload_n hx hb dd_Co_groupedRow_7 rfl (lv_at hl 0 rfl) ?_
    obtain ⟨r_8, hq8⟩ : ∃ z, z = mm_By_placed (1 : Int32) i := ⟨_, rfl⟩
    try rw [← hq8] at hM
    refine ly_cS_l (n := 2) (z := r_8) (rest := []) (wn := ([] : va_W)) C (cc_By_placed D K (1 : Int32) i) hq8 wa_197 wa_215 wa_149 wa_216 (by decide) (Nat.le_trans (by decide) hRf) (Nat.le_trans (by decide) hRl) rfl hl.1 rfl (Nat.le_of_ble_eq_true rfl) dd_Co_groupedRow_8 hcs [] [] [] hP hD hS rfl rfl (by decide) rfl (fun H locs hP hD hS => ?_)
    refine W.eq (g2 := F0 m 11 ls [.long r_8]) rfl ?_
    exact ret r_8 H locs 11 ls hM hS hP hD dd_Co_groupedRow_11

def mm_RG_isIn (x : Int32) (i : Nat) : Int32 := (if ((x >>> ((nI i) &&& 31)) &&& (1 : Int32)) = (0 : Int32) then (0 : Int32) else (1 : Int32))
set_option maxHeartbeats 4000000 in
set_option maxRecDepth 100000 in
theorem cc_RG_isIn {l : Launch} (D : va_G) (K : Nat → ClassId) (x : Int32) (i : Nat) : ly_i l yy_RG_isIn bb_RG_isIn 2 (some .boolean) 0 0 D K [.int x, .int (nI i)] ([] : va_W) (fun z => z) (fun _ => ([] : va_W)) (mm_RG_isIn x i) := by
  refine ly_entI (by decide) (Nat.le_of_ble_eq_true rfl) ?_
  intro p e s m av below meth c A ls R Q H locs res hM C hRf hRl hS hP hD hl ret
  obtain ⟨hx, hb, -⟩ := id C
  have hcs : 0 ≤ R.cells ∧ 0 ≤ R.slots := ⟨Nat.zero_le _, Nat.zero_le _⟩
  have hl : lv_has ls 2 [(0, .int x), (1, .int (nI i))] := hl
  rw [mm_RG_isIn] at hM
  refine lv_iload_n hx hb dd_RG_isIn_0 rfl (lv_at hl 0 rfl) ?_
  refine lv_iload_n hx hb dd_RG_isIn_1 rfl (lv_at hl 1 rfl) ?_
  refine lv_ishr hx hb dd_RG_isIn_2 ?_
  refine lv_iconst (v := (1 : Int32)) hx hb dd_RG_isIn_3 (by decide) ?_
  refine lv_iand hx hb dd_RG_isIn_4 ?_
  refine lv_if_eq (tgt := 12) hx hb dd_RG_isIn_5 (by decide) (fun h5 => ?_) (fun h5 => ?_)
  · rw [if_pos h5] at hM
    refine lv_iconst (v := (0 : Int32)) hx hb dd_RG_isIn_12 (by decide) ?_
    exact ret (0 : Int32) H locs 13 ls hM ly_z0 hS hP hD dd_RG_isIn_13
  · rw [if_neg h5] at hM
    refine lv_iconst (v := (1 : Int32)) hx hb dd_RG_isIn_8 (by decide) ?_
    refine lv_goto (tgt := 13) hx hb dd_RG_isIn_9 (by decide) ?_
    exact ret (1 : Int32) H locs 13 ls hM ly_z1 hS hP hD dd_RG_isIn_13
theorem zb_RG_isIn (x : Int32) (i : Nat) : narrow .boolean (.int (mm_RG_isIn x i)) = .int (mm_RG_isIn x i) := by
  unfold mm_RG_isIn; split <;> rfl
end
section
def mm_Co_groupOf (i : Nat) (n : Nat) (gr : Int32) : Int32 := (if gr = (0 : Int32) then (0 : Int32) else (if (mm_RG_isIn (71 : Int32) i) = (0 : Int32) then (if (mm_RG_isIn (184 : Int32) i) = (0 : Int32) then (if (nI n) = (11 : Int32) then (1792 : Int32) else (0 : Int32)) else (184 : Int32)) else (71 : Int32)))
set_option maxHeartbeats 4000000 in
set_option maxRecDepth 100000 in
theorem cc_Co_groupOf {l : Launch} (D : va_G) (K : Nat → ClassId) (ac ar : Nat) (i : Nat) (n : Nat) (gr : Int32) (hn : n ≤ 11) : ly_i l yy_Co_groupOf bb_Co_groupOf 2 (some .int) 1 21 D K [.ref ac, .int (nI i)] (ws_Co K ac ar n gr) (fun z => z) (fun _ => (ws_Co K ac ar n gr)) (mm_Co_groupOf i n gr) := by
  refine ly_entI (by decide) (Nat.le_of_ble_eq_true rfl) ?_
  intro p e s m av below meth c A ls R Q H locs res hM C hRf hRl hS hP hD hl ret
  obtain ⟨hx, hb, -⟩ := id C
  have hcs : 0 ≤ R.cells ∧ 0 ≤ R.slots := ⟨Nat.zero_le _, Nat.zero_le _⟩
  have hl : lv_has ls 2 [(0, .ref ac), (1, .int (nI i))] := hl
  rw [mm_Co_groupOf] at hM
  refine lv_aload_n hx hb dd_Co_groupOf_0 rfl (lv_at hl 0 rfl) ?_
  refine ly_get (v := .int gr) C hP 0 rfl uw_Co rfl 2 (by decide) wa_207 rfl dd_Co_groupOf_1 ?_
  refine lv_if_ne (tgt := 9) hx hb dd_Co_groupOf_4 (by decide) (fun h4 => ?_) (fun h4 => ?_)
  · rw [if_neg h4] at hM
    refine lv_bipush (v := (71 : Int32)) hx hb dd_Co_groupOf_9 (by decide) ?_
    refine lv_iload_n hx hb dd_Co_groupOf_11 rfl (lv_at hl 1 rfl) ?_
    obtain ⟨r_12, hq12⟩ : ∃ z, z = mm_RG_isIn (71 : Int32) i := ⟨_, rfl⟩
    try rw [← hq12] at hM
    refine ly_cSN_i (n := 2) (z := r_12) (rest := []) (wn := (ws_Co K ac ar n gr)) C (cc_RG_isIn D K (71 : Int32) i) hq12 wa_195 nw_3 wa_62 wa_167 (by decide) (Nat.le_trans (by decide) hRf) (Nat.le_trans (by decide) hRl) rfl hl.1 rfl (Nat.le_of_ble_eq_true rfl) dd_Co_groupOf_12 hcs [] [0] [0] hP hD hS rfl rfl (by decide) rfl (fun H locs hP hD hS => ?_)
    refine W.eq (g2 := F0 m 15 ls [.int r_12]) rfl ?_
    refine lv_if_eq (tgt := 21) hx hb dd_Co_groupOf_15 (by decide) (fun h15 => ?_) (fun h15 => ?_)
    · rw [if_pos h15] at hM
      refine lv_sipush (v := (184 : Int32)) hx hb dd_Co_groupOf_21 (by decide) ?_
      refine lv_iload_n hx hb dd_Co_groupOf_24 rfl (lv_at hl 1 rfl) ?_
      obtain ⟨r_25, hq25⟩ : ∃ z, z = mm_RG_isIn (184 : Int32) i := ⟨_, rfl⟩
      try rw [← hq25] at hM
      refine ly_cSN_i (n := 2) (z := r_25) (rest := []) (wn := (ws_Co K ac ar n gr)) C (cc_RG_isIn D K (184 : Int32) i) hq25 wa_195 nw_3 wa_62 wa_167 (by decide) (Nat.le_trans (by decide) hRf) (Nat.le_trans (by decide) hRl) rfl hl.1 rfl (Nat.le_of_ble_eq_true rfl) dd_Co_groupOf_25 hcs [] [0] [0] hP hD hS rfl rfl (by decide) rfl (fun H locs hP hD hS => ?_)
      refine W.eq (g2 := F0 m 28 ls [.int r_25]) rfl ?_
      refine lv_if_eq (tgt := 35) hx hb dd_Co_groupOf_28 (by decide) (fun h28 => ?_) (fun h28 => ?_)
      · rw [if_pos h28] at hM
        refine lv_aload_n hx hb dd_Co_groupOf_35 rfl (lv_at hl 0 rfl) ?_
        refine ly_get (v := .int (nI n)) C hP 0 rfl uw_Co rfl 0 (by decide) wa_206 rfl dd_Co_groupOf_36 ?_
        refine lv_bipush (v := (11 : Int32)) hx hb dd_Co_groupOf_39 (by decide) ?_
        refine lv_icmp_ne (tgt := 50) hx hb dd_Co_groupOf_41 (by decide) (fun h41 => ?_) (fun h41 => ?_)
        · rw [if_neg h41] at hM
          refine lv_iconst (v := (0 : Int32)) hx hb dd_Co_groupOf_50 (by decide) ?_
          exact ret (0 : Int32) H locs 51 ls hM rfl hS hP hD dd_Co_groupOf_51
        · rw [if_pos h41] at hM
          refine lv_sipush (v := (1792 : Int32)) hx hb dd_Co_groupOf_44 (by decide) ?_
          refine lv_goto (tgt := 51) hx hb dd_Co_groupOf_47 (by decide) ?_
          exact ret (1792 : Int32) H locs 51 ls hM rfl hS hP hD dd_Co_groupOf_51
      · rw [if_neg h28] at hM
        refine lv_sipush (v := (184 : Int32)) hx hb dd_Co_groupOf_31 (by decide) ?_
        exact ret (184 : Int32) H locs 34 ls hM rfl hS hP hD dd_Co_groupOf_34
    · rw [if_neg h15] at hM
      refine lv_bipush (v := (71 : Int32)) hx hb dd_Co_groupOf_18 (by decide) ?_
      exact ret (71 : Int32) H locs 20 ls hM rfl hS hP hD dd_Co_groupOf_20
  · rw [if_pos h4] at hM
    refine lv_iconst (v := (0 : Int32)) hx hb dd_Co_groupOf_7 (by decide) ?_
    exact ret (0 : Int32) H locs 8 ls hM rfl hS hP hD dd_Co_groupOf_8

def mm_Sp_clear_L2 : Nat → Nat → (Nat → Int64) → (Nat → Int64) → (Nat → Int64) × (Nat → Int64)
  | 0, j, sr, sv => (sr, sv)
  | k + 1, j, sr, sv => (mm_Sp_clear_L2 k (j + 1) (vp_updL sr j (0 : Int64)) (vp_updL sv j (0 : Int64)))
def mm_Sp_clear (sr : Nat → Int64) (sv : Nat → Int64) : (Nat → Int64) × (Nat → Int64) := (mm_Sp_clear_L2 6 0 sr sv)
set_option maxHeartbeats 4000000 in
set_option maxRecDepth 100000 in
theorem cc_Sp_clear {l : Launch} (D : va_G) (K : Nat → ClassId) (ap aq ax : Nat) (sr : Nat → Int64) (sv : Nat → Int64) : ly_v l yy_Sp_clear bb_Sp_clear 2 none 0 0 D K [.ref ap] (ws_Sp K ap aq ax sr sv) (fun z => (ws_Sp K ap aq ax (z.1) (z.2))) (mm_Sp_clear sr sv) := by
  refine ly_entV (by decide) (Nat.le_of_ble_eq_true rfl) ?_
  intro p e s m av below meth c A ls R Q H locs res hM C hRf hRl hS hP hD hl ret
  obtain ⟨hx, hb, -⟩ := id C
  have hcs : 0 ≤ R.cells ∧ 0 ≤ R.slots := ⟨Nat.zero_le _, Nat.zero_le _⟩
  have hl : lv_has ls 2 [(0, .ref ap)] := hl
  rw [mm_Sp_clear] at hM
  refine lv_iconst (v := (0 : Int32)) hx hb dd_Sp_clear_0 (by decide) ?_
  refine lv_istore_n (lv' := [(1, .int (0 : Int32)), (0, .ref ap)]) hx hb dd_Sp_clear_1 rfl hl (by decide) rfl (fun ls hl => ?_)
  have lp2 : ∀ (k : Nat) (j : Nat) (sr : Nat → Int64) (sv : Nat → Int64) (ls : Array Slot) (H : Heap) (locs : List Loc), j + k = 6 → mm_Sp_clear_L2 k j sr sv = res → lv_has ls 2 [(1, .int (nI j)), (0, .ref ap)] → va_P D cl_all (ws_Sp K ap aq ax sr sv) H → va_D A (ws_Sp K ap aq ax sr sv) → va_S A s.heap H locs → W p l e R s m av below meth c H locs 0 0 Q (F0 m 2 ls []) := by
    intro k
    induction k with
    | zero =>
      intro j sr sv ls H locs hjk hM hl hP hD hS
      have hj0 : j = 6 := by omega
      subst j
      rw [mm_Sp_clear_L2] at hM
      refine lv_iload_n hx hb dd_Sp_clear_2 rfl (lv_at hl 0 rfl) ?_
      refine lv_bipush (v := (6 : Int32)) hx hb dd_Sp_clear_3 (by decide) ?_
      refine lv_icmp_ge (tgt := 28) hx hb dd_Sp_clear_5 (by decide) (fun _ => ?_) (fun h => absurd (nI_le (a := 6) (b := 6) (by omega) (by omega)) h)
      exact ret (sr, sv) H locs 28 ls hM hS hP hD dd_Sp_clear_28
    | succ k ih2 =>
      intro j sr sv ls H locs hjk hM hl hP hD hS
      rw [mm_Sp_clear_L2] at hM
      refine lv_iload_n hx hb dd_Sp_clear_2 rfl (lv_at hl 0 rfl) ?_
      refine lv_bipush (v := (6 : Int32)) hx hb dd_Sp_clear_3 (by decide) ?_
      refine lv_icmp_ge (tgt := 28) hx hb dd_Sp_clear_5 (by decide) (fun h => absurd h (nI_ge (a := j) (b := 6) (by omega) (by omega))) (fun _ => ?_)
      refine lv_aload_n hx hb dd_Sp_clear_8 rfl (lv_at hl 1 rfl) ?_
      refine ly_get (v := .ref aq) C hP 0 rfl uw_Sp rfl 0 (by decide) wa_228 rfl dd_Sp_clear_9 ?_
      refine lv_iload_n hx hb dd_Sp_clear_12 rfl (lv_at hl 0 rfl) ?_
      refine lv_lconst (v := (0 : Int64)) hx hb dd_Sp_clear_13 (by decide) ?_
      refine ly_last (ws' := (ws_Sp K ap aq ax (vp_updL sr j (0 : Int64)) sv)) C hP hD hS 1 rfl j rfl (by omega) (by omega) dd_Sp_clear_14 rfl (fun H locs hP hD hS => ?_)
      refine lv_aload_n hx hb dd_Sp_clear_15 rfl (lv_at hl 1 rfl) ?_
      refine ly_get (v := .ref ax) C hP 0 rfl uw_Sp rfl 1 (by decide) wa_229 rfl dd_Sp_clear_16 ?_
      refine lv_iload_n hx hb dd_Sp_clear_19 rfl (lv_at hl 0 rfl) ?_
      refine lv_lconst (v := (0 : Int64)) hx hb dd_Sp_clear_20 (by decide) ?_
      refine ly_last (ws' := (ws_Sp K ap aq ax (vp_updL sr j (0 : Int64)) (vp_updL sv j (0 : Int64)))) C hP hD hS 2 rfl j rfl (by omega) (by omega) dd_Sp_clear_21 rfl (fun H locs hP hD hS => ?_)
      refine lv_iinc (k := 0) (v := (nI (j + 1))) (lv' := [(1, .int (nI (j + 1))), (0, .ref ap)]) hx hb dd_Sp_clear_22 hl rfl (ly_incN _) (by decide) rfl (fun ls hl => ?_)
      refine lv_goto (tgt := 2) hx hb dd_Sp_clear_25 (by decide) ?_
      exact ih2 (j + 1) (vp_updL sr j (0 : Int64)) (vp_updL sv j (0 : Int64)) ls H locs (by omega) hM (lv_sub hl [0, 1] rfl) hP hD hS
  exact lp2 6 0 sr sv ls H locs (by omega) hM (lv_sub hl [0, 1] rfl) hP hD hS

def mm_Sp_take_L9 (sr : Nat → Int64) (sv : Nat → Int64) : Nat → Nat → (Int64) → (Int64) → Int32 × (Nat → Int64) × (Nat → Int64)
  | 0, j, v5, v7 => ((0 : Int32), sr, sv)
  | k + 1, j, v5, v7 => (if (mm_By_at v5 j) = (0 : Int32) then (mm_Sp_take_L9 sr sv k (j + 1) (v5 ^^^ (mm_By_times (mm_By_at v5 j) (sr j))) (v7 ^^^ (mm_By_times (mm_By_at v5 j) (sv j)))) else (if (lg_cmp (sr j) (0 : Int64)) = (0 : Int32) then ((1 : Int32), (vp_updL sr j (mm_By_times (mm_By_inverse (mm_By_at v5 j)) v5)), (vp_updL sv j (mm_By_times (mm_By_inverse (mm_By_at v5 j)) v7))) else (mm_Sp_take_L9 sr sv k (j + 1) (v5 ^^^ (mm_By_times (mm_By_at v5 j) (sr j))) (v7 ^^^ (mm_By_times (mm_By_at v5 j) (sv j))))))
def mm_Sp_take (x : Int64) (y : Int64) (sr : Nat → Int64) (sv : Nat → Int64) : Int32 × (Nat → Int64) × (Nat → Int64) := (mm_Sp_take_L9 sr sv 6 0 x y)
set_option maxHeartbeats 4000000 in
set_option maxRecDepth 100000 in
theorem cc_Sp_take {l : Launch} (D : va_G) (K : Nat → ClassId) (ap aq ax : Nat) (x : Int64) (y : Int64) (sr : Nat → Int64) (sv : Nat → Int64) : ly_i l yy_Sp_take bb_Sp_take 12 (some .boolean) 2 54 D K [.ref ap, .long x, .long y] (ws_Sp K ap aq ax sr sv) (fun z => z.1) (fun z => (ws_Sp K ap aq ax (z.2.1) (z.2.2))) (mm_Sp_take x y sr sv) := by
  refine ly_entI (by decide) (Nat.le_of_ble_eq_true rfl) ?_
  intro p e s m av below meth c A ls R Q H locs res hM C hRf hRl hS hP hD hl ret
  obtain ⟨hx, hb, -⟩ := id C
  have hcs : 0 ≤ R.cells ∧ 0 ≤ R.slots := ⟨Nat.zero_le _, Nat.zero_le _⟩
  have hl : lv_has ls 12 [(0, .ref ap), (1, .long x), (3, .long y)] := hl
  rw [mm_Sp_take] at hM
  refine lv_lload_n hx hb dd_Sp_take_0 rfl (lv_at hl 1 rfl) ?_
  refine lv_lstore (lv' := [(5, .long x), (0, .ref ap), (1, .long x), (3, .long y)]) hx hb dd_Sp_take_1 hl (by decide) rfl (fun ls hl => ?_)
  refine lv_lload_n hx hb dd_Sp_take_3 rfl (lv_at hl 3 rfl) ?_
  refine lv_lstore (lv' := [(7, .long y), (5, .long x), (0, .ref ap), (1, .long x), (3, .long y)]) hx hb dd_Sp_take_4 hl (by decide) rfl (fun ls hl => ?_)
  refine lv_iconst (v := (0 : Int32)) hx hb dd_Sp_take_6 (by decide) ?_
  refine lv_istore (lv' := [(9, .int (0 : Int32)), (7, .long y), (5, .long x), (0, .ref ap), (1, .long x), (3, .long y)]) hx hb dd_Sp_take_7 hl (by decide) rfl (fun ls hl => ?_)
  have lp9 : ∀ (k : Nat) (j : Nat) (v5 : Int64) (v7 : Int64) (ls : Array Slot) (H : Heap) (locs : List Loc), j + k = 6 → mm_Sp_take_L9 sr sv k j v5 v7 = res → lv_has ls 12 [(9, .int (nI j)), (7, .long v7), (5, .long v5), (0, .ref ap), (1, .long x), (3, .long y)] → va_P D cl_all (ws_Sp K ap aq ax sr sv) H → va_D A (ws_Sp K ap aq ax sr sv) → va_S A s.heap H locs → W p l e R s m av below meth c H locs 0 0 Q (F0 m 9 ls []) := by
    intro k
    induction k with
    | zero =>
      intro j v5 v7 ls H locs hjk hM hl hP hD hS
      have hj0 : j = 6 := by omega
      subst j
      rw [mm_Sp_take_L9] at hM
      refine lv_iload hx hb dd_Sp_take_9 (lv_at hl 0 rfl) ?_
      refine lv_bipush (v := (6 : Int32)) hx hb dd_Sp_take_11 (by decide) ?_
      refine lv_icmp_ge (tgt := 119) hx hb dd_Sp_take_13 (by decide) (fun _ => ?_) (fun h => absurd (nI_le (a := 6) (b := 6) (by omega) (by omega)) h)
      refine lv_iconst (v := (0 : Int32)) hx hb dd_Sp_take_119 (by decide) ?_
      exact ret ((0 : Int32), sr, sv) H locs 120 ls hM ly_z0 hS hP hD dd_Sp_take_120
    | succ k ih9 =>
      intro j v5 v7 ls H locs hjk hM hl hP hD hS
      rw [mm_Sp_take_L9] at hM
      refine lv_iload hx hb dd_Sp_take_9 (lv_at hl 0 rfl) ?_
      refine lv_bipush (v := (6 : Int32)) hx hb dd_Sp_take_11 (by decide) ?_
      refine lv_icmp_ge (tgt := 119) hx hb dd_Sp_take_13 (by decide) (fun h => absurd h (nI_ge (a := j) (b := 6) (by omega) (by omega))) (fun _ => ?_)
      refine lv_lload hx hb dd_Sp_take_16 (lv_at hl 2 rfl) ?_
      refine lv_iload hx hb dd_Sp_take_18 (lv_at hl 0 rfl) ?_
      obtain ⟨r_20, hq20⟩ : ∃ z, z = mm_By_at v5 j := ⟨_, rfl⟩
      try rw [← hq20] at hM
      refine ly_cS_i (n := 2) (z := r_20) (rest := []) (wn := (ws_Sp K ap aq ax sr sv)) C (cc_By_at D K v5 j) hq20 wa_196 wa_232 wa_149 wa_150 (by decide) (Nat.le_trans (by decide) hRf) (Nat.le_trans (by decide) hRl) rfl hl.1 rfl (Nat.le_of_ble_eq_true rfl) dd_Sp_take_20 hcs [] [0, 1, 2] [0, 1, 2] hP hD hS rfl rfl (by decide) rfl (fun H locs hP hD hS => ?_)
      refine W.eq (g2 := F0 m 23 ls [.int r_20]) rfl ?_
      refine lv_istore (lv' := [(10, .int r_20), (9, .int (nI j)), (7, .long v7), (5, .long v5), (0, .ref ap), (1, .long x), (3, .long y)]) hx hb dd_Sp_take_23 hl (by decide) rfl (fun ls hl => ?_)
      refine lv_iload hx hb dd_Sp_take_25 (lv_at hl 0 rfl) ?_
      refine lv_if_eq (tgt := 79) hx hb dd_Sp_take_27 (by decide) (fun h27 => ?_) (fun h27 => ?_)
      · rw [if_pos h27] at hM
        refine lv_lload hx hb dd_Sp_take_79 (lv_at hl 3 rfl) ?_
        refine lv_iload hx hb dd_Sp_take_81 (lv_at hl 0 rfl) ?_
        refine lv_aload_n hx hb dd_Sp_take_83 rfl (lv_at hl 4 rfl) ?_
        refine ly_get (v := .ref aq) C hP 0 rfl uw_Sp rfl 0 (by decide) wa_228 rfl dd_Sp_take_84 ?_
        refine lv_iload hx hb dd_Sp_take_87 (lv_at hl 1 rfl) ?_
        refine ly_lald C hP 1 rfl j rfl (by omega) (by omega) dd_Sp_take_89 ?_
        obtain ⟨r_90, hq90⟩ : ∃ z, z = mm_By_times r_20 (sr j) := ⟨_, rfl⟩
        try rw [← hq90] at hM
        refine ly_cS_l (n := 2) (z := r_90) (rest := [.long v5]) (wn := (ws_Sp K ap aq ax sr sv)) C (cc_By_times D K r_20 (sr j)) hq90 wa_198 wa_234 wa_149 wa_155 (by decide) (Nat.le_trans (by decide) hRf) (Nat.le_trans (by decide) hRl) rfl hl.1 rfl (Nat.le_of_ble_eq_true rfl) dd_Sp_take_90 hcs [] [0, 1, 2] [0, 1, 2] hP hD hS rfl rfl (by decide) rfl (fun H locs hP hD hS => ?_)
        refine W.eq (g2 := F0 m 93 ls [.long r_90, .long v5]) rfl ?_
        refine lv_lxor hx hb dd_Sp_take_93 ?_
        refine lv_lstore (lv' := [(5, .long (v5 ^^^ r_90)), (10, .int r_20), (9, .int (nI j)), (7, .long v7), (0, .ref ap), (1, .long x), (3, .long y)]) hx hb dd_Sp_take_94 hl (by decide) rfl (fun ls hl => ?_)
        refine lv_lload hx hb dd_Sp_take_96 (lv_at hl 3 rfl) ?_
        refine lv_iload hx hb dd_Sp_take_98 (lv_at hl 1 rfl) ?_
        refine lv_aload_n hx hb dd_Sp_take_100 rfl (lv_at hl 4 rfl) ?_
        refine ly_get (v := .ref ax) C hP 0 rfl uw_Sp rfl 1 (by decide) wa_229 rfl dd_Sp_take_101 ?_
        refine lv_iload hx hb dd_Sp_take_104 (lv_at hl 2 rfl) ?_
        refine ly_lald C hP 2 rfl j rfl (by omega) (by omega) dd_Sp_take_106 ?_
        obtain ⟨r_107, hq107⟩ : ∃ z, z = mm_By_times r_20 (sv j) := ⟨_, rfl⟩
        try rw [← hq107] at hM
        refine ly_cS_l (n := 2) (z := r_107) (rest := [.long v7]) (wn := (ws_Sp K ap aq ax sr sv)) C (cc_By_times D K r_20 (sv j)) hq107 wa_198 wa_234 wa_149 wa_155 (by decide) (Nat.le_trans (by decide) hRf) (Nat.le_trans (by decide) hRl) rfl hl.1 rfl (Nat.le_of_ble_eq_true rfl) dd_Sp_take_107 hcs [] [0, 1, 2] [0, 1, 2] hP hD hS rfl rfl (by decide) rfl (fun H locs hP hD hS => ?_)
        refine W.eq (g2 := F0 m 110 ls [.long r_107, .long v7]) rfl ?_
        refine lv_lxor hx hb dd_Sp_take_110 ?_
        refine lv_lstore (lv' := [(7, .long (v7 ^^^ r_107)), (5, .long (v5 ^^^ r_90)), (10, .int r_20), (9, .int (nI j)), (0, .ref ap), (1, .long x), (3, .long y)]) hx hb dd_Sp_take_111 hl (by decide) rfl (fun ls hl => ?_)
        refine lv_iinc (k := 3) (v := (nI (j + 1))) (lv' := [(9, .int (nI (j + 1))), (7, .long (v7 ^^^ r_107)), (5, .long (v5 ^^^ r_90)), (10, .int r_20), (0, .ref ap), (1, .long x), (3, .long y)]) hx hb dd_Sp_take_113 hl rfl (ly_incN _) (by decide) rfl (fun ls hl => ?_)
        refine lv_goto (tgt := 9) hx hb dd_Sp_take_116 (by decide) ?_
        exact ih9 (j + 1) (v5 ^^^ r_90) (v7 ^^^ r_107) ls H locs (by omega) hM (lv_sub hl [0, 1, 2, 4, 5, 6] rfl) hP hD hS
      · rw [if_neg h27] at hM
        refine lv_aload_n hx hb dd_Sp_take_30 rfl (lv_at hl 4 rfl) ?_
        refine ly_get (v := .ref aq) C hP 0 rfl uw_Sp rfl 0 (by decide) wa_228 rfl dd_Sp_take_31 ?_
        refine lv_iload hx hb dd_Sp_take_34 (lv_at hl 1 rfl) ?_
        refine ly_lald C hP 1 rfl j rfl (by omega) (by omega) dd_Sp_take_36 ?_
        refine lv_lconst (v := (0 : Int64)) hx hb dd_Sp_take_37 (by decide) ?_
        refine W.lcmp hx hb dd_Sp_take_38 ?_
        refine lv_if_ne (tgt := 79) hx hb dd_Sp_take_39 (by decide) (fun h39 => ?_) (fun h39 => ?_)
        · rw [if_neg h39] at hM
          refine lv_lload hx hb dd_Sp_take_79 (lv_at hl 3 rfl) ?_
          refine lv_iload hx hb dd_Sp_take_81 (lv_at hl 0 rfl) ?_
          refine lv_aload_n hx hb dd_Sp_take_83 rfl (lv_at hl 4 rfl) ?_
          refine ly_get (v := .ref aq) C hP 0 rfl uw_Sp rfl 0 (by decide) wa_228 rfl dd_Sp_take_84 ?_
          refine lv_iload hx hb dd_Sp_take_87 (lv_at hl 1 rfl) ?_
          refine ly_lald C hP 1 rfl j rfl (by omega) (by omega) dd_Sp_take_89 ?_
          obtain ⟨r_90, hq90⟩ : ∃ z, z = mm_By_times r_20 (sr j) := ⟨_, rfl⟩
          try rw [← hq90] at hM
          refine ly_cS_l (n := 2) (z := r_90) (rest := [.long v5]) (wn := (ws_Sp K ap aq ax sr sv)) C (cc_By_times D K r_20 (sr j)) hq90 wa_198 wa_234 wa_149 wa_155 (by decide) (Nat.le_trans (by decide) hRf) (Nat.le_trans (by decide) hRl) rfl hl.1 rfl (Nat.le_of_ble_eq_true rfl) dd_Sp_take_90 hcs [] [0, 1, 2] [0, 1, 2] hP hD hS rfl rfl (by decide) rfl (fun H locs hP hD hS => ?_)
          refine W.eq (g2 := F0 m 93 ls [.long r_90, .long v5]) rfl ?_
          refine lv_lxor hx hb dd_Sp_take_93 ?_
          refine lv_lstore (lv' := [(5, .long (v5 ^^^ r_90)), (10, .int r_20), (9, .int (nI j)), (7, .long v7), (0, .ref ap), (1, .long x), (3, .long y)]) hx hb dd_Sp_take_94 hl (by decide) rfl (fun ls hl => ?_)
          refine lv_lload hx hb dd_Sp_take_96 (lv_at hl 3 rfl) ?_
          refine lv_iload hx hb dd_Sp_take_98 (lv_at hl 1 rfl) ?_
          refine lv_aload_n hx hb dd_Sp_take_100 rfl (lv_at hl 4 rfl) ?_
          refine ly_get (v := .ref ax) C hP 0 rfl uw_Sp rfl 1 (by decide) wa_229 rfl dd_Sp_take_101 ?_
          refine lv_iload hx hb dd_Sp_take_104 (lv_at hl 2 rfl) ?_
          refine ly_lald C hP 2 rfl j rfl (by omega) (by omega) dd_Sp_take_106 ?_
          obtain ⟨r_107, hq107⟩ : ∃ z, z = mm_By_times r_20 (sv j) := ⟨_, rfl⟩
          try rw [← hq107] at hM
          refine ly_cS_l (n := 2) (z := r_107) (rest := [.long v7]) (wn := (ws_Sp K ap aq ax sr sv)) C (cc_By_times D K r_20 (sv j)) hq107 wa_198 wa_234 wa_149 wa_155 (by decide) (Nat.le_trans (by decide) hRf) (Nat.le_trans (by decide) hRl) rfl hl.1 rfl (Nat.le_of_ble_eq_true rfl) dd_Sp_take_107 hcs [] [0, 1, 2] [0, 1, 2] hP hD hS rfl rfl (by decide) rfl (fun H locs hP hD hS => ?_)
          refine W.eq (g2 := F0 m 110 ls [.long r_107, .long v7]) rfl ?_
          refine lv_lxor hx hb dd_Sp_take_110 ?_
          refine lv_lstore (lv' := [(7, .long (v7 ^^^ r_107)), (5, .long (v5 ^^^ r_90)), (10, .int r_20), (9, .int (nI j)), (0, .ref ap), (1, .long x), (3, .long y)]) hx hb dd_Sp_take_111 hl (by decide) rfl (fun ls hl => ?_)
          refine lv_iinc (k := 3) (v := (nI (j + 1))) (lv' := [(9, .int (nI (j + 1))), (7, .long (v7 ^^^ r_107)), (5, .long (v5 ^^^ r_90)), (10, .int r_20), (0, .ref ap), (1, .long x), (3, .long y)]) hx hb dd_Sp_take_113 hl rfl (ly_incN _) (by decide) rfl (fun ls hl => ?_)
          refine lv_goto (tgt := 9) hx hb dd_Sp_take_116 (by decide) ?_
          exact ih9 (j + 1) (v5 ^^^ r_90) (v7 ^^^ r_107) ls H locs (by omega) hM (lv_sub hl [0, 1, 2, 4, 5, 6] rfl) hP hD hS
        · rw [if_pos h39] at hM
          refine lv_iload hx hb dd_Sp_take_42 (lv_at hl 0 rfl) ?_
          obtain ⟨r_44, hq44⟩ : ∃ z, z = mm_By_inverse r_20 := ⟨_, rfl⟩
          try rw [← hq44] at hM
          refine ly_cS_i (n := 1) (z := r_44) (rest := []) (wn := (ws_Sp K ap aq ax sr sv)) C (cc_By_inverse D K r_20) hq44 wa_202 wa_233 wa_149 wa_224 (by decide) (Nat.le_trans (by decide) hRf) (Nat.le_trans (by decide) hRl) rfl hl.1 rfl (Nat.le_of_ble_eq_true rfl) dd_Sp_take_44 hcs [] [0, 1, 2] [0, 1, 2] hP hD hS rfl rfl (by decide) rfl (fun H locs hP hD hS => ?_)
          refine W.eq (g2 := F0 m 47 ls [.int r_44]) rfl ?_
          refine lv_istore (lv' := [(11, .int r_44), (10, .int r_20), (9, .int (nI j)), (7, .long v7), (5, .long v5), (0, .ref ap), (1, .long x), (3, .long y)]) hx hb dd_Sp_take_47 hl (by decide) rfl (fun ls hl => ?_)
          refine lv_aload_n hx hb dd_Sp_take_49 rfl (lv_at hl 5 rfl) ?_
          refine ly_get (v := .ref aq) C hP 0 rfl uw_Sp rfl 0 (by decide) wa_228 rfl dd_Sp_take_50 ?_
          refine lv_iload hx hb dd_Sp_take_53 (lv_at hl 2 rfl) ?_
          refine lv_iload hx hb dd_Sp_take_55 (lv_at hl 0 rfl) ?_
          refine lv_lload hx hb dd_Sp_take_57 (lv_at hl 4 rfl) ?_
          obtain ⟨r_59, hq59⟩ : ∃ z, z = mm_By_times r_44 v5 := ⟨_, rfl⟩
          try rw [← hq59] at hM
          refine ly_cS_l (n := 2) (z := r_59) (rest := [.int (nI j), .ref aq]) (wn := (ws_Sp K ap aq ax sr sv)) C (cc_By_times D K r_44 v5) hq59 wa_198 wa_234 wa_149 wa_155 (by decide) (Nat.le_trans (by decide) hRf) (Nat.le_trans (by decide) hRl) rfl hl.1 rfl (Nat.le_of_ble_eq_true rfl) dd_Sp_take_59 hcs [] [0, 1, 2] [0, 1, 2] hP hD hS rfl rfl (by decide) rfl (fun H locs hP hD hS => ?_)
          refine W.eq (g2 := F0 m 62 ls [.long r_59, .int (nI j), .ref aq]) rfl ?_
          refine ly_last (ws' := (ws_Sp K ap aq ax (vp_updL sr j r_59) sv)) C hP hD hS 1 rfl j rfl (by omega) (by omega) dd_Sp_take_62 rfl (fun H locs hP hD hS => ?_)
          refine lv_aload_n hx hb dd_Sp_take_63 rfl (lv_at hl 5 rfl) ?_
          refine ly_get (v := .ref ax) C hP 0 rfl uw_Sp rfl 1 (by decide) wa_229 rfl dd_Sp_take_64 ?_
          refine lv_iload hx hb dd_Sp_take_67 (lv_at hl 2 rfl) ?_
          refine lv_iload hx hb dd_Sp_take_69 (lv_at hl 0 rfl) ?_
          refine lv_lload hx hb dd_Sp_take_71 (lv_at hl 3 rfl) ?_
          obtain ⟨r_73, hq73⟩ : ∃ z, z = mm_By_times r_44 v7 := ⟨_, rfl⟩
          try rw [← hq73] at hM
          refine ly_cS_l (n := 2) (z := r_73) (rest := [.int (nI j), .ref ax]) (wn := (ws_Sp K ap aq ax (vp_updL sr j r_59) sv)) C (cc_By_times D K r_44 v7) hq73 wa_198 wa_234 wa_149 wa_155 (by decide) (Nat.le_trans (by decide) hRf) (Nat.le_trans (by decide) hRl) rfl hl.1 rfl (Nat.le_of_ble_eq_true rfl) dd_Sp_take_73 hcs [] [0, 1, 2] [0, 1, 2] hP hD hS rfl rfl (by decide) rfl (fun H locs hP hD hS => ?_)
          refine W.eq (g2 := F0 m 76 ls [.long r_73, .int (nI j), .ref ax]) rfl ?_
          refine ly_last (ws' := (ws_Sp K ap aq ax (vp_updL sr j r_59) (vp_updL sv j r_73))) C hP hD hS 2 rfl j rfl (by omega) (by omega) dd_Sp_take_76 rfl (fun H locs hP hD hS => ?_)
          refine lv_iconst (v := (1 : Int32)) hx hb dd_Sp_take_77 (by decide) ?_
          exact ret ((1 : Int32), (vp_updL sr j r_59), (vp_updL sv j r_73)) H locs 78 ls hM ly_z1 hS hP hD dd_Sp_take_78
  exact lp9 6 0 x y ls H locs (by omega) hM (lv_sub hl [0, 1, 2, 3, 4, 5] rfl) hP hD hS

def mm_Sp_valueOf_L8 (sr : Nat → Int64) (sv : Nat → Int64) : Nat → Nat → (Int64) → (Int64) → Int64
  | 0, j, v3, v5 => v5
  | k + 1, j, v3, v5 => (mm_Sp_valueOf_L8 sr sv k (j + 1) (v3 ^^^ (mm_By_times (mm_By_at v3 j) (sr j))) (v5 ^^^ (mm_By_times (mm_By_at v3 j) (sv j))))
def mm_Sp_valueOf (x : Int64) (sr : Nat → Int64) (sv : Nat → Int64) : Int64 := (mm_Sp_valueOf_L8 sr sv 6 0 x (0 : Int64))
set_option maxHeartbeats 4000000 in
set_option maxRecDepth 100000 in
theorem cc_Sp_valueOf {l : Launch} (D : va_G) (K : Nat → ClassId) (ap aq ax : Nat) (x : Int64) (sr : Nat → Int64) (sv : Nat → Int64) : ly_l l yy_Sp_valueOf bb_Sp_valueOf 9 (some .long) 1 31 D K [.ref ap, .long x] (ws_Sp K ap aq ax sr sv) (fun z => z) (fun _ => (ws_Sp K ap aq ax sr sv)) (mm_Sp_valueOf x sr sv) := by
  refine ly_entL (by decide) (Nat.le_of_ble_eq_true rfl) ?_
  intro p e s m av below meth c A ls R Q H locs res hM C hRf hRl hS hP hD hl ret
  obtain ⟨hx, hb, -⟩ := id C
  have hcs : 0 ≤ R.cells ∧ 0 ≤ R.slots := ⟨Nat.zero_le _, Nat.zero_le _⟩
  have hl : lv_has ls 9 [(0, .ref ap), (1, .long x)] := hl
  rw [mm_Sp_valueOf] at hM
  refine lv_lload_n hx hb dd_Sp_valueOf_0 rfl (lv_at hl 1 rfl) ?_
  refine lv_lstore_n (lv' := [(3, .long x), (0, .ref ap), (1, .long x)]) hx hb dd_Sp_valueOf_1 rfl hl (by decide) rfl (fun ls hl => ?_)
  refine lv_lconst (v := (0 : Int64)) hx hb dd_Sp_valueOf_2 (by decide) ?_
  refine lv_lstore (lv' := [(5, .long (0 : Int64)), (3, .long x), (0, .ref ap), (1, .long x)]) hx hb dd_Sp_valueOf_3 hl (by decide) rfl (fun ls hl => ?_)
  refine lv_iconst (v := (0 : Int32)) hx hb dd_Sp_valueOf_5 (by decide) ?_
  refine lv_istore (lv' := [(7, .int (0 : Int32)), (5, .long (0 : Int64)), (3, .long x), (0, .ref ap), (1, .long x)]) hx hb dd_Sp_valueOf_6 hl (by decide) rfl (fun ls hl => ?_)
  have lp8 : ∀ (k : Nat) (j : Nat) (v3 : Int64) (v5 : Int64) (ls : Array Slot) (H : Heap) (locs : List Loc), j + k = 6 → mm_Sp_valueOf_L8 sr sv k j v3 v5 = res → lv_has ls 9 [(7, .int (nI j)), (5, .long v5), (3, .long v3), (0, .ref ap), (1, .long x)] → va_P D cl_all (ws_Sp K ap aq ax sr sv) H → va_D A (ws_Sp K ap aq ax sr sv) → va_S A s.heap H locs → W p l e R s m av below meth c H locs 0 0 Q (F0 m 8 ls []) := by
    intro k
    induction k with
    | zero =>
      intro j v3 v5 ls H locs hjk hM hl hP hD hS
      have hj0 : j = 6 := by omega
      subst j
      rw [mm_Sp_valueOf_L8] at hM
      refine lv_iload hx hb dd_Sp_valueOf_8 (lv_at hl 0 rfl) ?_
      refine lv_bipush (v := (6 : Int32)) hx hb dd_Sp_valueOf_10 (by decide) ?_
      refine lv_icmp_ge (tgt := 61) hx hb dd_Sp_valueOf_12 (by decide) (fun _ => ?_) (fun h => absurd (nI_le (a := 6) (b := 6) (by omega) (by omega)) h)
      refine lv_lload hx hb dd_Sp_valueOf_61 (lv_at hl 1 rfl) ?_
      exact ret v5 H locs 63 ls hM hS hP hD dd_Sp_valueOf_63
    | succ k ih8 =>
      intro j v3 v5 ls H locs hjk hM hl hP hD hS
      rw [mm_Sp_valueOf_L8] at hM
      refine lv_iload hx hb dd_Sp_valueOf_8 (lv_at hl 0 rfl) ?_
      refine lv_bipush (v := (6 : Int32)) hx hb dd_Sp_valueOf_10 (by decide) ?_
      refine lv_icmp_ge (tgt := 61) hx hb dd_Sp_valueOf_12 (by decide) (fun h => absurd h (nI_ge (a := j) (b := 6) (by omega) (by omega))) (fun _ => ?_)
      refine lv_lload_n hx hb dd_Sp_valueOf_15 rfl (lv_at hl 2 rfl) ?_
      refine lv_iload hx hb dd_Sp_valueOf_16 (lv_at hl 0 rfl) ?_
      obtain ⟨r_18, hq18⟩ : ∃ z, z = mm_By_at v3 j := ⟨_, rfl⟩
      try rw [← hq18] at hM
      refine ly_cS_i (n := 2) (z := r_18) (rest := []) (wn := (ws_Sp K ap aq ax sr sv)) C (cc_By_at D K v3 j) hq18 wa_196 wa_232 wa_149 wa_150 (by decide) (Nat.le_trans (by decide) hRf) (Nat.le_trans (by decide) hRl) rfl hl.1 rfl (Nat.le_of_ble_eq_true rfl) dd_Sp_valueOf_18 hcs [] [0, 1, 2] [0, 1, 2] hP hD hS rfl rfl (by decide) rfl (fun H locs hP hD hS => ?_)
      refine W.eq (g2 := F0 m 21 ls [.int r_18]) rfl ?_
      refine lv_istore (lv' := [(8, .int r_18), (7, .int (nI j)), (5, .long v5), (3, .long v3), (0, .ref ap), (1, .long x)]) hx hb dd_Sp_valueOf_21 hl (by decide) rfl (fun ls hl => ?_)
      refine lv_lload_n hx hb dd_Sp_valueOf_23 rfl (lv_at hl 3 rfl) ?_
      refine lv_iload hx hb dd_Sp_valueOf_24 (lv_at hl 0 rfl) ?_
      refine lv_aload_n hx hb dd_Sp_valueOf_26 rfl (lv_at hl 4 rfl) ?_
      refine ly_get (v := .ref aq) C hP 0 rfl uw_Sp rfl 0 (by decide) wa_228 rfl dd_Sp_valueOf_27 ?_
      refine lv_iload hx hb dd_Sp_valueOf_30 (lv_at hl 1 rfl) ?_
      refine ly_lald C hP 1 rfl j rfl (by omega) (by omega) dd_Sp_valueOf_32 ?_
      obtain ⟨r_33, hq33⟩ : ∃ z, z = mm_By_times r_18 (sr j) := ⟨_, rfl⟩
      try rw [← hq33] at hM
      refine ly_cS_l (n := 2) (z := r_33) (rest := [.long v3]) (wn := (ws_Sp K ap aq ax sr sv)) C (cc_By_times D K r_18 (sr j)) hq33 wa_198 wa_234 wa_149 wa_155 (by decide) (Nat.le_trans (by decide) hRf) (Nat.le_trans (by decide) hRl) rfl hl.1 rfl (Nat.le_of_ble_eq_true rfl) dd_Sp_valueOf_33 hcs [] [0, 1, 2] [0, 1, 2] hP hD hS rfl rfl (by decide) rfl (fun H locs hP hD hS => ?_)
      refine W.eq (g2 := F0 m 36 ls [.long r_33, .long v3]) rfl ?_
      refine lv_lxor hx hb dd_Sp_valueOf_36 ?_
      refine lv_lstore_n (lv' := [(3, .long (v3 ^^^ r_33)), (8, .int r_18), (7, .int (nI j)), (5, .long v5), (0, .ref ap), (1, .long x)]) hx hb dd_Sp_valueOf_37 rfl hl (by decide) rfl (fun ls hl => ?_)
      refine lv_lload hx hb dd_Sp_valueOf_38 (lv_at hl 3 rfl) ?_
      refine lv_iload hx hb dd_Sp_valueOf_40 (lv_at hl 1 rfl) ?_
      refine lv_aload_n hx hb dd_Sp_valueOf_42 rfl (lv_at hl 4 rfl) ?_
      refine ly_get (v := .ref ax) C hP 0 rfl uw_Sp rfl 1 (by decide) wa_229 rfl dd_Sp_valueOf_43 ?_
      refine lv_iload hx hb dd_Sp_valueOf_46 (lv_at hl 2 rfl) ?_
      refine ly_lald C hP 2 rfl j rfl (by omega) (by omega) dd_Sp_valueOf_48 ?_
      obtain ⟨r_49, hq49⟩ : ∃ z, z = mm_By_times r_18 (sv j) := ⟨_, rfl⟩
      try rw [← hq49] at hM
      refine ly_cS_l (n := 2) (z := r_49) (rest := [.long v5]) (wn := (ws_Sp K ap aq ax sr sv)) C (cc_By_times D K r_18 (sv j)) hq49 wa_198 wa_234 wa_149 wa_155 (by decide) (Nat.le_trans (by decide) hRf) (Nat.le_trans (by decide) hRl) rfl hl.1 rfl (Nat.le_of_ble_eq_true rfl) dd_Sp_valueOf_49 hcs [] [0, 1, 2] [0, 1, 2] hP hD hS rfl rfl (by decide) rfl (fun H locs hP hD hS => ?_)
      refine W.eq (g2 := F0 m 52 ls [.long r_49, .long v5]) rfl ?_
      refine lv_lxor hx hb dd_Sp_valueOf_52 ?_
      refine lv_lstore (lv' := [(5, .long (v5 ^^^ r_49)), (3, .long (v3 ^^^ r_33)), (8, .int r_18), (7, .int (nI j)), (0, .ref ap), (1, .long x)]) hx hb dd_Sp_valueOf_53 hl (by decide) rfl (fun ls hl => ?_)
      refine lv_iinc (k := 3) (v := (nI (j + 1))) (lv' := [(7, .int (nI (j + 1))), (5, .long (v5 ^^^ r_49)), (3, .long (v3 ^^^ r_33)), (8, .int r_18), (0, .ref ap), (1, .long x)]) hx hb dd_Sp_valueOf_55 hl rfl (ly_incN _) (by decide) rfl (fun ls hl => ?_)
      refine lv_goto (tgt := 8) hx hb dd_Sp_valueOf_58 (by decide) ?_
      exact ih8 (j + 1) (v3 ^^^ r_33) (v5 ^^^ r_49) ls H locs (by omega) hM (lv_sub hl [0, 1, 2, 4, 5] rfl) hP hD hS
  exact lp8 6 0 x (0 : Int64) ls H locs (by omega) hM (lv_sub hl [0, 1, 2, 3, 4] rfl) hP hD hS
end
section
def mm_Sq_nodeOf (i : Nat) (fn : Nat) : Int32 := (nI ((fn + i) % 12))
set_option maxHeartbeats 4000000 in
set_option maxRecDepth 100000 in
theorem cc_Sq_nodeOf {l : Launch} (D : va_G) (K : Nat → ClassId) (a0 aw af : Nat) (i : Nat) (n : Nat) (fn : Nat) (al : Int32) (th : Int32) (wr : Nat → Int64) (fl : Nat → Int64) (hi : i < 11) (hn : n ≤ 11) (hfn : fn ≤ 10) : ly_i l yy_Sq_nodeOf bb_Sq_nodeOf 2 (some .int) 0 0 D K [.ref a0, .int (nI i)] (ws_Sq K a0 aw af n fn al th wr fl) (fun z => z) (fun _ => (ws_Sq K a0 aw af n fn al th wr fl)) (mm_Sq_nodeOf i fn) := by
  refine ly_entI (by decide) (Nat.le_of_ble_eq_true rfl) ?_
  intro p e s m av below meth c A ls R Q H locs res hM C hRf hRl hS hP hD hl ret
  obtain ⟨hx, hb, -⟩ := id C
  have hcs : 0 ≤ R.cells ∧ 0 ≤ R.slots := ⟨Nat.zero_le _, Nat.zero_le _⟩
  have hl : lv_has ls 2 [(0, .ref a0), (1, .int (nI i))] := hl
  rw [mm_Sq_nodeOf] at hM
  refine lv_aload_n hx hb dd_Sq_nodeOf_0 rfl (lv_at hl 0 rfl) ?_
  refine ly_get (v := .int (nI fn)) C hP 0 rfl uw_Sq rfl 0 (by decide) wa_238 rfl dd_Sq_nodeOf_1 ?_
  refine lv_iload_n hx hb dd_Sq_nodeOf_4 rfl (lv_at hl 1 rfl) ?_
  refine lv_iadd hx hb dd_Sq_nodeOf_5 ?_
  refine lv_bipush (v := (12 : Int32)) hx hb dd_Sq_nodeOf_6 (by decide) ?_
  refine lv_irem hx hb dd_Sq_nodeOf_8 (by decide) ?_
  rw [ly_mod12 (f := fn) (i := i) (by omega)]
  exact ret (nI ((fn + i) % 12)) H locs 9 ls hM rfl hS hP hD dd_Sq_nodeOf_9

def mm_Sq_isThere (i : Nat) (th : Int32) : Int32 := (mm_RG_isIn th i)
set_option maxHeartbeats 4000000 in
set_option maxRecDepth 100000 in
theorem cc_Sq_isThere {l : Launch} (D : va_G) (K : Nat → ClassId) (a0 aw af : Nat) (i : Nat) (n : Nat) (fn : Nat) (al : Int32) (th : Int32) (wr : Nat → Int64) (fl : Nat → Int64) (hn : n ≤ 11) (hfn : fn ≤ 10) : ly_i l yy_Sq_isThere bb_Sq_isThere 2 (some .boolean) 1 21 D K [.ref a0, .int (nI i)] (ws_Sq K a0 aw af n fn al th wr fl) (fun z => z) (fun _ => (ws_Sq K a0 aw af n fn al th wr fl)) (mm_Sq_isThere i th) := by
  refine ly_entI (by decide) (Nat.le_of_ble_eq_true rfl) ?_
  intro p e s m av below meth c A ls R Q H locs res hM C hRf hRl hS hP hD hl ret
  obtain ⟨hx, hb, -⟩ := id C
  have hcs : 0 ≤ R.cells ∧ 0 ≤ R.slots := ⟨Nat.zero_le _, Nat.zero_le _⟩
  have hl : lv_has ls 2 [(0, .ref a0), (1, .int (nI i))] := hl
  rw [mm_Sq_isThere] at hM
  refine lv_aload_n hx hb dd_Sq_isThere_0 rfl (lv_at hl 0 rfl) ?_
  refine ly_get (v := .int th) C hP 0 rfl uw_Sq rfl 4 (by decide) wa_242 rfl dd_Sq_isThere_1 ?_
  refine lv_iload_n hx hb dd_Sq_isThere_4 rfl (lv_at hl 1 rfl) ?_
  obtain ⟨r_5, hq5⟩ : ∃ z, z = mm_RG_isIn th i := ⟨_, rfl⟩
  try rw [← hq5] at hM
  refine ly_cSN_i (n := 2) (z := r_5) (rest := []) (wn := (ws_Sq K a0 aw af n fn al th wr fl)) C (cc_RG_isIn D K th i) hq5 wa_195 nw_4 wa_62 wa_167 (by decide) (Nat.le_trans (by decide) hRf) (Nat.le_trans (by decide) hRl) rfl hl.1 rfl (Nat.le_of_ble_eq_true rfl) dd_Sq_isThere_5 hcs [] [0, 1, 2] [0, 1, 2] hP hD hS rfl rfl (by decide) rfl (fun H locs hP hD hS => ?_)
  refine W.eq (g2 := F0 m 8 ls [.int r_5]) rfl ?_
  exact ret r_5 H locs 8 ls hM (by rw [hq5]; exact zb_RG_isIn _ _) hS hP hD dd_Sq_isThere_8

def mm_Sq_lostMask (al : Int32) (th : Int32) : Int32 := (al &&& (th ^^^ (-1 : Int32)))
set_option maxHeartbeats 4000000 in
set_option maxRecDepth 100000 in
theorem cc_Sq_lostMask {l : Launch} (D : va_G) (K : Nat → ClassId) (a0 aw af : Nat) (n : Nat) (fn : Nat) (al : Int32) (th : Int32) (wr : Nat → Int64) (fl : Nat → Int64) (hn : n ≤ 11) (hfn : fn ≤ 10) : ly_i l yy_Sq_lostMask bb_Sq_lostMask 1 (some .int) 0 0 D K [.ref a0] (ws_Sq K a0 aw af n fn al th wr fl) (fun z => z) (fun _ => (ws_Sq K a0 aw af n fn al th wr fl)) (mm_Sq_lostMask al th) := by
  refine ly_entI (by decide) (Nat.le_of_ble_eq_true rfl) ?_
  intro p e s m av below meth c A ls R Q H locs res hM C hRf hRl hS hP hD hl ret
  obtain ⟨hx, hb, -⟩ := id C
  have hcs : 0 ≤ R.cells ∧ 0 ≤ R.slots := ⟨Nat.zero_le _, Nat.zero_le _⟩
  have hl : lv_has ls 1 [(0, .ref a0)] := hl
  rw [mm_Sq_lostMask] at hM
  refine lv_aload_n hx hb dd_Sq_lostMask_0 rfl (lv_at hl 0 rfl) ?_
  refine ly_get (v := .int al) C hP 0 rfl uw_Sq rfl 1 (by decide) wa_239 rfl dd_Sq_lostMask_1 ?_
  refine lv_aload_n hx hb dd_Sq_lostMask_4 rfl (lv_at hl 0 rfl) ?_
  refine ly_get (v := .int th) C hP 0 rfl uw_Sq rfl 4 (by decide) wa_242 rfl dd_Sq_lostMask_5 ?_
  refine lv_iconst (v := (-1 : Int32)) hx hb dd_Sq_lostMask_8 (by decide) ?_
  refine lv_ixor hx hb dd_Sq_lostMask_9 ?_
  refine lv_iand hx hb dd_Sq_lostMask_10 ?_
  exact ret (al &&& (th ^^^ (-1 : Int32))) H locs 11 ls hM rfl hS hP hD dd_Sq_lostMask_11

def mm_Sq_isDamaged (i : Nat) (fl : Nat → Int64) : Int32 := (if (lg_cmp (fl i) (0 : Int64)) = (0 : Int32) then (0 : Int32) else (1 : Int32))
set_option maxHeartbeats 4000000 in
set_option maxRecDepth 100000 in
theorem cc_Sq_isDamaged {l : Launch} (D : va_G) (K : Nat → ClassId) (a0 aw af : Nat) (i : Nat) (n : Nat) (fn : Nat) (al : Int32) (th : Int32) (wr : Nat → Int64) (fl : Nat → Int64) (hi : i < n) (hn : n ≤ 11) (hfn : fn ≤ 10) : ly_i l yy_Sq_isDamaged bb_Sq_isDamaged 2 (some .boolean) 0 0 D K [.ref a0, .int (nI i)] (ws_Sq K a0 aw af n fn al th wr fl) (fun z => z) (fun _ => (ws_Sq K a0 aw af n fn al th wr fl)) (mm_Sq_isDamaged i fl) := by
  refine ly_entI (by decide) (Nat.le_of_ble_eq_true rfl) ?_
  intro p e s m av below meth c A ls R Q H locs res hM C hRf hRl hS hP hD hl ret
  obtain ⟨hx, hb, -⟩ := id C
  have hcs : 0 ≤ R.cells ∧ 0 ≤ R.slots := ⟨Nat.zero_le _, Nat.zero_le _⟩
  have hl : lv_has ls 2 [(0, .ref a0), (1, .int (nI i))] := hl
  rw [mm_Sq_isDamaged] at hM
  refine lv_aload_n hx hb dd_Sq_isDamaged_0 rfl (lv_at hl 0 rfl) ?_
  refine ly_get (v := .ref af) C hP 0 rfl uw_Sq rfl 3 (by decide) wa_241 rfl dd_Sq_isDamaged_1 ?_
  refine lv_iload_n hx hb dd_Sq_isDamaged_4 rfl (lv_at hl 1 rfl) ?_
  refine ly_lald C hP 2 rfl i rfl (by omega) (by omega) dd_Sq_isDamaged_5 ?_
  refine lv_lconst (v := (0 : Int64)) hx hb dd_Sq_isDamaged_6 (by decide) ?_
  refine W.lcmp hx hb dd_Sq_isDamaged_7 ?_
  refine lv_if_eq (tgt := 15) hx hb dd_Sq_isDamaged_8 (by decide) (fun h8 => ?_) (fun h8 => ?_)
  · rw [if_pos h8] at hM
    refine lv_iconst (v := (0 : Int32)) hx hb dd_Sq_isDamaged_15 (by decide) ?_
    exact ret (0 : Int32) H locs 16 ls hM ly_z0 hS hP hD dd_Sq_isDamaged_16
  · rw [if_neg h8] at hM
    refine lv_iconst (v := (1 : Int32)) hx hb dd_Sq_isDamaged_11 (by decide) ?_
    refine lv_goto (tgt := 16) hx hb dd_Sq_isDamaged_12 (by decide) ?_
    exact ret (1 : Int32) H locs 16 ls hM ly_z1 hS hP hD dd_Sq_isDamaged_16

def mm_Sq_held (i : Nat) (wr : Nat → Int64) (fl : Nat → Int64) : Int64 := ((wr i) ^^^ (fl i))
set_option maxHeartbeats 4000000 in
set_option maxRecDepth 100000 in
theorem cc_Sq_held {l : Launch} (D : va_G) (K : Nat → ClassId) (a0 aw af : Nat) (i : Nat) (n : Nat) (fn : Nat) (al : Int32) (th : Int32) (wr : Nat → Int64) (fl : Nat → Int64) (hi : i < n) (hn : n ≤ 11) (hfn : fn ≤ 10) : ly_l l yy_Sq_held bb_Sq_held 2 (some .long) 0 0 D K [.ref a0, .int (nI i)] (ws_Sq K a0 aw af n fn al th wr fl) (fun z => z) (fun _ => (ws_Sq K a0 aw af n fn al th wr fl)) (mm_Sq_held i wr fl) := by
  refine ly_entL (by decide) (Nat.le_of_ble_eq_true rfl) ?_
  intro p e s m av below meth c A ls R Q H locs res hM C hRf hRl hS hP hD hl ret
  obtain ⟨hx, hb, -⟩ := id C
  have hcs : 0 ≤ R.cells ∧ 0 ≤ R.slots := ⟨Nat.zero_le _, Nat.zero_le _⟩
  have hl : lv_has ls 2 [(0, .ref a0), (1, .int (nI i))] := hl
  rw [mm_Sq_held] at hM
  refine lv_aload_n hx hb dd_Sq_held_0 rfl (lv_at hl 0 rfl) ?_
  refine ly_get (v := .ref aw) C hP 0 rfl uw_Sq rfl 2 (by decide) wa_240 rfl dd_Sq_held_1 ?_
  refine lv_iload_n hx hb dd_Sq_held_4 rfl (lv_at hl 1 rfl) ?_
  refine ly_lald C hP 1 rfl i rfl (by omega) (by omega) dd_Sq_held_5 ?_
  refine lv_aload_n hx hb dd_Sq_held_6 rfl (lv_at hl 0 rfl) ?_
  refine ly_get (v := .ref af) C hP 0 rfl uw_Sq rfl 3 (by decide) wa_241 rfl dd_Sq_held_7 ?_
  refine lv_iload_n hx hb dd_Sq_held_10 rfl (lv_at hl 1 rfl) ?_
  refine ly_lald C hP 2 rfl i rfl (by omega) (by omega) dd_Sq_held_11 ?_
  refine lv_lxor hx hb dd_Sq_held_12 ?_
  exact ret ((wr i) ^^^ (fl i)) H locs 13 ls hM hS hP hD dd_Sq_held_13

def mm_Sq_flip (i : Nat) (b : Int32) (fl : Nat → Int64) : (Nat → Int64) := (vp_updL fl i ((fl i) ^^^ ((1 : Int64) <<< (b.toInt64 &&& 63))))
set_option maxHeartbeats 4000000 in
set_option maxRecDepth 100000 in
theorem cc_Sq_flip {l : Launch} (D : va_G) (K : Nat → ClassId) (a0 aw af : Nat) (i : Nat) (b : Int32) (n : Nat) (fn : Nat) (al : Int32) (th : Int32) (wr : Nat → Int64) (fl : Nat → Int64) (hi : i < n) (hn : n ≤ 11) (hfn : fn ≤ 10) : ly_v l yy_Sq_flip bb_Sq_flip 3 none 0 0 D K [.ref a0, .int (nI i), .int b] (ws_Sq K a0 aw af n fn al th wr fl) (fun z => (ws_Sq K a0 aw af n fn al th wr z)) (mm_Sq_flip i b fl) := by
  refine ly_entV (by decide) (Nat.le_of_ble_eq_true rfl) ?_
  intro p e s m av below meth c A ls R Q H locs res hM C hRf hRl hS hP hD hl ret
  obtain ⟨hx, hb, -⟩ := id C
  have hcs : 0 ≤ R.cells ∧ 0 ≤ R.slots := ⟨Nat.zero_le _, Nat.zero_le _⟩
  have hl : lv_has ls 3 [(0, .ref a0), (1, .int (nI i)), (2, .int b)] := hl
  rw [mm_Sq_flip] at hM
  refine lv_aload_n hx hb dd_Sq_flip_0 rfl (lv_at hl 0 rfl) ?_
  refine ly_get (v := .ref af) C hP 0 rfl uw_Sq rfl 3 (by decide) wa_241 rfl dd_Sq_flip_1 ?_
  refine lv_iload_n hx hb dd_Sq_flip_4 rfl (lv_at hl 1 rfl) ?_
  refine lv_dup2_11 hx hb dd_Sq_flip_5 rfl rfl ?_
  refine ly_lald C hP 2 rfl i rfl (by omega) (by omega) dd_Sq_flip_6 ?_
  refine lv_lconst (v := (1 : Int64)) hx hb dd_Sq_flip_7 (by decide) ?_
  refine lv_iload_n hx hb dd_Sq_flip_8 rfl (lv_at hl 2 rfl) ?_
  refine lv_lshl (v := ((1 : Int64) <<< (b.toInt64 &&& 63))) hx hb dd_Sq_flip_9 rfl ?_
  refine lv_lxor hx hb dd_Sq_flip_10 ?_
  refine ly_last (ws' := (ws_Sq K a0 aw af n fn al th wr (vp_updL fl i ((fl i) ^^^ ((1 : Int64) <<< (b.toInt64 &&& 63)))))) C hP hD hS 2 rfl i rfl (by omega) (by omega) dd_Sq_flip_11 rfl (fun H locs hP hD hS => ?_)
  exact ret (vp_updL fl i ((fl i) ^^^ ((1 : Int64) <<< (b.toInt64 &&& 63)))) H locs 12 ls hM hS hP hD dd_Sq_flip_12

def mm_Sq_lose (i : Nat) (th : Int32) : (Int32) := (th &&& (((1 : Int32) <<< ((nI i) &&& 31)) ^^^ (-1 : Int32)))
set_option maxHeartbeats 4000000 in
set_option maxRecDepth 100000 in
theorem cc_Sq_lose {l : Launch} (D : va_G) (K : Nat → ClassId) (a0 aw af : Nat) (i : Nat) (n : Nat) (fn : Nat) (al : Int32) (th : Int32) (wr : Nat → Int64) (fl : Nat → Int64) (hn : n ≤ 11) (hfn : fn ≤ 10) : ly_v l yy_Sq_lose bb_Sq_lose 2 none 0 0 D K [.ref a0, .int (nI i)] (ws_Sq K a0 aw af n fn al th wr fl) (fun z => (ws_Sq K a0 aw af n fn al z wr fl)) (mm_Sq_lose i th) := by
  refine ly_entV (by decide) (Nat.le_of_ble_eq_true rfl) ?_
  intro p e s m av below meth c A ls R Q H locs res hM C hRf hRl hS hP hD hl ret
  obtain ⟨hx, hb, -⟩ := id C
  have hcs : 0 ≤ R.cells ∧ 0 ≤ R.slots := ⟨Nat.zero_le _, Nat.zero_le _⟩
  have hl : lv_has ls 2 [(0, .ref a0), (1, .int (nI i))] := hl
  rw [mm_Sq_lose] at hM
  refine lv_aload_n hx hb dd_Sq_lose_0 rfl (lv_at hl 0 rfl) ?_
  refine lv_dup hx hb dd_Sq_lose_1 rfl ?_
  refine ly_get (v := .int th) C hP 0 rfl uw_Sq rfl 4 (by decide) wa_242 rfl dd_Sq_lose_2 ?_
  refine lv_iconst (v := (1 : Int32)) hx hb dd_Sq_lose_5 (by decide) ?_
  refine lv_iload_n hx hb dd_Sq_lose_6 rfl (lv_at hl 1 rfl) ?_
  refine lv_ishl hx hb dd_Sq_lose_7 ?_
  refine lv_iconst (v := (-1 : Int32)) hx hb dd_Sq_lose_8 (by decide) ?_
  refine lv_ixor hx hb dd_Sq_lose_9 ?_
  refine lv_iand hx hb dd_Sq_lose_10 ?_
  refine ly_put (ws' := (ws_Sq K a0 aw af n fn al (th &&& (((1 : Int32) <<< ((nI i) &&& 31)) ^^^ (-1 : Int32))) wr fl)) C hP hD hS 0 rfl uw_Sq tt_Sq nn_Sq rfl 4 (by decide) wa_242 rfl rfl rfl (Nat.le_of_ble_eq_true rfl) dd_Sq_lose_11 rfl (fun H locs hP hD hS => ?_)
  exact ret (th &&& (((1 : Int32) <<< ((nI i) &&& 31)) ^^^ (-1 : Int32))) H locs 14 ls hM hS hP hD dd_Sq_lose_14

def mm_Sq_store (i : Nat) (x : Int64) (th : Int32) (wr : Nat → Int64) (fl : Nat → Int64) : (Int32) × (Nat → Int64) × (Nat → Int64) := ((th ||| ((1 : Int32) <<< ((nI i) &&& 31))), (vp_updL wr i x), (vp_updL fl i (0 : Int64)))
set_option maxHeartbeats 4000000 in
set_option maxRecDepth 100000 in
theorem cc_Sq_store {l : Launch} (D : va_G) (K : Nat → ClassId) (a0 aw af : Nat) (i : Nat) (x : Int64) (n : Nat) (fn : Nat) (al : Int32) (th : Int32) (wr : Nat → Int64) (fl : Nat → Int64) (hi : i < n) (hn : n ≤ 11) (hfn : fn ≤ 10) : ly_v l yy_Sq_store bb_Sq_store 4 none 0 0 D K [.ref a0, .int (nI i), .long x] (ws_Sq K a0 aw af n fn al th wr fl) (fun z => (ws_Sq K a0 aw af n fn al (z.1) (z.2.1) (z.2.2))) (mm_Sq_store i x th wr fl) := by
  refine ly_entV (by decide) (Nat.le_of_ble_eq_true rfl) ?_
  intro p e s m av below meth c A ls R Q H locs res hM C hRf hRl hS hP hD hl ret
  obtain ⟨hx, hb, -⟩ := id C
  have hcs : 0 ≤ R.cells ∧ 0 ≤ R.slots := ⟨Nat.zero_le _, Nat.zero_le _⟩
  have hl : lv_has ls 4 [(0, .ref a0), (1, .int (nI i)), (2, .long x)] := hl
  rw [mm_Sq_store] at hM
  refine lv_aload_n hx hb dd_Sq_store_0 rfl (lv_at hl 0 rfl) ?_
  refine ly_get (v := .ref aw) C hP 0 rfl uw_Sq rfl 2 (by decide) wa_240 rfl dd_Sq_store_1 ?_
  refine lv_iload_n hx hb dd_Sq_store_4 rfl (lv_at hl 1 rfl) ?_
  refine lv_lload_n hx hb dd_Sq_store_5 rfl (lv_at hl 2 rfl) ?_
  refine ly_last (ws' := (ws_Sq K a0 aw af n fn al th (vp_updL wr i x) fl)) C hP hD hS 1 rfl i rfl (by omega) (by omega) dd_Sq_store_6 rfl (fun H locs hP hD hS => ?_)
  refine lv_aload_n hx hb dd_Sq_store_7 rfl (lv_at hl 0 rfl) ?_
  refine ly_get (v := .ref af) C hP 0 rfl uw_Sq rfl 3 (by decide) wa_241 rfl dd_Sq_store_8 ?_
  refine lv_iload_n hx hb dd_Sq_store_11 rfl (lv_at hl 1 rfl) ?_
  refine lv_lconst (v := (0 : Int64)) hx hb dd_Sq_store_12 (by decide) ?_
  refine ly_last (ws' := (ws_Sq K a0 aw af n fn al th (vp_updL wr i x) (vp_updL fl i (0 : Int64)))) C hP hD hS 2 rfl i rfl (by omega) (by omega) dd_Sq_store_13 rfl (fun H locs hP hD hS => ?_)
  refine lv_aload_n hx hb dd_Sq_store_14 rfl (lv_at hl 0 rfl) ?_
  refine lv_dup hx hb dd_Sq_store_15 rfl ?_
  refine ly_get (v := .int th) C hP 0 rfl uw_Sq rfl 4 (by decide) wa_242 rfl dd_Sq_store_16 ?_
  refine lv_iconst (v := (1 : Int32)) hx hb dd_Sq_store_19 (by decide) ?_
  refine lv_iload_n hx hb dd_Sq_store_20 rfl (lv_at hl 1 rfl) ?_
  refine lv_ishl hx hb dd_Sq_store_21 ?_
  refine lv_ior hx hb dd_Sq_store_22 ?_
  refine ly_put (ws' := (ws_Sq K a0 aw af n fn al (th ||| ((1 : Int32) <<< ((nI i) &&& 31))) (vp_updL wr i x) (vp_updL fl i (0 : Int64)))) C hP hD hS 0 rfl uw_Sq tt_Sq nn_Sq rfl 4 (by decide) wa_242 rfl rfl rfl (Nat.le_of_ble_eq_true rfl) dd_Sq_store_23 rfl (fun H locs hP hD hS => ?_)
  exact ret ((th ||| ((1 : Int32) <<< ((nI i) &&& 31))), (vp_updL wr i x), (vp_updL fl i (0 : Int64))) H locs 26 ls hM hS hP hD dd_Sq_store_26

def mm_RG_isStripe (x : Int32) : Int32 := (if x < (0 : Int32) then (0 : Int32) else (if (3 : Int32) ≤ x then (0 : Int32) else (1 : Int32)))
set_option maxHeartbeats 4000000 in
set_option maxRecDepth 100000 in
theorem cc_RG_isStripe {l : Launch} (D : va_G) (K : Nat → ClassId) (x : Int32) : ly_i l yy_RG_isStripe bb_RG_isStripe 1 (some .boolean) 0 0 D K [.int x] ([] : va_W) (fun z => z) (fun _ => ([] : va_W)) (mm_RG_isStripe x) := by
  refine ly_entI (by decide) (Nat.le_of_ble_eq_true rfl) ?_
  intro p e s m av below meth c A ls R Q H locs res hM C hRf hRl hS hP hD hl ret
  obtain ⟨hx, hb, -⟩ := id C
  have hcs : 0 ≤ R.cells ∧ 0 ≤ R.slots := ⟨Nat.zero_le _, Nat.zero_le _⟩
  have hl : lv_has ls 1 [(0, .int x)] := hl
  rw [mm_RG_isStripe] at hM
  refine lv_iload_n hx hb dd_RG_isStripe_0 rfl (lv_at hl 0 rfl) ?_
  refine lv_if_lt (tgt := 13) hx hb dd_RG_isStripe_1 (by decide) (fun h1 => ?_) (fun h1 => ?_)
  · rw [if_pos h1] at hM
    refine lv_iconst (v := (0 : Int32)) hx hb dd_RG_isStripe_13 (by decide) ?_
    exact ret (0 : Int32) H locs 14 ls hM ly_z0 hS hP hD dd_RG_isStripe_14
  · rw [if_neg h1] at hM
    refine lv_iload_n hx hb dd_RG_isStripe_4 rfl (lv_at hl 0 rfl) ?_
    refine lv_iconst (v := (3 : Int32)) hx hb dd_RG_isStripe_5 (by decide) ?_
    refine lv_icmp_ge (tgt := 13) hx hb dd_RG_isStripe_6 (by decide) (fun h6 => ?_) (fun h6 => ?_)
    · rw [if_pos h6] at hM
      refine lv_iconst (v := (0 : Int32)) hx hb dd_RG_isStripe_13 (by decide) ?_
      exact ret (0 : Int32) H locs 14 ls hM ly_z0 hS hP hD dd_RG_isStripe_14
    · rw [if_neg h6] at hM
      refine lv_iconst (v := (1 : Int32)) hx hb dd_RG_isStripe_9 (by decide) ?_
      refine lv_goto (tgt := 14) hx hb dd_RG_isStripe_10 (by decide) ?_
      exact ret (1 : Int32) H locs 14 ls hM ly_z1 hS hP hD dd_RG_isStripe_14

def mm_RG_isNode (x : Int32) : Int32 := (if x < (0 : Int32) then (0 : Int32) else (if (12 : Int32) ≤ x then (0 : Int32) else (1 : Int32)))
set_option maxHeartbeats 4000000 in
set_option maxRecDepth 100000 in
theorem cc_RG_isNode {l : Launch} (D : va_G) (K : Nat → ClassId) (x : Int32) : ly_i l yy_RG_isNode bb_RG_isNode 1 (some .boolean) 0 0 D K [.int x] ([] : va_W) (fun z => z) (fun _ => ([] : va_W)) (mm_RG_isNode x) := by
  refine ly_entI (by decide) (Nat.le_of_ble_eq_true rfl) ?_
  intro p e s m av below meth c A ls R Q H locs res hM C hRf hRl hS hP hD hl ret
  obtain ⟨hx, hb, -⟩ := id C
  have hcs : 0 ≤ R.cells ∧ 0 ≤ R.slots := ⟨Nat.zero_le _, Nat.zero_le _⟩
  have hl : lv_has ls 1 [(0, .int x)] := hl
  rw [mm_RG_isNode] at hM
  refine lv_iload_n hx hb dd_RG_isNode_0 rfl (lv_at hl 0 rfl) ?_
  refine lv_if_lt (tgt := 14) hx hb dd_RG_isNode_1 (by decide) (fun h1 => ?_) (fun h1 => ?_)
  · rw [if_pos h1] at hM
    refine lv_iconst (v := (0 : Int32)) hx hb dd_RG_isNode_14 (by decide) ?_
    exact ret (0 : Int32) H locs 15 ls hM ly_z0 hS hP hD dd_RG_isNode_15
  · rw [if_neg h1] at hM
    refine lv_iload_n hx hb dd_RG_isNode_4 rfl (lv_at hl 0 rfl) ?_
    refine lv_bipush (v := (12 : Int32)) hx hb dd_RG_isNode_5 (by decide) ?_
    refine lv_icmp_ge (tgt := 14) hx hb dd_RG_isNode_7 (by decide) (fun h7 => ?_) (fun h7 => ?_)
    · rw [if_pos h7] at hM
      refine lv_iconst (v := (0 : Int32)) hx hb dd_RG_isNode_14 (by decide) ?_
      exact ret (0 : Int32) H locs 15 ls hM ly_z0 hS hP hD dd_RG_isNode_15
    · rw [if_neg h7] at hM
      refine lv_iconst (v := (1 : Int32)) hx hb dd_RG_isNode_10 (by decide) ?_
      refine lv_goto (tgt := 15) hx hb dd_RG_isNode_11 (by decide) ?_
      exact ret (1 : Int32) H locs 15 ls hM ly_z1 hS hP hD dd_RG_isNode_15

def mm_RG_isShard (x : Int32) (y : Int32) (n : Nat) : Int32 := (if (mm_RG_isStripe x) = (0 : Int32) then (0 : Int32) else (if y < (0 : Int32) then (0 : Int32) else (if (nI n) ≤ y then (0 : Int32) else (1 : Int32))))
set_option maxHeartbeats 4000000 in
set_option maxRecDepth 100000 in
theorem cc_RG_isShard {l : Launch} (D : va_G) (K : Nat → ClassId) (ah ac ap az au ak ar : Nat) (x : Int32) (y : Int32) (n : Nat) (lf : Int64) (rb : Int64) (gr : Int32) (hn : n ≤ 11) : ly_i l yy_RG_isShard bb_RG_isShard 3 (some .boolean) 1 20 D K [.ref ah, .int x, .int y] (ws_RI K ah ac ap az au ak ar n lf rb gr) (fun z => z) (fun _ => (ws_RI K ah ac ap az au ak ar n lf rb gr)) (mm_RG_isShard x y n) := by
  refine ly_entI (by decide) (Nat.le_of_ble_eq_true rfl) ?_
  intro p e s m av below meth c A ls R Q H locs res hM C hRf hRl hS hP hD hl ret
  obtain ⟨hx, hb, -⟩ := id C
  have hcs : 0 ≤ R.cells ∧ 0 ≤ R.slots := ⟨Nat.zero_le _, Nat.zero_le _⟩
  have hl : lv_has ls 3 [(0, .ref ah), (1, .int x), (2, .int y)] := hl
  rw [mm_RG_isShard] at hM
  refine lv_iload_n hx hb dd_RG_isShard_0 rfl (lv_at hl 1 rfl) ?_
  obtain ⟨r_1, hq1⟩ : ∃ z, z = mm_RG_isStripe x := ⟨_, rfl⟩
  try rw [← hq1] at hM
  refine ly_cS_i (n := 1) (z := r_1) (rest := []) (wn := (ws_RI K ah ac ap az au ak ar n lf rb gr)) C (cc_RG_isStripe D K x) hq1 wa_132 wa_61 wa_62 wa_63 (by decide) (Nat.le_trans (by decide) hRf) (Nat.le_trans (by decide) hRl) rfl hl.1 rfl (Nat.le_of_ble_eq_true rfl) dd_RG_isShard_1 hcs [] [0, 1] [0, 1] hP hD hS rfl rfl (by decide) rfl (fun H locs hP hD hS => ?_)
  refine W.eq (g2 := F0 m 4 ls [.int r_1]) rfl ?_
  refine lv_if_eq (tgt := 26) hx hb dd_RG_isShard_4 (by decide) (fun h4 => ?_) (fun h4 => ?_)
  · rw [if_pos h4] at hM
    refine lv_iconst (v := (0 : Int32)) hx hb dd_RG_isShard_26 (by decide) ?_
    exact ret (0 : Int32) H locs 27 ls hM ly_z0 hS hP hD dd_RG_isShard_27
  · rw [if_neg h4] at hM
    refine lv_iload_n hx hb dd_RG_isShard_7 rfl (lv_at hl 2 rfl) ?_
    refine lv_if_lt (tgt := 26) hx hb dd_RG_isShard_8 (by decide) (fun h8 => ?_) (fun h8 => ?_)
    · rw [if_pos h8] at hM
      refine lv_iconst (v := (0 : Int32)) hx hb dd_RG_isShard_26 (by decide) ?_
      exact ret (0 : Int32) H locs 27 ls hM ly_z0 hS hP hD dd_RG_isShard_27
    · rw [if_neg h8] at hM
      refine lv_iload_n hx hb dd_RG_isShard_11 rfl (lv_at hl 2 rfl) ?_
      refine lv_aload_n hx hb dd_RG_isShard_12 rfl (lv_at hl 0 rfl) ?_
      refine ly_get (v := .ref ac) C hP 0 rfl uw_RG rfl 0 (by decide) wa_44 rfl dd_RG_isShard_13 ?_
      refine ly_getN (v := .int (nI n)) C hP 1 rfl uw_Co rfl 0 (by decide) nw_1 rfl dd_RG_isShard_16 ?_
      refine lv_icmp_ge (tgt := 26) hx hb dd_RG_isShard_19 (by decide) (fun h19 => ?_) (fun h19 => ?_)
      · rw [if_pos h19] at hM
        refine lv_iconst (v := (0 : Int32)) hx hb dd_RG_isShard_26 (by decide) ?_
        exact ret (0 : Int32) H locs 27 ls hM ly_z0 hS hP hD dd_RG_isShard_27
      · rw [if_neg h19] at hM
        refine lv_iconst (v := (1 : Int32)) hx hb dd_RG_isShard_22 (by decide) ?_
        refine lv_goto (tgt := 27) hx hb dd_RG_isShard_23 (by decide) ?_
        exact ret (1 : Int32) H locs 27 ls hM ly_z1 hS hP hD dd_RG_isShard_27
theorem in_isStripe {x r : Int32} (hq : r = mm_RG_isStripe x) (h : ¬ r = 0) : ∃ j, j < 3 ∧ x = nI j := by
  subst hq
  unfold mm_RG_isStripe at h
  by_cases h0 : x < 0
  · rw [if_pos h0] at h; exact absurd rfl h
  · rw [if_neg h0] at h
    by_cases h1 : (3 : Int32) ≤ x
    · rw [if_pos h1] at h; exact absurd rfl h
    · exact ly_rng2 (N := 3) h0 h1 (by decide)
theorem in_isNode {x r : Int32} (hq : r = mm_RG_isNode x) (h : ¬ r = 0) : ∃ j, j < 12 ∧ x = nI j := by
  subst hq
  unfold mm_RG_isNode at h
  by_cases h0 : x < 0
  · rw [if_pos h0] at h; exact absurd rfl h
  · rw [if_neg h0] at h
    by_cases h1 : (12 : Int32) ≤ x
    · rw [if_pos h1] at h; exact absurd rfl h
    · exact ly_rng2 (N := 12) h0 h1 (by decide)
theorem in_isShard {x y r : Int32} {n : Nat} (hn : n ≤ 11) (hq : r = mm_RG_isShard x y n) (h : ¬ r = 0) : ∃ j, j < 3 ∧ x = nI j ∧ ∃ i, i < n ∧ y = nI i := by
  subst hq
  unfold mm_RG_isShard at h
  by_cases h9 : mm_RG_isStripe x = 0
  · rw [if_pos h9] at h; exact absurd rfl h
  · rw [if_neg h9] at h
    obtain ⟨j, hj, hx⟩ := in_isStripe rfl h9
    refine ⟨j, hj, hx, ?_⟩
    by_cases h0 : y < 0
    · rw [if_pos h0] at h; exact absurd rfl h
    · rw [if_neg h0] at h
      by_cases h1 : nI n ≤ y
      · rw [if_pos h1] at h; exact absurd rfl h
      · exact ly_rng2 h0 h1 (by omega)
end
section
def mm_RG_readShard (i : Nat) (ct : Nat → Int32) (th : Int32) (fl : Nat → Int64) : Int32 × (Nat → Int32) × (Int32) := (if (mm_Sq_isDamaged i fl) = (0 : Int32) then ((1 : Int32), (upd ct 0 ((ct 0) + (1 : Int32))), th) else ((0 : Int32), (upd ct 0 ((ct 0) + (1 : Int32))), (mm_Sq_lose i th)))
set_option maxHeartbeats 4000000 in
set_option maxRecDepth 100000 in
theorem cc_RG_readShard {l : Launch} (D : va_G) (K : Nat → ClassId) (ah ac ar ap aq ax au ak a0 aw af az : Nat) (i : Nat) (n : Nat) (fn : Nat) (lf : Int64) (rb : Int64) (gr : Int32) (ro : Nat → Int64) (sr : Nat → Int64) (sv : Nat → Int64) (up : Nat → Int32) (ct : Nat → Int32) (al : Int32) (th : Int32) (wr : Nat → Int64) (fl : Nat → Int64) (hi : i < n) (hn : n ≤ 11) (hn6 : 6 ≤ n) (hfn : fn ≤ 10) : ly_i l yy_RG_readShard bb_RG_readShard 3 (some .boolean) 1 21 D K [.ref ah, .ref a0, .int (nI i)] (ws_RG K ah ac ar ap aq ax au ak a0 aw af az n fn lf rb gr ro sr sv up ct al th wr fl) (fun z => z.1) (fun z => (ws_RG K ah ac ar ap aq ax au ak a0 aw af az n fn lf rb gr ro sr sv up (z.2.1) al (z.2.2) wr fl)) (mm_RG_readShard i ct th fl) := by
  refine ly_entI (by decide) (Nat.le_of_ble_eq_true rfl) ?_
  intro p e s m av below meth c A ls R Q H locs res hM C hRf hRl hS hP hD hl ret
  obtain ⟨hx, hb, -⟩ := id C
  have hcs : 0 ≤ R.cells ∧ 0 ≤ R.slots := ⟨Nat.zero_le _, Nat.zero_le _⟩
  have hl : lv_has ls 3 [(0, .ref ah), (1, .ref a0), (2, .int (nI i))] := hl
  rw [mm_RG_readShard] at hM
  refine lv_aload_n hx hb dd_RG_readShard_0 rfl (lv_at hl 0 rfl) ?_
  refine ly_get (v := .ref ak) C hP 0 rfl uw_RG rfl 4 (by decide) wa_59 rfl dd_RG_readShard_1 ?_
  refine lv_iconst (v := (0 : Int32)) hx hb dd_RG_readShard_4 (by decide) ?_
  refine lv_dup2_11 hx hb dd_RG_readShard_5 rfl rfl ?_
  refine ly_iald C hP 7 rfl 0 rfl (by omega) (by omega) dd_RG_readShard_6 ?_
  refine lv_iconst (v := (1 : Int32)) hx hb dd_RG_readShard_7 (by decide) ?_
  refine lv_iadd hx hb dd_RG_readShard_8 ?_
  refine ly_iast (ws' := (ws_RG K ah ac ar ap aq ax au ak a0 aw af az n fn lf rb gr ro sr sv up (upd ct 0 ((ct 0) + (1 : Int32))) al th wr fl)) C hP hD hS 7 rfl 0 rfl (by omega) (by omega) dd_RG_readShard_9 rfl (fun H locs hP hD hS => ?_)
  refine lv_aload_n hx hb dd_RG_readShard_10 rfl (lv_at hl 1 rfl) ?_
  refine lv_iload_n hx hb dd_RG_readShard_11 rfl (lv_at hl 2 rfl) ?_
  obtain ⟨r_12, hq12⟩ : ∃ z, z = mm_Sq_isDamaged i fl := ⟨_, rfl⟩
  try rw [← hq12] at hM
  refine ly_cV_i (n := 1) (z := r_12) (rest := []) (wn := (ws_RG K ah ac ar ap aq ax au ak a0 aw af az n fn lf rb gr ro sr sv up (upd ct 0 ((ct 0) + (1 : Int32))) al th wr fl)) C (cc_Sq_isDamaged D K a0 aw af i n fn al th wr fl (by omega) (by omega) (by omega)) hq12 wa_246 wa_136 wa_53 wa_137 wa_138 (by decide) (Nat.le_trans (by decide) hRf) (Nat.le_trans (by decide) hRl) rfl hl.1 rfl (Nat.le_of_ble_eq_true rfl) dd_RG_readShard_12 hcs [8, 9, 10] [0, 1, 2, 3, 4, 5, 6, 7] [0, 1, 2, 3, 4, 5, 6, 7, 8, 9, 10] hP hD hS rfl rfl (by decide) rfl rfl rfl (fun H locs hP hD hS => ?_)
  refine W.eq (g2 := F0 m 15 ls [.int r_12]) rfl ?_
  refine lv_if_eq (tgt := 25) hx hb dd_RG_readShard_15 (by decide) (fun h15 => ?_) (fun h15 => ?_)
  · rw [if_pos h15] at hM
    refine lv_iconst (v := (1 : Int32)) hx hb dd_RG_readShard_25 (by decide) ?_
    exact ret ((1 : Int32), (upd ct 0 ((ct 0) + (1 : Int32))), th) H locs 26 ls hM ly_z1 hS hP hD dd_RG_readShard_26
  · rw [if_neg h15] at hM
    refine lv_aload_n hx hb dd_RG_readShard_18 rfl (lv_at hl 1 rfl) ?_
    refine lv_iload_n hx hb dd_RG_readShard_19 rfl (lv_at hl 2 rfl) ?_
    obtain ⟨th_20, hq20⟩ : ∃ z, z = mm_Sq_lose i th := ⟨_, rfl⟩
    try rw [← hq20] at hM
    refine ly_cV_v (n := 1) (z := th_20) (rest := []) (wn := (ws_RG K ah ac ar ap aq ax au ak a0 aw af az n fn lf rb gr ro sr sv up (upd ct 0 ((ct 0) + (1 : Int32))) al th_20 wr fl)) C (cc_Sq_lose D K a0 aw af i n fn al th wr fl (by omega) (by omega)) hq20 wa_249 wa_139 wa_53 wa_140 wa_141 (by decide) (Nat.le_trans (by decide) hRf) (Nat.le_trans (by decide) hRl) rfl hl.1 rfl (Nat.le_of_ble_eq_true rfl) dd_RG_readShard_20 hcs [8, 9, 10] [0, 1, 2, 3, 4, 5, 6, 7] [0, 1, 2, 3, 4, 5, 6, 7, 8, 9, 10] hP hD hS rfl rfl (by decide) rfl rfl rfl (fun H locs hP hD hS => ?_)
    refine W.eq (g2 := F0 m 23 ls []) rfl ?_
    refine lv_iconst (v := (0 : Int32)) hx hb dd_RG_readShard_23 (by decide) ?_
    exact ret ((0 : Int32), (upd ct 0 ((ct 0) + (1 : Int32))), th_20) H locs 24 ls hM ly_z0 hS hP hD dd_RG_readShard_24
theorem zb_RG_readShard {i : Nat} {ct ct' : Nat → Int32} {th th' r : Int32} {fl : Nat → Int64} (h : (r, ct', th') = mm_RG_readShard i ct th fl) : narrow .boolean (.int r) = .int r := by
  unfold mm_RG_readShard at h
  split at h
  · cases h; rfl
  · cases h; rfl
def mm_RG_readShardFor (i : Nat) (q : Nat) (fn : Nat) (ct : Nat → Int32) (th : Int32) (fl : Nat → Int64) : Int32 × (Nat → Int32) × (Int32) := (if ((nI ((fn + i) % 12)) / (3 : Int32)) = ((nI ((fn + q) % 12)) / (3 : Int32)) then (match mm_RG_readShard i ct th fl with | (r_34, ct_34, th_34) => (r_34, ct_34, th_34)) else (match mm_RG_readShard i (upd ct 2 ((ct 2) + (1 : Int32))) th fl with | (r_34, ct_34, th_34) => (r_34, ct_34, th_34)))
set_option maxHeartbeats 4000000 in
set_option maxRecDepth 100000 in
theorem cc_RG_readShardFor {l : Launch} (D : va_G) (K : Nat → ClassId) (ah ac ar ap aq ax au ak a0 aw af az : Nat) (i : Nat) (q : Nat) (n : Nat) (fn : Nat) (lf : Int64) (rb : Int64) (gr : Int32) (ro : Nat → Int64) (sr : Nat → Int64) (sv : Nat → Int64) (up : Nat → Int32) (ct : Nat → Int32) (al : Int32) (th : Int32) (wr : Nat → Int64) (fl : Nat → Int64) (hi : i < n) (hq : q < n) (hn : n ≤ 11) (hn6 : 6 ≤ n) (hfn : fn ≤ 10) : ly_i l yy_RG_readShardFor bb_RG_readShardFor 5 (some .boolean) 2 43 D K [.ref ah, .ref a0, .int (nI i), .int (nI q)] (ws_RG K ah ac ar ap aq ax au ak a0 aw af az n fn lf rb gr ro sr sv up ct al th wr fl) (fun z => z.1) (fun z => (ws_RG K ah ac ar ap aq ax au ak a0 aw af az n fn lf rb gr ro sr sv up (z.2.1) al (z.2.2) wr fl)) (mm_RG_readShardFor i q fn ct th fl) := by
  refine ly_entI (by decide) (Nat.le_of_ble_eq_true rfl) ?_
  intro p e s m av below meth c A ls R Q H locs res hM C hRf hRl hS hP hD hl ret
  obtain ⟨hx, hb, -⟩ := id C
  have hcs : 0 ≤ R.cells ∧ 0 ≤ R.slots := ⟨Nat.zero_le _, Nat.zero_le _⟩
  have hl : lv_has ls 5 [(0, .ref ah), (1, .ref a0), (2, .int (nI i)), (3, .int (nI q))] := hl
  rw [mm_RG_readShardFor] at hM
  refine lv_aload_n hx hb dd_RG_readShardFor_0 rfl (lv_at hl 1 rfl) ?_
  refine lv_iload_n hx hb dd_RG_readShardFor_1 rfl (lv_at hl 2 rfl) ?_
  refine ly_cV_i (n := 1) (z := (nI ((fn + i) % 12))) (rest := []) (wn := (ws_RG K ah ac ar ap aq ax au ak a0 aw af az n fn lf rb gr ro sr sv up ct al th wr fl)) C (cc_Sq_nodeOf D K a0 aw af i n fn al th wr fl (by omega) (by omega) (by omega)) rfl wa_243 wa_101 wa_53 wa_102 wa_103 (by decide) (Nat.le_trans (by decide) hRf) (Nat.le_trans (by decide) hRl) rfl hl.1 rfl (Nat.le_of_ble_eq_true rfl) dd_RG_readShardFor_2 hcs [8, 9, 10] [0, 1, 2, 3, 4, 5, 6, 7] [0, 1, 2, 3, 4, 5, 6, 7, 8, 9, 10] hP hD hS rfl rfl (by decide) rfl rfl rfl (fun H locs hP hD hS => ?_)
  refine W.eq (g2 := F0 m 5 ls [.int (nI ((fn + i) % 12))]) rfl ?_
  refine lv_iconst (v := (3 : Int32)) hx hb dd_RG_readShardFor_5 (by decide) ?_
  refine lv_idiv hx hb dd_RG_readShardFor_6 (by decide) ?_
  refine lv_istore (lv' := [(4, .int ((nI ((fn + i) % 12)) / (3 : Int32))), (0, .ref ah), (1, .ref a0), (2, .int (nI i)), (3, .int (nI q))]) hx hb dd_RG_readShardFor_7 hl (by decide) rfl (fun ls hl => ?_)
  refine lv_iload hx hb dd_RG_readShardFor_9 (lv_at hl 0 rfl) ?_
  refine lv_aload_n hx hb dd_RG_readShardFor_11 rfl (lv_at hl 2 rfl) ?_
  refine lv_iload_n hx hb dd_RG_readShardFor_12 rfl (lv_at hl 4 rfl) ?_
  refine ly_cV_i (n := 1) (z := (nI ((fn + q) % 12))) (rest := [.int ((nI ((fn + i) % 12)) / (3 : Int32))]) (wn := (ws_RG K ah ac ar ap aq ax au ak a0 aw af az n fn lf rb gr ro sr sv up ct al th wr fl)) C (cc_Sq_nodeOf D K a0 aw af q n fn al th wr fl (by omega) (by omega) (by omega)) rfl wa_243 wa_101 wa_53 wa_102 wa_103 (by decide) (Nat.le_trans (by decide) hRf) (Nat.le_trans (by decide) hRl) rfl hl.1 rfl (Nat.le_of_ble_eq_true rfl) dd_RG_readShardFor_13 hcs [8, 9, 10] [0, 1, 2, 3, 4, 5, 6, 7] [0, 1, 2, 3, 4, 5, 6, 7, 8, 9, 10] hP hD hS rfl rfl (by decide) rfl rfl rfl (fun H locs hP hD hS => ?_)
  refine W.eq (g2 := F0 m 16 ls [.int (nI ((fn + q) % 12)), .int ((nI ((fn + i) % 12)) / (3 : Int32))]) rfl ?_
  refine lv_iconst (v := (3 : Int32)) hx hb dd_RG_readShardFor_16 (by decide) ?_
  refine lv_idiv hx hb dd_RG_readShardFor_17 (by decide) ?_
  refine lv_icmp_eq (tgt := 31) hx hb dd_RG_readShardFor_18 (by decide) (fun h18 => ?_) (fun h18 => ?_)
  · rw [if_pos h18] at hM
    refine lv_aload_n hx hb dd_RG_readShardFor_31 rfl (lv_at hl 1 rfl) ?_
    refine lv_aload_n hx hb dd_RG_readShardFor_32 rfl (lv_at hl 2 rfl) ?_
    refine lv_iload_n hx hb dd_RG_readShardFor_33 rfl (lv_at hl 3 rfl) ?_
    obtain ⟨⟨r_34, ct_34, th_34⟩, hq34⟩ : ∃ z, z = mm_RG_readShard i ct th fl := ⟨_, rfl⟩
    try rw [← hq34] at hM
    try dsimp only at hM
    refine ly_cV_i (n := 2) (z := (r_34, ct_34, th_34)) (rest := []) (wn := (ws_RG K ah ac ar ap aq ax au ak a0 aw af az n fn lf rb gr ro sr sv up ct_34 al th_34 wr fl)) C (cc_RG_readShard D K ah ac ar ap aq ax au ak a0 aw af az i n fn lf rb gr ro sr sv up ct al th wr fl (by omega) (by omega) (by omega) (by omega)) hq34 wa_135 wa_67 wa_62 wa_68 wa_69 (by decide) (Nat.le_trans (by decide) hRf) (Nat.le_trans (by decide) hRl) rfl hl.1 rfl (Nat.le_of_ble_eq_true rfl) dd_RG_readShardFor_34 hcs [0, 1, 2, 3, 4, 5, 6, 7, 8, 9, 10] [] [0, 1, 2, 3, 4, 5, 6, 7, 8, 9, 10] hP hD hS rfl rfl (by decide) rfl rfl rfl (fun H locs hP hD hS => ?_)
    refine W.eq (g2 := F0 m 37 ls [.int r_34]) rfl ?_
    exact ret (r_34, ct_34, th_34) H locs 37 ls hM (by first | exact zb_RG_readShard hq34) hS hP hD dd_RG_readShardFor_37
  · rw [if_neg h18] at hM
    refine lv_aload_n hx hb dd_RG_readShardFor_21 rfl (lv_at hl 1 rfl) ?_
    refine ly_get (v := .ref ak) C hP 0 rfl uw_RG rfl 4 (by decide) wa_59 rfl dd_RG_readShardFor_22 ?_
    refine lv_iconst (v := (2 : Int32)) hx hb dd_RG_readShardFor_25 (by decide) ?_
    refine lv_dup2_11 hx hb dd_RG_readShardFor_26 rfl rfl ?_
    refine ly_iald C hP 7 rfl 2 rfl (by omega) (by omega) dd_RG_readShardFor_27 ?_
    refine lv_iconst (v := (1 : Int32)) hx hb dd_RG_readShardFor_28 (by decide) ?_
    refine lv_iadd hx hb dd_RG_readShardFor_29 ?_
    refine ly_iast (ws' := (ws_RG K ah ac ar ap aq ax au ak a0 aw af az n fn lf rb gr ro sr sv up (upd ct 2 ((ct 2) + (1 : Int32))) al th wr fl)) C hP hD hS 7 rfl 2 rfl (by omega) (by omega) dd_RG_readShardFor_30 rfl (fun H locs hP hD hS => ?_)
    refine lv_aload_n hx hb dd_RG_readShardFor_31 rfl (lv_at hl 1 rfl) ?_
    refine lv_aload_n hx hb dd_RG_readShardFor_32 rfl (lv_at hl 2 rfl) ?_
    refine lv_iload_n hx hb dd_RG_readShardFor_33 rfl (lv_at hl 3 rfl) ?_
    obtain ⟨⟨r_34, ct_34, th_34⟩, hq34⟩ : ∃ z, z = mm_RG_readShard i (upd ct 2 ((ct 2) + (1 : Int32))) th fl := ⟨_, rfl⟩
    try rw [← hq34] at hM
    try dsimp only at hM
    refine ly_cV_i (n := 2) (z := (r_34, ct_34, th_34)) (rest := []) (wn := (ws_RG K ah ac ar ap aq ax au ak a0 aw af az n fn lf rb gr ro sr sv up ct_34 al th_34 wr fl)) C (cc_RG_readShard D K ah ac ar ap aq ax au ak a0 aw af az i n fn lf rb gr ro sr sv up (upd ct 2 ((ct 2) + (1 : Int32))) al th wr fl (by omega) (by omega) (by omega) (by omega)) hq34 wa_135 wa_67 wa_62 wa_68 wa_69 (by decide) (Nat.le_trans (by decide) hRf) (Nat.le_trans (by decide) hRl) rfl hl.1 rfl (Nat.le_of_ble_eq_true rfl) dd_RG_readShardFor_34 hcs [0, 1, 2, 3, 4, 5, 6, 7, 8, 9, 10] [] [0, 1, 2, 3, 4, 5, 6, 7, 8, 9, 10] hP hD hS rfl rfl (by decide) rfl rfl rfl (fun H locs hP hD hS => ?_)
    refine W.eq (g2 := F0 m 37 ls [.int r_34]) rfl ?_
    exact ret (r_34, ct_34, th_34) H locs 37 ls hM (by first | exact zb_RG_readShard hq34) hS hP hD dd_RG_readShardFor_37

def mm_RG_writeShard (i : Nat) (x : Int64) (ct : Nat → Int32) (th : Int32) (wr : Nat → Int64) (fl : Nat → Int64) : (Nat → Int32) × (Int32) × (Nat → Int64) × (Nat → Int64) := (match mm_Sq_store i x th wr fl with | (th_13, wr_13, fl_13) => ((upd ct 1 ((ct 1) + (1 : Int32))), th_13, wr_13, fl_13))
set_option maxHeartbeats 4000000 in
set_option maxRecDepth 100000 in
theorem cc_RG_writeShard {l : Launch} (D : va_G) (K : Nat → ClassId) (ah ac ar ap aq ax au ak a0 aw af az : Nat) (i : Nat) (x : Int64) (n : Nat) (fn : Nat) (lf : Int64) (rb : Int64) (gr : Int32) (ro : Nat → Int64) (sr : Nat → Int64) (sv : Nat → Int64) (up : Nat → Int32) (ct : Nat → Int32) (al : Int32) (th : Int32) (wr : Nat → Int64) (fl : Nat → Int64) (hi : i < n) (hn : n ≤ 11) (hn6 : 6 ≤ n) (hfn : fn ≤ 10) : ly_v l yy_RG_writeShard bb_RG_writeShard 5 none 1 23 D K [.ref ah, .ref a0, .int (nI i), .long x] (ws_RG K ah ac ar ap aq ax au ak a0 aw af az n fn lf rb gr ro sr sv up ct al th wr fl) (fun z => (ws_RG K ah ac ar ap aq ax au ak a0 aw af az n fn lf rb gr ro sr sv up (z.1) al (z.2.1) (z.2.2.1) (z.2.2.2))) (mm_RG_writeShard i x ct th wr fl) := by
  refine ly_entV (by decide) (Nat.le_of_ble_eq_true rfl) ?_
  intro p e s m av below meth c A ls R Q H locs res hM C hRf hRl hS hP hD hl ret
  obtain ⟨hx, hb, -⟩ := id C
  have hcs : 0 ≤ R.cells ∧ 0 ≤ R.slots := ⟨Nat.zero_le _, Nat.zero_le _⟩
  have hl : lv_has ls 5 [(0, .ref ah), (1, .ref a0), (2, .int (nI i)), (3, .long x)] := hl
  rw [mm_RG_writeShard] at hM
  refine lv_aload_n hx hb dd_RG_writeShard_0 rfl (lv_at hl 0 rfl) ?_
  refine ly_get (v := .ref ak) C hP 0 rfl uw_RG rfl 4 (by decide) wa_59 rfl dd_RG_writeShard_1 ?_
  refine lv_iconst (v := (1 : Int32)) hx hb dd_RG_writeShard_4 (by decide) ?_
  refine lv_dup2_11 hx hb dd_RG_writeShard_5 rfl rfl ?_
  refine ly_iald C hP 7 rfl 1 rfl (by omega) (by omega) dd_RG_writeShard_6 ?_
  refine lv_iconst (v := (1 : Int32)) hx hb dd_RG_writeShard_7 (by decide) ?_
  refine lv_iadd hx hb dd_RG_writeShard_8 ?_
  refine ly_iast (ws' := (ws_RG K ah ac ar ap aq ax au ak a0 aw af az n fn lf rb gr ro sr sv up (upd ct 1 ((ct 1) + (1 : Int32))) al th wr fl)) C hP hD hS 7 rfl 1 rfl (by omega) (by omega) dd_RG_writeShard_9 rfl (fun H locs hP hD hS => ?_)
  refine lv_aload_n hx hb dd_RG_writeShard_10 rfl (lv_at hl 1 rfl) ?_
  refine lv_iload_n hx hb dd_RG_writeShard_11 rfl (lv_at hl 2 rfl) ?_
  refine lv_lload_n hx hb dd_RG_writeShard_12 rfl (lv_at hl 3 rfl) ?_
  obtain ⟨⟨th_13, wr_13, fl_13⟩, hq13⟩ : ∃ z, z = mm_Sq_store i x th wr fl := ⟨_, rfl⟩
  try rw [← hq13] at hM
  try dsimp only at hM
  refine ly_cV_v (n := 2) (z := (th_13, wr_13, fl_13)) (rest := []) (wn := (ws_RG K ah ac ar ap aq ax au ak a0 aw af az n fn lf rb gr ro sr sv up (upd ct 1 ((ct 1) + (1 : Int32))) al th_13 wr_13 fl_13)) C (cc_Sq_store D K a0 aw af i x n fn al th wr fl (by omega) (by omega) (by omega)) hq13 wa_250 wa_144 wa_53 wa_145 wa_146 (by decide) (Nat.le_trans (by decide) hRf) (Nat.le_trans (by decide) hRl) rfl hl.1 rfl (Nat.le_of_ble_eq_true rfl) dd_RG_writeShard_13 hcs [8, 9, 10] [0, 1, 2, 3, 4, 5, 6, 7] [0, 1, 2, 3, 4, 5, 6, 7, 8, 9, 10] hP hD hS rfl rfl (by decide) rfl rfl rfl (fun H locs hP hD hS => ?_)
  refine W.eq (g2 := F0 m 16 ls []) rfl ?_
  exact ret ((upd ct 1 ((ct 1) + (1 : Int32))), th_13, wr_13, fl_13) H locs 16 ls hM hS hP hD dd_RG_writeShard_16

def mm_RG_updateCoded_L7 (i : Nat) (x : Int64) (fn : Nat) (ro : Nat → Int64) : Nat → Nat → (Int32) → (Nat → Int32) → (Int32) → (Nat → Int64) → (Nat → Int64) → Int32 × (Nat → Int32) × (Int32) × (Nat → Int64) × (Nat → Int64)
  | 0, j, v5, ct, th, wr, fl => (v5, ct, th, wr, fl)
  | k + 1, j, v5, ct, th, wr, fl => (if (mm_By_at (ro j) i) = (0 : Int32) then (mm_RG_updateCoded_L7 i x fn ro k (j + 1) v5 ct th wr fl) else (if (mm_Sq_isThere j th) = (0 : Int32) then (mm_RG_updateCoded_L7 i x fn ro k (j + 1) v5 ct th wr fl) else (match mm_RG_readShardFor j i fn ct th fl with | (r_54, ct_54, th_54) => (if r_54 = (0 : Int32) then (mm_RG_updateCoded_L7 i x fn ro k (j + 1) v5 ct_54 th_54 wr fl) else (match mm_RG_writeShard j ((mm_Sq_held j wr fl) ^^^ (mm_By_times (mm_By_at (ro j) i) x)) ct_54 th_54 wr fl with | (ct_77, th_77, wr_77, fl_77) => (mm_RG_updateCoded_L7 i x fn ro k (j + 1) (v5 + 1) ct_77 th_77 wr_77 fl_77))))))
def mm_RG_updateCoded (i : Nat) (x : Int64) (n : Nat) (fn : Nat) (ro : Nat → Int64) (ct : Nat → Int32) (th : Int32) (wr : Nat → Int64) (fl : Nat → Int64) : Int32 × (Nat → Int32) × (Int32) × (Nat → Int64) × (Nat → Int64) := (mm_RG_updateCoded_L7 i x fn ro (n - 6) 6 (0 : Int32) ct th wr fl)
set_option maxHeartbeats 4000000 in
set_option maxRecDepth 100000 in
theorem cc_RG_updateCoded {l : Launch} (D : va_G) (K : Nat → ClassId) (ah ac ar ap aq ax au ak a0 aw af az : Nat) (i : Nat) (x : Int64) (n : Nat) (fn : Nat) (lf : Int64) (rb : Int64) (gr : Int32) (ro : Nat → Int64) (sr : Nat → Int64) (sv : Nat → Int64) (up : Nat → Int32) (ct : Nat → Int32) (al : Int32) (th : Int32) (wr : Nat → Int64) (fl : Nat → Int64) (hi : i < n) (hn : n ≤ 11) (hn6 : 6 ≤ n) (hfn : fn ≤ 10) : ly_i l yy_RG_updateCoded bb_RG_updateCoded 8 (some .int) 3 67 D K [.ref ah, .ref a0, .int (nI i), .long x] (ws_RG K ah ac ar ap aq ax au ak a0 aw af az n fn lf rb gr ro sr sv up ct al th wr fl) (fun z => z.1) (fun z => (ws_RG K ah ac ar ap aq ax au ak a0 aw af az n fn lf rb gr ro sr sv up (z.2.1) al (z.2.2.1) (z.2.2.2.1) (z.2.2.2.2))) (mm_RG_updateCoded i x n fn ro ct th wr fl) := by
  refine ly_entI (by decide) (Nat.le_of_ble_eq_true rfl) ?_
  intro p e s m av below meth c A ls R Q H locs res hM C hRf hRl hS hP hD hl ret
  obtain ⟨hx, hb, -⟩ := id C
  have hcs : 0 ≤ R.cells ∧ 0 ≤ R.slots := ⟨Nat.zero_le _, Nat.zero_le _⟩
  have hl : lv_has ls 8 [(0, .ref ah), (1, .ref a0), (2, .int (nI i)), (3, .long x)] := hl
  rw [mm_RG_updateCoded] at hM
  refine lv_iconst (v := (0 : Int32)) hx hb dd_RG_updateCoded_0 (by decide) ?_
  refine lv_istore (lv' := [(5, .int (0 : Int32)), (0, .ref ah), (1, .ref a0), (2, .int (nI i)), (3, .long x)]) hx hb dd_RG_updateCoded_1 hl (by decide) rfl (fun ls hl => ?_)
  refine lv_bipush (v := (6 : Int32)) hx hb dd_RG_updateCoded_3 (by decide) ?_
  refine lv_istore (lv' := [(6, .int (6 : Int32)), (5, .int (0 : Int32)), (0, .ref ah), (1, .ref a0), (2, .int (nI i)), (3, .long x)]) hx hb dd_RG_updateCoded_5 hl (by decide) rfl (fun ls hl => ?_)
  have lp7 : ∀ (k : Nat) (j : Nat) (v5 : Int32) (ct : Nat → Int32) (th : Int32) (wr : Nat → Int64) (fl : Nat → Int64) (ls : Array Slot) (H : Heap) (locs : List Loc), j + k = n → mm_RG_updateCoded_L7 i x fn ro k j v5 ct th wr fl = res → lv_has ls 8 [(6, .int (nI j)), (5, .int v5), (0, .ref ah), (1, .ref a0), (2, .int (nI i)), (3, .long x)] → va_P D cl_all (ws_RG K ah ac ar ap aq ax au ak a0 aw af az n fn lf rb gr ro sr sv up ct al th wr fl) H → va_D A (ws_RG K ah ac ar ap aq ax au ak a0 aw af az n fn lf rb gr ro sr sv up ct al th wr fl) → va_S A s.heap H locs → W p l e R s m av below meth c H locs 0 0 Q (F0 m 7 ls []) := by
    intro k
    induction k with
    | zero =>
      intro j v5 ct th wr fl ls H locs hjk hM hl hP hD hS
      have hj0 : j = n := by omega
      subst j
      rw [mm_RG_updateCoded_L7] at hM
      refine lv_iload hx hb dd_RG_updateCoded_7 (lv_at hl 0 rfl) ?_
      refine lv_aload_n hx hb dd_RG_updateCoded_9 rfl (lv_at hl 2 rfl) ?_
      refine ly_get (v := .ref ac) C hP 0 rfl uw_RG rfl 0 (by decide) wa_44 rfl dd_RG_updateCoded_10 ?_
      refine ly_getN (v := .int (nI n)) C hP 1 rfl uw_Co rfl 0 (by decide) nw_1 rfl dd_RG_updateCoded_13 ?_
      refine lv_icmp_ge (tgt := 89) hx hb dd_RG_updateCoded_16 (by decide) (fun _ => ?_) (fun h => absurd (nI_le (a := n) (b := n) (by omega) (by omega)) h)
      refine lv_iload hx hb dd_RG_updateCoded_89 (lv_at hl 1 rfl) ?_
      exact ret (v5, ct, th, wr, fl) H locs 91 ls hM rfl hS hP hD dd_RG_updateCoded_91
    | succ k ih7 =>
      intro j v5 ct th wr fl ls H locs hjk hM hl hP hD hS
      rw [mm_RG_updateCoded_L7] at hM
      refine lv_iload hx hb dd_RG_updateCoded_7 (lv_at hl 0 rfl) ?_
      refine lv_aload_n hx hb dd_RG_updateCoded_9 rfl (lv_at hl 2 rfl) ?_
      refine ly_get (v := .ref ac) C hP 0 rfl uw_RG rfl 0 (by decide) wa_44 rfl dd_RG_updateCoded_10 ?_
      refine ly_getN (v := .int (nI n)) C hP 1 rfl uw_Co rfl 0 (by decide) nw_1 rfl dd_RG_updateCoded_13 ?_
      refine lv_icmp_ge (tgt := 89) hx hb dd_RG_updateCoded_16 (by decide) (fun h => absurd h (nI_ge (a := j) (b := n) (by omega) (by omega))) (fun _ => ?_)
      refine lv_aload_n hx hb dd_RG_updateCoded_19 rfl (lv_at hl 2 rfl) ?_
      refine ly_get (v := .ref ac) C hP 0 rfl uw_RG rfl 0 (by decide) wa_44 rfl dd_RG_updateCoded_20 ?_
      refine ly_getN (v := .ref ar) C hP 1 rfl uw_Co rfl 1 (by decide) nw_2 rfl dd_RG_updateCoded_23 ?_
      refine lv_iload hx hb dd_RG_updateCoded_26 (lv_at hl 0 rfl) ?_
      refine ly_lald C hP 2 rfl j rfl (by omega) (by omega) dd_RG_updateCoded_28 ?_
      refine lv_iload_n hx hb dd_RG_updateCoded_29 rfl (lv_at hl 4 rfl) ?_
      obtain ⟨r_30, hq30⟩ : ∃ z, z = mm_By_at (ro j) i := ⟨_, rfl⟩
      try rw [← hq30] at hM
      refine ly_cS_i (n := 2) (z := r_30) (rest := []) (wn := (ws_RG K ah ac ar ap aq ax au ak a0 aw af az n fn lf rb gr ro sr sv up ct al th wr fl)) C (cc_By_at D K (ro j) i) hq30 wa_196 wa_148 wa_149 wa_150 (by decide) (Nat.le_trans (by decide) hRf) (Nat.le_trans (by decide) hRl) rfl hl.1 rfl (Nat.le_of_ble_eq_true rfl) dd_RG_updateCoded_30 hcs [] [0, 1, 2, 3, 4, 5, 6, 7, 8, 9, 10] [0, 1, 2, 3, 4, 5, 6, 7, 8, 9, 10] hP hD hS rfl rfl (by decide) rfl (fun H locs hP hD hS => ?_)
      refine W.eq (g2 := F0 m 33 ls [.int r_30]) rfl ?_
      refine lv_istore (lv' := [(7, .int r_30), (6, .int (nI j)), (5, .int v5), (0, .ref ah), (1, .ref a0), (2, .int (nI i)), (3, .long x)]) hx hb dd_RG_updateCoded_33 hl (by decide) rfl (fun ls hl => ?_)
      refine lv_iload hx hb dd_RG_updateCoded_35 (lv_at hl 0 rfl) ?_
      refine lv_if_eq (tgt := 83) hx hb dd_RG_updateCoded_37 (by decide) (fun h37 => ?_) (fun h37 => ?_)
      · rw [if_pos h37] at hM
        refine lv_iinc (k := 1) (v := (nI (j + 1))) (lv' := [(6, .int (nI (j + 1))), (7, .int r_30), (5, .int v5), (0, .ref ah), (1, .ref a0), (2, .int (nI i)), (3, .long x)]) hx hb dd_RG_updateCoded_83 hl rfl (ly_incN _) (by decide) rfl (fun ls hl => ?_)
        refine lv_goto (tgt := 7) hx hb dd_RG_updateCoded_86 (by decide) ?_
        exact ih7 (j + 1) v5 ct th wr fl ls H locs (by omega) hM (lv_sub hl [0, 2, 3, 4, 5, 6] rfl) hP hD hS
      · rw [if_neg h37] at hM
        refine lv_aload_n hx hb dd_RG_updateCoded_40 rfl (lv_at hl 4 rfl) ?_
        refine lv_iload hx hb dd_RG_updateCoded_41 (lv_at hl 1 rfl) ?_
        obtain ⟨r_43, hq43⟩ : ∃ z, z = mm_Sq_isThere j th := ⟨_, rfl⟩
        try rw [← hq43] at hM
        refine ly_cV_i (n := 1) (z := r_43) (rest := []) (wn := (ws_RG K ah ac ar ap aq ax au ak a0 aw af az n fn lf rb gr ro sr sv up ct al th wr fl)) C (cc_Sq_isThere D K a0 aw af j n fn al th wr fl (by omega) (by omega)) hq43 wa_244 wa_64 wa_53 wa_65 wa_66 (by decide) (Nat.le_trans (by decide) hRf) (Nat.le_trans (by decide) hRl) rfl hl.1 rfl (Nat.le_of_ble_eq_true rfl) dd_RG_updateCoded_43 hcs [8, 9, 10] [0, 1, 2, 3, 4, 5, 6, 7] [0, 1, 2, 3, 4, 5, 6, 7, 8, 9, 10] hP hD hS rfl rfl (by decide) rfl rfl rfl (fun H locs hP hD hS => ?_)
        refine W.eq (g2 := F0 m 46 ls [.int r_43]) rfl ?_
        refine lv_if_eq (tgt := 83) hx hb dd_RG_updateCoded_46 (by decide) (fun h46 => ?_) (fun h46 => ?_)
        · rw [if_pos h46] at hM
          refine lv_iinc (k := 1) (v := (nI (j + 1))) (lv' := [(6, .int (nI (j + 1))), (7, .int r_30), (5, .int v5), (0, .ref ah), (1, .ref a0), (2, .int (nI i)), (3, .long x)]) hx hb dd_RG_updateCoded_83 hl rfl (ly_incN _) (by decide) rfl (fun ls hl => ?_)
          refine lv_goto (tgt := 7) hx hb dd_RG_updateCoded_86 (by decide) ?_
          exact ih7 (j + 1) v5 ct th wr fl ls H locs (by omega) hM (lv_sub hl [0, 2, 3, 4, 5, 6] rfl) hP hD hS
        · rw [if_neg h46] at hM
          refine lv_aload_n hx hb dd_RG_updateCoded_49 rfl (lv_at hl 3 rfl) ?_
          refine lv_aload_n hx hb dd_RG_updateCoded_50 rfl (lv_at hl 4 rfl) ?_
          refine lv_iload hx hb dd_RG_updateCoded_51 (lv_at hl 1 rfl) ?_
          refine lv_iload_n hx hb dd_RG_updateCoded_53 rfl (lv_at hl 5 rfl) ?_
          obtain ⟨⟨r_54, ct_54, th_54⟩, hq54⟩ : ∃ z, z = mm_RG_readShardFor j i fn ct th fl := ⟨_, rfl⟩
          try rw [← hq54] at hM
          try dsimp only at hM
          refine ly_cV_i (n := 3) (z := (r_54, ct_54, th_54)) (rest := []) (wn := (ws_RG K ah ac ar ap aq ax au ak a0 aw af az n fn lf rb gr ro sr sv up ct_54 al th_54 wr fl)) C (cc_RG_readShardFor D K ah ac ar ap aq ax au ak a0 aw af az j i n fn lf rb gr ro sr sv up ct al th wr fl (by omega) (by omega) (by omega) (by omega) (by omega)) hq54 wa_142 wa_151 wa_62 wa_152 wa_153 (by decide) (Nat.le_trans (by decide) hRf) (Nat.le_trans (by decide) hRl) rfl hl.1 rfl (Nat.le_of_ble_eq_true rfl) dd_RG_updateCoded_54 hcs [0, 1, 2, 3, 4, 5, 6, 7, 8, 9, 10] [] [0, 1, 2, 3, 4, 5, 6, 7, 8, 9, 10] hP hD hS rfl rfl (by decide) rfl rfl rfl (fun H locs hP hD hS => ?_)
          refine W.eq (g2 := F0 m 57 ls [.int r_54]) rfl ?_
          refine lv_if_eq (tgt := 83) hx hb dd_RG_updateCoded_57 (by decide) (fun h57 => ?_) (fun h57 => ?_)
          · rw [if_pos h57] at hM
            refine lv_iinc (k := 1) (v := (nI (j + 1))) (lv' := [(6, .int (nI (j + 1))), (7, .int r_30), (5, .int v5), (0, .ref ah), (1, .ref a0), (2, .int (nI i)), (3, .long x)]) hx hb dd_RG_updateCoded_83 hl rfl (ly_incN _) (by decide) rfl (fun ls hl => ?_)
            refine lv_goto (tgt := 7) hx hb dd_RG_updateCoded_86 (by decide) ?_
            exact ih7 (j + 1) v5 ct_54 th_54 wr fl ls H locs (by omega) hM (lv_sub hl [0, 2, 3, 4, 5, 6] rfl) hP hD hS
          · rw [if_neg h57] at hM
            refine lv_aload_n hx hb dd_RG_updateCoded_60 rfl (lv_at hl 3 rfl) ?_
            refine lv_aload_n hx hb dd_RG_updateCoded_61 rfl (lv_at hl 4 rfl) ?_
            refine lv_iload hx hb dd_RG_updateCoded_62 (lv_at hl 1 rfl) ?_
            refine lv_aload_n hx hb dd_RG_updateCoded_64 rfl (lv_at hl 4 rfl) ?_
            refine lv_iload hx hb dd_RG_updateCoded_65 (lv_at hl 1 rfl) ?_
            obtain ⟨r_67, hq67⟩ : ∃ z, z = mm_Sq_held j wr fl := ⟨_, rfl⟩
            try rw [← hq67] at hM
            refine ly_cV_l (n := 1) (z := r_67) (rest := [.int (nI j), .ref a0, .ref ah]) (wn := (ws_RG K ah ac ar ap aq ax au ak a0 aw af az n fn lf rb gr ro sr sv up ct_54 al th_54 wr fl)) C (cc_Sq_held D K a0 aw af j n fn al th_54 wr fl (by omega) (by omega) (by omega)) hq67 wa_247 wa_70 wa_53 wa_71 wa_72 (by decide) (Nat.le_trans (by decide) hRf) (Nat.le_trans (by decide) hRl) rfl hl.1 rfl (Nat.le_of_ble_eq_true rfl) dd_RG_updateCoded_67 hcs [8, 9, 10] [0, 1, 2, 3, 4, 5, 6, 7] [0, 1, 2, 3, 4, 5, 6, 7, 8, 9, 10] hP hD hS rfl rfl (by decide) rfl rfl rfl (fun H locs hP hD hS => ?_)
            refine W.eq (g2 := F0 m 70 ls [.long r_67, .int (nI j), .ref a0, .ref ah]) rfl ?_
            refine lv_iload hx hb dd_RG_updateCoded_70 (lv_at hl 0 rfl) ?_
            refine lv_lload_n hx hb dd_RG_updateCoded_72 rfl (lv_at hl 6 rfl) ?_
            obtain ⟨r_73, hq73⟩ : ∃ z, z = mm_By_times r_30 x := ⟨_, rfl⟩
            try rw [← hq73] at hM
            refine ly_cS_l (n := 2) (z := r_73) (rest := [.long r_67, .int (nI j), .ref a0, .ref ah]) (wn := (ws_RG K ah ac ar ap aq ax au ak a0 aw af az n fn lf rb gr ro sr sv up ct_54 al th_54 wr fl)) C (cc_By_times D K r_30 x) hq73 wa_198 wa_154 wa_149 wa_155 (by decide) (Nat.le_trans (by decide) hRf) (Nat.le_trans (by decide) hRl) rfl hl.1 rfl (Nat.le_of_ble_eq_true rfl) dd_RG_updateCoded_73 hcs [] [0, 1, 2, 3, 4, 5, 6, 7, 8, 9, 10] [0, 1, 2, 3, 4, 5, 6, 7, 8, 9, 10] hP hD hS rfl rfl (by decide) rfl (fun H locs hP hD hS => ?_)
            refine W.eq (g2 := F0 m 76 ls [.long r_73, .long r_67, .int (nI j), .ref a0, .ref ah]) rfl ?_
            refine lv_lxor hx hb dd_RG_updateCoded_76 ?_
            obtain ⟨⟨ct_77, th_77, wr_77, fl_77⟩, hq77⟩ : ∃ z, z = mm_RG_writeShard j (r_67 ^^^ r_73) ct_54 th_54 wr fl := ⟨_, rfl⟩
            try rw [← hq77] at hM
            try dsimp only at hM
            refine ly_cV_v (n := 3) (z := (ct_77, th_77, wr_77, fl_77)) (rest := []) (wn := (ws_RG K ah ac ar ap aq ax au ak a0 aw af az n fn lf rb gr ro sr sv up ct_77 al th_77 wr_77 fl_77)) C (cc_RG_writeShard D K ah ac ar ap aq ax au ak a0 aw af az j (r_67 ^^^ r_73) n fn lf rb gr ro sr sv up ct_54 al th_54 wr fl (by omega) (by omega) (by omega) (by omega)) hq77 wa_143 wa_76 wa_62 wa_77 wa_78 (by decide) (Nat.le_trans (by decide) hRf) (Nat.le_trans (by decide) hRl) rfl hl.1 rfl (Nat.le_of_ble_eq_true rfl) dd_RG_updateCoded_77 hcs [0, 1, 2, 3, 4, 5, 6, 7, 8, 9, 10] [] [0, 1, 2, 3, 4, 5, 6, 7, 8, 9, 10] hP hD hS rfl rfl (by decide) rfl rfl rfl (fun H locs hP hD hS => ?_)
            refine W.eq (g2 := F0 m 80 ls []) rfl ?_
            refine lv_iinc (k := 2) (v := (v5 + 1)) (lv' := [(5, .int (v5 + 1)), (7, .int r_30), (6, .int (nI j)), (0, .ref ah), (1, .ref a0), (2, .int (nI i)), (3, .long x)]) hx hb dd_RG_updateCoded_80 hl rfl (ly_inc _) (by decide) rfl (fun ls hl => ?_)
            refine lv_iinc (k := 2) (v := (nI (j + 1))) (lv' := [(6, .int (nI (j + 1))), (5, .int (v5 + 1)), (7, .int r_30), (0, .ref ah), (1, .ref a0), (2, .int (nI i)), (3, .long x)]) hx hb dd_RG_updateCoded_83 hl rfl (ly_incN _) (by decide) rfl (fun ls hl => ?_)
            refine lv_goto (tgt := 7) hx hb dd_RG_updateCoded_86 (by decide) ?_
            exact ih7 (j + 1) (v5 + 1) ct_77 th_77 wr_77 fl_77 ls H locs (by omega) hM (lv_sub hl [0, 1, 3, 4, 5, 6] rfl) hP hD hS
  exact lp7 (n - 6) 6 (0 : Int32) ct th wr fl ls H locs (by omega) hM (lv_sub hl [0, 1, 2, 3, 4, 5] rfl) hP hD hS

def mm_RG_dropShardsOn_L5 (x : Int32) (fn : Nat) : Nat → Nat → (Int32) → (Int32) → Int32 × (Int32)
  | 0, j, v3, th => (v3, th)
  | k + 1, j, v3, th => (if (nI ((fn + j) % 12)) = x then (if (mm_Sq_isThere j th) = (0 : Int32) then (mm_RG_dropShardsOn_L5 x fn k (j + 1) v3 th) else (mm_RG_dropShardsOn_L5 x fn k (j + 1) (v3 + 1) (mm_Sq_lose j th))) else (mm_RG_dropShardsOn_L5 x fn k (j + 1) v3 th))
def mm_RG_dropShardsOn (x : Int32) (n : Nat) (fn : Nat) (th : Int32) : Int32 × (Int32) := (mm_RG_dropShardsOn_L5 x fn n 0 (0 : Int32) th)
set_option maxHeartbeats 4000000 in
set_option maxRecDepth 100000 in
theorem cc_RG_dropShardsOn {l : Launch} (D : va_G) (K : Nat → ClassId) (ah ac ar ap aq ax au ak a0 aw af az : Nat) (x : Int32) (n : Nat) (fn : Nat) (lf : Int64) (rb : Int64) (gr : Int32) (ro : Nat → Int64) (sr : Nat → Int64) (sv : Nat → Int64) (up : Nat → Int32) (ct : Nat → Int32) (al : Int32) (th : Int32) (wr : Nat → Int64) (fl : Nat → Int64) (hn : n ≤ 11) (hn6 : 6 ≤ n) (hfn : fn ≤ 10) : ly_i l yy_RG_dropShardsOn bb_RG_dropShardsOn 5 (some .int) 2 42 D K [.ref ah, .ref a0, .int x] (ws_RG K ah ac ar ap aq ax au ak a0 aw af az n fn lf rb gr ro sr sv up ct al th wr fl) (fun z => z.1) (fun z => (ws_RG K ah ac ar ap aq ax au ak a0 aw af az n fn lf rb gr ro sr sv up ct al (z.2) wr fl)) (mm_RG_dropShardsOn x n fn th) := by
  refine ly_entI (by decide) (Nat.le_of_ble_eq_true rfl) ?_
  intro p e s m av below meth c A ls R Q H locs res hM C hRf hRl hS hP hD hl ret
  obtain ⟨hx, hb, -⟩ := id C
  have hcs : 0 ≤ R.cells ∧ 0 ≤ R.slots := ⟨Nat.zero_le _, Nat.zero_le _⟩
  have hl : lv_has ls 5 [(0, .ref ah), (1, .ref a0), (2, .int x)] := hl
  rw [mm_RG_dropShardsOn] at hM
  refine lv_iconst (v := (0 : Int32)) hx hb dd_RG_dropShardsOn_0 (by decide) ?_
  refine lv_istore_n (lv' := [(3, .int (0 : Int32)), (0, .ref ah), (1, .ref a0), (2, .int x)]) hx hb dd_RG_dropShardsOn_1 rfl hl (by decide) rfl (fun ls hl => ?_)
  refine lv_iconst (v := (0 : Int32)) hx hb dd_RG_dropShardsOn_2 (by decide) ?_
  refine lv_istore (lv' := [(4, .int (0 : Int32)), (3, .int (0 : Int32)), (0, .ref ah), (1, .ref a0), (2, .int x)]) hx hb dd_RG_dropShardsOn_3 hl (by decide) rfl (fun ls hl => ?_)
  have lp5 : ∀ (k : Nat) (j : Nat) (v3 : Int32) (th : Int32) (ls : Array Slot) (H : Heap) (locs : List Loc), j + k = n → mm_RG_dropShardsOn_L5 x fn k j v3 th = res → lv_has ls 5 [(4, .int (nI j)), (3, .int v3), (0, .ref ah), (1, .ref a0), (2, .int x)] → va_P D cl_all (ws_RG K ah ac ar ap aq ax au ak a0 aw af az n fn lf rb gr ro sr sv up ct al th wr fl) H → va_D A (ws_RG K ah ac ar ap aq ax au ak a0 aw af az n fn lf rb gr ro sr sv up ct al th wr fl) → va_S A s.heap H locs → W p l e R s m av below meth c H locs 0 0 Q (F0 m 5 ls []) := by
    intro k
    induction k with
    | zero =>
      intro j v3 th ls H locs hjk hM hl hP hD hS
      have hj0 : j = n := by omega
      subst j
      rw [mm_RG_dropShardsOn_L5] at hM
      refine lv_iload hx hb dd_RG_dropShardsOn_5 (lv_at hl 0 rfl) ?_
      refine lv_aload_n hx hb dd_RG_dropShardsOn_7 rfl (lv_at hl 2 rfl) ?_
      refine ly_get (v := .ref ac) C hP 0 rfl uw_RG rfl 0 (by decide) wa_44 rfl dd_RG_dropShardsOn_8 ?_
      refine ly_getN (v := .int (nI n)) C hP 1 rfl uw_Co rfl 0 (by decide) nw_1 rfl dd_RG_dropShardsOn_11 ?_
      refine lv_icmp_ge (tgt := 51) hx hb dd_RG_dropShardsOn_14 (by decide) (fun _ => ?_) (fun h => absurd (nI_le (a := n) (b := n) (by omega) (by omega)) h)
      refine lv_iload_n hx hb dd_RG_dropShardsOn_51 rfl (lv_at hl 1 rfl) ?_
      exact ret (v3, th) H locs 52 ls hM rfl hS hP hD dd_RG_dropShardsOn_52
    | succ k ih5 =>
      intro j v3 th ls H locs hjk hM hl hP hD hS
      rw [mm_RG_dropShardsOn_L5] at hM
      refine lv_iload hx hb dd_RG_dropShardsOn_5 (lv_at hl 0 rfl) ?_
      refine lv_aload_n hx hb dd_RG_dropShardsOn_7 rfl (lv_at hl 2 rfl) ?_
      refine ly_get (v := .ref ac) C hP 0 rfl uw_RG rfl 0 (by decide) wa_44 rfl dd_RG_dropShardsOn_8 ?_
      refine ly_getN (v := .int (nI n)) C hP 1 rfl uw_Co rfl 0 (by decide) nw_1 rfl dd_RG_dropShardsOn_11 ?_
      refine lv_icmp_ge (tgt := 51) hx hb dd_RG_dropShardsOn_14 (by decide) (fun h => absurd h (nI_ge (a := j) (b := n) (by omega) (by omega))) (fun _ => ?_)
      refine lv_aload_n hx hb dd_RG_dropShardsOn_17 rfl (lv_at hl 3 rfl) ?_
      refine lv_iload hx hb dd_RG_dropShardsOn_18 (lv_at hl 0 rfl) ?_
      refine ly_cV_i (n := 1) (z := (nI ((fn + j) % 12))) (rest := []) (wn := (ws_RG K ah ac ar ap aq ax au ak a0 aw af az n fn lf rb gr ro sr sv up ct al th wr fl)) C (cc_Sq_nodeOf D K a0 aw af j n fn al th wr fl (by omega) (by omega) (by omega)) rfl wa_243 wa_101 wa_53 wa_102 wa_103 (by decide) (Nat.le_trans (by decide) hRf) (Nat.le_trans (by decide) hRl) rfl hl.1 rfl (Nat.le_of_ble_eq_true rfl) dd_RG_dropShardsOn_20 hcs [8, 9, 10] [0, 1, 2, 3, 4, 5, 6, 7] [0, 1, 2, 3, 4, 5, 6, 7, 8, 9, 10] hP hD hS rfl rfl (by decide) rfl rfl rfl (fun H locs hP hD hS => ?_)
      refine W.eq (g2 := F0 m 23 ls [.int (nI ((fn + j) % 12))]) rfl ?_
      refine lv_iload_n hx hb dd_RG_dropShardsOn_23 rfl (lv_at hl 4 rfl) ?_
      refine lv_icmp_ne (tgt := 45) hx hb dd_RG_dropShardsOn_24 (by decide) (fun h24 => ?_) (fun h24 => ?_)
      · rw [if_neg h24] at hM
        refine lv_iinc (k := 0) (v := (nI (j + 1))) (lv' := [(4, .int (nI (j + 1))), (3, .int v3), (0, .ref ah), (1, .ref a0), (2, .int x)]) hx hb dd_RG_dropShardsOn_45 hl rfl (ly_incN _) (by decide) rfl (fun ls hl => ?_)
        refine lv_goto (tgt := 5) hx hb dd_RG_dropShardsOn_48 (by decide) ?_
        exact ih5 (j + 1) v3 th ls H locs (by omega) hM (lv_sub hl [0, 1, 2, 3, 4] rfl) hP hD hS
      · rw [if_pos h24] at hM
        refine lv_aload_n hx hb dd_RG_dropShardsOn_27 rfl (lv_at hl 3 rfl) ?_
        refine lv_iload hx hb dd_RG_dropShardsOn_28 (lv_at hl 0 rfl) ?_
        obtain ⟨r_30, hq30⟩ : ∃ z, z = mm_Sq_isThere j th := ⟨_, rfl⟩
        try rw [← hq30] at hM
        refine ly_cV_i (n := 1) (z := r_30) (rest := []) (wn := (ws_RG K ah ac ar ap aq ax au ak a0 aw af az n fn lf rb gr ro sr sv up ct al th wr fl)) C (cc_Sq_isThere D K a0 aw af j n fn al th wr fl (by omega) (by omega)) hq30 wa_244 wa_64 wa_53 wa_65 wa_66 (by decide) (Nat.le_trans (by decide) hRf) (Nat.le_trans (by decide) hRl) rfl hl.1 rfl (Nat.le_of_ble_eq_true rfl) dd_RG_dropShardsOn_30 hcs [8, 9, 10] [0, 1, 2, 3, 4, 5, 6, 7] [0, 1, 2, 3, 4, 5, 6, 7, 8, 9, 10] hP hD hS rfl rfl (by decide) rfl rfl rfl (fun H locs hP hD hS => ?_)
        refine W.eq (g2 := F0 m 33 ls [.int r_30]) rfl ?_
        refine lv_if_eq (tgt := 45) hx hb dd_RG_dropShardsOn_33 (by decide) (fun h33 => ?_) (fun h33 => ?_)
        · rw [if_pos h33] at hM
          refine lv_iinc (k := 0) (v := (nI (j + 1))) (lv' := [(4, .int (nI (j + 1))), (3, .int v3), (0, .ref ah), (1, .ref a0), (2, .int x)]) hx hb dd_RG_dropShardsOn_45 hl rfl (ly_incN _) (by decide) rfl (fun ls hl => ?_)
          refine lv_goto (tgt := 5) hx hb dd_RG_dropShardsOn_48 (by decide) ?_
          exact ih5 (j + 1) v3 th ls H locs (by omega) hM (lv_sub hl [0, 1, 2, 3, 4] rfl) hP hD hS
        · rw [if_neg h33] at hM
          refine lv_aload_n hx hb dd_RG_dropShardsOn_36 rfl (lv_at hl 3 rfl) ?_
          refine lv_iload hx hb dd_RG_dropShardsOn_37 (lv_at hl 0 rfl) ?_
          obtain ⟨th_39, hq39⟩ : ∃ z, z = mm_Sq_lose j th := ⟨_, rfl⟩
          try rw [← hq39] at hM
          refine ly_cV_v (n := 1) (z := th_39) (rest := []) (wn := (ws_RG K ah ac ar ap aq ax au ak a0 aw af az n fn lf rb gr ro sr sv up ct al th_39 wr fl)) C (cc_Sq_lose D K a0 aw af j n fn al th wr fl (by omega) (by omega)) hq39 wa_249 wa_139 wa_53 wa_140 wa_141 (by decide) (Nat.le_trans (by decide) hRf) (Nat.le_trans (by decide) hRl) rfl hl.1 rfl (Nat.le_of_ble_eq_true rfl) dd_RG_dropShardsOn_39 hcs [8, 9, 10] [0, 1, 2, 3, 4, 5, 6, 7] [0, 1, 2, 3, 4, 5, 6, 7, 8, 9, 10] hP hD hS rfl rfl (by decide) rfl rfl rfl (fun H locs hP hD hS => ?_)
          refine W.eq (g2 := F0 m 42 ls []) rfl ?_
          refine lv_iinc (k := 1) (v := (v3 + 1)) (lv' := [(3, .int (v3 + 1)), (4, .int (nI j)), (0, .ref ah), (1, .ref a0), (2, .int x)]) hx hb dd_RG_dropShardsOn_42 hl rfl (ly_inc _) (by decide) rfl (fun ls hl => ?_)
          refine lv_iinc (k := 1) (v := (nI (j + 1))) (lv' := [(4, .int (nI (j + 1))), (3, .int (v3 + 1)), (0, .ref ah), (1, .ref a0), (2, .int x)]) hx hb dd_RG_dropShardsOn_45 hl rfl (ly_incN _) (by decide) rfl (fun ls hl => ?_)
          refine lv_goto (tgt := 5) hx hb dd_RG_dropShardsOn_48 (by decide) ?_
          exact ih5 (j + 1) (v3 + 1) th_39 ls H locs (by omega) hM (lv_sub hl [0, 1, 2, 3, 4] rfl) hP hD hS
  exact lp5 n 0 (0 : Int32) th ls H locs (by omega) hM (lv_sub hl [0, 1, 2, 3, 4] rfl) hP hD hS
end
section
def mm_In_bitCount (x : Int32) : Int32 := ((((((((x - ((x.toUInt32 >>> ((1 : Int32).toUInt32 &&& Int32.toUInt32 31)).toInt32 &&& (1431655765 : Int32))) &&& (858993459 : Int32)) + (((x - ((x.toUInt32 >>> ((1 : Int32).toUInt32 &&& Int32.toUInt32 31)).toInt32 &&& (1431655765 : Int32))).toUInt32 >>> ((2 : Int32).toUInt32 &&& Int32.toUInt32 31)).toInt32 &&& (858993459 : Int32))) + ((((x - ((x.toUInt32 >>> ((1 : Int32).toUInt32 &&& Int32.toUInt32 31)).toInt32 &&& (1431655765 : Int32))) &&& (858993459 : Int32)) + (((x - ((x.toUInt32 >>> ((1 : Int32).toUInt32 &&& Int32.toUInt32 31)).toInt32 &&& (1431655765 : Int32))).toUInt32 >>> ((2 : Int32).toUInt32 &&& Int32.toUInt32 31)).toInt32 &&& (858993459 : Int32))).toUInt32 >>> ((4 : Int32).toUInt32 &&& Int32.toUInt32 31)).toInt32) &&& (252645135 : Int32)) + ((((((x - ((x.toUInt32 >>> ((1 : Int32).toUInt32 &&& Int32.toUInt32 31)).toInt32 &&& (1431655765 : Int32))) &&& (858993459 : Int32)) + (((x - ((x.toUInt32 >>> ((1 : Int32).toUInt32 &&& Int32.toUInt32 31)).toInt32 &&& (1431655765 : Int32))).toUInt32 >>> ((2 : Int32).toUInt32 &&& Int32.toUInt32 31)).toInt32 &&& (858993459 : Int32))) + ((((x - ((x.toUInt32 >>> ((1 : Int32).toUInt32 &&& Int32.toUInt32 31)).toInt32 &&& (1431655765 : Int32))) &&& (858993459 : Int32)) + (((x - ((x.toUInt32 >>> ((1 : Int32).toUInt32 &&& Int32.toUInt32 31)).toInt32 &&& (1431655765 : Int32))).toUInt32 >>> ((2 : Int32).toUInt32 &&& Int32.toUInt32 31)).toInt32 &&& (858993459 : Int32))).toUInt32 >>> ((4 : Int32).toUInt32 &&& Int32.toUInt32 31)).toInt32) &&& (252645135 : Int32)).toUInt32 >>> ((8 : Int32).toUInt32 &&& Int32.toUInt32 31)).toInt32) + (((((((x - ((x.toUInt32 >>> ((1 : Int32).toUInt32 &&& Int32.toUInt32 31)).toInt32 &&& (1431655765 : Int32))) &&& (858993459 : Int32)) + (((x - ((x.toUInt32 >>> ((1 : Int32).toUInt32 &&& Int32.toUInt32 31)).toInt32 &&& (1431655765 : Int32))).toUInt32 >>> ((2 : Int32).toUInt32 &&& Int32.toUInt32 31)).toInt32 &&& (858993459 : Int32))) + ((((x - ((x.toUInt32 >>> ((1 : Int32).toUInt32 &&& Int32.toUInt32 31)).toInt32 &&& (1431655765 : Int32))) &&& (858993459 : Int32)) + (((x - ((x.toUInt32 >>> ((1 : Int32).toUInt32 &&& Int32.toUInt32 31)).toInt32 &&& (1431655765 : Int32))).toUInt32 >>> ((2 : Int32).toUInt32 &&& Int32.toUInt32 31)).toInt32 &&& (858993459 : Int32))).toUInt32 >>> ((4 : Int32).toUInt32 &&& Int32.toUInt32 31)).toInt32) &&& (252645135 : Int32)) + ((((((x - ((x.toUInt32 >>> ((1 : Int32).toUInt32 &&& Int32.toUInt32 31)).toInt32 &&& (1431655765 : Int32))) &&& (858993459 : Int32)) + (((x - ((x.toUInt32 >>> ((1 : Int32).toUInt32 &&& Int32.toUInt32 31)).toInt32 &&& (1431655765 : Int32))).toUInt32 >>> ((2 : Int32).toUInt32 &&& Int32.toUInt32 31)).toInt32 &&& (858993459 : Int32))) + ((((x - ((x.toUInt32 >>> ((1 : Int32).toUInt32 &&& Int32.toUInt32 31)).toInt32 &&& (1431655765 : Int32))) &&& (858993459 : Int32)) + (((x - ((x.toUInt32 >>> ((1 : Int32).toUInt32 &&& Int32.toUInt32 31)).toInt32 &&& (1431655765 : Int32))).toUInt32 >>> ((2 : Int32).toUInt32 &&& Int32.toUInt32 31)).toInt32 &&& (858993459 : Int32))).toUInt32 >>> ((4 : Int32).toUInt32 &&& Int32.toUInt32 31)).toInt32) &&& (252645135 : Int32)).toUInt32 >>> ((8 : Int32).toUInt32 &&& Int32.toUInt32 31)).toInt32).toUInt32 >>> ((16 : Int32).toUInt32 &&& Int32.toUInt32 31)).toInt32) &&& (63 : Int32))
set_option maxHeartbeats 4000000 in
set_option maxRecDepth 100000 in
theorem cc_In_bitCount {l : Launch} (D : va_G) (K : Nat → ClassId) (x : Int32) : ly_i l yy_In_bitCount bb_In_bitCount 1 (some .int) 0 0 D K [.int x] ([] : va_W) (fun z => z) (fun _ => ([] : va_W)) (mm_In_bitCount x) := by
  refine ly_entI (by decide) (Nat.le_of_ble_eq_true rfl) ?_
  intro p e s m av below meth c A ls R Q H locs res hM C hRf hRl hS hP hD hl ret
  obtain ⟨hx, hb, -⟩ := id C
  have hcs : 0 ≤ R.cells ∧ 0 ≤ R.slots := ⟨Nat.zero_le _, Nat.zero_le _⟩
  have hl : lv_has ls 1 [(0, .int x)] := hl
  rw [mm_In_bitCount] at hM
  refine lv_iload_n hx hb dd_In_bitCount_0 rfl (lv_at hl 0 rfl) ?_
  refine lv_iload_n hx hb dd_In_bitCount_1 rfl (lv_at hl 0 rfl) ?_
  refine lv_iconst (v := (1 : Int32)) hx hb dd_In_bitCount_2 (by decide) ?_
  refine lv_iushr (v := (x.toUInt32 >>> ((1 : Int32).toUInt32 &&& Int32.toUInt32 31)).toInt32) hx hb dd_In_bitCount_3 rfl ?_
  refine ly_ldcw (x := (1431655765 : Int32)) C wa_487 dd_In_bitCount_4 ?_
  refine lv_iand hx hb dd_In_bitCount_7 ?_
  refine lv_isub hx hb dd_In_bitCount_8 ?_
  refine lv_istore_n (lv' := [(0, .int (x - ((x.toUInt32 >>> ((1 : Int32).toUInt32 &&& Int32.toUInt32 31)).toInt32 &&& (1431655765 : Int32))))]) hx hb dd_In_bitCount_9 rfl hl (by decide) rfl (fun ls hl => ?_)
  refine lv_iload_n hx hb dd_In_bitCount_10 rfl (lv_at hl 0 rfl) ?_
  refine ly_ldcw (x := (858993459 : Int32)) C wa_488 dd_In_bitCount_11 ?_
  refine lv_iand hx hb dd_In_bitCount_14 ?_
  refine lv_iload_n hx hb dd_In_bitCount_15 rfl (lv_at hl 0 rfl) ?_
  refine lv_iconst (v := (2 : Int32)) hx hb dd_In_bitCount_16 (by decide) ?_
  refine lv_iushr (v := ((x - ((x.toUInt32 >>> ((1 : Int32).toUInt32 &&& Int32.toUInt32 31)).toInt32 &&& (1431655765 : Int32))).toUInt32 >>> ((2 : Int32).toUInt32 &&& Int32.toUInt32 31)).toInt32) hx hb dd_In_bitCount_17 rfl ?_
  refine ly_ldcw (x := (858993459 : Int32)) C wa_488 dd_In_bitCount_18 ?_
  refine lv_iand hx hb dd_In_bitCount_21 ?_
  refine lv_iadd hx hb dd_In_bitCount_22 ?_
  refine lv_istore_n (lv' := [(0, .int (((x - ((x.toUInt32 >>> ((1 : Int32).toUInt32 &&& Int32.toUInt32 31)).toInt32 &&& (1431655765 : Int32))) &&& (858993459 : Int32)) + (((x - ((x.toUInt32 >>> ((1 : Int32).toUInt32 &&& Int32.toUInt32 31)).toInt32 &&& (1431655765 : Int32))).toUInt32 >>> ((2 : Int32).toUInt32 &&& Int32.toUInt32 31)).toInt32 &&& (858993459 : Int32))))]) hx hb dd_In_bitCount_23 rfl hl (by decide) rfl (fun ls hl => ?_)
  refine lv_iload_n hx hb dd_In_bitCount_24 rfl (lv_at hl 0 rfl) ?_
  refine lv_iload_n hx hb dd_In_bitCount_25 rfl (lv_at hl 0 rfl) ?_
  refine lv_iconst (v := (4 : Int32)) hx hb dd_In_bitCount_26 (by decide) ?_
  refine lv_iushr (v := ((((x - ((x.toUInt32 >>> ((1 : Int32).toUInt32 &&& Int32.toUInt32 31)).toInt32 &&& (1431655765 : Int32))) &&& (858993459 : Int32)) + (((x - ((x.toUInt32 >>> ((1 : Int32).toUInt32 &&& Int32.toUInt32 31)).toInt32 &&& (1431655765 : Int32))).toUInt32 >>> ((2 : Int32).toUInt32 &&& Int32.toUInt32 31)).toInt32 &&& (858993459 : Int32))).toUInt32 >>> ((4 : Int32).toUInt32 &&& Int32.toUInt32 31)).toInt32) hx hb dd_In_bitCount_27 rfl ?_
  refine lv_iadd hx hb dd_In_bitCount_28 ?_
  refine ly_ldcw (x := (252645135 : Int32)) C wa_489 dd_In_bitCount_29 ?_
  refine lv_iand hx hb dd_In_bitCount_32 ?_
  refine lv_istore_n (lv' := [(0, .int (((((x - ((x.toUInt32 >>> ((1 : Int32).toUInt32 &&& Int32.toUInt32 31)).toInt32 &&& (1431655765 : Int32))) &&& (858993459 : Int32)) + (((x - ((x.toUInt32 >>> ((1 : Int32).toUInt32 &&& Int32.toUInt32 31)).toInt32 &&& (1431655765 : Int32))).toUInt32 >>> ((2 : Int32).toUInt32 &&& Int32.toUInt32 31)).toInt32 &&& (858993459 : Int32))) + ((((x - ((x.toUInt32 >>> ((1 : Int32).toUInt32 &&& Int32.toUInt32 31)).toInt32 &&& (1431655765 : Int32))) &&& (858993459 : Int32)) + (((x - ((x.toUInt32 >>> ((1 : Int32).toUInt32 &&& Int32.toUInt32 31)).toInt32 &&& (1431655765 : Int32))).toUInt32 >>> ((2 : Int32).toUInt32 &&& Int32.toUInt32 31)).toInt32 &&& (858993459 : Int32))).toUInt32 >>> ((4 : Int32).toUInt32 &&& Int32.toUInt32 31)).toInt32) &&& (252645135 : Int32)))]) hx hb dd_In_bitCount_33 rfl hl (by decide) rfl (fun ls hl => ?_)
  refine lv_iload_n hx hb dd_In_bitCount_34 rfl (lv_at hl 0 rfl) ?_
  refine lv_iload_n hx hb dd_In_bitCount_35 rfl (lv_at hl 0 rfl) ?_
  refine lv_bipush (v := (8 : Int32)) hx hb dd_In_bitCount_36 (by decide) ?_
  refine lv_iushr (v := ((((((x - ((x.toUInt32 >>> ((1 : Int32).toUInt32 &&& Int32.toUInt32 31)).toInt32 &&& (1431655765 : Int32))) &&& (858993459 : Int32)) + (((x - ((x.toUInt32 >>> ((1 : Int32).toUInt32 &&& Int32.toUInt32 31)).toInt32 &&& (1431655765 : Int32))).toUInt32 >>> ((2 : Int32).toUInt32 &&& Int32.toUInt32 31)).toInt32 &&& (858993459 : Int32))) + ((((x - ((x.toUInt32 >>> ((1 : Int32).toUInt32 &&& Int32.toUInt32 31)).toInt32 &&& (1431655765 : Int32))) &&& (858993459 : Int32)) + (((x - ((x.toUInt32 >>> ((1 : Int32).toUInt32 &&& Int32.toUInt32 31)).toInt32 &&& (1431655765 : Int32))).toUInt32 >>> ((2 : Int32).toUInt32 &&& Int32.toUInt32 31)).toInt32 &&& (858993459 : Int32))).toUInt32 >>> ((4 : Int32).toUInt32 &&& Int32.toUInt32 31)).toInt32) &&& (252645135 : Int32)).toUInt32 >>> ((8 : Int32).toUInt32 &&& Int32.toUInt32 31)).toInt32) hx hb dd_In_bitCount_38 rfl ?_
  refine lv_iadd hx hb dd_In_bitCount_39 ?_
  refine lv_istore_n (lv' := [(0, .int ((((((x - ((x.toUInt32 >>> ((1 : Int32).toUInt32 &&& Int32.toUInt32 31)).toInt32 &&& (1431655765 : Int32))) &&& (858993459 : Int32)) + (((x - ((x.toUInt32 >>> ((1 : Int32).toUInt32 &&& Int32.toUInt32 31)).toInt32 &&& (1431655765 : Int32))).toUInt32 >>> ((2 : Int32).toUInt32 &&& Int32.toUInt32 31)).toInt32 &&& (858993459 : Int32))) + ((((x - ((x.toUInt32 >>> ((1 : Int32).toUInt32 &&& Int32.toUInt32 31)).toInt32 &&& (1431655765 : Int32))) &&& (858993459 : Int32)) + (((x - ((x.toUInt32 >>> ((1 : Int32).toUInt32 &&& Int32.toUInt32 31)).toInt32 &&& (1431655765 : Int32))).toUInt32 >>> ((2 : Int32).toUInt32 &&& Int32.toUInt32 31)).toInt32 &&& (858993459 : Int32))).toUInt32 >>> ((4 : Int32).toUInt32 &&& Int32.toUInt32 31)).toInt32) &&& (252645135 : Int32)) + ((((((x - ((x.toUInt32 >>> ((1 : Int32).toUInt32 &&& Int32.toUInt32 31)).toInt32 &&& (1431655765 : Int32))) &&& (858993459 : Int32)) + (((x - ((x.toUInt32 >>> ((1 : Int32).toUInt32 &&& Int32.toUInt32 31)).toInt32 &&& (1431655765 : Int32))).toUInt32 >>> ((2 : Int32).toUInt32 &&& Int32.toUInt32 31)).toInt32 &&& (858993459 : Int32))) + ((((x - ((x.toUInt32 >>> ((1 : Int32).toUInt32 &&& Int32.toUInt32 31)).toInt32 &&& (1431655765 : Int32))) &&& (858993459 : Int32)) + (((x - ((x.toUInt32 >>> ((1 : Int32).toUInt32 &&& Int32.toUInt32 31)).toInt32 &&& (1431655765 : Int32))).toUInt32 >>> ((2 : Int32).toUInt32 &&& Int32.toUInt32 31)).toInt32 &&& (858993459 : Int32))).toUInt32 >>> ((4 : Int32).toUInt32 &&& Int32.toUInt32 31)).toInt32) &&& (252645135 : Int32)).toUInt32 >>> ((8 : Int32).toUInt32 &&& Int32.toUInt32 31)).toInt32))]) hx hb dd_In_bitCount_40 rfl hl (by decide) rfl (fun ls hl => ?_)
  refine lv_iload_n hx hb dd_In_bitCount_41 rfl (lv_at hl 0 rfl) ?_
  refine lv_iload_n hx hb dd_In_bitCount_42 rfl (lv_at hl 0 rfl) ?_
  refine lv_bipush (v := (16 : Int32)) hx hb dd_In_bitCount_43 (by decide) ?_
  refine lv_iushr (v := (((((((x - ((x.toUInt32 >>> ((1 : Int32).toUInt32 &&& Int32.toUInt32 31)).toInt32 &&& (1431655765 : Int32))) &&& (858993459 : Int32)) + (((x - ((x.toUInt32 >>> ((1 : Int32).toUInt32 &&& Int32.toUInt32 31)).toInt32 &&& (1431655765 : Int32))).toUInt32 >>> ((2 : Int32).toUInt32 &&& Int32.toUInt32 31)).toInt32 &&& (858993459 : Int32))) + ((((x - ((x.toUInt32 >>> ((1 : Int32).toUInt32 &&& Int32.toUInt32 31)).toInt32 &&& (1431655765 : Int32))) &&& (858993459 : Int32)) + (((x - ((x.toUInt32 >>> ((1 : Int32).toUInt32 &&& Int32.toUInt32 31)).toInt32 &&& (1431655765 : Int32))).toUInt32 >>> ((2 : Int32).toUInt32 &&& Int32.toUInt32 31)).toInt32 &&& (858993459 : Int32))).toUInt32 >>> ((4 : Int32).toUInt32 &&& Int32.toUInt32 31)).toInt32) &&& (252645135 : Int32)) + ((((((x - ((x.toUInt32 >>> ((1 : Int32).toUInt32 &&& Int32.toUInt32 31)).toInt32 &&& (1431655765 : Int32))) &&& (858993459 : Int32)) + (((x - ((x.toUInt32 >>> ((1 : Int32).toUInt32 &&& Int32.toUInt32 31)).toInt32 &&& (1431655765 : Int32))).toUInt32 >>> ((2 : Int32).toUInt32 &&& Int32.toUInt32 31)).toInt32 &&& (858993459 : Int32))) + ((((x - ((x.toUInt32 >>> ((1 : Int32).toUInt32 &&& Int32.toUInt32 31)).toInt32 &&& (1431655765 : Int32))) &&& (858993459 : Int32)) + (((x - ((x.toUInt32 >>> ((1 : Int32).toUInt32 &&& Int32.toUInt32 31)).toInt32 &&& (1431655765 : Int32))).toUInt32 >>> ((2 : Int32).toUInt32 &&& Int32.toUInt32 31)).toInt32 &&& (858993459 : Int32))).toUInt32 >>> ((4 : Int32).toUInt32 &&& Int32.toUInt32 31)).toInt32) &&& (252645135 : Int32)).toUInt32 >>> ((8 : Int32).toUInt32 &&& Int32.toUInt32 31)).toInt32).toUInt32 >>> ((16 : Int32).toUInt32 &&& Int32.toUInt32 31)).toInt32) hx hb dd_In_bitCount_45 rfl ?_
  refine lv_iadd hx hb dd_In_bitCount_46 ?_
  refine lv_istore_n (lv' := [(0, .int (((((((x - ((x.toUInt32 >>> ((1 : Int32).toUInt32 &&& Int32.toUInt32 31)).toInt32 &&& (1431655765 : Int32))) &&& (858993459 : Int32)) + (((x - ((x.toUInt32 >>> ((1 : Int32).toUInt32 &&& Int32.toUInt32 31)).toInt32 &&& (1431655765 : Int32))).toUInt32 >>> ((2 : Int32).toUInt32 &&& Int32.toUInt32 31)).toInt32 &&& (858993459 : Int32))) + ((((x - ((x.toUInt32 >>> ((1 : Int32).toUInt32 &&& Int32.toUInt32 31)).toInt32 &&& (1431655765 : Int32))) &&& (858993459 : Int32)) + (((x - ((x.toUInt32 >>> ((1 : Int32).toUInt32 &&& Int32.toUInt32 31)).toInt32 &&& (1431655765 : Int32))).toUInt32 >>> ((2 : Int32).toUInt32 &&& Int32.toUInt32 31)).toInt32 &&& (858993459 : Int32))).toUInt32 >>> ((4 : Int32).toUInt32 &&& Int32.toUInt32 31)).toInt32) &&& (252645135 : Int32)) + ((((((x - ((x.toUInt32 >>> ((1 : Int32).toUInt32 &&& Int32.toUInt32 31)).toInt32 &&& (1431655765 : Int32))) &&& (858993459 : Int32)) + (((x - ((x.toUInt32 >>> ((1 : Int32).toUInt32 &&& Int32.toUInt32 31)).toInt32 &&& (1431655765 : Int32))).toUInt32 >>> ((2 : Int32).toUInt32 &&& Int32.toUInt32 31)).toInt32 &&& (858993459 : Int32))) + ((((x - ((x.toUInt32 >>> ((1 : Int32).toUInt32 &&& Int32.toUInt32 31)).toInt32 &&& (1431655765 : Int32))) &&& (858993459 : Int32)) + (((x - ((x.toUInt32 >>> ((1 : Int32).toUInt32 &&& Int32.toUInt32 31)).toInt32 &&& (1431655765 : Int32))).toUInt32 >>> ((2 : Int32).toUInt32 &&& Int32.toUInt32 31)).toInt32 &&& (858993459 : Int32))).toUInt32 >>> ((4 : Int32).toUInt32 &&& Int32.toUInt32 31)).toInt32) &&& (252645135 : Int32)).toUInt32 >>> ((8 : Int32).toUInt32 &&& Int32.toUInt32 31)).toInt32) + (((((((x - ((x.toUInt32 >>> ((1 : Int32).toUInt32 &&& Int32.toUInt32 31)).toInt32 &&& (1431655765 : Int32))) &&& (858993459 : Int32)) + (((x - ((x.toUInt32 >>> ((1 : Int32).toUInt32 &&& Int32.toUInt32 31)).toInt32 &&& (1431655765 : Int32))).toUInt32 >>> ((2 : Int32).toUInt32 &&& Int32.toUInt32 31)).toInt32 &&& (858993459 : Int32))) + ((((x - ((x.toUInt32 >>> ((1 : Int32).toUInt32 &&& Int32.toUInt32 31)).toInt32 &&& (1431655765 : Int32))) &&& (858993459 : Int32)) + (((x - ((x.toUInt32 >>> ((1 : Int32).toUInt32 &&& Int32.toUInt32 31)).toInt32 &&& (1431655765 : Int32))).toUInt32 >>> ((2 : Int32).toUInt32 &&& Int32.toUInt32 31)).toInt32 &&& (858993459 : Int32))).toUInt32 >>> ((4 : Int32).toUInt32 &&& Int32.toUInt32 31)).toInt32) &&& (252645135 : Int32)) + ((((((x - ((x.toUInt32 >>> ((1 : Int32).toUInt32 &&& Int32.toUInt32 31)).toInt32 &&& (1431655765 : Int32))) &&& (858993459 : Int32)) + (((x - ((x.toUInt32 >>> ((1 : Int32).toUInt32 &&& Int32.toUInt32 31)).toInt32 &&& (1431655765 : Int32))).toUInt32 >>> ((2 : Int32).toUInt32 &&& Int32.toUInt32 31)).toInt32 &&& (858993459 : Int32))) + ((((x - ((x.toUInt32 >>> ((1 : Int32).toUInt32 &&& Int32.toUInt32 31)).toInt32 &&& (1431655765 : Int32))) &&& (858993459 : Int32)) + (((x - ((x.toUInt32 >>> ((1 : Int32).toUInt32 &&& Int32.toUInt32 31)).toInt32 &&& (1431655765 : Int32))).toUInt32 >>> ((2 : Int32).toUInt32 &&& Int32.toUInt32 31)).toInt32 &&& (858993459 : Int32))).toUInt32 >>> ((4 : Int32).toUInt32 &&& Int32.toUInt32 31)).toInt32) &&& (252645135 : Int32)).toUInt32 >>> ((8 : Int32).toUInt32 &&& Int32.toUInt32 31)).toInt32).toUInt32 >>> ((16 : Int32).toUInt32 &&& Int32.toUInt32 31)).toInt32))]) hx hb dd_In_bitCount_47 rfl hl (by decide) rfl (fun ls hl => ?_)
  refine lv_iload_n hx hb dd_In_bitCount_48 rfl (lv_at hl 0 rfl) ?_
  refine lv_bipush (v := (63 : Int32)) hx hb dd_In_bitCount_49 (by decide) ?_
  refine lv_iand hx hb dd_In_bitCount_51 ?_
  exact ret ((((((((x - ((x.toUInt32 >>> ((1 : Int32).toUInt32 &&& Int32.toUInt32 31)).toInt32 &&& (1431655765 : Int32))) &&& (858993459 : Int32)) + (((x - ((x.toUInt32 >>> ((1 : Int32).toUInt32 &&& Int32.toUInt32 31)).toInt32 &&& (1431655765 : Int32))).toUInt32 >>> ((2 : Int32).toUInt32 &&& Int32.toUInt32 31)).toInt32 &&& (858993459 : Int32))) + ((((x - ((x.toUInt32 >>> ((1 : Int32).toUInt32 &&& Int32.toUInt32 31)).toInt32 &&& (1431655765 : Int32))) &&& (858993459 : Int32)) + (((x - ((x.toUInt32 >>> ((1 : Int32).toUInt32 &&& Int32.toUInt32 31)).toInt32 &&& (1431655765 : Int32))).toUInt32 >>> ((2 : Int32).toUInt32 &&& Int32.toUInt32 31)).toInt32 &&& (858993459 : Int32))).toUInt32 >>> ((4 : Int32).toUInt32 &&& Int32.toUInt32 31)).toInt32) &&& (252645135 : Int32)) + ((((((x - ((x.toUInt32 >>> ((1 : Int32).toUInt32 &&& Int32.toUInt32 31)).toInt32 &&& (1431655765 : Int32))) &&& (858993459 : Int32)) + (((x - ((x.toUInt32 >>> ((1 : Int32).toUInt32 &&& Int32.toUInt32 31)).toInt32 &&& (1431655765 : Int32))).toUInt32 >>> ((2 : Int32).toUInt32 &&& Int32.toUInt32 31)).toInt32 &&& (858993459 : Int32))) + ((((x - ((x.toUInt32 >>> ((1 : Int32).toUInt32 &&& Int32.toUInt32 31)).toInt32 &&& (1431655765 : Int32))) &&& (858993459 : Int32)) + (((x - ((x.toUInt32 >>> ((1 : Int32).toUInt32 &&& Int32.toUInt32 31)).toInt32 &&& (1431655765 : Int32))).toUInt32 >>> ((2 : Int32).toUInt32 &&& Int32.toUInt32 31)).toInt32 &&& (858993459 : Int32))).toUInt32 >>> ((4 : Int32).toUInt32 &&& Int32.toUInt32 31)).toInt32) &&& (252645135 : Int32)).toUInt32 >>> ((8 : Int32).toUInt32 &&& Int32.toUInt32 31)).toInt32) + (((((((x - ((x.toUInt32 >>> ((1 : Int32).toUInt32 &&& Int32.toUInt32 31)).toInt32 &&& (1431655765 : Int32))) &&& (858993459 : Int32)) + (((x - ((x.toUInt32 >>> ((1 : Int32).toUInt32 &&& Int32.toUInt32 31)).toInt32 &&& (1431655765 : Int32))).toUInt32 >>> ((2 : Int32).toUInt32 &&& Int32.toUInt32 31)).toInt32 &&& (858993459 : Int32))) + ((((x - ((x.toUInt32 >>> ((1 : Int32).toUInt32 &&& Int32.toUInt32 31)).toInt32 &&& (1431655765 : Int32))) &&& (858993459 : Int32)) + (((x - ((x.toUInt32 >>> ((1 : Int32).toUInt32 &&& Int32.toUInt32 31)).toInt32 &&& (1431655765 : Int32))).toUInt32 >>> ((2 : Int32).toUInt32 &&& Int32.toUInt32 31)).toInt32 &&& (858993459 : Int32))).toUInt32 >>> ((4 : Int32).toUInt32 &&& Int32.toUInt32 31)).toInt32) &&& (252645135 : Int32)) + ((((((x - ((x.toUInt32 >>> ((1 : Int32).toUInt32 &&& Int32.toUInt32 31)).toInt32 &&& (1431655765 : Int32))) &&& (858993459 : Int32)) + (((x - ((x.toUInt32 >>> ((1 : Int32).toUInt32 &&& Int32.toUInt32 31)).toInt32 &&& (1431655765 : Int32))).toUInt32 >>> ((2 : Int32).toUInt32 &&& Int32.toUInt32 31)).toInt32 &&& (858993459 : Int32))) + ((((x - ((x.toUInt32 >>> ((1 : Int32).toUInt32 &&& Int32.toUInt32 31)).toInt32 &&& (1431655765 : Int32))) &&& (858993459 : Int32)) + (((x - ((x.toUInt32 >>> ((1 : Int32).toUInt32 &&& Int32.toUInt32 31)).toInt32 &&& (1431655765 : Int32))).toUInt32 >>> ((2 : Int32).toUInt32 &&& Int32.toUInt32 31)).toInt32 &&& (858993459 : Int32))).toUInt32 >>> ((4 : Int32).toUInt32 &&& Int32.toUInt32 31)).toInt32) &&& (252645135 : Int32)).toUInt32 >>> ((8 : Int32).toUInt32 &&& Int32.toUInt32 31)).toInt32).toUInt32 >>> ((16 : Int32).toUInt32 &&& Int32.toUInt32 31)).toInt32) &&& (63 : Int32)) H locs 52 ls hM rfl hS hP hD dd_In_bitCount_52

def mm_RG_globalPlan (x : Int32) : Int32 := (if (mm_In_bitCount x) = (6 : Int32) then x else (0 : Int32))
set_option maxHeartbeats 4000000 in
set_option maxRecDepth 100000 in
theorem cc_RG_globalPlan {l : Launch} (D : va_G) (K : Nat → ClassId) (x : Int32) : ly_i l yy_RG_globalPlan bb_RG_globalPlan 1 (some .int) 1 20 D K [.int x] ([] : va_W) (fun z => z) (fun _ => ([] : va_W)) (mm_RG_globalPlan x) := by
  refine ly_entI (by decide) (Nat.le_of_ble_eq_true rfl) ?_
  intro p e s m av below meth c A ls R Q H locs res hM C hRf hRl hS hP hD hl ret
  obtain ⟨hx, hb, -⟩ := id C
  have hcs : 0 ≤ R.cells ∧ 0 ≤ R.slots := ⟨Nat.zero_le _, Nat.zero_le _⟩
  have hl : lv_has ls 1 [(0, .int x)] := hl
  rw [mm_RG_globalPlan] at hM
  refine lv_iload_n hx hb dd_RG_globalPlan_0 rfl (lv_at hl 0 rfl) ?_
  obtain ⟨r_1, hq1⟩ : ∃ z, z = mm_In_bitCount x := ⟨_, rfl⟩
  try rw [← hq1] at hM
  refine ly_cS_i (n := 1) (z := r_1) (rest := []) (wn := ([] : va_W)) C (cc_In_bitCount D K x) hq1 wa_486 wa_116 wa_117 wa_118 (by decide) (Nat.le_trans (by decide) hRf) (Nat.le_trans (by decide) hRl) rfl hl.1 rfl (Nat.le_of_ble_eq_true rfl) dd_RG_globalPlan_1 hcs [] [] [] hP hD hS rfl rfl (by decide) rfl (fun H locs hP hD hS => ?_)
  refine W.eq (g2 := F0 m 4 ls [.int r_1]) rfl ?_
  refine lv_bipush (v := (6 : Int32)) hx hb dd_RG_globalPlan_4 (by decide) ?_
  refine lv_icmp_ne (tgt := 13) hx hb dd_RG_globalPlan_6 (by decide) (fun h6 => ?_) (fun h6 => ?_)
  · rw [if_neg h6] at hM
    refine lv_iconst (v := (0 : Int32)) hx hb dd_RG_globalPlan_13 (by decide) ?_
    exact ret (0 : Int32) H locs 14 ls hM rfl hS hP hD dd_RG_globalPlan_14
  · rw [if_pos h6] at hM
    refine lv_iload_n hx hb dd_RG_globalPlan_9 rfl (lv_at hl 0 rfl) ?_
    refine lv_goto (tgt := 14) hx hb dd_RG_globalPlan_10 (by decide) ?_
    exact ret x H locs 14 ls hM rfl hS hP hD dd_RG_globalPlan_14

def mm_RG_localPlan (i : Nat) (n : Nat) (gr : Int32) (al : Int32) (th : Int32) : Int32 := (if (((mm_Co_groupOf i n gr) &&& (((1 : Int32) <<< ((nI i) &&& 31)) ^^^ (-1 : Int32))) &&& (mm_Sq_lostMask al th)) = (0 : Int32) then ((mm_Co_groupOf i n gr) &&& (((1 : Int32) <<< ((nI i) &&& 31)) ^^^ (-1 : Int32))) else (0 : Int32))
set_option maxHeartbeats 4000000 in
set_option maxRecDepth 100000 in
theorem cc_RG_localPlan {l : Launch} (D : va_G) (K : Nat → ClassId) (ah ac ar ap aq ax au ak a0 aw af az : Nat) (i : Nat) (n : Nat) (fn : Nat) (lf : Int64) (rb : Int64) (gr : Int32) (ro : Nat → Int64) (sr : Nat → Int64) (sv : Nat → Int64) (up : Nat → Int32) (ct : Nat → Int32) (al : Int32) (th : Int32) (wr : Nat → Int64) (fl : Nat → Int64) (hi : i < n) (hn : n ≤ 11) (hn6 : 6 ≤ n) (hfn : fn ≤ 10) : ly_i l yy_RG_localPlan bb_RG_localPlan 4 (some .int) 2 42 D K [.ref ah, .ref a0, .int (nI i)] (ws_RG K ah ac ar ap aq ax au ak a0 aw af az n fn lf rb gr ro sr sv up ct al th wr fl) (fun z => z) (fun _ => (ws_RG K ah ac ar ap aq ax au ak a0 aw af az n fn lf rb gr ro sr sv up ct al th wr fl)) (mm_RG_localPlan i n gr al th) := by
  refine ly_entI (by decide) (Nat.le_of_ble_eq_true rfl) ?_
  intro p e s m av below meth c A ls R Q H locs res hM C hRf hRl hS hP hD hl ret
  obtain ⟨hx, hb, -⟩ := id C
  have hcs : 0 ≤ R.cells ∧ 0 ≤ R.slots := ⟨Nat.zero_le _, Nat.zero_le _⟩
  have hl : lv_has ls 4 [(0, .ref ah), (1, .ref a0), (2, .int (nI i))] := hl
  rw [mm_RG_localPlan] at hM
  refine lv_aload_n hx hb dd_RG_localPlan_0 rfl (lv_at hl 0 rfl) ?_
  refine ly_get (v := .ref ac) C hP 0 rfl uw_RG rfl 0 (by decide) wa_44 rfl dd_RG_localPlan_1 ?_
  refine lv_iload_n hx hb dd_RG_localPlan_4 rfl (lv_at hl 2 rfl) ?_
  obtain ⟨r_5, hq5⟩ : ∃ z, z = mm_Co_groupOf i n gr := ⟨_, rfl⟩
  try rw [← hq5] at hM
  refine ly_cV_i (n := 1) (z := r_5) (rest := []) (wn := (ws_RG K ah ac ar ap aq ax au ak a0 aw af az n fn lf rb gr ro sr sv up ct al th wr fl)) C (cc_Co_groupOf D K ac ar i n gr (by omega)) hq5 wa_225 wa_185 wa_41 wa_186 wa_187 (by decide) (Nat.le_trans (by decide) hRf) (Nat.le_trans (by decide) hRl) rfl hl.1 rfl (Nat.le_of_ble_eq_true rfl) dd_RG_localPlan_5 hcs [1] [0, 2, 3, 4, 5, 6, 7, 8, 9, 10] [0, 10, 1, 2, 3, 4, 5, 6, 7, 8, 9] hP hD hS rfl rfl (by decide) rfl rfl rfl (fun H locs hP hD hS => ?_)
  refine W.eq (g2 := F0 m 8 ls [.int r_5]) rfl ?_
  refine lv_iconst (v := (1 : Int32)) hx hb dd_RG_localPlan_8 (by decide) ?_
  refine lv_iload_n hx hb dd_RG_localPlan_9 rfl (lv_at hl 2 rfl) ?_
  refine lv_ishl hx hb dd_RG_localPlan_10 ?_
  refine lv_iconst (v := (-1 : Int32)) hx hb dd_RG_localPlan_11 (by decide) ?_
  refine lv_ixor hx hb dd_RG_localPlan_12 ?_
  refine lv_iand hx hb dd_RG_localPlan_13 ?_
  refine lv_istore_n (lv' := [(3, .int (r_5 &&& (((1 : Int32) <<< ((nI i) &&& 31)) ^^^ (-1 : Int32)))), (0, .ref ah), (1, .ref a0), (2, .int (nI i))]) hx hb dd_RG_localPlan_14 rfl hl (by decide) rfl (fun ls hl => ?_)
  refine lv_iload_n hx hb dd_RG_localPlan_15 rfl (lv_at hl 0 rfl) ?_
  refine lv_aload_n hx hb dd_RG_localPlan_16 rfl (lv_at hl 2 rfl) ?_
  obtain ⟨r_17, hq17⟩ : ∃ z, z = mm_Sq_lostMask al th := ⟨_, rfl⟩
  try rw [← hq17] at hM
  refine ly_cV_i (n := 0) (z := r_17) (rest := [.int (r_5 &&& (((1 : Int32) <<< ((nI i) &&& 31)) ^^^ (-1 : Int32)))]) (wn := (ws_RG K ah ac ar ap aq ax au ak a0 aw af az n fn lf rb gr ro sr sv up ct al th wr fl)) C (cc_Sq_lostMask D K a0 aw af n fn al th wr fl (by omega) (by omega)) hq17 wa_245 wa_124 wa_53 wa_125 wa_126 (by decide) (Nat.le_trans (by decide) hRf) (Nat.le_trans (by decide) hRl) rfl hl.1 rfl (Nat.le_of_ble_eq_true rfl) dd_RG_localPlan_17 hcs [8, 9, 10] [0, 1, 2, 3, 4, 5, 6, 7] [0, 1, 2, 3, 4, 5, 6, 7, 8, 9, 10] hP hD hS rfl rfl (by decide) rfl rfl rfl (fun H locs hP hD hS => ?_)
  refine W.eq (g2 := F0 m 20 ls [.int r_17, .int (r_5 &&& (((1 : Int32) <<< ((nI i) &&& 31)) ^^^ (-1 : Int32)))]) rfl ?_
  refine lv_iand hx hb dd_RG_localPlan_20 ?_
  refine lv_if_ne (tgt := 28) hx hb dd_RG_localPlan_21 (by decide) (fun h21 => ?_) (fun h21 => ?_)
  · rw [if_neg h21] at hM
    refine lv_iconst (v := (0 : Int32)) hx hb dd_RG_localPlan_28 (by decide) ?_
    exact ret (0 : Int32) H locs 29 ls hM rfl hS hP hD dd_RG_localPlan_29
  · rw [if_pos h21] at hM
    refine lv_iload_n hx hb dd_RG_localPlan_24 rfl (lv_at hl 0 rfl) ?_
    refine lv_goto (tgt := 29) hx hb dd_RG_localPlan_25 (by decide) ?_
    exact ret (r_5 &&& (((1 : Int32) <<< ((nI i) &&& 31)) ^^^ (-1 : Int32))) H locs 29 ls hM rfl hS hP hD dd_RG_localPlan_29

def mm_RG_independentShards_L11 (ro : Nat → Int64) (th : Int32) : Nat → Nat → (Int32) → (Nat → Int64) → (Nat → Int64) → Int32 × (Nat → Int64) × (Nat → Int64)
  | 0, j, v2, sr, sv => (v2, sr, sv)
  | k + 1, j, v2, sr, sv => (if (mm_Sq_isThere j th) = (0 : Int32) then (mm_RG_independentShards_L11 ro th k (j + 1) v2 sr sv) else (match mm_Sp_take (ro j) (0 : Int64) sr sv with | (r_44, sr_44, sv_44) => (if r_44 = (0 : Int32) then (mm_RG_independentShards_L11 ro th k (j + 1) v2 sr_44 sv_44) else (mm_RG_independentShards_L11 ro th k (j + 1) (v2 ||| ((1 : Int32) <<< ((nI j) &&& 31))) sr_44 sv_44))))
def mm_RG_independentShards (n : Nat) (ro : Nat → Int64) (sr : Nat → Int64) (sv : Nat → Int64) (th : Int32) : Int32 × (Nat → Int64) × (Nat → Int64) := (match mm_Sp_clear sr sv with | (sr_4, sv_4) => (mm_RG_independentShards_L11 ro th n 0 (0 : Int32) sr_4 sv_4))
set_option maxHeartbeats 4000000 in
set_option maxRecDepth 100000 in
theorem cc_RG_independentShards {l : Launch} (D : va_G) (K : Nat → ClassId) (ah ac ar ap aq ax au ak a0 aw af az : Nat) (n : Nat) (fn : Nat) (lf : Int64) (rb : Int64) (gr : Int32) (ro : Nat → Int64) (sr : Nat → Int64) (sv : Nat → Int64) (up : Nat → Int32) (ct : Nat → Int32) (al : Int32) (th : Int32) (wr : Nat → Int64) (fl : Nat → Int64) (hn : n ≤ 11) (hn6 : 6 ≤ n) (hfn : fn ≤ 10) : ly_i l yy_RG_independentShards bb_RG_independentShards 4 (some .int) 3 85 D K [.ref ah, .ref a0] (ws_RG K ah ac ar ap aq ax au ak a0 aw af az n fn lf rb gr ro sr sv up ct al th wr fl) (fun z => z.1) (fun z => (ws_RG K ah ac ar ap aq ax au ak a0 aw af az n fn lf rb gr ro (z.2.1) (z.2.2) up ct al th wr fl)) (mm_RG_independentShards n ro sr sv th) := by
  refine ly_entI (by decide) (Nat.le_of_ble_eq_true rfl) ?_
  intro p e s m av below meth c A ls R Q H locs res hM C hRf hRl hS hP hD hl ret
  obtain ⟨hx, hb, -⟩ := id C
  have hcs : 0 ≤ R.cells ∧ 0 ≤ R.slots := ⟨Nat.zero_le _, Nat.zero_le _⟩
  have hl : lv_has ls 4 [(0, .ref ah), (1, .ref a0)] := hl
  rw [mm_RG_independentShards] at hM
  refine lv_aload_n hx hb dd_RG_independentShards_0 rfl (lv_at hl 0 rfl) ?_
  refine ly_get (v := .ref ap) C hP 0 rfl uw_RG rfl 1 (by decide) wa_49 rfl dd_RG_independentShards_1 ?_
  obtain ⟨⟨sr_4, sv_4⟩, hq4⟩ : ∃ z, z = mm_Sp_clear sr sv := ⟨_, rfl⟩
  try rw [← hq4] at hM
  try dsimp only at hM
  refine ly_cV_v (n := 0) (z := (sr_4, sv_4)) (rest := []) (wn := (ws_RG K ah ac ar ap aq ax au ak a0 aw af az n fn lf rb gr ro sr_4 sv_4 up ct al th wr fl)) C (cc_Sp_clear D K ap aq ax sr sv) hq4 wa_230 wa_169 wa_47 wa_170 wa_171 (by decide) (Nat.le_trans (by decide) hRf) (Nat.le_trans (by decide) hRl) rfl hl.1 rfl (Nat.le_of_ble_eq_true rfl) dd_RG_independentShards_4 hcs [3, 4, 5] [0, 1, 2, 6, 7, 8, 9, 10] [0, 1, 2, 8, 9, 10, 3, 4, 5, 6, 7] hP hD hS rfl rfl (by decide) rfl rfl rfl (fun H locs hP hD hS => ?_)
  refine W.eq (g2 := F0 m 7 ls []) rfl ?_
  refine lv_iconst (v := (0 : Int32)) hx hb dd_RG_independentShards_7 (by decide) ?_
  refine lv_istore_n (lv' := [(2, .int (0 : Int32)), (0, .ref ah), (1, .ref a0)]) hx hb dd_RG_independentShards_8 rfl hl (by decide) rfl (fun ls hl => ?_)
  refine lv_iconst (v := (0 : Int32)) hx hb dd_RG_independentShards_9 (by decide) ?_
  refine lv_istore_n (lv' := [(3, .int (0 : Int32)), (2, .int (0 : Int32)), (0, .ref ah), (1, .ref a0)]) hx hb dd_RG_independentShards_10 rfl hl (by decide) rfl (fun ls hl => ?_)
  have lp11 : ∀ (k : Nat) (j : Nat) (v2 : Int32) (sr : Nat → Int64) (sv : Nat → Int64) (ls : Array Slot) (H : Heap) (locs : List Loc), j + k = n → mm_RG_independentShards_L11 ro th k j v2 sr sv = res → lv_has ls 4 [(3, .int (nI j)), (2, .int v2), (0, .ref ah), (1, .ref a0)] → va_P D cl_all (ws_RG K ah ac ar ap aq ax au ak a0 aw af az n fn lf rb gr ro sr sv up ct al th wr fl) H → va_D A (ws_RG K ah ac ar ap aq ax au ak a0 aw af az n fn lf rb gr ro sr sv up ct al th wr fl) → va_S A s.heap H locs → W p l e R s m av below meth c H locs 0 0 Q (F0 m 11 ls []) := by
    intro k
    induction k with
    | zero =>
      intro j v2 sr sv ls H locs hjk hM hl hP hD hS
      have hj0 : j = n := by omega
      subst j
      rw [mm_RG_independentShards_L11] at hM
      refine lv_iload_n hx hb dd_RG_independentShards_11 rfl (lv_at hl 0 rfl) ?_
      refine lv_aload_n hx hb dd_RG_independentShards_12 rfl (lv_at hl 2 rfl) ?_
      refine ly_get (v := .ref ac) C hP 0 rfl uw_RG rfl 0 (by decide) wa_44 rfl dd_RG_independentShards_13 ?_
      refine ly_getN (v := .int (nI n)) C hP 1 rfl uw_Co rfl 0 (by decide) nw_1 rfl dd_RG_independentShards_16 ?_
      refine lv_icmp_ge (tgt := 62) hx hb dd_RG_independentShards_19 (by decide) (fun _ => ?_) (fun h => absurd (nI_le (a := n) (b := n) (by omega) (by omega)) h)
      refine lv_iload_n hx hb dd_RG_independentShards_62 rfl (lv_at hl 1 rfl) ?_
      exact ret (v2, sr, sv) H locs 63 ls hM rfl hS hP hD dd_RG_independentShards_63
    | succ k ih11 =>
      intro j v2 sr sv ls H locs hjk hM hl hP hD hS
      rw [mm_RG_independentShards_L11] at hM
      refine lv_iload_n hx hb dd_RG_independentShards_11 rfl (lv_at hl 0 rfl) ?_
      refine lv_aload_n hx hb dd_RG_independentShards_12 rfl (lv_at hl 2 rfl) ?_
      refine ly_get (v := .ref ac) C hP 0 rfl uw_RG rfl 0 (by decide) wa_44 rfl dd_RG_independentShards_13 ?_
      refine ly_getN (v := .int (nI n)) C hP 1 rfl uw_Co rfl 0 (by decide) nw_1 rfl dd_RG_independentShards_16 ?_
      refine lv_icmp_ge (tgt := 62) hx hb dd_RG_independentShards_19 (by decide) (fun h => absurd h (nI_ge (a := j) (b := n) (by omega) (by omega))) (fun _ => ?_)
      refine lv_aload_n hx hb dd_RG_independentShards_22 rfl (lv_at hl 3 rfl) ?_
      refine lv_iload_n hx hb dd_RG_independentShards_23 rfl (lv_at hl 0 rfl) ?_
      obtain ⟨r_24, hq24⟩ : ∃ z, z = mm_Sq_isThere j th := ⟨_, rfl⟩
      try rw [← hq24] at hM
      refine ly_cV_i (n := 1) (z := r_24) (rest := []) (wn := (ws_RG K ah ac ar ap aq ax au ak a0 aw af az n fn lf rb gr ro sr sv up ct al th wr fl)) C (cc_Sq_isThere D K a0 aw af j n fn al th wr fl (by omega) (by omega)) hq24 wa_244 wa_64 wa_53 wa_65 wa_66 (by decide) (Nat.le_trans (by decide) hRf) (Nat.le_trans (by decide) hRl) rfl hl.1 rfl (Nat.le_of_ble_eq_true rfl) dd_RG_independentShards_24 hcs [8, 9, 10] [0, 1, 2, 3, 4, 5, 6, 7] [0, 1, 2, 3, 4, 5, 6, 7, 8, 9, 10] hP hD hS rfl rfl (by decide) rfl rfl rfl (fun H locs hP hD hS => ?_)
      refine W.eq (g2 := F0 m 27 ls [.int r_24]) rfl ?_
      refine lv_if_eq (tgt := 56) hx hb dd_RG_independentShards_27 (by decide) (fun h27 => ?_) (fun h27 => ?_)
      · rw [if_pos h27] at hM
        refine lv_iinc (k := 0) (v := (nI (j + 1))) (lv' := [(3, .int (nI (j + 1))), (2, .int v2), (0, .ref ah), (1, .ref a0)]) hx hb dd_RG_independentShards_56 hl rfl (ly_incN _) (by decide) rfl (fun ls hl => ?_)
        refine lv_goto (tgt := 11) hx hb dd_RG_independentShards_59 (by decide) ?_
        exact ih11 (j + 1) v2 sr sv ls H locs (by omega) hM (lv_sub hl [0, 1, 2, 3] rfl) hP hD hS
      · rw [if_neg h27] at hM
        refine lv_aload_n hx hb dd_RG_independentShards_30 rfl (lv_at hl 2 rfl) ?_
        refine ly_get (v := .ref ap) C hP 0 rfl uw_RG rfl 1 (by decide) wa_49 rfl dd_RG_independentShards_31 ?_
        refine lv_aload_n hx hb dd_RG_independentShards_34 rfl (lv_at hl 2 rfl) ?_
        refine ly_get (v := .ref ac) C hP 0 rfl uw_RG rfl 0 (by decide) wa_44 rfl dd_RG_independentShards_35 ?_
        refine ly_getN (v := .ref ar) C hP 1 rfl uw_Co rfl 1 (by decide) nw_2 rfl dd_RG_independentShards_38 ?_
        refine lv_iload_n hx hb dd_RG_independentShards_41 rfl (lv_at hl 0 rfl) ?_
        refine ly_lald C hP 2 rfl j rfl (by omega) (by omega) dd_RG_independentShards_42 ?_
        refine lv_lconst (v := (0 : Int64)) hx hb dd_RG_independentShards_43 (by decide) ?_
        obtain ⟨⟨r_44, sr_44, sv_44⟩, hq44⟩ : ∃ z, z = mm_Sp_take (ro j) (0 : Int64) sr sv := ⟨_, rfl⟩
        try rw [← hq44] at hM
        try dsimp only at hM
        refine ly_cV_i (n := 2) (z := (r_44, sr_44, sv_44)) (rest := []) (wn := (ws_RG K ah ac ar ap aq ax au ak a0 aw af az n fn lf rb gr ro sr_44 sv_44 up ct al th wr fl)) C (cc_Sp_take D K ap aq ax (ro j) (0 : Int64) sr sv) hq44 wa_231 wa_172 wa_47 wa_173 wa_174 (by decide) (Nat.le_trans (by decide) hRf) (Nat.le_trans (by decide) hRl) rfl hl.1 rfl (Nat.le_of_ble_eq_true rfl) dd_RG_independentShards_44 hcs [3, 4, 5] [0, 1, 2, 6, 7, 8, 9, 10] [0, 1, 2, 8, 9, 10, 3, 4, 5, 6, 7] hP hD hS rfl rfl (by decide) rfl rfl rfl (fun H locs hP hD hS => ?_)
        refine W.eq (g2 := F0 m 47 ls [.int r_44]) rfl ?_
        refine lv_if_eq (tgt := 56) hx hb dd_RG_independentShards_47 (by decide) (fun h47 => ?_) (fun h47 => ?_)
        · rw [if_pos h47] at hM
          refine lv_iinc (k := 0) (v := (nI (j + 1))) (lv' := [(3, .int (nI (j + 1))), (2, .int v2), (0, .ref ah), (1, .ref a0)]) hx hb dd_RG_independentShards_56 hl rfl (ly_incN _) (by decide) rfl (fun ls hl => ?_)
          refine lv_goto (tgt := 11) hx hb dd_RG_independentShards_59 (by decide) ?_
          exact ih11 (j + 1) v2 sr_44 sv_44 ls H locs (by omega) hM (lv_sub hl [0, 1, 2, 3] rfl) hP hD hS
        · rw [if_neg h47] at hM
          refine lv_iload_n hx hb dd_RG_independentShards_50 rfl (lv_at hl 1 rfl) ?_
          refine lv_iconst (v := (1 : Int32)) hx hb dd_RG_independentShards_51 (by decide) ?_
          refine lv_iload_n hx hb dd_RG_independentShards_52 rfl (lv_at hl 0 rfl) ?_
          refine lv_ishl hx hb dd_RG_independentShards_53 ?_
          refine lv_ior hx hb dd_RG_independentShards_54 ?_
          refine lv_istore_n (lv' := [(2, .int (v2 ||| ((1 : Int32) <<< ((nI j) &&& 31)))), (3, .int (nI j)), (0, .ref ah), (1, .ref a0)]) hx hb dd_RG_independentShards_55 rfl hl (by decide) rfl (fun ls hl => ?_)
          refine lv_iinc (k := 1) (v := (nI (j + 1))) (lv' := [(3, .int (nI (j + 1))), (2, .int (v2 ||| ((1 : Int32) <<< ((nI j) &&& 31)))), (0, .ref ah), (1, .ref a0)]) hx hb dd_RG_independentShards_56 hl rfl (ly_incN _) (by decide) rfl (fun ls hl => ?_)
          refine lv_goto (tgt := 11) hx hb dd_RG_independentShards_59 (by decide) ?_
          exact ih11 (j + 1) (v2 ||| ((1 : Int32) <<< ((nI j) &&& 31))) sr_44 sv_44 ls H locs (by omega) hM (lv_sub hl [0, 1, 2, 3] rfl) hP hD hS
  exact lp11 n 0 (0 : Int32) sr_4 sv_4 ls H locs (by omega) hM (lv_sub hl [0, 1, 2, 3] rfl) hP hD hS

def mm_RG_choosePlan (i : Nat) (n : Nat) (gr : Int32) (ro : Nat → Int64) (sr : Nat → Int64) (sv : Nat → Int64) (al : Int32) (th : Int32) : Int32 × (Nat → Int64) × (Nat → Int64) := (if (mm_RG_localPlan i n gr al th) = (0 : Int32) then (match mm_RG_independentShards n ro sr sv th with | (r_13, sr_13, sv_13) => ((mm_RG_globalPlan r_13), sr_13, sv_13)) else ((mm_RG_localPlan i n gr al th), sr, sv))
set_option maxHeartbeats 4000000 in
set_option maxRecDepth 100000 in
theorem cc_RG_choosePlan {l : Launch} (D : va_G) (K : Nat → ClassId) (ah ac ar ap aq ax au ak a0 aw af az : Nat) (i : Nat) (n : Nat) (fn : Nat) (lf : Int64) (rb : Int64) (gr : Int32) (ro : Nat → Int64) (sr : Nat → Int64) (sv : Nat → Int64) (up : Nat → Int32) (ct : Nat → Int32) (al : Int32) (th : Int32) (wr : Nat → Int64) (fl : Nat → Int64) (hi : i < n) (hn : n ≤ 11) (hn6 : 6 ≤ n) (hfn : fn ≤ 10) : ly_i l yy_RG_choosePlan bb_RG_choosePlan 4 (some .int) 4 108 D K [.ref ah, .ref a0, .int (nI i)] (ws_RG K ah ac ar ap aq ax au ak a0 aw af az n fn lf rb gr ro sr sv up ct al th wr fl) (fun z => z.1) (fun z => (ws_RG K ah ac ar ap aq ax au ak a0 aw af az n fn lf rb gr ro (z.2.1) (z.2.2) up ct al th wr fl)) (mm_RG_choosePlan i n gr ro sr sv al th) := by
  refine ly_entI (by decide) (Nat.le_of_ble_eq_true rfl) ?_
  intro p e s m av below meth c A ls R Q H locs res hM C hRf hRl hS hP hD hl ret
  obtain ⟨hx, hb, -⟩ := id C
  have hcs : 0 ≤ R.cells ∧ 0 ≤ R.slots := ⟨Nat.zero_le _, Nat.zero_le _⟩
  have hl : lv_has ls 4 [(0, .ref ah), (1, .ref a0), (2, .int (nI i))] := hl
  rw [mm_RG_choosePlan] at hM
  refine lv_aload_n hx hb dd_RG_choosePlan_0 rfl (lv_at hl 0 rfl) ?_
  refine lv_aload_n hx hb dd_RG_choosePlan_1 rfl (lv_at hl 1 rfl) ?_
  refine lv_iload_n hx hb dd_RG_choosePlan_2 rfl (lv_at hl 2 rfl) ?_
  obtain ⟨r_3, hq3⟩ : ∃ z, z = mm_RG_localPlan i n gr al th := ⟨_, rfl⟩
  try rw [← hq3] at hM
  refine ly_cV_i (n := 2) (z := r_3) (rest := []) (wn := (ws_RG K ah ac ar ap aq ax au ak a0 aw af az n fn lf rb gr ro sr sv up ct al th wr fl)) C (cc_RG_localPlan D K ah ac ar ap aq ax au ak a0 aw af az i n fn lf rb gr ro sr sv up ct al th wr fl (by omega) (by omega) (by omega) (by omega)) hq3 wa_184 wa_179 wa_62 wa_180 wa_181 (by decide) (Nat.le_trans (by decide) hRf) (Nat.le_trans (by decide) hRl) rfl hl.1 rfl (Nat.le_of_ble_eq_true rfl) dd_RG_choosePlan_3 hcs [0, 1, 2, 3, 4, 5, 6, 7, 8, 9, 10] [] [0, 1, 2, 3, 4, 5, 6, 7, 8, 9, 10] hP hD hS rfl rfl (by decide) rfl rfl rfl (fun H locs hP hD hS => ?_)
  refine W.eq (g2 := F0 m 6 ls [.int r_3]) rfl ?_
  refine lv_istore_n (lv' := [(3, .int r_3), (0, .ref ah), (1, .ref a0), (2, .int (nI i))]) hx hb dd_RG_choosePlan_6 rfl hl (by decide) rfl (fun ls hl => ?_)
  refine lv_iload_n hx hb dd_RG_choosePlan_7 rfl (lv_at hl 0 rfl) ?_
  refine lv_if_ne (tgt := 22) hx hb dd_RG_choosePlan_8 (by decide) (fun h8 => ?_) (fun h8 => ?_)
  · rw [if_neg h8] at hM
    refine lv_iload_n hx hb dd_RG_choosePlan_22 rfl (lv_at hl 0 rfl) ?_
    exact ret (r_3, sr, sv) H locs 23 ls hM rfl hS hP hD dd_RG_choosePlan_23
  · rw [if_pos h8] at hM
    refine lv_aload_n hx hb dd_RG_choosePlan_11 rfl (lv_at hl 1 rfl) ?_
    refine lv_aload_n hx hb dd_RG_choosePlan_12 rfl (lv_at hl 2 rfl) ?_
    obtain ⟨⟨r_13, sr_13, sv_13⟩, hq13⟩ : ∃ z, z = mm_RG_independentShards n ro sr sv th := ⟨_, rfl⟩
    try rw [← hq13] at hM
    try dsimp only at hM
    refine ly_cV_i (n := 1) (z := (r_13, sr_13, sv_13)) (rest := []) (wn := (ws_RG K ah ac ar ap aq ax au ak a0 aw af az n fn lf rb gr ro sr_13 sv_13 up ct al th wr fl)) C (cc_RG_independentShards D K ah ac ar ap aq ax au ak a0 aw af az n fn lf rb gr ro sr sv up ct al th wr fl (by omega) (by omega) (by omega)) hq13 wa_189 wa_120 wa_62 wa_121 wa_122 (by decide) (Nat.le_trans (by decide) hRf) (Nat.le_trans (by decide) hRl) rfl hl.1 rfl (Nat.le_of_ble_eq_true rfl) dd_RG_choosePlan_13 hcs [0, 1, 2, 3, 4, 5, 6, 7, 8, 9, 10] [] [0, 1, 2, 3, 4, 5, 6, 7, 8, 9, 10] hP hD hS rfl rfl (by decide) rfl rfl rfl (fun H locs hP hD hS => ?_)
    refine W.eq (g2 := F0 m 16 ls [.int r_13]) rfl ?_
    obtain ⟨r_16, hq16⟩ : ∃ z, z = mm_RG_globalPlan r_13 := ⟨_, rfl⟩
    try rw [← hq16] at hM
    refine ly_cS_i (n := 1) (z := r_16) (rest := []) (wn := (ws_RG K ah ac ar ap aq ax au ak a0 aw af az n fn lf rb gr ro sr_13 sv_13 up ct al th wr fl)) C (cc_RG_globalPlan D K r_13) hq16 wa_188 wa_182 wa_62 wa_183 (by decide) (Nat.le_trans (by decide) hRf) (Nat.le_trans (by decide) hRl) rfl hl.1 rfl (Nat.le_of_ble_eq_true rfl) dd_RG_choosePlan_16 hcs [] [0, 1, 2, 3, 4, 5, 6, 7, 8, 9, 10] [0, 1, 2, 3, 4, 5, 6, 7, 8, 9, 10] hP hD hS rfl rfl (by decide) rfl (fun H locs hP hD hS => ?_)
    refine W.eq (g2 := F0 m 19 ls [.int r_16]) rfl ?_
    refine lv_goto (tgt := 23) hx hb dd_RG_choosePlan_19 (by decide) ?_
    exact ret (r_16, sr_13, sv_13) H locs 23 ls hM rfl hS hP hD dd_RG_choosePlan_23
end
section
def mm_RG_readPlan_L3 (x : Int32) (q : Nat) (fn : Nat) (fl : Nat → Int64) : Nat → Nat → (Nat → Int32) → (Int32) → Int32 × (Nat → Int32) × (Int32)
  | 0, j, ct, th => ((1 : Int32), ct, th)
  | k + 1, j, ct, th => (if (mm_RG_isIn x j) = (0 : Int32) then (mm_RG_readPlan_L3 x q fn fl k (j + 1) ct th) else (match mm_RG_readShardFor j q fn ct th fl with | (r_29, ct_29, th_29) => (if r_29 = (0 : Int32) then ((0 : Int32), ct_29, th_29) else (mm_RG_readPlan_L3 x q fn fl k (j + 1) ct_29 th_29))))
def mm_RG_readPlan (x : Int32) (q : Nat) (n : Nat) (fn : Nat) (ct : Nat → Int32) (th : Int32) (fl : Nat → Int64) : Int32 × (Nat → Int32) × (Int32) := (mm_RG_readPlan_L3 x q fn fl n 0 ct th)
set_option maxHeartbeats 4000000 in
set_option maxRecDepth 100000 in
theorem cc_RG_readPlan {l : Launch} (D : va_G) (K : Nat → ClassId) (ah ac ar ap aq ax au ak a0 aw af az : Nat) (x : Int32) (q : Nat) (n : Nat) (fn : Nat) (lf : Int64) (rb : Int64) (gr : Int32) (ro : Nat → Int64) (sr : Nat → Int64) (sv : Nat → Int64) (up : Nat → Int32) (ct : Nat → Int32) (al : Int32) (th : Int32) (wr : Nat → Int64) (fl : Nat → Int64) (hq : q < n) (hn : n ≤ 11) (hn6 : 6 ≤ n) (hfn : fn ≤ 10) : ly_i l yy_RG_readPlan bb_RG_readPlan 5 (some .boolean) 3 67 D K [.ref ah, .ref a0, .int x, .int (nI q)] (ws_RG K ah ac ar ap aq ax au ak a0 aw af az n fn lf rb gr ro sr sv up ct al th wr fl) (fun z => z.1) (fun z => (ws_RG K ah ac ar ap aq ax au ak a0 aw af az n fn lf rb gr ro sr sv up (z.2.1) al (z.2.2) wr fl)) (mm_RG_readPlan x q n fn ct th fl) := by
  refine ly_entI (by decide) (Nat.le_of_ble_eq_true rfl) ?_
  intro p e s m av below meth c A ls R Q H locs res hM C hRf hRl hS hP hD hl ret
  obtain ⟨hx, hb, -⟩ := id C
  have hcs : 0 ≤ R.cells ∧ 0 ≤ R.slots := ⟨Nat.zero_le _, Nat.zero_le _⟩
  have hl : lv_has ls 5 [(0, .ref ah), (1, .ref a0), (2, .int x), (3, .int (nI q))] := hl
  rw [mm_RG_readPlan] at hM
  refine lv_iconst (v := (0 : Int32)) hx hb dd_RG_readPlan_0 (by decide) ?_
  refine lv_istore (lv' := [(4, .int (0 : Int32)), (0, .ref ah), (1, .ref a0), (2, .int x), (3, .int (nI q))]) hx hb dd_RG_readPlan_1 hl (by decide) rfl (fun ls hl => ?_)
  have lp3 : ∀ (k : Nat) (j : Nat) (ct : Nat → Int32) (th : Int32) (ls : Array Slot) (H : Heap) (locs : List Loc), j + k = n → mm_RG_readPlan_L3 x q fn fl k j ct th = res → lv_has ls 5 [(4, .int (nI j)), (0, .ref ah), (1, .ref a0), (2, .int x), (3, .int (nI q))] → va_P D cl_all (ws_RG K ah ac ar ap aq ax au ak a0 aw af az n fn lf rb gr ro sr sv up ct al th wr fl) H → va_D A (ws_RG K ah ac ar ap aq ax au ak a0 aw af az n fn lf rb gr ro sr sv up ct al th wr fl) → va_S A s.heap H locs → W p l e R s m av below meth c H locs 0 0 Q (F0 m 3 ls []) := by
    intro k
    induction k with
    | zero =>
      intro j ct th ls H locs hjk hM hl hP hD hS
      have hj0 : j = n := by omega
      subst j
      rw [mm_RG_readPlan_L3] at hM
      refine lv_iload hx hb dd_RG_readPlan_3 (lv_at hl 0 rfl) ?_
      refine lv_aload_n hx hb dd_RG_readPlan_5 rfl (lv_at hl 1 rfl) ?_
      refine ly_get (v := .ref ac) C hP 0 rfl uw_RG rfl 0 (by decide) wa_44 rfl dd_RG_readPlan_6 ?_
      refine ly_getN (v := .int (nI n)) C hP 1 rfl uw_Co rfl 0 (by decide) nw_1 rfl dd_RG_readPlan_9 ?_
      refine lv_icmp_ge (tgt := 43) hx hb dd_RG_readPlan_12 (by decide) (fun _ => ?_) (fun h => absurd (nI_le (a := n) (b := n) (by omega) (by omega)) h)
      refine lv_iconst (v := (1 : Int32)) hx hb dd_RG_readPlan_43 (by decide) ?_
      exact ret ((1 : Int32), ct, th) H locs 44 ls hM ly_z1 hS hP hD dd_RG_readPlan_44
    | succ k ih3 =>
      intro j ct th ls H locs hjk hM hl hP hD hS
      rw [mm_RG_readPlan_L3] at hM
      refine lv_iload hx hb dd_RG_readPlan_3 (lv_at hl 0 rfl) ?_
      refine lv_aload_n hx hb dd_RG_readPlan_5 rfl (lv_at hl 1 rfl) ?_
      refine ly_get (v := .ref ac) C hP 0 rfl uw_RG rfl 0 (by decide) wa_44 rfl dd_RG_readPlan_6 ?_
      refine ly_getN (v := .int (nI n)) C hP 1 rfl uw_Co rfl 0 (by decide) nw_1 rfl dd_RG_readPlan_9 ?_
      refine lv_icmp_ge (tgt := 43) hx hb dd_RG_readPlan_12 (by decide) (fun h => absurd h (nI_ge (a := j) (b := n) (by omega) (by omega))) (fun _ => ?_)
      refine lv_iload_n hx hb dd_RG_readPlan_15 rfl (lv_at hl 3 rfl) ?_
      refine lv_iload hx hb dd_RG_readPlan_16 (lv_at hl 0 rfl) ?_
      obtain ⟨r_18, hq18⟩ : ∃ z, z = mm_RG_isIn x j := ⟨_, rfl⟩
      try rw [← hq18] at hM
      refine ly_cS_i (n := 2) (z := r_18) (rest := []) (wn := (ws_RG K ah ac ar ap aq ax au ak a0 aw af az n fn lf rb gr ro sr sv up ct al th wr fl)) C (cc_RG_isIn D K x j) hq18 wa_195 wa_166 wa_62 wa_167 (by decide) (Nat.le_trans (by decide) hRf) (Nat.le_trans (by decide) hRl) rfl hl.1 rfl (Nat.le_of_ble_eq_true rfl) dd_RG_readPlan_18 hcs [] [0, 1, 2, 3, 4, 5, 6, 7, 8, 9, 10] [0, 1, 2, 3, 4, 5, 6, 7, 8, 9, 10] hP hD hS rfl rfl (by decide) rfl (fun H locs hP hD hS => ?_)
      refine W.eq (g2 := F0 m 21 ls [.int r_18]) rfl ?_
      refine lv_if_eq (tgt := 37) hx hb dd_RG_readPlan_21 (by decide) (fun h21 => ?_) (fun h21 => ?_)
      · rw [if_pos h21] at hM
        refine lv_iinc (k := 0) (v := (nI (j + 1))) (lv' := [(4, .int (nI (j + 1))), (0, .ref ah), (1, .ref a0), (2, .int x), (3, .int (nI q))]) hx hb dd_RG_readPlan_37 hl rfl (ly_incN _) (by decide) rfl (fun ls hl => ?_)
        refine lv_goto (tgt := 3) hx hb dd_RG_readPlan_40 (by decide) ?_
        exact ih3 (j + 1) ct th ls H locs (by omega) hM (lv_sub hl [0, 1, 2, 3, 4] rfl) hP hD hS
      · rw [if_neg h21] at hM
        refine lv_aload_n hx hb dd_RG_readPlan_24 rfl (lv_at hl 1 rfl) ?_
        refine lv_aload_n hx hb dd_RG_readPlan_25 rfl (lv_at hl 2 rfl) ?_
        refine lv_iload hx hb dd_RG_readPlan_26 (lv_at hl 0 rfl) ?_
        refine lv_iload_n hx hb dd_RG_readPlan_28 rfl (lv_at hl 4 rfl) ?_
        obtain ⟨⟨r_29, ct_29, th_29⟩, hq29⟩ : ∃ z, z = mm_RG_readShardFor j q fn ct th fl := ⟨_, rfl⟩
        try rw [← hq29] at hM
        try dsimp only at hM
        refine ly_cV_i (n := 3) (z := (r_29, ct_29, th_29)) (rest := []) (wn := (ws_RG K ah ac ar ap aq ax au ak a0 aw af az n fn lf rb gr ro sr sv up ct_29 al th_29 wr fl)) C (cc_RG_readShardFor D K ah ac ar ap aq ax au ak a0 aw af az j q n fn lf rb gr ro sr sv up ct al th wr fl (by omega) (by omega) (by omega) (by omega) (by omega)) hq29 wa_142 wa_151 wa_62 wa_152 wa_153 (by decide) (Nat.le_trans (by decide) hRf) (Nat.le_trans (by decide) hRl) rfl hl.1 rfl (Nat.le_of_ble_eq_true rfl) dd_RG_readPlan_29 hcs [0, 1, 2, 3, 4, 5, 6, 7, 8, 9, 10] [] [0, 1, 2, 3, 4, 5, 6, 7, 8, 9, 10] hP hD hS rfl rfl (by decide) rfl rfl rfl (fun H locs hP hD hS => ?_)
        refine W.eq (g2 := F0 m 32 ls [.int r_29]) rfl ?_
        refine lv_if_ne (tgt := 37) hx hb dd_RG_readPlan_32 (by decide) (fun h32 => ?_) (fun h32 => ?_)
        · rw [if_neg h32] at hM
          refine lv_iinc (k := 0) (v := (nI (j + 1))) (lv' := [(4, .int (nI (j + 1))), (0, .ref ah), (1, .ref a0), (2, .int x), (3, .int (nI q))]) hx hb dd_RG_readPlan_37 hl rfl (ly_incN _) (by decide) rfl (fun ls hl => ?_)
          refine lv_goto (tgt := 3) hx hb dd_RG_readPlan_40 (by decide) ?_
          exact ih3 (j + 1) ct_29 th_29 ls H locs (by omega) hM (lv_sub hl [0, 1, 2, 3, 4] rfl) hP hD hS
        · rw [if_pos h32] at hM
          refine lv_iconst (v := (0 : Int32)) hx hb dd_RG_readPlan_35 (by decide) ?_
          exact ret ((0 : Int32), ct_29, th_29) H locs 36 ls hM ly_z0 hS hP hD dd_RG_readPlan_36
  exact lp3 n 0 ct th ls H locs (by omega) hM (lv_sub hl [0, 1, 2, 3, 4] rfl) hP hD hS

def mm_RG_decode_L10 (x : Int32) (i : Nat) (ro : Nat → Int64) (wr : Nat → Int64) (fl : Nat → Int64) : Nat → Nat → (Nat → Int64) → (Nat → Int64) → Int64 × (Nat → Int64) × (Nat → Int64)
  | 0, j, sr, sv => ((mm_Sp_valueOf (ro i) sr sv), sr, sv)
  | k + 1, j, sr, sv => (if (mm_RG_isIn x j) = (0 : Int32) then (mm_RG_decode_L10 x i ro wr fl k (j + 1) sr sv) else (match mm_Sp_take (ro j) (mm_Sq_held j wr fl) sr sv with | (r_51, sr_51, sv_51) => (mm_RG_decode_L10 x i ro wr fl k (j + 1) sr_51 sv_51)))
def mm_RG_decode (x : Int32) (i : Nat) (n : Nat) (ro : Nat → Int64) (sr : Nat → Int64) (sv : Nat → Int64) (wr : Nat → Int64) (fl : Nat → Int64) : Int64 × (Nat → Int64) × (Nat → Int64) := (match mm_Sp_clear sr sv with | (sr_4, sv_4) => (mm_RG_decode_L10 x i ro wr fl n 0 sr_4 sv_4))
set_option maxHeartbeats 4000000 in
set_option maxRecDepth 100000 in
theorem cc_RG_decode {l : Launch} (D : va_G) (K : Nat → ClassId) (ah ac ar ap aq ax au ak a0 aw af az : Nat) (x : Int32) (i : Nat) (n : Nat) (fn : Nat) (lf : Int64) (rb : Int64) (gr : Int32) (ro : Nat → Int64) (sr : Nat → Int64) (sv : Nat → Int64) (up : Nat → Int32) (ct : Nat → Int32) (al : Int32) (th : Int32) (wr : Nat → Int64) (fl : Nat → Int64) (hi : i < n) (hn : n ≤ 11) (hn6 : 6 ≤ n) (hfn : fn ≤ 10) : ly_l l yy_RG_decode bb_RG_decode 5 (some .long) 3 85 D K [.ref ah, .ref a0, .int x, .int (nI i)] (ws_RG K ah ac ar ap aq ax au ak a0 aw af az n fn lf rb gr ro sr sv up ct al th wr fl) (fun z => z.1) (fun z => (ws_RG K ah ac ar ap aq ax au ak a0 aw af az n fn lf rb gr ro (z.2.1) (z.2.2) up ct al th wr fl)) (mm_RG_decode x i n ro sr sv wr fl) := by
  refine ly_entL (by decide) (Nat.le_of_ble_eq_true rfl) ?_
  intro p e s m av below meth c A ls R Q H locs res hM C hRf hRl hS hP hD hl ret
  obtain ⟨hx, hb, -⟩ := id C
  have hcs : 0 ≤ R.cells ∧ 0 ≤ R.slots := ⟨Nat.zero_le _, Nat.zero_le _⟩
  have hl : lv_has ls 5 [(0, .ref ah), (1, .ref a0), (2, .int x), (3, .int (nI i))] := hl
  rw [mm_RG_decode] at hM
  refine lv_aload_n hx hb dd_RG_decode_0 rfl (lv_at hl 0 rfl) ?_
  refine ly_get (v := .ref ap) C hP 0 rfl uw_RG rfl 1 (by decide) wa_49 rfl dd_RG_decode_1 ?_
  obtain ⟨⟨sr_4, sv_4⟩, hq4⟩ : ∃ z, z = mm_Sp_clear sr sv := ⟨_, rfl⟩
  try rw [← hq4] at hM
  try dsimp only at hM
  refine ly_cV_v (n := 0) (z := (sr_4, sv_4)) (rest := []) (wn := (ws_RG K ah ac ar ap aq ax au ak a0 aw af az n fn lf rb gr ro sr_4 sv_4 up ct al th wr fl)) C (cc_Sp_clear D K ap aq ax sr sv) hq4 wa_230 wa_169 wa_47 wa_170 wa_171 (by decide) (Nat.le_trans (by decide) hRf) (Nat.le_trans (by decide) hRl) rfl hl.1 rfl (Nat.le_of_ble_eq_true rfl) dd_RG_decode_4 hcs [3, 4, 5] [0, 1, 2, 6, 7, 8, 9, 10] [0, 1, 2, 8, 9, 10, 3, 4, 5, 6, 7] hP hD hS rfl rfl (by decide) rfl rfl rfl (fun H locs hP hD hS => ?_)
  refine W.eq (g2 := F0 m 7 ls []) rfl ?_
  refine lv_iconst (v := (0 : Int32)) hx hb dd_RG_decode_7 (by decide) ?_
  refine lv_istore (lv' := [(4, .int (0 : Int32)), (0, .ref ah), (1, .ref a0), (2, .int x), (3, .int (nI i))]) hx hb dd_RG_decode_8 hl (by decide) rfl (fun ls hl => ?_)
  have lp10 : ∀ (k : Nat) (j : Nat) (sr : Nat → Int64) (sv : Nat → Int64) (ls : Array Slot) (H : Heap) (locs : List Loc), j + k = n → mm_RG_decode_L10 x i ro wr fl k j sr sv = res → lv_has ls 5 [(4, .int (nI j)), (0, .ref ah), (1, .ref a0), (2, .int x), (3, .int (nI i))] → va_P D cl_all (ws_RG K ah ac ar ap aq ax au ak a0 aw af az n fn lf rb gr ro sr sv up ct al th wr fl) H → va_D A (ws_RG K ah ac ar ap aq ax au ak a0 aw af az n fn lf rb gr ro sr sv up ct al th wr fl) → va_S A s.heap H locs → W p l e R s m av below meth c H locs 0 0 Q (F0 m 10 ls []) := by
    intro k
    induction k with
    | zero =>
      intro j sr sv ls H locs hjk hM hl hP hD hS
      have hj0 : j = n := by omega
      subst j
      rw [mm_RG_decode_L10] at hM
      refine lv_iload hx hb dd_RG_decode_10 (lv_at hl 0 rfl) ?_
      refine lv_aload_n hx hb dd_RG_decode_12 rfl (lv_at hl 1 rfl) ?_
      refine ly_get (v := .ref ac) C hP 0 rfl uw_RG rfl 0 (by decide) wa_44 rfl dd_RG_decode_13 ?_
      refine ly_getN (v := .int (nI n)) C hP 1 rfl uw_Co rfl 0 (by decide) nw_1 rfl dd_RG_decode_16 ?_
      refine lv_icmp_ge (tgt := 61) hx hb dd_RG_decode_19 (by decide) (fun _ => ?_) (fun h => absurd (nI_le (a := n) (b := n) (by omega) (by omega)) h)
      refine lv_aload_n hx hb dd_RG_decode_61 rfl (lv_at hl 1 rfl) ?_
      refine ly_get (v := .ref ap) C hP 0 rfl uw_RG rfl 1 (by decide) wa_49 rfl dd_RG_decode_62 ?_
      refine lv_aload_n hx hb dd_RG_decode_65 rfl (lv_at hl 1 rfl) ?_
      refine ly_get (v := .ref ac) C hP 0 rfl uw_RG rfl 0 (by decide) wa_44 rfl dd_RG_decode_66 ?_
      refine ly_getN (v := .ref ar) C hP 1 rfl uw_Co rfl 1 (by decide) nw_2 rfl dd_RG_decode_69 ?_
      refine lv_iload_n hx hb dd_RG_decode_72 rfl (lv_at hl 4 rfl) ?_
      refine ly_lald C hP 2 rfl i rfl (by omega) (by omega) dd_RG_decode_73 ?_
      obtain ⟨r_74, hq74⟩ : ∃ z, z = mm_Sp_valueOf (ro i) sr sv := ⟨_, rfl⟩
      try rw [← hq74] at hM
      refine ly_cV_l (n := 1) (z := r_74) (rest := []) (wn := (ws_RG K ah ac ar ap aq ax au ak a0 aw af az n fn lf rb gr ro sr sv up ct al th wr fl)) C (cc_Sp_valueOf D K ap aq ax (ro i) sr sv) hq74 wa_235 wa_175 wa_47 wa_176 wa_177 (by decide) (Nat.le_trans (by decide) hRf) (Nat.le_trans (by decide) hRl) rfl hl.1 rfl (Nat.le_of_ble_eq_true rfl) dd_RG_decode_74 hcs [3, 4, 5] [0, 1, 2, 6, 7, 8, 9, 10] [0, 1, 2, 8, 9, 10, 3, 4, 5, 6, 7] hP hD hS rfl rfl (by decide) rfl rfl rfl (fun H locs hP hD hS => ?_)
      refine W.eq (g2 := F0 m 77 ls [.long r_74]) rfl ?_
      exact ret (r_74, sr, sv) H locs 77 ls hM hS hP hD dd_RG_decode_77
    | succ k ih10 =>
      intro j sr sv ls H locs hjk hM hl hP hD hS
      rw [mm_RG_decode_L10] at hM
      refine lv_iload hx hb dd_RG_decode_10 (lv_at hl 0 rfl) ?_
      refine lv_aload_n hx hb dd_RG_decode_12 rfl (lv_at hl 1 rfl) ?_
      refine ly_get (v := .ref ac) C hP 0 rfl uw_RG rfl 0 (by decide) wa_44 rfl dd_RG_decode_13 ?_
      refine ly_getN (v := .int (nI n)) C hP 1 rfl uw_Co rfl 0 (by decide) nw_1 rfl dd_RG_decode_16 ?_
      refine lv_icmp_ge (tgt := 61) hx hb dd_RG_decode_19 (by decide) (fun h => absurd h (nI_ge (a := j) (b := n) (by omega) (by omega))) (fun _ => ?_)
      refine lv_iload_n hx hb dd_RG_decode_22 rfl (lv_at hl 3 rfl) ?_
      refine lv_iload hx hb dd_RG_decode_23 (lv_at hl 0 rfl) ?_
      obtain ⟨r_25, hq25⟩ : ∃ z, z = mm_RG_isIn x j := ⟨_, rfl⟩
      try rw [← hq25] at hM
      refine ly_cS_i (n := 2) (z := r_25) (rest := []) (wn := (ws_RG K ah ac ar ap aq ax au ak a0 aw af az n fn lf rb gr ro sr sv up ct al th wr fl)) C (cc_RG_isIn D K x j) hq25 wa_195 wa_166 wa_62 wa_167 (by decide) (Nat.le_trans (by decide) hRf) (Nat.le_trans (by decide) hRl) rfl hl.1 rfl (Nat.le_of_ble_eq_true rfl) dd_RG_decode_25 hcs [] [0, 1, 2, 3, 4, 5, 6, 7, 8, 9, 10] [0, 1, 2, 3, 4, 5, 6, 7, 8, 9, 10] hP hD hS rfl rfl (by decide) rfl (fun H locs hP hD hS => ?_)
      refine W.eq (g2 := F0 m 28 ls [.int r_25]) rfl ?_
      refine lv_if_eq (tgt := 55) hx hb dd_RG_decode_28 (by decide) (fun h28 => ?_) (fun h28 => ?_)
      · rw [if_pos h28] at hM
        refine lv_iinc (k := 0) (v := (nI (j + 1))) (lv' := [(4, .int (nI (j + 1))), (0, .ref ah), (1, .ref a0), (2, .int x), (3, .int (nI i))]) hx hb dd_RG_decode_55 hl rfl (ly_incN _) (by decide) rfl (fun ls hl => ?_)
        refine lv_goto (tgt := 10) hx hb dd_RG_decode_58 (by decide) ?_
        exact ih10 (j + 1) sr sv ls H locs (by omega) hM (lv_sub hl [0, 1, 2, 3, 4] rfl) hP hD hS
      · rw [if_neg h28] at hM
        refine lv_aload_n hx hb dd_RG_decode_31 rfl (lv_at hl 1 rfl) ?_
        refine ly_get (v := .ref ap) C hP 0 rfl uw_RG rfl 1 (by decide) wa_49 rfl dd_RG_decode_32 ?_
        refine lv_aload_n hx hb dd_RG_decode_35 rfl (lv_at hl 1 rfl) ?_
        refine ly_get (v := .ref ac) C hP 0 rfl uw_RG rfl 0 (by decide) wa_44 rfl dd_RG_decode_36 ?_
        refine ly_getN (v := .ref ar) C hP 1 rfl uw_Co rfl 1 (by decide) nw_2 rfl dd_RG_decode_39 ?_
        refine lv_iload hx hb dd_RG_decode_42 (lv_at hl 0 rfl) ?_
        refine ly_lald C hP 2 rfl j rfl (by omega) (by omega) dd_RG_decode_44 ?_
        refine lv_aload_n hx hb dd_RG_decode_45 rfl (lv_at hl 2 rfl) ?_
        refine lv_iload hx hb dd_RG_decode_46 (lv_at hl 0 rfl) ?_
        obtain ⟨r_48, hq48⟩ : ∃ z, z = mm_Sq_held j wr fl := ⟨_, rfl⟩
        try rw [← hq48] at hM
        refine ly_cV_l (n := 1) (z := r_48) (rest := [.long (ro j), .ref ap]) (wn := (ws_RG K ah ac ar ap aq ax au ak a0 aw af az n fn lf rb gr ro sr sv up ct al th wr fl)) C (cc_Sq_held D K a0 aw af j n fn al th wr fl (by omega) (by omega) (by omega)) hq48 wa_247 wa_70 wa_53 wa_71 wa_72 (by decide) (Nat.le_trans (by decide) hRf) (Nat.le_trans (by decide) hRl) rfl hl.1 rfl (Nat.le_of_ble_eq_true rfl) dd_RG_decode_48 hcs [8, 9, 10] [0, 1, 2, 3, 4, 5, 6, 7] [0, 1, 2, 3, 4, 5, 6, 7, 8, 9, 10] hP hD hS rfl rfl (by decide) rfl rfl rfl (fun H locs hP hD hS => ?_)
        refine W.eq (g2 := F0 m 51 ls [.long r_48, .long (ro j), .ref ap]) rfl ?_
        obtain ⟨⟨r_51, sr_51, sv_51⟩, hq51⟩ : ∃ z, z = mm_Sp_take (ro j) r_48 sr sv := ⟨_, rfl⟩
        try rw [← hq51] at hM
        try dsimp only at hM
        refine ly_cV_i (n := 2) (z := (r_51, sr_51, sv_51)) (rest := []) (wn := (ws_RG K ah ac ar ap aq ax au ak a0 aw af az n fn lf rb gr ro sr_51 sv_51 up ct al th wr fl)) C (cc_Sp_take D K ap aq ax (ro j) r_48 sr sv) hq51 wa_231 wa_172 wa_47 wa_173 wa_174 (by decide) (Nat.le_trans (by decide) hRf) (Nat.le_trans (by decide) hRl) rfl hl.1 rfl (Nat.le_of_ble_eq_true rfl) dd_RG_decode_51 hcs [3, 4, 5] [0, 1, 2, 6, 7, 8, 9, 10] [0, 1, 2, 8, 9, 10, 3, 4, 5, 6, 7] hP hD hS rfl rfl (by decide) rfl rfl rfl (fun H locs hP hD hS => ?_)
        refine W.eq (g2 := F0 m 54 ls [.int r_51]) rfl ?_
        refine lv_pop hx hb dd_RG_decode_54 rfl ?_
        refine lv_iinc (k := 0) (v := (nI (j + 1))) (lv' := [(4, .int (nI (j + 1))), (0, .ref ah), (1, .ref a0), (2, .int x), (3, .int (nI i))]) hx hb dd_RG_decode_55 hl rfl (ly_incN _) (by decide) rfl (fun ls hl => ?_)
        refine lv_goto (tgt := 10) hx hb dd_RG_decode_58 (by decide) ?_
        exact ih10 (j + 1) sr_51 sv_51 ls H locs (by omega) hM (lv_sub hl [0, 1, 2, 3, 4] rfl) hP hD hS
  exact lp10 n 0 sr_4 sv_4 ls H locs (by omega) hM (lv_sub hl [0, 1, 2, 3, 4] rfl) hP hD hS

def mm_RG_followPlans_L2 (i : Nat) (n : Nat) (fn : Nat) (rb : Int64) (gr : Int32) (ro : Nat → Int64) (al : Int32) (wr : Nat → Int64) (fl : Nat → Int64) : Nat → Nat → (Nat → Int64) → (Nat → Int64) → (Nat → Int32) → (Int32) → Int32 × (Int64) × (Nat → Int64) × (Nat → Int64) × (Nat → Int32) × (Int32)
  | 0, j, sr, sv, ct, th => ((-4 : Int32), rb, sr, sv, ct, th)
  | k + 1, j, sr, sv, ct, th => (match mm_RG_choosePlan i n gr ro sr sv al th with | (r_11, sr_11, sv_11) => (if r_11 = (0 : Int32) then ((-4 : Int32), rb, sr_11, sv_11, ct, th) else (match mm_RG_readPlan r_11 i n fn (upd ct 3 ((ct 3) + (1 : Int32))) th fl with | (r_39, ct_39, th_39) => (if r_39 = (0 : Int32) then (mm_RG_followPlans_L2 i n fn rb gr ro al wr fl k (j + 1) sr_11 sv_11 ct_39 th_39) else (match mm_RG_decode r_11 i n ro sr_11 sv_11 wr fl with | (r_51, sr_51, sv_51) => ((nI j), r_51, sr_51, sv_51, ct_39, th_39))))))
def mm_RG_followPlans (i : Nat) (n : Nat) (fn : Nat) (rb : Int64) (gr : Int32) (ro : Nat → Int64) (sr : Nat → Int64) (sv : Nat → Int64) (ct : Nat → Int32) (al : Int32) (th : Int32) (wr : Nat → Int64) (fl : Nat → Int64) : Int32 × (Int64) × (Nat → Int64) × (Nat → Int64) × (Nat → Int32) × (Int32) := (mm_RG_followPlans_L2 i n fn rb gr ro al wr fl 32 1 sr sv ct th)
set_option maxHeartbeats 4000000 in
set_option maxRecDepth 100000 in
theorem cc_RG_followPlans {l : Launch} (D : va_G) (K : Nat → ClassId) (ah ac ar ap aq ax au ak a0 aw af az : Nat) (i : Nat) (n : Nat) (fn : Nat) (lf : Int64) (rb : Int64) (gr : Int32) (ro : Nat → Int64) (sr : Nat → Int64) (sv : Nat → Int64) (up : Nat → Int32) (ct : Nat → Int32) (al : Int32) (th : Int32) (wr : Nat → Int64) (fl : Nat → Int64) (hi : i < n) (hn : n ≤ 11) (hn6 : 6 ≤ n) (hfn : fn ≤ 10) : ly_i l yy_RG_followPlans bb_RG_followPlans 5 (some .int) 5 131 D K [.ref ah, .ref a0, .int (nI i)] (ws_RG K ah ac ar ap aq ax au ak a0 aw af az n fn lf rb gr ro sr sv up ct al th wr fl) (fun z => z.1) (fun z => (ws_RG K ah ac ar ap aq ax au ak a0 aw af az n fn lf (z.2.1) gr ro (z.2.2.1) (z.2.2.2.1) up (z.2.2.2.2.1) al (z.2.2.2.2.2) wr fl)) (mm_RG_followPlans i n fn rb gr ro sr sv ct al th wr fl) := by
  refine ly_entI (by decide) (Nat.le_of_ble_eq_true rfl) ?_
  intro p e s m av below meth c A ls R Q H locs res hM C hRf hRl hS hP hD hl ret
  obtain ⟨hx, hb, -⟩ := id C
  have hcs : 0 ≤ R.cells ∧ 0 ≤ R.slots := ⟨Nat.zero_le _, Nat.zero_le _⟩
  have hl : lv_has ls 5 [(0, .ref ah), (1, .ref a0), (2, .int (nI i))] := hl
  rw [mm_RG_followPlans] at hM
  refine lv_iconst (v := (1 : Int32)) hx hb dd_RG_followPlans_0 (by decide) ?_
  refine lv_istore_n (lv' := [(3, .int (1 : Int32)), (0, .ref ah), (1, .ref a0), (2, .int (nI i))]) hx hb dd_RG_followPlans_1 rfl hl (by decide) rfl (fun ls hl => ?_)
  have lp2 : ∀ (k : Nat) (j : Nat) (sr : Nat → Int64) (sv : Nat → Int64) (ct : Nat → Int32) (th : Int32) (ls : Array Slot) (H : Heap) (locs : List Loc), j + k = 33 → mm_RG_followPlans_L2 i n fn rb gr ro al wr fl k j sr sv ct th = res → lv_has ls 5 [(3, .int (nI j)), (0, .ref ah), (1, .ref a0), (2, .int (nI i))] → va_P D cl_all (ws_RG K ah ac ar ap aq ax au ak a0 aw af az n fn lf rb gr ro sr sv up ct al th wr fl) H → va_D A (ws_RG K ah ac ar ap aq ax au ak a0 aw af az n fn lf rb gr ro sr sv up ct al th wr fl) → va_S A s.heap H locs → W p l e R s m av below meth c H locs 0 0 Q (F0 m 2 ls []) := by
    intro k
    induction k with
    | zero =>
      intro j sr sv ct th ls H locs hjk hM hl hP hD hS
      have hj0 : j = 33 := by omega
      subst j
      rw [mm_RG_followPlans_L2] at hM
      refine lv_iload_n hx hb dd_RG_followPlans_2 rfl (lv_at hl 0 rfl) ?_
      refine lv_bipush (v := (32 : Int32)) hx hb dd_RG_followPlans_3 (by decide) ?_
      refine lv_icmp_gt (tgt := 65) hx hb dd_RG_followPlans_5 (by decide) (fun _ => ?_) (fun h => absurd (nI_lt (a := 32) (b := 33) (by omega) (by omega)) h)
      refine lv_bipush (v := (-4 : Int32)) hx hb dd_RG_followPlans_65 (by decide) ?_
      exact ret ((-4 : Int32), rb, sr, sv, ct, th) H locs 67 ls hM rfl hS hP hD dd_RG_followPlans_67
    | succ k ih2 =>
      intro j sr sv ct th ls H locs hjk hM hl hP hD hS
      rw [mm_RG_followPlans_L2] at hM
      refine lv_iload_n hx hb dd_RG_followPlans_2 rfl (lv_at hl 0 rfl) ?_
      refine lv_bipush (v := (32 : Int32)) hx hb dd_RG_followPlans_3 (by decide) ?_
      refine lv_icmp_gt (tgt := 65) hx hb dd_RG_followPlans_5 (by decide) (fun h => absurd h (nI_nlt (a := 32) (b := j) (by omega) (by omega))) (fun _ => ?_)
      refine lv_aload_n hx hb dd_RG_followPlans_8 rfl (lv_at hl 1 rfl) ?_
      refine lv_aload_n hx hb dd_RG_followPlans_9 rfl (lv_at hl 2 rfl) ?_
      refine lv_iload_n hx hb dd_RG_followPlans_10 rfl (lv_at hl 3 rfl) ?_
      obtain ⟨⟨r_11, sr_11, sv_11⟩, hq11⟩ : ∃ z, z = mm_RG_choosePlan i n gr ro sr sv al th := ⟨_, rfl⟩
      try rw [← hq11] at hM
      try dsimp only at hM
      refine ly_cV_i (n := 2) (z := (r_11, sr_11, sv_11)) (rest := []) (wn := (ws_RG K ah ac ar ap aq ax au ak a0 aw af az n fn lf rb gr ro sr_11 sv_11 up ct al th wr fl)) C (cc_RG_choosePlan D K ah ac ar ap aq ax au ak a0 aw af az i n fn lf rb gr ro sr sv up ct al th wr fl (by omega) (by omega) (by omega) (by omega)) hq11 wa_178 wa_113 wa_62 wa_114 wa_115 (by decide) (Nat.le_trans (by decide) hRf) (Nat.le_trans (by decide) hRl) rfl hl.1 rfl (Nat.le_of_ble_eq_true rfl) dd_RG_followPlans_11 hcs [0, 1, 2, 3, 4, 5, 6, 7, 8, 9, 10] [] [0, 1, 2, 3, 4, 5, 6, 7, 8, 9, 10] hP hD hS rfl rfl (by decide) rfl rfl rfl (fun H locs hP hD hS => ?_)
      refine W.eq (g2 := F0 m 14 ls [.int r_11]) rfl ?_
      refine lv_istore (lv' := [(4, .int r_11), (3, .int (nI j)), (0, .ref ah), (1, .ref a0), (2, .int (nI i))]) hx hb dd_RG_followPlans_14 hl (by decide) rfl (fun ls hl => ?_)
      refine lv_iload hx hb dd_RG_followPlans_16 (lv_at hl 0 rfl) ?_
      refine lv_if_ne (tgt := 24) hx hb dd_RG_followPlans_18 (by decide) (fun h18 => ?_) (fun h18 => ?_)
      · rw [if_neg h18] at hM
        refine lv_aload_n hx hb dd_RG_followPlans_24 rfl (lv_at hl 2 rfl) ?_
        refine ly_get (v := .ref ak) C hP 0 rfl uw_RG rfl 4 (by decide) wa_59 rfl dd_RG_followPlans_25 ?_
        refine lv_iconst (v := (3 : Int32)) hx hb dd_RG_followPlans_28 (by decide) ?_
        refine lv_dup2_11 hx hb dd_RG_followPlans_29 rfl rfl ?_
        refine ly_iald C hP 7 rfl 3 rfl (by omega) (by omega) dd_RG_followPlans_30 ?_
        refine lv_iconst (v := (1 : Int32)) hx hb dd_RG_followPlans_31 (by decide) ?_
        refine lv_iadd hx hb dd_RG_followPlans_32 ?_
        refine ly_iast (ws' := (ws_RG K ah ac ar ap aq ax au ak a0 aw af az n fn lf rb gr ro sr_11 sv_11 up (upd ct 3 ((ct 3) + (1 : Int32))) al th wr fl)) C hP hD hS 7 rfl 3 rfl (by omega) (by omega) dd_RG_followPlans_33 rfl (fun H locs hP hD hS => ?_)
        refine lv_aload_n hx hb dd_RG_followPlans_34 rfl (lv_at hl 2 rfl) ?_
        refine lv_aload_n hx hb dd_RG_followPlans_35 rfl (lv_at hl 3 rfl) ?_
        refine lv_iload hx hb dd_RG_followPlans_36 (lv_at hl 0 rfl) ?_
        refine lv_iload_n hx hb dd_RG_followPlans_38 rfl (lv_at hl 4 rfl) ?_
        obtain ⟨⟨r_39, ct_39, th_39⟩, hq39⟩ : ∃ z, z = mm_RG_readPlan r_11 i n fn (upd ct 3 ((ct 3) + (1 : Int32))) th fl := ⟨_, rfl⟩
        try rw [← hq39] at hM
        try dsimp only at hM
        refine ly_cV_i (n := 3) (z := (r_39, ct_39, th_39)) (rest := []) (wn := (ws_RG K ah ac ar ap aq ax au ak a0 aw af az n fn lf rb gr ro sr_11 sv_11 up ct_39 al th_39 wr fl)) C (cc_RG_readPlan D K ah ac ar ap aq ax au ak a0 aw af az r_11 i n fn lf rb gr ro sr_11 sv_11 up (upd ct 3 ((ct 3) + (1 : Int32))) al th wr fl (by omega) (by omega) (by omega) (by omega)) hq39 wa_165 wa_159 wa_62 wa_160 wa_161 (by decide) (Nat.le_trans (by decide) hRf) (Nat.le_trans (by decide) hRl) rfl hl.1 rfl (Nat.le_of_ble_eq_true rfl) dd_RG_followPlans_39 hcs [0, 1, 2, 3, 4, 5, 6, 7, 8, 9, 10] [] [0, 1, 2, 3, 4, 5, 6, 7, 8, 9, 10] hP hD hS rfl rfl (by decide) rfl rfl rfl (fun H locs hP hD hS => ?_)
        refine W.eq (g2 := F0 m 42 ls [.int r_39]) rfl ?_
        refine lv_if_eq (tgt := 59) hx hb dd_RG_followPlans_42 (by decide) (fun h42 => ?_) (fun h42 => ?_)
        · rw [if_pos h42] at hM
          refine lv_iinc (k := 1) (v := (nI (j + 1))) (lv' := [(3, .int (nI (j + 1))), (4, .int r_11), (0, .ref ah), (1, .ref a0), (2, .int (nI i))]) hx hb dd_RG_followPlans_59 hl rfl (ly_incN _) (by decide) rfl (fun ls hl => ?_)
          refine lv_goto (tgt := 2) hx hb dd_RG_followPlans_62 (by decide) ?_
          exact ih2 (j + 1) sr_11 sv_11 ct_39 th_39 ls H locs (by omega) hM (lv_sub hl [0, 2, 3, 4] rfl) hP hD hS
        · rw [if_neg h42] at hM
          refine lv_aload_n hx hb dd_RG_followPlans_45 rfl (lv_at hl 2 rfl) ?_
          refine lv_aload_n hx hb dd_RG_followPlans_46 rfl (lv_at hl 2 rfl) ?_
          refine lv_aload_n hx hb dd_RG_followPlans_47 rfl (lv_at hl 3 rfl) ?_
          refine lv_iload hx hb dd_RG_followPlans_48 (lv_at hl 0 rfl) ?_
          refine lv_iload_n hx hb dd_RG_followPlans_50 rfl (lv_at hl 4 rfl) ?_
          obtain ⟨⟨r_51, sr_51, sv_51⟩, hq51⟩ : ∃ z, z = mm_RG_decode r_11 i n ro sr_11 sv_11 wr fl := ⟨_, rfl⟩
          try rw [← hq51] at hM
          try dsimp only at hM
          refine ly_cV_l (n := 3) (z := (r_51, sr_51, sv_51)) (rest := [.ref ah]) (wn := (ws_RG K ah ac ar ap aq ax au ak a0 aw af az n fn lf rb gr ro sr_51 sv_51 up ct_39 al th_39 wr fl)) C (cc_RG_decode D K ah ac ar ap aq ax au ak a0 aw af az r_11 i n fn lf rb gr ro sr_11 sv_11 up ct_39 al th_39 wr fl (by omega) (by omega) (by omega) (by omega)) hq51 wa_168 wa_162 wa_62 wa_163 wa_164 (by decide) (Nat.le_trans (by decide) hRf) (Nat.le_trans (by decide) hRl) rfl hl.1 rfl (Nat.le_of_ble_eq_true rfl) dd_RG_followPlans_51 hcs [0, 1, 2, 3, 4, 5, 6, 7, 8, 9, 10] [] [0, 1, 2, 3, 4, 5, 6, 7, 8, 9, 10] hP hD hS rfl rfl (by decide) rfl rfl rfl (fun H locs hP hD hS => ?_)
          refine W.eq (g2 := F0 m 54 ls [.long r_51, .ref ah]) rfl ?_
          refine ly_put (ws' := (ws_RG K ah ac ar ap aq ax au ak a0 aw af az n fn lf r_51 gr ro sr_51 sv_51 up ct_39 al th_39 wr fl)) C hP hD hS 0 rfl uw_RG tt_RG nn_RG rfl 6 (by decide) wa_87 rfl rfl rfl (Nat.le_of_ble_eq_true rfl) dd_RG_followPlans_54 rfl (fun H locs hP hD hS => ?_)
          refine lv_iload_n hx hb dd_RG_followPlans_57 rfl (lv_at hl 1 rfl) ?_
          exact ret ((nI j), r_51, sr_51, sv_51, ct_39, th_39) H locs 58 ls hM rfl hS hP hD dd_RG_followPlans_58
      · rw [if_pos h18] at hM
        refine lv_goto (tgt := 65) hx hb dd_RG_followPlans_21 (by decide) ?_
        refine lv_bipush (v := (-4 : Int32)) hx hb dd_RG_followPlans_65 (by decide) ?_
        exact ret ((-4 : Int32), rb, sr_11, sv_11, ct, th) H locs 67 ls hM rfl hS hP hD dd_RG_followPlans_67
  exact lp2 32 1 sr sv ct th ls H locs (by omega) hM (lv_sub hl [0, 1, 2, 3] rfl) hP hD hS

def mm_RG_rebuild (i : Nat) (n : Nat) (fn : Nat) (rb : Int64) (gr : Int32) (ro : Nat → Int64) (sr : Nat → Int64) (sv : Nat → Int64) (ct : Nat → Int32) (al : Int32) (th : Int32) (wr : Nat → Int64) (fl : Nat → Int64) : Int32 × (Int64) × (Nat → Int64) × (Nat → Int64) × (Nat → Int32) × (Int32) × (Nat → Int64) × (Nat → Int64) := (match mm_RG_followPlans i n fn rb gr ro sr sv ct al th wr fl with | (r_3, rb_3, sr_3, sv_3, ct_3, th_3) => (if r_3 < (0 : Int32) then (r_3, rb_3, sr_3, sv_3, ct_3, th_3, wr, fl) else (match mm_RG_writeShard i rb_3 ct_3 th_3 wr fl with | (ct_18, th_18, wr_18, fl_18) => (r_3, rb_3, sr_3, sv_3, ct_18, th_18, wr_18, fl_18))))
set_option maxHeartbeats 4000000 in
set_option maxRecDepth 100000 in
theorem cc_RG_rebuild {l : Launch} (D : va_G) (K : Nat → ClassId) (ah ac ar ap aq ax au ak a0 aw af az : Nat) (i : Nat) (n : Nat) (fn : Nat) (lf : Int64) (rb : Int64) (gr : Int32) (ro : Nat → Int64) (sr : Nat → Int64) (sv : Nat → Int64) (up : Nat → Int32) (ct : Nat → Int32) (al : Int32) (th : Int32) (wr : Nat → Int64) (fl : Nat → Int64) (hi : i < n) (hn : n ≤ 11) (hn6 : 6 ≤ n) (hfn : fn ≤ 10) : ly_i l yy_RG_rebuild bb_RG_rebuild 4 (some .int) 6 155 D K [.ref ah, .ref a0, .int (nI i)] (ws_RG K ah ac ar ap aq ax au ak a0 aw af az n fn lf rb gr ro sr sv up ct al th wr fl) (fun z => z.1) (fun z => (ws_RG K ah ac ar ap aq ax au ak a0 aw af az n fn lf (z.2.1) gr ro (z.2.2.1) (z.2.2.2.1) up (z.2.2.2.2.1) al (z.2.2.2.2.2.1) (z.2.2.2.2.2.2.1) (z.2.2.2.2.2.2.2))) (mm_RG_rebuild i n fn rb gr ro sr sv ct al th wr fl) := by
  refine ly_entI (by decide) (Nat.le_of_ble_eq_true rfl) ?_
  intro p e s m av below meth c A ls R Q H locs res hM C hRf hRl hS hP hD hl ret
  obtain ⟨hx, hb, -⟩ := id C
  have hcs : 0 ≤ R.cells ∧ 0 ≤ R.slots := ⟨Nat.zero_le _, Nat.zero_le _⟩
  have hl : lv_has ls 4 [(0, .ref ah), (1, .ref a0), (2, .int (nI i))] := hl
  rw [mm_RG_rebuild] at hM
  refine lv_aload_n hx hb dd_RG_rebuild_0 rfl (lv_at hl 0 rfl) ?_
  refine lv_aload_n hx hb dd_RG_rebuild_1 rfl (lv_at hl 1 rfl) ?_
  refine lv_iload_n hx hb dd_RG_rebuild_2 rfl (lv_at hl 2 rfl) ?_
  obtain ⟨⟨r_3, rb_3, sr_3, sv_3, ct_3, th_3⟩, hq3⟩ : ∃ z, z = mm_RG_followPlans i n fn rb gr ro sr sv ct al th wr fl := ⟨_, rfl⟩
  try rw [← hq3] at hM
  try dsimp only at hM
  refine ly_cV_i (n := 2) (z := (r_3, rb_3, sr_3, sv_3, ct_3, th_3)) (rest := []) (wn := (ws_RG K ah ac ar ap aq ax au ak a0 aw af az n fn lf rb_3 gr ro sr_3 sv_3 up ct_3 al th_3 wr fl)) C (cc_RG_followPlans D K ah ac ar ap aq ax au ak a0 aw af az i n fn lf rb gr ro sr sv up ct al th wr fl (by omega) (by omega) (by omega) (by omega)) hq3 wa_158 wa_84 wa_62 wa_85 wa_86 (by decide) (Nat.le_trans (by decide) hRf) (Nat.le_trans (by decide) hRl) rfl hl.1 rfl (Nat.le_of_ble_eq_true rfl) dd_RG_rebuild_3 hcs [0, 1, 2, 3, 4, 5, 6, 7, 8, 9, 10] [] [0, 1, 2, 3, 4, 5, 6, 7, 8, 9, 10] hP hD hS rfl rfl (by decide) rfl rfl rfl (fun H locs hP hD hS => ?_)
  refine W.eq (g2 := F0 m 6 ls [.int r_3]) rfl ?_
  refine lv_istore_n (lv' := [(3, .int r_3), (0, .ref ah), (1, .ref a0), (2, .int (nI i))]) hx hb dd_RG_rebuild_6 rfl hl (by decide) rfl (fun ls hl => ?_)
  refine lv_iload_n hx hb dd_RG_rebuild_7 rfl (lv_at hl 0 rfl) ?_
  refine lv_if_lt (tgt := 21) hx hb dd_RG_rebuild_8 (by decide) (fun h8 => ?_) (fun h8 => ?_)
  · rw [if_pos h8] at hM
    refine lv_iload_n hx hb dd_RG_rebuild_21 rfl (lv_at hl 0 rfl) ?_
    exact ret (r_3, rb_3, sr_3, sv_3, ct_3, th_3, wr, fl) H locs 22 ls hM rfl hS hP hD dd_RG_rebuild_22
  · rw [if_neg h8] at hM
    refine lv_aload_n hx hb dd_RG_rebuild_11 rfl (lv_at hl 1 rfl) ?_
    refine lv_aload_n hx hb dd_RG_rebuild_12 rfl (lv_at hl 2 rfl) ?_
    refine lv_iload_n hx hb dd_RG_rebuild_13 rfl (lv_at hl 3 rfl) ?_
    refine lv_aload_n hx hb dd_RG_rebuild_14 rfl (lv_at hl 1 rfl) ?_
    refine ly_get (v := .long rb_3) C hP 0 rfl uw_RG rfl 6 (by decide) wa_87 rfl dd_RG_rebuild_15 ?_
    obtain ⟨⟨ct_18, th_18, wr_18, fl_18⟩, hq18⟩ : ∃ z, z = mm_RG_writeShard i rb_3 ct_3 th_3 wr fl := ⟨_, rfl⟩
    try rw [← hq18] at hM
    try dsimp only at hM
    refine ly_cV_v (n := 3) (z := (ct_18, th_18, wr_18, fl_18)) (rest := []) (wn := (ws_RG K ah ac ar ap aq ax au ak a0 aw af az n fn lf rb_3 gr ro sr_3 sv_3 up ct_18 al th_18 wr_18 fl_18)) C (cc_RG_writeShard D K ah ac ar ap aq ax au ak a0 aw af az i rb_3 n fn lf rb_3 gr ro sr_3 sv_3 up ct_3 al th_3 wr fl (by omega) (by omega) (by omega) (by omega)) hq18 wa_143 wa_76 wa_62 wa_77 wa_78 (by decide) (Nat.le_trans (by decide) hRf) (Nat.le_trans (by decide) hRl) rfl hl.1 rfl (Nat.le_of_ble_eq_true rfl) dd_RG_rebuild_18 hcs [0, 1, 2, 3, 4, 5, 6, 7, 8, 9, 10] [] [0, 1, 2, 3, 4, 5, 6, 7, 8, 9, 10] hP hD hS rfl rfl (by decide) rfl rfl rfl (fun H locs hP hD hS => ?_)
    refine W.eq (g2 := F0 m 21 ls []) rfl ?_
    refine lv_iload_n hx hb dd_RG_rebuild_21 rfl (lv_at hl 0 rfl) ?_
    exact ret (r_3, rb_3, sr_3, sv_3, ct_18, th_18, wr_18, fl_18) H locs 22 ls hM rfl hS hP hD dd_RG_rebuild_22

def mm_RG_canBeWritten (i : Nat) (fn : Nat) (up : Nat → Int32) (th : Int32) : Int32 := (if (mm_Sq_isThere i th) = (0 : Int32) then (if (up ((fn + i) % 12)) = (0 : Int32) then (0 : Int32) else (1 : Int32)) else (0 : Int32))
set_option maxHeartbeats 4000000 in
set_option maxRecDepth 100000 in
theorem cc_RG_canBeWritten {l : Launch} (D : va_G) (K : Nat → ClassId) (ah ac ar ap aq ax au ak a0 aw af az : Nat) (i : Nat) (n : Nat) (fn : Nat) (lf : Int64) (rb : Int64) (gr : Int32) (ro : Nat → Int64) (sr : Nat → Int64) (sv : Nat → Int64) (up : Nat → Int32) (ct : Nat → Int32) (al : Int32) (th : Int32) (wr : Nat → Int64) (fl : Nat → Int64) (hi : i < n) (hn : n ≤ 11) (hn6 : 6 ≤ n) (hfn : fn ≤ 10) : ly_i l yy_RG_canBeWritten bb_RG_canBeWritten 3 (some .boolean) 2 42 D K [.ref ah, .ref a0, .int (nI i)] (ws_RG K ah ac ar ap aq ax au ak a0 aw af az n fn lf rb gr ro sr sv up ct al th wr fl) (fun z => z) (fun _ => (ws_RG K ah ac ar ap aq ax au ak a0 aw af az n fn lf rb gr ro sr sv up ct al th wr fl)) (mm_RG_canBeWritten i fn up th) := by
  refine ly_entI (by decide) (Nat.le_of_ble_eq_true rfl) ?_
  intro p e s m av below meth c A ls R Q H locs res hM C hRf hRl hS hP hD hl ret
  obtain ⟨hx, hb, -⟩ := id C
  have hcs : 0 ≤ R.cells ∧ 0 ≤ R.slots := ⟨Nat.zero_le _, Nat.zero_le _⟩
  have hl : lv_has ls 3 [(0, .ref ah), (1, .ref a0), (2, .int (nI i))] := hl
  rw [mm_RG_canBeWritten] at hM
  refine lv_aload_n hx hb dd_RG_canBeWritten_0 rfl (lv_at hl 1 rfl) ?_
  refine lv_iload_n hx hb dd_RG_canBeWritten_1 rfl (lv_at hl 2 rfl) ?_
  obtain ⟨r_2, hq2⟩ : ∃ z, z = mm_Sq_isThere i th := ⟨_, rfl⟩
  try rw [← hq2] at hM
  refine ly_cV_i (n := 1) (z := r_2) (rest := []) (wn := (ws_RG K ah ac ar ap aq ax au ak a0 aw af az n fn lf rb gr ro sr sv up ct al th wr fl)) C (cc_Sq_isThere D K a0 aw af i n fn al th wr fl (by omega) (by omega)) hq2 wa_244 wa_64 wa_53 wa_65 wa_66 (by decide) (Nat.le_trans (by decide) hRf) (Nat.le_trans (by decide) hRl) rfl hl.1 rfl (Nat.le_of_ble_eq_true rfl) dd_RG_canBeWritten_2 hcs [8, 9, 10] [0, 1, 2, 3, 4, 5, 6, 7] [0, 1, 2, 3, 4, 5, 6, 7, 8, 9, 10] hP hD hS rfl rfl (by decide) rfl rfl rfl (fun H locs hP hD hS => ?_)
  refine W.eq (g2 := F0 m 5 ls [.int r_2]) rfl ?_
  refine lv_if_ne (tgt := 25) hx hb dd_RG_canBeWritten_5 (by decide) (fun h5 => ?_) (fun h5 => ?_)
  · rw [if_neg h5] at hM
    refine lv_iconst (v := (0 : Int32)) hx hb dd_RG_canBeWritten_25 (by decide) ?_
    exact ret (0 : Int32) H locs 26 ls hM ly_z0 hS hP hD dd_RG_canBeWritten_26
  · rw [if_pos h5] at hM
    refine lv_aload_n hx hb dd_RG_canBeWritten_8 rfl (lv_at hl 0 rfl) ?_
    refine ly_get (v := .ref au) C hP 0 rfl uw_RG rfl 3 (by decide) wa_57 rfl dd_RG_canBeWritten_9 ?_
    refine lv_aload_n hx hb dd_RG_canBeWritten_12 rfl (lv_at hl 1 rfl) ?_
    refine lv_iload_n hx hb dd_RG_canBeWritten_13 rfl (lv_at hl 2 rfl) ?_
    refine ly_cV_i (n := 1) (z := (nI ((fn + i) % 12))) (rest := [.ref au]) (wn := (ws_RG K ah ac ar ap aq ax au ak a0 aw af az n fn lf rb gr ro sr sv up ct al th wr fl)) C (cc_Sq_nodeOf D K a0 aw af i n fn al th wr fl (by omega) (by omega) (by omega)) rfl wa_243 wa_101 wa_53 wa_102 wa_103 (by decide) (Nat.le_trans (by decide) hRf) (Nat.le_trans (by decide) hRl) rfl hl.1 rfl (Nat.le_of_ble_eq_true rfl) dd_RG_canBeWritten_14 hcs [8, 9, 10] [0, 1, 2, 3, 4, 5, 6, 7] [0, 1, 2, 3, 4, 5, 6, 7, 8, 9, 10] hP hD hS rfl rfl (by decide) rfl rfl rfl (fun H locs hP hD hS => ?_)
    refine W.eq (g2 := F0 m 17 ls [.int (nI ((fn + i) % 12)), .ref au]) rfl ?_
    refine ly_zald C hP 6 rfl ((fn + i) % 12) rfl (by omega) (by omega) dd_RG_canBeWritten_17 ?_
    refine lv_if_eq (tgt := 25) hx hb dd_RG_canBeWritten_18 (by decide) (fun h18 => ?_) (fun h18 => ?_)
    · rw [if_pos h18] at hM
      refine lv_iconst (v := (0 : Int32)) hx hb dd_RG_canBeWritten_25 (by decide) ?_
      exact ret (0 : Int32) H locs 26 ls hM ly_z0 hS hP hD dd_RG_canBeWritten_26
    · rw [if_neg h18] at hM
      refine lv_iconst (v := (1 : Int32)) hx hb dd_RG_canBeWritten_21 (by decide) ?_
      refine lv_goto (tgt := 26) hx hb dd_RG_canBeWritten_22 (by decide) ?_
      exact ret (1 : Int32) H locs 26 ls hM ly_z1 hS hP hD dd_RG_canBeWritten_26

def mm_RG_nextToMend_L35 (n : Nat) (fn : Nat) (gr : Int32) (ro : Nat → Int64) (sr : Nat → Int64) (sv : Nat → Int64) (up : Nat → Int32) (al : Int32) (th : Int32) (v2 : Int32) : Nat → Nat → Int32 × (Nat → Int64) × (Nat → Int64)
  | 0, j => (match mm_RG_independentShards n ro sr sv th with | (r_74, sr_74, sv_74) => (if (mm_RG_globalPlan r_74) = (0 : Int32) then ((-1 : Int32), sr_74, sv_74) else (v2, sr_74, sv_74)))
  | k + 1, j => (if (mm_RG_canBeWritten j fn up th) = (0 : Int32) then (mm_RG_nextToMend_L35 n fn gr ro sr sv up al th v2 k (j + 1)) else (if (mm_RG_localPlan j n gr al th) = (0 : Int32) then (mm_RG_nextToMend_L35 n fn gr ro sr sv up al th v2 k (j + 1)) else ((nI j), sr, sv)))
def mm_RG_nextToMend_L12 (n : Nat) (fn : Nat) (gr : Int32) (ro : Nat → Int64) (sr : Nat → Int64) (sv : Nat → Int64) (up : Nat → Int32) (al : Int32) (th : Int32) : Nat → (Int32) → Int32 × (Nat → Int64) × (Nat → Int64)
  | 0, v2 => (mm_RG_nextToMend_L35 n fn gr ro sr sv up al th v2 n 0)
  | k + 1, v2 => (if (mm_RG_canBeWritten k fn up th) = (0 : Int32) then (mm_RG_nextToMend_L12 n fn gr ro sr sv up al th k v2) else (mm_RG_nextToMend_L12 n fn gr ro sr sv up al th k (nI k)))
def mm_RG_nextToMend (n : Nat) (fn : Nat) (gr : Int32) (ro : Nat → Int64) (sr : Nat → Int64) (sv : Nat → Int64) (up : Nat → Int32) (al : Int32) (th : Int32) : Int32 × (Nat → Int64) × (Nat → Int64) := (mm_RG_nextToMend_L12 n fn gr ro sr sv up al th n (-1 : Int32))
set_option maxHeartbeats 4000000 in
set_option maxRecDepth 100000 in
theorem cc_RG_nextToMend {l : Launch} (D : va_G) (K : Nat → ClassId) (ah ac ar ap aq ax au ak a0 aw af az : Nat) (n : Nat) (fn : Nat) (lf : Int64) (rb : Int64) (gr : Int32) (ro : Nat → Int64) (sr : Nat → Int64) (sv : Nat → Int64) (up : Nat → Int32) (ct : Nat → Int32) (al : Int32) (th : Int32) (wr : Nat → Int64) (fl : Nat → Int64) (hn : n ≤ 11) (hn6 : 6 ≤ n) (hfn : fn ≤ 10) : ly_i l yy_RG_nextToMend bb_RG_nextToMend 4 (some .int) 4 108 D K [.ref ah, .ref a0] (ws_RG K ah ac ar ap aq ax au ak a0 aw af az n fn lf rb gr ro sr sv up ct al th wr fl) (fun z => z.1) (fun z => (ws_RG K ah ac ar ap aq ax au ak a0 aw af az n fn lf rb gr ro (z.2.1) (z.2.2) up ct al th wr fl)) (mm_RG_nextToMend n fn gr ro sr sv up al th) := by
  refine ly_entI (by decide) (Nat.le_of_ble_eq_true rfl) ?_
  intro p e s m av below meth c A ls R Q H locs res hM C hRf hRl hS hP hD hl ret
  obtain ⟨hx, hb, -⟩ := id C
  have hcs : 0 ≤ R.cells ∧ 0 ≤ R.slots := ⟨Nat.zero_le _, Nat.zero_le _⟩
  have hl : lv_has ls 4 [(0, .ref ah), (1, .ref a0)] := hl
  rw [mm_RG_nextToMend] at hM
  refine lv_iconst (v := (-1 : Int32)) hx hb dd_RG_nextToMend_0 (by decide) ?_
  refine lv_istore_n (lv' := [(2, .int (-1 : Int32)), (0, .ref ah), (1, .ref a0)]) hx hb dd_RG_nextToMend_1 rfl hl (by decide) rfl (fun ls hl => ?_)
  refine lv_aload_n hx hb dd_RG_nextToMend_2 rfl (lv_at hl 1 rfl) ?_
  refine ly_get (v := .ref ac) C hP 0 rfl uw_RG rfl 0 (by decide) wa_44 rfl dd_RG_nextToMend_3 ?_
  refine ly_getN (v := .int (nI n)) C hP 1 rfl uw_Co rfl 0 (by decide) nw_1 rfl dd_RG_nextToMend_6 ?_
  refine lv_iconst (v := (1 : Int32)) hx hb dd_RG_nextToMend_9 (by decide) ?_
  refine lv_isub hx hb dd_RG_nextToMend_10 ?_
  refine lv_istore_n (lv' := [(3, .int ((nI n) - (1 : Int32))), (2, .int (-1 : Int32)), (0, .ref ah), (1, .ref a0)]) hx hb dd_RG_nextToMend_11 rfl hl (by decide) rfl (fun ls hl => ?_)
  have lp12 : ∀ (k : Nat) (v2 : Int32) (ls : Array Slot) (H : Heap) (locs : List Loc), k ≤ n → mm_RG_nextToMend_L12 n fn gr ro sr sv up al th k v2 = res → lv_has ls 4 [(3, .int (nI k - 1)), (2, .int v2), (0, .ref ah), (1, .ref a0)] → va_P D cl_all (ws_RG K ah ac ar ap aq ax au ak a0 aw af az n fn lf rb gr ro sr sv up ct al th wr fl) H → va_D A (ws_RG K ah ac ar ap aq ax au ak a0 aw af az n fn lf rb gr ro sr sv up ct al th wr fl) → va_S A s.heap H locs → W p l e R s m av below meth c H locs 0 0 Q (F0 m 12 ls []) := by
    intro k
    induction k with
    | zero =>
      intro v2 ls H locs hkn hM hl hP hD hS
      rw [mm_RG_nextToMend_L12] at hM
      refine lv_iload_n hx hb dd_RG_nextToMend_12 rfl (lv_at hl 0 rfl) ?_
      refine lv_if_lt (tgt := 33) hx hb dd_RG_nextToMend_13 (by decide) (fun _ => ?_) (fun h => absurd (by decide) h)
      refine lv_iconst (v := (0 : Int32)) hx hb dd_RG_nextToMend_33 (by decide) ?_
      refine lv_istore_n (lv' := [(3, .int (0 : Int32)), (2, .int v2), (0, .ref ah), (1, .ref a0)]) hx hb dd_RG_nextToMend_34 rfl hl (by decide) rfl (fun ls hl => ?_)
      have lp35 : ∀ (k : Nat) (j : Nat) (ls : Array Slot) (H : Heap) (locs : List Loc), j + k = n → mm_RG_nextToMend_L35 n fn gr ro sr sv up al th v2 k j = res → lv_has ls 4 [(3, .int (nI j)), (2, .int v2), (0, .ref ah), (1, .ref a0)] → va_P D cl_all (ws_RG K ah ac ar ap aq ax au ak a0 aw af az n fn lf rb gr ro sr sv up ct al th wr fl) H → va_D A (ws_RG K ah ac ar ap aq ax au ak a0 aw af az n fn lf rb gr ro sr sv up ct al th wr fl) → va_S A s.heap H locs → W p l e R s m av below meth c H locs 0 0 Q (F0 m 35 ls []) := by
        intro k
        induction k with
        | zero =>
          intro j ls H locs hjk hM hl hP hD hS
          have hj0 : j = n := by omega
          subst j
          rw [mm_RG_nextToMend_L35] at hM
          refine lv_iload_n hx hb dd_RG_nextToMend_35 rfl (lv_at hl 0 rfl) ?_
          refine lv_aload_n hx hb dd_RG_nextToMend_36 rfl (lv_at hl 2 rfl) ?_
          refine ly_get (v := .ref ac) C hP 0 rfl uw_RG rfl 0 (by decide) wa_44 rfl dd_RG_nextToMend_37 ?_
          refine ly_getN (v := .int (nI n)) C hP 1 rfl uw_Co rfl 0 (by decide) nw_1 rfl dd_RG_nextToMend_40 ?_
          refine lv_icmp_ge (tgt := 72) hx hb dd_RG_nextToMend_43 (by decide) (fun _ => ?_) (fun h => absurd (nI_le (a := n) (b := n) (by omega) (by omega)) h)
          refine lv_aload_n hx hb dd_RG_nextToMend_72 rfl (lv_at hl 2 rfl) ?_
          refine lv_aload_n hx hb dd_RG_nextToMend_73 rfl (lv_at hl 3 rfl) ?_
          obtain ⟨⟨r_74, sr_74, sv_74⟩, hq74⟩ : ∃ z, z = mm_RG_independentShards n ro sr sv th := ⟨_, rfl⟩
          try rw [← hq74] at hM
          try dsimp only at hM
          refine ly_cV_i (n := 1) (z := (r_74, sr_74, sv_74)) (rest := []) (wn := (ws_RG K ah ac ar ap aq ax au ak a0 aw af az n fn lf rb gr ro sr_74 sv_74 up ct al th wr fl)) C (cc_RG_independentShards D K ah ac ar ap aq ax au ak a0 aw af az n fn lf rb gr ro sr sv up ct al th wr fl (by omega) (by omega) (by omega)) hq74 wa_189 wa_120 wa_62 wa_121 wa_122 (by decide) (Nat.le_trans (by decide) hRf) (Nat.le_trans (by decide) hRl) rfl hl.1 rfl (Nat.le_of_ble_eq_true rfl) dd_RG_nextToMend_74 hcs [0, 1, 2, 3, 4, 5, 6, 7, 8, 9, 10] [] [0, 1, 2, 3, 4, 5, 6, 7, 8, 9, 10] hP hD hS rfl rfl (by decide) rfl rfl rfl (fun H locs hP hD hS => ?_)
          refine W.eq (g2 := F0 m 77 ls [.int r_74]) rfl ?_
          obtain ⟨r_77, hq77⟩ : ∃ z, z = mm_RG_globalPlan r_74 := ⟨_, rfl⟩
          try rw [← hq77] at hM
          refine ly_cS_i (n := 1) (z := r_77) (rest := []) (wn := (ws_RG K ah ac ar ap aq ax au ak a0 aw af az n fn lf rb gr ro sr_74 sv_74 up ct al th wr fl)) C (cc_RG_globalPlan D K r_74) hq77 wa_188 wa_182 wa_62 wa_183 (by decide) (Nat.le_trans (by decide) hRf) (Nat.le_trans (by decide) hRl) rfl hl.1 rfl (Nat.le_of_ble_eq_true rfl) dd_RG_nextToMend_77 hcs [] [0, 1, 2, 3, 4, 5, 6, 7, 8, 9, 10] [0, 1, 2, 3, 4, 5, 6, 7, 8, 9, 10] hP hD hS rfl rfl (by decide) rfl (fun H locs hP hD hS => ?_)
          refine W.eq (g2 := F0 m 80 ls [.int r_77]) rfl ?_
          refine lv_if_ne (tgt := 87) hx hb dd_RG_nextToMend_80 (by decide) (fun h80 => ?_) (fun h80 => ?_)
          · rw [if_neg h80] at hM
            refine lv_iload_n hx hb dd_RG_nextToMend_87 rfl (lv_at hl 1 rfl) ?_
            exact ret (v2, sr_74, sv_74) H locs 88 ls hM rfl hS hP hD dd_RG_nextToMend_88
          · rw [if_pos h80] at hM
            refine lv_iconst (v := (-1 : Int32)) hx hb dd_RG_nextToMend_83 (by decide) ?_
            refine lv_goto (tgt := 88) hx hb dd_RG_nextToMend_84 (by decide) ?_
            exact ret ((-1 : Int32), sr_74, sv_74) H locs 88 ls hM rfl hS hP hD dd_RG_nextToMend_88
        | succ k ih35 =>
          intro j ls H locs hjk hM hl hP hD hS
          rw [mm_RG_nextToMend_L35] at hM
          refine lv_iload_n hx hb dd_RG_nextToMend_35 rfl (lv_at hl 0 rfl) ?_
          refine lv_aload_n hx hb dd_RG_nextToMend_36 rfl (lv_at hl 2 rfl) ?_
          refine ly_get (v := .ref ac) C hP 0 rfl uw_RG rfl 0 (by decide) wa_44 rfl dd_RG_nextToMend_37 ?_
          refine ly_getN (v := .int (nI n)) C hP 1 rfl uw_Co rfl 0 (by decide) nw_1 rfl dd_RG_nextToMend_40 ?_
          refine lv_icmp_ge (tgt := 72) hx hb dd_RG_nextToMend_43 (by decide) (fun h => absurd h (nI_ge (a := j) (b := n) (by omega) (by omega))) (fun _ => ?_)
          refine lv_aload_n hx hb dd_RG_nextToMend_46 rfl (lv_at hl 2 rfl) ?_
          refine lv_aload_n hx hb dd_RG_nextToMend_47 rfl (lv_at hl 3 rfl) ?_
          refine lv_iload_n hx hb dd_RG_nextToMend_48 rfl (lv_at hl 0 rfl) ?_
          obtain ⟨r_49, hq49⟩ : ∃ z, z = mm_RG_canBeWritten j fn up th := ⟨_, rfl⟩
          try rw [← hq49] at hM
          refine ly_cV_i (n := 2) (z := r_49) (rest := []) (wn := (ws_RG K ah ac ar ap aq ax au ak a0 aw af az n fn lf rb gr ro sr sv up ct al th wr fl)) C (cc_RG_canBeWritten D K ah ac ar ap aq ax au ak a0 aw af az j n fn lf rb gr ro sr sv up ct al th wr fl (by omega) (by omega) (by omega) (by omega)) hq49 wa_194 wa_191 wa_62 wa_192 wa_193 (by decide) (Nat.le_trans (by decide) hRf) (Nat.le_trans (by decide) hRl) rfl hl.1 rfl (Nat.le_of_ble_eq_true rfl) dd_RG_nextToMend_49 hcs [0, 1, 2, 3, 4, 5, 6, 7, 8, 9, 10] [] [0, 1, 2, 3, 4, 5, 6, 7, 8, 9, 10] hP hD hS rfl rfl (by decide) rfl rfl rfl (fun H locs hP hD hS => ?_)
          refine W.eq (g2 := F0 m 52 ls [.int r_49]) rfl ?_
          refine lv_if_eq (tgt := 66) hx hb dd_RG_nextToMend_52 (by decide) (fun h52 => ?_) (fun h52 => ?_)
          · rw [if_pos h52] at hM
            refine lv_iinc (k := 0) (v := (nI (j + 1))) (lv' := [(3, .int (nI (j + 1))), (2, .int v2), (0, .ref ah), (1, .ref a0)]) hx hb dd_RG_nextToMend_66 hl rfl (ly_incN _) (by decide) rfl (fun ls hl => ?_)
            refine lv_goto (tgt := 35) hx hb dd_RG_nextToMend_69 (by decide) ?_
            exact ih35 (j + 1) ls H locs (by omega) hM (lv_sub hl [0, 1, 2, 3] rfl) hP hD hS
          · rw [if_neg h52] at hM
            refine lv_aload_n hx hb dd_RG_nextToMend_55 rfl (lv_at hl 2 rfl) ?_
            refine lv_aload_n hx hb dd_RG_nextToMend_56 rfl (lv_at hl 3 rfl) ?_
            refine lv_iload_n hx hb dd_RG_nextToMend_57 rfl (lv_at hl 0 rfl) ?_
            obtain ⟨r_58, hq58⟩ : ∃ z, z = mm_RG_localPlan j n gr al th := ⟨_, rfl⟩
            try rw [← hq58] at hM
            refine ly_cV_i (n := 2) (z := r_58) (rest := []) (wn := (ws_RG K ah ac ar ap aq ax au ak a0 aw af az n fn lf rb gr ro sr sv up ct al th wr fl)) C (cc_RG_localPlan D K ah ac ar ap aq ax au ak a0 aw af az j n fn lf rb gr ro sr sv up ct al th wr fl (by omega) (by omega) (by omega) (by omega)) hq58 wa_184 wa_179 wa_62 wa_180 wa_181 (by decide) (Nat.le_trans (by decide) hRf) (Nat.le_trans (by decide) hRl) rfl hl.1 rfl (Nat.le_of_ble_eq_true rfl) dd_RG_nextToMend_58 hcs [0, 1, 2, 3, 4, 5, 6, 7, 8, 9, 10] [] [0, 1, 2, 3, 4, 5, 6, 7, 8, 9, 10] hP hD hS rfl rfl (by decide) rfl rfl rfl (fun H locs hP hD hS => ?_)
            refine W.eq (g2 := F0 m 61 ls [.int r_58]) rfl ?_
            refine lv_if_eq (tgt := 66) hx hb dd_RG_nextToMend_61 (by decide) (fun h61 => ?_) (fun h61 => ?_)
            · rw [if_pos h61] at hM
              refine lv_iinc (k := 0) (v := (nI (j + 1))) (lv' := [(3, .int (nI (j + 1))), (2, .int v2), (0, .ref ah), (1, .ref a0)]) hx hb dd_RG_nextToMend_66 hl rfl (ly_incN _) (by decide) rfl (fun ls hl => ?_)
              refine lv_goto (tgt := 35) hx hb dd_RG_nextToMend_69 (by decide) ?_
              exact ih35 (j + 1) ls H locs (by omega) hM (lv_sub hl [0, 1, 2, 3] rfl) hP hD hS
            · rw [if_neg h61] at hM
              refine lv_iload_n hx hb dd_RG_nextToMend_64 rfl (lv_at hl 0 rfl) ?_
              exact ret ((nI j), sr, sv) H locs 65 ls hM rfl hS hP hD dd_RG_nextToMend_65
      exact lp35 n 0 ls H locs (by omega) hM (lv_sub hl [0, 1, 2, 3] rfl) hP hD hS
    | succ k ih12 =>
      intro v2 ls H locs hkn hM hl hP hD hS
      rw [nI_pred] at hl
      rw [mm_RG_nextToMend_L12] at hM
      refine lv_iload_n hx hb dd_RG_nextToMend_12 rfl (lv_at hl 0 rfl) ?_
      refine lv_if_lt (tgt := 33) hx hb dd_RG_nextToMend_13 (by decide) (fun h => absurd h (nI_pos (by omega))) (fun _ => ?_)
      refine lv_aload_n hx hb dd_RG_nextToMend_16 rfl (lv_at hl 2 rfl) ?_
      refine lv_aload_n hx hb dd_RG_nextToMend_17 rfl (lv_at hl 3 rfl) ?_
      refine lv_iload_n hx hb dd_RG_nextToMend_18 rfl (lv_at hl 0 rfl) ?_
      obtain ⟨r_19, hq19⟩ : ∃ z, z = mm_RG_canBeWritten k fn up th := ⟨_, rfl⟩
      try rw [← hq19] at hM
      refine ly_cV_i (n := 2) (z := r_19) (rest := []) (wn := (ws_RG K ah ac ar ap aq ax au ak a0 aw af az n fn lf rb gr ro sr sv up ct al th wr fl)) C (cc_RG_canBeWritten D K ah ac ar ap aq ax au ak a0 aw af az k n fn lf rb gr ro sr sv up ct al th wr fl (by omega) (by omega) (by omega) (by omega)) hq19 wa_194 wa_191 wa_62 wa_192 wa_193 (by decide) (Nat.le_trans (by decide) hRf) (Nat.le_trans (by decide) hRl) rfl hl.1 rfl (Nat.le_of_ble_eq_true rfl) dd_RG_nextToMend_19 hcs [0, 1, 2, 3, 4, 5, 6, 7, 8, 9, 10] [] [0, 1, 2, 3, 4, 5, 6, 7, 8, 9, 10] hP hD hS rfl rfl (by decide) rfl rfl rfl (fun H locs hP hD hS => ?_)
      refine W.eq (g2 := F0 m 22 ls [.int r_19]) rfl ?_
      refine lv_if_eq (tgt := 27) hx hb dd_RG_nextToMend_22 (by decide) (fun h22 => ?_) (fun h22 => ?_)
      · rw [if_pos h22] at hM
        refine lv_iinc (k := 0) (v := (nI k - 1)) (lv' := [(3, .int (nI k - 1)), (2, .int v2), (0, .ref ah), (1, .ref a0)]) hx hb dd_RG_nextToMend_27 hl rfl (ly_decN _) (by decide) rfl (fun ls hl => ?_)
        refine lv_goto (tgt := 12) hx hb dd_RG_nextToMend_30 (by decide) ?_
        exact ih12 v2 ls H locs (by omega) hM (lv_sub hl [0, 1, 2, 3] rfl) hP hD hS
      · rw [if_neg h22] at hM
        refine lv_iload_n hx hb dd_RG_nextToMend_25 rfl (lv_at hl 0 rfl) ?_
        refine lv_istore_n (lv' := [(2, .int (nI k)), (3, .int (nI k)), (0, .ref ah), (1, .ref a0)]) hx hb dd_RG_nextToMend_26 rfl hl (by decide) rfl (fun ls hl => ?_)
        refine lv_iinc (k := 1) (v := (nI k - 1)) (lv' := [(3, .int (nI k - 1)), (2, .int (nI k)), (0, .ref ah), (1, .ref a0)]) hx hb dd_RG_nextToMend_27 hl rfl (ly_decN _) (by decide) rfl (fun ls hl => ?_)
        refine lv_goto (tgt := 12) hx hb dd_RG_nextToMend_30 (by decide) ?_
        exact ih12 (nI k) ls H locs (by omega) hM (lv_sub hl [0, 1, 2, 3] rfl) hP hD hS
  exact lp12 n (-1 : Int32) ls H locs (Nat.le_refl _) hM (lv_sub hl [0, 1, 2, 3] rfl) hP hD hS
theorem in_nextToMend35 {n fn : Nat} {gr al th v2 : Int32} {ro sr sv : Nat → Int64} {up : Nat → Int32} : ∀ (k j : Nat), j + k ≤ n → v2 = -1 ∨ (∃ i, i < n ∧ v2 = nI i) → ∀ (r : Int32) (sr' sv' : Nat → Int64), (r, sr', sv') = mm_RG_nextToMend_L35 n fn gr ro sr sv up al th v2 k j → r = -1 ∨ ∃ i, i < n ∧ r = nI i
  | 0, j, _, hv, r, sr', sv', h => by
    rw [mm_RG_nextToMend_L35] at h
    obtain ⟨⟨a, b, c⟩, hz⟩ : ∃ z, z = mm_RG_independentShards n ro sr sv th := ⟨_, rfl⟩
    rw [← hz] at h
    dsimp only at h
    split at h
    · cases h; exact Or.inl rfl
    · cases h; exact hv
  | k + 1, j, hj, hv, r, sr', sv', h => by
    rw [mm_RG_nextToMend_L35] at h
    split at h
    · exact in_nextToMend35 k (j + 1) (by omega) hv r sr' sv' h
    · split at h
      · exact in_nextToMend35 k (j + 1) (by omega) hv r sr' sv' h
      · cases h; exact Or.inr ⟨j, by omega, rfl⟩
theorem in_nextToMend12 {n fn : Nat} {gr al th : Int32} {ro sr sv : Nat → Int64} {up : Nat → Int32} : ∀ (k : Nat) (v2 : Int32), k ≤ n → v2 = -1 ∨ (∃ i, i < n ∧ v2 = nI i) → ∀ (r : Int32) (sr' sv' : Nat → Int64), (r, sr', sv') = mm_RG_nextToMend_L12 n fn gr ro sr sv up al th k v2 → r = -1 ∨ ∃ i, i < n ∧ r = nI i
  | 0, v2, _, hv, r, sr', sv', h => by
    rw [mm_RG_nextToMend_L12] at h
    exact in_nextToMend35 n 0 (by omega) hv r sr' sv' h
  | k + 1, v2, hk, hv, r, sr', sv', h => by
    rw [mm_RG_nextToMend_L12] at h
    split at h
    · exact in_nextToMend12 k v2 (by omega) hv r sr' sv' h
    · exact in_nextToMend12 k (nI k) (by omega) (Or.inr ⟨k, by omega, rfl⟩) r sr' sv' h
theorem in_nextToMend {n fn : Nat} {gr al th r : Int32} {ro sr sv sr' sv' : Nat → Int64} {up : Nat → Int32} (h : (r, sr', sv') = mm_RG_nextToMend n fn gr ro sr sv up al th) (hr : ¬ r = -1) : ∃ i, i < n ∧ r = nI i := by
  rw [mm_RG_nextToMend] at h
  exact (in_nextToMend12 n (-1) (Nat.le_refl _) (Or.inl rfl) r sr' sv' h).resolve_left hr
end
section
def mm_RG_put (x : Int32) (y : Int32) (w : Int64) (n : Nat) (fn : Nat) (ro : Nat → Int64) (ct : Nat → Int32) (th : Int32) (wr : Nat → Int64) (fl : Nat → Int64) : Int32 × (Nat → Int32) × (Int32) × (Nat → Int64) × (Nat → Int64) := (if (mm_RG_isStripe x) = (0 : Int32) then ((-1 : Int32), ct, th, wr, fl) else (if y < (0 : Int32) then ((-1 : Int32), ct, th, wr, fl) else (if y < (6 : Int32) then (if (mm_Sq_isThere (y.toNatClampNeg) th) = (0 : Int32) then ((-2 : Int32), ct, th, wr, fl) else (match mm_RG_readShard (y.toNatClampNeg) ct th fl with | (r_43, ct_43, th_43) => (if r_43 = (0 : Int32) then ((-3 : Int32), ct_43, th_43, wr, fl) else (match mm_RG_updateCoded (y.toNatClampNeg) ((mm_Sq_held (y.toNatClampNeg) wr fl) ^^^ w) n fn ro ct_43 th_43 wr fl with | (r_64, ct_64, th_64, wr_64, fl_64) => (match mm_RG_writeShard (y.toNatClampNeg) w ct_64 th_64 wr_64 fl_64 with | (ct_74, th_74, wr_74, fl_74) => (r_64, ct_74, th_74, wr_74, fl_74)))))) else ((-1 : Int32), ct, th, wr, fl))))
set_option maxHeartbeats 4000000 in
set_option maxRecDepth 100000 in
theorem cc_RG_put {l : Launch} (D : va_G) (K : Nat → ClassId) (ah ac ar ap aq ax au ak a0 aw af az : Nat) (x : Int32) (y : Int32) (w : Int64) (n : Nat) (fn : Nat) (lf : Int64) (rb : Int64) (gr : Int32) (ro : Nat → Int64) (sr : Nat → Int64) (sv : Nat → Int64) (up : Nat → Int32) (ct : Nat → Int32) (al : Int32) (th : Int32) (wr : Nat → Int64) (fl : Nat → Int64) (sf : Nat → Option Nat) (t1 : Nat × va_E) (t2 : Nat × va_E) (t3 : Nat × va_E) (t4 : Nat × va_E) (t5 : Nat × va_E) (t6 : Nat × va_E) (hn : n ≤ 11) (hn6 : 6 ≤ n) (hfn : fn ≤ 10) (hsf : ∀ j, j < 3 → x = nI j → sf j = some a0) : ly_i l yy_RG_put bb_RG_put 7 (some .int) 4 94 D K [.ref ah, .int x, .int y, .long w] (ws_LJ K ah ac ar ap aq ax au ak a0 aw af az n fn lf rb gr ro sr sv up ct al th wr fl sf t1 t2 t3 t4 t5 t6) (fun z => z.1) (fun z => (ws_LJ K ah ac ar ap aq ax au ak a0 aw af az n fn lf rb gr ro sr sv up (z.2.1) al (z.2.2.1) (z.2.2.2.1) (z.2.2.2.2) sf t1 t2 t3 t4 t5 t6)) (mm_RG_put x y w n fn ro ct th wr fl) := by
  refine ly_entI (by decide) (Nat.le_of_ble_eq_true rfl) ?_
  intro p e s m av below meth c A ls R Q H locs res hM C hRf hRl hS hP hD hl ret
  obtain ⟨hx, hb, -⟩ := id C
  have hcs : 0 ≤ R.cells ∧ 0 ≤ R.slots := ⟨Nat.zero_le _, Nat.zero_le _⟩
  have hl : lv_has ls 7 [(0, .ref ah), (1, .int x), (2, .int y), (3, .long w)] := hl
  rw [mm_RG_put] at hM
  refine lv_iload_n hx hb dd_RG_put_0 rfl (lv_at hl 1 rfl) ?_
  obtain ⟨r_1, hq1⟩ : ∃ z, z = mm_RG_isStripe x := ⟨_, rfl⟩
  try rw [← hq1] at hM
  refine ly_cS_i (n := 1) (z := r_1) (rest := []) (wn := (ws_LJ K ah ac ar ap aq ax au ak a0 aw af az n fn lf rb gr ro sr sv up ct al th wr fl sf t1 t2 t3 t4 t5 t6)) C (cc_RG_isStripe D K x) hq1 wa_132 wa_61 wa_62 wa_63 (by decide) (Nat.le_trans (by decide) hRf) (Nat.le_trans (by decide) hRl) rfl hl.1 rfl (Nat.le_of_ble_eq_true rfl) dd_RG_put_1 hcs [] [0, 1, 2, 3, 4, 5, 6, 7, 8, 9, 10, 11, 12, 13, 14, 15, 16, 17] [0, 1, 2, 3, 4, 5, 6, 7, 8, 9, 10, 11, 12, 13, 14, 15, 16, 17] hP hD hS rfl rfl (by decide) rfl (fun H locs hP hD hS => ?_)
  refine W.eq (g2 := F0 m 4 ls [.int r_1]) rfl ?_
  refine lv_if_eq (tgt := 17) hx hb dd_RG_put_4 (by decide) (fun h4 => ?_) (fun h4 => ?_)
  · rw [if_pos h4] at hM
    refine lv_iconst (v := (-1 : Int32)) hx hb dd_RG_put_17 (by decide) ?_
    exact ret ((-1 : Int32), ct, th, wr, fl) H locs 18 ls hM rfl hS hP hD dd_RG_put_18
  · rw [if_neg h4] at hM
    refine lv_iload_n hx hb dd_RG_put_7 rfl (lv_at hl 2 rfl) ?_
    refine lv_if_lt (tgt := 17) hx hb dd_RG_put_8 (by decide) (fun h8 => ?_) (fun h8 => ?_)
    · rw [if_pos h8] at hM
      refine lv_iconst (v := (-1 : Int32)) hx hb dd_RG_put_17 (by decide) ?_
      exact ret ((-1 : Int32), ct, th, wr, fl) H locs 18 ls hM rfl hS hP hD dd_RG_put_18
    · rw [if_neg h8] at hM
      refine lv_iload_n hx hb dd_RG_put_11 rfl (lv_at hl 2 rfl) ?_
      refine lv_bipush (v := (6 : Int32)) hx hb dd_RG_put_12 (by decide) ?_
      refine lv_icmp_lt (tgt := 19) hx hb dd_RG_put_14 (by decide) (fun h14 => ?_) (fun h14 => ?_)
      · rw [if_pos h14] at hM
        obtain ⟨sj, hsj, hse⟩ := in_isStripe hq1 h4
        obtain ⟨i, hi, rfl⟩ := ly_rng (N := 6) h8 h14 (by decide)
        try rw [nI_clamp (n := i) (by omega)] at hM
        refine lv_aload_n hx hb dd_RG_put_19 rfl (lv_at hl 0 rfl) ?_
        refine ly_get (v := .ref az) C hP 0 rfl uw_RG rfl 2 (by decide) wa_51 rfl dd_RG_put_20 ?_
        refine lv_iload_n hx hb dd_RG_put_23 rfl (lv_at hl 1 rfl) ?_
        refine ly_aldq (b := a0) C hP 11 rfl rfl sj hse hsj (by omega) (hsf sj hsj hse) dd_RG_put_24 ?_
        refine lv_astore (lv' := [(5, .ref a0), (0, .ref ah), (1, .int x), (2, .int (nI i)), (3, .long w)]) hx hb dd_RG_put_25 hl (by decide) rfl (fun ls hl => ?_)
        refine lv_aload hx hb dd_RG_put_27 (lv_at hl 0 rfl) ?_
        refine lv_iload_n hx hb dd_RG_put_29 rfl (lv_at hl 3 rfl) ?_
        obtain ⟨r_30, hq30⟩ : ∃ z, z = mm_Sq_isThere i th := ⟨_, rfl⟩
        try rw [← hq30] at hM
        refine ly_cV_i (n := 1) (z := r_30) (rest := []) (wn := (ws_LJ K ah ac ar ap aq ax au ak a0 aw af az n fn lf rb gr ro sr sv up ct al th wr fl sf t1 t2 t3 t4 t5 t6)) C (cc_Sq_isThere D K a0 aw af i n fn al th wr fl (by omega) (by omega)) hq30 wa_244 wa_64 wa_53 wa_65 wa_66 (by decide) (Nat.le_trans (by decide) hRf) (Nat.le_trans (by decide) hRl) rfl hl.1 rfl (Nat.le_of_ble_eq_true rfl) dd_RG_put_30 hcs [8, 9, 10] [0, 1, 2, 3, 4, 5, 6, 7, 11, 12, 13, 14, 15, 16, 17] [0, 1, 2, 3, 4, 5, 6, 7, 15, 16, 17, 8, 9, 10, 11, 12, 13, 14] hP hD hS rfl rfl (by decide) rfl rfl rfl (fun H locs hP hD hS => ?_)
        refine W.eq (g2 := F0 m 33 ls [.int r_30]) rfl ?_
        refine lv_if_ne (tgt := 39) hx hb dd_RG_put_33 (by decide) (fun h33 => ?_) (fun h33 => ?_)
        · rw [if_neg h33] at hM
          refine lv_aload_n hx hb dd_RG_put_39 rfl (lv_at hl 1 rfl) ?_
          refine lv_aload hx hb dd_RG_put_40 (lv_at hl 0 rfl) ?_
          refine lv_iload_n hx hb dd_RG_put_42 rfl (lv_at hl 3 rfl) ?_
          obtain ⟨⟨r_43, ct_43, th_43⟩, hq43⟩ : ∃ z, z = mm_RG_readShard i ct th fl := ⟨_, rfl⟩
          try rw [← hq43] at hM
          try dsimp only at hM
          refine ly_cV_i (n := 2) (z := (r_43, ct_43, th_43)) (rest := []) (wn := (ws_LJ K ah ac ar ap aq ax au ak a0 aw af az n fn lf rb gr ro sr sv up ct_43 al th_43 wr fl sf t1 t2 t3 t4 t5 t6)) C (cc_RG_readShard D K ah ac ar ap aq ax au ak a0 aw af az i n fn lf rb gr ro sr sv up ct al th wr fl (by omega) (by omega) (by omega) (by omega)) hq43 wa_135 wa_67 wa_62 wa_68 wa_69 (by decide) (Nat.le_trans (by decide) hRf) (Nat.le_trans (by decide) hRl) rfl hl.1 rfl (Nat.le_of_ble_eq_true rfl) dd_RG_put_43 hcs [0, 1, 2, 3, 4, 5, 6, 7, 8, 9, 10] [11, 12, 13, 14, 15, 16, 17] [7, 8, 9, 10, 11, 12, 13, 14, 15, 16, 17, 0, 1, 2, 3, 4, 5, 6] hP hD hS rfl rfl (by decide) rfl rfl rfl (fun H locs hP hD hS => ?_)
          refine W.eq (g2 := F0 m 46 ls [.int r_43]) rfl ?_
          refine lv_if_ne (tgt := 52) hx hb dd_RG_put_46 (by decide) (fun h46 => ?_) (fun h46 => ?_)
          · rw [if_neg h46] at hM
            refine lv_aload_n hx hb dd_RG_put_52 rfl (lv_at hl 1 rfl) ?_
            refine lv_aload hx hb dd_RG_put_53 (lv_at hl 0 rfl) ?_
            refine lv_iload_n hx hb dd_RG_put_55 rfl (lv_at hl 3 rfl) ?_
            refine lv_aload hx hb dd_RG_put_56 (lv_at hl 0 rfl) ?_
            refine lv_iload_n hx hb dd_RG_put_58 rfl (lv_at hl 3 rfl) ?_
            obtain ⟨r_59, hq59⟩ : ∃ z, z = mm_Sq_held i wr fl := ⟨_, rfl⟩
            try rw [← hq59] at hM
            refine ly_cV_l (n := 1) (z := r_59) (rest := [.int (nI i), .ref a0, .ref ah]) (wn := (ws_LJ K ah ac ar ap aq ax au ak a0 aw af az n fn lf rb gr ro sr sv up ct_43 al th_43 wr fl sf t1 t2 t3 t4 t5 t6)) C (cc_Sq_held D K a0 aw af i n fn al th_43 wr fl (by omega) (by omega) (by omega)) hq59 wa_247 wa_70 wa_53 wa_71 wa_72 (by decide) (Nat.le_trans (by decide) hRf) (Nat.le_trans (by decide) hRl) rfl hl.1 rfl (Nat.le_of_ble_eq_true rfl) dd_RG_put_59 hcs [8, 9, 10] [0, 1, 2, 3, 4, 5, 6, 7, 11, 12, 13, 14, 15, 16, 17] [0, 1, 2, 3, 4, 5, 6, 7, 15, 16, 17, 8, 9, 10, 11, 12, 13, 14] hP hD hS rfl rfl (by decide) rfl rfl rfl (fun H locs hP hD hS => ?_)
            refine W.eq (g2 := F0 m 62 ls [.long r_59, .int (nI i), .ref a0, .ref ah]) rfl ?_
            refine lv_lload_n hx hb dd_RG_put_62 rfl (lv_at hl 4 rfl) ?_
            refine lv_lxor hx hb dd_RG_put_63 ?_
            obtain ⟨⟨r_64, ct_64, th_64, wr_64, fl_64⟩, hq64⟩ : ∃ z, z = mm_RG_updateCoded i (r_59 ^^^ w) n fn ro ct_43 th_43 wr fl := ⟨_, rfl⟩
            try rw [← hq64] at hM
            try dsimp only at hM
            refine ly_cV_i (n := 3) (z := (r_64, ct_64, th_64, wr_64, fl_64)) (rest := []) (wn := (ws_LJ K ah ac ar ap aq ax au ak a0 aw af az n fn lf rb gr ro sr sv up ct_64 al th_64 wr_64 fl_64 sf t1 t2 t3 t4 t5 t6)) C (cc_RG_updateCoded D K ah ac ar ap aq ax au ak a0 aw af az i (r_59 ^^^ w) n fn lf rb gr ro sr sv up ct_43 al th_43 wr fl (by omega) (by omega) (by omega) (by omega)) hq64 wa_147 wa_73 wa_62 wa_74 wa_75 (by decide) (Nat.le_trans (by decide) hRf) (Nat.le_trans (by decide) hRl) rfl hl.1 rfl (Nat.le_of_ble_eq_true rfl) dd_RG_put_64 hcs [0, 1, 2, 3, 4, 5, 6, 7, 8, 9, 10] [11, 12, 13, 14, 15, 16, 17] [7, 8, 9, 10, 11, 12, 13, 14, 15, 16, 17, 0, 1, 2, 3, 4, 5, 6] hP hD hS rfl rfl (by decide) rfl rfl rfl (fun H locs hP hD hS => ?_)
            refine W.eq (g2 := F0 m 67 ls [.int r_64]) rfl ?_
            refine lv_istore (lv' := [(6, .int r_64), (5, .ref a0), (0, .ref ah), (1, .int x), (2, .int (nI i)), (3, .long w)]) hx hb dd_RG_put_67 hl (by decide) rfl (fun ls hl => ?_)
            refine lv_aload_n hx hb dd_RG_put_69 rfl (lv_at hl 2 rfl) ?_
            refine lv_aload hx hb dd_RG_put_70 (lv_at hl 1 rfl) ?_
            refine lv_iload_n hx hb dd_RG_put_72 rfl (lv_at hl 4 rfl) ?_
            refine lv_lload_n hx hb dd_RG_put_73 rfl (lv_at hl 5 rfl) ?_
            obtain ⟨⟨ct_74, th_74, wr_74, fl_74⟩, hq74⟩ : ∃ z, z = mm_RG_writeShard i w ct_64 th_64 wr_64 fl_64 := ⟨_, rfl⟩
            try rw [← hq74] at hM
            try dsimp only at hM
            refine ly_cV_v (n := 3) (z := (ct_74, th_74, wr_74, fl_74)) (rest := []) (wn := (ws_LJ K ah ac ar ap aq ax au ak a0 aw af az n fn lf rb gr ro sr sv up ct_74 al th_74 wr_74 fl_74 sf t1 t2 t3 t4 t5 t6)) C (cc_RG_writeShard D K ah ac ar ap aq ax au ak a0 aw af az i w n fn lf rb gr ro sr sv up ct_64 al th_64 wr_64 fl_64 (by omega) (by omega) (by omega) (by omega)) hq74 wa_143 wa_76 wa_62 wa_77 wa_78 (by decide) (Nat.le_trans (by decide) hRf) (Nat.le_trans (by decide) hRl) rfl hl.1 rfl (Nat.le_of_ble_eq_true rfl) dd_RG_put_74 hcs [0, 1, 2, 3, 4, 5, 6, 7, 8, 9, 10] [11, 12, 13, 14, 15, 16, 17] [7, 8, 9, 10, 11, 12, 13, 14, 15, 16, 17, 0, 1, 2, 3, 4, 5, 6] hP hD hS rfl rfl (by decide) rfl rfl rfl (fun H locs hP hD hS => ?_)
            refine W.eq (g2 := F0 m 77 ls []) rfl ?_
            refine lv_iload hx hb dd_RG_put_77 (lv_at hl 0 rfl) ?_
            exact ret (r_64, ct_74, th_74, wr_74, fl_74) H locs 79 ls hM rfl hS hP hD dd_RG_put_79
          · rw [if_pos h46] at hM
            refine lv_bipush (v := (-3 : Int32)) hx hb dd_RG_put_49 (by decide) ?_
            exact ret ((-3 : Int32), ct_43, th_43, wr, fl) H locs 51 ls hM rfl hS hP hD dd_RG_put_51
        · rw [if_pos h33] at hM
          refine lv_bipush (v := (-2 : Int32)) hx hb dd_RG_put_36 (by decide) ?_
          exact ret ((-2 : Int32), ct, th, wr, fl) H locs 38 ls hM rfl hS hP hD dd_RG_put_38
      · rw [if_neg h14] at hM
        refine lv_iconst (v := (-1 : Int32)) hx hb dd_RG_put_17 (by decide) ?_
        exact ret ((-1 : Int32), ct, th, wr, fl) H locs 18 ls hM rfl hS hP hD dd_RG_put_18

def mm_RG_fetch (x : Int32) (y : Int32) (n : Nat) (fn : Nat) (lf : Int64) (rb : Int64) (gr : Int32) (ro : Nat → Int64) (sr : Nat → Int64) (sv : Nat → Int64) (ct : Nat → Int32) (al : Int32) (th : Int32) (wr : Nat → Int64) (fl : Nat → Int64) : Int32 × (Int64) × (Int64) × (Nat → Int64) × (Nat → Int64) × (Nat → Int32) × (Int32) := (if (mm_RG_isShard x y n) = (0 : Int32) then ((-1 : Int32), lf, rb, sr, sv, ct, th) else (if (mm_Sq_isThere (y.toNatClampNeg) th) = (0 : Int32) then (match mm_RG_followPlans (y.toNatClampNeg) n fn rb gr ro sr sv ct al th wr fl with | (r_49, rb_49, sr_49, sv_49, ct_49, th_49) => (if r_49 < (0 : Int32) then (r_49, lf, rb_49, sr_49, sv_49, ct_49, th_49) else (r_49, rb_49, rb_49, sr_49, sv_49, ct_49, th_49))) else (match mm_RG_readShard (y.toNatClampNeg) ct th fl with | (r_29, ct_29, th_29) => (if r_29 = (0 : Int32) then (match mm_RG_followPlans (y.toNatClampNeg) n fn rb gr ro sr sv ct_29 al th_29 wr fl with | (r_49, rb_49, sr_49, sv_49, ct_49, th_49) => (if r_49 < (0 : Int32) then (r_49, lf, rb_49, sr_49, sv_49, ct_49, th_49) else (r_49, rb_49, rb_49, sr_49, sv_49, ct_49, th_49))) else ((0 : Int32), (mm_Sq_held (y.toNatClampNeg) wr fl), rb, sr, sv, ct_29, th_29)))))
set_option maxHeartbeats 4000000 in
set_option maxRecDepth 100000 in
theorem cc_RG_fetch {l : Launch} (D : va_G) (K : Nat → ClassId) (ah ac ar ap aq ax au ak a0 aw af az : Nat) (x : Int32) (y : Int32) (n : Nat) (fn : Nat) (lf : Int64) (rb : Int64) (gr : Int32) (ro : Nat → Int64) (sr : Nat → Int64) (sv : Nat → Int64) (up : Nat → Int32) (ct : Nat → Int32) (al : Int32) (th : Int32) (wr : Nat → Int64) (fl : Nat → Int64) (sf : Nat → Option Nat) (t1 : Nat × va_E) (t2 : Nat × va_E) (t3 : Nat × va_E) (t4 : Nat × va_E) (t5 : Nat × va_E) (t6 : Nat × va_E) (hn : n ≤ 11) (hn6 : 6 ≤ n) (hfn : fn ≤ 10) (hsf : ∀ j, j < 3 → x = nI j → sf j = some a0) : ly_i l yy_RG_fetch bb_RG_fetch 5 (some .int) 6 155 D K [.ref ah, .int x, .int y] (ws_LJ K ah ac ar ap aq ax au ak a0 aw af az n fn lf rb gr ro sr sv up ct al th wr fl sf t1 t2 t3 t4 t5 t6) (fun z => z.1) (fun z => (ws_LJ K ah ac ar ap aq ax au ak a0 aw af az n fn (z.2.1) (z.2.2.1) gr ro (z.2.2.2.1) (z.2.2.2.2.1) up (z.2.2.2.2.2.1) al (z.2.2.2.2.2.2) wr fl sf t1 t2 t3 t4 t5 t6)) (mm_RG_fetch x y n fn lf rb gr ro sr sv ct al th wr fl) := by
  refine ly_entI (by decide) (Nat.le_of_ble_eq_true rfl) ?_
  intro p e s m av below meth c A ls R Q H locs res hM C hRf hRl hS hP hD hl ret
  obtain ⟨hx, hb, -⟩ := id C
  have hcs : 0 ≤ R.cells ∧ 0 ≤ R.slots := ⟨Nat.zero_le _, Nat.zero_le _⟩
  have hl : lv_has ls 5 [(0, .ref ah), (1, .int x), (2, .int y)] := hl
  rw [mm_RG_fetch] at hM
  refine lv_aload_n hx hb dd_RG_fetch_0 rfl (lv_at hl 0 rfl) ?_
  refine lv_iload_n hx hb dd_RG_fetch_1 rfl (lv_at hl 1 rfl) ?_
  refine lv_iload_n hx hb dd_RG_fetch_2 rfl (lv_at hl 2 rfl) ?_
  obtain ⟨r_3, hq3⟩ : ∃ z, z = mm_RG_isShard x y n := ⟨_, rfl⟩
  try rw [← hq3] at hM
  refine ly_cV_i (n := 2) (z := r_3) (rest := []) (wn := (ws_LJ K ah ac ar ap aq ax au ak a0 aw af az n fn lf rb gr ro sr sv up ct al th wr fl sf t1 t2 t3 t4 t5 t6)) C (cc_RG_isShard D K ah ac ap az au ak ar x y n lf rb gr (by omega)) hq3 wa_133 wa_80 wa_62 wa_81 wa_82 (by decide) (Nat.le_trans (by decide) hRf) (Nat.le_trans (by decide) hRl) rfl hl.1 rfl (Nat.le_of_ble_eq_true rfl) dd_RG_fetch_3 hcs [0, 1] [2, 3, 4, 5, 6, 7, 8, 9, 10, 11, 12, 13, 14, 15, 16, 17] [16, 17, 0, 1, 2, 3, 4, 5, 6, 7, 8, 9, 10, 11, 12, 13, 14, 15] hP hD hS rfl rfl (by decide) rfl rfl rfl (fun H locs hP hD hS => ?_)
  refine W.eq (g2 := F0 m 6 ls [.int r_3]) rfl ?_
  refine lv_if_ne (tgt := 11) hx hb dd_RG_fetch_6 (by decide) (fun h6 => ?_) (fun h6 => ?_)
  · rw [if_neg h6] at hM
    obtain ⟨sj, hsj, hse, i, hi, rfl⟩ := in_isShard hn hq3 h6
    try rw [nI_clamp (n := i) (by omega)] at hM
    refine lv_aload_n hx hb dd_RG_fetch_11 rfl (lv_at hl 0 rfl) ?_
    refine ly_get (v := .ref az) C hP 0 rfl uw_RG rfl 2 (by decide) wa_51 rfl dd_RG_fetch_12 ?_
    refine lv_iload_n hx hb dd_RG_fetch_15 rfl (lv_at hl 1 rfl) ?_
    refine ly_aldq (b := a0) C hP 11 rfl rfl sj hse hsj (by omega) (hsf sj hsj hse) dd_RG_fetch_16 ?_
    refine lv_astore_n (lv' := [(3, .ref a0), (0, .ref ah), (1, .int x), (2, .int (nI i))]) hx hb dd_RG_fetch_17 rfl hl (by decide) rfl (fun ls hl => ?_)
    refine lv_aload_n hx hb dd_RG_fetch_18 rfl (lv_at hl 0 rfl) ?_
    refine lv_iload_n hx hb dd_RG_fetch_19 rfl (lv_at hl 3 rfl) ?_
    obtain ⟨r_20, hq20⟩ : ∃ z, z = mm_Sq_isThere i th := ⟨_, rfl⟩
    try rw [← hq20] at hM
    refine ly_cV_i (n := 1) (z := r_20) (rest := []) (wn := (ws_LJ K ah ac ar ap aq ax au ak a0 aw af az n fn lf rb gr ro sr sv up ct al th wr fl sf t1 t2 t3 t4 t5 t6)) C (cc_Sq_isThere D K a0 aw af i n fn al th wr fl (by omega) (by omega)) hq20 wa_244 wa_64 wa_53 wa_65 wa_66 (by decide) (Nat.le_trans (by decide) hRf) (Nat.le_trans (by decide) hRl) rfl hl.1 rfl (Nat.le_of_ble_eq_true rfl) dd_RG_fetch_20 hcs [8, 9, 10] [0, 1, 2, 3, 4, 5, 6, 7, 11, 12, 13, 14, 15, 16, 17] [0, 1, 2, 3, 4, 5, 6, 7, 15, 16, 17, 8, 9, 10, 11, 12, 13, 14] hP hD hS rfl rfl (by decide) rfl rfl rfl (fun H locs hP hD hS => ?_)
    refine W.eq (g2 := F0 m 23 ls [.int r_20]) rfl ?_
    refine lv_if_eq (tgt := 46) hx hb dd_RG_fetch_23 (by decide) (fun h23 => ?_) (fun h23 => ?_)
    · rw [if_pos h23] at hM
      refine lv_aload_n hx hb dd_RG_fetch_46 rfl (lv_at hl 1 rfl) ?_
      refine lv_aload_n hx hb dd_RG_fetch_47 rfl (lv_at hl 0 rfl) ?_
      refine lv_iload_n hx hb dd_RG_fetch_48 rfl (lv_at hl 3 rfl) ?_
      obtain ⟨⟨r_49, rb_49, sr_49, sv_49, ct_49, th_49⟩, hq49⟩ : ∃ z, z = mm_RG_followPlans i n fn rb gr ro sr sv ct al th wr fl := ⟨_, rfl⟩
      try rw [← hq49] at hM
      try dsimp only at hM
      refine ly_cV_i (n := 2) (z := (r_49, rb_49, sr_49, sv_49, ct_49, th_49)) (rest := []) (wn := (ws_LJ K ah ac ar ap aq ax au ak a0 aw af az n fn lf rb_49 gr ro sr_49 sv_49 up ct_49 al th_49 wr fl sf t1 t2 t3 t4 t5 t6)) C (cc_RG_followPlans D K ah ac ar ap aq ax au ak a0 aw af az i n fn lf rb gr ro sr sv up ct al th wr fl (by omega) (by omega) (by omega) (by omega)) hq49 wa_158 wa_84 wa_62 wa_85 wa_86 (by decide) (Nat.le_trans (by decide) hRf) (Nat.le_trans (by decide) hRl) rfl hl.1 rfl (Nat.le_of_ble_eq_true rfl) dd_RG_fetch_49 hcs [0, 1, 2, 3, 4, 5, 6, 7, 8, 9, 10] [11, 12, 13, 14, 15, 16, 17] [7, 8, 9, 10, 11, 12, 13, 14, 15, 16, 17, 0, 1, 2, 3, 4, 5, 6] hP hD hS rfl rfl (by decide) rfl rfl rfl (fun H locs hP hD hS => ?_)
      refine W.eq (g2 := F0 m 52 ls [.int r_49]) rfl ?_
      refine lv_istore (lv' := [(4, .int r_49), (3, .ref a0), (0, .ref ah), (1, .int x), (2, .int (nI i))]) hx hb dd_RG_fetch_52 hl (by decide) rfl (fun ls hl => ?_)
      refine lv_iload hx hb dd_RG_fetch_54 (lv_at hl 0 rfl) ?_
      refine lv_if_lt (tgt := 67) hx hb dd_RG_fetch_56 (by decide) (fun h56 => ?_) (fun h56 => ?_)
      · rw [if_pos h56] at hM
        refine lv_iload hx hb dd_RG_fetch_67 (lv_at hl 0 rfl) ?_
        exact ret (r_49, lf, rb_49, sr_49, sv_49, ct_49, th_49) H locs 69 ls hM rfl hS hP hD dd_RG_fetch_69
      · rw [if_neg h56] at hM
        refine lv_aload_n hx hb dd_RG_fetch_59 rfl (lv_at hl 2 rfl) ?_
        refine lv_aload_n hx hb dd_RG_fetch_60 rfl (lv_at hl 2 rfl) ?_
        refine ly_get (v := .long rb_49) C hP 0 rfl uw_RG rfl 6 (by decide) wa_87 rfl dd_RG_fetch_61 ?_
        refine ly_put (ws' := (ws_LJ K ah ac ar ap aq ax au ak a0 aw af az n fn rb_49 rb_49 gr ro sr_49 sv_49 up ct_49 al th_49 wr fl sf t1 t2 t3 t4 t5 t6)) C hP hD hS 0 rfl uw_RG tt_RG nn_RG rfl 5 (by decide) wa_83 rfl rfl rfl (Nat.le_of_ble_eq_true rfl) dd_RG_fetch_64 rfl (fun H locs hP hD hS => ?_)
        refine lv_iload hx hb dd_RG_fetch_67 (lv_at hl 0 rfl) ?_
        exact ret (r_49, rb_49, rb_49, sr_49, sv_49, ct_49, th_49) H locs 69 ls hM rfl hS hP hD dd_RG_fetch_69
    · rw [if_neg h23] at hM
      refine lv_aload_n hx hb dd_RG_fetch_26 rfl (lv_at hl 1 rfl) ?_
      refine lv_aload_n hx hb dd_RG_fetch_27 rfl (lv_at hl 0 rfl) ?_
      refine lv_iload_n hx hb dd_RG_fetch_28 rfl (lv_at hl 3 rfl) ?_
      obtain ⟨⟨r_29, ct_29, th_29⟩, hq29⟩ : ∃ z, z = mm_RG_readShard i ct th fl := ⟨_, rfl⟩
      try rw [← hq29] at hM
      try dsimp only at hM
      refine ly_cV_i (n := 2) (z := (r_29, ct_29, th_29)) (rest := []) (wn := (ws_LJ K ah ac ar ap aq ax au ak a0 aw af az n fn lf rb gr ro sr sv up ct_29 al th_29 wr fl sf t1 t2 t3 t4 t5 t6)) C (cc_RG_readShard D K ah ac ar ap aq ax au ak a0 aw af az i n fn lf rb gr ro sr sv up ct al th wr fl (by omega) (by omega) (by omega) (by omega)) hq29 wa_135 wa_67 wa_62 wa_68 wa_69 (by decide) (Nat.le_trans (by decide) hRf) (Nat.le_trans (by decide) hRl) rfl hl.1 rfl (Nat.le_of_ble_eq_true rfl) dd_RG_fetch_29 hcs [0, 1, 2, 3, 4, 5, 6, 7, 8, 9, 10] [11, 12, 13, 14, 15, 16, 17] [7, 8, 9, 10, 11, 12, 13, 14, 15, 16, 17, 0, 1, 2, 3, 4, 5, 6] hP hD hS rfl rfl (by decide) rfl rfl rfl (fun H locs hP hD hS => ?_)
      refine W.eq (g2 := F0 m 32 ls [.int r_29]) rfl ?_
      refine lv_if_eq (tgt := 46) hx hb dd_RG_fetch_32 (by decide) (fun h32 => ?_) (fun h32 => ?_)
      · rw [if_pos h32] at hM
        refine lv_aload_n hx hb dd_RG_fetch_46 rfl (lv_at hl 1 rfl) ?_
        refine lv_aload_n hx hb dd_RG_fetch_47 rfl (lv_at hl 0 rfl) ?_
        refine lv_iload_n hx hb dd_RG_fetch_48 rfl (lv_at hl 3 rfl) ?_
        obtain ⟨⟨r_49, rb_49, sr_49, sv_49, ct_49, th_49⟩, hq49⟩ : ∃ z, z = mm_RG_followPlans i n fn rb gr ro sr sv ct_29 al th_29 wr fl := ⟨_, rfl⟩
        try rw [← hq49] at hM
        try dsimp only at hM
        refine ly_cV_i (n := 2) (z := (r_49, rb_49, sr_49, sv_49, ct_49, th_49)) (rest := []) (wn := (ws_LJ K ah ac ar ap aq ax au ak a0 aw af az n fn lf rb_49 gr ro sr_49 sv_49 up ct_49 al th_49 wr fl sf t1 t2 t3 t4 t5 t6)) C (cc_RG_followPlans D K ah ac ar ap aq ax au ak a0 aw af az i n fn lf rb gr ro sr sv up ct_29 al th_29 wr fl (by omega) (by omega) (by omega) (by omega)) hq49 wa_158 wa_84 wa_62 wa_85 wa_86 (by decide) (Nat.le_trans (by decide) hRf) (Nat.le_trans (by decide) hRl) rfl hl.1 rfl (Nat.le_of_ble_eq_true rfl) dd_RG_fetch_49 hcs [0, 1, 2, 3, 4, 5, 6, 7, 8, 9, 10] [11, 12, 13, 14, 15, 16, 17] [7, 8, 9, 10, 11, 12, 13, 14, 15, 16, 17, 0, 1, 2, 3, 4, 5, 6] hP hD hS rfl rfl (by decide) rfl rfl rfl (fun H locs hP hD hS => ?_)
        refine W.eq (g2 := F0 m 52 ls [.int r_49]) rfl ?_
        refine lv_istore (lv' := [(4, .int r_49), (3, .ref a0), (0, .ref ah), (1, .int x), (2, .int (nI i))]) hx hb dd_RG_fetch_52 hl (by decide) rfl (fun ls hl => ?_)
        refine lv_iload hx hb dd_RG_fetch_54 (lv_at hl 0 rfl) ?_
        refine lv_if_lt (tgt := 67) hx hb dd_RG_fetch_56 (by decide) (fun h56 => ?_) (fun h56 => ?_)
        · rw [if_pos h56] at hM
          refine lv_iload hx hb dd_RG_fetch_67 (lv_at hl 0 rfl) ?_
          exact ret (r_49, lf, rb_49, sr_49, sv_49, ct_49, th_49) H locs 69 ls hM rfl hS hP hD dd_RG_fetch_69
        · rw [if_neg h56] at hM
          refine lv_aload_n hx hb dd_RG_fetch_59 rfl (lv_at hl 2 rfl) ?_
          refine lv_aload_n hx hb dd_RG_fetch_60 rfl (lv_at hl 2 rfl) ?_
          refine ly_get (v := .long rb_49) C hP 0 rfl uw_RG rfl 6 (by decide) wa_87 rfl dd_RG_fetch_61 ?_
          refine ly_put (ws' := (ws_LJ K ah ac ar ap aq ax au ak a0 aw af az n fn rb_49 rb_49 gr ro sr_49 sv_49 up ct_49 al th_49 wr fl sf t1 t2 t3 t4 t5 t6)) C hP hD hS 0 rfl uw_RG tt_RG nn_RG rfl 5 (by decide) wa_83 rfl rfl rfl (Nat.le_of_ble_eq_true rfl) dd_RG_fetch_64 rfl (fun H locs hP hD hS => ?_)
          refine lv_iload hx hb dd_RG_fetch_67 (lv_at hl 0 rfl) ?_
          exact ret (r_49, rb_49, rb_49, sr_49, sv_49, ct_49, th_49) H locs 69 ls hM rfl hS hP hD dd_RG_fetch_69
      · rw [if_neg h32] at hM
        refine lv_aload_n hx hb dd_RG_fetch_35 rfl (lv_at hl 1 rfl) ?_
        refine lv_aload_n hx hb dd_RG_fetch_36 rfl (lv_at hl 0 rfl) ?_
        refine lv_iload_n hx hb dd_RG_fetch_37 rfl (lv_at hl 3 rfl) ?_
        obtain ⟨r_38, hq38⟩ : ∃ z, z = mm_Sq_held i wr fl := ⟨_, rfl⟩
        try rw [← hq38] at hM
        refine ly_cV_l (n := 1) (z := r_38) (rest := [.ref ah]) (wn := (ws_LJ K ah ac ar ap aq ax au ak a0 aw af az n fn lf rb gr ro sr sv up ct_29 al th_29 wr fl sf t1 t2 t3 t4 t5 t6)) C (cc_Sq_held D K a0 aw af i n fn al th_29 wr fl (by omega) (by omega) (by omega)) hq38 wa_247 wa_70 wa_53 wa_71 wa_72 (by decide) (Nat.le_trans (by decide) hRf) (Nat.le_trans (by decide) hRl) rfl hl.1 rfl (Nat.le_of_ble_eq_true rfl) dd_RG_fetch_38 hcs [8, 9, 10] [0, 1, 2, 3, 4, 5, 6, 7, 11, 12, 13, 14, 15, 16, 17] [0, 1, 2, 3, 4, 5, 6, 7, 15, 16, 17, 8, 9, 10, 11, 12, 13, 14] hP hD hS rfl rfl (by decide) rfl rfl rfl (fun H locs hP hD hS => ?_)
        refine W.eq (g2 := F0 m 41 ls [.long r_38, .ref ah]) rfl ?_
        refine ly_put (ws' := (ws_LJ K ah ac ar ap aq ax au ak a0 aw af az n fn r_38 rb gr ro sr sv up ct_29 al th_29 wr fl sf t1 t2 t3 t4 t5 t6)) C hP hD hS 0 rfl uw_RG tt_RG nn_RG rfl 5 (by decide) wa_83 rfl rfl rfl (Nat.le_of_ble_eq_true rfl) dd_RG_fetch_41 rfl (fun H locs hP hD hS => ?_)
        refine lv_iconst (v := (0 : Int32)) hx hb dd_RG_fetch_44 (by decide) ?_
        exact ret ((0 : Int32), r_38, rb, sr, sv, ct_29, th_29) H locs 45 ls hM rfl hS hP hD dd_RG_fetch_45
  · rw [if_pos h6] at hM
    refine lv_iconst (v := (-1 : Int32)) hx hb dd_RG_fetch_9 (by decide) ?_
    exact ret ((-1 : Int32), lf, rb, sr, sv, ct, th) H locs 10 ls hM rfl hS hP hD dd_RG_fetch_10

def mm_RG_fetched (lf : Int64) : Int64 := lf
set_option maxHeartbeats 4000000 in
set_option maxRecDepth 100000 in
theorem cc_RG_fetched {l : Launch} (D : va_G) (K : Nat → ClassId) (ah ac ar ap aq ax au ak a0 aw af az : Nat) (n : Nat) (fn : Nat) (lf : Int64) (rb : Int64) (gr : Int32) (ro : Nat → Int64) (sr : Nat → Int64) (sv : Nat → Int64) (up : Nat → Int32) (ct : Nat → Int32) (al : Int32) (th : Int32) (wr : Nat → Int64) (fl : Nat → Int64) (sf : Nat → Option Nat) (t1 : Nat × va_E) (t2 : Nat × va_E) (t3 : Nat × va_E) (t4 : Nat × va_E) (t5 : Nat × va_E) (t6 : Nat × va_E) (hn : n ≤ 11) (hn6 : 6 ≤ n) (hfn : fn ≤ 10) : ly_l l yy_RG_fetched bb_RG_fetched 1 (some .long) 0 0 D K [.ref ah] (ws_LJ K ah ac ar ap aq ax au ak a0 aw af az n fn lf rb gr ro sr sv up ct al th wr fl sf t1 t2 t3 t4 t5 t6) (fun z => z) (fun _ => (ws_LJ K ah ac ar ap aq ax au ak a0 aw af az n fn lf rb gr ro sr sv up ct al th wr fl sf t1 t2 t3 t4 t5 t6)) (mm_RG_fetched lf) := by
  refine ly_entL (by decide) (Nat.le_of_ble_eq_true rfl) ?_
  intro p e s m av below meth c A ls R Q H locs res hM C hRf hRl hS hP hD hl ret
  obtain ⟨hx, hb, -⟩ := id C
  have hcs : 0 ≤ R.cells ∧ 0 ≤ R.slots := ⟨Nat.zero_le _, Nat.zero_le _⟩
  have hl : lv_has ls 1 [(0, .ref ah)] := hl
  rw [mm_RG_fetched] at hM
  refine lv_aload_n hx hb dd_RG_fetched_0 rfl (lv_at hl 0 rfl) ?_
  refine ly_get (v := .long lf) C hP 0 rfl uw_RG rfl 5 (by decide) wa_83 rfl dd_RG_fetched_1 ?_
  exact ret lf H locs 4 ls hM hS hP hD dd_RG_fetched_4

def mm_RG_revive (x : Int32) (up : Nat → Int32) : Int32 × (Nat → Int32) := (if (mm_RG_isNode x) = (0 : Int32) then ((0 : Int32), up) else (if (up (x.toNatClampNeg)) = (0 : Int32) then ((1 : Int32), (upd up (x.toNatClampNeg) (1 : Int32))) else ((0 : Int32), up)))
set_option maxHeartbeats 4000000 in
set_option maxRecDepth 100000 in
theorem cc_RG_revive {l : Launch} (D : va_G) (K : Nat → ClassId) (ah ac ar ap aq ax au ak a0 aw af az : Nat) (x : Int32) (n : Nat) (fn : Nat) (lf : Int64) (rb : Int64) (gr : Int32) (ro : Nat → Int64) (sr : Nat → Int64) (sv : Nat → Int64) (up : Nat → Int32) (ct : Nat → Int32) (al : Int32) (th : Int32) (wr : Nat → Int64) (fl : Nat → Int64) (sf : Nat → Option Nat) (t1 : Nat × va_E) (t2 : Nat × va_E) (t3 : Nat × va_E) (t4 : Nat × va_E) (t5 : Nat × va_E) (t6 : Nat × va_E) (hn : n ≤ 11) (hn6 : 6 ≤ n) (hfn : fn ≤ 10) : ly_i l yy_RG_revive bb_RG_revive 2 (some .boolean) 1 20 D K [.ref ah, .int x] (ws_LJ K ah ac ar ap aq ax au ak a0 aw af az n fn lf rb gr ro sr sv up ct al th wr fl sf t1 t2 t3 t4 t5 t6) (fun z => z.1) (fun z => (ws_LJ K ah ac ar ap aq ax au ak a0 aw af az n fn lf rb gr ro sr sv (z.2) ct al th wr fl sf t1 t2 t3 t4 t5 t6)) (mm_RG_revive x up) := by
  refine ly_entI (by decide) (Nat.le_of_ble_eq_true rfl) ?_
  intro p e s m av below meth c A ls R Q H locs res hM C hRf hRl hS hP hD hl ret
  obtain ⟨hx, hb, -⟩ := id C
  have hcs : 0 ≤ R.cells ∧ 0 ≤ R.slots := ⟨Nat.zero_le _, Nat.zero_le _⟩
  have hl : lv_has ls 2 [(0, .ref ah), (1, .int x)] := hl
  rw [mm_RG_revive] at hM
  refine lv_iload_n hx hb dd_RG_revive_0 rfl (lv_at hl 1 rfl) ?_
  obtain ⟨r_1, hq1⟩ : ∃ z, z = mm_RG_isNode x := ⟨_, rfl⟩
  try rw [← hq1] at hM
  refine ly_cS_i (n := 1) (z := r_1) (rest := []) (wn := (ws_LJ K ah ac ar ap aq ax au ak a0 aw af az n fn lf rb gr ro sr sv up ct al th wr fl sf t1 t2 t3 t4 t5 t6)) C (cc_RG_isNode D K x) hq1 wa_134 wa_90 wa_62 wa_91 (by decide) (Nat.le_trans (by decide) hRf) (Nat.le_trans (by decide) hRl) rfl hl.1 rfl (Nat.le_of_ble_eq_true rfl) dd_RG_revive_1 hcs [] [0, 1, 2, 3, 4, 5, 6, 7, 8, 9, 10, 11, 12, 13, 14, 15, 16, 17] [0, 1, 2, 3, 4, 5, 6, 7, 8, 9, 10, 11, 12, 13, 14, 15, 16, 17] hP hD hS rfl rfl (by decide) rfl (fun H locs hP hD hS => ?_)
  refine W.eq (g2 := F0 m 4 ls [.int r_1]) rfl ?_
  refine lv_if_eq (tgt := 16) hx hb dd_RG_revive_4 (by decide) (fun h4 => ?_) (fun h4 => ?_)
  · rw [if_pos h4] at hM
    refine lv_iconst (v := (0 : Int32)) hx hb dd_RG_revive_16 (by decide) ?_
    exact ret ((0 : Int32), up) H locs 17 ls hM ly_z0 hS hP hD dd_RG_revive_17
  · rw [if_neg h4] at hM
    obtain ⟨q, hq0, rfl⟩ := in_isNode hq1 h4
    try rw [nI_clamp (n := q) (by omega)] at hM
    refine lv_aload_n hx hb dd_RG_revive_7 rfl (lv_at hl 0 rfl) ?_
    refine ly_get (v := .ref au) C hP 0 rfl uw_RG rfl 3 (by decide) wa_57 rfl dd_RG_revive_8 ?_
    refine lv_iload_n hx hb dd_RG_revive_11 rfl (lv_at hl 1 rfl) ?_
    refine ly_zald C hP 6 rfl q rfl (by omega) (by omega) dd_RG_revive_12 ?_
    refine lv_if_eq (tgt := 18) hx hb dd_RG_revive_13 (by decide) (fun h13 => ?_) (fun h13 => ?_)
    · rw [if_pos h13] at hM
      refine lv_aload_n hx hb dd_RG_revive_18 rfl (lv_at hl 0 rfl) ?_
      refine ly_get (v := .ref au) C hP 0 rfl uw_RG rfl 3 (by decide) wa_57 rfl dd_RG_revive_19 ?_
      refine lv_iload_n hx hb dd_RG_revive_22 rfl (lv_at hl 1 rfl) ?_
      refine lv_iconst (v := (1 : Int32)) hx hb dd_RG_revive_23 (by decide) ?_
      refine ly_zast (ws' := (ws_LJ K ah ac ar ap aq ax au ak a0 aw af az n fn lf rb gr ro sr sv (upd up q (1 : Int32)) ct al th wr fl sf t1 t2 t3 t4 t5 t6)) C hP hD hS 6 rfl (by decide) q rfl (by omega) (by omega) dd_RG_revive_24 rfl (fun H locs hP hD hS => ?_)
      refine lv_iconst (v := (1 : Int32)) hx hb dd_RG_revive_25 (by decide) ?_
      exact ret ((1 : Int32), (upd up q (1 : Int32))) H locs 26 ls hM ly_z1 hS hP hD dd_RG_revive_26
    · rw [if_neg h13] at hM
      refine lv_iconst (v := (0 : Int32)) hx hb dd_RG_revive_16 (by decide) ?_
      exact ret ((0 : Int32), up) H locs 17 ls hM ly_z0 hS hP hD dd_RG_revive_17

def mm_RG_damage (x : Int32) (y : Int32) (w : Int32) (n : Nat) (th : Int32) (fl : Nat → Int64) : Int32 × (Nat → Int64) := (if (mm_RG_isShard x y n) = (0 : Int32) then ((0 : Int32), fl) else (if w < (0 : Int32) then ((0 : Int32), fl) else (if (64 : Int32) ≤ w then ((0 : Int32), fl) else (if (mm_Sq_isThere (y.toNatClampNeg) th) = (0 : Int32) then ((0 : Int32), fl) else ((1 : Int32), (mm_Sq_flip (y.toNatClampNeg) w fl))))))
set_option maxHeartbeats 4000000 in
set_option maxRecDepth 100000 in
theorem cc_RG_damage {l : Launch} (D : va_G) (K : Nat → ClassId) (ah ac ar ap aq ax au ak a0 aw af az : Nat) (x : Int32) (y : Int32) (w : Int32) (n : Nat) (fn : Nat) (lf : Int64) (rb : Int64) (gr : Int32) (ro : Nat → Int64) (sr : Nat → Int64) (sv : Nat → Int64) (up : Nat → Int32) (ct : Nat → Int32) (al : Int32) (th : Int32) (wr : Nat → Int64) (fl : Nat → Int64) (sf : Nat → Option Nat) (t1 : Nat × va_E) (t2 : Nat × va_E) (t3 : Nat × va_E) (t4 : Nat × va_E) (t5 : Nat × va_E) (t6 : Nat × va_E) (hn : n ≤ 11) (hn6 : 6 ≤ n) (hfn : fn ≤ 10) (hsf : ∀ j, j < 3 → x = nI j → sf j = some a0) : ly_i l yy_RG_damage bb_RG_damage 4 (some .boolean) 2 42 D K [.ref ah, .int x, .int y, .int w] (ws_LJ K ah ac ar ap aq ax au ak a0 aw af az n fn lf rb gr ro sr sv up ct al th wr fl sf t1 t2 t3 t4 t5 t6) (fun z => z.1) (fun z => (ws_LJ K ah ac ar ap aq ax au ak a0 aw af az n fn lf rb gr ro sr sv up ct al th wr (z.2) sf t1 t2 t3 t4 t5 t6)) (mm_RG_damage x y w n th fl) := by
  refine ly_entI (by decide) (Nat.le_of_ble_eq_true rfl) ?_
  intro p e s m av below meth c A ls R Q H locs res hM C hRf hRl hS hP hD hl ret
  obtain ⟨hx, hb, -⟩ := id C
  have hcs : 0 ≤ R.cells ∧ 0 ≤ R.slots := ⟨Nat.zero_le _, Nat.zero_le _⟩
  have hl : lv_has ls 4 [(0, .ref ah), (1, .int x), (2, .int y), (3, .int w)] := hl
  rw [mm_RG_damage] at hM
  refine lv_aload_n hx hb dd_RG_damage_0 rfl (lv_at hl 0 rfl) ?_
  refine lv_iload_n hx hb dd_RG_damage_1 rfl (lv_at hl 1 rfl) ?_
  refine lv_iload_n hx hb dd_RG_damage_2 rfl (lv_at hl 2 rfl) ?_
  obtain ⟨r_3, hq3⟩ : ∃ z, z = mm_RG_isShard x y n := ⟨_, rfl⟩
  try rw [← hq3] at hM
  refine ly_cV_i (n := 2) (z := r_3) (rest := []) (wn := (ws_LJ K ah ac ar ap aq ax au ak a0 aw af az n fn lf rb gr ro sr sv up ct al th wr fl sf t1 t2 t3 t4 t5 t6)) C (cc_RG_isShard D K ah ac ap az au ak ar x y n lf rb gr (by omega)) hq3 wa_133 wa_80 wa_62 wa_81 wa_82 (by decide) (Nat.le_trans (by decide) hRf) (Nat.le_trans (by decide) hRl) rfl hl.1 rfl (Nat.le_of_ble_eq_true rfl) dd_RG_damage_3 hcs [0, 1] [2, 3, 4, 5, 6, 7, 8, 9, 10, 11, 12, 13, 14, 15, 16, 17] [16, 17, 0, 1, 2, 3, 4, 5, 6, 7, 8, 9, 10, 11, 12, 13, 14, 15] hP hD hS rfl rfl (by decide) rfl rfl rfl (fun H locs hP hD hS => ?_)
  refine W.eq (g2 := F0 m 6 ls [.int r_3]) rfl ?_
  refine lv_if_eq (tgt := 32) hx hb dd_RG_damage_6 (by decide) (fun h6 => ?_) (fun h6 => ?_)
  · rw [if_pos h6] at hM
    refine lv_iconst (v := (0 : Int32)) hx hb dd_RG_damage_32 (by decide) ?_
    exact ret ((0 : Int32), fl) H locs 33 ls hM ly_z0 hS hP hD dd_RG_damage_33
  · rw [if_neg h6] at hM
    refine lv_iload_n hx hb dd_RG_damage_9 rfl (lv_at hl 3 rfl) ?_
    refine lv_if_lt (tgt := 32) hx hb dd_RG_damage_10 (by decide) (fun h10 => ?_) (fun h10 => ?_)
    · rw [if_pos h10] at hM
      refine lv_iconst (v := (0 : Int32)) hx hb dd_RG_damage_32 (by decide) ?_
      exact ret ((0 : Int32), fl) H locs 33 ls hM ly_z0 hS hP hD dd_RG_damage_33
    · rw [if_neg h10] at hM
      refine lv_iload_n hx hb dd_RG_damage_13 rfl (lv_at hl 3 rfl) ?_
      refine lv_bipush (v := (64 : Int32)) hx hb dd_RG_damage_14 (by decide) ?_
      refine lv_icmp_ge (tgt := 32) hx hb dd_RG_damage_16 (by decide) (fun h16 => ?_) (fun h16 => ?_)
      · rw [if_pos h16] at hM
        refine lv_iconst (v := (0 : Int32)) hx hb dd_RG_damage_32 (by decide) ?_
        exact ret ((0 : Int32), fl) H locs 33 ls hM ly_z0 hS hP hD dd_RG_damage_33
      · rw [if_neg h16] at hM
        obtain ⟨sj, hsj, hse, i, hi, rfl⟩ := in_isShard hn hq3 h6
        try rw [nI_clamp (n := i) (by omega)] at hM
        refine lv_aload_n hx hb dd_RG_damage_19 rfl (lv_at hl 0 rfl) ?_
        refine ly_get (v := .ref az) C hP 0 rfl uw_RG rfl 2 (by decide) wa_51 rfl dd_RG_damage_20 ?_
        refine lv_iload_n hx hb dd_RG_damage_23 rfl (lv_at hl 1 rfl) ?_
        refine ly_aldq (b := a0) C hP 11 rfl rfl sj hse hsj (by omega) (hsf sj hsj hse) dd_RG_damage_24 ?_
        refine lv_iload_n hx hb dd_RG_damage_25 rfl (lv_at hl 2 rfl) ?_
        obtain ⟨r_26, hq26⟩ : ∃ z, z = mm_Sq_isThere i th := ⟨_, rfl⟩
        try rw [← hq26] at hM
        refine ly_cV_i (n := 1) (z := r_26) (rest := []) (wn := (ws_LJ K ah ac ar ap aq ax au ak a0 aw af az n fn lf rb gr ro sr sv up ct al th wr fl sf t1 t2 t3 t4 t5 t6)) C (cc_Sq_isThere D K a0 aw af i n fn al th wr fl (by omega) (by omega)) hq26 wa_244 wa_64 wa_53 wa_65 wa_66 (by decide) (Nat.le_trans (by decide) hRf) (Nat.le_trans (by decide) hRl) rfl hl.1 rfl (Nat.le_of_ble_eq_true rfl) dd_RG_damage_26 hcs [8, 9, 10] [0, 1, 2, 3, 4, 5, 6, 7, 11, 12, 13, 14, 15, 16, 17] [0, 1, 2, 3, 4, 5, 6, 7, 15, 16, 17, 8, 9, 10, 11, 12, 13, 14] hP hD hS rfl rfl (by decide) rfl rfl rfl (fun H locs hP hD hS => ?_)
        refine W.eq (g2 := F0 m 29 ls [.int r_26]) rfl ?_
        refine lv_if_ne (tgt := 34) hx hb dd_RG_damage_29 (by decide) (fun h29 => ?_) (fun h29 => ?_)
        · rw [if_neg h29] at hM
          refine lv_aload_n hx hb dd_RG_damage_34 rfl (lv_at hl 0 rfl) ?_
          refine ly_get (v := .ref az) C hP 0 rfl uw_RG rfl 2 (by decide) wa_51 rfl dd_RG_damage_35 ?_
          refine lv_iload_n hx hb dd_RG_damage_38 rfl (lv_at hl 1 rfl) ?_
          refine ly_aldq (b := a0) C hP 11 rfl rfl sj hse hsj (by omega) (hsf sj hsj hse) dd_RG_damage_39 ?_
          refine lv_iload_n hx hb dd_RG_damage_40 rfl (lv_at hl 2 rfl) ?_
          refine lv_iload_n hx hb dd_RG_damage_41 rfl (lv_at hl 3 rfl) ?_
          obtain ⟨fl_42, hq42⟩ : ∃ z, z = mm_Sq_flip i w fl := ⟨_, rfl⟩
          try rw [← hq42] at hM
          refine ly_cV_v (n := 2) (z := fl_42) (rest := []) (wn := (ws_LJ K ah ac ar ap aq ax au ak a0 aw af az n fn lf rb gr ro sr sv up ct al th wr fl_42 sf t1 t2 t3 t4 t5 t6)) C (cc_Sq_flip D K a0 aw af i w n fn al th wr fl (by omega) (by omega) (by omega)) hq42 wa_248 wa_97 wa_53 wa_98 wa_99 (by decide) (Nat.le_trans (by decide) hRf) (Nat.le_trans (by decide) hRl) rfl hl.1 rfl (Nat.le_of_ble_eq_true rfl) dd_RG_damage_42 hcs [8, 9, 10] [0, 1, 2, 3, 4, 5, 6, 7, 11, 12, 13, 14, 15, 16, 17] [0, 1, 2, 3, 4, 5, 6, 7, 15, 16, 17, 8, 9, 10, 11, 12, 13, 14] hP hD hS rfl rfl (by decide) rfl rfl rfl (fun H locs hP hD hS => ?_)
          refine W.eq (g2 := F0 m 45 ls []) rfl ?_
          refine lv_iconst (v := (1 : Int32)) hx hb dd_RG_damage_45 (by decide) ?_
          exact ret ((1 : Int32), fl_42) H locs 46 ls hM ly_z1 hS hP hD dd_RG_damage_46
        · rw [if_pos h29] at hM
          refine lv_iconst (v := (0 : Int32)) hx hb dd_RG_damage_32 (by decide) ?_
          exact ret ((0 : Int32), fl) H locs 33 ls hM ly_z0 hS hP hD dd_RG_damage_33

def mm_RG_repair (x : Int32) (y : Int32) (n : Nat) (fn : Nat) (rb : Int64) (gr : Int32) (ro : Nat → Int64) (sr : Nat → Int64) (sv : Nat → Int64) (up : Nat → Int32) (ct : Nat → Int32) (al : Int32) (th : Int32) (wr : Nat → Int64) (fl : Nat → Int64) : Int32 × (Int64) × (Nat → Int64) × (Nat → Int64) × (Nat → Int32) × (Int32) × (Nat → Int64) × (Nat → Int64) := (if (mm_RG_isShard x y n) = (0 : Int32) then ((-1 : Int32), rb, sr, sv, ct, th, wr, fl) else (if (mm_Sq_isThere (y.toNatClampNeg) th) = (0 : Int32) then (if (up ((fn + (y.toNatClampNeg)) % 12)) = (0 : Int32) then ((-3 : Int32), rb, sr, sv, ct, th, wr, fl) else (match mm_RG_rebuild (y.toNatClampNeg) n fn rb gr ro sr sv ct al th wr fl with | (r_48, rb_48, sr_48, sv_48, ct_48, th_48, wr_48, fl_48) => (r_48, rb_48, sr_48, sv_48, ct_48, th_48, wr_48, fl_48))) else ((-2 : Int32), rb, sr, sv, ct, th, wr, fl)))
set_option maxHeartbeats 4000000 in
set_option maxRecDepth 100000 in
theorem cc_RG_repair {l : Launch} (D : va_G) (K : Nat → ClassId) (ah ac ar ap aq ax au ak a0 aw af az : Nat) (x : Int32) (y : Int32) (n : Nat) (fn : Nat) (lf : Int64) (rb : Int64) (gr : Int32) (ro : Nat → Int64) (sr : Nat → Int64) (sv : Nat → Int64) (up : Nat → Int32) (ct : Nat → Int32) (al : Int32) (th : Int32) (wr : Nat → Int64) (fl : Nat → Int64) (sf : Nat → Option Nat) (t1 : Nat × va_E) (t2 : Nat × va_E) (t3 : Nat × va_E) (t4 : Nat × va_E) (t5 : Nat × va_E) (t6 : Nat × va_E) (hn : n ≤ 11) (hn6 : 6 ≤ n) (hfn : fn ≤ 10) (hsf : ∀ j, j < 3 → x = nI j → sf j = some a0) : ly_i l yy_RG_repair bb_RG_repair 4 (some .int) 7 178 D K [.ref ah, .int x, .int y] (ws_LJ K ah ac ar ap aq ax au ak a0 aw af az n fn lf rb gr ro sr sv up ct al th wr fl sf t1 t2 t3 t4 t5 t6) (fun z => z.1) (fun z => (ws_LJ K ah ac ar ap aq ax au ak a0 aw af az n fn lf (z.2.1) gr ro (z.2.2.1) (z.2.2.2.1) up (z.2.2.2.2.1) al (z.2.2.2.2.2.1) (z.2.2.2.2.2.2.1) (z.2.2.2.2.2.2.2) sf t1 t2 t3 t4 t5 t6)) (mm_RG_repair x y n fn rb gr ro sr sv up ct al th wr fl) := by
  refine ly_entI (by decide) (Nat.le_of_ble_eq_true rfl) ?_
  intro p e s m av below meth c A ls R Q H locs res hM C hRf hRl hS hP hD hl ret
  obtain ⟨hx, hb, -⟩ := id C
  have hcs : 0 ≤ R.cells ∧ 0 ≤ R.slots := ⟨Nat.zero_le _, Nat.zero_le _⟩
  have hl : lv_has ls 4 [(0, .ref ah), (1, .int x), (2, .int y)] := hl
  rw [mm_RG_repair] at hM
  refine lv_aload_n hx hb dd_RG_repair_0 rfl (lv_at hl 0 rfl) ?_
  refine lv_iload_n hx hb dd_RG_repair_1 rfl (lv_at hl 1 rfl) ?_
  refine lv_iload_n hx hb dd_RG_repair_2 rfl (lv_at hl 2 rfl) ?_
  obtain ⟨r_3, hq3⟩ : ∃ z, z = mm_RG_isShard x y n := ⟨_, rfl⟩
  try rw [← hq3] at hM
  refine ly_cV_i (n := 2) (z := r_3) (rest := []) (wn := (ws_LJ K ah ac ar ap aq ax au ak a0 aw af az n fn lf rb gr ro sr sv up ct al th wr fl sf t1 t2 t3 t4 t5 t6)) C (cc_RG_isShard D K ah ac ap az au ak ar x y n lf rb gr (by omega)) hq3 wa_133 wa_80 wa_62 wa_81 wa_82 (by decide) (Nat.le_trans (by decide) hRf) (Nat.le_trans (by decide) hRl) rfl hl.1 rfl (Nat.le_of_ble_eq_true rfl) dd_RG_repair_3 hcs [0, 1] [2, 3, 4, 5, 6, 7, 8, 9, 10, 11, 12, 13, 14, 15, 16, 17] [16, 17, 0, 1, 2, 3, 4, 5, 6, 7, 8, 9, 10, 11, 12, 13, 14, 15] hP hD hS rfl rfl (by decide) rfl rfl rfl (fun H locs hP hD hS => ?_)
  refine W.eq (g2 := F0 m 6 ls [.int r_3]) rfl ?_
  refine lv_if_ne (tgt := 11) hx hb dd_RG_repair_6 (by decide) (fun h6 => ?_) (fun h6 => ?_)
  · rw [if_neg h6] at hM
    obtain ⟨sj, hsj, hse, i, hi, rfl⟩ := in_isShard hn hq3 h6
    try rw [nI_clamp (n := i) (by omega)] at hM
    refine lv_aload_n hx hb dd_RG_repair_11 rfl (lv_at hl 0 rfl) ?_
    refine ly_get (v := .ref az) C hP 0 rfl uw_RG rfl 2 (by decide) wa_51 rfl dd_RG_repair_12 ?_
    refine lv_iload_n hx hb dd_RG_repair_15 rfl (lv_at hl 1 rfl) ?_
    refine ly_aldq (b := a0) C hP 11 rfl rfl sj hse hsj (by omega) (hsf sj hsj hse) dd_RG_repair_16 ?_
    refine lv_astore_n (lv' := [(3, .ref a0), (0, .ref ah), (1, .int x), (2, .int (nI i))]) hx hb dd_RG_repair_17 rfl hl (by decide) rfl (fun ls hl => ?_)
    refine lv_aload_n hx hb dd_RG_repair_18 rfl (lv_at hl 0 rfl) ?_
    refine lv_iload_n hx hb dd_RG_repair_19 rfl (lv_at hl 3 rfl) ?_
    obtain ⟨r_20, hq20⟩ : ∃ z, z = mm_Sq_isThere i th := ⟨_, rfl⟩
    try rw [← hq20] at hM
    refine ly_cV_i (n := 1) (z := r_20) (rest := []) (wn := (ws_LJ K ah ac ar ap aq ax au ak a0 aw af az n fn lf rb gr ro sr sv up ct al th wr fl sf t1 t2 t3 t4 t5 t6)) C (cc_Sq_isThere D K a0 aw af i n fn al th wr fl (by omega) (by omega)) hq20 wa_244 wa_64 wa_53 wa_65 wa_66 (by decide) (Nat.le_trans (by decide) hRf) (Nat.le_trans (by decide) hRl) rfl hl.1 rfl (Nat.le_of_ble_eq_true rfl) dd_RG_repair_20 hcs [8, 9, 10] [0, 1, 2, 3, 4, 5, 6, 7, 11, 12, 13, 14, 15, 16, 17] [0, 1, 2, 3, 4, 5, 6, 7, 15, 16, 17, 8, 9, 10, 11, 12, 13, 14] hP hD hS rfl rfl (by decide) rfl rfl rfl (fun H locs hP hD hS => ?_)
    refine W.eq (g2 := F0 m 23 ls [.int r_20]) rfl ?_
    refine lv_if_eq (tgt := 29) hx hb dd_RG_repair_23 (by decide) (fun h23 => ?_) (fun h23 => ?_)
    · rw [if_pos h23] at hM
      refine lv_aload_n hx hb dd_RG_repair_29 rfl (lv_at hl 1 rfl) ?_
      refine ly_get (v := .ref au) C hP 0 rfl uw_RG rfl 3 (by decide) wa_57 rfl dd_RG_repair_30 ?_
      refine lv_aload_n hx hb dd_RG_repair_33 rfl (lv_at hl 0 rfl) ?_
      refine lv_iload_n hx hb dd_RG_repair_34 rfl (lv_at hl 3 rfl) ?_
      refine ly_cV_i (n := 1) (z := (nI ((fn + i) % 12))) (rest := [.ref au]) (wn := (ws_LJ K ah ac ar ap aq ax au ak a0 aw af az n fn lf rb gr ro sr sv up ct al th wr fl sf t1 t2 t3 t4 t5 t6)) C (cc_Sq_nodeOf D K a0 aw af i n fn al th wr fl (by omega) (by omega) (by omega)) rfl wa_243 wa_101 wa_53 wa_102 wa_103 (by decide) (Nat.le_trans (by decide) hRf) (Nat.le_trans (by decide) hRl) rfl hl.1 rfl (Nat.le_of_ble_eq_true rfl) dd_RG_repair_35 hcs [8, 9, 10] [0, 1, 2, 3, 4, 5, 6, 7, 11, 12, 13, 14, 15, 16, 17] [0, 1, 2, 3, 4, 5, 6, 7, 15, 16, 17, 8, 9, 10, 11, 12, 13, 14] hP hD hS rfl rfl (by decide) rfl rfl rfl (fun H locs hP hD hS => ?_)
      refine W.eq (g2 := F0 m 38 ls [.int (nI ((fn + i) % 12)), .ref au]) rfl ?_
      refine ly_zald C hP 6 rfl ((fn + i) % 12) rfl (by omega) (by omega) dd_RG_repair_38 ?_
      refine lv_if_ne (tgt := 45) hx hb dd_RG_repair_39 (by decide) (fun h39 => ?_) (fun h39 => ?_)
      · rw [if_neg h39] at hM
        refine lv_aload_n hx hb dd_RG_repair_45 rfl (lv_at hl 1 rfl) ?_
        refine lv_aload_n hx hb dd_RG_repair_46 rfl (lv_at hl 0 rfl) ?_
        refine lv_iload_n hx hb dd_RG_repair_47 rfl (lv_at hl 3 rfl) ?_
        obtain ⟨⟨r_48, rb_48, sr_48, sv_48, ct_48, th_48, wr_48, fl_48⟩, hq48⟩ : ∃ z, z = mm_RG_rebuild i n fn rb gr ro sr sv ct al th wr fl := ⟨_, rfl⟩
        try rw [← hq48] at hM
        try dsimp only at hM
        refine ly_cV_i (n := 2) (z := (r_48, rb_48, sr_48, sv_48, ct_48, th_48, wr_48, fl_48)) (rest := []) (wn := (ws_LJ K ah ac ar ap aq ax au ak a0 aw af az n fn lf rb_48 gr ro sr_48 sv_48 up ct_48 al th_48 wr_48 fl_48 sf t1 t2 t3 t4 t5 t6)) C (cc_RG_rebuild D K ah ac ar ap aq ax au ak a0 aw af az i n fn lf rb gr ro sr sv up ct al th wr fl (by omega) (by omega) (by omega) (by omega)) hq48 wa_157 wa_104 wa_62 wa_105 wa_106 (by decide) (Nat.le_trans (by decide) hRf) (Nat.le_trans (by decide) hRl) rfl hl.1 rfl (Nat.le_of_ble_eq_true rfl) dd_RG_repair_48 hcs [0, 1, 2, 3, 4, 5, 6, 7, 8, 9, 10] [11, 12, 13, 14, 15, 16, 17] [7, 8, 9, 10, 11, 12, 13, 14, 15, 16, 17, 0, 1, 2, 3, 4, 5, 6] hP hD hS rfl rfl (by decide) rfl rfl rfl (fun H locs hP hD hS => ?_)
        refine W.eq (g2 := F0 m 51 ls [.int r_48]) rfl ?_
        exact ret (r_48, rb_48, sr_48, sv_48, ct_48, th_48, wr_48, fl_48) H locs 51 ls hM rfl hS hP hD dd_RG_repair_51
      · rw [if_pos h39] at hM
        refine lv_bipush (v := (-3 : Int32)) hx hb dd_RG_repair_42 (by decide) ?_
        exact ret ((-3 : Int32), rb, sr, sv, ct, th, wr, fl) H locs 44 ls hM rfl hS hP hD dd_RG_repair_44
    · rw [if_neg h23] at hM
      refine lv_bipush (v := (-2 : Int32)) hx hb dd_RG_repair_26 (by decide) ?_
      exact ret ((-2 : Int32), rb, sr, sv, ct, th, wr, fl) H locs 28 ls hM rfl hS hP hD dd_RG_repair_28
  · rw [if_pos h6] at hM
    refine lv_iconst (v := (-1 : Int32)) hx hb dd_RG_repair_9 (by decide) ?_
    exact ret ((-1 : Int32), rb, sr, sv, ct, th, wr, fl) H locs 10 ls hM rfl hS hP hD dd_RG_repair_10

def mm_RG_mend_L21 (n : Nat) (fn : Nat) (gr : Int32) (ro : Nat → Int64) (up : Nat → Int32) (al : Int32) : Nat → Nat → (Int32) → (Int64) → (Nat → Int64) → (Nat → Int64) → (Nat → Int32) → (Int32) → (Nat → Int64) → (Nat → Int64) → Int32 × (Int64) × (Nat → Int64) × (Nat → Int64) × (Nat → Int32) × (Int32) × (Nat → Int64) × (Nat → Int64)
  | 0, j, v3, rb, sr, sv, ct, th, wr, fl => (v3, rb, sr, sv, ct, th, wr, fl)
  | k + 1, j, v3, rb, sr, sv, ct, th, wr, fl => (match mm_RG_nextToMend n fn gr ro sr sv up al th with | (r_30, sr_30, sv_30) => (if r_30 = (-1 : Int32) then (v3, rb, sr_30, sv_30, ct, th, wr, fl) else (match mm_RG_rebuild (r_30.toNatClampNeg) n fn rb gr ro sr_30 sv_30 ct al th wr fl with | (r_48, rb_48, sr_48, sv_48, ct_48, th_48, wr_48, fl_48) => (if r_48 < (0 : Int32) then (mm_RG_mend_L21 n fn gr ro up al k (j + 1) v3 rb_48 sr_48 sv_48 ct_48 th_48 wr_48 fl_48) else (mm_RG_mend_L21 n fn gr ro up al k (j + 1) (v3 + 1) rb_48 sr_48 sv_48 ct_48 th_48 wr_48 fl_48)))))
def mm_RG_mend (x : Int32) (n : Nat) (fn : Nat) (rb : Int64) (gr : Int32) (ro : Nat → Int64) (sr : Nat → Int64) (sv : Nat → Int64) (up : Nat → Int32) (ct : Nat → Int32) (al : Int32) (th : Int32) (wr : Nat → Int64) (fl : Nat → Int64) : Int32 × (Int64) × (Nat → Int64) × (Nat → Int64) × (Nat → Int32) × (Int32) × (Nat → Int64) × (Nat → Int64) := (if (mm_RG_isStripe x) = (0 : Int32) then ((-1 : Int32), rb, sr, sv, ct, th, wr, fl) else (mm_RG_mend_L21 n fn gr ro up al 64 0 (0 : Int32) rb sr sv ct th wr fl))
set_option maxHeartbeats 4000000 in
set_option maxRecDepth 100000 in
theorem cc_RG_mend {l : Launch} (D : va_G) (K : Nat → ClassId) (ah ac ar ap aq ax au ak a0 aw af az : Nat) (x : Int32) (n : Nat) (fn : Nat) (lf : Int64) (rb : Int64) (gr : Int32) (ro : Nat → Int64) (sr : Nat → Int64) (sv : Nat → Int64) (up : Nat → Int32) (ct : Nat → Int32) (al : Int32) (th : Int32) (wr : Nat → Int64) (fl : Nat → Int64) (sf : Nat → Option Nat) (t1 : Nat × va_E) (t2 : Nat × va_E) (t3 : Nat × va_E) (t4 : Nat × va_E) (t5 : Nat × va_E) (t6 : Nat × va_E) (hn : n ≤ 11) (hn6 : 6 ≤ n) (hfn : fn ≤ 10) (hsf : ∀ j, j < 3 → x = nI j → sf j = some a0) : ly_i l yy_RG_mend bb_RG_mend 6 (some .int) 7 178 D K [.ref ah, .int x] (ws_LJ K ah ac ar ap aq ax au ak a0 aw af az n fn lf rb gr ro sr sv up ct al th wr fl sf t1 t2 t3 t4 t5 t6) (fun z => z.1) (fun z => (ws_LJ K ah ac ar ap aq ax au ak a0 aw af az n fn lf (z.2.1) gr ro (z.2.2.1) (z.2.2.2.1) up (z.2.2.2.2.1) al (z.2.2.2.2.2.1) (z.2.2.2.2.2.2.1) (z.2.2.2.2.2.2.2) sf t1 t2 t3 t4 t5 t6)) (mm_RG_mend x n fn rb gr ro sr sv up ct al th wr fl) := by
  refine ly_entI (by decide) (Nat.le_of_ble_eq_true rfl) ?_
  intro p e s m av below meth c A ls R Q H locs res hM C hRf hRl hS hP hD hl ret
  obtain ⟨hx, hb, -⟩ := id C
  have hcs : 0 ≤ R.cells ∧ 0 ≤ R.slots := ⟨Nat.zero_le _, Nat.zero_le _⟩
  have hl : lv_has ls 6 [(0, .ref ah), (1, .int x)] := hl
  rw [mm_RG_mend] at hM
  refine lv_iload_n hx hb dd_RG_mend_0 rfl (lv_at hl 1 rfl) ?_
  obtain ⟨r_1, hq1⟩ : ∃ z, z = mm_RG_isStripe x := ⟨_, rfl⟩
  try rw [← hq1] at hM
  refine ly_cS_i (n := 1) (z := r_1) (rest := []) (wn := (ws_LJ K ah ac ar ap aq ax au ak a0 aw af az n fn lf rb gr ro sr sv up ct al th wr fl sf t1 t2 t3 t4 t5 t6)) C (cc_RG_isStripe D K x) hq1 wa_132 wa_61 wa_62 wa_63 (by decide) (Nat.le_trans (by decide) hRf) (Nat.le_trans (by decide) hRl) rfl hl.1 rfl (Nat.le_of_ble_eq_true rfl) dd_RG_mend_1 hcs [] [0, 1, 2, 3, 4, 5, 6, 7, 8, 9, 10, 11, 12, 13, 14, 15, 16, 17] [0, 1, 2, 3, 4, 5, 6, 7, 8, 9, 10, 11, 12, 13, 14, 15, 16, 17] hP hD hS rfl rfl (by decide) rfl (fun H locs hP hD hS => ?_)
  refine W.eq (g2 := F0 m 4 ls [.int r_1]) rfl ?_
  refine lv_if_ne (tgt := 9) hx hb dd_RG_mend_4 (by decide) (fun h4 => ?_) (fun h4 => ?_)
  · rw [if_neg h4] at hM
    obtain ⟨sj, hsj, hse⟩ := in_isStripe hq1 h4
    refine lv_aload_n hx hb dd_RG_mend_9 rfl (lv_at hl 0 rfl) ?_
    refine ly_get (v := .ref az) C hP 0 rfl uw_RG rfl 2 (by decide) wa_51 rfl dd_RG_mend_10 ?_
    refine lv_iload_n hx hb dd_RG_mend_13 rfl (lv_at hl 1 rfl) ?_
    refine ly_aldq (b := a0) C hP 11 rfl rfl sj hse hsj (by omega) (hsf sj hsj hse) dd_RG_mend_14 ?_
    refine lv_astore_n (lv' := [(2, .ref a0), (0, .ref ah), (1, .int x)]) hx hb dd_RG_mend_15 rfl hl (by decide) rfl (fun ls hl => ?_)
    refine lv_iconst (v := (0 : Int32)) hx hb dd_RG_mend_16 (by decide) ?_
    refine lv_istore_n (lv' := [(3, .int (0 : Int32)), (2, .ref a0), (0, .ref ah), (1, .int x)]) hx hb dd_RG_mend_17 rfl hl (by decide) rfl (fun ls hl => ?_)
    refine lv_iconst (v := (0 : Int32)) hx hb dd_RG_mend_18 (by decide) ?_
    refine lv_istore (lv' := [(4, .int (0 : Int32)), (3, .int (0 : Int32)), (2, .ref a0), (0, .ref ah), (1, .int x)]) hx hb dd_RG_mend_19 hl (by decide) rfl (fun ls hl => ?_)
    have lp21 : ∀ (k : Nat) (j : Nat) (v3 : Int32) (rb : Int64) (sr : Nat → Int64) (sv : Nat → Int64) (ct : Nat → Int32) (th : Int32) (wr : Nat → Int64) (fl : Nat → Int64) (ls : Array Slot) (H : Heap) (locs : List Loc), j + k = 64 → mm_RG_mend_L21 n fn gr ro up al k j v3 rb sr sv ct th wr fl = res → lv_has ls 6 [(4, .int (nI j)), (3, .int v3), (2, .ref a0), (0, .ref ah), (1, .int x)] → va_P D cl_all (ws_LJ K ah ac ar ap aq ax au ak a0 aw af az n fn lf rb gr ro sr sv up ct al th wr fl sf t1 t2 t3 t4 t5 t6) H → va_D A (ws_LJ K ah ac ar ap aq ax au ak a0 aw af az n fn lf rb gr ro sr sv up ct al th wr fl sf t1 t2 t3 t4 t5 t6) → va_S A s.heap H locs → W p l e R s m av below meth c H locs 0 0 Q (F0 m 21 ls []) := by
      intro k
      induction k with
      | zero =>
        intro j v3 rb sr sv ct th wr fl ls H locs hjk hM hl hP hD hS
        have hj0 : j = 64 := by omega
        subst j
        rw [mm_RG_mend_L21] at hM
        refine lv_iload hx hb dd_RG_mend_21 (lv_at hl 0 rfl) ?_
        refine lv_bipush (v := (64 : Int32)) hx hb dd_RG_mend_23 (by decide) ?_
        refine lv_icmp_ge (tgt := 63) hx hb dd_RG_mend_25 (by decide) (fun _ => ?_) (fun h => absurd (nI_le (a := 64) (b := 64) (by omega) (by omega)) h)
        refine lv_iload_n hx hb dd_RG_mend_63 rfl (lv_at hl 1 rfl) ?_
        exact ret (v3, rb, sr, sv, ct, th, wr, fl) H locs 64 ls hM rfl hS hP hD dd_RG_mend_64
      | succ k ih21 =>
        intro j v3 rb sr sv ct th wr fl ls H locs hjk hM hl hP hD hS
        rw [mm_RG_mend_L21] at hM
        refine lv_iload hx hb dd_RG_mend_21 (lv_at hl 0 rfl) ?_
        refine lv_bipush (v := (64 : Int32)) hx hb dd_RG_mend_23 (by decide) ?_
        refine lv_icmp_ge (tgt := 63) hx hb dd_RG_mend_25 (by decide) (fun h => absurd h (nI_ge (a := j) (b := 64) (by omega) (by omega))) (fun _ => ?_)
        refine lv_aload_n hx hb dd_RG_mend_28 rfl (lv_at hl 3 rfl) ?_
        refine lv_aload_n hx hb dd_RG_mend_29 rfl (lv_at hl 2 rfl) ?_
        obtain ⟨⟨r_30, sr_30, sv_30⟩, hq30⟩ : ∃ z, z = mm_RG_nextToMend n fn gr ro sr sv up al th := ⟨_, rfl⟩
        try rw [← hq30] at hM
        try dsimp only at hM
        refine ly_cV_i (n := 1) (z := (r_30, sr_30, sv_30)) (rest := []) (wn := (ws_LJ K ah ac ar ap aq ax au ak a0 aw af az n fn lf rb gr ro sr_30 sv_30 up ct al th wr fl sf t1 t2 t3 t4 t5 t6)) C (cc_RG_nextToMend D K ah ac ar ap aq ax au ak a0 aw af az n fn lf rb gr ro sr sv up ct al th wr fl (by omega) (by omega) (by omega)) hq30 wa_190 wa_108 wa_62 wa_109 wa_110 (by decide) (Nat.le_trans (by decide) hRf) (Nat.le_trans (by decide) hRl) rfl hl.1 rfl (Nat.le_of_ble_eq_true rfl) dd_RG_mend_30 hcs [0, 1, 2, 3, 4, 5, 6, 7, 8, 9, 10] [11, 12, 13, 14, 15, 16, 17] [7, 8, 9, 10, 11, 12, 13, 14, 15, 16, 17, 0, 1, 2, 3, 4, 5, 6] hP hD hS rfl rfl (by decide) rfl rfl rfl (fun H locs hP hD hS => ?_)
        refine W.eq (g2 := F0 m 33 ls [.int r_30]) rfl ?_
        refine lv_istore (lv' := [(5, .int r_30), (4, .int (nI j)), (3, .int v3), (2, .ref a0), (0, .ref ah), (1, .int x)]) hx hb dd_RG_mend_33 hl (by decide) rfl (fun ls hl => ?_)
        refine lv_iload hx hb dd_RG_mend_35 (lv_at hl 0 rfl) ?_
        refine lv_iconst (v := (-1 : Int32)) hx hb dd_RG_mend_37 (by decide) ?_
        refine lv_icmp_ne (tgt := 44) hx hb dd_RG_mend_38 (by decide) (fun h38 => ?_) (fun h38 => ?_)
        · rw [if_neg h38] at hM
          obtain ⟨i, hi, rfl⟩ := in_nextToMend hq30 h38
          try rw [nI_clamp (n := i) (by omega)] at hM
          refine lv_aload_n hx hb dd_RG_mend_44 rfl (lv_at hl 4 rfl) ?_
          refine lv_aload_n hx hb dd_RG_mend_45 rfl (lv_at hl 3 rfl) ?_
          refine lv_iload hx hb dd_RG_mend_46 (lv_at hl 0 rfl) ?_
          obtain ⟨⟨r_48, rb_48, sr_48, sv_48, ct_48, th_48, wr_48, fl_48⟩, hq48⟩ : ∃ z, z = mm_RG_rebuild i n fn rb gr ro sr_30 sv_30 ct al th wr fl := ⟨_, rfl⟩
          try rw [← hq48] at hM
          try dsimp only at hM
          refine ly_cV_i (n := 2) (z := (r_48, rb_48, sr_48, sv_48, ct_48, th_48, wr_48, fl_48)) (rest := []) (wn := (ws_LJ K ah ac ar ap aq ax au ak a0 aw af az n fn lf rb_48 gr ro sr_48 sv_48 up ct_48 al th_48 wr_48 fl_48 sf t1 t2 t3 t4 t5 t6)) C (cc_RG_rebuild D K ah ac ar ap aq ax au ak a0 aw af az i n fn lf rb gr ro sr_30 sv_30 up ct al th wr fl (by omega) (by omega) (by omega) (by omega)) hq48 wa_157 wa_104 wa_62 wa_105 wa_106 (by decide) (Nat.le_trans (by decide) hRf) (Nat.le_trans (by decide) hRl) rfl hl.1 rfl (Nat.le_of_ble_eq_true rfl) dd_RG_mend_48 hcs [0, 1, 2, 3, 4, 5, 6, 7, 8, 9, 10] [11, 12, 13, 14, 15, 16, 17] [7, 8, 9, 10, 11, 12, 13, 14, 15, 16, 17, 0, 1, 2, 3, 4, 5, 6] hP hD hS rfl rfl (by decide) rfl rfl rfl (fun H locs hP hD hS => ?_)
          refine W.eq (g2 := F0 m 51 ls [.int r_48]) rfl ?_
          refine lv_if_lt (tgt := 57) hx hb dd_RG_mend_51 (by decide) (fun h51 => ?_) (fun h51 => ?_)
          · rw [if_pos h51] at hM
            refine lv_iinc (k := 1) (v := (nI (j + 1))) (lv' := [(4, .int (nI (j + 1))), (5, .int (nI i)), (3, .int v3), (2, .ref a0), (0, .ref ah), (1, .int x)]) hx hb dd_RG_mend_57 hl rfl (ly_incN _) (by decide) rfl (fun ls hl => ?_)
            refine lv_goto (tgt := 21) hx hb dd_RG_mend_60 (by decide) ?_
            exact ih21 (j + 1) v3 rb_48 sr_48 sv_48 ct_48 th_48 wr_48 fl_48 ls H locs (by omega) hM (lv_sub hl [0, 2, 3, 4, 5] rfl) hP hD hS
          · rw [if_neg h51] at hM
            refine lv_iinc (k := 2) (v := (v3 + 1)) (lv' := [(3, .int (v3 + 1)), (5, .int (nI i)), (4, .int (nI j)), (2, .ref a0), (0, .ref ah), (1, .int x)]) hx hb dd_RG_mend_54 hl rfl (ly_inc _) (by decide) rfl (fun ls hl => ?_)
            refine lv_iinc (k := 2) (v := (nI (j + 1))) (lv' := [(4, .int (nI (j + 1))), (3, .int (v3 + 1)), (5, .int (nI i)), (2, .ref a0), (0, .ref ah), (1, .int x)]) hx hb dd_RG_mend_57 hl rfl (ly_incN _) (by decide) rfl (fun ls hl => ?_)
            refine lv_goto (tgt := 21) hx hb dd_RG_mend_60 (by decide) ?_
            exact ih21 (j + 1) (v3 + 1) rb_48 sr_48 sv_48 ct_48 th_48 wr_48 fl_48 ls H locs (by omega) hM (lv_sub hl [0, 1, 3, 4, 5] rfl) hP hD hS
        · rw [if_pos h38] at hM
          refine lv_goto (tgt := 63) hx hb dd_RG_mend_41 (by decide) ?_
          refine lv_iload_n hx hb dd_RG_mend_63 rfl (lv_at hl 2 rfl) ?_
          exact ret (v3, rb, sr_30, sv_30, ct, th, wr, fl) H locs 64 ls hM rfl hS hP hD dd_RG_mend_64
    exact lp21 64 0 (0 : Int32) rb sr sv ct th wr fl ls H locs (by omega) hM (lv_sub hl [0, 1, 2, 3, 4] rfl) hP hD hS
  · rw [if_pos h4] at hM
    refine lv_iconst (v := (-1 : Int32)) hx hb dd_RG_mend_7 (by decide) ?_
    exact ret ((-1 : Int32), rb, sr, sv, ct, th, wr, fl) H locs 8 ls hM rfl hS hP hD dd_RG_mend_8

def mm_RG_scrub_L21 (fl : Nat → Int64) : Nat → Nat → (Int32) → (Nat → Int32) → (Int32) → Int32 × (Nat → Int32) × (Int32)
  | 0, j, v3, ct, th => (v3, ct, th)
  | k + 1, j, v3, ct, th => (if (mm_Sq_isThere j th) = (0 : Int32) then (mm_RG_scrub_L21 fl k (j + 1) v3 ct th) else (match mm_RG_readShard j ct th fl with | (r_46, ct_46, th_46) => (if r_46 = (0 : Int32) then (mm_RG_scrub_L21 fl k (j + 1) (v3 + 1) ct_46 th_46) else (mm_RG_scrub_L21 fl k (j + 1) v3 ct_46 th_46))))
def mm_RG_scrub (x : Int32) (n : Nat) (ct : Nat → Int32) (th : Int32) (fl : Nat → Int64) : Int32 × (Nat → Int32) × (Int32) := (if (mm_RG_isStripe x) = (0 : Int32) then ((-1 : Int32), ct, th) else (mm_RG_scrub_L21 fl n 0 (0 : Int32) ct th))
set_option maxHeartbeats 4000000 in
set_option maxRecDepth 100000 in
theorem cc_RG_scrub {l : Launch} (D : va_G) (K : Nat → ClassId) (ah ac ar ap aq ax au ak a0 aw af az : Nat) (x : Int32) (n : Nat) (fn : Nat) (lf : Int64) (rb : Int64) (gr : Int32) (ro : Nat → Int64) (sr : Nat → Int64) (sv : Nat → Int64) (up : Nat → Int32) (ct : Nat → Int32) (al : Int32) (th : Int32) (wr : Nat → Int64) (fl : Nat → Int64) (sf : Nat → Option Nat) (t1 : Nat × va_E) (t2 : Nat × va_E) (t3 : Nat × va_E) (t4 : Nat × va_E) (t5 : Nat × va_E) (t6 : Nat × va_E) (hn : n ≤ 11) (hn6 : 6 ≤ n) (hfn : fn ≤ 10) (hsf : ∀ j, j < 3 → x = nI j → sf j = some a0) : ly_i l yy_RG_scrub bb_RG_scrub 5 (some .int) 2 43 D K [.ref ah, .int x] (ws_LJ K ah ac ar ap aq ax au ak a0 aw af az n fn lf rb gr ro sr sv up ct al th wr fl sf t1 t2 t3 t4 t5 t6) (fun z => z.1) (fun z => (ws_LJ K ah ac ar ap aq ax au ak a0 aw af az n fn lf rb gr ro sr sv up (z.2.1) al (z.2.2) wr fl sf t1 t2 t3 t4 t5 t6)) (mm_RG_scrub x n ct th fl) := by
  refine ly_entI (by decide) (Nat.le_of_ble_eq_true rfl) ?_
  intro p e s m av below meth c A ls R Q H locs res hM C hRf hRl hS hP hD hl ret
  obtain ⟨hx, hb, -⟩ := id C
  have hcs : 0 ≤ R.cells ∧ 0 ≤ R.slots := ⟨Nat.zero_le _, Nat.zero_le _⟩
  have hl : lv_has ls 5 [(0, .ref ah), (1, .int x)] := hl
  rw [mm_RG_scrub] at hM
  refine lv_iload_n hx hb dd_RG_scrub_0 rfl (lv_at hl 1 rfl) ?_
  obtain ⟨r_1, hq1⟩ : ∃ z, z = mm_RG_isStripe x := ⟨_, rfl⟩
  try rw [← hq1] at hM
  refine ly_cS_i (n := 1) (z := r_1) (rest := []) (wn := (ws_LJ K ah ac ar ap aq ax au ak a0 aw af az n fn lf rb gr ro sr sv up ct al th wr fl sf t1 t2 t3 t4 t5 t6)) C (cc_RG_isStripe D K x) hq1 wa_132 wa_61 wa_62 wa_63 (by decide) (Nat.le_trans (by decide) hRf) (Nat.le_trans (by decide) hRl) rfl hl.1 rfl (Nat.le_of_ble_eq_true rfl) dd_RG_scrub_1 hcs [] [0, 1, 2, 3, 4, 5, 6, 7, 8, 9, 10, 11, 12, 13, 14, 15, 16, 17] [0, 1, 2, 3, 4, 5, 6, 7, 8, 9, 10, 11, 12, 13, 14, 15, 16, 17] hP hD hS rfl rfl (by decide) rfl (fun H locs hP hD hS => ?_)
  refine W.eq (g2 := F0 m 4 ls [.int r_1]) rfl ?_
  refine lv_if_ne (tgt := 9) hx hb dd_RG_scrub_4 (by decide) (fun h4 => ?_) (fun h4 => ?_)
  · rw [if_neg h4] at hM
    obtain ⟨sj, hsj, hse⟩ := in_isStripe hq1 h4
    refine lv_aload_n hx hb dd_RG_scrub_9 rfl (lv_at hl 0 rfl) ?_
    refine ly_get (v := .ref az) C hP 0 rfl uw_RG rfl 2 (by decide) wa_51 rfl dd_RG_scrub_10 ?_
    refine lv_iload_n hx hb dd_RG_scrub_13 rfl (lv_at hl 1 rfl) ?_
    refine ly_aldq (b := a0) C hP 11 rfl rfl sj hse hsj (by omega) (hsf sj hsj hse) dd_RG_scrub_14 ?_
    refine lv_astore_n (lv' := [(2, .ref a0), (0, .ref ah), (1, .int x)]) hx hb dd_RG_scrub_15 rfl hl (by decide) rfl (fun ls hl => ?_)
    refine lv_iconst (v := (0 : Int32)) hx hb dd_RG_scrub_16 (by decide) ?_
    refine lv_istore_n (lv' := [(3, .int (0 : Int32)), (2, .ref a0), (0, .ref ah), (1, .int x)]) hx hb dd_RG_scrub_17 rfl hl (by decide) rfl (fun ls hl => ?_)
    refine lv_iconst (v := (0 : Int32)) hx hb dd_RG_scrub_18 (by decide) ?_
    refine lv_istore (lv' := [(4, .int (0 : Int32)), (3, .int (0 : Int32)), (2, .ref a0), (0, .ref ah), (1, .int x)]) hx hb dd_RG_scrub_19 hl (by decide) rfl (fun ls hl => ?_)
    have lp21 : ∀ (k : Nat) (j : Nat) (v3 : Int32) (ct : Nat → Int32) (th : Int32) (ls : Array Slot) (H : Heap) (locs : List Loc), j + k = n → mm_RG_scrub_L21 fl k j v3 ct th = res → lv_has ls 5 [(4, .int (nI j)), (3, .int v3), (2, .ref a0), (0, .ref ah), (1, .int x)] → va_P D cl_all (ws_LJ K ah ac ar ap aq ax au ak a0 aw af az n fn lf rb gr ro sr sv up ct al th wr fl sf t1 t2 t3 t4 t5 t6) H → va_D A (ws_LJ K ah ac ar ap aq ax au ak a0 aw af az n fn lf rb gr ro sr sv up ct al th wr fl sf t1 t2 t3 t4 t5 t6) → va_S A s.heap H locs → W p l e R s m av below meth c H locs 0 0 Q (F0 m 21 ls []) := by
      intro k
      induction k with
      | zero =>
        intro j v3 ct th ls H locs hjk hM hl hP hD hS
        have hj0 : j = n := by omega
        subst j
        rw [mm_RG_scrub_L21] at hM
        refine lv_iload hx hb dd_RG_scrub_21 (lv_at hl 0 rfl) ?_
        refine lv_aload_n hx hb dd_RG_scrub_23 rfl (lv_at hl 3 rfl) ?_
        refine ly_get (v := .ref ac) C hP 0 rfl uw_RG rfl 0 (by decide) wa_44 rfl dd_RG_scrub_24 ?_
        refine ly_getN (v := .int (nI n)) C hP 1 rfl uw_Co rfl 0 (by decide) nw_1 rfl dd_RG_scrub_27 ?_
        refine lv_icmp_ge (tgt := 61) hx hb dd_RG_scrub_30 (by decide) (fun _ => ?_) (fun h => absurd (nI_le (a := n) (b := n) (by omega) (by omega)) h)
        refine lv_iload_n hx hb dd_RG_scrub_61 rfl (lv_at hl 1 rfl) ?_
        exact ret (v3, ct, th) H locs 62 ls hM rfl hS hP hD dd_RG_scrub_62
      | succ k ih21 =>
        intro j v3 ct th ls H locs hjk hM hl hP hD hS
        rw [mm_RG_scrub_L21] at hM
        refine lv_iload hx hb dd_RG_scrub_21 (lv_at hl 0 rfl) ?_
        refine lv_aload_n hx hb dd_RG_scrub_23 rfl (lv_at hl 3 rfl) ?_
        refine ly_get (v := .ref ac) C hP 0 rfl uw_RG rfl 0 (by decide) wa_44 rfl dd_RG_scrub_24 ?_
        refine ly_getN (v := .int (nI n)) C hP 1 rfl uw_Co rfl 0 (by decide) nw_1 rfl dd_RG_scrub_27 ?_
        refine lv_icmp_ge (tgt := 61) hx hb dd_RG_scrub_30 (by decide) (fun h => absurd h (nI_ge (a := j) (b := n) (by omega) (by omega))) (fun _ => ?_)
        refine lv_aload_n hx hb dd_RG_scrub_33 rfl (lv_at hl 2 rfl) ?_
        refine lv_iload hx hb dd_RG_scrub_34 (lv_at hl 0 rfl) ?_
        obtain ⟨r_36, hq36⟩ : ∃ z, z = mm_Sq_isThere j th := ⟨_, rfl⟩
        try rw [← hq36] at hM
        refine ly_cV_i (n := 1) (z := r_36) (rest := []) (wn := (ws_LJ K ah ac ar ap aq ax au ak a0 aw af az n fn lf rb gr ro sr sv up ct al th wr fl sf t1 t2 t3 t4 t5 t6)) C (cc_Sq_isThere D K a0 aw af j n fn al th wr fl (by omega) (by omega)) hq36 wa_244 wa_64 wa_53 wa_65 wa_66 (by decide) (Nat.le_trans (by decide) hRf) (Nat.le_trans (by decide) hRl) rfl hl.1 rfl (Nat.le_of_ble_eq_true rfl) dd_RG_scrub_36 hcs [8, 9, 10] [0, 1, 2, 3, 4, 5, 6, 7, 11, 12, 13, 14, 15, 16, 17] [0, 1, 2, 3, 4, 5, 6, 7, 15, 16, 17, 8, 9, 10, 11, 12, 13, 14] hP hD hS rfl rfl (by decide) rfl rfl rfl (fun H locs hP hD hS => ?_)
        refine W.eq (g2 := F0 m 39 ls [.int r_36]) rfl ?_
        refine lv_if_eq (tgt := 55) hx hb dd_RG_scrub_39 (by decide) (fun h39 => ?_) (fun h39 => ?_)
        · rw [if_pos h39] at hM
          refine lv_iinc (k := 0) (v := (nI (j + 1))) (lv' := [(4, .int (nI (j + 1))), (3, .int v3), (2, .ref a0), (0, .ref ah), (1, .int x)]) hx hb dd_RG_scrub_55 hl rfl (ly_incN _) (by decide) rfl (fun ls hl => ?_)
          refine lv_goto (tgt := 21) hx hb dd_RG_scrub_58 (by decide) ?_
          exact ih21 (j + 1) v3 ct th ls H locs (by omega) hM (lv_sub hl [0, 1, 2, 3, 4] rfl) hP hD hS
        · rw [if_neg h39] at hM
          refine lv_aload_n hx hb dd_RG_scrub_42 rfl (lv_at hl 3 rfl) ?_
          refine lv_aload_n hx hb dd_RG_scrub_43 rfl (lv_at hl 2 rfl) ?_
          refine lv_iload hx hb dd_RG_scrub_44 (lv_at hl 0 rfl) ?_
          obtain ⟨⟨r_46, ct_46, th_46⟩, hq46⟩ : ∃ z, z = mm_RG_readShard j ct th fl := ⟨_, rfl⟩
          try rw [← hq46] at hM
          try dsimp only at hM
          refine ly_cV_i (n := 2) (z := (r_46, ct_46, th_46)) (rest := []) (wn := (ws_LJ K ah ac ar ap aq ax au ak a0 aw af az n fn lf rb gr ro sr sv up ct_46 al th_46 wr fl sf t1 t2 t3 t4 t5 t6)) C (cc_RG_readShard D K ah ac ar ap aq ax au ak a0 aw af az j n fn lf rb gr ro sr sv up ct al th wr fl (by omega) (by omega) (by omega) (by omega)) hq46 wa_135 wa_67 wa_62 wa_68 wa_69 (by decide) (Nat.le_trans (by decide) hRf) (Nat.le_trans (by decide) hRl) rfl hl.1 rfl (Nat.le_of_ble_eq_true rfl) dd_RG_scrub_46 hcs [0, 1, 2, 3, 4, 5, 6, 7, 8, 9, 10] [11, 12, 13, 14, 15, 16, 17] [7, 8, 9, 10, 11, 12, 13, 14, 15, 16, 17, 0, 1, 2, 3, 4, 5, 6] hP hD hS rfl rfl (by decide) rfl rfl rfl (fun H locs hP hD hS => ?_)
          refine W.eq (g2 := F0 m 49 ls [.int r_46]) rfl ?_
          refine lv_if_ne (tgt := 55) hx hb dd_RG_scrub_49 (by decide) (fun h49 => ?_) (fun h49 => ?_)
          · rw [if_neg h49] at hM
            refine lv_iinc (k := 0) (v := (nI (j + 1))) (lv' := [(4, .int (nI (j + 1))), (3, .int v3), (2, .ref a0), (0, .ref ah), (1, .int x)]) hx hb dd_RG_scrub_55 hl rfl (ly_incN _) (by decide) rfl (fun ls hl => ?_)
            refine lv_goto (tgt := 21) hx hb dd_RG_scrub_58 (by decide) ?_
            exact ih21 (j + 1) v3 ct_46 th_46 ls H locs (by omega) hM (lv_sub hl [0, 1, 2, 3, 4] rfl) hP hD hS
          · rw [if_pos h49] at hM
            refine lv_iinc (k := 1) (v := (v3 + 1)) (lv' := [(3, .int (v3 + 1)), (4, .int (nI j)), (2, .ref a0), (0, .ref ah), (1, .int x)]) hx hb dd_RG_scrub_52 hl rfl (ly_inc _) (by decide) rfl (fun ls hl => ?_)
            refine lv_iinc (k := 1) (v := (nI (j + 1))) (lv' := [(4, .int (nI (j + 1))), (3, .int (v3 + 1)), (2, .ref a0), (0, .ref ah), (1, .int x)]) hx hb dd_RG_scrub_55 hl rfl (ly_incN _) (by decide) rfl (fun ls hl => ?_)
            refine lv_goto (tgt := 21) hx hb dd_RG_scrub_58 (by decide) ?_
            exact ih21 (j + 1) (v3 + 1) ct_46 th_46 ls H locs (by omega) hM (lv_sub hl [0, 1, 2, 3, 4] rfl) hP hD hS
    exact lp21 n 0 (0 : Int32) ct th ls H locs (by omega) hM (lv_sub hl [0, 1, 2, 3, 4] rfl) hP hD hS
  · rw [if_pos h4] at hM
    refine lv_iconst (v := (-1 : Int32)) hx hb dd_RG_scrub_7 (by decide) ?_
    exact ret ((-1 : Int32), ct, th) H locs 8 ls hM rfl hS hP hD dd_RG_scrub_8

def mm_RG_cost (x : Int32) (y : Int32) (n : Nat) (gr : Int32) (ro : Nat → Int64) (sr : Nat → Int64) (sv : Nat → Int64) (al : Int32) (th : Int32) : Int32 × (Nat → Int64) × (Nat → Int64) := (if (mm_RG_isShard x y n) = (0 : Int32) then ((-1 : Int32), sr, sv) else (if (mm_Sq_isThere (y.toNatClampNeg) th) = (0 : Int32) then (match mm_RG_choosePlan (y.toNatClampNeg) n gr ro sr sv al th with | (r_34, sr_34, sv_34) => (if r_34 = (0 : Int32) then ((-4 : Int32), sr_34, sv_34) else ((mm_In_bitCount r_34), sr_34, sv_34))) else ((0 : Int32), sr, sv)))
set_option maxHeartbeats 4000000 in
set_option maxRecDepth 100000 in
theorem cc_RG_cost {l : Launch} (D : va_G) (K : Nat → ClassId) (ah ac ar ap aq ax au ak a0 aw af az : Nat) (x : Int32) (y : Int32) (n : Nat) (fn : Nat) (lf : Int64) (rb : Int64) (gr : Int32) (ro : Nat → Int64) (sr : Nat → Int64) (sv : Nat → Int64) (up : Nat → Int32) (ct : Nat → Int32) (al : Int32) (th : Int32) (wr : Nat → Int64) (fl : Nat → Int64) (sf : Nat → Option Nat) (t1 : Nat × va_E) (t2 : Nat × va_E) (t3 : Nat × va_E) (t4 : Nat × va_E) (t5 : Nat × va_E) (t6 : Nat × va_E) (hn : n ≤ 11) (hn6 : 6 ≤ n) (hfn : fn ≤ 10) (hsf : ∀ j, j < 3 → x = nI j → sf j = some a0) : ly_i l yy_RG_cost bb_RG_cost 4 (some .int) 5 131 D K [.ref ah, .int x, .int y] (ws_LJ K ah ac ar ap aq ax au ak a0 aw af az n fn lf rb gr ro sr sv up ct al th wr fl sf t1 t2 t3 t4 t5 t6) (fun z => z.1) (fun z => (ws_LJ K ah ac ar ap aq ax au ak a0 aw af az n fn lf rb gr ro (z.2.1) (z.2.2) up ct al th wr fl sf t1 t2 t3 t4 t5 t6)) (mm_RG_cost x y n gr ro sr sv al th) := by
  refine ly_entI (by decide) (Nat.le_of_ble_eq_true rfl) ?_
  intro p e s m av below meth c A ls R Q H locs res hM C hRf hRl hS hP hD hl ret
  obtain ⟨hx, hb, -⟩ := id C
  have hcs : 0 ≤ R.cells ∧ 0 ≤ R.slots := ⟨Nat.zero_le _, Nat.zero_le _⟩
  have hl : lv_has ls 4 [(0, .ref ah), (1, .int x), (2, .int y)] := hl
  rw [mm_RG_cost] at hM
  refine lv_aload_n hx hb dd_RG_cost_0 rfl (lv_at hl 0 rfl) ?_
  refine lv_iload_n hx hb dd_RG_cost_1 rfl (lv_at hl 1 rfl) ?_
  refine lv_iload_n hx hb dd_RG_cost_2 rfl (lv_at hl 2 rfl) ?_
  obtain ⟨r_3, hq3⟩ : ∃ z, z = mm_RG_isShard x y n := ⟨_, rfl⟩
  try rw [← hq3] at hM
  refine ly_cV_i (n := 2) (z := r_3) (rest := []) (wn := (ws_LJ K ah ac ar ap aq ax au ak a0 aw af az n fn lf rb gr ro sr sv up ct al th wr fl sf t1 t2 t3 t4 t5 t6)) C (cc_RG_isShard D K ah ac ap az au ak ar x y n lf rb gr (by omega)) hq3 wa_133 wa_80 wa_62 wa_81 wa_82 (by decide) (Nat.le_trans (by decide) hRf) (Nat.le_trans (by decide) hRl) rfl hl.1 rfl (Nat.le_of_ble_eq_true rfl) dd_RG_cost_3 hcs [0, 1] [2, 3, 4, 5, 6, 7, 8, 9, 10, 11, 12, 13, 14, 15, 16, 17] [16, 17, 0, 1, 2, 3, 4, 5, 6, 7, 8, 9, 10, 11, 12, 13, 14, 15] hP hD hS rfl rfl (by decide) rfl rfl rfl (fun H locs hP hD hS => ?_)
  refine W.eq (g2 := F0 m 6 ls [.int r_3]) rfl ?_
  refine lv_if_ne (tgt := 11) hx hb dd_RG_cost_6 (by decide) (fun h6 => ?_) (fun h6 => ?_)
  · rw [if_neg h6] at hM
    obtain ⟨sj, hsj, hse, i, hi, rfl⟩ := in_isShard hn hq3 h6
    try rw [nI_clamp (n := i) (by omega)] at hM
    refine lv_aload_n hx hb dd_RG_cost_11 rfl (lv_at hl 0 rfl) ?_
    refine ly_get (v := .ref az) C hP 0 rfl uw_RG rfl 2 (by decide) wa_51 rfl dd_RG_cost_12 ?_
    refine lv_iload_n hx hb dd_RG_cost_15 rfl (lv_at hl 1 rfl) ?_
    refine ly_aldq (b := a0) C hP 11 rfl rfl sj hse hsj (by omega) (hsf sj hsj hse) dd_RG_cost_16 ?_
    refine lv_iload_n hx hb dd_RG_cost_17 rfl (lv_at hl 2 rfl) ?_
    obtain ⟨r_18, hq18⟩ : ∃ z, z = mm_Sq_isThere i th := ⟨_, rfl⟩
    try rw [← hq18] at hM
    refine ly_cV_i (n := 1) (z := r_18) (rest := []) (wn := (ws_LJ K ah ac ar ap aq ax au ak a0 aw af az n fn lf rb gr ro sr sv up ct al th wr fl sf t1 t2 t3 t4 t5 t6)) C (cc_Sq_isThere D K a0 aw af i n fn al th wr fl (by omega) (by omega)) hq18 wa_244 wa_64 wa_53 wa_65 wa_66 (by decide) (Nat.le_trans (by decide) hRf) (Nat.le_trans (by decide) hRl) rfl hl.1 rfl (Nat.le_of_ble_eq_true rfl) dd_RG_cost_18 hcs [8, 9, 10] [0, 1, 2, 3, 4, 5, 6, 7, 11, 12, 13, 14, 15, 16, 17] [0, 1, 2, 3, 4, 5, 6, 7, 15, 16, 17, 8, 9, 10, 11, 12, 13, 14] hP hD hS rfl rfl (by decide) rfl rfl rfl (fun H locs hP hD hS => ?_)
    refine W.eq (g2 := F0 m 21 ls [.int r_18]) rfl ?_
    refine lv_if_eq (tgt := 26) hx hb dd_RG_cost_21 (by decide) (fun h21 => ?_) (fun h21 => ?_)
    · rw [if_pos h21] at hM
      refine lv_aload_n hx hb dd_RG_cost_26 rfl (lv_at hl 0 rfl) ?_
      refine lv_aload_n hx hb dd_RG_cost_27 rfl (lv_at hl 0 rfl) ?_
      refine ly_get (v := .ref az) C hP 0 rfl uw_RG rfl 2 (by decide) wa_51 rfl dd_RG_cost_28 ?_
      refine lv_iload_n hx hb dd_RG_cost_31 rfl (lv_at hl 1 rfl) ?_
      refine ly_aldq (b := a0) C hP 11 rfl rfl sj hse hsj (by omega) (hsf sj hsj hse) dd_RG_cost_32 ?_
      refine lv_iload_n hx hb dd_RG_cost_33 rfl (lv_at hl 2 rfl) ?_
      obtain ⟨⟨r_34, sr_34, sv_34⟩, hq34⟩ : ∃ z, z = mm_RG_choosePlan i n gr ro sr sv al th := ⟨_, rfl⟩
      try rw [← hq34] at hM
      try dsimp only at hM
      refine ly_cV_i (n := 2) (z := (r_34, sr_34, sv_34)) (rest := []) (wn := (ws_LJ K ah ac ar ap aq ax au ak a0 aw af az n fn lf rb gr ro sr_34 sv_34 up ct al th wr fl sf t1 t2 t3 t4 t5 t6)) C (cc_RG_choosePlan D K ah ac ar ap aq ax au ak a0 aw af az i n fn lf rb gr ro sr sv up ct al th wr fl (by omega) (by omega) (by omega) (by omega)) hq34 wa_178 wa_113 wa_62 wa_114 wa_115 (by decide) (Nat.le_trans (by decide) hRf) (Nat.le_trans (by decide) hRl) rfl hl.1 rfl (Nat.le_of_ble_eq_true rfl) dd_RG_cost_34 hcs [0, 1, 2, 3, 4, 5, 6, 7, 8, 9, 10] [11, 12, 13, 14, 15, 16, 17] [7, 8, 9, 10, 11, 12, 13, 14, 15, 16, 17, 0, 1, 2, 3, 4, 5, 6] hP hD hS rfl rfl (by decide) rfl rfl rfl (fun H locs hP hD hS => ?_)
      refine W.eq (g2 := F0 m 37 ls [.int r_34]) rfl ?_
      refine lv_istore_n (lv' := [(3, .int r_34), (0, .ref ah), (1, .int x), (2, .int (nI i))]) hx hb dd_RG_cost_37 rfl hl (by decide) rfl (fun ls hl => ?_)
      refine lv_iload_n hx hb dd_RG_cost_38 rfl (lv_at hl 0 rfl) ?_
      refine lv_if_ne (tgt := 47) hx hb dd_RG_cost_39 (by decide) (fun h39 => ?_) (fun h39 => ?_)
      · rw [if_neg h39] at hM
        refine lv_iload_n hx hb dd_RG_cost_47 rfl (lv_at hl 0 rfl) ?_
        obtain ⟨r_48, hq48⟩ : ∃ z, z = mm_In_bitCount r_34 := ⟨_, rfl⟩
        try rw [← hq48] at hM
        refine ly_cS_i (n := 1) (z := r_48) (rest := []) (wn := (ws_LJ K ah ac ar ap aq ax au ak a0 aw af az n fn lf rb gr ro sr_34 sv_34 up ct al th wr fl sf t1 t2 t3 t4 t5 t6)) C (cc_In_bitCount D K r_34) hq48 wa_486 wa_116 wa_117 wa_118 (by decide) (Nat.le_trans (by decide) hRf) (Nat.le_trans (by decide) hRl) rfl hl.1 rfl (Nat.le_of_ble_eq_true rfl) dd_RG_cost_48 hcs [] [0, 1, 2, 3, 4, 5, 6, 7, 8, 9, 10, 11, 12, 13, 14, 15, 16, 17] [0, 1, 2, 3, 4, 5, 6, 7, 8, 9, 10, 11, 12, 13, 14, 15, 16, 17] hP hD hS rfl rfl (by decide) rfl (fun H locs hP hD hS => ?_)
        refine W.eq (g2 := F0 m 51 ls [.int r_48]) rfl ?_
        exact ret (r_48, sr_34, sv_34) H locs 51 ls hM rfl hS hP hD dd_RG_cost_51
      · rw [if_pos h39] at hM
        refine lv_bipush (v := (-4 : Int32)) hx hb dd_RG_cost_42 (by decide) ?_
        refine lv_goto (tgt := 51) hx hb dd_RG_cost_44 (by decide) ?_
        exact ret ((-4 : Int32), sr_34, sv_34) H locs 51 ls hM rfl hS hP hD dd_RG_cost_51
    · rw [if_neg h21] at hM
      refine lv_iconst (v := (0 : Int32)) hx hb dd_RG_cost_24 (by decide) ?_
      exact ret ((0 : Int32), sr, sv) H locs 25 ls hM rfl hS hP hD dd_RG_cost_25
  · rw [if_pos h6] at hM
    refine lv_iconst (v := (-1 : Int32)) hx hb dd_RG_cost_9 (by decide) ?_
    exact ret ((-1 : Int32), sr, sv) H locs 10 ls hM rfl hS hP hD dd_RG_cost_10

def mm_RG_rank (x : Int32) (n : Nat) (ro : Nat → Int64) (sr : Nat → Int64) (sv : Nat → Int64) (th : Int32) : Int32 × (Nat → Int64) × (Nat → Int64) := (if (mm_RG_isStripe x) = (0 : Int32) then ((-1 : Int32), sr, sv) else (match mm_RG_independentShards n ro sr sv th with | (r_16, sr_16, sv_16) => ((mm_In_bitCount r_16), sr_16, sv_16)))
set_option maxHeartbeats 4000000 in
set_option maxRecDepth 100000 in
theorem cc_RG_rank {l : Launch} (D : va_G) (K : Nat → ClassId) (ah ac ar ap aq ax au ak a0 aw af az : Nat) (x : Int32) (n : Nat) (fn : Nat) (lf : Int64) (rb : Int64) (gr : Int32) (ro : Nat → Int64) (sr : Nat → Int64) (sv : Nat → Int64) (up : Nat → Int32) (ct : Nat → Int32) (al : Int32) (th : Int32) (wr : Nat → Int64) (fl : Nat → Int64) (sf : Nat → Option Nat) (t1 : Nat × va_E) (t2 : Nat × va_E) (t3 : Nat × va_E) (t4 : Nat × va_E) (t5 : Nat × va_E) (t6 : Nat × va_E) (hn : n ≤ 11) (hn6 : 6 ≤ n) (hfn : fn ≤ 10) (hsf : ∀ j, j < 3 → x = nI j → sf j = some a0) : ly_i l yy_RG_rank bb_RG_rank 2 (some .int) 4 108 D K [.ref ah, .int x] (ws_LJ K ah ac ar ap aq ax au ak a0 aw af az n fn lf rb gr ro sr sv up ct al th wr fl sf t1 t2 t3 t4 t5 t6) (fun z => z.1) (fun z => (ws_LJ K ah ac ar ap aq ax au ak a0 aw af az n fn lf rb gr ro (z.2.1) (z.2.2) up ct al th wr fl sf t1 t2 t3 t4 t5 t6)) (mm_RG_rank x n ro sr sv th) := by
  refine ly_entI (by decide) (Nat.le_of_ble_eq_true rfl) ?_
  intro p e s m av below meth c A ls R Q H locs res hM C hRf hRl hS hP hD hl ret
  obtain ⟨hx, hb, -⟩ := id C
  have hcs : 0 ≤ R.cells ∧ 0 ≤ R.slots := ⟨Nat.zero_le _, Nat.zero_le _⟩
  have hl : lv_has ls 2 [(0, .ref ah), (1, .int x)] := hl
  rw [mm_RG_rank] at hM
  refine lv_iload_n hx hb dd_RG_rank_0 rfl (lv_at hl 1 rfl) ?_
  obtain ⟨r_1, hq1⟩ : ∃ z, z = mm_RG_isStripe x := ⟨_, rfl⟩
  try rw [← hq1] at hM
  refine ly_cS_i (n := 1) (z := r_1) (rest := []) (wn := (ws_LJ K ah ac ar ap aq ax au ak a0 aw af az n fn lf rb gr ro sr sv up ct al th wr fl sf t1 t2 t3 t4 t5 t6)) C (cc_RG_isStripe D K x) hq1 wa_132 wa_61 wa_62 wa_63 (by decide) (Nat.le_trans (by decide) hRf) (Nat.le_trans (by decide) hRl) rfl hl.1 rfl (Nat.le_of_ble_eq_true rfl) dd_RG_rank_1 hcs [] [0, 1, 2, 3, 4, 5, 6, 7, 8, 9, 10, 11, 12, 13, 14, 15, 16, 17] [0, 1, 2, 3, 4, 5, 6, 7, 8, 9, 10, 11, 12, 13, 14, 15, 16, 17] hP hD hS rfl rfl (by decide) rfl (fun H locs hP hD hS => ?_)
  refine W.eq (g2 := F0 m 4 ls [.int r_1]) rfl ?_
  refine lv_if_ne (tgt := 9) hx hb dd_RG_rank_4 (by decide) (fun h4 => ?_) (fun h4 => ?_)
  · rw [if_neg h4] at hM
    obtain ⟨sj, hsj, hse⟩ := in_isStripe hq1 h4
    refine lv_aload_n hx hb dd_RG_rank_9 rfl (lv_at hl 0 rfl) ?_
    refine lv_aload_n hx hb dd_RG_rank_10 rfl (lv_at hl 0 rfl) ?_
    refine ly_get (v := .ref az) C hP 0 rfl uw_RG rfl 2 (by decide) wa_51 rfl dd_RG_rank_11 ?_
    refine lv_iload_n hx hb dd_RG_rank_14 rfl (lv_at hl 1 rfl) ?_
    refine ly_aldq (b := a0) C hP 11 rfl rfl sj hse hsj (by omega) (hsf sj hsj hse) dd_RG_rank_15 ?_
    obtain ⟨⟨r_16, sr_16, sv_16⟩, hq16⟩ : ∃ z, z = mm_RG_independentShards n ro sr sv th := ⟨_, rfl⟩
    try rw [← hq16] at hM
    try dsimp only at hM
    refine ly_cV_i (n := 1) (z := (r_16, sr_16, sv_16)) (rest := []) (wn := (ws_LJ K ah ac ar ap aq ax au ak a0 aw af az n fn lf rb gr ro sr_16 sv_16 up ct al th wr fl sf t1 t2 t3 t4 t5 t6)) C (cc_RG_independentShards D K ah ac ar ap aq ax au ak a0 aw af az n fn lf rb gr ro sr sv up ct al th wr fl (by omega) (by omega) (by omega)) hq16 wa_189 wa_120 wa_62 wa_121 wa_122 (by decide) (Nat.le_trans (by decide) hRf) (Nat.le_trans (by decide) hRl) rfl hl.1 rfl (Nat.le_of_ble_eq_true rfl) dd_RG_rank_16 hcs [0, 1, 2, 3, 4, 5, 6, 7, 8, 9, 10] [11, 12, 13, 14, 15, 16, 17] [7, 8, 9, 10, 11, 12, 13, 14, 15, 16, 17, 0, 1, 2, 3, 4, 5, 6] hP hD hS rfl rfl (by decide) rfl rfl rfl (fun H locs hP hD hS => ?_)
    refine W.eq (g2 := F0 m 19 ls [.int r_16]) rfl ?_
    obtain ⟨r_19, hq19⟩ : ∃ z, z = mm_In_bitCount r_16 := ⟨_, rfl⟩
    try rw [← hq19] at hM
    refine ly_cS_i (n := 1) (z := r_19) (rest := []) (wn := (ws_LJ K ah ac ar ap aq ax au ak a0 aw af az n fn lf rb gr ro sr_16 sv_16 up ct al th wr fl sf t1 t2 t3 t4 t5 t6)) C (cc_In_bitCount D K r_16) hq19 wa_486 wa_116 wa_117 wa_118 (by decide) (Nat.le_trans (by decide) hRf) (Nat.le_trans (by decide) hRl) rfl hl.1 rfl (Nat.le_of_ble_eq_true rfl) dd_RG_rank_19 hcs [] [0, 1, 2, 3, 4, 5, 6, 7, 8, 9, 10, 11, 12, 13, 14, 15, 16, 17] [0, 1, 2, 3, 4, 5, 6, 7, 8, 9, 10, 11, 12, 13, 14, 15, 16, 17] hP hD hS rfl rfl (by decide) rfl (fun H locs hP hD hS => ?_)
    refine W.eq (g2 := F0 m 22 ls [.int r_19]) rfl ?_
    exact ret (r_19, sr_16, sv_16) H locs 22 ls hM rfl hS hP hD dd_RG_rank_22
  · rw [if_pos h4] at hM
    refine lv_iconst (v := (-1 : Int32)) hx hb dd_RG_rank_7 (by decide) ?_
    exact ret ((-1 : Int32), sr, sv) H locs 8 ls hM rfl hS hP hD dd_RG_rank_8

def mm_RG_lost (x : Int32) (al : Int32) (th : Int32) : Int32 := (if (mm_RG_isStripe x) = (0 : Int32) then (-1 : Int32) else (mm_Sq_lostMask al th))
set_option maxHeartbeats 4000000 in
set_option maxRecDepth 100000 in
theorem cc_RG_lost {l : Launch} (D : va_G) (K : Nat → ClassId) (ah ac ar ap aq ax au ak a0 aw af az : Nat) (x : Int32) (n : Nat) (fn : Nat) (lf : Int64) (rb : Int64) (gr : Int32) (ro : Nat → Int64) (sr : Nat → Int64) (sv : Nat → Int64) (up : Nat → Int32) (ct : Nat → Int32) (al : Int32) (th : Int32) (wr : Nat → Int64) (fl : Nat → Int64) (sf : Nat → Option Nat) (t1 : Nat × va_E) (t2 : Nat × va_E) (t3 : Nat × va_E) (t4 : Nat × va_E) (t5 : Nat × va_E) (t6 : Nat × va_E) (hn : n ≤ 11) (hn6 : 6 ≤ n) (hfn : fn ≤ 10) (hsf : ∀ j, j < 3 → x = nI j → sf j = some a0) : ly_i l yy_RG_lost bb_RG_lost 2 (some .int) 1 20 D K [.ref ah, .int x] (ws_LJ K ah ac ar ap aq ax au ak a0 aw af az n fn lf rb gr ro sr sv up ct al th wr fl sf t1 t2 t3 t4 t5 t6) (fun z => z) (fun _ => (ws_LJ K ah ac ar ap aq ax au ak a0 aw af az n fn lf rb gr ro sr sv up ct al th wr fl sf t1 t2 t3 t4 t5 t6)) (mm_RG_lost x al th) := by
  refine ly_entI (by decide) (Nat.le_of_ble_eq_true rfl) ?_
  intro p e s m av below meth c A ls R Q H locs res hM C hRf hRl hS hP hD hl ret
  obtain ⟨hx, hb, -⟩ := id C
  have hcs : 0 ≤ R.cells ∧ 0 ≤ R.slots := ⟨Nat.zero_le _, Nat.zero_le _⟩
  have hl : lv_has ls 2 [(0, .ref ah), (1, .int x)] := hl
  rw [mm_RG_lost] at hM
  refine lv_iload_n hx hb dd_RG_lost_0 rfl (lv_at hl 1 rfl) ?_
  obtain ⟨r_1, hq1⟩ : ∃ z, z = mm_RG_isStripe x := ⟨_, rfl⟩
  try rw [← hq1] at hM
  refine ly_cS_i (n := 1) (z := r_1) (rest := []) (wn := (ws_LJ K ah ac ar ap aq ax au ak a0 aw af az n fn lf rb gr ro sr sv up ct al th wr fl sf t1 t2 t3 t4 t5 t6)) C (cc_RG_isStripe D K x) hq1 wa_132 wa_61 wa_62 wa_63 (by decide) (Nat.le_trans (by decide) hRf) (Nat.le_trans (by decide) hRl) rfl hl.1 rfl (Nat.le_of_ble_eq_true rfl) dd_RG_lost_1 hcs [] [0, 1, 2, 3, 4, 5, 6, 7, 8, 9, 10, 11, 12, 13, 14, 15, 16, 17] [0, 1, 2, 3, 4, 5, 6, 7, 8, 9, 10, 11, 12, 13, 14, 15, 16, 17] hP hD hS rfl rfl (by decide) rfl (fun H locs hP hD hS => ?_)
  refine W.eq (g2 := F0 m 4 ls [.int r_1]) rfl ?_
  refine lv_if_eq (tgt := 19) hx hb dd_RG_lost_4 (by decide) (fun h4 => ?_) (fun h4 => ?_)
  · rw [if_pos h4] at hM
    refine lv_iconst (v := (-1 : Int32)) hx hb dd_RG_lost_19 (by decide) ?_
    exact ret (-1 : Int32) H locs 20 ls hM rfl hS hP hD dd_RG_lost_20
  · rw [if_neg h4] at hM
    obtain ⟨sj, hsj, hse⟩ := in_isStripe hq1 h4
    refine lv_aload_n hx hb dd_RG_lost_7 rfl (lv_at hl 0 rfl) ?_
    refine ly_get (v := .ref az) C hP 0 rfl uw_RG rfl 2 (by decide) wa_51 rfl dd_RG_lost_8 ?_
    refine lv_iload_n hx hb dd_RG_lost_11 rfl (lv_at hl 1 rfl) ?_
    refine ly_aldq (b := a0) C hP 11 rfl rfl sj hse hsj (by omega) (hsf sj hsj hse) dd_RG_lost_12 ?_
    obtain ⟨r_13, hq13⟩ : ∃ z, z = mm_Sq_lostMask al th := ⟨_, rfl⟩
    try rw [← hq13] at hM
    refine ly_cV_i (n := 0) (z := r_13) (rest := []) (wn := (ws_LJ K ah ac ar ap aq ax au ak a0 aw af az n fn lf rb gr ro sr sv up ct al th wr fl sf t1 t2 t3 t4 t5 t6)) C (cc_Sq_lostMask D K a0 aw af n fn al th wr fl (by omega) (by omega)) hq13 wa_245 wa_124 wa_53 wa_125 wa_126 (by decide) (Nat.le_trans (by decide) hRf) (Nat.le_trans (by decide) hRl) rfl hl.1 rfl (Nat.le_of_ble_eq_true rfl) dd_RG_lost_13 hcs [8, 9, 10] [0, 1, 2, 3, 4, 5, 6, 7, 11, 12, 13, 14, 15, 16, 17] [0, 1, 2, 3, 4, 5, 6, 7, 15, 16, 17, 8, 9, 10, 11, 12, 13, 14] hP hD hS rfl rfl (by decide) rfl rfl rfl (fun H locs hP hD hS => ?_)
    refine W.eq (g2 := F0 m 16 ls [.int r_13]) rfl ?_
    refine lv_goto (tgt := 20) hx hb dd_RG_lost_16 (by decide) ?_
    exact ret r_13 H locs 20 ls hM rfl hS hP hD dd_RG_lost_20

def mm_RG_content (x : Int32) (y : Int32) (n : Nat) (th : Int32) (wr : Nat → Int64) (fl : Nat → Int64) : Int64 := (if (mm_RG_isShard x y n) = (0 : Int32) then (0 : Int64) else (if (mm_Sq_isThere (y.toNatClampNeg) th) = (0 : Int32) then (0 : Int64) else (mm_Sq_held (y.toNatClampNeg) wr fl)))
set_option maxHeartbeats 4000000 in
set_option maxRecDepth 100000 in
theorem cc_RG_content {l : Launch} (D : va_G) (K : Nat → ClassId) (ah ac ar ap aq ax au ak a0 aw af az : Nat) (x : Int32) (y : Int32) (n : Nat) (fn : Nat) (lf : Int64) (rb : Int64) (gr : Int32) (ro : Nat → Int64) (sr : Nat → Int64) (sv : Nat → Int64) (up : Nat → Int32) (ct : Nat → Int32) (al : Int32) (th : Int32) (wr : Nat → Int64) (fl : Nat → Int64) (sf : Nat → Option Nat) (t1 : Nat × va_E) (t2 : Nat × va_E) (t3 : Nat × va_E) (t4 : Nat × va_E) (t5 : Nat × va_E) (t6 : Nat × va_E) (hn : n ≤ 11) (hn6 : 6 ≤ n) (hfn : fn ≤ 10) (hsf : ∀ j, j < 3 → x = nI j → sf j = some a0) : ly_l l yy_RG_content bb_RG_content 3 (some .long) 2 42 D K [.ref ah, .int x, .int y] (ws_LJ K ah ac ar ap aq ax au ak a0 aw af az n fn lf rb gr ro sr sv up ct al th wr fl sf t1 t2 t3 t4 t5 t6) (fun z => z) (fun _ => (ws_LJ K ah ac ar ap aq ax au ak a0 aw af az n fn lf rb gr ro sr sv up ct al th wr fl sf t1 t2 t3 t4 t5 t6)) (mm_RG_content x y n th wr fl) := by
  refine ly_entL (by decide) (Nat.le_of_ble_eq_true rfl) ?_
  intro p e s m av below meth c A ls R Q H locs res hM C hRf hRl hS hP hD hl ret
  obtain ⟨hx, hb, -⟩ := id C
  have hcs : 0 ≤ R.cells ∧ 0 ≤ R.slots := ⟨Nat.zero_le _, Nat.zero_le _⟩
  have hl : lv_has ls 3 [(0, .ref ah), (1, .int x), (2, .int y)] := hl
  rw [mm_RG_content] at hM
  refine lv_aload_n hx hb dd_RG_content_0 rfl (lv_at hl 0 rfl) ?_
  refine lv_iload_n hx hb dd_RG_content_1 rfl (lv_at hl 1 rfl) ?_
  refine lv_iload_n hx hb dd_RG_content_2 rfl (lv_at hl 2 rfl) ?_
  obtain ⟨r_3, hq3⟩ : ∃ z, z = mm_RG_isShard x y n := ⟨_, rfl⟩
  try rw [← hq3] at hM
  refine ly_cV_i (n := 2) (z := r_3) (rest := []) (wn := (ws_LJ K ah ac ar ap aq ax au ak a0 aw af az n fn lf rb gr ro sr sv up ct al th wr fl sf t1 t2 t3 t4 t5 t6)) C (cc_RG_isShard D K ah ac ap az au ak ar x y n lf rb gr (by omega)) hq3 wa_133 wa_80 wa_62 wa_81 wa_82 (by decide) (Nat.le_trans (by decide) hRf) (Nat.le_trans (by decide) hRl) rfl hl.1 rfl (Nat.le_of_ble_eq_true rfl) dd_RG_content_3 hcs [0, 1] [2, 3, 4, 5, 6, 7, 8, 9, 10, 11, 12, 13, 14, 15, 16, 17] [16, 17, 0, 1, 2, 3, 4, 5, 6, 7, 8, 9, 10, 11, 12, 13, 14, 15] hP hD hS rfl rfl (by decide) rfl rfl rfl (fun H locs hP hD hS => ?_)
  refine W.eq (g2 := F0 m 6 ls [.int r_3]) rfl ?_
  refine lv_if_eq (tgt := 35) hx hb dd_RG_content_6 (by decide) (fun h6 => ?_) (fun h6 => ?_)
  · rw [if_pos h6] at hM
    refine lv_lconst (v := (0 : Int64)) hx hb dd_RG_content_35 (by decide) ?_
    exact ret (0 : Int64) H locs 36 ls hM hS hP hD dd_RG_content_36
  · rw [if_neg h6] at hM
    obtain ⟨sj, hsj, hse, i, hi, rfl⟩ := in_isShard hn hq3 h6
    try rw [nI_clamp (n := i) (by omega)] at hM
    refine lv_aload_n hx hb dd_RG_content_9 rfl (lv_at hl 0 rfl) ?_
    refine ly_get (v := .ref az) C hP 0 rfl uw_RG rfl 2 (by decide) wa_51 rfl dd_RG_content_10 ?_
    refine lv_iload_n hx hb dd_RG_content_13 rfl (lv_at hl 1 rfl) ?_
    refine ly_aldq (b := a0) C hP 11 rfl rfl sj hse hsj (by omega) (hsf sj hsj hse) dd_RG_content_14 ?_
    refine lv_iload_n hx hb dd_RG_content_15 rfl (lv_at hl 2 rfl) ?_
    obtain ⟨r_16, hq16⟩ : ∃ z, z = mm_Sq_isThere i th := ⟨_, rfl⟩
    try rw [← hq16] at hM
    refine ly_cV_i (n := 1) (z := r_16) (rest := []) (wn := (ws_LJ K ah ac ar ap aq ax au ak a0 aw af az n fn lf rb gr ro sr sv up ct al th wr fl sf t1 t2 t3 t4 t5 t6)) C (cc_Sq_isThere D K a0 aw af i n fn al th wr fl (by omega) (by omega)) hq16 wa_244 wa_64 wa_53 wa_65 wa_66 (by decide) (Nat.le_trans (by decide) hRf) (Nat.le_trans (by decide) hRl) rfl hl.1 rfl (Nat.le_of_ble_eq_true rfl) dd_RG_content_16 hcs [8, 9, 10] [0, 1, 2, 3, 4, 5, 6, 7, 11, 12, 13, 14, 15, 16, 17] [0, 1, 2, 3, 4, 5, 6, 7, 15, 16, 17, 8, 9, 10, 11, 12, 13, 14] hP hD hS rfl rfl (by decide) rfl rfl rfl (fun H locs hP hD hS => ?_)
    refine W.eq (g2 := F0 m 19 ls [.int r_16]) rfl ?_
    refine lv_if_eq (tgt := 35) hx hb dd_RG_content_19 (by decide) (fun h19 => ?_) (fun h19 => ?_)
    · rw [if_pos h19] at hM
      refine lv_lconst (v := (0 : Int64)) hx hb dd_RG_content_35 (by decide) ?_
      exact ret (0 : Int64) H locs 36 ls hM hS hP hD dd_RG_content_36
    · rw [if_neg h19] at hM
      refine lv_aload_n hx hb dd_RG_content_22 rfl (lv_at hl 0 rfl) ?_
      refine ly_get (v := .ref az) C hP 0 rfl uw_RG rfl 2 (by decide) wa_51 rfl dd_RG_content_23 ?_
      refine lv_iload_n hx hb dd_RG_content_26 rfl (lv_at hl 1 rfl) ?_
      refine ly_aldq (b := a0) C hP 11 rfl rfl sj hse hsj (by omega) (hsf sj hsj hse) dd_RG_content_27 ?_
      refine lv_iload_n hx hb dd_RG_content_28 rfl (lv_at hl 2 rfl) ?_
      obtain ⟨r_29, hq29⟩ : ∃ z, z = mm_Sq_held i wr fl := ⟨_, rfl⟩
      try rw [← hq29] at hM
      refine ly_cV_l (n := 1) (z := r_29) (rest := []) (wn := (ws_LJ K ah ac ar ap aq ax au ak a0 aw af az n fn lf rb gr ro sr sv up ct al th wr fl sf t1 t2 t3 t4 t5 t6)) C (cc_Sq_held D K a0 aw af i n fn al th wr fl (by omega) (by omega) (by omega)) hq29 wa_247 wa_70 wa_53 wa_71 wa_72 (by decide) (Nat.le_trans (by decide) hRf) (Nat.le_trans (by decide) hRl) rfl hl.1 rfl (Nat.le_of_ble_eq_true rfl) dd_RG_content_29 hcs [8, 9, 10] [0, 1, 2, 3, 4, 5, 6, 7, 11, 12, 13, 14, 15, 16, 17] [0, 1, 2, 3, 4, 5, 6, 7, 15, 16, 17, 8, 9, 10, 11, 12, 13, 14] hP hD hS rfl rfl (by decide) rfl rfl rfl (fun H locs hP hD hS => ?_)
      refine W.eq (g2 := F0 m 32 ls [.long r_29]) rfl ?_
      refine lv_goto (tgt := 36) hx hb dd_RG_content_32 (by decide) ?_
      exact ret r_29 H locs 36 ls hM hS hP hD dd_RG_content_36

def mm_RG_node (x : Int32) (y : Int32) (n : Nat) (fn : Nat) : Int32 := (if (mm_RG_isShard x y n) = (0 : Int32) then (-1 : Int32) else (nI ((fn + (y.toNatClampNeg)) % 12)))
set_option maxHeartbeats 4000000 in
set_option maxRecDepth 100000 in
theorem cc_RG_node {l : Launch} (D : va_G) (K : Nat → ClassId) (ah ac ar ap aq ax au ak a0 aw af az : Nat) (x : Int32) (y : Int32) (n : Nat) (fn : Nat) (lf : Int64) (rb : Int64) (gr : Int32) (ro : Nat → Int64) (sr : Nat → Int64) (sv : Nat → Int64) (up : Nat → Int32) (ct : Nat → Int32) (al : Int32) (th : Int32) (wr : Nat → Int64) (fl : Nat → Int64) (sf : Nat → Option Nat) (t1 : Nat × va_E) (t2 : Nat × va_E) (t3 : Nat × va_E) (t4 : Nat × va_E) (t5 : Nat × va_E) (t6 : Nat × va_E) (hn : n ≤ 11) (hn6 : 6 ≤ n) (hfn : fn ≤ 10) (hsf : ∀ j, j < 3 → x = nI j → sf j = some a0) : ly_i l yy_RG_node bb_RG_node 3 (some .int) 2 42 D K [.ref ah, .int x, .int y] (ws_LJ K ah ac ar ap aq ax au ak a0 aw af az n fn lf rb gr ro sr sv up ct al th wr fl sf t1 t2 t3 t4 t5 t6) (fun z => z) (fun _ => (ws_LJ K ah ac ar ap aq ax au ak a0 aw af az n fn lf rb gr ro sr sv up ct al th wr fl sf t1 t2 t3 t4 t5 t6)) (mm_RG_node x y n fn) := by
  refine ly_entI (by decide) (Nat.le_of_ble_eq_true rfl) ?_
  intro p e s m av below meth c A ls R Q H locs res hM C hRf hRl hS hP hD hl ret
  obtain ⟨hx, hb, -⟩ := id C
  have hcs : 0 ≤ R.cells ∧ 0 ≤ R.slots := ⟨Nat.zero_le _, Nat.zero_le _⟩
  have hl : lv_has ls 3 [(0, .ref ah), (1, .int x), (2, .int y)] := hl
  rw [mm_RG_node] at hM
  refine lv_aload_n hx hb dd_RG_node_0 rfl (lv_at hl 0 rfl) ?_
  refine lv_iload_n hx hb dd_RG_node_1 rfl (lv_at hl 1 rfl) ?_
  refine lv_iload_n hx hb dd_RG_node_2 rfl (lv_at hl 2 rfl) ?_
  obtain ⟨r_3, hq3⟩ : ∃ z, z = mm_RG_isShard x y n := ⟨_, rfl⟩
  try rw [← hq3] at hM
  refine ly_cV_i (n := 2) (z := r_3) (rest := []) (wn := (ws_LJ K ah ac ar ap aq ax au ak a0 aw af az n fn lf rb gr ro sr sv up ct al th wr fl sf t1 t2 t3 t4 t5 t6)) C (cc_RG_isShard D K ah ac ap az au ak ar x y n lf rb gr (by omega)) hq3 wa_133 wa_80 wa_62 wa_81 wa_82 (by decide) (Nat.le_trans (by decide) hRf) (Nat.le_trans (by decide) hRl) rfl hl.1 rfl (Nat.le_of_ble_eq_true rfl) dd_RG_node_3 hcs [0, 1] [2, 3, 4, 5, 6, 7, 8, 9, 10, 11, 12, 13, 14, 15, 16, 17] [16, 17, 0, 1, 2, 3, 4, 5, 6, 7, 8, 9, 10, 11, 12, 13, 14, 15] hP hD hS rfl rfl (by decide) rfl rfl rfl (fun H locs hP hD hS => ?_)
  refine W.eq (g2 := F0 m 6 ls [.int r_3]) rfl ?_
  refine lv_if_eq (tgt := 22) hx hb dd_RG_node_6 (by decide) (fun h6 => ?_) (fun h6 => ?_)
  · rw [if_pos h6] at hM
    refine lv_iconst (v := (-1 : Int32)) hx hb dd_RG_node_22 (by decide) ?_
    exact ret (-1 : Int32) H locs 23 ls hM rfl hS hP hD dd_RG_node_23
  · rw [if_neg h6] at hM
    obtain ⟨sj, hsj, hse, i, hi, rfl⟩ := in_isShard hn hq3 h6
    try rw [nI_clamp (n := i) (by omega)] at hM
    refine lv_aload_n hx hb dd_RG_node_9 rfl (lv_at hl 0 rfl) ?_
    refine ly_get (v := .ref az) C hP 0 rfl uw_RG rfl 2 (by decide) wa_51 rfl dd_RG_node_10 ?_
    refine lv_iload_n hx hb dd_RG_node_13 rfl (lv_at hl 1 rfl) ?_
    refine ly_aldq (b := a0) C hP 11 rfl rfl sj hse hsj (by omega) (hsf sj hsj hse) dd_RG_node_14 ?_
    refine lv_iload_n hx hb dd_RG_node_15 rfl (lv_at hl 2 rfl) ?_
    refine ly_cV_i (n := 1) (z := (nI ((fn + i) % 12))) (rest := []) (wn := (ws_LJ K ah ac ar ap aq ax au ak a0 aw af az n fn lf rb gr ro sr sv up ct al th wr fl sf t1 t2 t3 t4 t5 t6)) C (cc_Sq_nodeOf D K a0 aw af i n fn al th wr fl (by omega) (by omega) (by omega)) rfl wa_243 wa_101 wa_53 wa_102 wa_103 (by decide) (Nat.le_trans (by decide) hRf) (Nat.le_trans (by decide) hRl) rfl hl.1 rfl (Nat.le_of_ble_eq_true rfl) dd_RG_node_16 hcs [8, 9, 10] [0, 1, 2, 3, 4, 5, 6, 7, 11, 12, 13, 14, 15, 16, 17] [0, 1, 2, 3, 4, 5, 6, 7, 15, 16, 17, 8, 9, 10, 11, 12, 13, 14] hP hD hS rfl rfl (by decide) rfl rfl rfl (fun H locs hP hD hS => ?_)
    refine W.eq (g2 := F0 m 19 ls [.int (nI ((fn + i) % 12))]) rfl ?_
    refine lv_goto (tgt := 23) hx hb dd_RG_node_19 (by decide) ?_
    exact ret (nI ((fn + i) % 12)) H locs 23 ls hM rfl hS hP hD dd_RG_node_23

def mm_RG_up (x : Int32) (up : Nat → Int32) : Int32 := (if (mm_RG_isNode x) = (0 : Int32) then (0 : Int32) else (if (up (x.toNatClampNeg)) = (0 : Int32) then (0 : Int32) else (1 : Int32)))
set_option maxHeartbeats 4000000 in
set_option maxRecDepth 100000 in
theorem cc_RG_up {l : Launch} (D : va_G) (K : Nat → ClassId) (ah ac ar ap aq ax au ak a0 aw af az : Nat) (x : Int32) (n : Nat) (fn : Nat) (lf : Int64) (rb : Int64) (gr : Int32) (ro : Nat → Int64) (sr : Nat → Int64) (sv : Nat → Int64) (up : Nat → Int32) (ct : Nat → Int32) (al : Int32) (th : Int32) (wr : Nat → Int64) (fl : Nat → Int64) (sf : Nat → Option Nat) (t1 : Nat × va_E) (t2 : Nat × va_E) (t3 : Nat × va_E) (t4 : Nat × va_E) (t5 : Nat × va_E) (t6 : Nat × va_E) (hn : n ≤ 11) (hn6 : 6 ≤ n) (hfn : fn ≤ 10) : ly_i l yy_RG_up bb_RG_up 2 (some .boolean) 1 20 D K [.ref ah, .int x] (ws_LJ K ah ac ar ap aq ax au ak a0 aw af az n fn lf rb gr ro sr sv up ct al th wr fl sf t1 t2 t3 t4 t5 t6) (fun z => z) (fun _ => (ws_LJ K ah ac ar ap aq ax au ak a0 aw af az n fn lf rb gr ro sr sv up ct al th wr fl sf t1 t2 t3 t4 t5 t6)) (mm_RG_up x up) := by
  refine ly_entI (by decide) (Nat.le_of_ble_eq_true rfl) ?_
  intro p e s m av below meth c A ls R Q H locs res hM C hRf hRl hS hP hD hl ret
  obtain ⟨hx, hb, -⟩ := id C
  have hcs : 0 ≤ R.cells ∧ 0 ≤ R.slots := ⟨Nat.zero_le _, Nat.zero_le _⟩
  have hl : lv_has ls 2 [(0, .ref ah), (1, .int x)] := hl
  rw [mm_RG_up] at hM
  refine lv_iload_n hx hb dd_RG_up_0 rfl (lv_at hl 1 rfl) ?_
  obtain ⟨r_1, hq1⟩ : ∃ z, z = mm_RG_isNode x := ⟨_, rfl⟩
  try rw [← hq1] at hM
  refine ly_cS_i (n := 1) (z := r_1) (rest := []) (wn := (ws_LJ K ah ac ar ap aq ax au ak a0 aw af az n fn lf rb gr ro sr sv up ct al th wr fl sf t1 t2 t3 t4 t5 t6)) C (cc_RG_isNode D K x) hq1 wa_134 wa_90 wa_62 wa_91 (by decide) (Nat.le_trans (by decide) hRf) (Nat.le_trans (by decide) hRl) rfl hl.1 rfl (Nat.le_of_ble_eq_true rfl) dd_RG_up_1 hcs [] [0, 1, 2, 3, 4, 5, 6, 7, 8, 9, 10, 11, 12, 13, 14, 15, 16, 17] [0, 1, 2, 3, 4, 5, 6, 7, 8, 9, 10, 11, 12, 13, 14, 15, 16, 17] hP hD hS rfl rfl (by decide) rfl (fun H locs hP hD hS => ?_)
  refine W.eq (g2 := F0 m 4 ls [.int r_1]) rfl ?_
  refine lv_if_eq (tgt := 20) hx hb dd_RG_up_4 (by decide) (fun h4 => ?_) (fun h4 => ?_)
  · rw [if_pos h4] at hM
    refine lv_iconst (v := (0 : Int32)) hx hb dd_RG_up_20 (by decide) ?_
    exact ret (0 : Int32) H locs 21 ls hM ly_z0 hS hP hD dd_RG_up_21
  · rw [if_neg h4] at hM
    obtain ⟨q, hq0, rfl⟩ := in_isNode hq1 h4
    try rw [nI_clamp (n := q) (by omega)] at hM
    refine lv_aload_n hx hb dd_RG_up_7 rfl (lv_at hl 0 rfl) ?_
    refine ly_get (v := .ref au) C hP 0 rfl uw_RG rfl 3 (by decide) wa_57 rfl dd_RG_up_8 ?_
    refine lv_iload_n hx hb dd_RG_up_11 rfl (lv_at hl 1 rfl) ?_
    refine ly_zald C hP 6 rfl q rfl (by omega) (by omega) dd_RG_up_12 ?_
    refine lv_if_eq (tgt := 20) hx hb dd_RG_up_13 (by decide) (fun h13 => ?_) (fun h13 => ?_)
    · rw [if_pos h13] at hM
      refine lv_iconst (v := (0 : Int32)) hx hb dd_RG_up_20 (by decide) ?_
      exact ret (0 : Int32) H locs 21 ls hM ly_z0 hS hP hD dd_RG_up_21
    · rw [if_neg h13] at hM
      refine lv_iconst (v := (1 : Int32)) hx hb dd_RG_up_16 (by decide) ?_
      refine lv_goto (tgt := 21) hx hb dd_RG_up_17 (by decide) ?_
      exact ret (1 : Int32) H locs 21 ls hM ly_z1 hS hP hD dd_RG_up_21

def mm_RG_count (x : Int32) (ct : Nat → Int32) : Int32 := (if x < (0 : Int32) then (-1 : Int32) else (if (4 : Int32) ≤ x then (-1 : Int32) else (ct (x.toNatClampNeg))))
set_option maxHeartbeats 4000000 in
set_option maxRecDepth 100000 in
theorem cc_RG_count {l : Launch} (D : va_G) (K : Nat → ClassId) (ah ac ar ap aq ax au ak a0 aw af az : Nat) (x : Int32) (n : Nat) (fn : Nat) (lf : Int64) (rb : Int64) (gr : Int32) (ro : Nat → Int64) (sr : Nat → Int64) (sv : Nat → Int64) (up : Nat → Int32) (ct : Nat → Int32) (al : Int32) (th : Int32) (wr : Nat → Int64) (fl : Nat → Int64) (sf : Nat → Option Nat) (t1 : Nat × va_E) (t2 : Nat × va_E) (t3 : Nat × va_E) (t4 : Nat × va_E) (t5 : Nat × va_E) (t6 : Nat × va_E) (hn : n ≤ 11) (hn6 : 6 ≤ n) (hfn : fn ≤ 10) : ly_i l yy_RG_count bb_RG_count 2 (some .int) 0 0 D K [.ref ah, .int x] (ws_LJ K ah ac ar ap aq ax au ak a0 aw af az n fn lf rb gr ro sr sv up ct al th wr fl sf t1 t2 t3 t4 t5 t6) (fun z => z) (fun _ => (ws_LJ K ah ac ar ap aq ax au ak a0 aw af az n fn lf rb gr ro sr sv up ct al th wr fl sf t1 t2 t3 t4 t5 t6)) (mm_RG_count x ct) := by
  refine ly_entI (by decide) (Nat.le_of_ble_eq_true rfl) ?_
  intro p e s m av below meth c A ls R Q H locs res hM C hRf hRl hS hP hD hl ret
  obtain ⟨hx, hb, -⟩ := id C
  have hcs : 0 ≤ R.cells ∧ 0 ≤ R.slots := ⟨Nat.zero_le _, Nat.zero_le _⟩
  have hl : lv_has ls 2 [(0, .ref ah), (1, .int x)] := hl
  rw [mm_RG_count] at hM
  refine lv_iload_n hx hb dd_RG_count_0 rfl (lv_at hl 1 rfl) ?_
  refine lv_if_lt (tgt := 18) hx hb dd_RG_count_1 (by decide) (fun h1 => ?_) (fun h1 => ?_)
  · rw [if_pos h1] at hM
    refine lv_iconst (v := (-1 : Int32)) hx hb dd_RG_count_18 (by decide) ?_
    exact ret (-1 : Int32) H locs 19 ls hM rfl hS hP hD dd_RG_count_19
  · rw [if_neg h1] at hM
    refine lv_iload_n hx hb dd_RG_count_4 rfl (lv_at hl 1 rfl) ?_
    refine lv_iconst (v := (4 : Int32)) hx hb dd_RG_count_5 (by decide) ?_
    refine lv_icmp_ge (tgt := 18) hx hb dd_RG_count_6 (by decide) (fun h6 => ?_) (fun h6 => ?_)
    · rw [if_pos h6] at hM
      refine lv_iconst (v := (-1 : Int32)) hx hb dd_RG_count_18 (by decide) ?_
      exact ret (-1 : Int32) H locs 19 ls hM rfl hS hP hD dd_RG_count_19
    · rw [if_neg h6] at hM
      obtain ⟨q, hq0, rfl⟩ := ly_rng2 (N := 4) h1 h6 (by decide)
      try rw [nI_clamp (n := q) (by omega)] at hM
      refine lv_aload_n hx hb dd_RG_count_9 rfl (lv_at hl 0 rfl) ?_
      refine ly_get (v := .ref ak) C hP 0 rfl uw_RG rfl 4 (by decide) wa_59 rfl dd_RG_count_10 ?_
      refine lv_iload_n hx hb dd_RG_count_13 rfl (lv_at hl 1 rfl) ?_
      refine ly_iald C hP 7 rfl q rfl (by omega) (by omega) dd_RG_count_14 ?_
      refine lv_goto (tgt := 19) hx hb dd_RG_count_15 (by decide) ?_
      exact ret (ct q) H locs 19 ls hM rfl hS hP hD dd_RG_count_19

def mm_RG_size (n : Nat) : Int32 := (nI n)
set_option maxHeartbeats 4000000 in
set_option maxRecDepth 100000 in
theorem cc_RG_size {l : Launch} (D : va_G) (K : Nat → ClassId) (ah ac ar ap aq ax au ak a0 aw af az : Nat) (n : Nat) (fn : Nat) (lf : Int64) (rb : Int64) (gr : Int32) (ro : Nat → Int64) (sr : Nat → Int64) (sv : Nat → Int64) (up : Nat → Int32) (ct : Nat → Int32) (al : Int32) (th : Int32) (wr : Nat → Int64) (fl : Nat → Int64) (sf : Nat → Option Nat) (t1 : Nat × va_E) (t2 : Nat × va_E) (t3 : Nat × va_E) (t4 : Nat × va_E) (t5 : Nat × va_E) (t6 : Nat × va_E) (hn : n ≤ 11) (hn6 : 6 ≤ n) (hfn : fn ≤ 10) : ly_i l yy_RG_size bb_RG_size 1 (some .int) 0 0 D K [.ref ah] (ws_LJ K ah ac ar ap aq ax au ak a0 aw af az n fn lf rb gr ro sr sv up ct al th wr fl sf t1 t2 t3 t4 t5 t6) (fun z => z) (fun _ => (ws_LJ K ah ac ar ap aq ax au ak a0 aw af az n fn lf rb gr ro sr sv up ct al th wr fl sf t1 t2 t3 t4 t5 t6)) (mm_RG_size n) := by
  refine ly_entI (by decide) (Nat.le_of_ble_eq_true rfl) ?_
  intro p e s m av below meth c A ls R Q H locs res hM C hRf hRl hS hP hD hl ret
  obtain ⟨hx, hb, -⟩ := id C
  have hcs : 0 ≤ R.cells ∧ 0 ≤ R.slots := ⟨Nat.zero_le _, Nat.zero_le _⟩
  have hl : lv_has ls 1 [(0, .ref ah)] := hl
  rw [mm_RG_size] at hM
  refine lv_aload_n hx hb dd_RG_size_0 rfl (lv_at hl 0 rfl) ?_
  refine ly_get (v := .ref ac) C hP 0 rfl uw_RG rfl 0 (by decide) wa_44 rfl dd_RG_size_1 ?_
  refine ly_getN (v := .int (nI n)) C hP 1 rfl uw_Co rfl 0 (by decide) nw_1 rfl dd_RG_size_4 ?_
  exact ret (nI n) H locs 7 ls hM rfl hS hP hD dd_RG_size_7

def mm_RG_fail (x : Int32) (n : Nat) (up : Nat → Int32) (th0 : Int32) (th1 : Int32) (th2 : Int32) : Int32 × (Nat → Int32) × (Int32) × (Int32) × (Int32) := (if (mm_RG_isNode x) = (0 : Int32) then ((-1 : Int32), up, th0, th1, th2) else (if (up (x.toNatClampNeg)) = (0 : Int32) then ((-2 : Int32), up, th0, th1, th2) else (match mm_RG_dropShardsOn (nI (x.toNatClampNeg)) n 0 th0 with | (r_46, th_46) => (match mm_RG_dropShardsOn (nI (x.toNatClampNeg)) n 5 th1 with | (r_46b, th_46b) => (match mm_RG_dropShardsOn (nI (x.toNatClampNeg)) n 10 th2 with | (r_46c, th_46c) => (((((0 : Int32) + r_46) + r_46b) + r_46c), (upd up (x.toNatClampNeg) (0 : Int32)), th_46, th_46b, th_46c))))))
set_option maxHeartbeats 4000000 in
set_option maxRecDepth 100000 in
theorem cc_RG_fail {l : Launch} (D : va_G) (K : Nat → ClassId) (ah ac ar ap aq ax au ak az b0 c0 d0 b1 c1 d1 b2 c2 d2 : Nat) (x : Int32) (n : Nat) (lf : Int64) (rb : Int64) (gr : Int32) (ro : Nat → Int64) (sr : Nat → Int64) (sv : Nat → Int64) (up : Nat → Int32) (ct : Nat → Int32) (sf : Nat → Option Nat) (al : Int32) (th0 : Int32) (wr0 : Nat → Int64) (fl0 : Nat → Int64) (th1 : Int32) (wr1 : Nat → Int64) (fl1 : Nat → Int64) (th2 : Int32) (wr2 : Nat → Int64) (fl2 : Nat → Int64) (hn : n ≤ 11) (hn6 : 6 ≤ n) (hs0 : sf 0 = some b0) (hs1 : sf 1 = some b1) (hs2 : sf 2 = some b2) : ly_i l yy_RG_fail bb_RG_fail 4 (some .int) 3 66 D K [.ref ah, .int x] (ws_L3x K ah ac ar ap aq ax au ak az b0 c0 d0 b1 c1 d1 b2 c2 d2 n lf rb gr ro sr sv up ct sf al th0 wr0 fl0 th1 wr1 fl1 th2 wr2 fl2) (fun z => z.1) (fun z => (ws_L3x K ah ac ar ap aq ax au ak az b0 c0 d0 b1 c1 d1 b2 c2 d2 n lf rb gr ro sr sv (z.2.1) ct sf al (z.2.2.1) wr0 fl0 (z.2.2.2.1) wr1 fl1 (z.2.2.2.2) wr2 fl2)) (mm_RG_fail x n up th0 th1 th2) := by
  refine ly_entI (by decide) (Nat.le_of_ble_eq_true rfl) ?_
  intro p e s m av below meth c A ls R Q H locs res hM C hRf hRl hS hP hD hl ret
  obtain ⟨hx, hb, -⟩ := id C
  have hcs : 0 ≤ R.cells ∧ 0 ≤ R.slots := ⟨Nat.zero_le _, Nat.zero_le _⟩
  have hl : lv_has ls 4 [(0, .ref ah), (1, .int x)] := hl
  rw [mm_RG_fail] at hM
  refine lv_iload_n hx hb dd_RG_fail_0 rfl (lv_at hl 1 rfl) ?_
  obtain ⟨r_1, hq1⟩ : ∃ z, z = mm_RG_isNode x := ⟨_, rfl⟩
  try rw [← hq1] at hM
  refine ly_cS_i (n := 1) (z := r_1) (rest := []) (wn := (ws_L3x K ah ac ar ap aq ax au ak az b0 c0 d0 b1 c1 d1 b2 c2 d2 n lf rb gr ro sr sv up ct sf al th0 wr0 fl0 th1 wr1 fl1 th2 wr2 fl2)) C (cc_RG_isNode D K x) hq1 wa_134 wa_90 wa_62 wa_91 (by decide) (Nat.le_trans (by decide) hRf) (Nat.le_trans (by decide) hRl) rfl hl.1 rfl (Nat.le_of_ble_eq_true rfl) dd_RG_fail_1 hcs [] [0, 1, 2, 3, 4, 5, 6, 7, 8, 9, 10, 11, 12, 13, 14, 15, 16, 17] [0, 1, 2, 3, 4, 5, 6, 7, 8, 9, 10, 11, 12, 13, 14, 15, 16, 17] hP hD hS rfl rfl (by decide) rfl (fun H locs hP hD hS => ?_)
  refine W.eq (g2 := F0 m 4 ls [.int r_1]) rfl ?_
  refine lv_if_ne (tgt := 9) hx hb dd_RG_fail_4 (by decide) (fun h4 => ?_) (fun h4 => ?_)
  · rw [if_neg h4] at hM
    obtain ⟨q, hq0, rfl⟩ := in_isNode hq1 h4
    try rw [nI_clamp (n := q) (by omega)] at hM
    refine lv_aload_n hx hb dd_RG_fail_9 rfl (lv_at hl 0 rfl) ?_
    refine ly_get (v := .ref au) C hP 0 rfl uw_RG rfl 3 (by decide) wa_57 rfl dd_RG_fail_10 ?_
    refine lv_iload_n hx hb dd_RG_fail_13 rfl (lv_at hl 1 rfl) ?_
    refine ly_zald C hP 6 rfl q rfl (by omega) (by omega) dd_RG_fail_14 ?_
    refine lv_if_ne (tgt := 21) hx hb dd_RG_fail_15 (by decide) (fun h15 => ?_) (fun h15 => ?_)
    · rw [if_neg h15] at hM
      refine lv_aload_n hx hb dd_RG_fail_21 rfl (lv_at hl 0 rfl) ?_
      refine ly_get (v := .ref au) C hP 0 rfl uw_RG rfl 3 (by decide) wa_57 rfl dd_RG_fail_22 ?_
      refine lv_iload_n hx hb dd_RG_fail_25 rfl (lv_at hl 1 rfl) ?_
      refine lv_iconst (v := (0 : Int32)) hx hb dd_RG_fail_26 (by decide) ?_
      refine ly_zast (ws' := (ws_L3x K ah ac ar ap aq ax au ak az b0 c0 d0 b1 c1 d1 b2 c2 d2 n lf rb gr ro sr sv (upd up q (0 : Int32)) ct sf al th0 wr0 fl0 th1 wr1 fl1 th2 wr2 fl2)) C hP hD hS 6 rfl (by decide) q rfl (by omega) (by omega) dd_RG_fail_27 rfl (fun H locs hP hD hS => ?_)
      refine lv_iconst (v := (0 : Int32)) hx hb dd_RG_fail_28 (by decide) ?_
      refine lv_istore_n (lv' := [(2, .int (0 : Int32)), (0, .ref ah), (1, .int (nI q))]) hx hb dd_RG_fail_29 rfl hl (by decide) rfl (fun ls hl => ?_)
      refine lv_iconst (v := (0 : Int32)) hx hb dd_RG_fail_30 (by decide) ?_
      refine lv_istore_n (lv' := [(3, .int (0 : Int32)), (2, .int (0 : Int32)), (0, .ref ah), (1, .int (nI q))]) hx hb dd_RG_fail_31 rfl hl (by decide) rfl (fun ls hl => ?_)
      refine lv_iload_n hx hb dd_RG_fail_32 rfl (lv_at hl 0 rfl) ?_
      refine lv_iconst (v := (3 : Int32)) hx hb dd_RG_fail_33 (by decide) ?_
      refine lv_icmp_ge (tgt := 57) hx hb dd_RG_fail_34 (by decide) (fun h => absurd h (by decide)) (fun _ => ?_)
      refine lv_iload_n hx hb dd_RG_fail_37 rfl (lv_at hl 1 rfl) ?_
      refine lv_aload_n hx hb dd_RG_fail_38 rfl (lv_at hl 2 rfl) ?_
      refine lv_aload_n hx hb dd_RG_fail_39 rfl (lv_at hl 2 rfl) ?_
      refine ly_get (v := .ref az) C hP 0 rfl uw_RG rfl 2 (by decide) wa_51 rfl dd_RG_fail_40 ?_
      refine lv_iload_n hx hb dd_RG_fail_43 rfl (lv_at hl 0 rfl) ?_
      refine ly_aldq (b := b0) C hP 8 rfl rfl 0 rfl (by decide) (by omega) hs0 dd_RG_fail_44 ?_
      refine lv_iload_n hx hb dd_RG_fail_45 rfl (lv_at hl 3 rfl) ?_
      obtain ⟨⟨r_46, th_46⟩, hq46⟩ : ∃ z, z = mm_RG_dropShardsOn (nI q) n 0 th0 := ⟨_, rfl⟩
      try rw [← hq46] at hM
      try dsimp only at hM
      refine ly_cV_i (n := 2) (z := (r_46, th_46)) (rest := [.int (0 : Int32)]) (wn := (ws_L3x K ah ac ar ap aq ax au ak az b0 c0 d0 b1 c1 d1 b2 c2 d2 n lf rb gr ro sr sv (upd up q (0 : Int32)) ct sf al th_46 wr0 fl0 th1 wr1 fl1 th2 wr2 fl2)) C (cc_RG_dropShardsOn D K ah ac ar ap aq ax au ak b0 c0 d0 az (nI q) n 0 lf rb gr ro sr sv (upd up q (0 : Int32)) ct al th0 wr0 fl0 (by omega) (by omega) (by omega)) hq46 wa_156 wa_92 wa_62 wa_93 wa_94 (by decide) (Nat.le_trans (by decide) hRf) (Nat.le_trans (by decide) hRl) rfl hl.1 rfl (Nat.le_of_ble_eq_true rfl) dd_RG_fail_46 hcs [0, 1, 2, 3, 4, 5, 6, 7, 9, 10, 11] [8, 12, 13, 14, 15, 16, 17] [7, 8, 9, 10, 11, 12, 13, 14, 0, 15, 16, 17, 1, 2, 3, 4, 5, 6] hP hD hS rfl rfl (by decide) rfl rfl rfl (fun H locs hP hD hS => ?_)
      refine W.eq (g2 := F0 m 49 ls [.int r_46, .int (0 : Int32)]) rfl ?_
      refine lv_iadd hx hb dd_RG_fail_49 ?_
      refine lv_istore_n (lv' := [(2, .int ((0 : Int32) + r_46)), (3, .int (0 : Int32)), (0, .ref ah), (1, .int (nI q))]) hx hb dd_RG_fail_50 rfl hl (by decide) rfl (fun ls hl => ?_)
      refine lv_iinc (k := 1) (v := (1 : Int32)) (lv' := [(3, .int (1 : Int32)), (2, .int ((0 : Int32) + r_46)), (0, .ref ah), (1, .int (nI q))]) hx hb dd_RG_fail_51 hl rfl (by decide) (by decide) rfl (fun ls hl => ?_)
      refine lv_goto (tgt := 32) hx hb dd_RG_fail_54 (by decide) ?_
      refine lv_iload_n hx hb dd_RG_fail_32 rfl (lv_at hl 0 rfl) ?_
      refine lv_iconst (v := (3 : Int32)) hx hb dd_RG_fail_33 (by decide) ?_
      refine lv_icmp_ge (tgt := 57) hx hb dd_RG_fail_34 (by decide) (fun h => absurd h (by decide)) (fun _ => ?_)
      refine lv_iload_n hx hb dd_RG_fail_37 rfl (lv_at hl 1 rfl) ?_
      refine lv_aload_n hx hb dd_RG_fail_38 rfl (lv_at hl 2 rfl) ?_
      refine lv_aload_n hx hb dd_RG_fail_39 rfl (lv_at hl 2 rfl) ?_
      refine ly_get (v := .ref az) C hP 0 rfl uw_RG rfl 2 (by decide) wa_51 rfl dd_RG_fail_40 ?_
      refine lv_iload_n hx hb dd_RG_fail_43 rfl (lv_at hl 0 rfl) ?_
      refine ly_aldq (b := b1) C hP 8 rfl rfl 1 rfl (by decide) (by omega) hs1 dd_RG_fail_44 ?_
      refine lv_iload_n hx hb dd_RG_fail_45 rfl (lv_at hl 3 rfl) ?_
      obtain ⟨⟨r_46b, th_46b⟩, hq46b⟩ : ∃ z, z = mm_RG_dropShardsOn (nI q) n 5 th1 := ⟨_, rfl⟩
      try rw [← hq46b] at hM
      try dsimp only at hM
      refine ly_cV_i (n := 2) (z := (r_46b, th_46b)) (rest := [.int ((0 : Int32) + r_46)]) (wn := (ws_L3x K ah ac ar ap aq ax au ak az b0 c0 d0 b1 c1 d1 b2 c2 d2 n lf rb gr ro sr sv (upd up q (0 : Int32)) ct sf al th_46 wr0 fl0 th_46b wr1 fl1 th2 wr2 fl2)) C (cc_RG_dropShardsOn D K ah ac ar ap aq ax au ak b1 c1 d1 az (nI q) n 5 lf rb gr ro sr sv (upd up q (0 : Int32)) ct al th1 wr1 fl1 (by omega) (by omega) (by omega)) hq46b wa_156 wa_92 wa_62 wa_93 wa_94 (by decide) (Nat.le_trans (by decide) hRf) (Nat.le_trans (by decide) hRl) rfl hl.1 rfl (Nat.le_of_ble_eq_true rfl) dd_RG_fail_46 hcs [0, 1, 2, 3, 4, 5, 6, 7, 12, 13, 14] [8, 9, 10, 11, 15, 16, 17] [7, 8, 9, 10, 11, 12, 13, 14, 0, 1, 2, 3, 15, 16, 17, 4, 5, 6] hP hD hS rfl rfl (by decide) rfl rfl rfl (fun H locs hP hD hS => ?_)
      refine W.eq (g2 := F0 m 49 ls [.int r_46b, .int ((0 : Int32) + r_46)]) rfl ?_
      refine lv_iadd hx hb dd_RG_fail_49 ?_
      refine lv_istore_n (lv' := [(2, .int (((0 : Int32) + r_46) + r_46b)), (3, .int (1 : Int32)), (0, .ref ah), (1, .int (nI q))]) hx hb dd_RG_fail_50 rfl hl (by decide) rfl (fun ls hl => ?_)
      refine lv_iinc (k := 1) (v := (2 : Int32)) (lv' := [(3, .int (2 : Int32)), (2, .int (((0 : Int32) + r_46) + r_46b)), (0, .ref ah), (1, .int (nI q))]) hx hb dd_RG_fail_51 hl rfl (by decide) (by decide) rfl (fun ls hl => ?_)
      refine lv_goto (tgt := 32) hx hb dd_RG_fail_54 (by decide) ?_
      refine lv_iload_n hx hb dd_RG_fail_32 rfl (lv_at hl 0 rfl) ?_
      refine lv_iconst (v := (3 : Int32)) hx hb dd_RG_fail_33 (by decide) ?_
      refine lv_icmp_ge (tgt := 57) hx hb dd_RG_fail_34 (by decide) (fun h => absurd h (by decide)) (fun _ => ?_)
      refine lv_iload_n hx hb dd_RG_fail_37 rfl (lv_at hl 1 rfl) ?_
      refine lv_aload_n hx hb dd_RG_fail_38 rfl (lv_at hl 2 rfl) ?_
      refine lv_aload_n hx hb dd_RG_fail_39 rfl (lv_at hl 2 rfl) ?_
      refine ly_get (v := .ref az) C hP 0 rfl uw_RG rfl 2 (by decide) wa_51 rfl dd_RG_fail_40 ?_
      refine lv_iload_n hx hb dd_RG_fail_43 rfl (lv_at hl 0 rfl) ?_
      refine ly_aldq (b := b2) C hP 8 rfl rfl 2 rfl (by decide) (by omega) hs2 dd_RG_fail_44 ?_
      refine lv_iload_n hx hb dd_RG_fail_45 rfl (lv_at hl 3 rfl) ?_
      obtain ⟨⟨r_46c, th_46c⟩, hq46c⟩ : ∃ z, z = mm_RG_dropShardsOn (nI q) n 10 th2 := ⟨_, rfl⟩
      try rw [← hq46c] at hM
      try dsimp only at hM
      refine ly_cV_i (n := 2) (z := (r_46c, th_46c)) (rest := [.int (((0 : Int32) + r_46) + r_46b)]) (wn := (ws_L3x K ah ac ar ap aq ax au ak az b0 c0 d0 b1 c1 d1 b2 c2 d2 n lf rb gr ro sr sv (upd up q (0 : Int32)) ct sf al th_46 wr0 fl0 th_46b wr1 fl1 th_46c wr2 fl2)) C (cc_RG_dropShardsOn D K ah ac ar ap aq ax au ak b2 c2 d2 az (nI q) n 10 lf rb gr ro sr sv (upd up q (0 : Int32)) ct al th2 wr2 fl2 (by omega) (by omega) (by omega)) hq46c wa_156 wa_92 wa_62 wa_93 wa_94 (by decide) (Nat.le_trans (by decide) hRf) (Nat.le_trans (by decide) hRl) rfl hl.1 rfl (Nat.le_of_ble_eq_true rfl) dd_RG_fail_46 hcs [0, 1, 2, 3, 4, 5, 6, 7, 15, 16, 17] [8, 9, 10, 11, 12, 13, 14] [7, 8, 9, 10, 11, 12, 13, 14, 0, 1, 2, 3, 4, 5, 6, 15, 16, 17] hP hD hS rfl rfl (by decide) rfl rfl rfl (fun H locs hP hD hS => ?_)
      refine W.eq (g2 := F0 m 49 ls [.int r_46c, .int (((0 : Int32) + r_46) + r_46b)]) rfl ?_
      refine lv_iadd hx hb dd_RG_fail_49 ?_
      refine lv_istore_n (lv' := [(2, .int ((((0 : Int32) + r_46) + r_46b) + r_46c)), (3, .int (2 : Int32)), (0, .ref ah), (1, .int (nI q))]) hx hb dd_RG_fail_50 rfl hl (by decide) rfl (fun ls hl => ?_)
      refine lv_iinc (k := 1) (v := (3 : Int32)) (lv' := [(3, .int (3 : Int32)), (2, .int ((((0 : Int32) + r_46) + r_46b) + r_46c)), (0, .ref ah), (1, .int (nI q))]) hx hb dd_RG_fail_51 hl rfl (by decide) (by decide) rfl (fun ls hl => ?_)
      refine lv_goto (tgt := 32) hx hb dd_RG_fail_54 (by decide) ?_
      refine lv_iload_n hx hb dd_RG_fail_32 rfl (lv_at hl 0 rfl) ?_
      refine lv_iconst (v := (3 : Int32)) hx hb dd_RG_fail_33 (by decide) ?_
      refine lv_icmp_ge (tgt := 57) hx hb dd_RG_fail_34 (by decide) (fun _ => ?_) (fun h => absurd (by decide) h)
      refine lv_iload_n hx hb dd_RG_fail_57 rfl (lv_at hl 1 rfl) ?_
      exact ret (((((0 : Int32) + r_46) + r_46b) + r_46c), (upd up q (0 : Int32)), th_46, th_46b, th_46c) H locs 58 ls hM rfl hS hP hD dd_RG_fail_58
    · rw [if_pos h15] at hM
      refine lv_bipush (v := (-2 : Int32)) hx hb dd_RG_fail_18 (by decide) ?_
      exact ret ((-2 : Int32), up, th0, th1, th2) H locs 20 ls hM rfl hS hP hD dd_RG_fail_20
  · rw [if_pos h4] at hM
    refine lv_iconst (v := (-1 : Int32)) hx hb dd_RG_fail_7 (by decide) ?_
    exact ret ((-1 : Int32), up, th0, th1, th2) H locs 8 ls hM rfl hS hP hD dd_RG_fail_8
end
section
set_option maxHeartbeats 4000000 in
set_option maxRecDepth 100000 in
theorem cc_Sp_init {l : Launch} (D : va_G) (K : Nat → ClassId) (ah : Nat) : ly_n l yy_Sp_init bb_Sp_init 1 1 12 2 12 D K [.ref ah] [(ah, .inr (2, [.null, .null]))] (fun u => [(ah, .inr (2, [.ref (u 0), .ref (u 1)])), ((u 0), .inl (K 0, 6, .inr (.inl (fun _ => (0 : Int64))))), ((u 1), .inl (K 0, 6, .inr (.inl (fun _ => (0 : Int64)))))]) := by
  refine ly_entN (by decide) (Nat.le_of_ble_eq_true rfl) rfl ?_
  intro p e s m av below meth c A ls R Q H locs C hin hRf hRl hRc hRs hS hP hD hl ret
  obtain ⟨hx, hb, hml, hown, ht, -⟩ := id C
  have hcs : 0 ≤ R.cells ∧ 0 ≤ R.slots := ⟨Nat.zero_le _, Nat.zero_le _⟩
  have hl : lv_has ls 1 [(0, .ref ah)] := hl
  refine lv_aload_n hx hb dd_Sp_init_0 rfl (lv_at hl 0 rfl) ?_
  refine W.objInit hx hb hown (ht _ wa_227) (ht _ wa_37) (ht _ wa_38) rfl (by rw [hml]; exact hl.1) rfl dd_Sp_init_1 (Nat.le_trans (by decide) hRf) (show 12 ≤ R.locals from Nat.le_trans (by decide) hRl) ?_
  refine W.eq (g2 := F0 m 4 ls []) rfl ?_
  refine lv_aload_n hx hb dd_Sp_init_4 rfl (lv_at hl 0 rfl) ?_
  refine lv_bipush (v := (6 : Int32)) hx hb dd_Sp_init_5 (by decide) ?_
  refine ly_newa (ty := .long) (at0 := .long) (a0 := (6, .inr (.inl (fun _ => (0 : Int64))))) C 0 rfl rfl (fun _ h => h) wa_208 hP hD hS 6 (fun _ => rfl) rfl (by omega) (by decide) (by omega) (by omega) dd_Sp_init_7 (fun q7 H hP hD hS => ?_)
  refine W.widen (k := 1) (n := 6) (by omega) (by omega) ?_
  have hcs : 1 ≤ R.cells ∧ 6 ≤ R.slots := ⟨by omega, by omega⟩
  refine ly_putF (ws' := [(ah, .inr (2, [.ref q7, .null])), (q7, .inl (K 0, 6, .inr (.inl (fun _ => (0 : Int64)))))]) C hP hD hS 0 rfl uw_Sp tt_Sp nn_Sp rfl 0 (by decide) wa_228 rfl hin rfl rfl rfl (Nat.le_of_ble_eq_true rfl) dd_Sp_init_9 rfl (fun H locs hP hD hS => ?_)
  refine lv_aload_n hx hb dd_Sp_init_12 rfl (lv_at hl 0 rfl) ?_
  refine lv_bipush (v := (6 : Int32)) hx hb dd_Sp_init_13 (by decide) ?_
  refine ly_newa (ty := .long) (at0 := .long) (a0 := (6, .inr (.inl (fun _ => (0 : Int64))))) C 0 rfl rfl (fun _ h => h) wa_208 hP hD hS 6 (fun _ => rfl) rfl (by omega) (by decide) (by omega) (by omega) dd_Sp_init_15 (fun q15 H hP hD hS => ?_)
  refine W.widen (k := 2) (n := 12) (by omega) (by omega) ?_
  have hcs : 2 ≤ R.cells ∧ 12 ≤ R.slots := ⟨by omega, by omega⟩
  refine ly_putF (ws' := [(ah, .inr (2, [.ref q7, .ref q15])), (q7, .inl (K 0, 6, .inr (.inl (fun _ => (0 : Int64))))), (q15, .inl (K 0, 6, .inr (.inl (fun _ => (0 : Int64)))))]) C hP hD hS 0 rfl uw_Sp tt_Sp nn_Sp rfl 1 (by decide) wa_229 rfl hin rfl rfl rfl (Nat.le_of_ble_eq_true rfl) dd_Sp_init_17 rfl (fun H locs hP hD hS => ?_)
  refine W.widen (k := 2) (n := 12) (by omega) (by omega) ?_
  exact ret (fun k => match k with | 0 => q7 | _ => q15) H locs 20 ls hS hP hD dd_Sp_init_20

def ck_all (n : Nat) : Int32 := (((1 : Int32) <<< ((nI n) &&& 31)) - (1 : Int32))
set_option maxHeartbeats 4000000 in
set_option maxRecDepth 100000 in
theorem cc_Sq_init {l : Launch} (D : va_G) (K : Nat → ClassId) (ah : Nat) (x : Int32) (n : Nat) (hn : n ≤ 11) : ly_n l yy_Sq_init bb_Sq_init 3 1 12 2 22 D K [.ref ah, .int x, .int (nI n)] [(ah, .inr (3, [.int (0 : Int32), .int (0 : Int32), .null, .null, .int (0 : Int32)]))] (fun u => [(ah, .inr (3, [.int ((5 : Int32) * x), .int (ck_all n), .ref (u 0), .ref (u 1), .int (ck_all n)])), ((u 0), .inl (K 0, n, .inr (.inl (fun _ => (0 : Int64))))), ((u 1), .inl (K 0, n, .inr (.inl (fun _ => (0 : Int64)))))]) := by
  refine ly_entN (by decide) (Nat.le_of_ble_eq_true rfl) rfl ?_
  intro p e s m av below meth c A ls R Q H locs C hin hRf hRl hRc hRs hS hP hD hl ret
  obtain ⟨hx, hb, hml, hown, ht, -⟩ := id C
  have hcs : 0 ≤ R.cells ∧ 0 ≤ R.slots := ⟨Nat.zero_le _, Nat.zero_le _⟩
  have hl : lv_has ls 3 [(0, .ref ah), (1, .int x), (2, .int (nI n))] := hl
  refine lv_aload_n hx hb dd_Sq_init_0 rfl (lv_at hl 0 rfl) ?_
  refine W.objInit hx hb hown (ht _ wa_237) (ht _ wa_37) (ht _ wa_38) rfl (by rw [hml]; exact hl.1) rfl dd_Sq_init_1 (Nat.le_trans (by decide) hRf) (show 12 ≤ R.locals from Nat.le_trans (by decide) hRl) ?_
  refine W.eq (g2 := F0 m 4 ls []) rfl ?_
  refine lv_aload_n hx hb dd_Sq_init_4 rfl (lv_at hl 0 rfl) ?_
  refine lv_iconst (v := (5 : Int32)) hx hb dd_Sq_init_5 (by decide) ?_
  refine lv_iload_n hx hb dd_Sq_init_6 rfl (lv_at hl 1 rfl) ?_
  refine lv_imul hx hb dd_Sq_init_7 ?_
  refine ly_putF (ws' := [(ah, .inr (3, [.int ((5 : Int32) * x), .int (0 : Int32), .null, .null, .int (0 : Int32)]))]) C hP hD hS 0 rfl uw_Sq tt_Sq nn_Sq rfl 0 (by decide) wa_238 rfl hin rfl rfl rfl (Nat.le_of_ble_eq_true rfl) dd_Sq_init_8 rfl (fun H locs hP hD hS => ?_)
  refine lv_aload_n hx hb dd_Sq_init_11 rfl (lv_at hl 0 rfl) ?_
  refine lv_iconst (v := (1 : Int32)) hx hb dd_Sq_init_12 (by decide) ?_
  refine lv_iload_n hx hb dd_Sq_init_13 rfl (lv_at hl 2 rfl) ?_
  refine lv_ishl hx hb dd_Sq_init_14 ?_
  refine lv_iconst (v := (1 : Int32)) hx hb dd_Sq_init_15 (by decide) ?_
  refine lv_isub hx hb dd_Sq_init_16 ?_
  refine ly_putF (ws' := [(ah, .inr (3, [.int ((5 : Int32) * x), .int (((1 : Int32) <<< ((nI n) &&& 31)) - (1 : Int32)), .null, .null, .int (0 : Int32)]))]) C hP hD hS 0 rfl uw_Sq tt_Sq nn_Sq rfl 1 (by decide) wa_239 rfl hin rfl rfl rfl (Nat.le_of_ble_eq_true rfl) dd_Sq_init_17 rfl (fun H locs hP hD hS => ?_)
  refine lv_aload_n hx hb dd_Sq_init_20 rfl (lv_at hl 0 rfl) ?_
  refine lv_iload_n hx hb dd_Sq_init_21 rfl (lv_at hl 2 rfl) ?_
  refine ly_newa (ty := .long) (at0 := .long) (a0 := (n, .inr (.inl (fun _ => (0 : Int64))))) C 0 rfl rfl (fun _ h => h) wa_208 hP hD hS n (fun _ => rfl) rfl (by omega) (by decide) (by omega) (by omega) dd_Sq_init_22 (fun q22 H hP hD hS => ?_)
  refine W.widen (k := 1) (n := (0 + n)) (by omega) (by omega) ?_
  have hcs : 1 ≤ R.cells ∧ (0 + n) ≤ R.slots := ⟨by omega, by omega⟩
  refine ly_putF (ws' := [(ah, .inr (3, [.int ((5 : Int32) * x), .int (((1 : Int32) <<< ((nI n) &&& 31)) - (1 : Int32)), .ref q22, .null, .int (0 : Int32)])), (q22, .inl (K 0, n, .inr (.inl (fun _ => (0 : Int64)))))]) C hP hD hS 0 rfl uw_Sq tt_Sq nn_Sq rfl 2 (by decide) wa_240 rfl hin rfl rfl rfl (Nat.le_of_ble_eq_true rfl) dd_Sq_init_24 rfl (fun H locs hP hD hS => ?_)
  refine lv_aload_n hx hb dd_Sq_init_27 rfl (lv_at hl 0 rfl) ?_
  refine lv_iload_n hx hb dd_Sq_init_28 rfl (lv_at hl 2 rfl) ?_
  refine ly_newa (ty := .long) (at0 := .long) (a0 := (n, .inr (.inl (fun _ => (0 : Int64))))) C 0 rfl rfl (fun _ h => h) wa_208 hP hD hS n (fun _ => rfl) rfl (by omega) (by decide) (by omega) (by omega) dd_Sq_init_29 (fun q29 H hP hD hS => ?_)
  refine W.widen (k := 2) (n := ((0 + n) + n)) (by omega) (by omega) ?_
  have hcs : 2 ≤ R.cells ∧ ((0 + n) + n) ≤ R.slots := ⟨by omega, by omega⟩
  refine ly_putF (ws' := [(ah, .inr (3, [.int ((5 : Int32) * x), .int (((1 : Int32) <<< ((nI n) &&& 31)) - (1 : Int32)), .ref q22, .ref q29, .int (0 : Int32)])), (q22, .inl (K 0, n, .inr (.inl (fun _ => (0 : Int64))))), (q29, .inl (K 0, n, .inr (.inl (fun _ => (0 : Int64)))))]) C hP hD hS 0 rfl uw_Sq tt_Sq nn_Sq rfl 3 (by decide) wa_241 rfl hin rfl rfl rfl (Nat.le_of_ble_eq_true rfl) dd_Sq_init_31 rfl (fun H locs hP hD hS => ?_)
  refine lv_aload_n hx hb dd_Sq_init_34 rfl (lv_at hl 0 rfl) ?_
  refine lv_aload_n hx hb dd_Sq_init_35 rfl (lv_at hl 0 rfl) ?_
  refine ly_get (v := .int (((1 : Int32) <<< ((nI n) &&& 31)) - (1 : Int32))) C hP 0 rfl uw_Sq rfl 1 (by decide) wa_239 rfl dd_Sq_init_36 ?_
  refine ly_put (ws' := [(ah, .inr (3, [.int ((5 : Int32) * x), .int (((1 : Int32) <<< ((nI n) &&& 31)) - (1 : Int32)), .ref q22, .ref q29, .int (((1 : Int32) <<< ((nI n) &&& 31)) - (1 : Int32))])), (q22, .inl (K 0, n, .inr (.inl (fun _ => (0 : Int64))))), (q29, .inl (K 0, n, .inr (.inl (fun _ => (0 : Int64)))))]) C hP hD hS 0 rfl uw_Sq tt_Sq nn_Sq rfl 4 (by decide) wa_242 rfl rfl rfl (Nat.le_of_ble_eq_true rfl) dd_Sq_init_39 rfl (fun H locs hP hD hS => ?_)
  refine W.widen (k := 2) (n := 22) (by omega) (by omega) ?_
  exact ret (fun k => match k with | 0 => q22 | _ => q29) H locs 42 ls hS hP hD dd_Sq_init_42

def ck_n (x : Int32) : Nat := if x = (2 : Int32) then 11 else 10
def ck_g (x : Int32) : Int32 := if x = (1 : Int32) then (1 : Int32) else if x = (2 : Int32) then (1 : Int32) else (0 : Int32)
def ck_rows (g : Int32) : Nat → Nat → (Nat → Int64) → (Nat → Int64)
  | 0, _, ro => ro
  | k + 1, j, ro => ck_rows g k (j + 1) (vp_updL ro j (if g = (0 : Int32) then mm_Co_plainRow j else mm_Co_groupedRow j))
def ck_r (x : Int32) : Nat → Int64 := ck_rows (ck_g x) (ck_n x) 0 (fun _ => (0 : Int64))
theorem ck_n_le (x : Int32) : 10 ≤ ck_n x ∧ ck_n x ≤ 11 := by unfold ck_n; split <;> decide
set_option maxHeartbeats 4000000 in
set_option maxRecDepth 100000 in
theorem cc_Co_init {l : Launch} (D : va_G) (K : Nat → ClassId) (ah : Nat) (x : Int32) : ly_n l yy_Co_init bb_Co_init 3 4 97 1 11 D K [.ref ah, .int x] [(ah, .inr (1, [.int (0 : Int32), .null, .int (0 : Int32)]))] (fun u => [(ah, .inr (1, [.int (nI (ck_n x)), .ref (u 0), .int (ck_g x)])), ((u 0), .inl (K 0, (ck_n x), .inr (.inl (ck_r x))))]) := by
  refine ly_entN (by decide) (Nat.le_of_ble_eq_true rfl) rfl ?_
  intro p e s m av below meth c A ls R Q H locs C hin hRf hRl hRc hRs hS hP hD hl ret
  obtain ⟨hx, hb, hml, hown, ht, -⟩ := id C
  have hcs : 0 ≤ R.cells ∧ 0 ≤ R.slots := ⟨Nat.zero_le _, Nat.zero_le _⟩
  have hl : lv_has ls 3 [(0, .ref ah), (1, .int x)] := hl
  refine lv_aload_n hx hb dd_Co_init_0 rfl (lv_at hl 0 rfl) ?_
  refine W.objInit hx hb hown (ht _ wa_205) (ht _ wa_37) (ht _ wa_38) rfl (by rw [hml]; exact hl.1) rfl dd_Co_init_1 (Nat.le_trans (by decide) hRf) (show 12 ≤ R.locals from Nat.le_trans (by decide) hRl) ?_
  refine W.eq (g2 := F0 m 4 ls []) rfl ?_
  refine lv_aload_n hx hb dd_Co_init_4 rfl (lv_at hl 0 rfl) ?_
  refine lv_iload_n hx hb dd_Co_init_5 rfl (lv_at hl 1 rfl) ?_
  refine lv_iconst (v := (2 : Int32)) hx hb dd_Co_init_6 (by decide) ?_
  refine lv_icmp_ne (tgt := 15) hx hb dd_Co_init_7 (by decide) (fun h7 => ?_) (fun h7 => ?_)
  · skip
    refine lv_bipush (v := (10 : Int32)) hx hb dd_Co_init_15 (by decide) ?_
    refine ly_putF (ws' := [(ah, .inr (1, [.int (10 : Int32), .null, .int (0 : Int32)]))]) C hP hD hS 0 rfl uw_Co tt_Co nn_Co rfl 0 (by decide) wa_206 rfl hin rfl rfl rfl (Nat.le_of_ble_eq_true rfl) dd_Co_init_17 rfl (fun H locs hP hD hS => ?_)
    refine lv_aload_n hx hb dd_Co_init_20 rfl (lv_at hl 0 rfl) ?_
    refine lv_iload_n hx hb dd_Co_init_21 rfl (lv_at hl 1 rfl) ?_
    refine lv_iconst (v := (1 : Int32)) hx hb dd_Co_init_22 (by decide) ?_
    refine lv_icmp_eq (tgt := 31) hx hb dd_Co_init_23 (by decide) (fun h23 => ?_) (fun h23 => ?_)
    · skip
      refine lv_iconst (v := (1 : Int32)) hx hb dd_Co_init_31 (by decide) ?_
      refine lv_goto (tgt := 36) hx hb dd_Co_init_32 (by decide) ?_
      refine ly_putF (ws' := [(ah, .inr (1, [.int (10 : Int32), .null, .int (1 : Int32)]))]) C hP hD hS 0 rfl uw_Co tt_Co nn_Co rfl 2 (by decide) wa_207 rfl hin rfl (by decide) (by decide) (Nat.le_of_ble_eq_true rfl) dd_Co_init_36 rfl (fun H locs hP hD hS => ?_)
      refine lv_aload_n hx hb dd_Co_init_39 rfl (lv_at hl 0 rfl) ?_
      refine lv_aload_n hx hb dd_Co_init_40 rfl (lv_at hl 0 rfl) ?_
      refine ly_get (v := .int (10 : Int32)) C hP 0 rfl uw_Co rfl 0 (by decide) wa_206 rfl dd_Co_init_41 ?_
      refine ly_newa (ty := .long) (at0 := .long) (a0 := (10, .inr (.inl (fun _ => (0 : Int64))))) C 0 rfl rfl (fun _ h => h) wa_208 hP hD hS 10 (fun _ => rfl) rfl (by omega) (by decide) (by omega) (by omega) dd_Co_init_44 (fun q44 H hP hD hS => ?_)
      refine W.widen (k := 1) (n := 10) (by omega) (by omega) ?_
      have hcs : 1 ≤ R.cells ∧ 10 ≤ R.slots := ⟨by omega, by omega⟩
      refine ly_putF (ws' := [(ah, .inr (1, [.int (10 : Int32), .ref q44, .int (1 : Int32)])), (q44, .inl (K 0, 10, .inr (.inl (fun _ => (0 : Int64)))))]) C hP hD hS 0 rfl uw_Co tt_Co nn_Co rfl 1 (by decide) wa_209 rfl hin rfl rfl rfl (Nat.le_of_ble_eq_true rfl) dd_Co_init_46 rfl (fun H locs hP hD hS => ?_)
      refine lv_iconst (v := (0 : Int32)) hx hb dd_Co_init_49 (by decide) ?_
      refine lv_istore_n (lv' := [(2, .int (0 : Int32)), (0, .ref ah), (1, .int x)]) hx hb dd_Co_init_50 rfl hl (by decide) rfl (fun ls hl => ?_)
      obtain ⟨resr, hrr⟩ : ∃ z, z = ck_rows (1 : Int32) 10 0 (fun _ => (0 : Int64)) := ⟨_, rfl⟩
      have lp51 : ∀ (k j : Nat) (ro : Nat → Int64) (ls : Array Slot) (H : Heap) (locs : List Loc), j + k = 10 → ck_rows (1 : Int32) k j ro = resr → lv_has ls 3 [(2, .int (nI j)), (0, .ref ah), (1, .int x)] → va_P D cl_all [(ah, .inr (1, [.int (10 : Int32), .ref q44, .int (1 : Int32)])), (q44, .inl (K 0, 10, .inr (.inl ro)))] H → va_D A [(ah, .inr (1, [.int (10 : Int32), .ref q44, .int (1 : Int32)])), (q44, .inl (K 0, 10, .inr (.inl ro)))] → va_S A s.heap H locs → W p l e R s m av below meth c H locs 1 10 Q (F0 m 51 ls []) := by
        intro k
        induction k with
        | zero =>
          intro j ro ls H locs hjk hM hl hP hD hS
          have hj0 : j = 10 := by omega
          subst j
          rw [ck_rows, hrr] at hM
          subst hM
          refine lv_iload_n hx hb dd_Co_init_51 rfl (lv_at hl 0 rfl) ?_
          refine lv_aload_n hx hb dd_Co_init_52 rfl (lv_at hl 1 rfl) ?_
          refine ly_get (v := .int (10 : Int32)) C hP 0 rfl uw_Co rfl 0 (by decide) wa_206 rfl dd_Co_init_53 ?_
          refine lv_icmp_ge (tgt := 89) hx hb dd_Co_init_56 (by decide) (fun _ => ?_) (fun h => absurd (nI_le (a := 10) (b := 10) (by omega) (by omega)) h)
          refine W.widen (k := 1) (n := 11) (by omega) (by omega) ?_
          have en : ck_n x = 10 := by unfold ck_n; first | exact if_pos h7 | exact if_neg h7
          have eg : ck_g x = 1 := by unfold ck_g; first | exact if_pos h23 | (rw [if_neg h23]; first | exact if_pos h28 | exact if_neg h28)
          have hP : va_P D cl_all [(ah, .inr (1, [.int (nI (ck_n x)), .ref q44, .int (ck_g x)])), (q44, .inl (K 0, ck_n x, .inr (.inl (ck_r x))))] H := by rw [ck_r, en, eg]; exact hP
          have hD : va_D A [(ah, .inr (1, [.int (nI (ck_n x)), .ref q44, .int (ck_g x)])), (q44, .inl (K 0, ck_n x, .inr (.inl (ck_r x))))] := by rw [ck_r, en, eg]; exact hD
          exact ret (fun _ => q44) H locs 89 ls hS hP hD dd_Co_init_89
        | succ k ih51 =>
          intro j ro ls H locs hjk hM hl hP hD hS
          rw [ck_rows] at hM
          rw [if_neg (by decide)] at hM
          refine lv_iload_n hx hb dd_Co_init_51 rfl (lv_at hl 0 rfl) ?_
          refine lv_aload_n hx hb dd_Co_init_52 rfl (lv_at hl 1 rfl) ?_
          refine ly_get (v := .int (10 : Int32)) C hP 0 rfl uw_Co rfl 0 (by decide) wa_206 rfl dd_Co_init_53 ?_
          refine lv_icmp_ge (tgt := 89) hx hb dd_Co_init_56 (by decide) (fun h => absurd h (nI_ge (a := j) (b := 10) (by omega) (by omega))) (fun _ => ?_)
          refine lv_aload_n hx hb dd_Co_init_59 rfl (lv_at hl 1 rfl) ?_
          refine ly_get (v := .ref q44) C hP 0 rfl uw_Co rfl 1 (by decide) wa_209 rfl dd_Co_init_60 ?_
          refine lv_iload_n hx hb dd_Co_init_63 rfl (lv_at hl 0 rfl) ?_
          refine lv_aload_n hx hb dd_Co_init_64 rfl (lv_at hl 1 rfl) ?_
          refine ly_get (v := .int (1 : Int32)) C hP 0 rfl uw_Co rfl 2 (by decide) wa_207 rfl dd_Co_init_65 ?_
          refine lv_if_eq (tgt := 78) hx hb dd_Co_init_68 (by decide) (fun h => absurd h (by decide)) (fun _ => ?_)
          refine lv_iload_n hx hb dd_Co_init_71 rfl (lv_at hl 0 rfl) ?_
          obtain ⟨r_72, hq72⟩ : ∃ z, z = mm_Co_groupedRow j := ⟨_, rfl⟩
          try rw [← hq72] at hM
          refine ly_cS_l (n := 1) (z := r_72) (rest := [.int (nI j), .ref q44]) (wn := [(ah, .inr (1, [.int (10 : Int32), .ref q44, .int (1 : Int32)])), (q44, .inl (K 0, 10, .inr (.inl ro)))]) C (cc_Co_groupedRow D K j (by omega)) hq72 wa_219 wa_210 wa_41 wa_211 (by decide) (Nat.le_trans (by decide) hRf) (Nat.le_trans (by decide) hRl) rfl hl.1 rfl (Nat.le_of_ble_eq_true rfl) dd_Co_init_72 hcs [] [0, 1] [0, 1] hP hD hS rfl rfl (by decide) rfl (fun H locs hP hD hS => ?_)
          refine W.eq (g2 := F0 m 75 ls [.long r_72, .int (nI j), .ref q44]) rfl ?_
          refine lv_goto (tgt := 82) hx hb dd_Co_init_75 (by decide) ?_
          refine ly_last (ws' := [(ah, .inr (1, [.int (10 : Int32), .ref q44, .int (1 : Int32)])), (q44, .inl (K 0, 10, .inr (.inl (vp_updL ro j r_72))))]) C hP hD hS 1 rfl j rfl (by omega) (by omega) dd_Co_init_82 rfl (fun H locs hP hD hS => ?_)
          refine lv_iinc (k := 0) (v := (nI (j + 1))) (lv' := [(2, .int (nI (j + 1))), (0, .ref ah), (1, .int x)]) hx hb dd_Co_init_83 hl rfl (ly_incN _) (by decide) rfl (fun ls hl => ?_)
          refine lv_goto (tgt := 51) hx hb dd_Co_init_86 (by decide) ?_
          exact ih51 (j + 1) (vp_updL ro j r_72) ls H locs (by omega) hM (lv_sub hl [0, 1, 2] rfl) hP hD hS
      exact lp51 10 0 (fun _ => (0 : Int64)) ls H locs (by omega) hrr.symm (lv_sub hl [0, 1, 2] rfl) hP hD hS
    · skip
      refine lv_iload_n hx hb dd_Co_init_26 rfl (lv_at hl 1 rfl) ?_
      refine lv_iconst (v := (2 : Int32)) hx hb dd_Co_init_27 (by decide) ?_
      refine lv_icmp_ne (tgt := 35) hx hb dd_Co_init_28 (by decide) (fun h28 => ?_) (fun h28 => ?_)
      · skip
        refine lv_iconst (v := (0 : Int32)) hx hb dd_Co_init_35 (by decide) ?_
        refine ly_putF (ws' := [(ah, .inr (1, [.int (10 : Int32), .null, .int (0 : Int32)]))]) C hP hD hS 0 rfl uw_Co tt_Co nn_Co rfl 2 (by decide) wa_207 rfl hin rfl (by decide) (by decide) (Nat.le_of_ble_eq_true rfl) dd_Co_init_36 rfl (fun H locs hP hD hS => ?_)
        refine lv_aload_n hx hb dd_Co_init_39 rfl (lv_at hl 0 rfl) ?_
        refine lv_aload_n hx hb dd_Co_init_40 rfl (lv_at hl 0 rfl) ?_
        refine ly_get (v := .int (10 : Int32)) C hP 0 rfl uw_Co rfl 0 (by decide) wa_206 rfl dd_Co_init_41 ?_
        refine ly_newa (ty := .long) (at0 := .long) (a0 := (10, .inr (.inl (fun _ => (0 : Int64))))) C 0 rfl rfl (fun _ h => h) wa_208 hP hD hS 10 (fun _ => rfl) rfl (by omega) (by decide) (by omega) (by omega) dd_Co_init_44 (fun q44 H hP hD hS => ?_)
        refine W.widen (k := 1) (n := 10) (by omega) (by omega) ?_
        have hcs : 1 ≤ R.cells ∧ 10 ≤ R.slots := ⟨by omega, by omega⟩
        refine ly_putF (ws' := [(ah, .inr (1, [.int (10 : Int32), .ref q44, .int (0 : Int32)])), (q44, .inl (K 0, 10, .inr (.inl (fun _ => (0 : Int64)))))]) C hP hD hS 0 rfl uw_Co tt_Co nn_Co rfl 1 (by decide) wa_209 rfl hin rfl rfl rfl (Nat.le_of_ble_eq_true rfl) dd_Co_init_46 rfl (fun H locs hP hD hS => ?_)
        refine lv_iconst (v := (0 : Int32)) hx hb dd_Co_init_49 (by decide) ?_
        refine lv_istore_n (lv' := [(2, .int (0 : Int32)), (0, .ref ah), (1, .int x)]) hx hb dd_Co_init_50 rfl hl (by decide) rfl (fun ls hl => ?_)
        obtain ⟨resr, hrr⟩ : ∃ z, z = ck_rows (0 : Int32) 10 0 (fun _ => (0 : Int64)) := ⟨_, rfl⟩
        have lp51 : ∀ (k j : Nat) (ro : Nat → Int64) (ls : Array Slot) (H : Heap) (locs : List Loc), j + k = 10 → ck_rows (0 : Int32) k j ro = resr → lv_has ls 3 [(2, .int (nI j)), (0, .ref ah), (1, .int x)] → va_P D cl_all [(ah, .inr (1, [.int (10 : Int32), .ref q44, .int (0 : Int32)])), (q44, .inl (K 0, 10, .inr (.inl ro)))] H → va_D A [(ah, .inr (1, [.int (10 : Int32), .ref q44, .int (0 : Int32)])), (q44, .inl (K 0, 10, .inr (.inl ro)))] → va_S A s.heap H locs → W p l e R s m av below meth c H locs 1 10 Q (F0 m 51 ls []) := by
          intro k
          induction k with
          | zero =>
            intro j ro ls H locs hjk hM hl hP hD hS
            have hj0 : j = 10 := by omega
            subst j
            rw [ck_rows, hrr] at hM
            subst hM
            refine lv_iload_n hx hb dd_Co_init_51 rfl (lv_at hl 0 rfl) ?_
            refine lv_aload_n hx hb dd_Co_init_52 rfl (lv_at hl 1 rfl) ?_
            refine ly_get (v := .int (10 : Int32)) C hP 0 rfl uw_Co rfl 0 (by decide) wa_206 rfl dd_Co_init_53 ?_
            refine lv_icmp_ge (tgt := 89) hx hb dd_Co_init_56 (by decide) (fun _ => ?_) (fun h => absurd (nI_le (a := 10) (b := 10) (by omega) (by omega)) h)
            refine W.widen (k := 1) (n := 11) (by omega) (by omega) ?_
            have en : ck_n x = 10 := by unfold ck_n; first | exact if_pos h7 | exact if_neg h7
            have eg : ck_g x = 0 := by unfold ck_g; first | exact if_pos h23 | (rw [if_neg h23]; first | exact if_pos h28 | exact if_neg h28)
            have hP : va_P D cl_all [(ah, .inr (1, [.int (nI (ck_n x)), .ref q44, .int (ck_g x)])), (q44, .inl (K 0, ck_n x, .inr (.inl (ck_r x))))] H := by rw [ck_r, en, eg]; exact hP
            have hD : va_D A [(ah, .inr (1, [.int (nI (ck_n x)), .ref q44, .int (ck_g x)])), (q44, .inl (K 0, ck_n x, .inr (.inl (ck_r x))))] := by rw [ck_r, en, eg]; exact hD
            exact ret (fun _ => q44) H locs 89 ls hS hP hD dd_Co_init_89
          | succ k ih51 =>
            intro j ro ls H locs hjk hM hl hP hD hS
            rw [ck_rows] at hM
            rw [if_pos (by decide)] at hM
            refine lv_iload_n hx hb dd_Co_init_51 rfl (lv_at hl 0 rfl) ?_
            refine lv_aload_n hx hb dd_Co_init_52 rfl (lv_at hl 1 rfl) ?_
            refine ly_get (v := .int (10 : Int32)) C hP 0 rfl uw_Co rfl 0 (by decide) wa_206 rfl dd_Co_init_53 ?_
            refine lv_icmp_ge (tgt := 89) hx hb dd_Co_init_56 (by decide) (fun h => absurd h (nI_ge (a := j) (b := 10) (by omega) (by omega))) (fun _ => ?_)
            refine lv_aload_n hx hb dd_Co_init_59 rfl (lv_at hl 1 rfl) ?_
            refine ly_get (v := .ref q44) C hP 0 rfl uw_Co rfl 1 (by decide) wa_209 rfl dd_Co_init_60 ?_
            refine lv_iload_n hx hb dd_Co_init_63 rfl (lv_at hl 0 rfl) ?_
            refine lv_aload_n hx hb dd_Co_init_64 rfl (lv_at hl 1 rfl) ?_
            refine ly_get (v := .int (0 : Int32)) C hP 0 rfl uw_Co rfl 2 (by decide) wa_207 rfl dd_Co_init_65 ?_
            refine lv_if_eq (tgt := 78) hx hb dd_Co_init_68 (by decide) (fun _ => ?_) (fun h => absurd (by decide) h)
            refine lv_iload_n hx hb dd_Co_init_78 rfl (lv_at hl 0 rfl) ?_
            obtain ⟨r_79, hq79⟩ : ∃ z, z = mm_Co_plainRow j := ⟨_, rfl⟩
            try rw [← hq79] at hM
            refine ly_cS_l (n := 1) (z := r_79) (rest := [.int (nI j), .ref q44]) (wn := [(ah, .inr (1, [.int (10 : Int32), .ref q44, .int (0 : Int32)])), (q44, .inl (K 0, 10, .inr (.inl ro)))]) C (cc_Co_plainRow D K j) hq79 wa_214 wa_212 wa_41 wa_213 (by decide) (Nat.le_trans (by decide) hRf) (Nat.le_trans (by decide) hRl) rfl hl.1 rfl (Nat.le_of_ble_eq_true rfl) dd_Co_init_79 hcs [] [0, 1] [0, 1] hP hD hS rfl rfl (by decide) rfl (fun H locs hP hD hS => ?_)
            refine W.eq (g2 := F0 m 82 ls [.long r_79, .int (nI j), .ref q44]) rfl ?_
            refine ly_last (ws' := [(ah, .inr (1, [.int (10 : Int32), .ref q44, .int (0 : Int32)])), (q44, .inl (K 0, 10, .inr (.inl (vp_updL ro j r_79))))]) C hP hD hS 1 rfl j rfl (by omega) (by omega) dd_Co_init_82 rfl (fun H locs hP hD hS => ?_)
            refine lv_iinc (k := 0) (v := (nI (j + 1))) (lv' := [(2, .int (nI (j + 1))), (0, .ref ah), (1, .int x)]) hx hb dd_Co_init_83 hl rfl (ly_incN _) (by decide) rfl (fun ls hl => ?_)
            refine lv_goto (tgt := 51) hx hb dd_Co_init_86 (by decide) ?_
            exact ih51 (j + 1) (vp_updL ro j r_79) ls H locs (by omega) hM (lv_sub hl [0, 1, 2] rfl) hP hD hS
        exact lp51 10 0 (fun _ => (0 : Int64)) ls H locs (by omega) hrr.symm (lv_sub hl [0, 1, 2] rfl) hP hD hS
      · skip
        refine lv_iconst (v := (1 : Int32)) hx hb dd_Co_init_31 (by decide) ?_
        refine lv_goto (tgt := 36) hx hb dd_Co_init_32 (by decide) ?_
        refine ly_putF (ws' := [(ah, .inr (1, [.int (10 : Int32), .null, .int (1 : Int32)]))]) C hP hD hS 0 rfl uw_Co tt_Co nn_Co rfl 2 (by decide) wa_207 rfl hin rfl (by decide) (by decide) (Nat.le_of_ble_eq_true rfl) dd_Co_init_36 rfl (fun H locs hP hD hS => ?_)
        refine lv_aload_n hx hb dd_Co_init_39 rfl (lv_at hl 0 rfl) ?_
        refine lv_aload_n hx hb dd_Co_init_40 rfl (lv_at hl 0 rfl) ?_
        refine ly_get (v := .int (10 : Int32)) C hP 0 rfl uw_Co rfl 0 (by decide) wa_206 rfl dd_Co_init_41 ?_
        refine ly_newa (ty := .long) (at0 := .long) (a0 := (10, .inr (.inl (fun _ => (0 : Int64))))) C 0 rfl rfl (fun _ h => h) wa_208 hP hD hS 10 (fun _ => rfl) rfl (by omega) (by decide) (by omega) (by omega) dd_Co_init_44 (fun q44 H hP hD hS => ?_)
        refine W.widen (k := 1) (n := 10) (by omega) (by omega) ?_
        have hcs : 1 ≤ R.cells ∧ 10 ≤ R.slots := ⟨by omega, by omega⟩
        refine ly_putF (ws' := [(ah, .inr (1, [.int (10 : Int32), .ref q44, .int (1 : Int32)])), (q44, .inl (K 0, 10, .inr (.inl (fun _ => (0 : Int64)))))]) C hP hD hS 0 rfl uw_Co tt_Co nn_Co rfl 1 (by decide) wa_209 rfl hin rfl rfl rfl (Nat.le_of_ble_eq_true rfl) dd_Co_init_46 rfl (fun H locs hP hD hS => ?_)
        refine lv_iconst (v := (0 : Int32)) hx hb dd_Co_init_49 (by decide) ?_
        refine lv_istore_n (lv' := [(2, .int (0 : Int32)), (0, .ref ah), (1, .int x)]) hx hb dd_Co_init_50 rfl hl (by decide) rfl (fun ls hl => ?_)
        obtain ⟨resr, hrr⟩ : ∃ z, z = ck_rows (1 : Int32) 10 0 (fun _ => (0 : Int64)) := ⟨_, rfl⟩
        have lp51 : ∀ (k j : Nat) (ro : Nat → Int64) (ls : Array Slot) (H : Heap) (locs : List Loc), j + k = 10 → ck_rows (1 : Int32) k j ro = resr → lv_has ls 3 [(2, .int (nI j)), (0, .ref ah), (1, .int x)] → va_P D cl_all [(ah, .inr (1, [.int (10 : Int32), .ref q44, .int (1 : Int32)])), (q44, .inl (K 0, 10, .inr (.inl ro)))] H → va_D A [(ah, .inr (1, [.int (10 : Int32), .ref q44, .int (1 : Int32)])), (q44, .inl (K 0, 10, .inr (.inl ro)))] → va_S A s.heap H locs → W p l e R s m av below meth c H locs 1 10 Q (F0 m 51 ls []) := by
          intro k
          induction k with
          | zero =>
            intro j ro ls H locs hjk hM hl hP hD hS
            have hj0 : j = 10 := by omega
            subst j
            rw [ck_rows, hrr] at hM
            subst hM
            refine lv_iload_n hx hb dd_Co_init_51 rfl (lv_at hl 0 rfl) ?_
            refine lv_aload_n hx hb dd_Co_init_52 rfl (lv_at hl 1 rfl) ?_
            refine ly_get (v := .int (10 : Int32)) C hP 0 rfl uw_Co rfl 0 (by decide) wa_206 rfl dd_Co_init_53 ?_
            refine lv_icmp_ge (tgt := 89) hx hb dd_Co_init_56 (by decide) (fun _ => ?_) (fun h => absurd (nI_le (a := 10) (b := 10) (by omega) (by omega)) h)
            refine W.widen (k := 1) (n := 11) (by omega) (by omega) ?_
            have en : ck_n x = 10 := by unfold ck_n; first | exact if_pos h7 | exact if_neg h7
            have eg : ck_g x = 1 := by unfold ck_g; first | exact if_pos h23 | (rw [if_neg h23]; first | exact if_pos h28 | exact if_neg h28)
            have hP : va_P D cl_all [(ah, .inr (1, [.int (nI (ck_n x)), .ref q44, .int (ck_g x)])), (q44, .inl (K 0, ck_n x, .inr (.inl (ck_r x))))] H := by rw [ck_r, en, eg]; exact hP
            have hD : va_D A [(ah, .inr (1, [.int (nI (ck_n x)), .ref q44, .int (ck_g x)])), (q44, .inl (K 0, ck_n x, .inr (.inl (ck_r x))))] := by rw [ck_r, en, eg]; exact hD
            exact ret (fun _ => q44) H locs 89 ls hS hP hD dd_Co_init_89
          | succ k ih51 =>
            intro j ro ls H locs hjk hM hl hP hD hS
            rw [ck_rows] at hM
            rw [if_neg (by decide)] at hM
            refine lv_iload_n hx hb dd_Co_init_51 rfl (lv_at hl 0 rfl) ?_
            refine lv_aload_n hx hb dd_Co_init_52 rfl (lv_at hl 1 rfl) ?_
            refine ly_get (v := .int (10 : Int32)) C hP 0 rfl uw_Co rfl 0 (by decide) wa_206 rfl dd_Co_init_53 ?_
            refine lv_icmp_ge (tgt := 89) hx hb dd_Co_init_56 (by decide) (fun h => absurd h (nI_ge (a := j) (b := 10) (by omega) (by omega))) (fun _ => ?_)
            refine lv_aload_n hx hb dd_Co_init_59 rfl (lv_at hl 1 rfl) ?_
            refine ly_get (v := .ref q44) C hP 0 rfl uw_Co rfl 1 (by decide) wa_209 rfl dd_Co_init_60 ?_
            refine lv_iload_n hx hb dd_Co_init_63 rfl (lv_at hl 0 rfl) ?_
            refine lv_aload_n hx hb dd_Co_init_64 rfl (lv_at hl 1 rfl) ?_
            refine ly_get (v := .int (1 : Int32)) C hP 0 rfl uw_Co rfl 2 (by decide) wa_207 rfl dd_Co_init_65 ?_
            refine lv_if_eq (tgt := 78) hx hb dd_Co_init_68 (by decide) (fun h => absurd h (by decide)) (fun _ => ?_)
            refine lv_iload_n hx hb dd_Co_init_71 rfl (lv_at hl 0 rfl) ?_
            obtain ⟨r_72, hq72⟩ : ∃ z, z = mm_Co_groupedRow j := ⟨_, rfl⟩
            try rw [← hq72] at hM
            refine ly_cS_l (n := 1) (z := r_72) (rest := [.int (nI j), .ref q44]) (wn := [(ah, .inr (1, [.int (10 : Int32), .ref q44, .int (1 : Int32)])), (q44, .inl (K 0, 10, .inr (.inl ro)))]) C (cc_Co_groupedRow D K j (by omega)) hq72 wa_219 wa_210 wa_41 wa_211 (by decide) (Nat.le_trans (by decide) hRf) (Nat.le_trans (by decide) hRl) rfl hl.1 rfl (Nat.le_of_ble_eq_true rfl) dd_Co_init_72 hcs [] [0, 1] [0, 1] hP hD hS rfl rfl (by decide) rfl (fun H locs hP hD hS => ?_)
            refine W.eq (g2 := F0 m 75 ls [.long r_72, .int (nI j), .ref q44]) rfl ?_
            refine lv_goto (tgt := 82) hx hb dd_Co_init_75 (by decide) ?_
            refine ly_last (ws' := [(ah, .inr (1, [.int (10 : Int32), .ref q44, .int (1 : Int32)])), (q44, .inl (K 0, 10, .inr (.inl (vp_updL ro j r_72))))]) C hP hD hS 1 rfl j rfl (by omega) (by omega) dd_Co_init_82 rfl (fun H locs hP hD hS => ?_)
            refine lv_iinc (k := 0) (v := (nI (j + 1))) (lv' := [(2, .int (nI (j + 1))), (0, .ref ah), (1, .int x)]) hx hb dd_Co_init_83 hl rfl (ly_incN _) (by decide) rfl (fun ls hl => ?_)
            refine lv_goto (tgt := 51) hx hb dd_Co_init_86 (by decide) ?_
            exact ih51 (j + 1) (vp_updL ro j r_72) ls H locs (by omega) hM (lv_sub hl [0, 1, 2] rfl) hP hD hS
        exact lp51 10 0 (fun _ => (0 : Int64)) ls H locs (by omega) hrr.symm (lv_sub hl [0, 1, 2] rfl) hP hD hS
  · skip
    refine lv_bipush (v := (11 : Int32)) hx hb dd_Co_init_10 (by decide) ?_
    refine lv_goto (tgt := 17) hx hb dd_Co_init_12 (by decide) ?_
    refine ly_putF (ws' := [(ah, .inr (1, [.int (11 : Int32), .null, .int (0 : Int32)]))]) C hP hD hS 0 rfl uw_Co tt_Co nn_Co rfl 0 (by decide) wa_206 rfl hin rfl rfl rfl (Nat.le_of_ble_eq_true rfl) dd_Co_init_17 rfl (fun H locs hP hD hS => ?_)
    refine lv_aload_n hx hb dd_Co_init_20 rfl (lv_at hl 0 rfl) ?_
    refine lv_iload_n hx hb dd_Co_init_21 rfl (lv_at hl 1 rfl) ?_
    refine lv_iconst (v := (1 : Int32)) hx hb dd_Co_init_22 (by decide) ?_
    refine lv_icmp_eq (tgt := 31) hx hb dd_Co_init_23 (by decide) (fun h23 => ?_) (fun h23 => ?_)
    · skip
      refine lv_iconst (v := (1 : Int32)) hx hb dd_Co_init_31 (by decide) ?_
      refine lv_goto (tgt := 36) hx hb dd_Co_init_32 (by decide) ?_
      refine ly_putF (ws' := [(ah, .inr (1, [.int (11 : Int32), .null, .int (1 : Int32)]))]) C hP hD hS 0 rfl uw_Co tt_Co nn_Co rfl 2 (by decide) wa_207 rfl hin rfl (by decide) (by decide) (Nat.le_of_ble_eq_true rfl) dd_Co_init_36 rfl (fun H locs hP hD hS => ?_)
      refine lv_aload_n hx hb dd_Co_init_39 rfl (lv_at hl 0 rfl) ?_
      refine lv_aload_n hx hb dd_Co_init_40 rfl (lv_at hl 0 rfl) ?_
      refine ly_get (v := .int (11 : Int32)) C hP 0 rfl uw_Co rfl 0 (by decide) wa_206 rfl dd_Co_init_41 ?_
      refine ly_newa (ty := .long) (at0 := .long) (a0 := (11, .inr (.inl (fun _ => (0 : Int64))))) C 0 rfl rfl (fun _ h => h) wa_208 hP hD hS 11 (fun _ => rfl) rfl (by omega) (by decide) (by omega) (by omega) dd_Co_init_44 (fun q44 H hP hD hS => ?_)
      refine W.widen (k := 1) (n := 11) (by omega) (by omega) ?_
      have hcs : 1 ≤ R.cells ∧ 11 ≤ R.slots := ⟨by omega, by omega⟩
      refine ly_putF (ws' := [(ah, .inr (1, [.int (11 : Int32), .ref q44, .int (1 : Int32)])), (q44, .inl (K 0, 11, .inr (.inl (fun _ => (0 : Int64)))))]) C hP hD hS 0 rfl uw_Co tt_Co nn_Co rfl 1 (by decide) wa_209 rfl hin rfl rfl rfl (Nat.le_of_ble_eq_true rfl) dd_Co_init_46 rfl (fun H locs hP hD hS => ?_)
      refine lv_iconst (v := (0 : Int32)) hx hb dd_Co_init_49 (by decide) ?_
      refine lv_istore_n (lv' := [(2, .int (0 : Int32)), (0, .ref ah), (1, .int x)]) hx hb dd_Co_init_50 rfl hl (by decide) rfl (fun ls hl => ?_)
      obtain ⟨resr, hrr⟩ : ∃ z, z = ck_rows (1 : Int32) 11 0 (fun _ => (0 : Int64)) := ⟨_, rfl⟩
      have lp51 : ∀ (k j : Nat) (ro : Nat → Int64) (ls : Array Slot) (H : Heap) (locs : List Loc), j + k = 11 → ck_rows (1 : Int32) k j ro = resr → lv_has ls 3 [(2, .int (nI j)), (0, .ref ah), (1, .int x)] → va_P D cl_all [(ah, .inr (1, [.int (11 : Int32), .ref q44, .int (1 : Int32)])), (q44, .inl (K 0, 11, .inr (.inl ro)))] H → va_D A [(ah, .inr (1, [.int (11 : Int32), .ref q44, .int (1 : Int32)])), (q44, .inl (K 0, 11, .inr (.inl ro)))] → va_S A s.heap H locs → W p l e R s m av below meth c H locs 1 11 Q (F0 m 51 ls []) := by
        intro k
        induction k with
        | zero =>
          intro j ro ls H locs hjk hM hl hP hD hS
          have hj0 : j = 11 := by omega
          subst j
          rw [ck_rows, hrr] at hM
          subst hM
          refine lv_iload_n hx hb dd_Co_init_51 rfl (lv_at hl 0 rfl) ?_
          refine lv_aload_n hx hb dd_Co_init_52 rfl (lv_at hl 1 rfl) ?_
          refine ly_get (v := .int (11 : Int32)) C hP 0 rfl uw_Co rfl 0 (by decide) wa_206 rfl dd_Co_init_53 ?_
          refine lv_icmp_ge (tgt := 89) hx hb dd_Co_init_56 (by decide) (fun _ => ?_) (fun h => absurd (nI_le (a := 11) (b := 11) (by omega) (by omega)) h)
          refine W.widen (k := 1) (n := 11) (by omega) (by omega) ?_
          have en : ck_n x = 11 := by unfold ck_n; first | exact if_pos h7 | exact if_neg h7
          have eg : ck_g x = 1 := by unfold ck_g; first | exact if_pos h23 | (rw [if_neg h23]; first | exact if_pos h28 | exact if_neg h28)
          have hP : va_P D cl_all [(ah, .inr (1, [.int (nI (ck_n x)), .ref q44, .int (ck_g x)])), (q44, .inl (K 0, ck_n x, .inr (.inl (ck_r x))))] H := by rw [ck_r, en, eg]; exact hP
          have hD : va_D A [(ah, .inr (1, [.int (nI (ck_n x)), .ref q44, .int (ck_g x)])), (q44, .inl (K 0, ck_n x, .inr (.inl (ck_r x))))] := by rw [ck_r, en, eg]; exact hD
          exact ret (fun _ => q44) H locs 89 ls hS hP hD dd_Co_init_89
        | succ k ih51 =>
          intro j ro ls H locs hjk hM hl hP hD hS
          rw [ck_rows] at hM
          rw [if_neg (by decide)] at hM
          refine lv_iload_n hx hb dd_Co_init_51 rfl (lv_at hl 0 rfl) ?_
          refine lv_aload_n hx hb dd_Co_init_52 rfl (lv_at hl 1 rfl) ?_
          refine ly_get (v := .int (11 : Int32)) C hP 0 rfl uw_Co rfl 0 (by decide) wa_206 rfl dd_Co_init_53 ?_
          refine lv_icmp_ge (tgt := 89) hx hb dd_Co_init_56 (by decide) (fun h => absurd h (nI_ge (a := j) (b := 11) (by omega) (by omega))) (fun _ => ?_)
          refine lv_aload_n hx hb dd_Co_init_59 rfl (lv_at hl 1 rfl) ?_
          refine ly_get (v := .ref q44) C hP 0 rfl uw_Co rfl 1 (by decide) wa_209 rfl dd_Co_init_60 ?_
          refine lv_iload_n hx hb dd_Co_init_63 rfl (lv_at hl 0 rfl) ?_
          refine lv_aload_n hx hb dd_Co_init_64 rfl (lv_at hl 1 rfl) ?_
          refine ly_get (v := .int (1 : Int32)) C hP 0 rfl uw_Co rfl 2 (by decide) wa_207 rfl dd_Co_init_65 ?_
          refine lv_if_eq (tgt := 78) hx hb dd_Co_init_68 (by decide) (fun h => absurd h (by decide)) (fun _ => ?_)
          refine lv_iload_n hx hb dd_Co_init_71 rfl (lv_at hl 0 rfl) ?_
          obtain ⟨r_72, hq72⟩ : ∃ z, z = mm_Co_groupedRow j := ⟨_, rfl⟩
          try rw [← hq72] at hM
          refine ly_cS_l (n := 1) (z := r_72) (rest := [.int (nI j), .ref q44]) (wn := [(ah, .inr (1, [.int (11 : Int32), .ref q44, .int (1 : Int32)])), (q44, .inl (K 0, 11, .inr (.inl ro)))]) C (cc_Co_groupedRow D K j (by omega)) hq72 wa_219 wa_210 wa_41 wa_211 (by decide) (Nat.le_trans (by decide) hRf) (Nat.le_trans (by decide) hRl) rfl hl.1 rfl (Nat.le_of_ble_eq_true rfl) dd_Co_init_72 hcs [] [0, 1] [0, 1] hP hD hS rfl rfl (by decide) rfl (fun H locs hP hD hS => ?_)
          refine W.eq (g2 := F0 m 75 ls [.long r_72, .int (nI j), .ref q44]) rfl ?_
          refine lv_goto (tgt := 82) hx hb dd_Co_init_75 (by decide) ?_
          refine ly_last (ws' := [(ah, .inr (1, [.int (11 : Int32), .ref q44, .int (1 : Int32)])), (q44, .inl (K 0, 11, .inr (.inl (vp_updL ro j r_72))))]) C hP hD hS 1 rfl j rfl (by omega) (by omega) dd_Co_init_82 rfl (fun H locs hP hD hS => ?_)
          refine lv_iinc (k := 0) (v := (nI (j + 1))) (lv' := [(2, .int (nI (j + 1))), (0, .ref ah), (1, .int x)]) hx hb dd_Co_init_83 hl rfl (ly_incN _) (by decide) rfl (fun ls hl => ?_)
          refine lv_goto (tgt := 51) hx hb dd_Co_init_86 (by decide) ?_
          exact ih51 (j + 1) (vp_updL ro j r_72) ls H locs (by omega) hM (lv_sub hl [0, 1, 2] rfl) hP hD hS
      exact lp51 11 0 (fun _ => (0 : Int64)) ls H locs (by omega) hrr.symm (lv_sub hl [0, 1, 2] rfl) hP hD hS
    · skip
      refine lv_iload_n hx hb dd_Co_init_26 rfl (lv_at hl 1 rfl) ?_
      refine lv_iconst (v := (2 : Int32)) hx hb dd_Co_init_27 (by decide) ?_
      refine lv_icmp_ne (tgt := 35) hx hb dd_Co_init_28 (by decide) (fun h28 => ?_) (fun h28 => ?_)
      · skip
        refine lv_iconst (v := (0 : Int32)) hx hb dd_Co_init_35 (by decide) ?_
        refine ly_putF (ws' := [(ah, .inr (1, [.int (11 : Int32), .null, .int (0 : Int32)]))]) C hP hD hS 0 rfl uw_Co tt_Co nn_Co rfl 2 (by decide) wa_207 rfl hin rfl (by decide) (by decide) (Nat.le_of_ble_eq_true rfl) dd_Co_init_36 rfl (fun H locs hP hD hS => ?_)
        refine lv_aload_n hx hb dd_Co_init_39 rfl (lv_at hl 0 rfl) ?_
        refine lv_aload_n hx hb dd_Co_init_40 rfl (lv_at hl 0 rfl) ?_
        refine ly_get (v := .int (11 : Int32)) C hP 0 rfl uw_Co rfl 0 (by decide) wa_206 rfl dd_Co_init_41 ?_
        refine ly_newa (ty := .long) (at0 := .long) (a0 := (11, .inr (.inl (fun _ => (0 : Int64))))) C 0 rfl rfl (fun _ h => h) wa_208 hP hD hS 11 (fun _ => rfl) rfl (by omega) (by decide) (by omega) (by omega) dd_Co_init_44 (fun q44 H hP hD hS => ?_)
        refine W.widen (k := 1) (n := 11) (by omega) (by omega) ?_
        have hcs : 1 ≤ R.cells ∧ 11 ≤ R.slots := ⟨by omega, by omega⟩
        refine ly_putF (ws' := [(ah, .inr (1, [.int (11 : Int32), .ref q44, .int (0 : Int32)])), (q44, .inl (K 0, 11, .inr (.inl (fun _ => (0 : Int64)))))]) C hP hD hS 0 rfl uw_Co tt_Co nn_Co rfl 1 (by decide) wa_209 rfl hin rfl rfl rfl (Nat.le_of_ble_eq_true rfl) dd_Co_init_46 rfl (fun H locs hP hD hS => ?_)
        refine lv_iconst (v := (0 : Int32)) hx hb dd_Co_init_49 (by decide) ?_
        refine lv_istore_n (lv' := [(2, .int (0 : Int32)), (0, .ref ah), (1, .int x)]) hx hb dd_Co_init_50 rfl hl (by decide) rfl (fun ls hl => ?_)
        obtain ⟨resr, hrr⟩ : ∃ z, z = ck_rows (0 : Int32) 11 0 (fun _ => (0 : Int64)) := ⟨_, rfl⟩
        have lp51 : ∀ (k j : Nat) (ro : Nat → Int64) (ls : Array Slot) (H : Heap) (locs : List Loc), j + k = 11 → ck_rows (0 : Int32) k j ro = resr → lv_has ls 3 [(2, .int (nI j)), (0, .ref ah), (1, .int x)] → va_P D cl_all [(ah, .inr (1, [.int (11 : Int32), .ref q44, .int (0 : Int32)])), (q44, .inl (K 0, 11, .inr (.inl ro)))] H → va_D A [(ah, .inr (1, [.int (11 : Int32), .ref q44, .int (0 : Int32)])), (q44, .inl (K 0, 11, .inr (.inl ro)))] → va_S A s.heap H locs → W p l e R s m av below meth c H locs 1 11 Q (F0 m 51 ls []) := by
          intro k
          induction k with
          | zero =>
            intro j ro ls H locs hjk hM hl hP hD hS
            have hj0 : j = 11 := by omega
            subst j
            rw [ck_rows, hrr] at hM
            subst hM
            refine lv_iload_n hx hb dd_Co_init_51 rfl (lv_at hl 0 rfl) ?_
            refine lv_aload_n hx hb dd_Co_init_52 rfl (lv_at hl 1 rfl) ?_
            refine ly_get (v := .int (11 : Int32)) C hP 0 rfl uw_Co rfl 0 (by decide) wa_206 rfl dd_Co_init_53 ?_
            refine lv_icmp_ge (tgt := 89) hx hb dd_Co_init_56 (by decide) (fun _ => ?_) (fun h => absurd (nI_le (a := 11) (b := 11) (by omega) (by omega)) h)
            refine W.widen (k := 1) (n := 11) (by omega) (by omega) ?_
            have en : ck_n x = 11 := by unfold ck_n; first | exact if_pos h7 | exact if_neg h7
            have eg : ck_g x = 0 := by unfold ck_g; first | exact if_pos h23 | (rw [if_neg h23]; first | exact if_pos h28 | exact if_neg h28)
            have hP : va_P D cl_all [(ah, .inr (1, [.int (nI (ck_n x)), .ref q44, .int (ck_g x)])), (q44, .inl (K 0, ck_n x, .inr (.inl (ck_r x))))] H := by rw [ck_r, en, eg]; exact hP
            have hD : va_D A [(ah, .inr (1, [.int (nI (ck_n x)), .ref q44, .int (ck_g x)])), (q44, .inl (K 0, ck_n x, .inr (.inl (ck_r x))))] := by rw [ck_r, en, eg]; exact hD
            exact ret (fun _ => q44) H locs 89 ls hS hP hD dd_Co_init_89
          | succ k ih51 =>
            intro j ro ls H locs hjk hM hl hP hD hS
            rw [ck_rows] at hM
            rw [if_pos (by decide)] at hM
            refine lv_iload_n hx hb dd_Co_init_51 rfl (lv_at hl 0 rfl) ?_
            refine lv_aload_n hx hb dd_Co_init_52 rfl (lv_at hl 1 rfl) ?_
            refine ly_get (v := .int (11 : Int32)) C hP 0 rfl uw_Co rfl 0 (by decide) wa_206 rfl dd_Co_init_53 ?_
            refine lv_icmp_ge (tgt := 89) hx hb dd_Co_init_56 (by decide) (fun h => absurd h (nI_ge (a := j) (b := 11) (by omega) (by omega))) (fun _ => ?_)
            refine lv_aload_n hx hb dd_Co_init_59 rfl (lv_at hl 1 rfl) ?_
            refine ly_get (v := .ref q44) C hP 0 rfl uw_Co rfl 1 (by decide) wa_209 rfl dd_Co_init_60 ?_
            refine lv_iload_n hx hb dd_Co_init_63 rfl (lv_at hl 0 rfl) ?_
            refine lv_aload_n hx hb dd_Co_init_64 rfl (lv_at hl 1 rfl) ?_
            refine ly_get (v := .int (0 : Int32)) C hP 0 rfl uw_Co rfl 2 (by decide) wa_207 rfl dd_Co_init_65 ?_
            refine lv_if_eq (tgt := 78) hx hb dd_Co_init_68 (by decide) (fun _ => ?_) (fun h => absurd (by decide) h)
            refine lv_iload_n hx hb dd_Co_init_78 rfl (lv_at hl 0 rfl) ?_
            obtain ⟨r_79, hq79⟩ : ∃ z, z = mm_Co_plainRow j := ⟨_, rfl⟩
            try rw [← hq79] at hM
            refine ly_cS_l (n := 1) (z := r_79) (rest := [.int (nI j), .ref q44]) (wn := [(ah, .inr (1, [.int (11 : Int32), .ref q44, .int (0 : Int32)])), (q44, .inl (K 0, 11, .inr (.inl ro)))]) C (cc_Co_plainRow D K j) hq79 wa_214 wa_212 wa_41 wa_213 (by decide) (Nat.le_trans (by decide) hRf) (Nat.le_trans (by decide) hRl) rfl hl.1 rfl (Nat.le_of_ble_eq_true rfl) dd_Co_init_79 hcs [] [0, 1] [0, 1] hP hD hS rfl rfl (by decide) rfl (fun H locs hP hD hS => ?_)
            refine W.eq (g2 := F0 m 82 ls [.long r_79, .int (nI j), .ref q44]) rfl ?_
            refine ly_last (ws' := [(ah, .inr (1, [.int (11 : Int32), .ref q44, .int (0 : Int32)])), (q44, .inl (K 0, 11, .inr (.inl (vp_updL ro j r_79))))]) C hP hD hS 1 rfl j rfl (by omega) (by omega) dd_Co_init_82 rfl (fun H locs hP hD hS => ?_)
            refine lv_iinc (k := 0) (v := (nI (j + 1))) (lv' := [(2, .int (nI (j + 1))), (0, .ref ah), (1, .int x)]) hx hb dd_Co_init_83 hl rfl (ly_incN _) (by decide) rfl (fun ls hl => ?_)
            refine lv_goto (tgt := 51) hx hb dd_Co_init_86 (by decide) ?_
            exact ih51 (j + 1) (vp_updL ro j r_79) ls H locs (by omega) hM (lv_sub hl [0, 1, 2] rfl) hP hD hS
        exact lp51 11 0 (fun _ => (0 : Int64)) ls H locs (by omega) hrr.symm (lv_sub hl [0, 1, 2] rfl) hP hD hS
      · skip
        refine lv_iconst (v := (1 : Int32)) hx hb dd_Co_init_31 (by decide) ?_
        refine lv_goto (tgt := 36) hx hb dd_Co_init_32 (by decide) ?_
        refine ly_putF (ws' := [(ah, .inr (1, [.int (11 : Int32), .null, .int (1 : Int32)]))]) C hP hD hS 0 rfl uw_Co tt_Co nn_Co rfl 2 (by decide) wa_207 rfl hin rfl (by decide) (by decide) (Nat.le_of_ble_eq_true rfl) dd_Co_init_36 rfl (fun H locs hP hD hS => ?_)
        refine lv_aload_n hx hb dd_Co_init_39 rfl (lv_at hl 0 rfl) ?_
        refine lv_aload_n hx hb dd_Co_init_40 rfl (lv_at hl 0 rfl) ?_
        refine ly_get (v := .int (11 : Int32)) C hP 0 rfl uw_Co rfl 0 (by decide) wa_206 rfl dd_Co_init_41 ?_
        refine ly_newa (ty := .long) (at0 := .long) (a0 := (11, .inr (.inl (fun _ => (0 : Int64))))) C 0 rfl rfl (fun _ h => h) wa_208 hP hD hS 11 (fun _ => rfl) rfl (by omega) (by decide) (by omega) (by omega) dd_Co_init_44 (fun q44 H hP hD hS => ?_)
        refine W.widen (k := 1) (n := 11) (by omega) (by omega) ?_
        have hcs : 1 ≤ R.cells ∧ 11 ≤ R.slots := ⟨by omega, by omega⟩
        refine ly_putF (ws' := [(ah, .inr (1, [.int (11 : Int32), .ref q44, .int (1 : Int32)])), (q44, .inl (K 0, 11, .inr (.inl (fun _ => (0 : Int64)))))]) C hP hD hS 0 rfl uw_Co tt_Co nn_Co rfl 1 (by decide) wa_209 rfl hin rfl rfl rfl (Nat.le_of_ble_eq_true rfl) dd_Co_init_46 rfl (fun H locs hP hD hS => ?_)
        refine lv_iconst (v := (0 : Int32)) hx hb dd_Co_init_49 (by decide) ?_
        refine lv_istore_n (lv' := [(2, .int (0 : Int32)), (0, .ref ah), (1, .int x)]) hx hb dd_Co_init_50 rfl hl (by decide) rfl (fun ls hl => ?_)
        obtain ⟨resr, hrr⟩ : ∃ z, z = ck_rows (1 : Int32) 11 0 (fun _ => (0 : Int64)) := ⟨_, rfl⟩
        have lp51 : ∀ (k j : Nat) (ro : Nat → Int64) (ls : Array Slot) (H : Heap) (locs : List Loc), j + k = 11 → ck_rows (1 : Int32) k j ro = resr → lv_has ls 3 [(2, .int (nI j)), (0, .ref ah), (1, .int x)] → va_P D cl_all [(ah, .inr (1, [.int (11 : Int32), .ref q44, .int (1 : Int32)])), (q44, .inl (K 0, 11, .inr (.inl ro)))] H → va_D A [(ah, .inr (1, [.int (11 : Int32), .ref q44, .int (1 : Int32)])), (q44, .inl (K 0, 11, .inr (.inl ro)))] → va_S A s.heap H locs → W p l e R s m av below meth c H locs 1 11 Q (F0 m 51 ls []) := by
          intro k
          induction k with
          | zero =>
            intro j ro ls H locs hjk hM hl hP hD hS
            have hj0 : j = 11 := by omega
            subst j
            rw [ck_rows, hrr] at hM
            subst hM
            refine lv_iload_n hx hb dd_Co_init_51 rfl (lv_at hl 0 rfl) ?_
            refine lv_aload_n hx hb dd_Co_init_52 rfl (lv_at hl 1 rfl) ?_
            refine ly_get (v := .int (11 : Int32)) C hP 0 rfl uw_Co rfl 0 (by decide) wa_206 rfl dd_Co_init_53 ?_
            refine lv_icmp_ge (tgt := 89) hx hb dd_Co_init_56 (by decide) (fun _ => ?_) (fun h => absurd (nI_le (a := 11) (b := 11) (by omega) (by omega)) h)
            refine W.widen (k := 1) (n := 11) (by omega) (by omega) ?_
            have en : ck_n x = 11 := by unfold ck_n; first | exact if_pos h7 | exact if_neg h7
            have eg : ck_g x = 1 := by unfold ck_g; first | exact if_pos h23 | (rw [if_neg h23]; first | exact if_pos h28 | exact if_neg h28)
            have hP : va_P D cl_all [(ah, .inr (1, [.int (nI (ck_n x)), .ref q44, .int (ck_g x)])), (q44, .inl (K 0, ck_n x, .inr (.inl (ck_r x))))] H := by rw [ck_r, en, eg]; exact hP
            have hD : va_D A [(ah, .inr (1, [.int (nI (ck_n x)), .ref q44, .int (ck_g x)])), (q44, .inl (K 0, ck_n x, .inr (.inl (ck_r x))))] := by rw [ck_r, en, eg]; exact hD
            exact ret (fun _ => q44) H locs 89 ls hS hP hD dd_Co_init_89
          | succ k ih51 =>
            intro j ro ls H locs hjk hM hl hP hD hS
            rw [ck_rows] at hM
            rw [if_neg (by decide)] at hM
            refine lv_iload_n hx hb dd_Co_init_51 rfl (lv_at hl 0 rfl) ?_
            refine lv_aload_n hx hb dd_Co_init_52 rfl (lv_at hl 1 rfl) ?_
            refine ly_get (v := .int (11 : Int32)) C hP 0 rfl uw_Co rfl 0 (by decide) wa_206 rfl dd_Co_init_53 ?_
            refine lv_icmp_ge (tgt := 89) hx hb dd_Co_init_56 (by decide) (fun h => absurd h (nI_ge (a := j) (b := 11) (by omega) (by omega))) (fun _ => ?_)
            refine lv_aload_n hx hb dd_Co_init_59 rfl (lv_at hl 1 rfl) ?_
            refine ly_get (v := .ref q44) C hP 0 rfl uw_Co rfl 1 (by decide) wa_209 rfl dd_Co_init_60 ?_
            refine lv_iload_n hx hb dd_Co_init_63 rfl (lv_at hl 0 rfl) ?_
            refine lv_aload_n hx hb dd_Co_init_64 rfl (lv_at hl 1 rfl) ?_
            refine ly_get (v := .int (1 : Int32)) C hP 0 rfl uw_Co rfl 2 (by decide) wa_207 rfl dd_Co_init_65 ?_
            refine lv_if_eq (tgt := 78) hx hb dd_Co_init_68 (by decide) (fun h => absurd h (by decide)) (fun _ => ?_)
            refine lv_iload_n hx hb dd_Co_init_71 rfl (lv_at hl 0 rfl) ?_
            obtain ⟨r_72, hq72⟩ : ∃ z, z = mm_Co_groupedRow j := ⟨_, rfl⟩
            try rw [← hq72] at hM
            refine ly_cS_l (n := 1) (z := r_72) (rest := [.int (nI j), .ref q44]) (wn := [(ah, .inr (1, [.int (11 : Int32), .ref q44, .int (1 : Int32)])), (q44, .inl (K 0, 11, .inr (.inl ro)))]) C (cc_Co_groupedRow D K j (by omega)) hq72 wa_219 wa_210 wa_41 wa_211 (by decide) (Nat.le_trans (by decide) hRf) (Nat.le_trans (by decide) hRl) rfl hl.1 rfl (Nat.le_of_ble_eq_true rfl) dd_Co_init_72 hcs [] [0, 1] [0, 1] hP hD hS rfl rfl (by decide) rfl (fun H locs hP hD hS => ?_)
            refine W.eq (g2 := F0 m 75 ls [.long r_72, .int (nI j), .ref q44]) rfl ?_
            refine lv_goto (tgt := 82) hx hb dd_Co_init_75 (by decide) ?_
            refine ly_last (ws' := [(ah, .inr (1, [.int (11 : Int32), .ref q44, .int (1 : Int32)])), (q44, .inl (K 0, 11, .inr (.inl (vp_updL ro j r_72))))]) C hP hD hS 1 rfl j rfl (by omega) (by omega) dd_Co_init_82 rfl (fun H locs hP hD hS => ?_)
            refine lv_iinc (k := 0) (v := (nI (j + 1))) (lv' := [(2, .int (nI (j + 1))), (0, .ref ah), (1, .int x)]) hx hb dd_Co_init_83 hl rfl (ly_incN _) (by decide) rfl (fun ls hl => ?_)
            refine lv_goto (tgt := 51) hx hb dd_Co_init_86 (by decide) ?_
            exact ih51 (j + 1) (vp_updL ro j r_72) ls H locs (by omega) hM (lv_sub hl [0, 1, 2] rfl) hP hD hS
        exact lp51 11 0 (fun _ => (0 : Int64)) ls H locs (by omega) hrr.symm (lv_sub hl [0, 1, 2] rfl) hP hD hS
end
section
def sx (x : Int32) : Nat := if x = (1 : Int32) then 1 else if x = (2 : Int32) then 2 else 0
theorem hs_1 {j : Nat} (hj : j < 3) (e : (1 : Int32) = nI j) : j = 1 := ((nI_eq (a := 1) (by decide) (by omega)).mp e).symm
theorem hs_2 {j : Nat} (hj : j < 3) (e : (2 : Int32) = nI j) : j = 2 := ((nI_eq (a := 2) (by decide) (by omega)).mp e).symm
theorem hs_0 {j : Nat} {x : Int32} (h1 : ¬ x = 1) (h2 : ¬ x = 2) (hj : j < 3) (e : x = nI j) : j = 0 := by
  rcases (show j = 0 ∨ j = 1 ∨ j = 2 by omega) with h | h | h
  · exact h
  · subst h; exact absurd e h1
  · subst h; exact absurd e h2
def ws_L3 (K : Nat → ClassId) (ah ac ar ap aq ax au ak az b0 c0 d0 b1 c1 d1 b2 c2 d2 : Nat) (n : Nat) (lf : Int64) (rb : Int64) (gr : Int32) (ro : Nat → Int64) (sr : Nat → Int64) (sv : Nat → Int64) (up : Nat → Int32) (ct : Nat → Int32) (al : Int32) (sf : Nat → Option Nat) (th : Nat → Int32) (wr fl : Nat → Nat → Int64) : va_W := [(ah, .inr (0, [.ref ac, .ref ap, .ref az, .ref au, .ref ak, .long lf, .long rb])), (ac, .inr (1, [.int (nI n), .ref ar, .int gr])), (ar, .inl (K 0, n, .inr (.inl ro))), (ap, .inr (2, [.ref aq, .ref ax])), (aq, .inl (K 0, 6, .inr (.inl sr))), (ax, .inl (K 0, 6, .inr (.inl sv))), (au, .inl (K 2, 12, .inl up)), (ak, .inl (K 1, 4, .inl ct)), (az, .inl (K 3, 3, .inr (.inr (.inr (.inr sf))))), (b0, .inr (3, [.int (nI 0), .int al, .ref c0, .ref d0, .int (th 0)])), (c0, .inl (K 0, n, .inr (.inl (wr 0)))), (d0, .inl (K 0, n, .inr (.inl (fl 0)))), (b1, .inr (3, [.int (nI 5), .int al, .ref c1, .ref d1, .int (th 1)])), (c1, .inl (K 0, n, .inr (.inl (wr 1)))), (d1, .inl (K 0, n, .inr (.inl (fl 1)))), (b2, .inr (3, [.int (nI 10), .int al, .ref c2, .ref d2, .int (th 2)])), (c2, .inl (K 0, n, .inr (.inl (wr 2)))), (d2, .inl (K 0, n, .inr (.inl (fl 2))))]
def m3_RG_put (x : Int32) (y : Int32) (w : Int64) (n : Nat) (ro : Nat → Int64) (ct : Nat → Int32) (th : Nat → Int32) (wr : Nat → Nat → Int64) (fl : Nat → Nat → Int64) : Int32 × (Nat → Int32) × (Nat → Int32) × (Nat → Nat → Int64) × (Nat → Nat → Int64) := (fun z => (z.1, (z.2.1), (va_up th (sx x) (z.2.2.1)), (va_up wr (sx x) (z.2.2.2.1)), (va_up fl (sx x) (z.2.2.2.2)))) (mm_RG_put x y w n (5 * (sx x)) ro ct (th (sx x)) (wr (sx x)) (fl (sx x)))
set_option maxHeartbeats 4000000 in
set_option maxRecDepth 100000 in
theorem c3_RG_put {l : Launch} (D : va_G) (K : Nat → ClassId) (ah ac ar ap aq ax au ak az b0 c0 d0 b1 c1 d1 b2 c2 d2 : Nat) (x : Int32) (y : Int32) (w : Int64) (n : Nat) (lf : Int64) (rb : Int64) (gr : Int32) (ro : Nat → Int64) (sr : Nat → Int64) (sv : Nat → Int64) (up : Nat → Int32) (ct : Nat → Int32) (al : Int32) (sf : Nat → Option Nat) (th : Nat → Int32) (wr fl : Nat → Nat → Int64) (hn : n ≤ 11) (hn6 : 6 ≤ n) (hs0 : sf 0 = some b0) (hs1 : sf 1 = some b1) (hs2 : sf 2 = some b2) : ly_i l yy_RG_put bb_RG_put 7 (some .int) 4 94 D K [.ref ah, .int x, .int y, .long w] (ws_L3 K ah ac ar ap aq ax au ak az b0 c0 d0 b1 c1 d1 b2 c2 d2 n lf rb gr ro sr sv up ct al sf th wr fl) (fun z => z.1) (fun z => (ws_L3 K ah ac ar ap aq ax au ak az b0 c0 d0 b1 c1 d1 b2 c2 d2 n lf rb gr ro sr sv up (z.2.1) al sf (z.2.2.1) (z.2.2.2.1) (z.2.2.2.2))) (m3_RG_put x y w n ro ct th wr fl) := by
  by_cases h1 : x = 1
  · subst h1
    have hsx : sx (1 : Int32) = 1 := by decide
    rw [m3_RG_put, hsx]
    exact ly_perm_i (cc_RG_put D K ah ac ar ap aq ax au ak b1 c1 d1 az 1 y w n 5 lf rb gr ro sr sv up ct al (th 1) (wr 1) (fl 1) sf (b0, .inr (3, [.int (nI 0), .int al, .ref c0, .ref d0, .int (th 0)])) (c0, .inl (K 0, n, .inr (.inl (wr 0)))) (d0, .inl (K 0, n, .inr (.inl (fl 0)))) (b2, .inr (3, [.int (nI 10), .int al, .ref c2, .ref d2, .int (th 2)])) (c2, .inl (K 0, n, .inr (.inl (wr 2)))) (d2, .inl (K 0, n, .inr (.inl (fl 2)))) (by omega) (by omega) (by omega) (fun j hj e => by rw [hs_1 hj e]; exact hs1)) [0, 1, 2, 3, 4, 5, 6, 7, 12, 13, 14, 8, 9, 10, 11, 15, 16, 17] [0, 1, 2, 3, 4, 5, 6, 7, 11, 12, 13, 14, 8, 9, 10, 15, 16, 17] rfl rfl rfl (by decide) (show ∀ k, k < 18 → k ∈ ([0, 1, 2, 3, 4, 5, 6, 7, 12, 13, 14, 8, 9, 10, 11, 15, 16, 17] : List Nat) by decide)
  · by_cases h2 : x = 2
    · subst h2
      have hsx : sx (2 : Int32) = 2 := by decide
      rw [m3_RG_put, hsx]
      exact ly_perm_i (cc_RG_put D K ah ac ar ap aq ax au ak b2 c2 d2 az 2 y w n 10 lf rb gr ro sr sv up ct al (th 2) (wr 2) (fl 2) sf (b0, .inr (3, [.int (nI 0), .int al, .ref c0, .ref d0, .int (th 0)])) (c0, .inl (K 0, n, .inr (.inl (wr 0)))) (d0, .inl (K 0, n, .inr (.inl (fl 0)))) (b1, .inr (3, [.int (nI 5), .int al, .ref c1, .ref d1, .int (th 1)])) (c1, .inl (K 0, n, .inr (.inl (wr 1)))) (d1, .inl (K 0, n, .inr (.inl (fl 1)))) (by omega) (by omega) (by omega) (fun j hj e => by rw [hs_2 hj e]; exact hs2)) [0, 1, 2, 3, 4, 5, 6, 7, 15, 16, 17, 8, 9, 10, 11, 12, 13, 14] [0, 1, 2, 3, 4, 5, 6, 7, 11, 12, 13, 14, 15, 16, 17, 8, 9, 10] rfl rfl rfl (by decide) (show ∀ k, k < 18 → k ∈ ([0, 1, 2, 3, 4, 5, 6, 7, 15, 16, 17, 8, 9, 10, 11, 12, 13, 14] : List Nat) by decide)
    · have hsx : sx x = 0 := by unfold sx; rw [if_neg h1, if_neg h2]
      rw [m3_RG_put, hsx]
      exact ly_perm_i (cc_RG_put D K ah ac ar ap aq ax au ak b0 c0 d0 az x y w n 0 lf rb gr ro sr sv up ct al (th 0) (wr 0) (fl 0) sf (b1, .inr (3, [.int (nI 5), .int al, .ref c1, .ref d1, .int (th 1)])) (c1, .inl (K 0, n, .inr (.inl (wr 1)))) (d1, .inl (K 0, n, .inr (.inl (fl 1)))) (b2, .inr (3, [.int (nI 10), .int al, .ref c2, .ref d2, .int (th 2)])) (c2, .inl (K 0, n, .inr (.inl (wr 2)))) (d2, .inl (K 0, n, .inr (.inl (fl 2)))) (by omega) (by omega) (by omega) (fun j hj e => by rw [hs_0 h1 h2 hj e]; exact hs0)) [0, 1, 2, 3, 4, 5, 6, 7, 9, 10, 11, 8, 12, 13, 14, 15, 16, 17] [0, 1, 2, 3, 4, 5, 6, 7, 11, 8, 9, 10, 12, 13, 14, 15, 16, 17] rfl rfl rfl (by decide) (show ∀ k, k < 18 → k ∈ ([0, 1, 2, 3, 4, 5, 6, 7, 9, 10, 11, 8, 12, 13, 14, 15, 16, 17] : List Nat) by decide)

def m3_RG_fetch (x : Int32) (y : Int32) (n : Nat) (lf : Int64) (rb : Int64) (gr : Int32) (ro : Nat → Int64) (sr : Nat → Int64) (sv : Nat → Int64) (ct : Nat → Int32) (al : Int32) (th : Nat → Int32) (wr : Nat → Nat → Int64) (fl : Nat → Nat → Int64) : Int32 × (Int64) × (Int64) × (Nat → Int64) × (Nat → Int64) × (Nat → Int32) × (Nat → Int32) := (fun z => (z.1, (z.2.1), (z.2.2.1), (z.2.2.2.1), (z.2.2.2.2.1), (z.2.2.2.2.2.1), (va_up th (sx x) (z.2.2.2.2.2.2)))) (mm_RG_fetch x y n (5 * (sx x)) lf rb gr ro sr sv ct al (th (sx x)) (wr (sx x)) (fl (sx x)))
set_option maxHeartbeats 4000000 in
set_option maxRecDepth 100000 in
theorem c3_RG_fetch {l : Launch} (D : va_G) (K : Nat → ClassId) (ah ac ar ap aq ax au ak az b0 c0 d0 b1 c1 d1 b2 c2 d2 : Nat) (x : Int32) (y : Int32) (n : Nat) (lf : Int64) (rb : Int64) (gr : Int32) (ro : Nat → Int64) (sr : Nat → Int64) (sv : Nat → Int64) (up : Nat → Int32) (ct : Nat → Int32) (al : Int32) (sf : Nat → Option Nat) (th : Nat → Int32) (wr fl : Nat → Nat → Int64) (hn : n ≤ 11) (hn6 : 6 ≤ n) (hs0 : sf 0 = some b0) (hs1 : sf 1 = some b1) (hs2 : sf 2 = some b2) : ly_i l yy_RG_fetch bb_RG_fetch 5 (some .int) 6 155 D K [.ref ah, .int x, .int y] (ws_L3 K ah ac ar ap aq ax au ak az b0 c0 d0 b1 c1 d1 b2 c2 d2 n lf rb gr ro sr sv up ct al sf th wr fl) (fun z => z.1) (fun z => (ws_L3 K ah ac ar ap aq ax au ak az b0 c0 d0 b1 c1 d1 b2 c2 d2 n (z.2.1) (z.2.2.1) gr ro (z.2.2.2.1) (z.2.2.2.2.1) up (z.2.2.2.2.2.1) al sf (z.2.2.2.2.2.2) wr fl)) (m3_RG_fetch x y n lf rb gr ro sr sv ct al th wr fl) := by
  by_cases h1 : x = 1
  · subst h1
    have hsx : sx (1 : Int32) = 1 := by decide
    rw [m3_RG_fetch, hsx]
    exact ly_perm_i (cc_RG_fetch D K ah ac ar ap aq ax au ak b1 c1 d1 az 1 y n 5 lf rb gr ro sr sv up ct al (th 1) (wr 1) (fl 1) sf (b0, .inr (3, [.int (nI 0), .int al, .ref c0, .ref d0, .int (th 0)])) (c0, .inl (K 0, n, .inr (.inl (wr 0)))) (d0, .inl (K 0, n, .inr (.inl (fl 0)))) (b2, .inr (3, [.int (nI 10), .int al, .ref c2, .ref d2, .int (th 2)])) (c2, .inl (K 0, n, .inr (.inl (wr 2)))) (d2, .inl (K 0, n, .inr (.inl (fl 2)))) (by omega) (by omega) (by omega) (fun j hj e => by rw [hs_1 hj e]; exact hs1)) [0, 1, 2, 3, 4, 5, 6, 7, 12, 13, 14, 8, 9, 10, 11, 15, 16, 17] [0, 1, 2, 3, 4, 5, 6, 7, 11, 12, 13, 14, 8, 9, 10, 15, 16, 17] rfl rfl rfl (by decide) (show ∀ k, k < 18 → k ∈ ([0, 1, 2, 3, 4, 5, 6, 7, 12, 13, 14, 8, 9, 10, 11, 15, 16, 17] : List Nat) by decide)
  · by_cases h2 : x = 2
    · subst h2
      have hsx : sx (2 : Int32) = 2 := by decide
      rw [m3_RG_fetch, hsx]
      exact ly_perm_i (cc_RG_fetch D K ah ac ar ap aq ax au ak b2 c2 d2 az 2 y n 10 lf rb gr ro sr sv up ct al (th 2) (wr 2) (fl 2) sf (b0, .inr (3, [.int (nI 0), .int al, .ref c0, .ref d0, .int (th 0)])) (c0, .inl (K 0, n, .inr (.inl (wr 0)))) (d0, .inl (K 0, n, .inr (.inl (fl 0)))) (b1, .inr (3, [.int (nI 5), .int al, .ref c1, .ref d1, .int (th 1)])) (c1, .inl (K 0, n, .inr (.inl (wr 1)))) (d1, .inl (K 0, n, .inr (.inl (fl 1)))) (by omega) (by omega) (by omega) (fun j hj e => by rw [hs_2 hj e]; exact hs2)) [0, 1, 2, 3, 4, 5, 6, 7, 15, 16, 17, 8, 9, 10, 11, 12, 13, 14] [0, 1, 2, 3, 4, 5, 6, 7, 11, 12, 13, 14, 15, 16, 17, 8, 9, 10] rfl rfl rfl (by decide) (show ∀ k, k < 18 → k ∈ ([0, 1, 2, 3, 4, 5, 6, 7, 15, 16, 17, 8, 9, 10, 11, 12, 13, 14] : List Nat) by decide)
    · have hsx : sx x = 0 := by unfold sx; rw [if_neg h1, if_neg h2]
      rw [m3_RG_fetch, hsx]
      exact ly_perm_i (cc_RG_fetch D K ah ac ar ap aq ax au ak b0 c0 d0 az x y n 0 lf rb gr ro sr sv up ct al (th 0) (wr 0) (fl 0) sf (b1, .inr (3, [.int (nI 5), .int al, .ref c1, .ref d1, .int (th 1)])) (c1, .inl (K 0, n, .inr (.inl (wr 1)))) (d1, .inl (K 0, n, .inr (.inl (fl 1)))) (b2, .inr (3, [.int (nI 10), .int al, .ref c2, .ref d2, .int (th 2)])) (c2, .inl (K 0, n, .inr (.inl (wr 2)))) (d2, .inl (K 0, n, .inr (.inl (fl 2)))) (by omega) (by omega) (by omega) (fun j hj e => by rw [hs_0 h1 h2 hj e]; exact hs0)) [0, 1, 2, 3, 4, 5, 6, 7, 9, 10, 11, 8, 12, 13, 14, 15, 16, 17] [0, 1, 2, 3, 4, 5, 6, 7, 11, 8, 9, 10, 12, 13, 14, 15, 16, 17] rfl rfl rfl (by decide) (show ∀ k, k < 18 → k ∈ ([0, 1, 2, 3, 4, 5, 6, 7, 9, 10, 11, 8, 12, 13, 14, 15, 16, 17] : List Nat) by decide)

def m3_RG_fetched (lf : Int64) : Int64 := (fun z => z) (mm_RG_fetched lf)
set_option maxHeartbeats 4000000 in
set_option maxRecDepth 100000 in
theorem c3_RG_fetched {l : Launch} (D : va_G) (K : Nat → ClassId) (ah ac ar ap aq ax au ak az b0 c0 d0 b1 c1 d1 b2 c2 d2 : Nat) (n : Nat) (lf : Int64) (rb : Int64) (gr : Int32) (ro : Nat → Int64) (sr : Nat → Int64) (sv : Nat → Int64) (up : Nat → Int32) (ct : Nat → Int32) (al : Int32) (sf : Nat → Option Nat) (th : Nat → Int32) (wr fl : Nat → Nat → Int64) (hn : n ≤ 11) (hn6 : 6 ≤ n) : ly_l l yy_RG_fetched bb_RG_fetched 1 (some .long) 0 0 D K [.ref ah] (ws_L3 K ah ac ar ap aq ax au ak az b0 c0 d0 b1 c1 d1 b2 c2 d2 n lf rb gr ro sr sv up ct al sf th wr fl) (fun z => z) (fun _ => (ws_L3 K ah ac ar ap aq ax au ak az b0 c0 d0 b1 c1 d1 b2 c2 d2 n lf rb gr ro sr sv up ct al sf th wr fl)) (m3_RG_fetched lf) := by
  exact ly_perm_l (cc_RG_fetched D K ah ac ar ap aq ax au ak b0 c0 d0 az n 0 lf rb gr ro sr sv up ct al (th 0) (wr 0) (fl 0) sf (b1, .inr (3, [.int (nI 5), .int al, .ref c1, .ref d1, .int (th 1)])) (c1, .inl (K 0, n, .inr (.inl (wr 1)))) (d1, .inl (K 0, n, .inr (.inl (fl 1)))) (b2, .inr (3, [.int (nI 10), .int al, .ref c2, .ref d2, .int (th 2)])) (c2, .inl (K 0, n, .inr (.inl (wr 2)))) (d2, .inl (K 0, n, .inr (.inl (fl 2)))) (by omega) (by omega) (by omega)) [0, 1, 2, 3, 4, 5, 6, 7, 9, 10, 11, 8, 12, 13, 14, 15, 16, 17] [0, 1, 2, 3, 4, 5, 6, 7, 11, 8, 9, 10, 12, 13, 14, 15, 16, 17] rfl rfl rfl (by decide) (show ∀ k, k < 18 → k ∈ ([0, 1, 2, 3, 4, 5, 6, 7, 9, 10, 11, 8, 12, 13, 14, 15, 16, 17] : List Nat) by decide)

def m3_RG_revive (x : Int32) (up : Nat → Int32) : Int32 × (Nat → Int32) := (fun z => (z.1, (z.2))) (mm_RG_revive x up)
set_option maxHeartbeats 4000000 in
set_option maxRecDepth 100000 in
theorem c3_RG_revive {l : Launch} (D : va_G) (K : Nat → ClassId) (ah ac ar ap aq ax au ak az b0 c0 d0 b1 c1 d1 b2 c2 d2 : Nat) (x : Int32) (n : Nat) (lf : Int64) (rb : Int64) (gr : Int32) (ro : Nat → Int64) (sr : Nat → Int64) (sv : Nat → Int64) (up : Nat → Int32) (ct : Nat → Int32) (al : Int32) (sf : Nat → Option Nat) (th : Nat → Int32) (wr fl : Nat → Nat → Int64) (hn : n ≤ 11) (hn6 : 6 ≤ n) : ly_i l yy_RG_revive bb_RG_revive 2 (some .boolean) 1 20 D K [.ref ah, .int x] (ws_L3 K ah ac ar ap aq ax au ak az b0 c0 d0 b1 c1 d1 b2 c2 d2 n lf rb gr ro sr sv up ct al sf th wr fl) (fun z => z.1) (fun z => (ws_L3 K ah ac ar ap aq ax au ak az b0 c0 d0 b1 c1 d1 b2 c2 d2 n lf rb gr ro sr sv (z.2) ct al sf th wr fl)) (m3_RG_revive x up) := by
  exact ly_perm_i (cc_RG_revive D K ah ac ar ap aq ax au ak b0 c0 d0 az x n 0 lf rb gr ro sr sv up ct al (th 0) (wr 0) (fl 0) sf (b1, .inr (3, [.int (nI 5), .int al, .ref c1, .ref d1, .int (th 1)])) (c1, .inl (K 0, n, .inr (.inl (wr 1)))) (d1, .inl (K 0, n, .inr (.inl (fl 1)))) (b2, .inr (3, [.int (nI 10), .int al, .ref c2, .ref d2, .int (th 2)])) (c2, .inl (K 0, n, .inr (.inl (wr 2)))) (d2, .inl (K 0, n, .inr (.inl (fl 2)))) (by omega) (by omega) (by omega)) [0, 1, 2, 3, 4, 5, 6, 7, 9, 10, 11, 8, 12, 13, 14, 15, 16, 17] [0, 1, 2, 3, 4, 5, 6, 7, 11, 8, 9, 10, 12, 13, 14, 15, 16, 17] rfl rfl rfl (by decide) (show ∀ k, k < 18 → k ∈ ([0, 1, 2, 3, 4, 5, 6, 7, 9, 10, 11, 8, 12, 13, 14, 15, 16, 17] : List Nat) by decide)

def m3_RG_damage (x : Int32) (y : Int32) (w : Int32) (n : Nat) (th : Nat → Int32) (fl : Nat → Nat → Int64) : Int32 × (Nat → Nat → Int64) := (fun z => (z.1, (va_up fl (sx x) (z.2)))) (mm_RG_damage x y w n (th (sx x)) (fl (sx x)))
set_option maxHeartbeats 4000000 in
set_option maxRecDepth 100000 in
theorem c3_RG_damage {l : Launch} (D : va_G) (K : Nat → ClassId) (ah ac ar ap aq ax au ak az b0 c0 d0 b1 c1 d1 b2 c2 d2 : Nat) (x : Int32) (y : Int32) (w : Int32) (n : Nat) (lf : Int64) (rb : Int64) (gr : Int32) (ro : Nat → Int64) (sr : Nat → Int64) (sv : Nat → Int64) (up : Nat → Int32) (ct : Nat → Int32) (al : Int32) (sf : Nat → Option Nat) (th : Nat → Int32) (wr fl : Nat → Nat → Int64) (hn : n ≤ 11) (hn6 : 6 ≤ n) (hs0 : sf 0 = some b0) (hs1 : sf 1 = some b1) (hs2 : sf 2 = some b2) : ly_i l yy_RG_damage bb_RG_damage 4 (some .boolean) 2 42 D K [.ref ah, .int x, .int y, .int w] (ws_L3 K ah ac ar ap aq ax au ak az b0 c0 d0 b1 c1 d1 b2 c2 d2 n lf rb gr ro sr sv up ct al sf th wr fl) (fun z => z.1) (fun z => (ws_L3 K ah ac ar ap aq ax au ak az b0 c0 d0 b1 c1 d1 b2 c2 d2 n lf rb gr ro sr sv up ct al sf th wr (z.2))) (m3_RG_damage x y w n th fl) := by
  by_cases h1 : x = 1
  · subst h1
    have hsx : sx (1 : Int32) = 1 := by decide
    rw [m3_RG_damage, hsx]
    exact ly_perm_i (cc_RG_damage D K ah ac ar ap aq ax au ak b1 c1 d1 az 1 y w n 5 lf rb gr ro sr sv up ct al (th 1) (wr 1) (fl 1) sf (b0, .inr (3, [.int (nI 0), .int al, .ref c0, .ref d0, .int (th 0)])) (c0, .inl (K 0, n, .inr (.inl (wr 0)))) (d0, .inl (K 0, n, .inr (.inl (fl 0)))) (b2, .inr (3, [.int (nI 10), .int al, .ref c2, .ref d2, .int (th 2)])) (c2, .inl (K 0, n, .inr (.inl (wr 2)))) (d2, .inl (K 0, n, .inr (.inl (fl 2)))) (by omega) (by omega) (by omega) (fun j hj e => by rw [hs_1 hj e]; exact hs1)) [0, 1, 2, 3, 4, 5, 6, 7, 12, 13, 14, 8, 9, 10, 11, 15, 16, 17] [0, 1, 2, 3, 4, 5, 6, 7, 11, 12, 13, 14, 8, 9, 10, 15, 16, 17] rfl rfl rfl (by decide) (show ∀ k, k < 18 → k ∈ ([0, 1, 2, 3, 4, 5, 6, 7, 12, 13, 14, 8, 9, 10, 11, 15, 16, 17] : List Nat) by decide)
  · by_cases h2 : x = 2
    · subst h2
      have hsx : sx (2 : Int32) = 2 := by decide
      rw [m3_RG_damage, hsx]
      exact ly_perm_i (cc_RG_damage D K ah ac ar ap aq ax au ak b2 c2 d2 az 2 y w n 10 lf rb gr ro sr sv up ct al (th 2) (wr 2) (fl 2) sf (b0, .inr (3, [.int (nI 0), .int al, .ref c0, .ref d0, .int (th 0)])) (c0, .inl (K 0, n, .inr (.inl (wr 0)))) (d0, .inl (K 0, n, .inr (.inl (fl 0)))) (b1, .inr (3, [.int (nI 5), .int al, .ref c1, .ref d1, .int (th 1)])) (c1, .inl (K 0, n, .inr (.inl (wr 1)))) (d1, .inl (K 0, n, .inr (.inl (fl 1)))) (by omega) (by omega) (by omega) (fun j hj e => by rw [hs_2 hj e]; exact hs2)) [0, 1, 2, 3, 4, 5, 6, 7, 15, 16, 17, 8, 9, 10, 11, 12, 13, 14] [0, 1, 2, 3, 4, 5, 6, 7, 11, 12, 13, 14, 15, 16, 17, 8, 9, 10] rfl rfl rfl (by decide) (show ∀ k, k < 18 → k ∈ ([0, 1, 2, 3, 4, 5, 6, 7, 15, 16, 17, 8, 9, 10, 11, 12, 13, 14] : List Nat) by decide)
    · have hsx : sx x = 0 := by unfold sx; rw [if_neg h1, if_neg h2]
      rw [m3_RG_damage, hsx]
      exact ly_perm_i (cc_RG_damage D K ah ac ar ap aq ax au ak b0 c0 d0 az x y w n 0 lf rb gr ro sr sv up ct al (th 0) (wr 0) (fl 0) sf (b1, .inr (3, [.int (nI 5), .int al, .ref c1, .ref d1, .int (th 1)])) (c1, .inl (K 0, n, .inr (.inl (wr 1)))) (d1, .inl (K 0, n, .inr (.inl (fl 1)))) (b2, .inr (3, [.int (nI 10), .int al, .ref c2, .ref d2, .int (th 2)])) (c2, .inl (K 0, n, .inr (.inl (wr 2)))) (d2, .inl (K 0, n, .inr (.inl (fl 2)))) (by omega) (by omega) (by omega) (fun j hj e => by rw [hs_0 h1 h2 hj e]; exact hs0)) [0, 1, 2, 3, 4, 5, 6, 7, 9, 10, 11, 8, 12, 13, 14, 15, 16, 17] [0, 1, 2, 3, 4, 5, 6, 7, 11, 8, 9, 10, 12, 13, 14, 15, 16, 17] rfl rfl rfl (by decide) (show ∀ k, k < 18 → k ∈ ([0, 1, 2, 3, 4, 5, 6, 7, 9, 10, 11, 8, 12, 13, 14, 15, 16, 17] : List Nat) by decide)

def m3_RG_repair (x : Int32) (y : Int32) (n : Nat) (rb : Int64) (gr : Int32) (ro : Nat → Int64) (sr : Nat → Int64) (sv : Nat → Int64) (up : Nat → Int32) (ct : Nat → Int32) (al : Int32) (th : Nat → Int32) (wr : Nat → Nat → Int64) (fl : Nat → Nat → Int64) : Int32 × (Int64) × (Nat → Int64) × (Nat → Int64) × (Nat → Int32) × (Nat → Int32) × (Nat → Nat → Int64) × (Nat → Nat → Int64) := (fun z => (z.1, (z.2.1), (z.2.2.1), (z.2.2.2.1), (z.2.2.2.2.1), (va_up th (sx x) (z.2.2.2.2.2.1)), (va_up wr (sx x) (z.2.2.2.2.2.2.1)), (va_up fl (sx x) (z.2.2.2.2.2.2.2)))) (mm_RG_repair x y n (5 * (sx x)) rb gr ro sr sv up ct al (th (sx x)) (wr (sx x)) (fl (sx x)))
set_option maxHeartbeats 4000000 in
set_option maxRecDepth 100000 in
theorem c3_RG_repair {l : Launch} (D : va_G) (K : Nat → ClassId) (ah ac ar ap aq ax au ak az b0 c0 d0 b1 c1 d1 b2 c2 d2 : Nat) (x : Int32) (y : Int32) (n : Nat) (lf : Int64) (rb : Int64) (gr : Int32) (ro : Nat → Int64) (sr : Nat → Int64) (sv : Nat → Int64) (up : Nat → Int32) (ct : Nat → Int32) (al : Int32) (sf : Nat → Option Nat) (th : Nat → Int32) (wr fl : Nat → Nat → Int64) (hn : n ≤ 11) (hn6 : 6 ≤ n) (hs0 : sf 0 = some b0) (hs1 : sf 1 = some b1) (hs2 : sf 2 = some b2) : ly_i l yy_RG_repair bb_RG_repair 4 (some .int) 7 178 D K [.ref ah, .int x, .int y] (ws_L3 K ah ac ar ap aq ax au ak az b0 c0 d0 b1 c1 d1 b2 c2 d2 n lf rb gr ro sr sv up ct al sf th wr fl) (fun z => z.1) (fun z => (ws_L3 K ah ac ar ap aq ax au ak az b0 c0 d0 b1 c1 d1 b2 c2 d2 n lf (z.2.1) gr ro (z.2.2.1) (z.2.2.2.1) up (z.2.2.2.2.1) al sf (z.2.2.2.2.2.1) (z.2.2.2.2.2.2.1) (z.2.2.2.2.2.2.2))) (m3_RG_repair x y n rb gr ro sr sv up ct al th wr fl) := by
  by_cases h1 : x = 1
  · subst h1
    have hsx : sx (1 : Int32) = 1 := by decide
    rw [m3_RG_repair, hsx]
    exact ly_perm_i (cc_RG_repair D K ah ac ar ap aq ax au ak b1 c1 d1 az 1 y n 5 lf rb gr ro sr sv up ct al (th 1) (wr 1) (fl 1) sf (b0, .inr (3, [.int (nI 0), .int al, .ref c0, .ref d0, .int (th 0)])) (c0, .inl (K 0, n, .inr (.inl (wr 0)))) (d0, .inl (K 0, n, .inr (.inl (fl 0)))) (b2, .inr (3, [.int (nI 10), .int al, .ref c2, .ref d2, .int (th 2)])) (c2, .inl (K 0, n, .inr (.inl (wr 2)))) (d2, .inl (K 0, n, .inr (.inl (fl 2)))) (by omega) (by omega) (by omega) (fun j hj e => by rw [hs_1 hj e]; exact hs1)) [0, 1, 2, 3, 4, 5, 6, 7, 12, 13, 14, 8, 9, 10, 11, 15, 16, 17] [0, 1, 2, 3, 4, 5, 6, 7, 11, 12, 13, 14, 8, 9, 10, 15, 16, 17] rfl rfl rfl (by decide) (show ∀ k, k < 18 → k ∈ ([0, 1, 2, 3, 4, 5, 6, 7, 12, 13, 14, 8, 9, 10, 11, 15, 16, 17] : List Nat) by decide)
  · by_cases h2 : x = 2
    · subst h2
      have hsx : sx (2 : Int32) = 2 := by decide
      rw [m3_RG_repair, hsx]
      exact ly_perm_i (cc_RG_repair D K ah ac ar ap aq ax au ak b2 c2 d2 az 2 y n 10 lf rb gr ro sr sv up ct al (th 2) (wr 2) (fl 2) sf (b0, .inr (3, [.int (nI 0), .int al, .ref c0, .ref d0, .int (th 0)])) (c0, .inl (K 0, n, .inr (.inl (wr 0)))) (d0, .inl (K 0, n, .inr (.inl (fl 0)))) (b1, .inr (3, [.int (nI 5), .int al, .ref c1, .ref d1, .int (th 1)])) (c1, .inl (K 0, n, .inr (.inl (wr 1)))) (d1, .inl (K 0, n, .inr (.inl (fl 1)))) (by omega) (by omega) (by omega) (fun j hj e => by rw [hs_2 hj e]; exact hs2)) [0, 1, 2, 3, 4, 5, 6, 7, 15, 16, 17, 8, 9, 10, 11, 12, 13, 14] [0, 1, 2, 3, 4, 5, 6, 7, 11, 12, 13, 14, 15, 16, 17, 8, 9, 10] rfl rfl rfl (by decide) (show ∀ k, k < 18 → k ∈ ([0, 1, 2, 3, 4, 5, 6, 7, 15, 16, 17, 8, 9, 10, 11, 12, 13, 14] : List Nat) by decide)
    · have hsx : sx x = 0 := by unfold sx; rw [if_neg h1, if_neg h2]
      rw [m3_RG_repair, hsx]
      exact ly_perm_i (cc_RG_repair D K ah ac ar ap aq ax au ak b0 c0 d0 az x y n 0 lf rb gr ro sr sv up ct al (th 0) (wr 0) (fl 0) sf (b1, .inr (3, [.int (nI 5), .int al, .ref c1, .ref d1, .int (th 1)])) (c1, .inl (K 0, n, .inr (.inl (wr 1)))) (d1, .inl (K 0, n, .inr (.inl (fl 1)))) (b2, .inr (3, [.int (nI 10), .int al, .ref c2, .ref d2, .int (th 2)])) (c2, .inl (K 0, n, .inr (.inl (wr 2)))) (d2, .inl (K 0, n, .inr (.inl (fl 2)))) (by omega) (by omega) (by omega) (fun j hj e => by rw [hs_0 h1 h2 hj e]; exact hs0)) [0, 1, 2, 3, 4, 5, 6, 7, 9, 10, 11, 8, 12, 13, 14, 15, 16, 17] [0, 1, 2, 3, 4, 5, 6, 7, 11, 8, 9, 10, 12, 13, 14, 15, 16, 17] rfl rfl rfl (by decide) (show ∀ k, k < 18 → k ∈ ([0, 1, 2, 3, 4, 5, 6, 7, 9, 10, 11, 8, 12, 13, 14, 15, 16, 17] : List Nat) by decide)

def m3_RG_mend (x : Int32) (n : Nat) (rb : Int64) (gr : Int32) (ro : Nat → Int64) (sr : Nat → Int64) (sv : Nat → Int64) (up : Nat → Int32) (ct : Nat → Int32) (al : Int32) (th : Nat → Int32) (wr : Nat → Nat → Int64) (fl : Nat → Nat → Int64) : Int32 × (Int64) × (Nat → Int64) × (Nat → Int64) × (Nat → Int32) × (Nat → Int32) × (Nat → Nat → Int64) × (Nat → Nat → Int64) := (fun z => (z.1, (z.2.1), (z.2.2.1), (z.2.2.2.1), (z.2.2.2.2.1), (va_up th (sx x) (z.2.2.2.2.2.1)), (va_up wr (sx x) (z.2.2.2.2.2.2.1)), (va_up fl (sx x) (z.2.2.2.2.2.2.2)))) (mm_RG_mend x n (5 * (sx x)) rb gr ro sr sv up ct al (th (sx x)) (wr (sx x)) (fl (sx x)))
set_option maxHeartbeats 4000000 in
set_option maxRecDepth 100000 in
theorem c3_RG_mend {l : Launch} (D : va_G) (K : Nat → ClassId) (ah ac ar ap aq ax au ak az b0 c0 d0 b1 c1 d1 b2 c2 d2 : Nat) (x : Int32) (n : Nat) (lf : Int64) (rb : Int64) (gr : Int32) (ro : Nat → Int64) (sr : Nat → Int64) (sv : Nat → Int64) (up : Nat → Int32) (ct : Nat → Int32) (al : Int32) (sf : Nat → Option Nat) (th : Nat → Int32) (wr fl : Nat → Nat → Int64) (hn : n ≤ 11) (hn6 : 6 ≤ n) (hs0 : sf 0 = some b0) (hs1 : sf 1 = some b1) (hs2 : sf 2 = some b2) : ly_i l yy_RG_mend bb_RG_mend 6 (some .int) 7 178 D K [.ref ah, .int x] (ws_L3 K ah ac ar ap aq ax au ak az b0 c0 d0 b1 c1 d1 b2 c2 d2 n lf rb gr ro sr sv up ct al sf th wr fl) (fun z => z.1) (fun z => (ws_L3 K ah ac ar ap aq ax au ak az b0 c0 d0 b1 c1 d1 b2 c2 d2 n lf (z.2.1) gr ro (z.2.2.1) (z.2.2.2.1) up (z.2.2.2.2.1) al sf (z.2.2.2.2.2.1) (z.2.2.2.2.2.2.1) (z.2.2.2.2.2.2.2))) (m3_RG_mend x n rb gr ro sr sv up ct al th wr fl) := by
  by_cases h1 : x = 1
  · subst h1
    have hsx : sx (1 : Int32) = 1 := by decide
    rw [m3_RG_mend, hsx]
    exact ly_perm_i (cc_RG_mend D K ah ac ar ap aq ax au ak b1 c1 d1 az 1 n 5 lf rb gr ro sr sv up ct al (th 1) (wr 1) (fl 1) sf (b0, .inr (3, [.int (nI 0), .int al, .ref c0, .ref d0, .int (th 0)])) (c0, .inl (K 0, n, .inr (.inl (wr 0)))) (d0, .inl (K 0, n, .inr (.inl (fl 0)))) (b2, .inr (3, [.int (nI 10), .int al, .ref c2, .ref d2, .int (th 2)])) (c2, .inl (K 0, n, .inr (.inl (wr 2)))) (d2, .inl (K 0, n, .inr (.inl (fl 2)))) (by omega) (by omega) (by omega) (fun j hj e => by rw [hs_1 hj e]; exact hs1)) [0, 1, 2, 3, 4, 5, 6, 7, 12, 13, 14, 8, 9, 10, 11, 15, 16, 17] [0, 1, 2, 3, 4, 5, 6, 7, 11, 12, 13, 14, 8, 9, 10, 15, 16, 17] rfl rfl rfl (by decide) (show ∀ k, k < 18 → k ∈ ([0, 1, 2, 3, 4, 5, 6, 7, 12, 13, 14, 8, 9, 10, 11, 15, 16, 17] : List Nat) by decide)
  · by_cases h2 : x = 2
    · subst h2
      have hsx : sx (2 : Int32) = 2 := by decide
      rw [m3_RG_mend, hsx]
      exact ly_perm_i (cc_RG_mend D K ah ac ar ap aq ax au ak b2 c2 d2 az 2 n 10 lf rb gr ro sr sv up ct al (th 2) (wr 2) (fl 2) sf (b0, .inr (3, [.int (nI 0), .int al, .ref c0, .ref d0, .int (th 0)])) (c0, .inl (K 0, n, .inr (.inl (wr 0)))) (d0, .inl (K 0, n, .inr (.inl (fl 0)))) (b1, .inr (3, [.int (nI 5), .int al, .ref c1, .ref d1, .int (th 1)])) (c1, .inl (K 0, n, .inr (.inl (wr 1)))) (d1, .inl (K 0, n, .inr (.inl (fl 1)))) (by omega) (by omega) (by omega) (fun j hj e => by rw [hs_2 hj e]; exact hs2)) [0, 1, 2, 3, 4, 5, 6, 7, 15, 16, 17, 8, 9, 10, 11, 12, 13, 14] [0, 1, 2, 3, 4, 5, 6, 7, 11, 12, 13, 14, 15, 16, 17, 8, 9, 10] rfl rfl rfl (by decide) (show ∀ k, k < 18 → k ∈ ([0, 1, 2, 3, 4, 5, 6, 7, 15, 16, 17, 8, 9, 10, 11, 12, 13, 14] : List Nat) by decide)
    · have hsx : sx x = 0 := by unfold sx; rw [if_neg h1, if_neg h2]
      rw [m3_RG_mend, hsx]
      exact ly_perm_i (cc_RG_mend D K ah ac ar ap aq ax au ak b0 c0 d0 az x n 0 lf rb gr ro sr sv up ct al (th 0) (wr 0) (fl 0) sf (b1, .inr (3, [.int (nI 5), .int al, .ref c1, .ref d1, .int (th 1)])) (c1, .inl (K 0, n, .inr (.inl (wr 1)))) (d1, .inl (K 0, n, .inr (.inl (fl 1)))) (b2, .inr (3, [.int (nI 10), .int al, .ref c2, .ref d2, .int (th 2)])) (c2, .inl (K 0, n, .inr (.inl (wr 2)))) (d2, .inl (K 0, n, .inr (.inl (fl 2)))) (by omega) (by omega) (by omega) (fun j hj e => by rw [hs_0 h1 h2 hj e]; exact hs0)) [0, 1, 2, 3, 4, 5, 6, 7, 9, 10, 11, 8, 12, 13, 14, 15, 16, 17] [0, 1, 2, 3, 4, 5, 6, 7, 11, 8, 9, 10, 12, 13, 14, 15, 16, 17] rfl rfl rfl (by decide) (show ∀ k, k < 18 → k ∈ ([0, 1, 2, 3, 4, 5, 6, 7, 9, 10, 11, 8, 12, 13, 14, 15, 16, 17] : List Nat) by decide)

def m3_RG_scrub (x : Int32) (n : Nat) (ct : Nat → Int32) (th : Nat → Int32) (fl : Nat → Nat → Int64) : Int32 × (Nat → Int32) × (Nat → Int32) := (fun z => (z.1, (z.2.1), (va_up th (sx x) (z.2.2)))) (mm_RG_scrub x n ct (th (sx x)) (fl (sx x)))
set_option maxHeartbeats 4000000 in
set_option maxRecDepth 100000 in
theorem c3_RG_scrub {l : Launch} (D : va_G) (K : Nat → ClassId) (ah ac ar ap aq ax au ak az b0 c0 d0 b1 c1 d1 b2 c2 d2 : Nat) (x : Int32) (n : Nat) (lf : Int64) (rb : Int64) (gr : Int32) (ro : Nat → Int64) (sr : Nat → Int64) (sv : Nat → Int64) (up : Nat → Int32) (ct : Nat → Int32) (al : Int32) (sf : Nat → Option Nat) (th : Nat → Int32) (wr fl : Nat → Nat → Int64) (hn : n ≤ 11) (hn6 : 6 ≤ n) (hs0 : sf 0 = some b0) (hs1 : sf 1 = some b1) (hs2 : sf 2 = some b2) : ly_i l yy_RG_scrub bb_RG_scrub 5 (some .int) 2 43 D K [.ref ah, .int x] (ws_L3 K ah ac ar ap aq ax au ak az b0 c0 d0 b1 c1 d1 b2 c2 d2 n lf rb gr ro sr sv up ct al sf th wr fl) (fun z => z.1) (fun z => (ws_L3 K ah ac ar ap aq ax au ak az b0 c0 d0 b1 c1 d1 b2 c2 d2 n lf rb gr ro sr sv up (z.2.1) al sf (z.2.2) wr fl)) (m3_RG_scrub x n ct th fl) := by
  by_cases h1 : x = 1
  · subst h1
    have hsx : sx (1 : Int32) = 1 := by decide
    rw [m3_RG_scrub, hsx]
    exact ly_perm_i (cc_RG_scrub D K ah ac ar ap aq ax au ak b1 c1 d1 az 1 n 5 lf rb gr ro sr sv up ct al (th 1) (wr 1) (fl 1) sf (b0, .inr (3, [.int (nI 0), .int al, .ref c0, .ref d0, .int (th 0)])) (c0, .inl (K 0, n, .inr (.inl (wr 0)))) (d0, .inl (K 0, n, .inr (.inl (fl 0)))) (b2, .inr (3, [.int (nI 10), .int al, .ref c2, .ref d2, .int (th 2)])) (c2, .inl (K 0, n, .inr (.inl (wr 2)))) (d2, .inl (K 0, n, .inr (.inl (fl 2)))) (by omega) (by omega) (by omega) (fun j hj e => by rw [hs_1 hj e]; exact hs1)) [0, 1, 2, 3, 4, 5, 6, 7, 12, 13, 14, 8, 9, 10, 11, 15, 16, 17] [0, 1, 2, 3, 4, 5, 6, 7, 11, 12, 13, 14, 8, 9, 10, 15, 16, 17] rfl rfl rfl (by decide) (show ∀ k, k < 18 → k ∈ ([0, 1, 2, 3, 4, 5, 6, 7, 12, 13, 14, 8, 9, 10, 11, 15, 16, 17] : List Nat) by decide)
  · by_cases h2 : x = 2
    · subst h2
      have hsx : sx (2 : Int32) = 2 := by decide
      rw [m3_RG_scrub, hsx]
      exact ly_perm_i (cc_RG_scrub D K ah ac ar ap aq ax au ak b2 c2 d2 az 2 n 10 lf rb gr ro sr sv up ct al (th 2) (wr 2) (fl 2) sf (b0, .inr (3, [.int (nI 0), .int al, .ref c0, .ref d0, .int (th 0)])) (c0, .inl (K 0, n, .inr (.inl (wr 0)))) (d0, .inl (K 0, n, .inr (.inl (fl 0)))) (b1, .inr (3, [.int (nI 5), .int al, .ref c1, .ref d1, .int (th 1)])) (c1, .inl (K 0, n, .inr (.inl (wr 1)))) (d1, .inl (K 0, n, .inr (.inl (fl 1)))) (by omega) (by omega) (by omega) (fun j hj e => by rw [hs_2 hj e]; exact hs2)) [0, 1, 2, 3, 4, 5, 6, 7, 15, 16, 17, 8, 9, 10, 11, 12, 13, 14] [0, 1, 2, 3, 4, 5, 6, 7, 11, 12, 13, 14, 15, 16, 17, 8, 9, 10] rfl rfl rfl (by decide) (show ∀ k, k < 18 → k ∈ ([0, 1, 2, 3, 4, 5, 6, 7, 15, 16, 17, 8, 9, 10, 11, 12, 13, 14] : List Nat) by decide)
    · have hsx : sx x = 0 := by unfold sx; rw [if_neg h1, if_neg h2]
      rw [m3_RG_scrub, hsx]
      exact ly_perm_i (cc_RG_scrub D K ah ac ar ap aq ax au ak b0 c0 d0 az x n 0 lf rb gr ro sr sv up ct al (th 0) (wr 0) (fl 0) sf (b1, .inr (3, [.int (nI 5), .int al, .ref c1, .ref d1, .int (th 1)])) (c1, .inl (K 0, n, .inr (.inl (wr 1)))) (d1, .inl (K 0, n, .inr (.inl (fl 1)))) (b2, .inr (3, [.int (nI 10), .int al, .ref c2, .ref d2, .int (th 2)])) (c2, .inl (K 0, n, .inr (.inl (wr 2)))) (d2, .inl (K 0, n, .inr (.inl (fl 2)))) (by omega) (by omega) (by omega) (fun j hj e => by rw [hs_0 h1 h2 hj e]; exact hs0)) [0, 1, 2, 3, 4, 5, 6, 7, 9, 10, 11, 8, 12, 13, 14, 15, 16, 17] [0, 1, 2, 3, 4, 5, 6, 7, 11, 8, 9, 10, 12, 13, 14, 15, 16, 17] rfl rfl rfl (by decide) (show ∀ k, k < 18 → k ∈ ([0, 1, 2, 3, 4, 5, 6, 7, 9, 10, 11, 8, 12, 13, 14, 15, 16, 17] : List Nat) by decide)

def m3_RG_cost (x : Int32) (y : Int32) (n : Nat) (gr : Int32) (ro : Nat → Int64) (sr : Nat → Int64) (sv : Nat → Int64) (al : Int32) (th : Nat → Int32) : Int32 × (Nat → Int64) × (Nat → Int64) := (fun z => (z.1, (z.2.1), (z.2.2))) (mm_RG_cost x y n gr ro sr sv al (th (sx x)))
set_option maxHeartbeats 4000000 in
set_option maxRecDepth 100000 in
theorem c3_RG_cost {l : Launch} (D : va_G) (K : Nat → ClassId) (ah ac ar ap aq ax au ak az b0 c0 d0 b1 c1 d1 b2 c2 d2 : Nat) (x : Int32) (y : Int32) (n : Nat) (lf : Int64) (rb : Int64) (gr : Int32) (ro : Nat → Int64) (sr : Nat → Int64) (sv : Nat → Int64) (up : Nat → Int32) (ct : Nat → Int32) (al : Int32) (sf : Nat → Option Nat) (th : Nat → Int32) (wr fl : Nat → Nat → Int64) (hn : n ≤ 11) (hn6 : 6 ≤ n) (hs0 : sf 0 = some b0) (hs1 : sf 1 = some b1) (hs2 : sf 2 = some b2) : ly_i l yy_RG_cost bb_RG_cost 4 (some .int) 5 131 D K [.ref ah, .int x, .int y] (ws_L3 K ah ac ar ap aq ax au ak az b0 c0 d0 b1 c1 d1 b2 c2 d2 n lf rb gr ro sr sv up ct al sf th wr fl) (fun z => z.1) (fun z => (ws_L3 K ah ac ar ap aq ax au ak az b0 c0 d0 b1 c1 d1 b2 c2 d2 n lf rb gr ro (z.2.1) (z.2.2) up ct al sf th wr fl)) (m3_RG_cost x y n gr ro sr sv al th) := by
  by_cases h1 : x = 1
  · subst h1
    have hsx : sx (1 : Int32) = 1 := by decide
    rw [m3_RG_cost, hsx]
    exact ly_perm_i (cc_RG_cost D K ah ac ar ap aq ax au ak b1 c1 d1 az 1 y n 5 lf rb gr ro sr sv up ct al (th 1) (wr 1) (fl 1) sf (b0, .inr (3, [.int (nI 0), .int al, .ref c0, .ref d0, .int (th 0)])) (c0, .inl (K 0, n, .inr (.inl (wr 0)))) (d0, .inl (K 0, n, .inr (.inl (fl 0)))) (b2, .inr (3, [.int (nI 10), .int al, .ref c2, .ref d2, .int (th 2)])) (c2, .inl (K 0, n, .inr (.inl (wr 2)))) (d2, .inl (K 0, n, .inr (.inl (fl 2)))) (by omega) (by omega) (by omega) (fun j hj e => by rw [hs_1 hj e]; exact hs1)) [0, 1, 2, 3, 4, 5, 6, 7, 12, 13, 14, 8, 9, 10, 11, 15, 16, 17] [0, 1, 2, 3, 4, 5, 6, 7, 11, 12, 13, 14, 8, 9, 10, 15, 16, 17] rfl rfl rfl (by decide) (show ∀ k, k < 18 → k ∈ ([0, 1, 2, 3, 4, 5, 6, 7, 12, 13, 14, 8, 9, 10, 11, 15, 16, 17] : List Nat) by decide)
  · by_cases h2 : x = 2
    · subst h2
      have hsx : sx (2 : Int32) = 2 := by decide
      rw [m3_RG_cost, hsx]
      exact ly_perm_i (cc_RG_cost D K ah ac ar ap aq ax au ak b2 c2 d2 az 2 y n 10 lf rb gr ro sr sv up ct al (th 2) (wr 2) (fl 2) sf (b0, .inr (3, [.int (nI 0), .int al, .ref c0, .ref d0, .int (th 0)])) (c0, .inl (K 0, n, .inr (.inl (wr 0)))) (d0, .inl (K 0, n, .inr (.inl (fl 0)))) (b1, .inr (3, [.int (nI 5), .int al, .ref c1, .ref d1, .int (th 1)])) (c1, .inl (K 0, n, .inr (.inl (wr 1)))) (d1, .inl (K 0, n, .inr (.inl (fl 1)))) (by omega) (by omega) (by omega) (fun j hj e => by rw [hs_2 hj e]; exact hs2)) [0, 1, 2, 3, 4, 5, 6, 7, 15, 16, 17, 8, 9, 10, 11, 12, 13, 14] [0, 1, 2, 3, 4, 5, 6, 7, 11, 12, 13, 14, 15, 16, 17, 8, 9, 10] rfl rfl rfl (by decide) (show ∀ k, k < 18 → k ∈ ([0, 1, 2, 3, 4, 5, 6, 7, 15, 16, 17, 8, 9, 10, 11, 12, 13, 14] : List Nat) by decide)
    · have hsx : sx x = 0 := by unfold sx; rw [if_neg h1, if_neg h2]
      rw [m3_RG_cost, hsx]
      exact ly_perm_i (cc_RG_cost D K ah ac ar ap aq ax au ak b0 c0 d0 az x y n 0 lf rb gr ro sr sv up ct al (th 0) (wr 0) (fl 0) sf (b1, .inr (3, [.int (nI 5), .int al, .ref c1, .ref d1, .int (th 1)])) (c1, .inl (K 0, n, .inr (.inl (wr 1)))) (d1, .inl (K 0, n, .inr (.inl (fl 1)))) (b2, .inr (3, [.int (nI 10), .int al, .ref c2, .ref d2, .int (th 2)])) (c2, .inl (K 0, n, .inr (.inl (wr 2)))) (d2, .inl (K 0, n, .inr (.inl (fl 2)))) (by omega) (by omega) (by omega) (fun j hj e => by rw [hs_0 h1 h2 hj e]; exact hs0)) [0, 1, 2, 3, 4, 5, 6, 7, 9, 10, 11, 8, 12, 13, 14, 15, 16, 17] [0, 1, 2, 3, 4, 5, 6, 7, 11, 8, 9, 10, 12, 13, 14, 15, 16, 17] rfl rfl rfl (by decide) (show ∀ k, k < 18 → k ∈ ([0, 1, 2, 3, 4, 5, 6, 7, 9, 10, 11, 8, 12, 13, 14, 15, 16, 17] : List Nat) by decide)

def m3_RG_rank (x : Int32) (n : Nat) (ro : Nat → Int64) (sr : Nat → Int64) (sv : Nat → Int64) (th : Nat → Int32) : Int32 × (Nat → Int64) × (Nat → Int64) := (fun z => (z.1, (z.2.1), (z.2.2))) (mm_RG_rank x n ro sr sv (th (sx x)))
set_option maxHeartbeats 4000000 in
set_option maxRecDepth 100000 in
theorem c3_RG_rank {l : Launch} (D : va_G) (K : Nat → ClassId) (ah ac ar ap aq ax au ak az b0 c0 d0 b1 c1 d1 b2 c2 d2 : Nat) (x : Int32) (n : Nat) (lf : Int64) (rb : Int64) (gr : Int32) (ro : Nat → Int64) (sr : Nat → Int64) (sv : Nat → Int64) (up : Nat → Int32) (ct : Nat → Int32) (al : Int32) (sf : Nat → Option Nat) (th : Nat → Int32) (wr fl : Nat → Nat → Int64) (hn : n ≤ 11) (hn6 : 6 ≤ n) (hs0 : sf 0 = some b0) (hs1 : sf 1 = some b1) (hs2 : sf 2 = some b2) : ly_i l yy_RG_rank bb_RG_rank 2 (some .int) 4 108 D K [.ref ah, .int x] (ws_L3 K ah ac ar ap aq ax au ak az b0 c0 d0 b1 c1 d1 b2 c2 d2 n lf rb gr ro sr sv up ct al sf th wr fl) (fun z => z.1) (fun z => (ws_L3 K ah ac ar ap aq ax au ak az b0 c0 d0 b1 c1 d1 b2 c2 d2 n lf rb gr ro (z.2.1) (z.2.2) up ct al sf th wr fl)) (m3_RG_rank x n ro sr sv th) := by
  by_cases h1 : x = 1
  · subst h1
    have hsx : sx (1 : Int32) = 1 := by decide
    rw [m3_RG_rank, hsx]
    exact ly_perm_i (cc_RG_rank D K ah ac ar ap aq ax au ak b1 c1 d1 az 1 n 5 lf rb gr ro sr sv up ct al (th 1) (wr 1) (fl 1) sf (b0, .inr (3, [.int (nI 0), .int al, .ref c0, .ref d0, .int (th 0)])) (c0, .inl (K 0, n, .inr (.inl (wr 0)))) (d0, .inl (K 0, n, .inr (.inl (fl 0)))) (b2, .inr (3, [.int (nI 10), .int al, .ref c2, .ref d2, .int (th 2)])) (c2, .inl (K 0, n, .inr (.inl (wr 2)))) (d2, .inl (K 0, n, .inr (.inl (fl 2)))) (by omega) (by omega) (by omega) (fun j hj e => by rw [hs_1 hj e]; exact hs1)) [0, 1, 2, 3, 4, 5, 6, 7, 12, 13, 14, 8, 9, 10, 11, 15, 16, 17] [0, 1, 2, 3, 4, 5, 6, 7, 11, 12, 13, 14, 8, 9, 10, 15, 16, 17] rfl rfl rfl (by decide) (show ∀ k, k < 18 → k ∈ ([0, 1, 2, 3, 4, 5, 6, 7, 12, 13, 14, 8, 9, 10, 11, 15, 16, 17] : List Nat) by decide)
  · by_cases h2 : x = 2
    · subst h2
      have hsx : sx (2 : Int32) = 2 := by decide
      rw [m3_RG_rank, hsx]
      exact ly_perm_i (cc_RG_rank D K ah ac ar ap aq ax au ak b2 c2 d2 az 2 n 10 lf rb gr ro sr sv up ct al (th 2) (wr 2) (fl 2) sf (b0, .inr (3, [.int (nI 0), .int al, .ref c0, .ref d0, .int (th 0)])) (c0, .inl (K 0, n, .inr (.inl (wr 0)))) (d0, .inl (K 0, n, .inr (.inl (fl 0)))) (b1, .inr (3, [.int (nI 5), .int al, .ref c1, .ref d1, .int (th 1)])) (c1, .inl (K 0, n, .inr (.inl (wr 1)))) (d1, .inl (K 0, n, .inr (.inl (fl 1)))) (by omega) (by omega) (by omega) (fun j hj e => by rw [hs_2 hj e]; exact hs2)) [0, 1, 2, 3, 4, 5, 6, 7, 15, 16, 17, 8, 9, 10, 11, 12, 13, 14] [0, 1, 2, 3, 4, 5, 6, 7, 11, 12, 13, 14, 15, 16, 17, 8, 9, 10] rfl rfl rfl (by decide) (show ∀ k, k < 18 → k ∈ ([0, 1, 2, 3, 4, 5, 6, 7, 15, 16, 17, 8, 9, 10, 11, 12, 13, 14] : List Nat) by decide)
    · have hsx : sx x = 0 := by unfold sx; rw [if_neg h1, if_neg h2]
      rw [m3_RG_rank, hsx]
      exact ly_perm_i (cc_RG_rank D K ah ac ar ap aq ax au ak b0 c0 d0 az x n 0 lf rb gr ro sr sv up ct al (th 0) (wr 0) (fl 0) sf (b1, .inr (3, [.int (nI 5), .int al, .ref c1, .ref d1, .int (th 1)])) (c1, .inl (K 0, n, .inr (.inl (wr 1)))) (d1, .inl (K 0, n, .inr (.inl (fl 1)))) (b2, .inr (3, [.int (nI 10), .int al, .ref c2, .ref d2, .int (th 2)])) (c2, .inl (K 0, n, .inr (.inl (wr 2)))) (d2, .inl (K 0, n, .inr (.inl (fl 2)))) (by omega) (by omega) (by omega) (fun j hj e => by rw [hs_0 h1 h2 hj e]; exact hs0)) [0, 1, 2, 3, 4, 5, 6, 7, 9, 10, 11, 8, 12, 13, 14, 15, 16, 17] [0, 1, 2, 3, 4, 5, 6, 7, 11, 8, 9, 10, 12, 13, 14, 15, 16, 17] rfl rfl rfl (by decide) (show ∀ k, k < 18 → k ∈ ([0, 1, 2, 3, 4, 5, 6, 7, 9, 10, 11, 8, 12, 13, 14, 15, 16, 17] : List Nat) by decide)

def m3_RG_lost (x : Int32) (al : Int32) (th : Nat → Int32) : Int32 := (fun z => z) (mm_RG_lost x al (th (sx x)))
set_option maxHeartbeats 4000000 in
set_option maxRecDepth 100000 in
theorem c3_RG_lost {l : Launch} (D : va_G) (K : Nat → ClassId) (ah ac ar ap aq ax au ak az b0 c0 d0 b1 c1 d1 b2 c2 d2 : Nat) (x : Int32) (n : Nat) (lf : Int64) (rb : Int64) (gr : Int32) (ro : Nat → Int64) (sr : Nat → Int64) (sv : Nat → Int64) (up : Nat → Int32) (ct : Nat → Int32) (al : Int32) (sf : Nat → Option Nat) (th : Nat → Int32) (wr fl : Nat → Nat → Int64) (hn : n ≤ 11) (hn6 : 6 ≤ n) (hs0 : sf 0 = some b0) (hs1 : sf 1 = some b1) (hs2 : sf 2 = some b2) : ly_i l yy_RG_lost bb_RG_lost 2 (some .int) 1 20 D K [.ref ah, .int x] (ws_L3 K ah ac ar ap aq ax au ak az b0 c0 d0 b1 c1 d1 b2 c2 d2 n lf rb gr ro sr sv up ct al sf th wr fl) (fun z => z) (fun _ => (ws_L3 K ah ac ar ap aq ax au ak az b0 c0 d0 b1 c1 d1 b2 c2 d2 n lf rb gr ro sr sv up ct al sf th wr fl)) (m3_RG_lost x al th) := by
  by_cases h1 : x = 1
  · subst h1
    have hsx : sx (1 : Int32) = 1 := by decide
    rw [m3_RG_lost, hsx]
    exact ly_perm_i (cc_RG_lost D K ah ac ar ap aq ax au ak b1 c1 d1 az 1 n 5 lf rb gr ro sr sv up ct al (th 1) (wr 1) (fl 1) sf (b0, .inr (3, [.int (nI 0), .int al, .ref c0, .ref d0, .int (th 0)])) (c0, .inl (K 0, n, .inr (.inl (wr 0)))) (d0, .inl (K 0, n, .inr (.inl (fl 0)))) (b2, .inr (3, [.int (nI 10), .int al, .ref c2, .ref d2, .int (th 2)])) (c2, .inl (K 0, n, .inr (.inl (wr 2)))) (d2, .inl (K 0, n, .inr (.inl (fl 2)))) (by omega) (by omega) (by omega) (fun j hj e => by rw [hs_1 hj e]; exact hs1)) [0, 1, 2, 3, 4, 5, 6, 7, 12, 13, 14, 8, 9, 10, 11, 15, 16, 17] [0, 1, 2, 3, 4, 5, 6, 7, 11, 12, 13, 14, 8, 9, 10, 15, 16, 17] rfl rfl rfl (by decide) (show ∀ k, k < 18 → k ∈ ([0, 1, 2, 3, 4, 5, 6, 7, 12, 13, 14, 8, 9, 10, 11, 15, 16, 17] : List Nat) by decide)
  · by_cases h2 : x = 2
    · subst h2
      have hsx : sx (2 : Int32) = 2 := by decide
      rw [m3_RG_lost, hsx]
      exact ly_perm_i (cc_RG_lost D K ah ac ar ap aq ax au ak b2 c2 d2 az 2 n 10 lf rb gr ro sr sv up ct al (th 2) (wr 2) (fl 2) sf (b0, .inr (3, [.int (nI 0), .int al, .ref c0, .ref d0, .int (th 0)])) (c0, .inl (K 0, n, .inr (.inl (wr 0)))) (d0, .inl (K 0, n, .inr (.inl (fl 0)))) (b1, .inr (3, [.int (nI 5), .int al, .ref c1, .ref d1, .int (th 1)])) (c1, .inl (K 0, n, .inr (.inl (wr 1)))) (d1, .inl (K 0, n, .inr (.inl (fl 1)))) (by omega) (by omega) (by omega) (fun j hj e => by rw [hs_2 hj e]; exact hs2)) [0, 1, 2, 3, 4, 5, 6, 7, 15, 16, 17, 8, 9, 10, 11, 12, 13, 14] [0, 1, 2, 3, 4, 5, 6, 7, 11, 12, 13, 14, 15, 16, 17, 8, 9, 10] rfl rfl rfl (by decide) (show ∀ k, k < 18 → k ∈ ([0, 1, 2, 3, 4, 5, 6, 7, 15, 16, 17, 8, 9, 10, 11, 12, 13, 14] : List Nat) by decide)
    · have hsx : sx x = 0 := by unfold sx; rw [if_neg h1, if_neg h2]
      rw [m3_RG_lost, hsx]
      exact ly_perm_i (cc_RG_lost D K ah ac ar ap aq ax au ak b0 c0 d0 az x n 0 lf rb gr ro sr sv up ct al (th 0) (wr 0) (fl 0) sf (b1, .inr (3, [.int (nI 5), .int al, .ref c1, .ref d1, .int (th 1)])) (c1, .inl (K 0, n, .inr (.inl (wr 1)))) (d1, .inl (K 0, n, .inr (.inl (fl 1)))) (b2, .inr (3, [.int (nI 10), .int al, .ref c2, .ref d2, .int (th 2)])) (c2, .inl (K 0, n, .inr (.inl (wr 2)))) (d2, .inl (K 0, n, .inr (.inl (fl 2)))) (by omega) (by omega) (by omega) (fun j hj e => by rw [hs_0 h1 h2 hj e]; exact hs0)) [0, 1, 2, 3, 4, 5, 6, 7, 9, 10, 11, 8, 12, 13, 14, 15, 16, 17] [0, 1, 2, 3, 4, 5, 6, 7, 11, 8, 9, 10, 12, 13, 14, 15, 16, 17] rfl rfl rfl (by decide) (show ∀ k, k < 18 → k ∈ ([0, 1, 2, 3, 4, 5, 6, 7, 9, 10, 11, 8, 12, 13, 14, 15, 16, 17] : List Nat) by decide)

def m3_RG_content (x : Int32) (y : Int32) (n : Nat) (th : Nat → Int32) (wr : Nat → Nat → Int64) (fl : Nat → Nat → Int64) : Int64 := (fun z => z) (mm_RG_content x y n (th (sx x)) (wr (sx x)) (fl (sx x)))
set_option maxHeartbeats 4000000 in
set_option maxRecDepth 100000 in
theorem c3_RG_content {l : Launch} (D : va_G) (K : Nat → ClassId) (ah ac ar ap aq ax au ak az b0 c0 d0 b1 c1 d1 b2 c2 d2 : Nat) (x : Int32) (y : Int32) (n : Nat) (lf : Int64) (rb : Int64) (gr : Int32) (ro : Nat → Int64) (sr : Nat → Int64) (sv : Nat → Int64) (up : Nat → Int32) (ct : Nat → Int32) (al : Int32) (sf : Nat → Option Nat) (th : Nat → Int32) (wr fl : Nat → Nat → Int64) (hn : n ≤ 11) (hn6 : 6 ≤ n) (hs0 : sf 0 = some b0) (hs1 : sf 1 = some b1) (hs2 : sf 2 = some b2) : ly_l l yy_RG_content bb_RG_content 3 (some .long) 2 42 D K [.ref ah, .int x, .int y] (ws_L3 K ah ac ar ap aq ax au ak az b0 c0 d0 b1 c1 d1 b2 c2 d2 n lf rb gr ro sr sv up ct al sf th wr fl) (fun z => z) (fun _ => (ws_L3 K ah ac ar ap aq ax au ak az b0 c0 d0 b1 c1 d1 b2 c2 d2 n lf rb gr ro sr sv up ct al sf th wr fl)) (m3_RG_content x y n th wr fl) := by
  by_cases h1 : x = 1
  · subst h1
    have hsx : sx (1 : Int32) = 1 := by decide
    rw [m3_RG_content, hsx]
    exact ly_perm_l (cc_RG_content D K ah ac ar ap aq ax au ak b1 c1 d1 az 1 y n 5 lf rb gr ro sr sv up ct al (th 1) (wr 1) (fl 1) sf (b0, .inr (3, [.int (nI 0), .int al, .ref c0, .ref d0, .int (th 0)])) (c0, .inl (K 0, n, .inr (.inl (wr 0)))) (d0, .inl (K 0, n, .inr (.inl (fl 0)))) (b2, .inr (3, [.int (nI 10), .int al, .ref c2, .ref d2, .int (th 2)])) (c2, .inl (K 0, n, .inr (.inl (wr 2)))) (d2, .inl (K 0, n, .inr (.inl (fl 2)))) (by omega) (by omega) (by omega) (fun j hj e => by rw [hs_1 hj e]; exact hs1)) [0, 1, 2, 3, 4, 5, 6, 7, 12, 13, 14, 8, 9, 10, 11, 15, 16, 17] [0, 1, 2, 3, 4, 5, 6, 7, 11, 12, 13, 14, 8, 9, 10, 15, 16, 17] rfl rfl rfl (by decide) (show ∀ k, k < 18 → k ∈ ([0, 1, 2, 3, 4, 5, 6, 7, 12, 13, 14, 8, 9, 10, 11, 15, 16, 17] : List Nat) by decide)
  · by_cases h2 : x = 2
    · subst h2
      have hsx : sx (2 : Int32) = 2 := by decide
      rw [m3_RG_content, hsx]
      exact ly_perm_l (cc_RG_content D K ah ac ar ap aq ax au ak b2 c2 d2 az 2 y n 10 lf rb gr ro sr sv up ct al (th 2) (wr 2) (fl 2) sf (b0, .inr (3, [.int (nI 0), .int al, .ref c0, .ref d0, .int (th 0)])) (c0, .inl (K 0, n, .inr (.inl (wr 0)))) (d0, .inl (K 0, n, .inr (.inl (fl 0)))) (b1, .inr (3, [.int (nI 5), .int al, .ref c1, .ref d1, .int (th 1)])) (c1, .inl (K 0, n, .inr (.inl (wr 1)))) (d1, .inl (K 0, n, .inr (.inl (fl 1)))) (by omega) (by omega) (by omega) (fun j hj e => by rw [hs_2 hj e]; exact hs2)) [0, 1, 2, 3, 4, 5, 6, 7, 15, 16, 17, 8, 9, 10, 11, 12, 13, 14] [0, 1, 2, 3, 4, 5, 6, 7, 11, 12, 13, 14, 15, 16, 17, 8, 9, 10] rfl rfl rfl (by decide) (show ∀ k, k < 18 → k ∈ ([0, 1, 2, 3, 4, 5, 6, 7, 15, 16, 17, 8, 9, 10, 11, 12, 13, 14] : List Nat) by decide)
    · have hsx : sx x = 0 := by unfold sx; rw [if_neg h1, if_neg h2]
      rw [m3_RG_content, hsx]
      exact ly_perm_l (cc_RG_content D K ah ac ar ap aq ax au ak b0 c0 d0 az x y n 0 lf rb gr ro sr sv up ct al (th 0) (wr 0) (fl 0) sf (b1, .inr (3, [.int (nI 5), .int al, .ref c1, .ref d1, .int (th 1)])) (c1, .inl (K 0, n, .inr (.inl (wr 1)))) (d1, .inl (K 0, n, .inr (.inl (fl 1)))) (b2, .inr (3, [.int (nI 10), .int al, .ref c2, .ref d2, .int (th 2)])) (c2, .inl (K 0, n, .inr (.inl (wr 2)))) (d2, .inl (K 0, n, .inr (.inl (fl 2)))) (by omega) (by omega) (by omega) (fun j hj e => by rw [hs_0 h1 h2 hj e]; exact hs0)) [0, 1, 2, 3, 4, 5, 6, 7, 9, 10, 11, 8, 12, 13, 14, 15, 16, 17] [0, 1, 2, 3, 4, 5, 6, 7, 11, 8, 9, 10, 12, 13, 14, 15, 16, 17] rfl rfl rfl (by decide) (show ∀ k, k < 18 → k ∈ ([0, 1, 2, 3, 4, 5, 6, 7, 9, 10, 11, 8, 12, 13, 14, 15, 16, 17] : List Nat) by decide)

def m3_RG_node (x : Int32) (y : Int32) (n : Nat) : Int32 := (fun z => z) (mm_RG_node x y n (5 * (sx x)))
set_option maxHeartbeats 4000000 in
set_option maxRecDepth 100000 in
theorem c3_RG_node {l : Launch} (D : va_G) (K : Nat → ClassId) (ah ac ar ap aq ax au ak az b0 c0 d0 b1 c1 d1 b2 c2 d2 : Nat) (x : Int32) (y : Int32) (n : Nat) (lf : Int64) (rb : Int64) (gr : Int32) (ro : Nat → Int64) (sr : Nat → Int64) (sv : Nat → Int64) (up : Nat → Int32) (ct : Nat → Int32) (al : Int32) (sf : Nat → Option Nat) (th : Nat → Int32) (wr fl : Nat → Nat → Int64) (hn : n ≤ 11) (hn6 : 6 ≤ n) (hs0 : sf 0 = some b0) (hs1 : sf 1 = some b1) (hs2 : sf 2 = some b2) : ly_i l yy_RG_node bb_RG_node 3 (some .int) 2 42 D K [.ref ah, .int x, .int y] (ws_L3 K ah ac ar ap aq ax au ak az b0 c0 d0 b1 c1 d1 b2 c2 d2 n lf rb gr ro sr sv up ct al sf th wr fl) (fun z => z) (fun _ => (ws_L3 K ah ac ar ap aq ax au ak az b0 c0 d0 b1 c1 d1 b2 c2 d2 n lf rb gr ro sr sv up ct al sf th wr fl)) (m3_RG_node x y n) := by
  by_cases h1 : x = 1
  · subst h1
    have hsx : sx (1 : Int32) = 1 := by decide
    rw [m3_RG_node, hsx]
    exact ly_perm_i (cc_RG_node D K ah ac ar ap aq ax au ak b1 c1 d1 az 1 y n 5 lf rb gr ro sr sv up ct al (th 1) (wr 1) (fl 1) sf (b0, .inr (3, [.int (nI 0), .int al, .ref c0, .ref d0, .int (th 0)])) (c0, .inl (K 0, n, .inr (.inl (wr 0)))) (d0, .inl (K 0, n, .inr (.inl (fl 0)))) (b2, .inr (3, [.int (nI 10), .int al, .ref c2, .ref d2, .int (th 2)])) (c2, .inl (K 0, n, .inr (.inl (wr 2)))) (d2, .inl (K 0, n, .inr (.inl (fl 2)))) (by omega) (by omega) (by omega) (fun j hj e => by rw [hs_1 hj e]; exact hs1)) [0, 1, 2, 3, 4, 5, 6, 7, 12, 13, 14, 8, 9, 10, 11, 15, 16, 17] [0, 1, 2, 3, 4, 5, 6, 7, 11, 12, 13, 14, 8, 9, 10, 15, 16, 17] rfl rfl rfl (by decide) (show ∀ k, k < 18 → k ∈ ([0, 1, 2, 3, 4, 5, 6, 7, 12, 13, 14, 8, 9, 10, 11, 15, 16, 17] : List Nat) by decide)
  · by_cases h2 : x = 2
    · subst h2
      have hsx : sx (2 : Int32) = 2 := by decide
      rw [m3_RG_node, hsx]
      exact ly_perm_i (cc_RG_node D K ah ac ar ap aq ax au ak b2 c2 d2 az 2 y n 10 lf rb gr ro sr sv up ct al (th 2) (wr 2) (fl 2) sf (b0, .inr (3, [.int (nI 0), .int al, .ref c0, .ref d0, .int (th 0)])) (c0, .inl (K 0, n, .inr (.inl (wr 0)))) (d0, .inl (K 0, n, .inr (.inl (fl 0)))) (b1, .inr (3, [.int (nI 5), .int al, .ref c1, .ref d1, .int (th 1)])) (c1, .inl (K 0, n, .inr (.inl (wr 1)))) (d1, .inl (K 0, n, .inr (.inl (fl 1)))) (by omega) (by omega) (by omega) (fun j hj e => by rw [hs_2 hj e]; exact hs2)) [0, 1, 2, 3, 4, 5, 6, 7, 15, 16, 17, 8, 9, 10, 11, 12, 13, 14] [0, 1, 2, 3, 4, 5, 6, 7, 11, 12, 13, 14, 15, 16, 17, 8, 9, 10] rfl rfl rfl (by decide) (show ∀ k, k < 18 → k ∈ ([0, 1, 2, 3, 4, 5, 6, 7, 15, 16, 17, 8, 9, 10, 11, 12, 13, 14] : List Nat) by decide)
    · have hsx : sx x = 0 := by unfold sx; rw [if_neg h1, if_neg h2]
      rw [m3_RG_node, hsx]
      exact ly_perm_i (cc_RG_node D K ah ac ar ap aq ax au ak b0 c0 d0 az x y n 0 lf rb gr ro sr sv up ct al (th 0) (wr 0) (fl 0) sf (b1, .inr (3, [.int (nI 5), .int al, .ref c1, .ref d1, .int (th 1)])) (c1, .inl (K 0, n, .inr (.inl (wr 1)))) (d1, .inl (K 0, n, .inr (.inl (fl 1)))) (b2, .inr (3, [.int (nI 10), .int al, .ref c2, .ref d2, .int (th 2)])) (c2, .inl (K 0, n, .inr (.inl (wr 2)))) (d2, .inl (K 0, n, .inr (.inl (fl 2)))) (by omega) (by omega) (by omega) (fun j hj e => by rw [hs_0 h1 h2 hj e]; exact hs0)) [0, 1, 2, 3, 4, 5, 6, 7, 9, 10, 11, 8, 12, 13, 14, 15, 16, 17] [0, 1, 2, 3, 4, 5, 6, 7, 11, 8, 9, 10, 12, 13, 14, 15, 16, 17] rfl rfl rfl (by decide) (show ∀ k, k < 18 → k ∈ ([0, 1, 2, 3, 4, 5, 6, 7, 9, 10, 11, 8, 12, 13, 14, 15, 16, 17] : List Nat) by decide)

def m3_RG_up (x : Int32) (up : Nat → Int32) : Int32 := (fun z => z) (mm_RG_up x up)
set_option maxHeartbeats 4000000 in
set_option maxRecDepth 100000 in
theorem c3_RG_up {l : Launch} (D : va_G) (K : Nat → ClassId) (ah ac ar ap aq ax au ak az b0 c0 d0 b1 c1 d1 b2 c2 d2 : Nat) (x : Int32) (n : Nat) (lf : Int64) (rb : Int64) (gr : Int32) (ro : Nat → Int64) (sr : Nat → Int64) (sv : Nat → Int64) (up : Nat → Int32) (ct : Nat → Int32) (al : Int32) (sf : Nat → Option Nat) (th : Nat → Int32) (wr fl : Nat → Nat → Int64) (hn : n ≤ 11) (hn6 : 6 ≤ n) : ly_i l yy_RG_up bb_RG_up 2 (some .boolean) 1 20 D K [.ref ah, .int x] (ws_L3 K ah ac ar ap aq ax au ak az b0 c0 d0 b1 c1 d1 b2 c2 d2 n lf rb gr ro sr sv up ct al sf th wr fl) (fun z => z) (fun _ => (ws_L3 K ah ac ar ap aq ax au ak az b0 c0 d0 b1 c1 d1 b2 c2 d2 n lf rb gr ro sr sv up ct al sf th wr fl)) (m3_RG_up x up) := by
  exact ly_perm_i (cc_RG_up D K ah ac ar ap aq ax au ak b0 c0 d0 az x n 0 lf rb gr ro sr sv up ct al (th 0) (wr 0) (fl 0) sf (b1, .inr (3, [.int (nI 5), .int al, .ref c1, .ref d1, .int (th 1)])) (c1, .inl (K 0, n, .inr (.inl (wr 1)))) (d1, .inl (K 0, n, .inr (.inl (fl 1)))) (b2, .inr (3, [.int (nI 10), .int al, .ref c2, .ref d2, .int (th 2)])) (c2, .inl (K 0, n, .inr (.inl (wr 2)))) (d2, .inl (K 0, n, .inr (.inl (fl 2)))) (by omega) (by omega) (by omega)) [0, 1, 2, 3, 4, 5, 6, 7, 9, 10, 11, 8, 12, 13, 14, 15, 16, 17] [0, 1, 2, 3, 4, 5, 6, 7, 11, 8, 9, 10, 12, 13, 14, 15, 16, 17] rfl rfl rfl (by decide) (show ∀ k, k < 18 → k ∈ ([0, 1, 2, 3, 4, 5, 6, 7, 9, 10, 11, 8, 12, 13, 14, 15, 16, 17] : List Nat) by decide)

def m3_RG_count (x : Int32) (ct : Nat → Int32) : Int32 := (fun z => z) (mm_RG_count x ct)
set_option maxHeartbeats 4000000 in
set_option maxRecDepth 100000 in
theorem c3_RG_count {l : Launch} (D : va_G) (K : Nat → ClassId) (ah ac ar ap aq ax au ak az b0 c0 d0 b1 c1 d1 b2 c2 d2 : Nat) (x : Int32) (n : Nat) (lf : Int64) (rb : Int64) (gr : Int32) (ro : Nat → Int64) (sr : Nat → Int64) (sv : Nat → Int64) (up : Nat → Int32) (ct : Nat → Int32) (al : Int32) (sf : Nat → Option Nat) (th : Nat → Int32) (wr fl : Nat → Nat → Int64) (hn : n ≤ 11) (hn6 : 6 ≤ n) : ly_i l yy_RG_count bb_RG_count 2 (some .int) 0 0 D K [.ref ah, .int x] (ws_L3 K ah ac ar ap aq ax au ak az b0 c0 d0 b1 c1 d1 b2 c2 d2 n lf rb gr ro sr sv up ct al sf th wr fl) (fun z => z) (fun _ => (ws_L3 K ah ac ar ap aq ax au ak az b0 c0 d0 b1 c1 d1 b2 c2 d2 n lf rb gr ro sr sv up ct al sf th wr fl)) (m3_RG_count x ct) := by
  exact ly_perm_i (cc_RG_count D K ah ac ar ap aq ax au ak b0 c0 d0 az x n 0 lf rb gr ro sr sv up ct al (th 0) (wr 0) (fl 0) sf (b1, .inr (3, [.int (nI 5), .int al, .ref c1, .ref d1, .int (th 1)])) (c1, .inl (K 0, n, .inr (.inl (wr 1)))) (d1, .inl (K 0, n, .inr (.inl (fl 1)))) (b2, .inr (3, [.int (nI 10), .int al, .ref c2, .ref d2, .int (th 2)])) (c2, .inl (K 0, n, .inr (.inl (wr 2)))) (d2, .inl (K 0, n, .inr (.inl (fl 2)))) (by omega) (by omega) (by omega)) [0, 1, 2, 3, 4, 5, 6, 7, 9, 10, 11, 8, 12, 13, 14, 15, 16, 17] [0, 1, 2, 3, 4, 5, 6, 7, 11, 8, 9, 10, 12, 13, 14, 15, 16, 17] rfl rfl rfl (by decide) (show ∀ k, k < 18 → k ∈ ([0, 1, 2, 3, 4, 5, 6, 7, 9, 10, 11, 8, 12, 13, 14, 15, 16, 17] : List Nat) by decide)

def m3_RG_size (n : Nat) : Int32 := (fun z => z) (mm_RG_size n)
set_option maxHeartbeats 4000000 in
set_option maxRecDepth 100000 in
theorem c3_RG_size {l : Launch} (D : va_G) (K : Nat → ClassId) (ah ac ar ap aq ax au ak az b0 c0 d0 b1 c1 d1 b2 c2 d2 : Nat) (n : Nat) (lf : Int64) (rb : Int64) (gr : Int32) (ro : Nat → Int64) (sr : Nat → Int64) (sv : Nat → Int64) (up : Nat → Int32) (ct : Nat → Int32) (al : Int32) (sf : Nat → Option Nat) (th : Nat → Int32) (wr fl : Nat → Nat → Int64) (hn : n ≤ 11) (hn6 : 6 ≤ n) : ly_i l yy_RG_size bb_RG_size 1 (some .int) 0 0 D K [.ref ah] (ws_L3 K ah ac ar ap aq ax au ak az b0 c0 d0 b1 c1 d1 b2 c2 d2 n lf rb gr ro sr sv up ct al sf th wr fl) (fun z => z) (fun _ => (ws_L3 K ah ac ar ap aq ax au ak az b0 c0 d0 b1 c1 d1 b2 c2 d2 n lf rb gr ro sr sv up ct al sf th wr fl)) (m3_RG_size n) := by
  exact ly_perm_i (cc_RG_size D K ah ac ar ap aq ax au ak b0 c0 d0 az n 0 lf rb gr ro sr sv up ct al (th 0) (wr 0) (fl 0) sf (b1, .inr (3, [.int (nI 5), .int al, .ref c1, .ref d1, .int (th 1)])) (c1, .inl (K 0, n, .inr (.inl (wr 1)))) (d1, .inl (K 0, n, .inr (.inl (fl 1)))) (b2, .inr (3, [.int (nI 10), .int al, .ref c2, .ref d2, .int (th 2)])) (c2, .inl (K 0, n, .inr (.inl (wr 2)))) (d2, .inl (K 0, n, .inr (.inl (fl 2)))) (by omega) (by omega) (by omega)) [0, 1, 2, 3, 4, 5, 6, 7, 9, 10, 11, 8, 12, 13, 14, 15, 16, 17] [0, 1, 2, 3, 4, 5, 6, 7, 11, 8, 9, 10, 12, 13, 14, 15, 16, 17] rfl rfl rfl (by decide) (show ∀ k, k < 18 → k ∈ ([0, 1, 2, 3, 4, 5, 6, 7, 9, 10, 11, 8, 12, 13, 14, 15, 16, 17] : List Nat) by decide)
def mk3 {α : Type} (a b c : α) : Nat → α := fun k => match k with
  | 0 => a
  | 1 => b
  | _ => c
def m3_RG_fail (x : Int32) (n : Nat) (up : Nat → Int32) (th : Nat → Int32) : Int32 × (Nat → Int32) × (Nat → Int32) := (fun z => (z.1, z.2.1, mk3 z.2.2.1 z.2.2.2.1 z.2.2.2.2)) (mm_RG_fail x n up (th 0) (th 1) (th 2))
set_option maxHeartbeats 4000000 in
set_option maxRecDepth 100000 in
theorem c3_RG_fail {l : Launch} (D : va_G) (K : Nat → ClassId) (ah ac ar ap aq ax au ak az b0 c0 d0 b1 c1 d1 b2 c2 d2 : Nat) (x : Int32) (n : Nat) (lf : Int64) (rb : Int64) (gr : Int32) (ro : Nat → Int64) (sr : Nat → Int64) (sv : Nat → Int64) (up : Nat → Int32) (ct : Nat → Int32) (al : Int32) (sf : Nat → Option Nat) (th : Nat → Int32) (wr fl : Nat → Nat → Int64) (hn : n ≤ 11) (hn6 : 6 ≤ n) (hs0 : sf 0 = some b0) (hs1 : sf 1 = some b1) (hs2 : sf 2 = some b2) : ly_i l yy_RG_fail bb_RG_fail 4 (some .int) 3 66 D K [.ref ah, .int x] (ws_L3 K ah ac ar ap aq ax au ak az b0 c0 d0 b1 c1 d1 b2 c2 d2 n lf rb gr ro sr sv up ct al sf th wr fl) (fun z => z.1) (fun z => (ws_L3 K ah ac ar ap aq ax au ak az b0 c0 d0 b1 c1 d1 b2 c2 d2 n lf rb gr ro sr sv z.2.1 ct al sf z.2.2 wr fl)) (m3_RG_fail x n up th) :=
  ly_perm_i (cc_RG_fail D K ah ac ar ap aq ax au ak az b0 c0 d0 b1 c1 d1 b2 c2 d2 x n lf rb gr ro sr sv up ct sf al (th 0) (wr 0) (fl 0) (th 1) (wr 1) (fl 1) (th 2) (wr 2) (fl 2) (by omega) (by omega) hs0 hs1 hs2) [0, 1, 2, 3, 4, 5, 6, 7, 8, 9, 10, 11, 12, 13, 14, 15, 16, 17] [0, 1, 2, 3, 4, 5, 6, 7, 8, 9, 10, 11, 12, 13, 14, 15, 16, 17] rfl rfl rfl (by decide) (show ∀ k, k < 18 → k ∈ ([0, 1, 2, 3, 4, 5, 6, 7, 8, 9, 10, 11, 12, 13, 14, 15, 16, 17] : List Nat) by decide)
end
section
set_option maxHeartbeats 1000000 in
set_option maxRecDepth 100000 in
theorem cc_RG_init {l : Launch} (D : va_G) (K : Nat → ClassId) (ah : Nat) (x : Int32) : ly_n l yy_RG_init bb_RG_init 3 5 119 17 128 D K [.ref ah, .int x] [(ah, .inr (0, [.null, .null, .null, .null, .null, .long (0 : Int64), .long (0 : Int64)]))] (fun u => [(ah, .inr (0, [.ref (u 0), .ref (u 2), .ref (u 5), .ref (u 15), .ref (u 16), .long (0 : Int64), .long (0 : Int64)])), ((u 0), .inr (1, [.int (nI (ck_n x)), .ref (u 1), .int (ck_g x)])), ((u 1), .inl (K 0, (ck_n x), .inr (.inl (ck_r x)))), ((u 2), .inr (2, [.ref (u 3), .ref (u 4)])), ((u 3), .inl (K 0, 6, .inr (.inl (fun _ => (0 : Int64))))), ((u 4), .inl (K 0, 6, .inr (.inl (fun _ => (0 : Int64))))), ((u 5), .inl (K 3, 3, .inr (.inr (.inr (.inr (va_up (va_up (va_up (fun _ => none) 0 (some (u 6))) 1 (some (u 9))) 2 (some (u 12)))))))), ((u 6), .inr (3, [.int ((5 : Int32) * (0 : Int32)), .int (ck_all (ck_n x)), .ref (u 7), .ref (u 8), .int (ck_all (ck_n x))])), ((u 7), .inl (K 0, (ck_n x), .inr (.inl (fun _ => (0 : Int64))))), ((u 8), .inl (K 0, (ck_n x), .inr (.inl (fun _ => (0 : Int64))))), ((u 9), .inr (3, [.int ((5 : Int32) * (1 : Int32)), .int (ck_all (ck_n x)), .ref (u 10), .ref (u 11), .int (ck_all (ck_n x))])), ((u 10), .inl (K 0, (ck_n x), .inr (.inl (fun _ => (0 : Int64))))), ((u 11), .inl (K 0, (ck_n x), .inr (.inl (fun _ => (0 : Int64))))), ((u 12), .inr (3, [.int ((5 : Int32) * (2 : Int32)), .int (ck_all (ck_n x)), .ref (u 13), .ref (u 14), .int (ck_all (ck_n x))])), ((u 13), .inl (K 0, (ck_n x), .inr (.inl (fun _ => (0 : Int64))))), ((u 14), .inl (K 0, (ck_n x), .inr (.inl (fun _ => (0 : Int64))))), ((u 15), .inl (K 2, 12, .inl (upd (upd (upd (upd (upd (upd (upd (upd (upd (upd (upd (upd (fun _ => (0 : Int32)) 0 (1 : Int32)) 1 (1 : Int32)) 2 (1 : Int32)) 3 (1 : Int32)) 4 (1 : Int32)) 5 (1 : Int32)) 6 (1 : Int32)) 7 (1 : Int32)) 8 (1 : Int32)) 9 (1 : Int32)) 10 (1 : Int32)) 11 (1 : Int32)))), ((u 16), .inl (K 1, 4, .inl (fun _ => (0 : Int32))))]) := by
  refine ly_entN (by decide) (Nat.le_of_ble_eq_true rfl) rfl ?_
  intro p e s m av below meth c A ls R Q H locs C hin hRf hRl hRc hRs hS hP hD hl ret
  obtain ⟨hx, hb, hml, hown, ht, -⟩ := id C
  have hcs : 0 ≤ R.cells ∧ 0 ≤ R.slots := ⟨Nat.zero_le _, Nat.zero_le _⟩
  have hl : lv_has ls 3 [(0, .ref ah), (1, .int x)] := hl
  obtain ⟨hn10, hn11⟩ := ck_n_le x
  refine lv_aload_n hx hb dd_RG_init_0 rfl (lv_at hl 0 rfl) ?_
  refine W.objInit hx hb hown (ht _ wa_36) (ht _ wa_37) (ht _ wa_38) rfl (by rw [hml]; exact hl.1) rfl dd_RG_init_1 (Nat.le_trans (by decide) hRf) (show 12 ≤ R.locals from Nat.le_trans (by decide) hRl) ?_
  refine W.eq (g2 := F0 m 4 ls []) rfl ?_
  refine lv_aload_n hx hb dd_RG_init_4 rfl (lv_at hl 0 rfl) ?_
  refine ly_new (ci := 1) (fs := [.int (0 : Int32), .null, .int (0 : Int32)]) C uw_Co tt_Co wa_39 wa_40 wa_41 hP hD hS rfl (by intro j hj; rcases (show j = 0 ∨ j = 1 ∨ j = 2 by omega) with rfl | rfl | rfl <;> rfl) (by omega) (by omega) dd_RG_init_5 (fun q5 H hP hD hS => ?_)
  refine W.widen (k := 1) (n := 3) (by omega) (by omega) ?_
  have hcs : 1 ≤ R.cells ∧ 3 ≤ R.slots := ⟨by omega, by omega⟩
  refine lv_dup hx hb dd_RG_init_8 rfl ?_
  refine lv_iload_n hx hb dd_RG_init_9 rfl (lv_at hl 1 rfl) ?_
  refine ly_cI (n := 1) (rest := [.ref q5, .ref ah]) (wnf := fun u10 => [(ah, .inr (0, [.null, .null, .null, .null, .null, .long (0 : Int64), .long (0 : Int64)])), (q5, .inr (1, [.int (nI (ck_n x)), .ref (u10 0), .int (ck_g x)])), ((u10 0), .inl (K 0, (ck_n x), .inr (.inl (ck_r x))))]) C (cc_Co_init D K q5 x) wa_204 wa_42 wa_41 wa_43 rfl (by decide) (Nat.le_trans (by decide) hRf) (Nat.le_trans (by decide) hRl) rfl hl.1 rfl (Nat.le_of_ble_eq_true rfl) dd_RG_init_10 (by omega) [1] [0] [0, 1, 2] hP hD hS rfl rfl (by decide) (fun _ => rfl) (fun u10 H locs hP hD hS => ?_)
  refine W.eq (g2 := F0 m 13 ls [.ref q5, .ref ah]) rfl ?_
  refine W.widen (k := 2) (n := 14) (by omega) (by omega) ?_
  have hcs : 2 ≤ R.cells ∧ 14 ≤ R.slots := ⟨by omega, by omega⟩
  refine ly_putF (ws' := [(ah, .inr (0, [.ref q5, .null, .null, .null, .null, .long (0 : Int64), .long (0 : Int64)])), (q5, .inr (1, [.int (nI (ck_n x)), .ref (u10 0), .int (ck_g x)])), ((u10 0), .inl (K 0, (ck_n x), .inr (.inl (ck_r x))))]) C hP hD hS 0 rfl uw_RG tt_RG nn_RG rfl 0 (by decide) wa_44 rfl hin rfl rfl rfl (Nat.le_of_ble_eq_true rfl) dd_RG_init_13 rfl (fun H locs hP hD hS => ?_)
  refine lv_aload_n hx hb dd_RG_init_16 rfl (lv_at hl 0 rfl) ?_
  refine ly_new (ci := 2) (fs := [.null, .null]) C uw_Sp tt_Sp wa_45 wa_46 wa_47 hP hD hS rfl (by intro j hj; rcases (show j = 0 ∨ j = 1 by omega) with rfl | rfl <;> rfl) (by omega) (by omega) dd_RG_init_17 (fun q17 H hP hD hS => ?_)
  refine W.widen (k := 3) (n := 16) (by omega) (by omega) ?_
  have hcs : 3 ≤ R.cells ∧ 16 ≤ R.slots := ⟨by omega, by omega⟩
  refine lv_dup hx hb dd_RG_init_20 rfl ?_
  refine ly_cIN (n := 0) (rest := [.ref q17, .ref ah]) (wnf := fun u21 => [(ah, .inr (0, [.ref q5, .null, .null, .null, .null, .long (0 : Int64), .long (0 : Int64)])), (q5, .inr (1, [.int (nI (ck_n x)), .ref (u10 0), .int (ck_g x)])), ((u10 0), .inl (K 0, (ck_n x), .inr (.inl (ck_r x)))), (q17, .inr (2, [.ref (u21 0), .ref (u21 1)])), ((u21 0), .inl (K 0, 6, .inr (.inl (fun _ => (0 : Int64))))), ((u21 1), .inl (K 0, 6, .inr (.inl (fun _ => (0 : Int64)))))]) C (cc_Sp_init D K q17) wa_226 nw_0 wa_47 wa_48 rfl (by decide) (Nat.le_trans (by decide) hRf) (Nat.le_trans (by decide) hRl) rfl hl.1 rfl (Nat.le_of_ble_eq_true rfl) dd_RG_init_21 (by omega) [3] [0, 1, 2] [0, 1, 2, 3, 4, 5] hP hD hS rfl rfl (by decide) (fun _ => rfl) (fun u21 H locs hP hD hS => ?_)
  refine W.eq (g2 := F0 m 24 ls [.ref q17, .ref ah]) rfl ?_
  refine W.widen (k := 5) (n := 28) (by omega) (by omega) ?_
  have hcs : 5 ≤ R.cells ∧ 28 ≤ R.slots := ⟨by omega, by omega⟩
  refine ly_putF (ws' := [(ah, .inr (0, [.ref q5, .ref q17, .null, .null, .null, .long (0 : Int64), .long (0 : Int64)])), (q5, .inr (1, [.int (nI (ck_n x)), .ref (u10 0), .int (ck_g x)])), ((u10 0), .inl (K 0, (ck_n x), .inr (.inl (ck_r x)))), (q17, .inr (2, [.ref (u21 0), .ref (u21 1)])), ((u21 0), .inl (K 0, 6, .inr (.inl (fun _ => (0 : Int64))))), ((u21 1), .inl (K 0, 6, .inr (.inl (fun _ => (0 : Int64)))))]) C hP hD hS 0 rfl uw_RG tt_RG nn_RG rfl 1 (by decide) wa_49 rfl hin rfl rfl rfl (Nat.le_of_ble_eq_true rfl) dd_RG_init_24 rfl (fun H locs hP hD hS => ?_)
  refine lv_aload_n hx hb dd_RG_init_27 rfl (lv_at hl 0 rfl) ?_
  refine lv_iconst (v := (3 : Int32)) hx hb dd_RG_init_28 (by decide) ?_
  refine ly_newq C 3 rfl wa_50 ao_Sq hP hD hS 3 rfl (by omega) (by omega) (by omega) dd_RG_init_29 (fun q29 H hP hD hS => ?_)
  refine W.widen (k := 6) (n := 31) (by omega) (by omega) ?_
  have hcs : 6 ≤ R.cells ∧ 31 ≤ R.slots := ⟨by omega, by omega⟩
  refine ly_putF (ws' := [(ah, .inr (0, [.ref q5, .ref q17, .ref q29, .null, .null, .long (0 : Int64), .long (0 : Int64)])), (q5, .inr (1, [.int (nI (ck_n x)), .ref (u10 0), .int (ck_g x)])), ((u10 0), .inl (K 0, (ck_n x), .inr (.inl (ck_r x)))), (q17, .inr (2, [.ref (u21 0), .ref (u21 1)])), ((u21 0), .inl (K 0, 6, .inr (.inl (fun _ => (0 : Int64))))), ((u21 1), .inl (K 0, 6, .inr (.inl (fun _ => (0 : Int64))))), (q29, .inl (K 3, 3, .inr (.inr (.inr (.inr (fun _ => none))))))]) C hP hD hS 0 rfl uw_RG tt_RG nn_RG rfl 2 (by decide) wa_51 rfl hin rfl rfl rfl (Nat.le_of_ble_eq_true rfl) dd_RG_init_32 rfl (fun H locs hP hD hS => ?_)
  refine lv_iconst (v := (0 : Int32)) hx hb dd_RG_init_35 (by decide) ?_
  refine lv_istore_n (lv' := [(2, .int (0 : Int32)), (0, .ref ah), (1, .int x)]) hx hb dd_RG_init_36 rfl hl (by decide) rfl (fun ls hl => ?_)
  refine lv_iload_n hx hb dd_RG_init_37 rfl (lv_at hl 0 rfl) ?_
  refine lv_iconst (v := (3 : Int32)) hx hb dd_RG_init_38 (by decide) ?_
  refine lv_icmp_ge (tgt := 69) hx hb dd_RG_init_39 (by decide) (fun h => absurd h (by decide)) (fun _ => ?_)
  refine lv_aload_n hx hb dd_RG_init_42 rfl (lv_at hl 1 rfl) ?_
  refine ly_get (v := .ref q29) C hP 0 rfl uw_RG rfl 2 (by decide) wa_51 rfl dd_RG_init_43 ?_
  refine lv_iload_n hx hb dd_RG_init_46 rfl (lv_at hl 0 rfl) ?_
  refine ly_new (ci := 3) (fs := [.int (0 : Int32), .int (0 : Int32), .null, .null, .int (0 : Int32)]) C uw_Sq tt_Sq wa_50 wa_52 wa_53 hP hD hS rfl (by intro j hj; rcases (show j = 0 ∨ j = 1 ∨ j = 2 ∨ j = 3 ∨ j = 4 by omega) with rfl | rfl | rfl | rfl | rfl <;> rfl) (by omega) (by omega) dd_RG_init_47 (fun q47 H hP hD hS => ?_)
  refine W.widen (k := 7) (n := 36) (by omega) (by omega) ?_
  have hcs : 7 ≤ R.cells ∧ 36 ≤ R.slots := ⟨by omega, by omega⟩
  refine lv_dup hx hb dd_RG_init_50 rfl ?_
  refine lv_iload_n hx hb dd_RG_init_51 rfl (lv_at hl 0 rfl) ?_
  refine lv_aload_n hx hb dd_RG_init_52 rfl (lv_at hl 1 rfl) ?_
  refine ly_get (v := .ref q5) C hP 0 rfl uw_RG rfl 0 (by decide) wa_44 rfl dd_RG_init_53 ?_
  refine ly_getN (v := .int (nI (ck_n x))) C hP 1 rfl uw_Co rfl 0 (by decide) nw_1 rfl dd_RG_init_56 ?_
  refine ly_cI (n := 2) (rest := [.ref q47, .int (0 : Int32), .ref q29]) (wnf := fun u59 => [(ah, .inr (0, [.ref q5, .ref q17, .ref q29, .null, .null, .long (0 : Int64), .long (0 : Int64)])), (q5, .inr (1, [.int (nI (ck_n x)), .ref (u10 0), .int (ck_g x)])), ((u10 0), .inl (K 0, (ck_n x), .inr (.inl (ck_r x)))), (q17, .inr (2, [.ref (u21 0), .ref (u21 1)])), ((u21 0), .inl (K 0, 6, .inr (.inl (fun _ => (0 : Int64))))), ((u21 1), .inl (K 0, 6, .inr (.inl (fun _ => (0 : Int64))))), (q29, .inl (K 3, 3, .inr (.inr (.inr (.inr (fun _ => none)))))), (q47, .inr (3, [.int ((5 : Int32) * (0 : Int32)), .int (ck_all (ck_n x)), .ref (u59 0), .ref (u59 1), .int (ck_all (ck_n x))])), ((u59 0), .inl (K 0, (ck_n x), .inr (.inl (fun _ => (0 : Int64))))), ((u59 1), .inl (K 0, (ck_n x), .inr (.inl (fun _ => (0 : Int64)))))]) C (cc_Sq_init D K q47 (0 : Int32) (ck_n x) (by omega)) wa_236 wa_54 wa_53 wa_55 rfl (by decide) (Nat.le_trans (by decide) hRf) (Nat.le_trans (by decide) hRl) rfl hl.1 rfl (Nat.le_of_ble_eq_true rfl) dd_RG_init_59 (by omega) [7] [0, 1, 2, 3, 4, 5, 6] [0, 1, 2, 3, 4, 5, 6, 7, 8, 9] hP hD hS rfl rfl (by decide) (fun _ => rfl) (fun u59 H locs hP hD hS => ?_)
  refine W.eq (g2 := F0 m 62 ls [.ref q47, .int (0 : Int32), .ref q29]) rfl ?_
  refine W.widen (k := 9) (n := 58) (by omega) (by omega) ?_
  have hcs : 9 ≤ R.cells ∧ 58 ≤ R.slots := ⟨by omega, by omega⟩
  refine ly_astq (ws' := [(ah, .inr (0, [.ref q5, .ref q17, .ref q29, .null, .null, .long (0 : Int64), .long (0 : Int64)])), (q5, .inr (1, [.int (nI (ck_n x)), .ref (u10 0), .int (ck_g x)])), ((u10 0), .inl (K 0, (ck_n x), .inr (.inl (ck_r x)))), (q17, .inr (2, [.ref (u21 0), .ref (u21 1)])), ((u21 0), .inl (K 0, 6, .inr (.inl (fun _ => (0 : Int64))))), ((u21 1), .inl (K 0, 6, .inr (.inl (fun _ => (0 : Int64))))), (q29, .inl (K 3, 3, .inr (.inr (.inr (.inr (va_up (fun _ => none) 0 (some q47))))))), (q47, .inr (3, [.int ((5 : Int32) * (0 : Int32)), .int (ck_all (ck_n x)), .ref (u59 0), .ref (u59 1), .int (ck_all (ck_n x))])), ((u59 0), .inl (K 0, (ck_n x), .inr (.inl (fun _ => (0 : Int64))))), ((u59 1), .inl (K 0, (ck_n x), .inr (.inl (fun _ => (0 : Int64)))))]) C hP hD hS 6 7 rfl rfl rfl rfl 0 rfl (by omega) (by omega) dd_RG_init_62 rfl (fun H locs hP hD hS => ?_)
  refine lv_iinc (k := 0) (v := (1 : Int32)) (lv' := [(2, .int (1 : Int32)), (0, .ref ah), (1, .int x)]) hx hb dd_RG_init_63 hl rfl (by decide) (by decide) rfl (fun ls hl => ?_)
  refine lv_goto (tgt := 37) hx hb dd_RG_init_66 (by decide) ?_
  refine lv_iload_n hx hb dd_RG_init_37 rfl (lv_at hl 0 rfl) ?_
  refine lv_iconst (v := (3 : Int32)) hx hb dd_RG_init_38 (by decide) ?_
  refine lv_icmp_ge (tgt := 69) hx hb dd_RG_init_39 (by decide) (fun h => absurd h (by decide)) (fun _ => ?_)
  refine lv_aload_n hx hb dd_RG_init_42 rfl (lv_at hl 1 rfl) ?_
  refine ly_get (v := .ref q29) C hP 0 rfl uw_RG rfl 2 (by decide) wa_51 rfl dd_RG_init_43 ?_
  refine lv_iload_n hx hb dd_RG_init_46 rfl (lv_at hl 0 rfl) ?_
  refine ly_new (ci := 3) (fs := [.int (0 : Int32), .int (0 : Int32), .null, .null, .int (0 : Int32)]) C uw_Sq tt_Sq wa_50 wa_52 wa_53 hP hD hS rfl (by intro j hj; rcases (show j = 0 ∨ j = 1 ∨ j = 2 ∨ j = 3 ∨ j = 4 by omega) with rfl | rfl | rfl | rfl | rfl <;> rfl) (by omega) (by omega) dd_RG_init_47 (fun q47a H hP hD hS => ?_)
  refine W.widen (k := 10) (n := 63) (by omega) (by omega) ?_
  have hcs : 10 ≤ R.cells ∧ 63 ≤ R.slots := ⟨by omega, by omega⟩
  refine lv_dup hx hb dd_RG_init_50 rfl ?_
  refine lv_iload_n hx hb dd_RG_init_51 rfl (lv_at hl 0 rfl) ?_
  refine lv_aload_n hx hb dd_RG_init_52 rfl (lv_at hl 1 rfl) ?_
  refine ly_get (v := .ref q5) C hP 0 rfl uw_RG rfl 0 (by decide) wa_44 rfl dd_RG_init_53 ?_
  refine ly_getN (v := .int (nI (ck_n x))) C hP 1 rfl uw_Co rfl 0 (by decide) nw_1 rfl dd_RG_init_56 ?_
  refine ly_cI (n := 2) (rest := [.ref q47a, .int (1 : Int32), .ref q29]) (wnf := fun u59a => [(ah, .inr (0, [.ref q5, .ref q17, .ref q29, .null, .null, .long (0 : Int64), .long (0 : Int64)])), (q5, .inr (1, [.int (nI (ck_n x)), .ref (u10 0), .int (ck_g x)])), ((u10 0), .inl (K 0, (ck_n x), .inr (.inl (ck_r x)))), (q17, .inr (2, [.ref (u21 0), .ref (u21 1)])), ((u21 0), .inl (K 0, 6, .inr (.inl (fun _ => (0 : Int64))))), ((u21 1), .inl (K 0, 6, .inr (.inl (fun _ => (0 : Int64))))), (q29, .inl (K 3, 3, .inr (.inr (.inr (.inr (va_up (fun _ => none) 0 (some q47))))))), (q47, .inr (3, [.int ((5 : Int32) * (0 : Int32)), .int (ck_all (ck_n x)), .ref (u59 0), .ref (u59 1), .int (ck_all (ck_n x))])), ((u59 0), .inl (K 0, (ck_n x), .inr (.inl (fun _ => (0 : Int64))))), ((u59 1), .inl (K 0, (ck_n x), .inr (.inl (fun _ => (0 : Int64))))), (q47a, .inr (3, [.int ((5 : Int32) * (1 : Int32)), .int (ck_all (ck_n x)), .ref (u59a 0), .ref (u59a 1), .int (ck_all (ck_n x))])), ((u59a 0), .inl (K 0, (ck_n x), .inr (.inl (fun _ => (0 : Int64))))), ((u59a 1), .inl (K 0, (ck_n x), .inr (.inl (fun _ => (0 : Int64)))))]) C (cc_Sq_init D K q47a (1 : Int32) (ck_n x) (by omega)) wa_236 wa_54 wa_53 wa_55 rfl (by decide) (Nat.le_trans (by decide) hRf) (Nat.le_trans (by decide) hRl) rfl hl.1 rfl (Nat.le_of_ble_eq_true rfl) dd_RG_init_59 (by omega) [10] [0, 1, 2, 3, 4, 5, 6, 7, 8, 9] [0, 1, 2, 3, 4, 5, 6, 7, 8, 9, 10, 11, 12] hP hD hS rfl rfl (by decide) (fun _ => rfl) (fun u59a H locs hP hD hS => ?_)
  refine W.eq (g2 := F0 m 62 ls [.ref q47a, .int (1 : Int32), .ref q29]) rfl ?_
  refine W.widen (k := 12) (n := 85) (by omega) (by omega) ?_
  have hcs : 12 ≤ R.cells ∧ 85 ≤ R.slots := ⟨by omega, by omega⟩
  refine ly_astq (ws' := [(ah, .inr (0, [.ref q5, .ref q17, .ref q29, .null, .null, .long (0 : Int64), .long (0 : Int64)])), (q5, .inr (1, [.int (nI (ck_n x)), .ref (u10 0), .int (ck_g x)])), ((u10 0), .inl (K 0, (ck_n x), .inr (.inl (ck_r x)))), (q17, .inr (2, [.ref (u21 0), .ref (u21 1)])), ((u21 0), .inl (K 0, 6, .inr (.inl (fun _ => (0 : Int64))))), ((u21 1), .inl (K 0, 6, .inr (.inl (fun _ => (0 : Int64))))), (q29, .inl (K 3, 3, .inr (.inr (.inr (.inr (va_up (va_up (fun _ => none) 0 (some q47)) 1 (some q47a))))))), (q47, .inr (3, [.int ((5 : Int32) * (0 : Int32)), .int (ck_all (ck_n x)), .ref (u59 0), .ref (u59 1), .int (ck_all (ck_n x))])), ((u59 0), .inl (K 0, (ck_n x), .inr (.inl (fun _ => (0 : Int64))))), ((u59 1), .inl (K 0, (ck_n x), .inr (.inl (fun _ => (0 : Int64))))), (q47a, .inr (3, [.int ((5 : Int32) * (1 : Int32)), .int (ck_all (ck_n x)), .ref (u59a 0), .ref (u59a 1), .int (ck_all (ck_n x))])), ((u59a 0), .inl (K 0, (ck_n x), .inr (.inl (fun _ => (0 : Int64))))), ((u59a 1), .inl (K 0, (ck_n x), .inr (.inl (fun _ => (0 : Int64)))))]) C hP hD hS 6 10 rfl rfl rfl rfl 1 rfl (by omega) (by omega) dd_RG_init_62 rfl (fun H locs hP hD hS => ?_)
  refine lv_iinc (k := 0) (v := (2 : Int32)) (lv' := [(2, .int (2 : Int32)), (0, .ref ah), (1, .int x)]) hx hb dd_RG_init_63 hl rfl (by decide) (by decide) rfl (fun ls hl => ?_)
  refine lv_goto (tgt := 37) hx hb dd_RG_init_66 (by decide) ?_
  refine lv_iload_n hx hb dd_RG_init_37 rfl (lv_at hl 0 rfl) ?_
  refine lv_iconst (v := (3 : Int32)) hx hb dd_RG_init_38 (by decide) ?_
  refine lv_icmp_ge (tgt := 69) hx hb dd_RG_init_39 (by decide) (fun h => absurd h (by decide)) (fun _ => ?_)
  refine lv_aload_n hx hb dd_RG_init_42 rfl (lv_at hl 1 rfl) ?_
  refine ly_get (v := .ref q29) C hP 0 rfl uw_RG rfl 2 (by decide) wa_51 rfl dd_RG_init_43 ?_
  refine lv_iload_n hx hb dd_RG_init_46 rfl (lv_at hl 0 rfl) ?_
  refine ly_new (ci := 3) (fs := [.int (0 : Int32), .int (0 : Int32), .null, .null, .int (0 : Int32)]) C uw_Sq tt_Sq wa_50 wa_52 wa_53 hP hD hS rfl (by intro j hj; rcases (show j = 0 ∨ j = 1 ∨ j = 2 ∨ j = 3 ∨ j = 4 by omega) with rfl | rfl | rfl | rfl | rfl <;> rfl) (by omega) (by omega) dd_RG_init_47 (fun q47b H hP hD hS => ?_)
  refine W.widen (k := 13) (n := 90) (by omega) (by omega) ?_
  have hcs : 13 ≤ R.cells ∧ 90 ≤ R.slots := ⟨by omega, by omega⟩
  refine lv_dup hx hb dd_RG_init_50 rfl ?_
  refine lv_iload_n hx hb dd_RG_init_51 rfl (lv_at hl 0 rfl) ?_
  refine lv_aload_n hx hb dd_RG_init_52 rfl (lv_at hl 1 rfl) ?_
  refine ly_get (v := .ref q5) C hP 0 rfl uw_RG rfl 0 (by decide) wa_44 rfl dd_RG_init_53 ?_
  refine ly_getN (v := .int (nI (ck_n x))) C hP 1 rfl uw_Co rfl 0 (by decide) nw_1 rfl dd_RG_init_56 ?_
  refine ly_cI (n := 2) (rest := [.ref q47b, .int (2 : Int32), .ref q29]) (wnf := fun u59b => [(ah, .inr (0, [.ref q5, .ref q17, .ref q29, .null, .null, .long (0 : Int64), .long (0 : Int64)])), (q5, .inr (1, [.int (nI (ck_n x)), .ref (u10 0), .int (ck_g x)])), ((u10 0), .inl (K 0, (ck_n x), .inr (.inl (ck_r x)))), (q17, .inr (2, [.ref (u21 0), .ref (u21 1)])), ((u21 0), .inl (K 0, 6, .inr (.inl (fun _ => (0 : Int64))))), ((u21 1), .inl (K 0, 6, .inr (.inl (fun _ => (0 : Int64))))), (q29, .inl (K 3, 3, .inr (.inr (.inr (.inr (va_up (va_up (fun _ => none) 0 (some q47)) 1 (some q47a))))))), (q47, .inr (3, [.int ((5 : Int32) * (0 : Int32)), .int (ck_all (ck_n x)), .ref (u59 0), .ref (u59 1), .int (ck_all (ck_n x))])), ((u59 0), .inl (K 0, (ck_n x), .inr (.inl (fun _ => (0 : Int64))))), ((u59 1), .inl (K 0, (ck_n x), .inr (.inl (fun _ => (0 : Int64))))), (q47a, .inr (3, [.int ((5 : Int32) * (1 : Int32)), .int (ck_all (ck_n x)), .ref (u59a 0), .ref (u59a 1), .int (ck_all (ck_n x))])), ((u59a 0), .inl (K 0, (ck_n x), .inr (.inl (fun _ => (0 : Int64))))), ((u59a 1), .inl (K 0, (ck_n x), .inr (.inl (fun _ => (0 : Int64))))), (q47b, .inr (3, [.int ((5 : Int32) * (2 : Int32)), .int (ck_all (ck_n x)), .ref (u59b 0), .ref (u59b 1), .int (ck_all (ck_n x))])), ((u59b 0), .inl (K 0, (ck_n x), .inr (.inl (fun _ => (0 : Int64))))), ((u59b 1), .inl (K 0, (ck_n x), .inr (.inl (fun _ => (0 : Int64)))))]) C (cc_Sq_init D K q47b (2 : Int32) (ck_n x) (by omega)) wa_236 wa_54 wa_53 wa_55 rfl (by decide) (Nat.le_trans (by decide) hRf) (Nat.le_trans (by decide) hRl) rfl hl.1 rfl (Nat.le_of_ble_eq_true rfl) dd_RG_init_59 (by omega) [13] [0, 1, 2, 3, 4, 5, 6, 7, 8, 9, 10, 11, 12] [0, 1, 2, 3, 4, 5, 6, 7, 8, 9, 10, 11, 12, 13, 14, 15] hP hD hS rfl rfl (by decide) (fun _ => rfl) (fun u59b H locs hP hD hS => ?_)
  refine W.eq (g2 := F0 m 62 ls [.ref q47b, .int (2 : Int32), .ref q29]) rfl ?_
  refine W.widen (k := 15) (n := 112) (by omega) (by omega) ?_
  have hcs : 15 ≤ R.cells ∧ 112 ≤ R.slots := ⟨by omega, by omega⟩
  refine ly_astq (ws' := [(ah, .inr (0, [.ref q5, .ref q17, .ref q29, .null, .null, .long (0 : Int64), .long (0 : Int64)])), (q5, .inr (1, [.int (nI (ck_n x)), .ref (u10 0), .int (ck_g x)])), ((u10 0), .inl (K 0, (ck_n x), .inr (.inl (ck_r x)))), (q17, .inr (2, [.ref (u21 0), .ref (u21 1)])), ((u21 0), .inl (K 0, 6, .inr (.inl (fun _ => (0 : Int64))))), ((u21 1), .inl (K 0, 6, .inr (.inl (fun _ => (0 : Int64))))), (q29, .inl (K 3, 3, .inr (.inr (.inr (.inr (va_up (va_up (va_up (fun _ => none) 0 (some q47)) 1 (some q47a)) 2 (some q47b))))))), (q47, .inr (3, [.int ((5 : Int32) * (0 : Int32)), .int (ck_all (ck_n x)), .ref (u59 0), .ref (u59 1), .int (ck_all (ck_n x))])), ((u59 0), .inl (K 0, (ck_n x), .inr (.inl (fun _ => (0 : Int64))))), ((u59 1), .inl (K 0, (ck_n x), .inr (.inl (fun _ => (0 : Int64))))), (q47a, .inr (3, [.int ((5 : Int32) * (1 : Int32)), .int (ck_all (ck_n x)), .ref (u59a 0), .ref (u59a 1), .int (ck_all (ck_n x))])), ((u59a 0), .inl (K 0, (ck_n x), .inr (.inl (fun _ => (0 : Int64))))), ((u59a 1), .inl (K 0, (ck_n x), .inr (.inl (fun _ => (0 : Int64))))), (q47b, .inr (3, [.int ((5 : Int32) * (2 : Int32)), .int (ck_all (ck_n x)), .ref (u59b 0), .ref (u59b 1), .int (ck_all (ck_n x))])), ((u59b 0), .inl (K 0, (ck_n x), .inr (.inl (fun _ => (0 : Int64))))), ((u59b 1), .inl (K 0, (ck_n x), .inr (.inl (fun _ => (0 : Int64)))))]) C hP hD hS 6 13 rfl rfl rfl rfl 2 rfl (by omega) (by omega) dd_RG_init_62 rfl (fun H locs hP hD hS => ?_)
  refine lv_iinc (k := 0) (v := (3 : Int32)) (lv' := [(2, .int (3 : Int32)), (0, .ref ah), (1, .int x)]) hx hb dd_RG_init_63 hl rfl (by decide) (by decide) rfl (fun ls hl => ?_)
  refine lv_goto (tgt := 37) hx hb dd_RG_init_66 (by decide) ?_
  refine lv_iload_n hx hb dd_RG_init_37 rfl (lv_at hl 0 rfl) ?_
  refine lv_iconst (v := (3 : Int32)) hx hb dd_RG_init_38 (by decide) ?_
  refine lv_icmp_ge (tgt := 69) hx hb dd_RG_init_39 (by decide) (fun _ => ?_) (fun h => absurd (by decide) h)
  refine lv_aload_n hx hb dd_RG_init_69 rfl (lv_at hl 1 rfl) ?_
  refine lv_bipush (v := (12 : Int32)) hx hb dd_RG_init_70 (by decide) ?_
  refine ly_newa (ty := .boolean) (at0 := .boolean) (a0 := (12, .inl (fun _ => (0 : Int32)))) C 2 rfl rfl (fun _ h => h) wa_56 hP hD hS 12 (fun _ => rfl) rfl (by omega) (by decide) (by omega) (by omega) dd_RG_init_72 (fun q72 H hP hD hS => ?_)
  refine W.widen (k := 16) (n := 124) (by omega) (by omega) ?_
  have hcs : 16 ≤ R.cells ∧ 124 ≤ R.slots := ⟨by omega, by omega⟩
  refine ly_putF (ws' := [(ah, .inr (0, [.ref q5, .ref q17, .ref q29, .ref q72, .null, .long (0 : Int64), .long (0 : Int64)])), (q5, .inr (1, [.int (nI (ck_n x)), .ref (u10 0), .int (ck_g x)])), ((u10 0), .inl (K 0, (ck_n x), .inr (.inl (ck_r x)))), (q17, .inr (2, [.ref (u21 0), .ref (u21 1)])), ((u21 0), .inl (K 0, 6, .inr (.inl (fun _ => (0 : Int64))))), ((u21 1), .inl (K 0, 6, .inr (.inl (fun _ => (0 : Int64))))), (q29, .inl (K 3, 3, .inr (.inr (.inr (.inr (va_up (va_up (va_up (fun _ => none) 0 (some q47)) 1 (some q47a)) 2 (some q47b))))))), (q47, .inr (3, [.int ((5 : Int32) * (0 : Int32)), .int (ck_all (ck_n x)), .ref (u59 0), .ref (u59 1), .int (ck_all (ck_n x))])), ((u59 0), .inl (K 0, (ck_n x), .inr (.inl (fun _ => (0 : Int64))))), ((u59 1), .inl (K 0, (ck_n x), .inr (.inl (fun _ => (0 : Int64))))), (q47a, .inr (3, [.int ((5 : Int32) * (1 : Int32)), .int (ck_all (ck_n x)), .ref (u59a 0), .ref (u59a 1), .int (ck_all (ck_n x))])), ((u59a 0), .inl (K 0, (ck_n x), .inr (.inl (fun _ => (0 : Int64))))), ((u59a 1), .inl (K 0, (ck_n x), .inr (.inl (fun _ => (0 : Int64))))), (q47b, .inr (3, [.int ((5 : Int32) * (2 : Int32)), .int (ck_all (ck_n x)), .ref (u59b 0), .ref (u59b 1), .int (ck_all (ck_n x))])), ((u59b 0), .inl (K 0, (ck_n x), .inr (.inl (fun _ => (0 : Int64))))), ((u59b 1), .inl (K 0, (ck_n x), .inr (.inl (fun _ => (0 : Int64))))), (q72, .inl (K 2, 12, .inl (fun _ => (0 : Int32))))]) C hP hD hS 0 rfl uw_RG tt_RG nn_RG rfl 3 (by decide) wa_57 rfl hin rfl rfl rfl (Nat.le_of_ble_eq_true rfl) dd_RG_init_74 rfl (fun H locs hP hD hS => ?_)
  refine lv_iconst (v := (0 : Int32)) hx hb dd_RG_init_77 (by decide) ?_
  refine lv_istore_n (lv' := [(2, .int (0 : Int32)), (0, .ref ah), (1, .int x)]) hx hb dd_RG_init_78 rfl hl (by decide) rfl (fun ls hl => ?_)
  refine lv_iload_n hx hb dd_RG_init_79 rfl (lv_at hl 0 rfl) ?_
  refine lv_bipush (v := (12 : Int32)) hx hb dd_RG_init_80 (by decide) ?_
  refine lv_icmp_ge (tgt := 98) hx hb dd_RG_init_82 (by decide) (fun h => absurd h (by decide)) (fun _ => ?_)
  refine lv_aload_n hx hb dd_RG_init_85 rfl (lv_at hl 1 rfl) ?_
  refine ly_get (v := .ref q72) C hP 0 rfl uw_RG rfl 3 (by decide) wa_57 rfl dd_RG_init_86 ?_
  refine lv_iload_n hx hb dd_RG_init_89 rfl (lv_at hl 0 rfl) ?_
  refine lv_iconst (v := (1 : Int32)) hx hb dd_RG_init_90 (by decide) ?_
  refine ly_zast (ws' := [(ah, .inr (0, [.ref q5, .ref q17, .ref q29, .ref q72, .null, .long (0 : Int64), .long (0 : Int64)])), (q5, .inr (1, [.int (nI (ck_n x)), .ref (u10 0), .int (ck_g x)])), ((u10 0), .inl (K 0, (ck_n x), .inr (.inl (ck_r x)))), (q17, .inr (2, [.ref (u21 0), .ref (u21 1)])), ((u21 0), .inl (K 0, 6, .inr (.inl (fun _ => (0 : Int64))))), ((u21 1), .inl (K 0, 6, .inr (.inl (fun _ => (0 : Int64))))), (q29, .inl (K 3, 3, .inr (.inr (.inr (.inr (va_up (va_up (va_up (fun _ => none) 0 (some q47)) 1 (some q47a)) 2 (some q47b))))))), (q47, .inr (3, [.int ((5 : Int32) * (0 : Int32)), .int (ck_all (ck_n x)), .ref (u59 0), .ref (u59 1), .int (ck_all (ck_n x))])), ((u59 0), .inl (K 0, (ck_n x), .inr (.inl (fun _ => (0 : Int64))))), ((u59 1), .inl (K 0, (ck_n x), .inr (.inl (fun _ => (0 : Int64))))), (q47a, .inr (3, [.int ((5 : Int32) * (1 : Int32)), .int (ck_all (ck_n x)), .ref (u59a 0), .ref (u59a 1), .int (ck_all (ck_n x))])), ((u59a 0), .inl (K 0, (ck_n x), .inr (.inl (fun _ => (0 : Int64))))), ((u59a 1), .inl (K 0, (ck_n x), .inr (.inl (fun _ => (0 : Int64))))), (q47b, .inr (3, [.int ((5 : Int32) * (2 : Int32)), .int (ck_all (ck_n x)), .ref (u59b 0), .ref (u59b 1), .int (ck_all (ck_n x))])), ((u59b 0), .inl (K 0, (ck_n x), .inr (.inl (fun _ => (0 : Int64))))), ((u59b 1), .inl (K 0, (ck_n x), .inr (.inl (fun _ => (0 : Int64))))), (q72, .inl (K 2, 12, .inl (upd (fun _ => (0 : Int32)) 0 (1 : Int32))))]) C hP hD hS 16 rfl (by decide) 0 rfl (by omega) (by omega) dd_RG_init_91 rfl (fun H locs hP hD hS => ?_)
  refine lv_iinc (k := 0) (v := (1 : Int32)) (lv' := [(2, .int (1 : Int32)), (0, .ref ah), (1, .int x)]) hx hb dd_RG_init_92 hl rfl (by decide) (by decide) rfl (fun ls hl => ?_)
  refine lv_goto (tgt := 79) hx hb dd_RG_init_95 (by decide) ?_
  refine lv_iload_n hx hb dd_RG_init_79 rfl (lv_at hl 0 rfl) ?_
  refine lv_bipush (v := (12 : Int32)) hx hb dd_RG_init_80 (by decide) ?_
  refine lv_icmp_ge (tgt := 98) hx hb dd_RG_init_82 (by decide) (fun h => absurd h (by decide)) (fun _ => ?_)
  refine lv_aload_n hx hb dd_RG_init_85 rfl (lv_at hl 1 rfl) ?_
  refine ly_get (v := .ref q72) C hP 0 rfl uw_RG rfl 3 (by decide) wa_57 rfl dd_RG_init_86 ?_
  refine lv_iload_n hx hb dd_RG_init_89 rfl (lv_at hl 0 rfl) ?_
  refine lv_iconst (v := (1 : Int32)) hx hb dd_RG_init_90 (by decide) ?_
  refine ly_zast (ws' := [(ah, .inr (0, [.ref q5, .ref q17, .ref q29, .ref q72, .null, .long (0 : Int64), .long (0 : Int64)])), (q5, .inr (1, [.int (nI (ck_n x)), .ref (u10 0), .int (ck_g x)])), ((u10 0), .inl (K 0, (ck_n x), .inr (.inl (ck_r x)))), (q17, .inr (2, [.ref (u21 0), .ref (u21 1)])), ((u21 0), .inl (K 0, 6, .inr (.inl (fun _ => (0 : Int64))))), ((u21 1), .inl (K 0, 6, .inr (.inl (fun _ => (0 : Int64))))), (q29, .inl (K 3, 3, .inr (.inr (.inr (.inr (va_up (va_up (va_up (fun _ => none) 0 (some q47)) 1 (some q47a)) 2 (some q47b))))))), (q47, .inr (3, [.int ((5 : Int32) * (0 : Int32)), .int (ck_all (ck_n x)), .ref (u59 0), .ref (u59 1), .int (ck_all (ck_n x))])), ((u59 0), .inl (K 0, (ck_n x), .inr (.inl (fun _ => (0 : Int64))))), ((u59 1), .inl (K 0, (ck_n x), .inr (.inl (fun _ => (0 : Int64))))), (q47a, .inr (3, [.int ((5 : Int32) * (1 : Int32)), .int (ck_all (ck_n x)), .ref (u59a 0), .ref (u59a 1), .int (ck_all (ck_n x))])), ((u59a 0), .inl (K 0, (ck_n x), .inr (.inl (fun _ => (0 : Int64))))), ((u59a 1), .inl (K 0, (ck_n x), .inr (.inl (fun _ => (0 : Int64))))), (q47b, .inr (3, [.int ((5 : Int32) * (2 : Int32)), .int (ck_all (ck_n x)), .ref (u59b 0), .ref (u59b 1), .int (ck_all (ck_n x))])), ((u59b 0), .inl (K 0, (ck_n x), .inr (.inl (fun _ => (0 : Int64))))), ((u59b 1), .inl (K 0, (ck_n x), .inr (.inl (fun _ => (0 : Int64))))), (q72, .inl (K 2, 12, .inl (upd (upd (fun _ => (0 : Int32)) 0 (1 : Int32)) 1 (1 : Int32))))]) C hP hD hS 16 rfl (by decide) 1 rfl (by omega) (by omega) dd_RG_init_91 rfl (fun H locs hP hD hS => ?_)
  refine lv_iinc (k := 0) (v := (2 : Int32)) (lv' := [(2, .int (2 : Int32)), (0, .ref ah), (1, .int x)]) hx hb dd_RG_init_92 hl rfl (by decide) (by decide) rfl (fun ls hl => ?_)
  refine lv_goto (tgt := 79) hx hb dd_RG_init_95 (by decide) ?_
  refine lv_iload_n hx hb dd_RG_init_79 rfl (lv_at hl 0 rfl) ?_
  refine lv_bipush (v := (12 : Int32)) hx hb dd_RG_init_80 (by decide) ?_
  refine lv_icmp_ge (tgt := 98) hx hb dd_RG_init_82 (by decide) (fun h => absurd h (by decide)) (fun _ => ?_)
  refine lv_aload_n hx hb dd_RG_init_85 rfl (lv_at hl 1 rfl) ?_
  refine ly_get (v := .ref q72) C hP 0 rfl uw_RG rfl 3 (by decide) wa_57 rfl dd_RG_init_86 ?_
  refine lv_iload_n hx hb dd_RG_init_89 rfl (lv_at hl 0 rfl) ?_
  refine lv_iconst (v := (1 : Int32)) hx hb dd_RG_init_90 (by decide) ?_
  refine ly_zast (ws' := [(ah, .inr (0, [.ref q5, .ref q17, .ref q29, .ref q72, .null, .long (0 : Int64), .long (0 : Int64)])), (q5, .inr (1, [.int (nI (ck_n x)), .ref (u10 0), .int (ck_g x)])), ((u10 0), .inl (K 0, (ck_n x), .inr (.inl (ck_r x)))), (q17, .inr (2, [.ref (u21 0), .ref (u21 1)])), ((u21 0), .inl (K 0, 6, .inr (.inl (fun _ => (0 : Int64))))), ((u21 1), .inl (K 0, 6, .inr (.inl (fun _ => (0 : Int64))))), (q29, .inl (K 3, 3, .inr (.inr (.inr (.inr (va_up (va_up (va_up (fun _ => none) 0 (some q47)) 1 (some q47a)) 2 (some q47b))))))), (q47, .inr (3, [.int ((5 : Int32) * (0 : Int32)), .int (ck_all (ck_n x)), .ref (u59 0), .ref (u59 1), .int (ck_all (ck_n x))])), ((u59 0), .inl (K 0, (ck_n x), .inr (.inl (fun _ => (0 : Int64))))), ((u59 1), .inl (K 0, (ck_n x), .inr (.inl (fun _ => (0 : Int64))))), (q47a, .inr (3, [.int ((5 : Int32) * (1 : Int32)), .int (ck_all (ck_n x)), .ref (u59a 0), .ref (u59a 1), .int (ck_all (ck_n x))])), ((u59a 0), .inl (K 0, (ck_n x), .inr (.inl (fun _ => (0 : Int64))))), ((u59a 1), .inl (K 0, (ck_n x), .inr (.inl (fun _ => (0 : Int64))))), (q47b, .inr (3, [.int ((5 : Int32) * (2 : Int32)), .int (ck_all (ck_n x)), .ref (u59b 0), .ref (u59b 1), .int (ck_all (ck_n x))])), ((u59b 0), .inl (K 0, (ck_n x), .inr (.inl (fun _ => (0 : Int64))))), ((u59b 1), .inl (K 0, (ck_n x), .inr (.inl (fun _ => (0 : Int64))))), (q72, .inl (K 2, 12, .inl (upd (upd (upd (fun _ => (0 : Int32)) 0 (1 : Int32)) 1 (1 : Int32)) 2 (1 : Int32))))]) C hP hD hS 16 rfl (by decide) 2 rfl (by omega) (by omega) dd_RG_init_91 rfl (fun H locs hP hD hS => ?_)
  refine lv_iinc (k := 0) (v := (3 : Int32)) (lv' := [(2, .int (3 : Int32)), (0, .ref ah), (1, .int x)]) hx hb dd_RG_init_92 hl rfl (by decide) (by decide) rfl (fun ls hl => ?_)
  refine lv_goto (tgt := 79) hx hb dd_RG_init_95 (by decide) ?_
  refine lv_iload_n hx hb dd_RG_init_79 rfl (lv_at hl 0 rfl) ?_
  refine lv_bipush (v := (12 : Int32)) hx hb dd_RG_init_80 (by decide) ?_
  refine lv_icmp_ge (tgt := 98) hx hb dd_RG_init_82 (by decide) (fun h => absurd h (by decide)) (fun _ => ?_)
  refine lv_aload_n hx hb dd_RG_init_85 rfl (lv_at hl 1 rfl) ?_
  refine ly_get (v := .ref q72) C hP 0 rfl uw_RG rfl 3 (by decide) wa_57 rfl dd_RG_init_86 ?_
  refine lv_iload_n hx hb dd_RG_init_89 rfl (lv_at hl 0 rfl) ?_
  refine lv_iconst (v := (1 : Int32)) hx hb dd_RG_init_90 (by decide) ?_
  refine ly_zast (ws' := [(ah, .inr (0, [.ref q5, .ref q17, .ref q29, .ref q72, .null, .long (0 : Int64), .long (0 : Int64)])), (q5, .inr (1, [.int (nI (ck_n x)), .ref (u10 0), .int (ck_g x)])), ((u10 0), .inl (K 0, (ck_n x), .inr (.inl (ck_r x)))), (q17, .inr (2, [.ref (u21 0), .ref (u21 1)])), ((u21 0), .inl (K 0, 6, .inr (.inl (fun _ => (0 : Int64))))), ((u21 1), .inl (K 0, 6, .inr (.inl (fun _ => (0 : Int64))))), (q29, .inl (K 3, 3, .inr (.inr (.inr (.inr (va_up (va_up (va_up (fun _ => none) 0 (some q47)) 1 (some q47a)) 2 (some q47b))))))), (q47, .inr (3, [.int ((5 : Int32) * (0 : Int32)), .int (ck_all (ck_n x)), .ref (u59 0), .ref (u59 1), .int (ck_all (ck_n x))])), ((u59 0), .inl (K 0, (ck_n x), .inr (.inl (fun _ => (0 : Int64))))), ((u59 1), .inl (K 0, (ck_n x), .inr (.inl (fun _ => (0 : Int64))))), (q47a, .inr (3, [.int ((5 : Int32) * (1 : Int32)), .int (ck_all (ck_n x)), .ref (u59a 0), .ref (u59a 1), .int (ck_all (ck_n x))])), ((u59a 0), .inl (K 0, (ck_n x), .inr (.inl (fun _ => (0 : Int64))))), ((u59a 1), .inl (K 0, (ck_n x), .inr (.inl (fun _ => (0 : Int64))))), (q47b, .inr (3, [.int ((5 : Int32) * (2 : Int32)), .int (ck_all (ck_n x)), .ref (u59b 0), .ref (u59b 1), .int (ck_all (ck_n x))])), ((u59b 0), .inl (K 0, (ck_n x), .inr (.inl (fun _ => (0 : Int64))))), ((u59b 1), .inl (K 0, (ck_n x), .inr (.inl (fun _ => (0 : Int64))))), (q72, .inl (K 2, 12, .inl (upd (upd (upd (upd (fun _ => (0 : Int32)) 0 (1 : Int32)) 1 (1 : Int32)) 2 (1 : Int32)) 3 (1 : Int32))))]) C hP hD hS 16 rfl (by decide) 3 rfl (by omega) (by omega) dd_RG_init_91 rfl (fun H locs hP hD hS => ?_)
  refine lv_iinc (k := 0) (v := (4 : Int32)) (lv' := [(2, .int (4 : Int32)), (0, .ref ah), (1, .int x)]) hx hb dd_RG_init_92 hl rfl (by decide) (by decide) rfl (fun ls hl => ?_)
  refine lv_goto (tgt := 79) hx hb dd_RG_init_95 (by decide) ?_
  refine lv_iload_n hx hb dd_RG_init_79 rfl (lv_at hl 0 rfl) ?_
  refine lv_bipush (v := (12 : Int32)) hx hb dd_RG_init_80 (by decide) ?_
  refine lv_icmp_ge (tgt := 98) hx hb dd_RG_init_82 (by decide) (fun h => absurd h (by decide)) (fun _ => ?_)
  refine lv_aload_n hx hb dd_RG_init_85 rfl (lv_at hl 1 rfl) ?_
  refine ly_get (v := .ref q72) C hP 0 rfl uw_RG rfl 3 (by decide) wa_57 rfl dd_RG_init_86 ?_
  refine lv_iload_n hx hb dd_RG_init_89 rfl (lv_at hl 0 rfl) ?_
  refine lv_iconst (v := (1 : Int32)) hx hb dd_RG_init_90 (by decide) ?_
  refine ly_zast (ws' := [(ah, .inr (0, [.ref q5, .ref q17, .ref q29, .ref q72, .null, .long (0 : Int64), .long (0 : Int64)])), (q5, .inr (1, [.int (nI (ck_n x)), .ref (u10 0), .int (ck_g x)])), ((u10 0), .inl (K 0, (ck_n x), .inr (.inl (ck_r x)))), (q17, .inr (2, [.ref (u21 0), .ref (u21 1)])), ((u21 0), .inl (K 0, 6, .inr (.inl (fun _ => (0 : Int64))))), ((u21 1), .inl (K 0, 6, .inr (.inl (fun _ => (0 : Int64))))), (q29, .inl (K 3, 3, .inr (.inr (.inr (.inr (va_up (va_up (va_up (fun _ => none) 0 (some q47)) 1 (some q47a)) 2 (some q47b))))))), (q47, .inr (3, [.int ((5 : Int32) * (0 : Int32)), .int (ck_all (ck_n x)), .ref (u59 0), .ref (u59 1), .int (ck_all (ck_n x))])), ((u59 0), .inl (K 0, (ck_n x), .inr (.inl (fun _ => (0 : Int64))))), ((u59 1), .inl (K 0, (ck_n x), .inr (.inl (fun _ => (0 : Int64))))), (q47a, .inr (3, [.int ((5 : Int32) * (1 : Int32)), .int (ck_all (ck_n x)), .ref (u59a 0), .ref (u59a 1), .int (ck_all (ck_n x))])), ((u59a 0), .inl (K 0, (ck_n x), .inr (.inl (fun _ => (0 : Int64))))), ((u59a 1), .inl (K 0, (ck_n x), .inr (.inl (fun _ => (0 : Int64))))), (q47b, .inr (3, [.int ((5 : Int32) * (2 : Int32)), .int (ck_all (ck_n x)), .ref (u59b 0), .ref (u59b 1), .int (ck_all (ck_n x))])), ((u59b 0), .inl (K 0, (ck_n x), .inr (.inl (fun _ => (0 : Int64))))), ((u59b 1), .inl (K 0, (ck_n x), .inr (.inl (fun _ => (0 : Int64))))), (q72, .inl (K 2, 12, .inl (upd (upd (upd (upd (upd (fun _ => (0 : Int32)) 0 (1 : Int32)) 1 (1 : Int32)) 2 (1 : Int32)) 3 (1 : Int32)) 4 (1 : Int32))))]) C hP hD hS 16 rfl (by decide) 4 rfl (by omega) (by omega) dd_RG_init_91 rfl (fun H locs hP hD hS => ?_)
  refine lv_iinc (k := 0) (v := (5 : Int32)) (lv' := [(2, .int (5 : Int32)), (0, .ref ah), (1, .int x)]) hx hb dd_RG_init_92 hl rfl (by decide) (by decide) rfl (fun ls hl => ?_)
  refine lv_goto (tgt := 79) hx hb dd_RG_init_95 (by decide) ?_
  refine lv_iload_n hx hb dd_RG_init_79 rfl (lv_at hl 0 rfl) ?_
  refine lv_bipush (v := (12 : Int32)) hx hb dd_RG_init_80 (by decide) ?_
  refine lv_icmp_ge (tgt := 98) hx hb dd_RG_init_82 (by decide) (fun h => absurd h (by decide)) (fun _ => ?_)
  refine lv_aload_n hx hb dd_RG_init_85 rfl (lv_at hl 1 rfl) ?_
  refine ly_get (v := .ref q72) C hP 0 rfl uw_RG rfl 3 (by decide) wa_57 rfl dd_RG_init_86 ?_
  refine lv_iload_n hx hb dd_RG_init_89 rfl (lv_at hl 0 rfl) ?_
  refine lv_iconst (v := (1 : Int32)) hx hb dd_RG_init_90 (by decide) ?_
  refine ly_zast (ws' := [(ah, .inr (0, [.ref q5, .ref q17, .ref q29, .ref q72, .null, .long (0 : Int64), .long (0 : Int64)])), (q5, .inr (1, [.int (nI (ck_n x)), .ref (u10 0), .int (ck_g x)])), ((u10 0), .inl (K 0, (ck_n x), .inr (.inl (ck_r x)))), (q17, .inr (2, [.ref (u21 0), .ref (u21 1)])), ((u21 0), .inl (K 0, 6, .inr (.inl (fun _ => (0 : Int64))))), ((u21 1), .inl (K 0, 6, .inr (.inl (fun _ => (0 : Int64))))), (q29, .inl (K 3, 3, .inr (.inr (.inr (.inr (va_up (va_up (va_up (fun _ => none) 0 (some q47)) 1 (some q47a)) 2 (some q47b))))))), (q47, .inr (3, [.int ((5 : Int32) * (0 : Int32)), .int (ck_all (ck_n x)), .ref (u59 0), .ref (u59 1), .int (ck_all (ck_n x))])), ((u59 0), .inl (K 0, (ck_n x), .inr (.inl (fun _ => (0 : Int64))))), ((u59 1), .inl (K 0, (ck_n x), .inr (.inl (fun _ => (0 : Int64))))), (q47a, .inr (3, [.int ((5 : Int32) * (1 : Int32)), .int (ck_all (ck_n x)), .ref (u59a 0), .ref (u59a 1), .int (ck_all (ck_n x))])), ((u59a 0), .inl (K 0, (ck_n x), .inr (.inl (fun _ => (0 : Int64))))), ((u59a 1), .inl (K 0, (ck_n x), .inr (.inl (fun _ => (0 : Int64))))), (q47b, .inr (3, [.int ((5 : Int32) * (2 : Int32)), .int (ck_all (ck_n x)), .ref (u59b 0), .ref (u59b 1), .int (ck_all (ck_n x))])), ((u59b 0), .inl (K 0, (ck_n x), .inr (.inl (fun _ => (0 : Int64))))), ((u59b 1), .inl (K 0, (ck_n x), .inr (.inl (fun _ => (0 : Int64))))), (q72, .inl (K 2, 12, .inl (upd (upd (upd (upd (upd (upd (fun _ => (0 : Int32)) 0 (1 : Int32)) 1 (1 : Int32)) 2 (1 : Int32)) 3 (1 : Int32)) 4 (1 : Int32)) 5 (1 : Int32))))]) C hP hD hS 16 rfl (by decide) 5 rfl (by omega) (by omega) dd_RG_init_91 rfl (fun H locs hP hD hS => ?_)
  refine lv_iinc (k := 0) (v := (6 : Int32)) (lv' := [(2, .int (6 : Int32)), (0, .ref ah), (1, .int x)]) hx hb dd_RG_init_92 hl rfl (by decide) (by decide) rfl (fun ls hl => ?_)
  refine lv_goto (tgt := 79) hx hb dd_RG_init_95 (by decide) ?_
  refine lv_iload_n hx hb dd_RG_init_79 rfl (lv_at hl 0 rfl) ?_
  refine lv_bipush (v := (12 : Int32)) hx hb dd_RG_init_80 (by decide) ?_
  refine lv_icmp_ge (tgt := 98) hx hb dd_RG_init_82 (by decide) (fun h => absurd h (by decide)) (fun _ => ?_)
  refine lv_aload_n hx hb dd_RG_init_85 rfl (lv_at hl 1 rfl) ?_
  refine ly_get (v := .ref q72) C hP 0 rfl uw_RG rfl 3 (by decide) wa_57 rfl dd_RG_init_86 ?_
  refine lv_iload_n hx hb dd_RG_init_89 rfl (lv_at hl 0 rfl) ?_
  refine lv_iconst (v := (1 : Int32)) hx hb dd_RG_init_90 (by decide) ?_
  refine ly_zast (ws' := [(ah, .inr (0, [.ref q5, .ref q17, .ref q29, .ref q72, .null, .long (0 : Int64), .long (0 : Int64)])), (q5, .inr (1, [.int (nI (ck_n x)), .ref (u10 0), .int (ck_g x)])), ((u10 0), .inl (K 0, (ck_n x), .inr (.inl (ck_r x)))), (q17, .inr (2, [.ref (u21 0), .ref (u21 1)])), ((u21 0), .inl (K 0, 6, .inr (.inl (fun _ => (0 : Int64))))), ((u21 1), .inl (K 0, 6, .inr (.inl (fun _ => (0 : Int64))))), (q29, .inl (K 3, 3, .inr (.inr (.inr (.inr (va_up (va_up (va_up (fun _ => none) 0 (some q47)) 1 (some q47a)) 2 (some q47b))))))), (q47, .inr (3, [.int ((5 : Int32) * (0 : Int32)), .int (ck_all (ck_n x)), .ref (u59 0), .ref (u59 1), .int (ck_all (ck_n x))])), ((u59 0), .inl (K 0, (ck_n x), .inr (.inl (fun _ => (0 : Int64))))), ((u59 1), .inl (K 0, (ck_n x), .inr (.inl (fun _ => (0 : Int64))))), (q47a, .inr (3, [.int ((5 : Int32) * (1 : Int32)), .int (ck_all (ck_n x)), .ref (u59a 0), .ref (u59a 1), .int (ck_all (ck_n x))])), ((u59a 0), .inl (K 0, (ck_n x), .inr (.inl (fun _ => (0 : Int64))))), ((u59a 1), .inl (K 0, (ck_n x), .inr (.inl (fun _ => (0 : Int64))))), (q47b, .inr (3, [.int ((5 : Int32) * (2 : Int32)), .int (ck_all (ck_n x)), .ref (u59b 0), .ref (u59b 1), .int (ck_all (ck_n x))])), ((u59b 0), .inl (K 0, (ck_n x), .inr (.inl (fun _ => (0 : Int64))))), ((u59b 1), .inl (K 0, (ck_n x), .inr (.inl (fun _ => (0 : Int64))))), (q72, .inl (K 2, 12, .inl (upd (upd (upd (upd (upd (upd (upd (fun _ => (0 : Int32)) 0 (1 : Int32)) 1 (1 : Int32)) 2 (1 : Int32)) 3 (1 : Int32)) 4 (1 : Int32)) 5 (1 : Int32)) 6 (1 : Int32))))]) C hP hD hS 16 rfl (by decide) 6 rfl (by omega) (by omega) dd_RG_init_91 rfl (fun H locs hP hD hS => ?_)
  refine lv_iinc (k := 0) (v := (7 : Int32)) (lv' := [(2, .int (7 : Int32)), (0, .ref ah), (1, .int x)]) hx hb dd_RG_init_92 hl rfl (by decide) (by decide) rfl (fun ls hl => ?_)
  refine lv_goto (tgt := 79) hx hb dd_RG_init_95 (by decide) ?_
  refine lv_iload_n hx hb dd_RG_init_79 rfl (lv_at hl 0 rfl) ?_
  refine lv_bipush (v := (12 : Int32)) hx hb dd_RG_init_80 (by decide) ?_
  refine lv_icmp_ge (tgt := 98) hx hb dd_RG_init_82 (by decide) (fun h => absurd h (by decide)) (fun _ => ?_)
  refine lv_aload_n hx hb dd_RG_init_85 rfl (lv_at hl 1 rfl) ?_
  refine ly_get (v := .ref q72) C hP 0 rfl uw_RG rfl 3 (by decide) wa_57 rfl dd_RG_init_86 ?_
  refine lv_iload_n hx hb dd_RG_init_89 rfl (lv_at hl 0 rfl) ?_
  refine lv_iconst (v := (1 : Int32)) hx hb dd_RG_init_90 (by decide) ?_
  refine ly_zast (ws' := [(ah, .inr (0, [.ref q5, .ref q17, .ref q29, .ref q72, .null, .long (0 : Int64), .long (0 : Int64)])), (q5, .inr (1, [.int (nI (ck_n x)), .ref (u10 0), .int (ck_g x)])), ((u10 0), .inl (K 0, (ck_n x), .inr (.inl (ck_r x)))), (q17, .inr (2, [.ref (u21 0), .ref (u21 1)])), ((u21 0), .inl (K 0, 6, .inr (.inl (fun _ => (0 : Int64))))), ((u21 1), .inl (K 0, 6, .inr (.inl (fun _ => (0 : Int64))))), (q29, .inl (K 3, 3, .inr (.inr (.inr (.inr (va_up (va_up (va_up (fun _ => none) 0 (some q47)) 1 (some q47a)) 2 (some q47b))))))), (q47, .inr (3, [.int ((5 : Int32) * (0 : Int32)), .int (ck_all (ck_n x)), .ref (u59 0), .ref (u59 1), .int (ck_all (ck_n x))])), ((u59 0), .inl (K 0, (ck_n x), .inr (.inl (fun _ => (0 : Int64))))), ((u59 1), .inl (K 0, (ck_n x), .inr (.inl (fun _ => (0 : Int64))))), (q47a, .inr (3, [.int ((5 : Int32) * (1 : Int32)), .int (ck_all (ck_n x)), .ref (u59a 0), .ref (u59a 1), .int (ck_all (ck_n x))])), ((u59a 0), .inl (K 0, (ck_n x), .inr (.inl (fun _ => (0 : Int64))))), ((u59a 1), .inl (K 0, (ck_n x), .inr (.inl (fun _ => (0 : Int64))))), (q47b, .inr (3, [.int ((5 : Int32) * (2 : Int32)), .int (ck_all (ck_n x)), .ref (u59b 0), .ref (u59b 1), .int (ck_all (ck_n x))])), ((u59b 0), .inl (K 0, (ck_n x), .inr (.inl (fun _ => (0 : Int64))))), ((u59b 1), .inl (K 0, (ck_n x), .inr (.inl (fun _ => (0 : Int64))))), (q72, .inl (K 2, 12, .inl (upd (upd (upd (upd (upd (upd (upd (upd (fun _ => (0 : Int32)) 0 (1 : Int32)) 1 (1 : Int32)) 2 (1 : Int32)) 3 (1 : Int32)) 4 (1 : Int32)) 5 (1 : Int32)) 6 (1 : Int32)) 7 (1 : Int32))))]) C hP hD hS 16 rfl (by decide) 7 rfl (by omega) (by omega) dd_RG_init_91 rfl (fun H locs hP hD hS => ?_)
  refine lv_iinc (k := 0) (v := (8 : Int32)) (lv' := [(2, .int (8 : Int32)), (0, .ref ah), (1, .int x)]) hx hb dd_RG_init_92 hl rfl (by decide) (by decide) rfl (fun ls hl => ?_)
  refine lv_goto (tgt := 79) hx hb dd_RG_init_95 (by decide) ?_
  refine lv_iload_n hx hb dd_RG_init_79 rfl (lv_at hl 0 rfl) ?_
  refine lv_bipush (v := (12 : Int32)) hx hb dd_RG_init_80 (by decide) ?_
  refine lv_icmp_ge (tgt := 98) hx hb dd_RG_init_82 (by decide) (fun h => absurd h (by decide)) (fun _ => ?_)
  refine lv_aload_n hx hb dd_RG_init_85 rfl (lv_at hl 1 rfl) ?_
  refine ly_get (v := .ref q72) C hP 0 rfl uw_RG rfl 3 (by decide) wa_57 rfl dd_RG_init_86 ?_
  refine lv_iload_n hx hb dd_RG_init_89 rfl (lv_at hl 0 rfl) ?_
  refine lv_iconst (v := (1 : Int32)) hx hb dd_RG_init_90 (by decide) ?_
  refine ly_zast (ws' := [(ah, .inr (0, [.ref q5, .ref q17, .ref q29, .ref q72, .null, .long (0 : Int64), .long (0 : Int64)])), (q5, .inr (1, [.int (nI (ck_n x)), .ref (u10 0), .int (ck_g x)])), ((u10 0), .inl (K 0, (ck_n x), .inr (.inl (ck_r x)))), (q17, .inr (2, [.ref (u21 0), .ref (u21 1)])), ((u21 0), .inl (K 0, 6, .inr (.inl (fun _ => (0 : Int64))))), ((u21 1), .inl (K 0, 6, .inr (.inl (fun _ => (0 : Int64))))), (q29, .inl (K 3, 3, .inr (.inr (.inr (.inr (va_up (va_up (va_up (fun _ => none) 0 (some q47)) 1 (some q47a)) 2 (some q47b))))))), (q47, .inr (3, [.int ((5 : Int32) * (0 : Int32)), .int (ck_all (ck_n x)), .ref (u59 0), .ref (u59 1), .int (ck_all (ck_n x))])), ((u59 0), .inl (K 0, (ck_n x), .inr (.inl (fun _ => (0 : Int64))))), ((u59 1), .inl (K 0, (ck_n x), .inr (.inl (fun _ => (0 : Int64))))), (q47a, .inr (3, [.int ((5 : Int32) * (1 : Int32)), .int (ck_all (ck_n x)), .ref (u59a 0), .ref (u59a 1), .int (ck_all (ck_n x))])), ((u59a 0), .inl (K 0, (ck_n x), .inr (.inl (fun _ => (0 : Int64))))), ((u59a 1), .inl (K 0, (ck_n x), .inr (.inl (fun _ => (0 : Int64))))), (q47b, .inr (3, [.int ((5 : Int32) * (2 : Int32)), .int (ck_all (ck_n x)), .ref (u59b 0), .ref (u59b 1), .int (ck_all (ck_n x))])), ((u59b 0), .inl (K 0, (ck_n x), .inr (.inl (fun _ => (0 : Int64))))), ((u59b 1), .inl (K 0, (ck_n x), .inr (.inl (fun _ => (0 : Int64))))), (q72, .inl (K 2, 12, .inl (upd (upd (upd (upd (upd (upd (upd (upd (upd (fun _ => (0 : Int32)) 0 (1 : Int32)) 1 (1 : Int32)) 2 (1 : Int32)) 3 (1 : Int32)) 4 (1 : Int32)) 5 (1 : Int32)) 6 (1 : Int32)) 7 (1 : Int32)) 8 (1 : Int32))))]) C hP hD hS 16 rfl (by decide) 8 rfl (by omega) (by omega) dd_RG_init_91 rfl (fun H locs hP hD hS => ?_)
  refine lv_iinc (k := 0) (v := (9 : Int32)) (lv' := [(2, .int (9 : Int32)), (0, .ref ah), (1, .int x)]) hx hb dd_RG_init_92 hl rfl (by decide) (by decide) rfl (fun ls hl => ?_)
  refine lv_goto (tgt := 79) hx hb dd_RG_init_95 (by decide) ?_
  refine lv_iload_n hx hb dd_RG_init_79 rfl (lv_at hl 0 rfl) ?_
  refine lv_bipush (v := (12 : Int32)) hx hb dd_RG_init_80 (by decide) ?_
  refine lv_icmp_ge (tgt := 98) hx hb dd_RG_init_82 (by decide) (fun h => absurd h (by decide)) (fun _ => ?_)
  refine lv_aload_n hx hb dd_RG_init_85 rfl (lv_at hl 1 rfl) ?_
  refine ly_get (v := .ref q72) C hP 0 rfl uw_RG rfl 3 (by decide) wa_57 rfl dd_RG_init_86 ?_
  refine lv_iload_n hx hb dd_RG_init_89 rfl (lv_at hl 0 rfl) ?_
  refine lv_iconst (v := (1 : Int32)) hx hb dd_RG_init_90 (by decide) ?_
  refine ly_zast (ws' := [(ah, .inr (0, [.ref q5, .ref q17, .ref q29, .ref q72, .null, .long (0 : Int64), .long (0 : Int64)])), (q5, .inr (1, [.int (nI (ck_n x)), .ref (u10 0), .int (ck_g x)])), ((u10 0), .inl (K 0, (ck_n x), .inr (.inl (ck_r x)))), (q17, .inr (2, [.ref (u21 0), .ref (u21 1)])), ((u21 0), .inl (K 0, 6, .inr (.inl (fun _ => (0 : Int64))))), ((u21 1), .inl (K 0, 6, .inr (.inl (fun _ => (0 : Int64))))), (q29, .inl (K 3, 3, .inr (.inr (.inr (.inr (va_up (va_up (va_up (fun _ => none) 0 (some q47)) 1 (some q47a)) 2 (some q47b))))))), (q47, .inr (3, [.int ((5 : Int32) * (0 : Int32)), .int (ck_all (ck_n x)), .ref (u59 0), .ref (u59 1), .int (ck_all (ck_n x))])), ((u59 0), .inl (K 0, (ck_n x), .inr (.inl (fun _ => (0 : Int64))))), ((u59 1), .inl (K 0, (ck_n x), .inr (.inl (fun _ => (0 : Int64))))), (q47a, .inr (3, [.int ((5 : Int32) * (1 : Int32)), .int (ck_all (ck_n x)), .ref (u59a 0), .ref (u59a 1), .int (ck_all (ck_n x))])), ((u59a 0), .inl (K 0, (ck_n x), .inr (.inl (fun _ => (0 : Int64))))), ((u59a 1), .inl (K 0, (ck_n x), .inr (.inl (fun _ => (0 : Int64))))), (q47b, .inr (3, [.int ((5 : Int32) * (2 : Int32)), .int (ck_all (ck_n x)), .ref (u59b 0), .ref (u59b 1), .int (ck_all (ck_n x))])), ((u59b 0), .inl (K 0, (ck_n x), .inr (.inl (fun _ => (0 : Int64))))), ((u59b 1), .inl (K 0, (ck_n x), .inr (.inl (fun _ => (0 : Int64))))), (q72, .inl (K 2, 12, .inl (upd (upd (upd (upd (upd (upd (upd (upd (upd (upd (fun _ => (0 : Int32)) 0 (1 : Int32)) 1 (1 : Int32)) 2 (1 : Int32)) 3 (1 : Int32)) 4 (1 : Int32)) 5 (1 : Int32)) 6 (1 : Int32)) 7 (1 : Int32)) 8 (1 : Int32)) 9 (1 : Int32))))]) C hP hD hS 16 rfl (by decide) 9 rfl (by omega) (by omega) dd_RG_init_91 rfl (fun H locs hP hD hS => ?_)
  refine lv_iinc (k := 0) (v := (10 : Int32)) (lv' := [(2, .int (10 : Int32)), (0, .ref ah), (1, .int x)]) hx hb dd_RG_init_92 hl rfl (by decide) (by decide) rfl (fun ls hl => ?_)
  refine lv_goto (tgt := 79) hx hb dd_RG_init_95 (by decide) ?_
  refine lv_iload_n hx hb dd_RG_init_79 rfl (lv_at hl 0 rfl) ?_
  refine lv_bipush (v := (12 : Int32)) hx hb dd_RG_init_80 (by decide) ?_
  refine lv_icmp_ge (tgt := 98) hx hb dd_RG_init_82 (by decide) (fun h => absurd h (by decide)) (fun _ => ?_)
  refine lv_aload_n hx hb dd_RG_init_85 rfl (lv_at hl 1 rfl) ?_
  refine ly_get (v := .ref q72) C hP 0 rfl uw_RG rfl 3 (by decide) wa_57 rfl dd_RG_init_86 ?_
  refine lv_iload_n hx hb dd_RG_init_89 rfl (lv_at hl 0 rfl) ?_
  refine lv_iconst (v := (1 : Int32)) hx hb dd_RG_init_90 (by decide) ?_
  refine ly_zast (ws' := [(ah, .inr (0, [.ref q5, .ref q17, .ref q29, .ref q72, .null, .long (0 : Int64), .long (0 : Int64)])), (q5, .inr (1, [.int (nI (ck_n x)), .ref (u10 0), .int (ck_g x)])), ((u10 0), .inl (K 0, (ck_n x), .inr (.inl (ck_r x)))), (q17, .inr (2, [.ref (u21 0), .ref (u21 1)])), ((u21 0), .inl (K 0, 6, .inr (.inl (fun _ => (0 : Int64))))), ((u21 1), .inl (K 0, 6, .inr (.inl (fun _ => (0 : Int64))))), (q29, .inl (K 3, 3, .inr (.inr (.inr (.inr (va_up (va_up (va_up (fun _ => none) 0 (some q47)) 1 (some q47a)) 2 (some q47b))))))), (q47, .inr (3, [.int ((5 : Int32) * (0 : Int32)), .int (ck_all (ck_n x)), .ref (u59 0), .ref (u59 1), .int (ck_all (ck_n x))])), ((u59 0), .inl (K 0, (ck_n x), .inr (.inl (fun _ => (0 : Int64))))), ((u59 1), .inl (K 0, (ck_n x), .inr (.inl (fun _ => (0 : Int64))))), (q47a, .inr (3, [.int ((5 : Int32) * (1 : Int32)), .int (ck_all (ck_n x)), .ref (u59a 0), .ref (u59a 1), .int (ck_all (ck_n x))])), ((u59a 0), .inl (K 0, (ck_n x), .inr (.inl (fun _ => (0 : Int64))))), ((u59a 1), .inl (K 0, (ck_n x), .inr (.inl (fun _ => (0 : Int64))))), (q47b, .inr (3, [.int ((5 : Int32) * (2 : Int32)), .int (ck_all (ck_n x)), .ref (u59b 0), .ref (u59b 1), .int (ck_all (ck_n x))])), ((u59b 0), .inl (K 0, (ck_n x), .inr (.inl (fun _ => (0 : Int64))))), ((u59b 1), .inl (K 0, (ck_n x), .inr (.inl (fun _ => (0 : Int64))))), (q72, .inl (K 2, 12, .inl (upd (upd (upd (upd (upd (upd (upd (upd (upd (upd (upd (fun _ => (0 : Int32)) 0 (1 : Int32)) 1 (1 : Int32)) 2 (1 : Int32)) 3 (1 : Int32)) 4 (1 : Int32)) 5 (1 : Int32)) 6 (1 : Int32)) 7 (1 : Int32)) 8 (1 : Int32)) 9 (1 : Int32)) 10 (1 : Int32))))]) C hP hD hS 16 rfl (by decide) 10 rfl (by omega) (by omega) dd_RG_init_91 rfl (fun H locs hP hD hS => ?_)
  refine lv_iinc (k := 0) (v := (11 : Int32)) (lv' := [(2, .int (11 : Int32)), (0, .ref ah), (1, .int x)]) hx hb dd_RG_init_92 hl rfl (by decide) (by decide) rfl (fun ls hl => ?_)
  refine lv_goto (tgt := 79) hx hb dd_RG_init_95 (by decide) ?_
  refine lv_iload_n hx hb dd_RG_init_79 rfl (lv_at hl 0 rfl) ?_
  refine lv_bipush (v := (12 : Int32)) hx hb dd_RG_init_80 (by decide) ?_
  refine lv_icmp_ge (tgt := 98) hx hb dd_RG_init_82 (by decide) (fun h => absurd h (by decide)) (fun _ => ?_)
  refine lv_aload_n hx hb dd_RG_init_85 rfl (lv_at hl 1 rfl) ?_
  refine ly_get (v := .ref q72) C hP 0 rfl uw_RG rfl 3 (by decide) wa_57 rfl dd_RG_init_86 ?_
  refine lv_iload_n hx hb dd_RG_init_89 rfl (lv_at hl 0 rfl) ?_
  refine lv_iconst (v := (1 : Int32)) hx hb dd_RG_init_90 (by decide) ?_
  refine ly_zast (ws' := [(ah, .inr (0, [.ref q5, .ref q17, .ref q29, .ref q72, .null, .long (0 : Int64), .long (0 : Int64)])), (q5, .inr (1, [.int (nI (ck_n x)), .ref (u10 0), .int (ck_g x)])), ((u10 0), .inl (K 0, (ck_n x), .inr (.inl (ck_r x)))), (q17, .inr (2, [.ref (u21 0), .ref (u21 1)])), ((u21 0), .inl (K 0, 6, .inr (.inl (fun _ => (0 : Int64))))), ((u21 1), .inl (K 0, 6, .inr (.inl (fun _ => (0 : Int64))))), (q29, .inl (K 3, 3, .inr (.inr (.inr (.inr (va_up (va_up (va_up (fun _ => none) 0 (some q47)) 1 (some q47a)) 2 (some q47b))))))), (q47, .inr (3, [.int ((5 : Int32) * (0 : Int32)), .int (ck_all (ck_n x)), .ref (u59 0), .ref (u59 1), .int (ck_all (ck_n x))])), ((u59 0), .inl (K 0, (ck_n x), .inr (.inl (fun _ => (0 : Int64))))), ((u59 1), .inl (K 0, (ck_n x), .inr (.inl (fun _ => (0 : Int64))))), (q47a, .inr (3, [.int ((5 : Int32) * (1 : Int32)), .int (ck_all (ck_n x)), .ref (u59a 0), .ref (u59a 1), .int (ck_all (ck_n x))])), ((u59a 0), .inl (K 0, (ck_n x), .inr (.inl (fun _ => (0 : Int64))))), ((u59a 1), .inl (K 0, (ck_n x), .inr (.inl (fun _ => (0 : Int64))))), (q47b, .inr (3, [.int ((5 : Int32) * (2 : Int32)), .int (ck_all (ck_n x)), .ref (u59b 0), .ref (u59b 1), .int (ck_all (ck_n x))])), ((u59b 0), .inl (K 0, (ck_n x), .inr (.inl (fun _ => (0 : Int64))))), ((u59b 1), .inl (K 0, (ck_n x), .inr (.inl (fun _ => (0 : Int64))))), (q72, .inl (K 2, 12, .inl (upd (upd (upd (upd (upd (upd (upd (upd (upd (upd (upd (upd (fun _ => (0 : Int32)) 0 (1 : Int32)) 1 (1 : Int32)) 2 (1 : Int32)) 3 (1 : Int32)) 4 (1 : Int32)) 5 (1 : Int32)) 6 (1 : Int32)) 7 (1 : Int32)) 8 (1 : Int32)) 9 (1 : Int32)) 10 (1 : Int32)) 11 (1 : Int32))))]) C hP hD hS 16 rfl (by decide) 11 rfl (by omega) (by omega) dd_RG_init_91 rfl (fun H locs hP hD hS => ?_)
  refine lv_iinc (k := 0) (v := (12 : Int32)) (lv' := [(2, .int (12 : Int32)), (0, .ref ah), (1, .int x)]) hx hb dd_RG_init_92 hl rfl (by decide) (by decide) rfl (fun ls hl => ?_)
  refine lv_goto (tgt := 79) hx hb dd_RG_init_95 (by decide) ?_
  refine lv_iload_n hx hb dd_RG_init_79 rfl (lv_at hl 0 rfl) ?_
  refine lv_bipush (v := (12 : Int32)) hx hb dd_RG_init_80 (by decide) ?_
  refine lv_icmp_ge (tgt := 98) hx hb dd_RG_init_82 (by decide) (fun _ => ?_) (fun h => absurd (by decide) h)
  refine lv_aload_n hx hb dd_RG_init_98 rfl (lv_at hl 1 rfl) ?_
  refine lv_iconst (v := (4 : Int32)) hx hb dd_RG_init_99 (by decide) ?_
  refine ly_newa (ty := .int) (at0 := .int) (a0 := (4, .inl (fun _ => (0 : Int32)))) C 1 rfl rfl (fun _ h => h) wa_58 hP hD hS 4 (fun _ => rfl) rfl (by omega) (by decide) (by omega) (by omega) dd_RG_init_100 (fun q100 H hP hD hS => ?_)
  refine W.widen (k := 17) (n := 128) (by omega) (by omega) ?_
  have hcs : 17 ≤ R.cells ∧ 128 ≤ R.slots := ⟨by omega, by omega⟩
  refine ly_putF (ws' := [(ah, .inr (0, [.ref q5, .ref q17, .ref q29, .ref q72, .ref q100, .long (0 : Int64), .long (0 : Int64)])), (q5, .inr (1, [.int (nI (ck_n x)), .ref (u10 0), .int (ck_g x)])), ((u10 0), .inl (K 0, (ck_n x), .inr (.inl (ck_r x)))), (q17, .inr (2, [.ref (u21 0), .ref (u21 1)])), ((u21 0), .inl (K 0, 6, .inr (.inl (fun _ => (0 : Int64))))), ((u21 1), .inl (K 0, 6, .inr (.inl (fun _ => (0 : Int64))))), (q29, .inl (K 3, 3, .inr (.inr (.inr (.inr (va_up (va_up (va_up (fun _ => none) 0 (some q47)) 1 (some q47a)) 2 (some q47b))))))), (q47, .inr (3, [.int ((5 : Int32) * (0 : Int32)), .int (ck_all (ck_n x)), .ref (u59 0), .ref (u59 1), .int (ck_all (ck_n x))])), ((u59 0), .inl (K 0, (ck_n x), .inr (.inl (fun _ => (0 : Int64))))), ((u59 1), .inl (K 0, (ck_n x), .inr (.inl (fun _ => (0 : Int64))))), (q47a, .inr (3, [.int ((5 : Int32) * (1 : Int32)), .int (ck_all (ck_n x)), .ref (u59a 0), .ref (u59a 1), .int (ck_all (ck_n x))])), ((u59a 0), .inl (K 0, (ck_n x), .inr (.inl (fun _ => (0 : Int64))))), ((u59a 1), .inl (K 0, (ck_n x), .inr (.inl (fun _ => (0 : Int64))))), (q47b, .inr (3, [.int ((5 : Int32) * (2 : Int32)), .int (ck_all (ck_n x)), .ref (u59b 0), .ref (u59b 1), .int (ck_all (ck_n x))])), ((u59b 0), .inl (K 0, (ck_n x), .inr (.inl (fun _ => (0 : Int64))))), ((u59b 1), .inl (K 0, (ck_n x), .inr (.inl (fun _ => (0 : Int64))))), (q72, .inl (K 2, 12, .inl (upd (upd (upd (upd (upd (upd (upd (upd (upd (upd (upd (upd (fun _ => (0 : Int32)) 0 (1 : Int32)) 1 (1 : Int32)) 2 (1 : Int32)) 3 (1 : Int32)) 4 (1 : Int32)) 5 (1 : Int32)) 6 (1 : Int32)) 7 (1 : Int32)) 8 (1 : Int32)) 9 (1 : Int32)) 10 (1 : Int32)) 11 (1 : Int32)))), (q100, .inl (K 1, 4, .inl (fun _ => (0 : Int32))))]) C hP hD hS 0 rfl uw_RG tt_RG nn_RG rfl 4 (by decide) wa_59 rfl hin rfl rfl rfl (Nat.le_of_ble_eq_true rfl) dd_RG_init_102 rfl (fun H locs hP hD hS => ?_)
  refine W.widen (k := 17) (n := 128) (by omega) (by omega) ?_
  exact ret (fun k => match k with | 0 => q5 | 1 => (u10 0) | 2 => q17 | 3 => (u21 0) | 4 => (u21 1) | 5 => q29 | 6 => q47 | 7 => (u59 0) | 8 => (u59 1) | 9 => q47a | 10 => (u59a 0) | 11 => (u59a 1) | 12 => q47b | 13 => (u59b 0) | 14 => (u59b 1) | 15 => q72 | _ => q100) H locs 105 ls hS hP hD dd_RG_init_105
end
