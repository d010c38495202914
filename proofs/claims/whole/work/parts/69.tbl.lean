def wB_0 : List Cond := [.laysFinal "RepairGroups" "RepairGroups" "code" "LRepairGroups$Code;", .laysFinal "RepairGroups" "RepairGroups" "span" "LRepairGroups$Span;", .laysFinal "RepairGroups" "RepairGroups" "stripes" "[LRepairGroups$Stripe;", .laysFinal "RepairGroups" "RepairGroups" "nodeUp" "[Z", .laysFinal "RepairGroups" "RepairGroups" "counters" "[I", .lays "RepairGroups" "RepairGroups" "latestFetched" "J", .lays "RepairGroups" "RepairGroups" "rebuilt" "J", .laysFinal "RepairGroups$Code" "RepairGroups$Code" "shards" "I", .laysFinal "RepairGroups$Code" "RepairGroups$Code" "rows" "[J", .laysFinal "RepairGroups$Code" "RepairGroups$Code" "grouped" "Z", .laysFinal "RepairGroups$Span" "RepairGroups$Span" "rows" "[J", .laysFinal "RepairGroups$Span" "RepairGroups$Span" "values" "[J", .laysFinal "RepairGroups$Stripe" "RepairGroups$Stripe" "firstNode" "I", .laysFinal "RepairGroups$Stripe" "RepairGroups$Stripe" "all" "I", .laysFinal "RepairGroups$Stripe" "RepairGroups$Stripe" "written" "[J", .laysFinal "RepairGroups$Stripe" "RepairGroups$Stripe" "flipped" "[J", .lays "RepairGroups$Stripe" "RepairGroups$Stripe" "there" "I", .lays "RepairGroupsModel" "RepairGroupsModel" "kind" "I", .lays "RepairGroupsModel" "RepairGroupsModel" "n" "I", .lays "RepairGroupsModel" "RepairGroupsModel" "rows" "[I"]
set_option maxRecDepth 100000 in
theorem wB_0_t : ∀ w ∈ wB_0, w ∈ lw_tbl := by
  intro w hw
  rw [show wB_0 = ([136, 138, 140, 142, 144, 146, 148, 85, 87, 89, 101, 103, 118, 120, 122, 124, 126, 395, 397, 399] : List Nat).filterMap (fun i => lw_tbl[i]?) by decide +kernel] at hw
  obtain ⟨i, -, hi⟩ := List.mem_filterMap.mp hw
  exact List.mem_of_getElem? hi
def wB_1 : List Cond := [.lays "RepairGroupsModel" "RepairGroupsModel" "data" "[J", .lays "RepairGroupsModel" "RepairGroupsModel" "there" "[Z", .lays "RepairGroupsModel" "RepairGroupsModel" "flips" "[J", .lays "RepairGroupsModel" "RepairGroupsModel" "down" "[Z", .lays "RepairGroupsModel" "RepairGroupsModel" "reads" "I", .lays "RepairGroupsModel" "RepairGroupsModel" "writes" "I", .lays "RepairGroupsModel" "RepairGroupsModel" "crossings" "I", .lays "RepairGroupsModel" "RepairGroupsModel" "plans" "I", .lays "RepairGroupsModel" "RepairGroupsModel" "latest" "J", .lays "RepairGroupsModel" "RepairGroupsModel" "planSize" "I", .lays "RepairGroupsModel" "RepairGroupsModel" "plan" "[I", .lays "RepairGroupsModel" "RepairGroupsModel" "taken" "I", .lays "RepairGroupsModel" "RepairGroupsModel" "basis" "[I", .lays "RepairGroupsModel" "RepairGroupsModel" "pivot" "[I", .lays "RepairGroupsModel" "RepairGroupsModel" "row" "[I", .code yy_RG_init bb_RG_init 3 none, .methodLink "RepairGroups" 1 objectInit, .instanceMethod objectInit, .code objectInit ⟨#[0xb1]⟩ 1 none, .classLink "RepairGroups" 7 "RepairGroups$Code"]
set_option maxRecDepth 100000 in
theorem wB_1_t : ∀ w ∈ wB_1, w ∈ lw_tbl := by
  intro w hw
  rw [show wB_1 = ([401, 403, 405, 407, 409, 411, 413, 415, 417, 419, 421, 423, 425, 427, 429, 47, 48, 49, 50, 51] : List Nat).filterMap (fun i => lw_tbl[i]?) by decide +kernel] at hw
  obtain ⟨i, -, hi⟩ := List.mem_filterMap.mp hw
  exact List.mem_of_getElem? hi
def wB_2 : List Cond := [.instantiable "RepairGroups$Code" 3, .initialized "RepairGroups$Code", .methodLink "RepairGroups" 9 yy_Co_init, .instanceMethod yy_Co_init, .fieldLink "RepairGroups" 12 "RepairGroups" "code" "LRepairGroups$Code;", .classLink "RepairGroups" 18 "RepairGroups$Span", .instantiable "RepairGroups$Span" 2, .initialized "RepairGroups$Span", .instanceMethod yy_Sp_init, .fieldLink "RepairGroups" 21 "RepairGroups" "span" "LRepairGroups$Span;", .classLink "RepairGroups" 25 "RepairGroups$Stripe", .fieldLink "RepairGroups" 27 "RepairGroups" "stripes" "[LRepairGroups$Stripe;", .instantiable "RepairGroups$Stripe" 5, .initialized "RepairGroups$Stripe", .methodLink "RepairGroups" 35 yy_Sq_init, .instanceMethod yy_Sq_init, .arrayClass .boolean, .fieldLink "RepairGroups" 38 "RepairGroups" "nodeUp" "[Z", .arrayClass .int, .fieldLink "RepairGroups" 42 "RepairGroups" "counters" "[I"]
set_option maxRecDepth 100000 in
theorem wB_2_t : ∀ w ∈ wB_2, w ∈ lw_tbl := by
  intro w hw
  rw [show wB_2 = ([52, 37, 53, 54, 129, 93, 94, 39, 96, 130, 106, 131, 108, 40, 109, 110, 151, 132, 152, 133] : List Nat).filterMap (fun i => lw_tbl[i]?) by decide +kernel] at hw
  obtain ⟨i, -, hi⟩ := List.mem_filterMap.mp hw
  exact List.mem_of_getElem? hi
def wB_3 : List Cond := [.code yy_RG_put bb_RG_put 7 (some .int), .methodLink "RepairGroups" 46 yy_RG_isStripe, .initialized "RepairGroups", .static yy_RG_isStripe, .methodLink "RepairGroups" 50 yy_Sq_isThere, .instanceMethod yy_Sq_isThere, .selects "RepairGroups$Stripe" yy_Sq_isThere yy_Sq_isThere, .methodLink "RepairGroups" 53 yy_RG_readShard, .instanceMethod yy_RG_readShard, .selects "RepairGroups" yy_RG_readShard yy_RG_readShard, .methodLink "RepairGroups" 57 yy_Sq_held, .instanceMethod yy_Sq_held, .selects "RepairGroups$Stripe" yy_Sq_held yy_Sq_held, .methodLink "RepairGroups" 61 yy_RG_updateCoded, .instanceMethod yy_RG_updateCoded, .selects "RepairGroups" yy_RG_updateCoded yy_RG_updateCoded, .methodLink "RepairGroups" 65 yy_RG_writeShard, .instanceMethod yy_RG_writeShard, .selects "RepairGroups" yy_RG_writeShard yy_RG_writeShard, .code yy_RG_fetch bb_RG_fetch 5 (some .int)]
set_option maxRecDepth 100000 in
theorem wB_3_t : ∀ w ∈ wB_3, w ∈ lw_tbl := by
  intro w hw
  rw [show wB_3 = ([156, 157, 36, 158, 160, 161, 162, 167, 169, 0, 179, 180, 181, 183, 185, 1, 199, 201, 3, 210] : List Nat).filterMap (fun i => lw_tbl[i]?) by decide +kernel] at hw
  obtain ⟨i, -, hi⟩ := List.mem_filterMap.mp hw
  exact List.mem_of_getElem? hi
def wB_4 : List Cond := [.methodLink "RepairGroups" 69 yy_RG_isShard, .instanceMethod yy_RG_isShard, .selects "RepairGroups" yy_RG_isShard yy_RG_isShard, .fieldLink "RepairGroups" 73 "RepairGroups" "latestFetched" "J", .methodLink "RepairGroups" 77 yy_RG_followPlans, .instanceMethod yy_RG_followPlans, .selects "RepairGroups" yy_RG_followPlans yy_RG_followPlans, .fieldLink "RepairGroups" 81 "RepairGroups" "rebuilt" "J", .code yy_RG_fetched bb_RG_fetched 1 (some .long), .code yy_RG_fail bb_RG_fail 4 (some .int), .methodLink "RepairGroups" 84 yy_RG_isNode, .static yy_RG_isNode, .methodLink "RepairGroups" 87 yy_RG_dropShardsOn, .instanceMethod yy_RG_dropShardsOn, .selects "RepairGroups" yy_RG_dropShardsOn yy_RG_dropShardsOn, .code yy_RG_revive bb_RG_revive 2 (some .boolean), .code yy_RG_damage bb_RG_damage 4 (some .boolean), .methodLink "RepairGroups" 90 yy_Sq_flip, .instanceMethod yy_Sq_flip, .selects "RepairGroups$Stripe" yy_Sq_flip yy_Sq_flip]
set_option maxRecDepth 100000 in
theorem wB_4_t : ∀ w ∈ wB_4, w ∈ lw_tbl := by
  intro w hw
  rw [show wB_4 = ([211, 213, 4, 134, 215, 217, 5, 135, 276, 280, 281, 282, 284, 286, 11, 291, 295, 296, 297, 298] : List Nat).filterMap (fun i => lw_tbl[i]?) by decide +kernel] at hw
  obtain ⟨i, -, hi⟩ := List.mem_filterMap.mp hw
  exact List.mem_of_getElem? hi
def wB_5 : List Cond := [.code yy_RG_repair bb_RG_repair 4 (some .int), .methodLink "RepairGroups" 93 yy_Sq_nodeOf, .instanceMethod yy_Sq_nodeOf, .selects "RepairGroups$Stripe" yy_Sq_nodeOf yy_Sq_nodeOf, .methodLink "RepairGroups" 97 yy_RG_rebuild, .instanceMethod yy_RG_rebuild, .selects "RepairGroups" yy_RG_rebuild yy_RG_rebuild, .code yy_RG_mend bb_RG_mend 6 (some .int), .methodLink "RepairGroups" 100 yy_RG_nextToMend, .instanceMethod yy_RG_nextToMend, .selects "RepairGroups" yy_RG_nextToMend yy_RG_nextToMend, .code yy_RG_scrub bb_RG_scrub 5 (some .int), .code yy_RG_cost bb_RG_cost 4 (some .int), .methodLink "RepairGroups" 104 yy_RG_choosePlan, .instanceMethod yy_RG_choosePlan, .selects "RepairGroups" yy_RG_choosePlan yy_RG_choosePlan, .methodLink "RepairGroups" 107 yy_In_bitCount, .initialized "java/lang/Integer", .static yy_In_bitCount, .code yy_RG_rank bb_RG_rank 2 (some .int)]
set_option maxRecDepth 100000 in
theorem wB_5_t : ∀ w ∈ wB_5, w ∈ lw_tbl := by
  intro w hw
  rw [show wB_5 = ([303, 194, 195, 196, 304, 306, 12, 311, 312, 314, 13, 323, 327, 219, 221, 6, 254, 42, 255, 331] : List Nat).filterMap (fun i => lw_tbl[i]?) by decide +kernel] at hw
  obtain ⟨i, -, hi⟩ := List.mem_filterMap.mp hw
  exact List.mem_of_getElem? hi
def wB_6 : List Cond := [.methodLink "RepairGroups" 112 yy_RG_independentShards, .instanceMethod yy_RG_independentShards, .selects "RepairGroups" yy_RG_independentShards yy_RG_independentShards, .code yy_RG_lost bb_RG_lost 2 (some .int), .methodLink "RepairGroups" 115 yy_Sq_lostMask, .instanceMethod yy_Sq_lostMask, .selects "RepairGroups$Stripe" yy_Sq_lostMask yy_Sq_lostMask, .code yy_RG_content bb_RG_content 3 (some .long), .code yy_RG_node bb_RG_node 3 (some .int), .code yy_RG_up bb_RG_up 2 (some .boolean), .code yy_RG_count bb_RG_count 2 (some .int), .code yy_RG_size bb_RG_size 1 (some .int), .code yy_RG_isStripe bb_RG_isStripe 1 (some .boolean), .code yy_RG_isShard bb_RG_isShard 3 (some .boolean), .code yy_RG_isNode bb_RG_isNode 1 (some .boolean), .code yy_RG_readShard bb_RG_readShard 3 (some .boolean), .methodLink "RepairGroups" 119 yy_Sq_isDamaged, .instanceMethod yy_Sq_isDamaged, .selects "RepairGroups$Stripe" yy_Sq_isDamaged yy_Sq_isDamaged, .methodLink "RepairGroups" 122 yy_Sq_lose]
set_option maxRecDepth 100000 in
theorem wB_6_t : ∀ w ∈ wB_6, w ∈ lw_tbl := by
  intro w hw
  rw [show wB_6 = ([236, 238, 8, 335, 232, 233, 234, 339, 343, 347, 351, 355, 159, 214, 283, 170, 171, 172, 173, 175] : List Nat).filterMap (fun i => lw_tbl[i]?) by decide +kernel] at hw
  obtain ⟨i, -, hi⟩ := List.mem_filterMap.mp hw
  exact List.mem_of_getElem? hi
def wB_7 : List Cond := [.instanceMethod yy_Sq_lose, .selects "RepairGroups$Stripe" yy_Sq_lose yy_Sq_lose, .code yy_RG_readShardFor bb_RG_readShardFor 5 (some .boolean), .code yy_RG_writeShard bb_RG_writeShard 5 none, .methodLink "RepairGroups" 125 yy_Sq_store, .instanceMethod yy_Sq_store, .selects "RepairGroups$Stripe" yy_Sq_store yy_Sq_store, .code yy_RG_updateCoded bb_RG_updateCoded 8 (some .int), .methodLink "RepairGroups" 133 yy_By_at, .initialized "RepairGroups$Bytes", .static yy_By_at, .methodLink "RepairGroups" 139 yy_RG_readShardFor, .instanceMethod yy_RG_readShardFor, .selects "RepairGroups" yy_RG_readShardFor yy_RG_readShardFor, .methodLink "RepairGroups" 143 yy_By_times, .static yy_By_times, .code yy_RG_dropShardsOn bb_RG_dropShardsOn 5 (some .int), .code yy_RG_rebuild bb_RG_rebuild 4 (some .int), .code yy_RG_followPlans bb_RG_followPlans 5 (some .int), .methodLink "RepairGroups" 147 yy_RG_readPlan]
set_option maxRecDepth 100000 in
theorem wB_7_t : ∀ w ∈ wB_7, w ∈ lw_tbl := by
  intro w hw
  rw [show wB_7 = ([176, 177, 193, 202, 203, 204, 205, 186, 187, 38, 188, 190, 192, 2, 198, 72, 287, 307, 218, 260] : List Nat).filterMap (fun i => lw_tbl[i]?) by decide +kernel] at hw
  obtain ⟨i, -, hi⟩ := List.mem_filterMap.mp hw
  exact List.mem_of_getElem? hi
def wB_8 : List Cond := [.instanceMethod yy_RG_readPlan, .selects "RepairGroups" yy_RG_readPlan yy_RG_readPlan, .methodLink "RepairGroups" 150 yy_RG_decode, .instanceMethod yy_RG_decode, .selects "RepairGroups" yy_RG_decode yy_RG_decode, .code yy_RG_readPlan bb_RG_readPlan 5 (some .boolean), .methodLink "RepairGroups" 154 yy_RG_isIn, .static yy_RG_isIn, .code yy_RG_decode bb_RG_decode 5 (some .long), .methodLink "RepairGroups" 157 yy_Sp_clear, .instanceMethod yy_Sp_clear, .selects "RepairGroups$Span" yy_Sp_clear yy_Sp_clear, .methodLink "RepairGroups" 160 yy_Sp_take, .instanceMethod yy_Sp_take, .selects "RepairGroups$Span" yy_Sp_take yy_Sp_take, .methodLink "RepairGroups" 164 yy_Sp_valueOf, .instanceMethod yy_Sp_valueOf, .selects "RepairGroups$Span" yy_Sp_valueOf yy_Sp_valueOf, .code yy_RG_choosePlan bb_RG_choosePlan 4 (some .int), .methodLink "RepairGroups" 168 yy_RG_localPlan]
set_option maxRecDepth 100000 in
theorem wB_8_t : ∀ w ∈ wB_8, w ∈ lw_tbl := by
  intro w hw
  rw [show wB_8 = ([262, 9, 265, 267, 10, 263, 264, 165, 268, 240, 241, 242, 244, 245, 246, 269, 270, 271, 222, 223] : List Nat).filterMap (fun i => lw_tbl[i]?) by decide +kernel] at hw
  obtain ⟨i, -, hi⟩ := List.mem_filterMap.mp hw
  exact List.mem_of_getElem? hi
def wB_9 : List Cond := [.instanceMethod yy_RG_localPlan, .selects "RepairGroups" yy_RG_localPlan yy_RG_localPlan, .methodLink "RepairGroups" 171 yy_RG_globalPlan, .static yy_RG_globalPlan, .code yy_RG_localPlan bb_RG_localPlan 4 (some .int), .methodLink "RepairGroups" 174 yy_Co_groupOf, .instanceMethod yy_Co_groupOf, .selects "RepairGroups$Code" yy_Co_groupOf yy_Co_groupOf, .code yy_RG_globalPlan bb_RG_globalPlan 1 (some .int), .code yy_RG_independentShards bb_RG_independentShards 4 (some .int), .code yy_RG_nextToMend bb_RG_nextToMend 4 (some .int), .methodLink "RepairGroups" 177 yy_RG_canBeWritten, .instanceMethod yy_RG_canBeWritten, .selects "RepairGroups" yy_RG_canBeWritten yy_RG_canBeWritten, .code yy_RG_canBeWritten bb_RG_canBeWritten 3 (some .boolean), .code yy_RG_isIn bb_RG_isIn 2 (some .boolean), .code yy_By_at bb_By_at 3 (some .int), .code yy_By_placed bb_By_placed 2 (some .long), .code yy_By_times bb_By_times 12 (some .long), .constantLong "RepairGroups$Bytes" 9 (72340172838076673)]
set_option maxRecDepth 100000 in
theorem wB_9_t : ∀ w ∈ wB_9, w ∈ lw_tbl := by
  intro w hw
  rw [show wB_9 = ([225, 7, 251, 252, 226, 227, 228, 229, 253, 239, 315, 316, 318, 14, 319, 166, 189, 62, 73, 74] : List Nat).filterMap (fun i => lw_tbl[i]?) by decide +kernel] at hw
  obtain ⟨i, -, hi⟩ := List.mem_filterMap.mp hw
  exact List.mem_of_getElem? hi
def wB_10 : List Cond := [.constantLong "RepairGroups$Bytes" 11 (9187201950435737471), .constantLong "RepairGroups$Bytes" 13 (29), .code yy_By_inverse bb_By_inverse 4 (some .int), .methodLink "RepairGroups$Bytes" 15 yy_By_times, .code yy_Co_init bb_Co_init 3 none, .methodLink "RepairGroups$Code" 3 objectInit, .fieldLink "RepairGroups$Code" 11 "RepairGroups$Code" "shards" "I", .fieldLink "RepairGroups$Code" 15 "RepairGroups$Code" "grouped" "Z", .arrayClass .long, .fieldLink "RepairGroups$Code" 19 "RepairGroups$Code" "rows" "[J", .methodLink "RepairGroups$Code" 23 yy_Co_groupedRow, .static yy_Co_groupedRow, .methodLink "RepairGroups$Code" 27 yy_Co_plainRow, .static yy_Co_plainRow, .code yy_Co_plainRow bb_Co_plainRow 1 (some .long), .methodLink "RepairGroups$Code" 30 yy_By_placed, .static yy_By_placed, .methodLink "RepairGroups$Code" 36 yy_Co_inversesRow, .static yy_Co_inversesRow, .code yy_Co_groupedRow bb_Co_groupedRow 1 (some .long)]
set_option maxRecDepth 100000 in
theorem wB_10_t : ∀ w ∈ wB_10, w ∈ lw_tbl := by
  intro w hw
  rw [show wB_10 = ([75, 76, 70, 71, 55, 56, 80, 84, 92, 82, 57, 58, 77, 78, 79, 60, 61, 65, 66, 59] : List Nat).filterMap (fun i => lw_tbl[i]?) by decide +kernel] at hw
  obtain ⟨i, -, hi⟩ := List.mem_filterMap.mp hw
  exact List.mem_of_getElem? hi
def wB_11 : List Cond := [.constantLong "RepairGroups$Code" 39 (65793), .constantLong "RepairGroups$Code" 41 (1103823372288), .code yy_Co_inversesRow bb_Co_inversesRow 4 (some .long), .methodLink "RepairGroups$Code" 43 yy_By_inverse, .static yy_By_inverse, .code yy_Co_groupOf bb_Co_groupOf 2 (some .int), .code yy_Sp_init bb_Sp_init 1 none, .methodLink "RepairGroups$Span" 3 objectInit, .fieldLink "RepairGroups$Span" 9 "RepairGroups$Span" "rows" "[J", .fieldLink "RepairGroups$Span" 15 "RepairGroups$Span" "values" "[J", .code yy_Sp_clear bb_Sp_clear 2 none, .code yy_Sp_take bb_Sp_take 12 (some .boolean), .methodLink "RepairGroups$Span" 18 yy_By_at, .methodLink "RepairGroups$Span" 24 yy_By_inverse, .methodLink "RepairGroups$Span" 28 yy_By_times, .code yy_Sp_valueOf bb_Sp_valueOf 9 (some .long), .code yy_Sq_init bb_Sq_init 3 none, .methodLink "RepairGroups$Stripe" 3 objectInit, .fieldLink "RepairGroups$Stripe" 11 "RepairGroups$Stripe" "firstNode" "I", .fieldLink "RepairGroups$Stripe" 15 "RepairGroups$Stripe" "all" "I"]
set_option maxRecDepth 100000 in
theorem wB_11_t : ∀ w ∈ wB_11, w ∈ lw_tbl := by
  intro w hw
  rw [show wB_11 = ([63, 64, 67, 68, 69, 230, 97, 98, 99, 100, 243, 247, 248, 249, 250, 272, 111, 112, 113, 114] : List Nat).filterMap (fun i => lw_tbl[i]?) by decide +kernel] at hw
  obtain ⟨i, -, hi⟩ := List.mem_filterMap.mp hw
  exact List.mem_of_getElem? hi
def wB_12 : List Cond := [.fieldLink "RepairGroups$Stripe" 18 "RepairGroups$Stripe" "written" "[J", .fieldLink "RepairGroups$Stripe" 22 "RepairGroups$Stripe" "flipped" "[J", .fieldLink "RepairGroups$Stripe" 25 "RepairGroups$Stripe" "there" "I", .code yy_Sq_nodeOf bb_Sq_nodeOf 2 (some .int), .code yy_Sq_isThere bb_Sq_isThere 2 (some .boolean), .code yy_Sq_lostMask bb_Sq_lostMask 1 (some .int), .code yy_Sq_isDamaged bb_Sq_isDamaged 2 (some .boolean), .code yy_Sq_held bb_Sq_held 2 (some .long), .code yy_Sq_flip bb_Sq_flip 3 none, .code yy_Sq_lose bb_Sq_lose 2 none, .code yy_Sq_store bb_Sq_store 4 none, .code yy_Mo_init bb_Mo_init 4 none, .methodLink "RepairGroupsModel" 1 objectInit, .fieldLink "RepairGroupsModel" 7 "RepairGroupsModel" "rows" "[I", .fieldLink "RepairGroupsModel" 13 "RepairGroupsModel" "data" "[J", .fieldLink "RepairGroupsModel" 17 "RepairGroupsModel" "there" "[Z", .fieldLink "RepairGroupsModel" 21 "RepairGroupsModel" "flips" "[J", .fieldLink "RepairGroupsModel" 24 "RepairGroupsModel" "down" "[Z", .fieldLink "RepairGroupsModel" 27 "RepairGroupsModel" "plan" "[I", .fieldLink "RepairGroupsModel" 30 "RepairGroupsModel" "basis" "[I"]
set_option maxRecDepth 100000 in
theorem wB_12_t : ∀ w ∈ wB_12, w ∈ lw_tbl := by
  intro w hw
  rw [show wB_12 = ([115, 116, 117, 197, 163, 235, 174, 182, 299, 178, 206, 363, 364, 379, 380, 381, 382, 383, 390, 392] : List Nat).filterMap (fun i => lw_tbl[i]?) by decide +kernel] at hw
  obtain ⟨i, -, hi⟩ := List.mem_filterMap.mp hw
  exact List.mem_of_getElem? hi
def wB_13 : List Cond := [.fieldLink "RepairGroupsModel" 33 "RepairGroupsModel" "pivot" "[I", .fieldLink "RepairGroupsModel" 36 "RepairGroupsModel" "row" "[I", .fieldLink "RepairGroupsModel" 39 "RepairGroupsModel" "kind" "I", .fieldLink "RepairGroupsModel" 43 "RepairGroupsModel" "n" "I", .methodLink "RepairGroupsModel" 46 yy_Mo_coefficient, .initialized "RepairGroupsModel", .instanceMethod yy_Mo_coefficient, .selects "RepairGroupsModel" yy_Mo_coefficient yy_Mo_coefficient, .code yy_Mo_product bb_Mo_product 5 (some .int), .code yy_Mo_inverse bb_Mo_inverse 4 (some .int), .methodLink "RepairGroupsModel" 50 yy_Mo_product, .instanceMethod yy_Mo_product, .selects "RepairGroupsModel" yy_Mo_product yy_Mo_product, .code yy_Mo_coefficient bb_Mo_coefficient 3 (some .int), .methodLink "RepairGroupsModel" 53 yy_Mo_inverse, .instanceMethod yy_Mo_inverse, .selects "RepairGroupsModel" yy_Mo_inverse yy_Mo_inverse, .code yy_Mo_byteOf bb_Mo_byteOf 4 (some .int), .constantLong "RepairGroupsModel" 57 (255), .code yy_Mo_value bb_Mo_value 9 (some .long)]
set_option maxRecDepth 100000 in
theorem wB_13_t : ∀ w ∈ wB_13, w ∈ lw_tbl := by
  intro w hw
  rw [show wB_13 = ([393, 394, 377, 378, 365, 41, 367, 15, 376, 372, 373, 375, 17, 368, 369, 371, 16, 503, 504, 499] : List Nat).filterMap (fun i => lw_tbl[i]?) by decide +kernel] at hw
  obtain ⟨i, -, hi⟩ := List.mem_filterMap.mp hw
  exact List.mem_of_getElem? hi
def wB_14 : List Cond := [.methodLink "RepairGroupsModel" 59 yy_Mo_byteOf, .instanceMethod yy_Mo_byteOf, .selects "RepairGroupsModel" yy_Mo_byteOf yy_Mo_byteOf, .code yy_Mo_noStripe bb_Mo_noStripe 2 (some .boolean), .code yy_Mo_noShard bb_Mo_noShard 3 (some .boolean), .methodLink "RepairGroupsModel" 63 yy_Mo_noStripe, .instanceMethod yy_Mo_noStripe, .selects "RepairGroupsModel" yy_Mo_noStripe yy_Mo_noStripe, .code yy_Mo_place bb_Mo_place 3 (some .int), .code yy_Mo_cell bb_Mo_cell 3 (some .int), .code yy_Mo_rejected bb_Mo_rejected 4 (some .boolean), .fieldLink "RepairGroupsModel" 67 "RepairGroupsModel" "reads" "I", .methodLink "RepairGroupsModel" 70 yy_Mo_cell, .instanceMethod yy_Mo_cell, .selects "RepairGroupsModel" yy_Mo_cell yy_Mo_cell, .code yy_Mo_rejectedFor bb_Mo_rejectedFor 4 (some .boolean), .fieldLink "RepairGroupsModel" 73 "RepairGroupsModel" "crossings" "I", .methodLink "RepairGroupsModel" 76 yy_Mo_place, .instanceMethod yy_Mo_place, .selects "RepairGroupsModel" yy_Mo_place yy_Mo_place]
set_option maxRecDepth 100000 in
theorem wB_14_t : ∀ w ∈ wB_14, w ∈ lw_tbl := by
  intro w hw
  rw [show wB_14 = ([500, 502, 33, 439, 467, 436, 438, 18, 455, 443, 447, 384, 440, 442, 19, 451, 386, 452, 454, 22] : List Nat).filterMap (fun i => lw_tbl[i]?) by decide +kernel] at hw
  obtain ⟨i, -, hi⟩ := List.mem_filterMap.mp hw
  exact List.mem_of_getElem? hi
def wB_15 : List Cond := [.methodLink "RepairGroupsModel" 79 yy_Mo_rejected, .instanceMethod yy_Mo_rejected, .selects "RepairGroupsModel" yy_Mo_rejected yy_Mo_rejected, .code yy_Mo_written bb_Mo_written 3 none, .fieldLink "RepairGroupsModel" 83 "RepairGroupsModel" "writes" "I", .code yy_Mo_grouped bb_Mo_grouped 3 (some .boolean), .methodLink "RepairGroupsModel" 86 yy_Mo_group, .instanceMethod yy_Mo_group, .selects "RepairGroupsModel" yy_Mo_group yy_Mo_group, .code yy_Mo_group bb_Mo_group 2 (some .int), .code yy_Mo_local bb_Mo_local 6 (some .boolean), .methodLink "RepairGroupsModel" 89 yy_Mo_grouped, .instanceMethod yy_Mo_grouped, .selects "RepairGroupsModel" yy_Mo_grouped yy_Mo_grouped, .code yy_Mo_adds bb_Mo_adds 5 (some .boolean), .fieldLink "RepairGroupsModel" 92 "RepairGroupsModel" "taken" "I", .code yy_Mo_goOver bb_Mo_goOver 3 none, .fieldLink "RepairGroupsModel" 95 "RepairGroupsModel" "planSize" "I", .methodLink "RepairGroupsModel" 98 yy_Mo_adds, .instanceMethod yy_Mo_adds]
set_option maxRecDepth 100000 in
theorem wB_15_t : ∀ w ∈ wB_15, w ∈ lw_tbl := by
  intro w hw
  rw [show wB_15 = ([444, 446, 20, 459, 385, 483, 484, 486, 29, 487, 479, 480, 482, 28, 495, 391, 491, 389, 492, 494] : List Nat).filterMap (fun i => lw_tbl[i]?) by decide +kernel] at hw
  obtain ⟨i, -, hi⟩ := List.mem_filterMap.mp hw
  exact List.mem_of_getElem? hi
def wB_16 : List Cond := [.selects "RepairGroupsModel" yy_Mo_adds yy_Mo_adds, .code yy_Mo_choose bb_Mo_choose 4 (some .boolean), .methodLink "RepairGroupsModel" 101 yy_Mo_local, .instanceMethod yy_Mo_local, .selects "RepairGroupsModel" yy_Mo_local yy_Mo_local, .methodLink "RepairGroupsModel" 104 yy_Mo_goOver, .instanceMethod yy_Mo_goOver, .selects "RepairGroupsModel" yy_Mo_goOver yy_Mo_goOver, .code yy_Mo_follow bb_Mo_follow 7 (some .int), .methodLink "RepairGroupsModel" 108 yy_Mo_choose, .instanceMethod yy_Mo_choose, .selects "RepairGroupsModel" yy_Mo_choose yy_Mo_choose, .fieldLink "RepairGroupsModel" 111 "RepairGroupsModel" "plans" "I", .methodLink "RepairGroupsModel" 114 yy_Mo_rejectedFor, .instanceMethod yy_Mo_rejectedFor, .selects "RepairGroupsModel" yy_Mo_rejectedFor yy_Mo_rejectedFor, .code yy_Mo_put bb_Mo_put 7 (some .int), .methodLink "RepairGroupsModel" 118 yy_Mo_written, .instanceMethod yy_Mo_written, .selects "RepairGroupsModel" yy_Mo_written yy_Mo_written]
set_option maxRecDepth 100000 in
theorem wB_16_t : ∀ w ∈ wB_16, w ∈ lw_tbl := by
  intro w hw
  rw [show wB_16 = ([31, 475, 476, 478, 27, 488, 490, 30, 471, 472, 474, 26, 387, 448, 450, 21, 435, 456, 458, 23] : List Nat).filterMap (fun i => lw_tbl[i]?) by decide +kernel] at hw
  obtain ⟨i, -, hi⟩ := List.mem_filterMap.mp hw
  exact List.mem_of_getElem? hi
def wB_17 : List Cond := [.code yy_Mo_fetch bb_Mo_fetch 5 (some .int), .methodLink "RepairGroupsModel" 122 yy_Mo_noShard, .instanceMethod yy_Mo_noShard, .selects "RepairGroupsModel" yy_Mo_noShard yy_Mo_noShard, .methodLink "RepairGroupsModel" 125 yy_Mo_follow, .instanceMethod yy_Mo_follow, .selects "RepairGroupsModel" yy_Mo_follow yy_Mo_follow, .methodLink "RepairGroupsModel" 128 yy_Mo_value, .instanceMethod yy_Mo_value, .selects "RepairGroupsModel" yy_Mo_value yy_Mo_value, .fieldLink "RepairGroupsModel" 132 "RepairGroupsModel" "latest" "J", .code yy_Mo_fetched bb_Mo_fetched 1 (some .long), .code yy_Mo_fail bb_Mo_fail 5 (some .int), .code yy_Mo_revive bb_Mo_revive 2 (some .boolean), .code yy_Mo_damage bb_Mo_damage 4 (some .boolean), .code yy_Mo_repair bb_Mo_repair 4 (some .int), .code yy_Mo_next bb_Mo_next 5 (some .int), .code yy_Mo_mend bb_Mo_mend 5 (some .int), .methodLink "RepairGroupsModel" 136 yy_Mo_next, .instanceMethod yy_Mo_next]
set_option maxRecDepth 100000 in
theorem wB_17_t : ∀ w ∈ wB_17, w ∈ lw_tbl := by
  intro w hw
  rw [show wB_17 = ([463, 464, 466, 24, 468, 470, 25, 496, 498, 32, 388, 508, 512, 516, 520, 524, 532, 528, 529, 531] : List Nat).filterMap (fun i => lw_tbl[i]?) by decide +kernel] at hw
  obtain ⟨i, -, hi⟩ := List.mem_filterMap.mp hw
  exact List.mem_of_getElem? hi
def wB_18 : List Cond := [.selects "RepairGroupsModel" yy_Mo_next yy_Mo_next, .methodLink "RepairGroupsModel" 139 yy_Mo_repair, .instanceMethod yy_Mo_repair, .selects "RepairGroupsModel" yy_Mo_repair yy_Mo_repair, .code yy_Mo_scrub bb_Mo_scrub 4 (some .int), .code yy_Mo_cost bb_Mo_cost 3 (some .int), .code yy_Mo_rank bb_Mo_rank 2 (some .int), .code yy_Mo_lost bb_Mo_lost 4 (some .int), .code yy_Mo_content bb_Mo_content 3 (some .long), .code yy_Mo_node bb_Mo_node 3 (some .int), .code yy_Mo_up bb_Mo_up 2 (some .boolean), .code yy_Mo_count bb_Mo_count 2 (some .int), .code yy_Mo_size bb_Mo_size 1 (some .int), .code yy_La_cell bb_La_cell 2 (some .int), .classLink "RepairGroupsLaw" 7 "RepairGroups", .instantiable "RepairGroups" 7, .methodLink "RepairGroupsLaw" 9 yy_La_cell, .initialized "RepairGroupsLaw", .static yy_La_cell, .methodLink "RepairGroupsLaw" 15 yy_RG_init]
set_option maxRecDepth 100000 in
theorem wB_18_t : ∀ w ∈ wB_18, w ∈ lw_tbl := by
  intro w hw
  rw [show wB_18 = ([34, 533, 522, 523, 537, 541, 545, 549, 553, 557, 561, 565, 569, 358, 43, 44, 356, 35, 357, 45] : List Nat).filterMap (fun i => lw_tbl[i]?) by decide +kernel] at hw
  obtain ⟨i, -, hi⟩ := List.mem_filterMap.mp hw
  exact List.mem_of_getElem? hi
def wB_19 : List Cond := [.instanceMethod yy_RG_init, .classLink "RepairGroupsLaw" 18 "RepairGroupsModel", .instantiable "RepairGroupsModel" 18, .methodLink "RepairGroupsLaw" 20 yy_Mo_init, .instanceMethod yy_Mo_init, .constantLong "RepairGroupsLaw" 21 (4294967295), .methodLink "RepairGroupsLaw" 23 yy_RG_put, .instanceMethod yy_RG_put, .selects "RepairGroups" yy_RG_put yy_RG_put, .methodLink "RepairGroupsLaw" 27 yy_Mo_put, .instanceMethod yy_Mo_put, .selects "RepairGroupsModel" yy_Mo_put yy_Mo_put, .methodLink "RepairGroupsLaw" 28 yy_RG_fetch, .instanceMethod yy_RG_fetch, .selects "RepairGroups" yy_RG_fetch yy_RG_fetch, .methodLink "RepairGroupsLaw" 32 yy_Mo_fetch, .instanceMethod yy_Mo_fetch, .selects "RepairGroupsModel" yy_Mo_fetch yy_Mo_fetch, .methodLink "RepairGroupsLaw" 33 yy_RG_fetched, .instanceMethod yy_RG_fetched]
set_option maxRecDepth 100000 in
theorem wB_19_t : ∀ w ∈ wB_19, w ∈ lw_tbl := by
  intro w hw
  rw [show wB_19 = ([46, 359, 360, 361, 362, 570, 153, 154, 155, 432, 433, 434, 207, 208, 209, 460, 461, 462, 273, 274] : List Nat).filterMap (fun i => lw_tbl[i]?) by decide +kernel] at hw
  obtain ⟨i, -, hi⟩ := List.mem_filterMap.mp hw
  exact List.mem_of_getElem? hi
def wB_20 : List Cond := [.selects "RepairGroups" yy_RG_fetched yy_RG_fetched, .methodLink "RepairGroupsLaw" 37 yy_Mo_fetched, .instanceMethod yy_Mo_fetched, .selects "RepairGroupsModel" yy_Mo_fetched yy_Mo_fetched, .methodLink "RepairGroupsLaw" 38 yy_RG_fail, .instanceMethod yy_RG_fail, .selects "RepairGroups" yy_RG_fail yy_RG_fail, .methodLink "RepairGroupsLaw" 42 yy_Mo_fail, .instanceMethod yy_Mo_fail, .selects "RepairGroupsModel" yy_Mo_fail yy_Mo_fail, .methodLink "RepairGroupsLaw" 43 yy_RG_revive, .instanceMethod yy_RG_revive, .selects "RepairGroups" yy_RG_revive yy_RG_revive, .methodLink "RepairGroupsLaw" 47 yy_Mo_revive, .instanceMethod yy_Mo_revive, .selects "RepairGroupsModel" yy_Mo_revive yy_Mo_revive, .methodLink "RepairGroupsLaw" 48 yy_RG_damage, .instanceMethod yy_RG_damage, .selects "RepairGroups" yy_RG_damage yy_RG_damage, .methodLink "RepairGroupsLaw" 52 yy_Mo_damage]
set_option maxRecDepth 100000 in
theorem wB_20_t : ∀ w ∈ wB_20, w ∈ lw_tbl := by
  intro w hw
  rw [show wB_20 = ([275, 505, 506, 507, 277, 278, 279, 509, 510, 511, 288, 289, 290, 513, 514, 515, 292, 293, 294, 517] : List Nat).filterMap (fun i => lw_tbl[i]?) by decide +kernel] at hw
  obtain ⟨i, -, hi⟩ := List.mem_filterMap.mp hw
  exact List.mem_of_getElem? hi
def wB_21 : List Cond := [.instanceMethod yy_Mo_damage, .selects "RepairGroupsModel" yy_Mo_damage yy_Mo_damage, .methodLink "RepairGroupsLaw" 53 yy_RG_repair, .instanceMethod yy_RG_repair, .selects "RepairGroups" yy_RG_repair yy_RG_repair, .methodLink "RepairGroupsLaw" 56 yy_Mo_repair, .methodLink "RepairGroupsLaw" 57 yy_RG_mend, .instanceMethod yy_RG_mend, .selects "RepairGroups" yy_RG_mend yy_RG_mend, .methodLink "RepairGroupsLaw" 60 yy_Mo_mend, .instanceMethod yy_Mo_mend, .selects "RepairGroupsModel" yy_Mo_mend yy_Mo_mend, .methodLink "RepairGroupsLaw" 61 yy_RG_scrub, .instanceMethod yy_RG_scrub, .selects "RepairGroups" yy_RG_scrub yy_RG_scrub, .methodLink "RepairGroupsLaw" 64 yy_Mo_scrub, .instanceMethod yy_Mo_scrub, .selects "RepairGroupsModel" yy_Mo_scrub yy_Mo_scrub, .methodLink "RepairGroupsLaw" 65 yy_RG_cost, .instanceMethod yy_RG_cost]
set_option maxRecDepth 100000 in
theorem wB_21_t : ∀ w ∈ wB_21, w ∈ lw_tbl := by
  intro w hw
  rw [show wB_21 = ([518, 519, 300, 301, 302, 521, 308, 309, 310, 525, 526, 527, 320, 321, 322, 534, 535, 536, 324, 325] : List Nat).filterMap (fun i => lw_tbl[i]?) by decide +kernel] at hw
  obtain ⟨i, -, hi⟩ := List.mem_filterMap.mp hw
  exact List.mem_of_getElem? hi
def wB_22 : List Cond := [.selects "RepairGroups" yy_RG_cost yy_RG_cost, .methodLink "RepairGroupsLaw" 68 yy_Mo_cost, .instanceMethod yy_Mo_cost, .selects "RepairGroupsModel" yy_Mo_cost yy_Mo_cost, .methodLink "RepairGroupsLaw" 69 yy_RG_rank, .instanceMethod yy_RG_rank, .selects "RepairGroups" yy_RG_rank yy_RG_rank, .methodLink "RepairGroupsLaw" 72 yy_Mo_rank, .instanceMethod yy_Mo_rank, .selects "RepairGroupsModel" yy_Mo_rank yy_Mo_rank, .methodLink "RepairGroupsLaw" 73 yy_RG_lost, .instanceMethod yy_RG_lost, .selects "RepairGroups" yy_RG_lost yy_RG_lost, .methodLink "RepairGroupsLaw" 76 yy_Mo_lost, .instanceMethod yy_Mo_lost, .selects "RepairGroupsModel" yy_Mo_lost yy_Mo_lost, .methodLink "RepairGroupsLaw" 77 yy_RG_content, .instanceMethod yy_RG_content, .selects "RepairGroups" yy_RG_content yy_RG_content, .methodLink "RepairGroupsLaw" 81 yy_Mo_content]
set_option maxRecDepth 100000 in
theorem wB_22_t : ∀ w ∈ wB_22, w ∈ lw_tbl := by
  intro w hw
  rw [show wB_22 = ([326, 538, 539, 540, 328, 329, 330, 542, 543, 544, 332, 333, 334, 546, 547, 548, 336, 337, 338, 550] : List Nat).filterMap (fun i => lw_tbl[i]?) by decide +kernel] at hw
  obtain ⟨i, -, hi⟩ := List.mem_filterMap.mp hw
  exact List.mem_of_getElem? hi
def wB_23 : List Cond := [.instanceMethod yy_Mo_content, .selects "RepairGroupsModel" yy_Mo_content yy_Mo_content, .methodLink "RepairGroupsLaw" 82 yy_RG_node, .instanceMethod yy_RG_node, .selects "RepairGroups" yy_RG_node yy_RG_node, .methodLink "RepairGroupsLaw" 85 yy_Mo_node, .instanceMethod yy_Mo_node, .selects "RepairGroupsModel" yy_Mo_node yy_Mo_node, .methodLink "RepairGroupsLaw" 86 yy_RG_up, .instanceMethod yy_RG_up, .selects "RepairGroups" yy_RG_up yy_RG_up, .methodLink "RepairGroupsLaw" 89 yy_Mo_up, .instanceMethod yy_Mo_up, .selects "RepairGroupsModel" yy_Mo_up yy_Mo_up, .methodLink "RepairGroupsLaw" 90 yy_RG_count, .instanceMethod yy_RG_count, .selects "RepairGroups" yy_RG_count yy_RG_count, .methodLink "RepairGroupsLaw" 93 yy_Mo_count, .instanceMethod yy_Mo_count, .selects "RepairGroupsModel" yy_Mo_count yy_Mo_count]
set_option maxRecDepth 100000 in
theorem wB_23_t : ∀ w ∈ wB_23, w ∈ lw_tbl := by
  intro w hw
  rw [show wB_23 = ([551, 552, 340, 341, 342, 554, 555, 556, 344, 345, 346, 558, 559, 560, 348, 349, 350, 562, 563, 564] : List Nat).filterMap (fun i => lw_tbl[i]?) by decide +kernel] at hw
  obtain ⟨i, -, hi⟩ := List.mem_filterMap.mp hw
  exact List.mem_of_getElem? hi
def wB_24 : List Cond := [.methodLink "RepairGroupsLaw" 94 yy_RG_size, .instanceMethod yy_RG_size, .selects "RepairGroups" yy_RG_size yy_RG_size, .methodLink "RepairGroupsLaw" 98 yy_Mo_size, .instanceMethod yy_Mo_size, .selects "RepairGroupsModel" yy_Mo_size yy_Mo_size, .code yy_In_bitCount bb_In_bitCount 1 (some .int), .constant "java/lang/Integer" 265 (1431655765), .constant "java/lang/Integer" 266 (858993459), .constant "java/lang/Integer" 267 (252645135)]
set_option maxRecDepth 100000 in
theorem wB_24_t : ∀ w ∈ wB_24, w ∈ lw_tbl := by
  intro w hw
  rw [show wB_24 = ([352, 353, 354, 566, 567, 568, 256, 257, 258, 259] : List Nat).filterMap (fun i => lw_tbl[i]?) by decide +kernel] at hw
  obtain ⟨i, -, hi⟩ := List.mem_filterMap.mp hw
  exact List.mem_of_getElem? hi
set_option maxRecDepth 100000 in
theorem wA_app : wA = wB_0 ++ (wB_1 ++ (wB_2 ++ (wB_3 ++ (wB_4 ++ (wB_5 ++ (wB_6 ++ (wB_7 ++ (wB_8 ++ (wB_9 ++ (wB_10 ++ (wB_11 ++ (wB_12 ++ (wB_13 ++ (wB_14 ++ (wB_15 ++ (wB_16 ++ (wB_17 ++ (wB_18 ++ (wB_19 ++ (wB_20 ++ (wB_21 ++ (wB_22 ++ (wB_23 ++ (wB_24)))))))))))))))))))))))) := rfl
theorem wA_tbl : ∀ w ∈ wA, w ∈ lw_tbl := by
  rw [wA_app]
  exact List.forall_mem_append.mpr ⟨wB_0_t, List.forall_mem_append.mpr ⟨wB_1_t, List.forall_mem_append.mpr ⟨wB_2_t, List.forall_mem_append.mpr ⟨wB_3_t, List.forall_mem_append.mpr ⟨wB_4_t, List.forall_mem_append.mpr ⟨wB_5_t, List.forall_mem_append.mpr ⟨wB_6_t, List.forall_mem_append.mpr ⟨wB_7_t, List.forall_mem_append.mpr ⟨wB_8_t, List.forall_mem_append.mpr ⟨wB_9_t, List.forall_mem_append.mpr ⟨wB_10_t, List.forall_mem_append.mpr ⟨wB_11_t, List.forall_mem_append.mpr ⟨wB_12_t, List.forall_mem_append.mpr ⟨wB_13_t, List.forall_mem_append.mpr ⟨wB_14_t, List.forall_mem_append.mpr ⟨wB_15_t, List.forall_mem_append.mpr ⟨wB_16_t, List.forall_mem_append.mpr ⟨wB_17_t, List.forall_mem_append.mpr ⟨wB_18_t, List.forall_mem_append.mpr ⟨wB_19_t, List.forall_mem_append.mpr ⟨wB_20_t, List.forall_mem_append.mpr ⟨wB_21_t, List.forall_mem_append.mpr ⟨wB_22_t, List.forall_mem_append.mpr ⟨wB_23_t, wB_24_t⟩⟩⟩⟩⟩⟩⟩⟩⟩⟩⟩⟩⟩⟩⟩⟩⟩⟩⟩⟩⟩⟩⟩⟩
set_option maxRecDepth 100000 in
theorem nW_ix : nW = ([95, 81, 83, 231, 164] : List Nat).filterMap (fun i => lw_tbl[i]?) := by decide +kernel
theorem nW_tbl : ∀ w ∈ nW, w ∈ lw_tbl := by
  intro w hw
  rw [nW_ix] at hw
  obtain ⟨i, -, hi⟩ := List.mem_filterMap.mp hw
  exact List.mem_of_getElem? hi
set_option maxRecDepth 100000 in
theorem aO_tbl : Cond.arrayOver (.object "RepairGroups$Stripe") ∈ lw_tbl := List.mem_of_getElem? (i := 107) (by decide +kernel)
