set_option maxRecDepth 100000 in
def wA : List Cond := [
  .laysFinal "RepairGroups" "RepairGroups" "code" "LRepairGroups$Code;",
  .laysFinal "RepairGroups" "RepairGroups" "span" "LRepairGroups$Span;",
  .laysFinal "RepairGroups" "RepairGroups" "stripes" "[LRepairGroups$Stripe;",
  .laysFinal "RepairGroups" "RepairGroups" "nodeUp" "[Z",
  .laysFinal "RepairGroups" "RepairGroups" "counters" "[I",
  .lays "RepairGroups" "RepairGroups" "latestFetched" "J",
  .lays "RepairGroups" "RepairGroups" "rebuilt" "J",
  .laysFinal "RepairGroups$Code" "RepairGroups$Code" "shards" "I",
  .laysFinal "RepairGroups$Code" "RepairGroups$Code" "rows" "[J",
  .laysFinal "RepairGroups$Code" "RepairGroups$Code" "grouped" "Z",
  .laysFinal "RepairGroups$Span" "RepairGroups$Span" "rows" "[J",
  .laysFinal "RepairGroups$Span" "RepairGroups$Span" "values" "[J",
  .laysFinal "RepairGroups$Stripe" "RepairGroups$Stripe" "firstNode" "I",
  .laysFinal "RepairGroups$Stripe" "RepairGroups$Stripe" "all" "I",
  .laysFinal "RepairGroups$Stripe" "RepairGroups$Stripe" "written" "[J",
  .laysFinal "RepairGroups$Stripe" "RepairGroups$Stripe" "flipped" "[J",
  .lays "RepairGroups$Stripe" "RepairGroups$Stripe" "there" "I",
  .lays "RepairGroupsModel" "RepairGroupsModel" "kind" "I",
  .lays "RepairGroupsModel" "RepairGroupsModel" "n" "I",
  .lays "RepairGroupsModel" "RepairGroupsModel" "rows" "[I",
  .lays "RepairGroupsModel" "RepairGroupsModel" "data" "[J",
  .lays "RepairGroupsModel" "RepairGroupsModel" "there" "[Z",
  .lays "RepairGroupsModel" "RepairGroupsModel" "flips" "[J",
  .lays "RepairGroupsModel" "RepairGroupsModel" "down" "[Z",
  .lays "RepairGroupsModel" "RepairGroupsModel" "reads" "I",
  .lays "RepairGroupsModel" "RepairGroupsModel" "writes" "I",
  .lays "RepairGroupsModel" "RepairGroupsModel" "crossings" "I",
  .lays "RepairGroupsModel" "RepairGroupsModel" "plans" "I",
  .lays "RepairGroupsModel" "RepairGroupsModel" "latest" "J",
  .lays "RepairGroupsModel" "RepairGroupsModel" "planSize" "I",
  .lays "RepairGroupsModel" "RepairGroupsModel" "plan" "[I",
  .lays "RepairGroupsModel" "RepairGroupsModel" "taken" "I",
  .lays "RepairGroupsModel" "RepairGroupsModel" "basis" "[I",
  .lays "RepairGroupsModel" "RepairGroupsModel" "pivot" "[I",
  .lays "RepairGroupsModel" "RepairGroupsModel" "row" "[I",
  .code yy_RG_init bb_RG_init 3 none,
  .methodLink "RepairGroups" 1 objectInit,
  .instanceMethod objectInit,
  .code objectInit ⟨#[0xb1]⟩ 1 none,
  .classLink "RepairGroups" 7 "RepairGroups$Code",
  .instantiable "RepairGroups$Code" 3,
  .initialized "RepairGroups$Code",
  .methodLink "RepairGroups" 9 yy_Co_init,
  .instanceMethod yy_Co_init,
  .fieldLink "RepairGroups" 12 "RepairGroups" "code" "LRepairGroups$Code;",
  .classLink "RepairGroups" 18 "RepairGroups$Span",
  .instantiable "RepairGroups$Span" 2,
  .initialized "RepairGroups$Span",
  .instanceMethod yy_Sp_init,
  .fieldLink "RepairGroups" 21 "RepairGroups" "span" "LRepairGroups$Span;",
  .classLink "RepairGroups" 25 "RepairGroups$Stripe",
  .fieldLink "RepairGroups" 27 "RepairGroups" "stripes" "[LRepairGroups$Stripe;",
  .instantiable "RepairGroups$Stripe" 5,
  .initialized "RepairGroups$Stripe",
  .methodLink "RepairGroups" 35 yy_Sq_init,
  .instanceMethod yy_Sq_init,
  .arrayClass .boolean,
  .fieldLink "RepairGroups" 38 "RepairGroups" "nodeUp" "[Z",
  .arrayClass .int,
  .fieldLink "RepairGroups" 42 "RepairGroups" "counters" "[I",
  .code yy_RG_put bb_RG_put 7 (some .int),
  .methodLink "RepairGroups" 46 yy_RG_isStripe,
  .initialized "RepairGroups",
  .static yy_RG_isStripe,
  .methodLink "RepairGroups" 50 yy_Sq_isThere,
  .instanceMethod yy_Sq_isThere,
  .selects "RepairGroups$Stripe" yy_Sq_isThere yy_Sq_isThere,
  .methodLink "RepairGroups" 53 yy_RG_readShard,
  .instanceMethod yy_RG_readShard,
  .selects "RepairGroups" yy_RG_readShard yy_RG_readShard,
  .methodLink "RepairGroups" 57 yy_Sq_held,
  .instanceMethod yy_Sq_held,
  .selects "RepairGroups$Stripe" yy_Sq_held yy_Sq_held,
  .methodLink "RepairGroups" 61 yy_RG_updateCoded,
  .instanceMethod yy_RG_updateCoded,
  .selects "RepairGroups" yy_RG_updateCoded yy_RG_updateCoded,
  .methodLink "RepairGroups" 65 yy_RG_writeShard,
  .instanceMethod yy_RG_writeShard,
  .selects "RepairGroups" yy_RG_writeShard yy_RG_writeShard,
  .code yy_RG_fetch bb_RG_fetch 5 (some .int),
  .methodLink "RepairGroups" 69 yy_RG_isShard,
  .instanceMethod yy_RG_isShard,
  .selects "RepairGroups" yy_RG_isShard yy_RG_isShard,
  .fieldLink "RepairGroups" 73 "RepairGroups" "latestFetched" "J",
  .methodLink "RepairGroups" 77 yy_RG_followPlans,
  .instanceMethod yy_RG_followPlans,
  .selects "RepairGroups" yy_RG_followPlans yy_RG_followPlans,
  .fieldLink "RepairGroups" 81 "RepairGroups" "rebuilt" "J",
  .code yy_RG_fetched bb_RG_fetched 1 (some .long),
  .code yy_RG_fail bb_RG_fail 4 (some .int),
  .methodLink "RepairGroups" 84 yy_RG_isNode,
  .static yy_RG_isNode,
  .methodLink "RepairGroups" 87 yy_RG_dropShardsOn,
  .instanceMethod yy_RG_dropShardsOn,
  .selects "RepairGroups" yy_RG_dropShardsOn yy_RG_dropShardsOn,
  .code yy_RG_revive bb_RG_revive 2 (some .boolean),
  .code yy_RG_damage bb_RG_damage 4 (some .boolean),
  .methodLink "RepairGroups" 90 yy_Sq_flip,
  .instanceMethod yy_Sq_flip,
  .selects "RepairGroups$Stripe" yy_Sq_flip yy_Sq_flip,
  .code yy_RG_repair bb_RG_repair 4 (some .int),
  .methodLink "RepairGroups" 93 yy_Sq_nodeOf,
  .instanceMethod yy_Sq_nodeOf,
  .selects "RepairGroups$Stripe" yy_Sq_nodeOf yy_Sq_nodeOf,
  .methodLink "RepairGroups" 97 yy_RG_rebuild,
  .instanceMethod yy_RG_rebuild,
  .selects "RepairGroups" yy_RG_rebuild yy_RG_rebuild,
  .code yy_RG_mend bb_RG_mend 6 (some .int),
  .methodLink "RepairGroups" 100 yy_RG_nextToMend,
  .instanceMethod yy_RG_nextToMend,
  .selects "RepairGroups" yy_RG_nextToMend yy_RG_nextToMend,
  .code yy_RG_scrub bb_RG_scrub 5 (some .int),
  .code yy_RG_cost bb_RG_cost 4 (some .int),
  .methodLink "RepairGroups" 104 yy_RG_choosePlan,
  .instanceMethod yy_RG_choosePlan,
  .selects "RepairGroups" yy_RG_choosePlan yy_RG_choosePlan,
  .methodLink "RepairGroups" 107 yy_In_bitCount,
  .initialized "java/lang/Integer",
  .static yy_In_bitCount,
  .code yy_RG_rank bb_RG_rank 2 (some .int),
  .methodLink "RepairGroups" 112 yy_RG_independentShards,
  .instanceMethod yy_RG_independentShards,
  .selects "RepairGroups" yy_RG_independentShards yy_RG_independentShards,
  .code yy_RG_lost bb_RG_lost 2 (some .int),
  .methodLink "RepairGroups" 115 yy_Sq_lostMask,
  .instanceMethod yy_Sq_lostMask,
  .selects "RepairGroups$Stripe" yy_Sq_lostMask yy_Sq_lostMask,
  .code yy_RG_content bb_RG_content 3 (some .long),
  .code yy_RG_node bb_RG_node 3 (some .int),
  .code yy_RG_up bb_RG_up 2 (some .boolean),
  .code yy_RG_count bb_RG_count 2 (some .int),
  .code yy_RG_size bb_RG_size 1 (some .int),
  .code yy_RG_isStripe bb_RG_isStripe 1 (some .boolean),
  .code yy_RG_isShard bb_RG_isShard 3 (some .boolean),
  .code yy_RG_isNode bb_RG_isNode 1 (some .boolean),
  .code yy_RG_readShard bb_RG_readShard 3 (some .boolean),
  .methodLink "RepairGroups" 119 yy_Sq_isDamaged,
  .instanceMethod yy_Sq_isDamaged,
  .selects "RepairGroups$Stripe" yy_Sq_isDamaged yy_Sq_isDamaged,
  .methodLink "RepairGroups" 122 yy_Sq_lose,
  .instanceMethod yy_Sq_lose,
  .selects "RepairGroups$Stripe" yy_Sq_lose yy_Sq_lose,
  .code yy_RG_readShardFor bb_RG_readShardFor 5 (some .boolean),
  .code yy_RG_writeShard bb_RG_writeShard 5 none,
  .methodLink "RepairGroups" 125 yy_Sq_store,
  .instanceMethod yy_Sq_store,
  .selects "RepairGroups$Stripe" yy_Sq_store yy_Sq_store,
  .code yy_RG_updateCoded bb_RG_updateCoded 8 (some .int),
  .methodLink "RepairGroups" 133 yy_By_at,
  .initialized "RepairGroups$Bytes",
  .static yy_By_at,
  .methodLink "RepairGroups" 139 yy_RG_readShardFor,
  .instanceMethod yy_RG_readShardFor,
  .selects "RepairGroups" yy_RG_readShardFor yy_RG_readShardFor,
  .methodLink "RepairGroups" 143 yy_By_times,
  .static yy_By_times,
  .code yy_RG_dropShardsOn bb_RG_dropShardsOn 5 (some .int),
  .code yy_RG_rebuild bb_RG_rebuild 4 (some .int),
  .code yy_RG_followPlans bb_RG_followPlans 5 (some .int),
  .methodLink "RepairGroups" 147 yy_RG_readPlan,
  .instanceMethod yy_RG_readPlan,
  .selects "RepairGroups" yy_RG_readPlan yy_RG_readPlan,
  .methodLink "RepairGroups" 150 yy_RG_decode,
  .instanceMethod yy_RG_decode,
  .selects "RepairGroups" yy_RG_decode yy_RG_decode,
  .code yy_RG_readPlan bb_RG_readPlan 5 (some .boolean),
  .methodLink "RepairGroups" 154 yy_RG_isIn,
  .static yy_RG_isIn,
  .code yy_RG_decode bb_RG_decode 5 (some .long),
  .methodLink "RepairGroups" 157 yy_Sp_clear,
  .instanceMethod yy_Sp_clear,
  .selects "RepairGroups$Span" yy_Sp_clear yy_Sp_clear,
  .methodLink "RepairGroups" 160 yy_Sp_take,
  .instanceMethod yy_Sp_take,
  .selects "RepairGroups$Span" yy_Sp_take yy_Sp_take,
  .methodLink "RepairGroups" 164 yy_Sp_valueOf,
  .instanceMethod yy_Sp_valueOf,
  .selects "RepairGroups$Span" yy_Sp_valueOf yy_Sp_valueOf,
  .code yy_RG_choosePlan bb_RG_choosePlan 4 (some .int),
  .methodLink "RepairGroups" 168 yy_RG_localPlan,
  .instanceMethod yy_RG_localPlan,
  .selects "RepairGroups" yy_RG_localPlan yy_RG_localPlan,
  .methodLink "RepairGroups" 171 yy_RG_globalPlan,
  .static yy_RG_globalPlan,
  .code yy_RG_localPlan bb_RG_localPlan 4 (some .int),
  .methodLink "RepairGroups" 174 yy_Co_groupOf,
  .instanceMethod yy_Co_groupOf,
  .selects "RepairGroups$Code" yy_Co_groupOf yy_Co_groupOf,
  .code yy_RG_globalPlan bb_RG_globalPlan 1 (some .int),
  .code yy_RG_independentShards bb_RG_independentShards 4 (some .int),
  .code yy_RG_nextToMend bb_RG_nextToMend 4 (some .int),
  .methodLink "RepairGroups" 177 yy_RG_canBeWritten,
  .instanceMethod yy_RG_canBeWritten,
  .selects "RepairGroups" yy_RG_canBeWritten yy_RG_canBeWritten,
  .code yy_RG_canBeWritten bb_RG_canBeWritten 3 (some .boolean),
  .code yy_RG_isIn bb_RG_isIn 2 (some .boolean),
  .code yy_By_at bb_By_at 3 (some .int),
  .code yy_By_placed bb_By_placed 2 (some .long),
  .code yy_By_times bb_By_times 12 (some .long),
  .constantLong "RepairGroups$Bytes" 9 (72340172838076673),
  .constantLong "RepairGroups$Bytes" 11 (9187201950435737471),
  .constantLong "RepairGroups$Bytes" 13 (29),
  .code yy_By_inverse bb_By_inverse 4 (some .int),
  .methodLink "RepairGroups$Bytes" 15 yy_By_times,
  .code yy_Co_init bb_Co_init 3 none,
  .methodLink "RepairGroups$Code" 3 objectInit,
  .fieldLink "RepairGroups$Code" 11 "RepairGroups$Code" "shards" "I",
  .fieldLink "RepairGroups$Code" 15 "RepairGroups$Code" "grouped" "Z",
  .arrayClass .long,
  .fieldLink "RepairGroups$Code" 19 "RepairGroups$Code" "rows" "[J",
  .methodLink "RepairGroups$Code" 23 yy_Co_groupedRow,
  .static yy_Co_groupedRow,
  .methodLink "RepairGroups$Code" 27 yy_Co_plainRow,
  .static yy_Co_plainRow,
  .code yy_Co_plainRow bb_Co_plainRow 1 (some .long),
  .methodLink "RepairGroups$Code" 30 yy_By_placed,
  .static yy_By_placed,
  .methodLink "RepairGroups$Code" 36 yy_Co_inversesRow,
  .static yy_Co_inversesRow,
  .code yy_Co_groupedRow bb_Co_groupedRow 1 (some .long),
  .constantLong "RepairGroups$Code" 39 (65793),
  .constantLong "RepairGroups$Code" 41 (1103823372288),
  .code yy_Co_inversesRow bb_Co_inversesRow 4 (some .long),
  .methodLink "RepairGroups$Code" 43 yy_By_inverse,
  .static yy_By_inverse,
  .code yy_Co_groupOf bb_Co_groupOf 2 (some .int),
  .code yy_Sp_init bb_Sp_init 1 none,
  .methodLink "RepairGroups$Span" 3 objectInit,
  .fieldLink "RepairGroups$Span" 9 "RepairGroups$Span" "rows" "[J",
  .fieldLink "RepairGroups$Span" 15 "RepairGroups$Span" "values" "[J",
  .code yy_Sp_clear bb_Sp_clear 2 none,
  .code yy_Sp_take bb_Sp_take 12 (some .boolean),
  .methodLink "RepairGroups$Span" 18 yy_By_at,
  .methodLink "RepairGroups$Span" 24 yy_By_inverse,
  .methodLink "RepairGroups$Span" 28 yy_By_times,
  .code yy_Sp_valueOf bb_Sp_valueOf 9 (some .long),
  .code yy_Sq_init bb_Sq_init 3 none,
  .methodLink "RepairGroups$Stripe" 3 objectInit,
  .fieldLink "RepairGroups$Stripe" 11 "RepairGroups$Stripe" "firstNode" "I",
  .fieldLink "RepairGroups$Stripe" 15 "RepairGroups$Stripe" "all" "I",
  .fieldLink "RepairGroups$Stripe" 18 "RepairGroups$Stripe" "written" "[J",
  .fieldLink "RepairGroups$Stripe" 22 "RepairGroups$Stripe" "flipped" "[J",
  .fieldLink "RepairGroups$Stripe" 25 "RepairGroups$Stripe" "there" "I",
  .code yy_Sq_nodeOf bb_Sq_nodeOf 2 (some .int),
  .code yy_Sq_isThere bb_Sq_isThere 2 (some .boolean),
  .code yy_Sq_lostMask bb_Sq_lostMask 1 (some .int),
  .code yy_Sq_isDamaged bb_Sq_isDamaged 2 (some .boolean),
  .code yy_Sq_held bb_Sq_held 2 (some .long),
  .code yy_Sq_flip bb_Sq_flip 3 none,
  .code yy_Sq_lose bb_Sq_lose 2 none,
  .code yy_Sq_store bb_Sq_store 4 none,
  .code yy_Mo_init bb_Mo_init 4 none,
  .methodLink "RepairGroupsModel" 1 objectInit,
  .fieldLink "RepairGroupsModel" 7 "RepairGroupsModel" "rows" "[I",
  .fieldLink "RepairGroupsModel" 13 "RepairGroupsModel" "data" "[J",
  .fieldLink "RepairGroupsModel" 17 "RepairGroupsModel" "there" "[Z",
  .fieldLink "RepairGroupsModel" 21 "RepairGroupsModel" "flips" "[J",
  .fieldLink "RepairGroupsModel" 24 "RepairGroupsModel" "down" "[Z",
  .fieldLink "RepairGroupsModel" 27 "RepairGroupsModel" "plan" "[I",
  .fieldLink "RepairGroupsModel" 30 "RepairGroupsModel" "basis" "[I",
  .fieldLink "RepairGroupsModel" 33 "RepairGroupsModel" "pivot" "[I",
  .fieldLink "RepairGroupsModel" 36 "RepairGroupsModel" "row" "[I",
  .fieldLink "RepairGroupsModel" 39 "RepairGroupsModel" "kind" "I",
  .fieldLink "RepairGroupsModel" 43 "RepairGroupsModel" "n" "I",
  .methodLink "RepairGroupsModel" 46 yy_Mo_coefficient,
  .initialized "RepairGroupsModel",
  .instanceMethod yy_Mo_coefficient,
  .selects "RepairGroupsModel" yy_Mo_coefficient yy_Mo_coefficient,
  .code yy_Mo_product bb_Mo_product 5 (some .int),
  .code yy_Mo_inverse bb_Mo_inverse 4 (some .int),
  .methodLink "RepairGroupsModel" 50 yy_Mo_product,
  .instanceMethod yy_Mo_product,
  .selects "RepairGroupsModel" yy_Mo_product yy_Mo_product,
  .code yy_Mo_coefficient bb_Mo_coefficient 3 (some .int),
  .methodLink "RepairGroupsModel" 53 yy_Mo_inverse,
  .instanceMethod yy_Mo_inverse,
  .selects "RepairGroupsModel" yy_Mo_inverse yy_Mo_inverse,
  .code yy_Mo_byteOf bb_Mo_byteOf 4 (some .int),
  .constantLong "RepairGroupsModel" 57 (255),
  .code yy_Mo_value bb_Mo_value 9 (some .long),
  .methodLink "RepairGroupsModel" 59 yy_Mo_byteOf,
  .instanceMethod yy_Mo_byteOf,
  .selects "RepairGroupsModel" yy_Mo_byteOf yy_Mo_byteOf,
  .code yy_Mo_noStripe bb_Mo_noStripe 2 (some .boolean),
  .code yy_Mo_noShard bb_Mo_noShard 3 (some .boolean),
  .methodLink "RepairGroupsModel" 63 yy_Mo_noStripe,
  .instanceMethod yy_Mo_noStripe,
  .selects "RepairGroupsModel" yy_Mo_noStripe yy_Mo_noStripe,
  .code yy_Mo_place bb_Mo_place 3 (some .int),
  .code yy_Mo_cell bb_Mo_cell 3 (some .int),
  .code yy_Mo_rejected bb_Mo_rejected 4 (some .boolean),
  .fieldLink "RepairGroupsModel" 67 "RepairGroupsModel" "reads" "I",
  .methodLink "RepairGroupsModel" 70 yy_Mo_cell,
  .instanceMethod yy_Mo_cell,
  .selects "RepairGroupsModel" yy_Mo_cell yy_Mo_cell,
  .code yy_Mo_rejectedFor bb_Mo_rejectedFor 4 (some .boolean),
  .fieldLink "RepairGroupsModel" 73 "RepairGroupsModel" "crossings" "I",
  .methodLink "RepairGroupsModel" 76 yy_Mo_place,
  .instanceMethod yy_Mo_place,
  .selects "RepairGroupsModel" yy_Mo_place yy_Mo_place,
  .methodLink "RepairGroupsModel" 79 yy_Mo_rejected,
  .instanceMethod yy_Mo_rejected,
  .selects "RepairGroupsModel" yy_Mo_rejected yy_Mo_rejected,
  .code yy_Mo_written bb_Mo_written 3 none,
  .fieldLink "RepairGroupsModel" 83 "RepairGroupsModel" "writes" "I",
  .code yy_Mo_grouped bb_Mo_grouped 3 (some .boolean),
  .methodLink "RepairGroupsModel" 86 yy_Mo_group,
  .instanceMethod yy_Mo_group,
  .selects "RepairGroupsModel" yy_Mo_group yy_Mo_group,
  .code yy_Mo_group bb_Mo_group 2 (some .int),
  .code yy_Mo_local bb_Mo_local 6 (some .boolean),
  .methodLink "RepairGroupsModel" 89 yy_Mo_grouped,
  .instanceMethod yy_Mo_grouped,
  .selects "RepairGroupsModel" yy_Mo_grouped yy_Mo_grouped,
  .code yy_Mo_adds bb_Mo_adds 5 (some .boolean),
  .fieldLink "RepairGroupsModel" 92 "RepairGroupsModel" "taken" "I",
  .code yy_Mo_goOver bb_Mo_goOver 3 none,
  .fieldLink "RepairGroupsModel" 95 "RepairGroupsModel" "planSize" "I",
  .methodLink "RepairGroupsModel" 98 yy_Mo_adds,
  .instanceMethod yy_Mo_adds,
  .selects "RepairGroupsModel" yy_Mo_adds yy_Mo_adds,
  .code yy_Mo_choose bb_Mo_choose 4 (some .boolean),
  .methodLink "RepairGroupsModel" 101 yy_Mo_local,
  .instanceMethod yy_Mo_local,
  .selects "RepairGroupsModel" yy_Mo_local yy_Mo_local,
  .methodLink "RepairGroupsModel" 104 yy_Mo_goOver,
  .instanceMethod yy_Mo_goOver,
  .selects "RepairGroupsModel" yy_Mo_goOver yy_Mo_goOver,
  .code yy_Mo_follow bb_Mo_follow 7 (some .int),
  .methodLink "RepairGroupsModel" 108 yy_Mo_choose,
  .instanceMethod yy_Mo_choose,
  .selects "RepairGroupsModel" yy_Mo_choose yy_Mo_choose,
  .fieldLink "RepairGroupsModel" 111 "RepairGroupsModel" "plans" "I",
  .methodLink "RepairGroupsModel" 114 yy_Mo_rejectedFor,
  .instanceMethod yy_Mo_rejectedFor,
  .selects "RepairGroupsModel" yy_Mo_rejectedFor yy_Mo_rejectedFor,
  .code yy_Mo_put bb_Mo_put 7 (some .int),
  .methodLink "RepairGroupsModel" 118 yy_Mo_written,
  .instanceMethod yy_Mo_written,
  .selects "RepairGroupsModel" yy_Mo_written yy_Mo_written,
  .code yy_Mo_fetch bb_Mo_fetch 5 (some .int),
  .methodLink "RepairGroupsModel" 122 yy_Mo_noShard,
  .instanceMethod yy_Mo_noShard,
  .selects "RepairGroupsModel" yy_Mo_noShard yy_Mo_noShard,
  .methodLink "RepairGroupsModel" 125 yy_Mo_follow,
  .instanceMethod yy_Mo_follow,
  .selects "RepairGroupsModel" yy_Mo_follow yy_Mo_follow,
  .methodLink "RepairGroupsModel" 128 yy_Mo_value,
  .instanceMethod yy_Mo_value,
  .selects "RepairGroupsModel" yy_Mo_value yy_Mo_value,
  .fieldLink "RepairGroupsModel" 132 "RepairGroupsModel" "latest" "J",
  .code yy_Mo_fetched bb_Mo_fetched 1 (some .long),
  .code yy_Mo_fail bb_Mo_fail 5 (some .int),
  .code yy_Mo_revive bb_Mo_revive 2 (some .boolean),
  .code yy_Mo_damage bb_Mo_damage 4 (some .boolean),
  .code yy_Mo_repair bb_Mo_repair 4 (some .int),
  .code yy_Mo_next bb_Mo_next 5 (some .int),
  .code yy_Mo_mend bb_Mo_mend 5 (some .int),
  .methodLink "RepairGroupsModel" 136 yy_Mo_next,
  .instanceMethod yy_Mo_next,
  .selects "RepairGroupsModel" yy_Mo_next yy_Mo_next,
  .methodLink "RepairGroupsModel" 139 yy_Mo_repair,
  .instanceMethod yy_Mo_repair,
  .selects "RepairGroupsModel" yy_Mo_repair yy_Mo_repair,
  .code yy_Mo_scrub bb_Mo_scrub 4 (some .int),
  .code yy_Mo_cost bb_Mo_cost 3 (some .int),
  .code yy_Mo_rank bb_Mo_rank 2 (some .int),
  .code yy_Mo_lost bb_Mo_lost 4 (some .int),
  .code yy_Mo_content bb_Mo_content 3 (some .long),
  .code yy_Mo_node bb_Mo_node 3 (some .int),
  .code yy_Mo_up bb_Mo_up 2 (some .boolean),
  .code yy_Mo_count bb_Mo_count 2 (some .int),
  .code yy_Mo_size bb_Mo_size 1 (some .int),
  .code yy_La_cell bb_La_cell 2 (some .int),
  .classLink "RepairGroupsLaw" 7 "RepairGroups",
  .instantiable "RepairGroups" 7,
  .methodLink "RepairGroupsLaw" 9 yy_La_cell,
  .initialized "RepairGroupsLaw",
  .static yy_La_cell,
  .methodLink "RepairGroupsLaw" 15 yy_RG_init,
  .instanceMethod yy_RG_init,
  .classLink "RepairGroupsLaw" 18 "RepairGroupsModel",
  .instantiable "RepairGroupsModel" 18,
  .methodLink "RepairGroupsLaw" 20 yy_Mo_init,
  .instanceMethod yy_Mo_init,
  .constantLong "RepairGroupsLaw" 21 (4294967295),
  .methodLink "RepairGroupsLaw" 23 yy_RG_put,
  .instanceMethod yy_RG_put,
  .selects "RepairGroups" yy_RG_put yy_RG_put,
  .methodLink "RepairGroupsLaw" 27 yy_Mo_put,
  .instanceMethod yy_Mo_put,
  .selects "RepairGroupsModel" yy_Mo_put yy_Mo_put,
  .methodLink "RepairGroupsLaw" 28 yy_RG_fetch,
  .instanceMethod yy_RG_fetch,
  .selects "RepairGroups" yy_RG_fetch yy_RG_fetch,
  .methodLink "RepairGroupsLaw" 32 yy_Mo_fetch,
  .instanceMethod yy_Mo_fetch,
  .selects "RepairGroupsModel" yy_Mo_fetch yy_Mo_fetch,
  .methodLink "RepairGroupsLaw" 33 yy_RG_fetched,
  .instanceMethod yy_RG_fetched,
  .selects "RepairGroups" yy_RG_fetched yy_RG_fetched,
  .methodLink "RepairGroupsLaw" 37 yy_Mo_fetched,
  .instanceMethod yy_Mo_fetched,
  .selects "RepairGroupsModel" yy_Mo_fetched yy_Mo_fetched,
  .methodLink "RepairGroupsLaw" 38 yy_RG_fail,
  .instanceMethod yy_RG_fail,
  .selects "RepairGroups" yy_RG_fail yy_RG_fail,
  .methodLink "RepairGroupsLaw" 42 yy_Mo_fail,
  .instanceMethod yy_Mo_fail,
  .selects "RepairGroupsModel" yy_Mo_fail yy_Mo_fail,
  .methodLink "RepairGroupsLaw" 43 yy_RG_revive,
  .instanceMethod yy_RG_revive,
  .selects "RepairGroups" yy_RG_revive yy_RG_revive,
  .methodLink "RepairGroupsLaw" 47 yy_Mo_revive,
  .instanceMethod yy_Mo_revive,
  .selects "RepairGroupsModel" yy_Mo_revive yy_Mo_revive,
  .methodLink "RepairGroupsLaw" 48 yy_RG_damage,
  .instanceMethod yy_RG_damage,
  .selects "RepairGroups" yy_RG_damage yy_RG_damage,
  .methodLink "RepairGroupsLaw" 52 yy_Mo_damage,
  .instanceMethod yy_Mo_damage,
  .selects "RepairGroupsModel" yy_Mo_damage yy_Mo_damage,
  .methodLink "RepairGroupsLaw" 53 yy_RG_repair,
  .instanceMethod yy_RG_repair,
  .selects "RepairGroups" yy_RG_repair yy_RG_repair,
  .methodLink "RepairGroupsLaw" 56 yy_Mo_repair,
  .methodLink "RepairGroupsLaw" 57 yy_RG_mend,
  .instanceMethod yy_RG_mend,
  .selects "RepairGroups" yy_RG_mend yy_RG_mend,
  .methodLink "RepairGroupsLaw" 60 yy_Mo_mend,
  .instanceMethod yy_Mo_mend,
  .selects "RepairGroupsModel" yy_Mo_mend yy_Mo_mend,
  .methodLink "RepairGroupsLaw" 61 yy_RG_scrub,
  .instanceMethod yy_RG_scrub,
  .selects "RepairGroups" yy_RG_scrub yy_RG_scrub,
  .methodLink "RepairGroupsLaw" 64 yy_Mo_scrub,
  .instanceMethod yy_Mo_scrub,
  .selects "RepairGroupsModel" yy_Mo_scrub yy_Mo_scrub,
  .methodLink "RepairGroupsLaw" 65 yy_RG_cost,
  .instanceMethod yy_RG_cost,
  .selects "RepairGroups" yy_RG_cost yy_RG_cost,
  .methodLink "RepairGroupsLaw" 68 yy_Mo_cost,
  .instanceMethod yy_Mo_cost,
  .selects "RepairGroupsModel" yy_Mo_cost yy_Mo_cost,
  .methodLink "RepairGroupsLaw" 69 yy_RG_rank,
  .instanceMethod yy_RG_rank,
  .selects "RepairGroups" yy_RG_rank yy_RG_rank,
  .methodLink "RepairGroupsLaw" 72 yy_Mo_rank,
  .instanceMethod yy_Mo_rank,
  .selects "RepairGroupsModel" yy_Mo_rank yy_Mo_rank,
  .methodLink "RepairGroupsLaw" 73 yy_RG_lost,
  .instanceMethod yy_RG_lost,
  .selects "RepairGroups" yy_RG_lost yy_RG_lost,
  .methodLink "RepairGroupsLaw" 76 yy_Mo_lost,
  .instanceMethod yy_Mo_lost,
  .selects "RepairGroupsModel" yy_Mo_lost yy_Mo_lost,
  .methodLink "RepairGroupsLaw" 77 yy_RG_content,
  .instanceMethod yy_RG_content,
  .selects "RepairGroups" yy_RG_content yy_RG_content,
  .methodLink "RepairGroupsLaw" 81 yy_Mo_content,
  .instanceMethod yy_Mo_content,
  .selects "RepairGroupsModel" yy_Mo_content yy_Mo_content,
  .methodLink "RepairGroupsLaw" 82 yy_RG_node,
  .instanceMethod yy_RG_node,
  .selects "RepairGroups" yy_RG_node yy_RG_node,
  .methodLink "RepairGroupsLaw" 85 yy_Mo_node,
  .instanceMethod yy_Mo_node,
  .selects "RepairGroupsModel" yy_Mo_node yy_Mo_node,
  .methodLink "RepairGroupsLaw" 86 yy_RG_up,
  .instanceMethod yy_RG_up,
  .selects "RepairGroups" yy_RG_up yy_RG_up,
  .methodLink "RepairGroupsLaw" 89 yy_Mo_up,
  .instanceMethod yy_Mo_up,
  .selects "RepairGroupsModel" yy_Mo_up yy_Mo_up,
  .methodLink "RepairGroupsLaw" 90 yy_RG_count,
  .instanceMethod yy_RG_count,
  .selects "RepairGroups" yy_RG_count yy_RG_count,
  .methodLink "RepairGroupsLaw" 93 yy_Mo_count,
  .instanceMethod yy_Mo_count,
  .selects "RepairGroupsModel" yy_Mo_count yy_Mo_count,
  .methodLink "RepairGroupsLaw" 94 yy_RG_size,
  .instanceMethod yy_RG_size,
  .selects "RepairGroups" yy_RG_size yy_RG_size,
  .methodLink "RepairGroupsLaw" 98 yy_Mo_size,
  .instanceMethod yy_Mo_size,
  .selects "RepairGroupsModel" yy_Mo_size yy_Mo_size,
  .code yy_In_bitCount bb_In_bitCount 1 (some .int),
  .constant "java/lang/Integer" 265 (1431655765),
  .constant "java/lang/Integer" 266 (858993459),
  .constant "java/lang/Integer" 267 (252645135)]
theorem wa_0 : (Cond.laysFinal "RepairGroups" "RepairGroups" "code" "LRepairGroups$Code;" : Cond) ∈ wA := List.mem_of_getElem? (i := 0) rfl
theorem wa_1 : (Cond.laysFinal "RepairGroups" "RepairGroups" "span" "LRepairGroups$Span;" : Cond) ∈ wA := List.mem_of_getElem? (i := 1) rfl
theorem wa_2 : (Cond.laysFinal "RepairGroups" "RepairGroups" "stripes" "[LRepairGroups$Stripe;" : Cond) ∈ wA := List.mem_of_getElem? (i := 2) rfl
theorem wa_3 : (Cond.laysFinal "RepairGroups" "RepairGroups" "nodeUp" "[Z" : Cond) ∈ wA := List.mem_of_getElem? (i := 3) rfl
theorem wa_4 : (Cond.laysFinal "RepairGroups" "RepairGroups" "counters" "[I" : Cond) ∈ wA := List.mem_of_getElem? (i := 4) rfl
theorem wa_5 : (Cond.lays "RepairGroups" "RepairGroups" "latestFetched" "J" : Cond) ∈ wA := List.mem_of_getElem? (i := 5) rfl
theorem wa_6 : (Cond.lays "RepairGroups" "RepairGroups" "rebuilt" "J" : Cond) ∈ wA := List.mem_of_getElem? (i := 6) rfl
theorem wa_7 : (Cond.laysFinal "RepairGroups$Code" "RepairGroups$Code" "shards" "I" : Cond) ∈ wA := List.mem_of_getElem? (i := 7) rfl
theorem wa_8 : (Cond.laysFinal "RepairGroups$Code" "RepairGroups$Code" "rows" "[J" : Cond) ∈ wA := List.mem_of_getElem? (i := 8) rfl
theorem wa_9 : (Cond.laysFinal "RepairGroups$Code" "RepairGroups$Code" "grouped" "Z" : Cond) ∈ wA := List.mem_of_getElem? (i := 9) rfl
theorem wa_10 : (Cond.laysFinal "RepairGroups$Span" "RepairGroups$Span" "rows" "[J" : Cond) ∈ wA := List.mem_of_getElem? (i := 10) rfl
theorem wa_11 : (Cond.laysFinal "RepairGroups$Span" "RepairGroups$Span" "values" "[J" : Cond) ∈ wA := List.mem_of_getElem? (i := 11) rfl
theorem wa_12 : (Cond.laysFinal "RepairGroups$Stripe" "RepairGroups$Stripe" "firstNode" "I" : Cond) ∈ wA := List.mem_of_getElem? (i := 12) rfl
theorem wa_13 : (Cond.laysFinal "RepairGroups$Stripe" "RepairGroups$Stripe" "all" "I" : Cond) ∈ wA := List.mem_of_getElem? (i := 13) rfl
theorem wa_14 : (Cond.laysFinal "RepairGroups$Stripe" "RepairGroups$Stripe" "written" "[J" : Cond) ∈ wA := List.mem_of_getElem? (i := 14) rfl
theorem wa_15 : (Cond.laysFinal "RepairGroups$Stripe" "RepairGroups$Stripe" "flipped" "[J" : Cond) ∈ wA := List.mem_of_getElem? (i := 15) rfl
theorem wa_16 : (Cond.lays "RepairGroups$Stripe" "RepairGroups$Stripe" "there" "I" : Cond) ∈ wA := List.mem_of_getElem? (i := 16) rfl
theorem wa_17 : (Cond.lays "RepairGroupsModel" "RepairGroupsModel" "kind" "I" : Cond) ∈ wA := List.mem_of_getElem? (i := 17) rfl
theorem wa_18 : (Cond.lays "RepairGroupsModel" "RepairGroupsModel" "n" "I" : Cond) ∈ wA := List.mem_of_getElem? (i := 18) rfl
theorem wa_19 : (Cond.lays "RepairGroupsModel" "RepairGroupsModel" "rows" "[I" : Cond) ∈ wA := List.mem_of_getElem? (i := 19) rfl
theorem wa_20 : (Cond.lays "RepairGroupsModel" "RepairGroupsModel" "data" "[J" : Cond) ∈ wA := List.mem_of_getElem? (i := 20) rfl
theorem wa_21 : (Cond.lays "RepairGroupsModel" "RepairGroupsModel" "there" "[Z" : Cond) ∈ wA := List.mem_of_getElem? (i := 21) rfl
theorem wa_22 : (Cond.lays "RepairGroupsModel" "RepairGroupsModel" "flips" "[J" : Cond) ∈ wA := List.mem_of_getElem? (i := 22) rfl
theorem wa_23 : (Cond.lays "RepairGroupsModel" "RepairGroupsModel" "down" "[Z" : Cond) ∈ wA := List.mem_of_getElem? (i := 23) rfl
theorem wa_24 : (Cond.lays "RepairGroupsModel" "RepairGroupsModel" "reads" "I" : Cond) ∈ wA := List.mem_of_getElem? (i := 24) rfl
theorem wa_25 : (Cond.lays "RepairGroupsModel" "RepairGroupsModel" "writes" "I" : Cond) ∈ wA := List.mem_of_getElem? (i := 25) rfl
theorem wa_26 : (Cond.lays "RepairGroupsModel" "RepairGroupsModel" "crossings" "I" : Cond) ∈ wA := List.mem_of_getElem? (i := 26) rfl
theorem wa_27 : (Cond.lays "RepairGroupsModel" "RepairGroupsModel" "plans" "I" : Cond) ∈ wA := List.mem_of_getElem? (i := 27) rfl
theorem wa_28 : (Cond.lays "RepairGroupsModel" "RepairGroupsModel" "latest" "J" : Cond) ∈ wA := List.mem_of_getElem? (i := 28) rfl
theorem wa_29 : (Cond.lays "RepairGroupsModel" "RepairGroupsModel" "planSize" "I" : Cond) ∈ wA := List.mem_of_getElem? (i := 29) rfl
theorem wa_30 : (Cond.lays "RepairGroupsModel" "RepairGroupsModel" "plan" "[I" : Cond) ∈ wA := List.mem_of_getElem? (i := 30) rfl
theorem wa_31 : (Cond.lays "RepairGroupsModel" "RepairGroupsModel" "taken" "I" : Cond) ∈ wA := List.mem_of_getElem? (i := 31) rfl
theorem wa_32 : (Cond.lays "RepairGroupsModel" "RepairGroupsModel" "basis" "[I" : Cond) ∈ wA := List.mem_of_getElem? (i := 32) rfl
theorem wa_33 : (Cond.lays "RepairGroupsModel" "RepairGroupsModel" "pivot" "[I" : Cond) ∈ wA := List.mem_of_getElem? (i := 33) rfl
theorem wa_34 : (Cond.lays "RepairGroupsModel" "RepairGroupsModel" "row" "[I" : Cond) ∈ wA := List.mem_of_getElem? (i := 34) rfl
theorem wa_35 : (Cond.code yy_RG_init bb_RG_init 3 none : Cond) ∈ wA := List.mem_of_getElem? (i := 35) rfl
theorem wa_36 : (Cond.methodLink "RepairGroups" 1 objectInit : Cond) ∈ wA := List.mem_of_getElem? (i := 36) rfl
theorem wa_37 : (Cond.instanceMethod objectInit : Cond) ∈ wA := List.mem_of_getElem? (i := 37) rfl
theorem wa_38 : (Cond.code objectInit ⟨#[0xb1]⟩ 1 none : Cond) ∈ wA := List.mem_of_getElem? (i := 38) rfl
theorem wa_39 : (Cond.classLink "RepairGroups" 7 "RepairGroups$Code" : Cond) ∈ wA := List.mem_of_getElem? (i := 39) rfl
theorem wa_40 : (Cond.instantiable "RepairGroups$Code" 3 : Cond) ∈ wA := List.mem_of_getElem? (i := 40) rfl
theorem wa_41 : (Cond.initialized "RepairGroups$Code" : Cond) ∈ wA := List.mem_of_getElem? (i := 41) rfl
theorem wa_42 : (Cond.methodLink "RepairGroups" 9 yy_Co_init : Cond) ∈ wA := List.mem_of_getElem? (i := 42) rfl
theorem wa_43 : (Cond.instanceMethod yy_Co_init : Cond) ∈ wA := List.mem_of_getElem? (i := 43) rfl
theorem wa_44 : (Cond.fieldLink "RepairGroups" 12 "RepairGroups" "code" "LRepairGroups$Code;" : Cond) ∈ wA := List.mem_of_getElem? (i := 44) rfl
theorem wa_45 : (Cond.classLink "RepairGroups" 18 "RepairGroups$Span" : Cond) ∈ wA := List.mem_of_getElem? (i := 45) rfl
theorem wa_46 : (Cond.instantiable "RepairGroups$Span" 2 : Cond) ∈ wA := List.mem_of_getElem? (i := 46) rfl
theorem wa_47 : (Cond.initialized "RepairGroups$Span" : Cond) ∈ wA := List.mem_of_getElem? (i := 47) rfl
theorem wa_48 : (Cond.instanceMethod yy_Sp_init : Cond) ∈ wA := List.mem_of_getElem? (i := 48) rfl
theorem wa_49 : (Cond.fieldLink "RepairGroups" 21 "RepairGroups" "span" "LRepairGroups$Span;" : Cond) ∈ wA := List.mem_of_getElem? (i := 49) rfl
theorem wa_50 : (Cond.classLink "RepairGroups" 25 "RepairGroups$Stripe" : Cond) ∈ wA := List.mem_of_getElem? (i := 50) rfl
theorem wa_51 : (Cond.fieldLink "RepairGroups" 27 "RepairGroups" "stripes" "[LRepairGroups$Stripe;" : Cond) ∈ wA := List.mem_of_getElem? (i := 51) rfl
theorem wa_52 : (Cond.instantiable "RepairGroups$Stripe" 5 : Cond) ∈ wA := List.mem_of_getElem? (i := 52) rfl
theorem wa_53 : (Cond.initialized "RepairGroups$Stripe" : Cond) ∈ wA := List.mem_of_getElem? (i := 53) rfl
theorem wa_54 : (Cond.methodLink "RepairGroups" 35 yy_Sq_init : Cond) ∈ wA := List.mem_of_getElem? (i := 54) rfl
theorem wa_55 : (Cond.instanceMethod yy_Sq_init : Cond) ∈ wA := List.mem_of_getElem? (i := 55) rfl
theorem wa_56 : (Cond.arrayClass .boolean : Cond) ∈ wA := List.mem_of_getElem? (i := 56) rfl
theorem wa_57 : (Cond.fieldLink "RepairGroups" 38 "RepairGroups" "nodeUp" "[Z" : Cond) ∈ wA := List.mem_of_getElem? (i := 57) rfl
theorem wa_58 : (Cond.arrayClass .int : Cond) ∈ wA := List.mem_of_getElem? (i := 58) rfl
theorem wa_59 : (Cond.fieldLink "RepairGroups" 42 "RepairGroups" "counters" "[I" : Cond) ∈ wA := List.mem_of_getElem? (i := 59) rfl
theorem wa_60 : (Cond.code yy_RG_put bb_RG_put 7 (some .int) : Cond) ∈ wA := List.mem_of_getElem? (i := 60) rfl
theorem wa_61 : (Cond.methodLink "RepairGroups" 46 yy_RG_isStripe : Cond) ∈ wA := List.mem_of_getElem? (i := 61) rfl
theorem wa_62 : (Cond.initialized "RepairGroups" : Cond) ∈ wA := List.mem_of_getElem? (i := 62) rfl
theorem wa_63 : (Cond.static yy_RG_isStripe : Cond) ∈ wA := List.mem_of_getElem? (i := 63) rfl
theorem wa_64 : (Cond.methodLink "RepairGroups" 50 yy_Sq_isThere : Cond) ∈ wA := List.mem_of_getElem? (i := 64) rfl
theorem wa_65 : (Cond.instanceMethod yy_Sq_isThere : Cond) ∈ wA := List.mem_of_getElem? (i := 65) rfl
theorem wa_66 : (Cond.selects "RepairGroups$Stripe" yy_Sq_isThere yy_Sq_isThere : Cond) ∈ wA := List.mem_of_getElem? (i := 66) rfl
theorem wa_67 : (Cond.methodLink "RepairGroups" 53 yy_RG_readShard : Cond) ∈ wA := List.mem_of_getElem? (i := 67) rfl
theorem wa_68 : (Cond.instanceMethod yy_RG_readShard : Cond) ∈ wA := List.mem_of_getElem? (i := 68) rfl
theorem wa_69 : (Cond.selects "RepairGroups" yy_RG_readShard yy_RG_readShard : Cond) ∈ wA := List.mem_of_getElem? (i := 69) rfl
theorem wa_70 : (Cond.methodLink "RepairGroups" 57 yy_Sq_held : Cond) ∈ wA := List.mem_of_getElem? (i := 70) rfl
theorem wa_71 : (Cond.instanceMethod yy_Sq_held : Cond) ∈ wA := List.mem_of_getElem? (i := 71) rfl
theorem wa_72 : (Cond.selects "RepairGroups$Stripe" yy_Sq_held yy_Sq_held : Cond) ∈ wA := List.mem_of_getElem? (i := 72) rfl
theorem wa_73 : (Cond.methodLink "RepairGroups" 61 yy_RG_updateCoded : Cond) ∈ wA := List.mem_of_getElem? (i := 73) rfl
theorem wa_74 : (Cond.instanceMethod yy_RG_updateCoded : Cond) ∈ wA := List.mem_of_getElem? (i := 74) rfl
theorem wa_75 : (Cond.selects "RepairGroups" yy_RG_updateCoded yy_RG_updateCoded : Cond) ∈ wA := List.mem_of_getElem? (i := 75) rfl
theorem wa_76 : (Cond.methodLink "RepairGroups" 65 yy_RG_writeShard : Cond) ∈ wA := List.mem_of_getElem? (i := 76) rfl
theorem wa_77 : (Cond.instanceMethod yy_RG_writeShard : Cond) ∈ wA := List.mem_of_getElem? (i := 77) rfl
theorem wa_78 : (Cond.selects "RepairGroups" yy_RG_writeShard yy_RG_writeShard : Cond) ∈ wA := List.mem_of_getElem? (i := 78) rfl
theorem wa_79 : (Cond.code yy_RG_fetch bb_RG_fetch 5 (some .int) : Cond) ∈ wA := List.mem_of_getElem? (i := 79) rfl
theorem wa_80 : (Cond.methodLink "RepairGroups" 69 yy_RG_isShard : Cond) ∈ wA := List.mem_of_getElem? (i := 80) rfl
theorem wa_81 : (Cond.instanceMethod yy_RG_isShard : Cond) ∈ wA := List.mem_of_getElem? (i := 81) rfl
theorem wa_82 : (Cond.selects "RepairGroups" yy_RG_isShard yy_RG_isShard : Cond) ∈ wA := List.mem_of_getElem? (i := 82) rfl
theorem wa_83 : (Cond.fieldLink "RepairGroups" 73 "RepairGroups" "latestFetched" "J" : Cond) ∈ wA := List.mem_of_getElem? (i := 83) rfl
theorem wa_84 : (Cond.methodLink "RepairGroups" 77 yy_RG_followPlans : Cond) ∈ wA := List.mem_of_getElem? (i := 84) rfl
theorem wa_85 : (Cond.instanceMethod yy_RG_followPlans : Cond) ∈ wA := List.mem_of_getElem? (i := 85) rfl
theorem wa_86 : (Cond.selects "RepairGroups" yy_RG_followPlans yy_RG_followPlans : Cond) ∈ wA := List.mem_of_getElem? (i := 86) rfl
theorem wa_87 : (Cond.fieldLink "RepairGroups" 81 "RepairGroups" "rebuilt" "J" : Cond) ∈ wA := List.mem_of_getElem? (i := 87) rfl
theorem wa_88 : (Cond.code yy_RG_fetched bb_RG_fetched 1 (some .long) : Cond) ∈ wA := List.mem_of_getElem? (i := 88) rfl
theorem wa_89 : (Cond.code yy_RG_fail bb_RG_fail 4 (some .int) : Cond) ∈ wA := List.mem_of_getElem? (i := 89) rfl
theorem wa_90 : (Cond.methodLink "RepairGroups" 84 yy_RG_isNode : Cond) ∈ wA := List.mem_of_getElem? (i := 90) rfl
theorem wa_91 : (Cond.static yy_RG_isNode : Cond) ∈ wA := List.mem_of_getElem? (i := 91) rfl
theorem wa_92 : (Cond.methodLink "RepairGroups" 87 yy_RG_dropShardsOn : Cond) ∈ wA := List.mem_of_getElem? (i := 92) rfl
theorem wa_93 : (Cond.instanceMethod yy_RG_dropShardsOn : Cond) ∈ wA := List.mem_of_getElem? (i := 93) rfl
theorem wa_94 : (Cond.selects "RepairGroups" yy_RG_dropShardsOn yy_RG_dropShardsOn : Cond) ∈ wA := List.mem_of_getElem? (i := 94) rfl
theorem wa_95 : (Cond.code yy_RG_revive bb_RG_revive 2 (some .boolean) : Cond) ∈ wA := List.mem_of_getElem? (i := 95) rfl
theorem wa_96 : (Cond.code yy_RG_damage bb_RG_damage 4 (some .boolean) : Cond) ∈ wA := List.mem_of_getElem? (i := 96) rfl
theorem wa_97 : (Cond.methodLink "RepairGroups" 90 yy_Sq_flip : Cond) ∈ wA := List.mem_of_getElem? (i := 97) rfl
theorem wa_98 : (Cond.instanceMethod yy_Sq_flip : Cond) ∈ wA := List.mem_of_getElem? (i := 98) rfl
theorem wa_99 : (Cond.selects "RepairGroups$Stripe" yy_Sq_flip yy_Sq_flip : Cond) ∈ wA := List.mem_of_getElem? (i := 99) rfl
theorem wa_100 : (Cond.code yy_RG_repair bb_RG_repair 4 (some .int) : Cond) ∈ wA := List.mem_of_getElem? (i := 100) rfl
theorem wa_101 : (Cond.methodLink "RepairGroups" 93 yy_Sq_nodeOf : Cond) ∈ wA := List.mem_of_getElem? (i := 101) rfl
theorem wa_102 : (Cond.instanceMethod yy_Sq_nodeOf : Cond) ∈ wA := List.mem_of_getElem? (i := 102) rfl
theorem wa_103 : (Cond.selects "RepairGroups$Stripe" yy_Sq_nodeOf yy_Sq_nodeOf : Cond) ∈ wA := List.mem_of_getElem? (i := 103) rfl
theorem wa_104 : (Cond.methodLink "RepairGroups" 97 yy_RG_rebuild : Cond) ∈ wA := List.mem_of_getElem? (i := 104) rfl
theorem wa_105 : (Cond.instanceMethod yy_RG_rebuild : Cond) ∈ wA := List.mem_of_getElem? (i := 105) rfl
theorem wa_106 : (Cond.selects "RepairGroups" yy_RG_rebuild yy_RG_rebuild : Cond) ∈ wA := List.mem_of_getElem? (i := 106) rfl
theorem wa_107 : (Cond.code yy_RG_mend bb_RG_mend 6 (some .int) : Cond) ∈ wA := List.mem_of_getElem? (i := 107) rfl
theorem wa_108 : (Cond.methodLink "RepairGroups" 100 yy_RG_nextToMend : Cond) ∈ wA := List.mem_of_getElem? (i := 108) rfl
theorem wa_109 : (Cond.instanceMethod yy_RG_nextToMend : Cond) ∈ wA := List.mem_of_getElem? (i := 109) rfl
theorem wa_110 : (Cond.selects "RepairGroups" yy_RG_nextToMend yy_RG_nextToMend : Cond) ∈ wA := List.mem_of_getElem? (i := 110) rfl
theorem wa_111 : (Cond.code yy_RG_scrub bb_RG_scrub 5 (some .int) : Cond) ∈ wA := List.mem_of_getElem? (i := 111) rfl
theorem wa_112 : (Cond.code yy_RG_cost bb_RG_cost 4 (some .int) : Cond) ∈ wA := List.mem_of_getElem? (i := 112) rfl
theorem wa_113 : (Cond.methodLink "RepairGroups" 104 yy_RG_choosePlan : Cond) ∈ wA := List.mem_of_getElem? (i := 113) rfl
theorem wa_114 : (Cond.instanceMethod yy_RG_choosePlan : Cond) ∈ wA := List.mem_of_getElem? (i := 114) rfl
theorem wa_115 : (Cond.selects "RepairGroups" yy_RG_choosePlan yy_RG_choosePlan : Cond) ∈ wA := List.mem_of_getElem? (i := 115) rfl
theorem wa_116 : (Cond.methodLink "RepairGroups" 107 yy_In_bitCount : Cond) ∈ wA := List.mem_of_getElem? (i := 116) rfl
theorem wa_117 : (Cond.initialized "java/lang/Integer" : Cond) ∈ wA := List.mem_of_getElem? (i := 117) rfl
theorem wa_118 : (Cond.static yy_In_bitCount : Cond) ∈ wA := List.mem_of_getElem? (i := 118) rfl
theorem wa_119 : (Cond.code yy_RG_rank bb_RG_rank 2 (some .int) : Cond) ∈ wA := List.mem_of_getElem? (i := 119) rfl
theorem wa_120 : (Cond.methodLink "RepairGroups" 112 yy_RG_independentShards : Cond) ∈ wA := List.mem_of_getElem? (i := 120) rfl
theorem wa_121 : (Cond.instanceMethod yy_RG_independentShards : Cond) ∈ wA := List.mem_of_getElem? (i := 121) rfl
theorem wa_122 : (Cond.selects "RepairGroups" yy_RG_independentShards yy_RG_independentShards : Cond) ∈ wA := List.mem_of_getElem? (i := 122) rfl
theorem wa_123 : (Cond.code yy_RG_lost bb_RG_lost 2 (some .int) : Cond) ∈ wA := List.mem_of_getElem? (i := 123) rfl
theorem wa_124 : (Cond.methodLink "RepairGroups" 115 yy_Sq_lostMask : Cond) ∈ wA := List.mem_of_getElem? (i := 124) rfl
theorem wa_125 : (Cond.instanceMethod yy_Sq_lostMask : Cond) ∈ wA := List.mem_of_getElem? (i := 125) rfl
theorem wa_126 : (Cond.selects "RepairGroups$Stripe" yy_Sq_lostMask yy_Sq_lostMask : Cond) ∈ wA := List.mem_of_getElem? (i := 126) rfl
theorem wa_127 : (Cond.code yy_RG_content bb_RG_content 3 (some .long) : Cond) ∈ wA := List.mem_of_getElem? (i := 127) rfl
theorem wa_128 : (Cond.code yy_RG_node bb_RG_node 3 (some .int) : Cond) ∈ wA := List.mem_of_getElem? (i := 128) rfl
theorem wa_129 : (Cond.code yy_RG_up bb_RG_up 2 (some .boolean) : Cond) ∈ wA := List.mem_of_getElem? (i := 129) rfl
theorem wa_130 : (Cond.code yy_RG_count bb_RG_count 2 (some .int) : Cond) ∈ wA := List.mem_of_getElem? (i := 130) rfl
theorem wa_131 : (Cond.code yy_RG_size bb_RG_size 1 (some .int) : Cond) ∈ wA := List.mem_of_getElem? (i := 131) rfl
theorem wa_132 : (Cond.code yy_RG_isStripe bb_RG_isStripe 1 (some .boolean) : Cond) ∈ wA := List.mem_of_getElem? (i := 132) rfl
theorem wa_133 : (Cond.code yy_RG_isShard bb_RG_isShard 3 (some .boolean) : Cond) ∈ wA := List.mem_of_getElem? (i := 133) rfl
theorem wa_134 : (Cond.code yy_RG_isNode bb_RG_isNode 1 (some .boolean) : Cond) ∈ wA := List.mem_of_getElem? (i := 134) rfl
theorem wa_135 : (Cond.code yy_RG_readShard bb_RG_readShard 3 (some .boolean) : Cond) ∈ wA := List.mem_of_getElem? (i := 135) rfl
theorem wa_136 : (Cond.methodLink "RepairGroups" 119 yy_Sq_isDamaged : Cond) ∈ wA := List.mem_of_getElem? (i := 136) rfl
theorem wa_137 : (Cond.instanceMethod yy_Sq_isDamaged : Cond) ∈ wA := List.mem_of_getElem? (i := 137) rfl
theorem wa_138 : (Cond.selects "RepairGroups$Stripe" yy_Sq_isDamaged yy_Sq_isDamaged : Cond) ∈ wA := List.mem_of_getElem? (i := 138) rfl
theorem wa_139 : (Cond.methodLink "RepairGroups" 122 yy_Sq_lose : Cond) ∈ wA := List.mem_of_getElem? (i := 139) rfl
theorem wa_140 : (Cond.instanceMethod yy_Sq_lose : Cond) ∈ wA := List.mem_of_getElem? (i := 140) rfl
theorem wa_141 : (Cond.selects "RepairGroups$Stripe" yy_Sq_lose yy_Sq_lose : Cond) ∈ wA := List.mem_of_getElem? (i := 141) rfl
theorem wa_142 : (Cond.code yy_RG_readShardFor bb_RG_readShardFor 5 (some .boolean) : Cond) ∈ wA := List.mem_of_getElem? (i := 142) rfl
theorem wa_143 : (Cond.code yy_RG_writeShard bb_RG_writeShard 5 none : Cond) ∈ wA := List.mem_of_getElem? (i := 143) rfl
theorem wa_144 : (Cond.methodLink "RepairGroups" 125 yy_Sq_store : Cond) ∈ wA := List.mem_of_getElem? (i := 144) rfl
theorem wa_145 : (Cond.instanceMethod yy_Sq_store : Cond) ∈ wA := List.mem_of_getElem? (i := 145) rfl
theorem wa_146 : (Cond.selects "RepairGroups$Stripe" yy_Sq_store yy_Sq_store : Cond) ∈ wA := List.mem_of_getElem? (i := 146) rfl
theorem wa_147 : (Cond.code yy_RG_updateCoded bb_RG_updateCoded 8 (some .int) : Cond) ∈ wA := List.mem_of_getElem? (i := 147) rfl
theorem wa_148 : (Cond.methodLink "RepairGroups" 133 yy_By_at : Cond) ∈ wA := List.mem_of_getElem? (i := 148) rfl
theorem wa_149 : (Cond.initialized "RepairGroups$Bytes" : Cond) ∈ wA := List.mem_of_getElem? (i := 149) rfl
theorem wa_150 : (Cond.static yy_By_at : Cond) ∈ wA := List.mem_of_getElem? (i := 150) rfl
theorem wa_151 : (Cond.methodLink "RepairGroups" 139 yy_RG_readShardFor : Cond) ∈ wA := List.mem_of_getElem? (i := 151) rfl
theorem wa_152 : (Cond.instanceMethod yy_RG_readShardFor : Cond) ∈ wA := List.mem_of_getElem? (i := 152) rfl
theorem wa_153 : (Cond.selects "RepairGroups" yy_RG_readShardFor yy_RG_readShardFor : Cond) ∈ wA := List.mem_of_getElem? (i := 153) rfl
theorem wa_154 : (Cond.methodLink "RepairGroups" 143 yy_By_times : Cond) ∈ wA := List.mem_of_getElem? (i := 154) rfl
theorem wa_155 : (Cond.static yy_By_times : Cond) ∈ wA := List.mem_of_getElem? (i := 155) rfl
theorem wa_156 : (Cond.code yy_RG_dropShardsOn bb_RG_dropShardsOn 5 (some .int) : Cond) ∈ wA := List.mem_of_getElem? (i := 156) rfl
theorem wa_157 : (Cond.code yy_RG_rebuild bb_RG_rebuild 4 (some .int) : Cond) ∈ wA := List.mem_of_getElem? (i := 157) rfl
theorem wa_158 : (Cond.code yy_RG_followPlans bb_RG_followPlans 5 (some .int) : Cond) ∈ wA := List.mem_of_getElem? (i := 158) rfl
theorem wa_159 : (Cond.methodLink "RepairGroups" 147 yy_RG_readPlan : Cond) ∈ wA := List.mem_of_getElem? (i := 159) rfl
theorem wa_160 : (Cond.instanceMethod yy_RG_readPlan : Cond) ∈ wA := List.mem_of_getElem? (i := 160) rfl
theorem wa_161 : (Cond.selects "RepairGroups" yy_RG_readPlan yy_RG_readPlan : Cond) ∈ wA := List.mem_of_getElem? (i := 161) rfl
theorem wa_162 : (Cond.methodLink "RepairGroups" 150 yy_RG_decode : Cond) ∈ wA := List.mem_of_getElem? (i := 162) rfl
theorem wa_163 : (Cond.instanceMethod yy_RG_decode : Cond) ∈ wA := List.mem_of_getElem? (i := 163) rfl
theorem wa_164 : (Cond.selects "RepairGroups" yy_RG_decode yy_RG_decode : Cond) ∈ wA := List.mem_of_getElem? (i := 164) rfl
theorem wa_165 : (Cond.code yy_RG_readPlan bb_RG_readPlan 5 (some .boolean) : Cond) ∈ wA := List.mem_of_getElem? (i := 165) rfl
theorem wa_166 : (Cond.methodLink "RepairGroups" 154 yy_RG_isIn : Cond) ∈ wA := List.mem_of_getElem? (i := 166) rfl
theorem wa_167 : (Cond.static yy_RG_isIn : Cond) ∈ wA := List.mem_of_getElem? (i := 167) rfl
theorem wa_168 : (Cond.code yy_RG_decode bb_RG_decode 5 (some .long) : Cond) ∈ wA := List.mem_of_getElem? (i := 168) rfl
theorem wa_169 : (Cond.methodLink "RepairGroups" 157 yy_Sp_clear : Cond) ∈ wA := List.mem_of_getElem? (i := 169) rfl
theorem wa_170 : (Cond.instanceMethod yy_Sp_clear : Cond) ∈ wA := List.mem_of_getElem? (i := 170) rfl
theorem wa_171 : (Cond.selects "RepairGroups$Span" yy_Sp_clear yy_Sp_clear : Cond) ∈ wA := List.mem_of_getElem? (i := 171) rfl
theorem wa_172 : (Cond.methodLink "RepairGroups" 160 yy_Sp_take : Cond) ∈ wA := List.mem_of_getElem? (i := 172) rfl
theorem wa_173 : (Cond.instanceMethod yy_Sp_take : Cond) ∈ wA := List.mem_of_getElem? (i := 173) rfl
theorem wa_174 : (Cond.selects "RepairGroups$Span" yy_Sp_take yy_Sp_take : Cond) ∈ wA := List.mem_of_getElem? (i := 174) rfl
theorem wa_175 : (Cond.methodLink "RepairGroups" 164 yy_Sp_valueOf : Cond) ∈ wA := List.mem_of_getElem? (i := 175) rfl
theorem wa_176 : (Cond.instanceMethod yy_Sp_valueOf : Cond) ∈ wA := List.mem_of_getElem? (i := 176) rfl
theorem wa_177 : (Cond.selects "RepairGroups$Span" yy_Sp_valueOf yy_Sp_valueOf : Cond) ∈ wA := List.mem_of_getElem? (i := 177) rfl
theorem wa_178 : (Cond.code yy_RG_choosePlan bb_RG_choosePlan 4 (some .int) : Cond) ∈ wA := List.mem_of_getElem? (i := 178) rfl
theorem wa_179 : (Cond.methodLink "RepairGroups" 168 yy_RG_localPlan : Cond) ∈ wA := List.mem_of_getElem? (i := 179) rfl
theorem wa_180 : (Cond.instanceMethod yy_RG_localPlan : Cond) ∈ wA := List.mem_of_getElem? (i := 180) rfl
theorem wa_181 : (Cond.selects "RepairGroups" yy_RG_localPlan yy_RG_localPlan : Cond) ∈ wA := List.mem_of_getElem? (i := 181) rfl
theorem wa_182 : (Cond.methodLink "RepairGroups" 171 yy_RG_globalPlan : Cond) ∈ wA := List.mem_of_getElem? (i := 182) rfl
theorem wa_183 : (Cond.static yy_RG_globalPlan : Cond) ∈ wA := List.mem_of_getElem? (i := 183) rfl
theorem wa_184 : (Cond.code yy_RG_localPlan bb_RG_localPlan 4 (some .int) : Cond) ∈ wA := List.mem_of_getElem? (i := 184) rfl
theorem wa_185 : (Cond.methodLink "RepairGroups" 174 yy_Co_groupOf : Cond) ∈ wA := List.mem_of_getElem? (i := 185) rfl
theorem wa_186 : (Cond.instanceMethod yy_Co_groupOf : Cond) ∈ wA := List.mem_of_getElem? (i := 186) rfl
theorem wa_187 : (Cond.selects "RepairGroups$Code" yy_Co_groupOf yy_Co_groupOf : Cond) ∈ wA := List.mem_of_getElem? (i := 187) rfl
theorem wa_188 : (Cond.code yy_RG_globalPlan bb_RG_globalPlan 1 (some .int) : Cond) ∈ wA := List.mem_of_getElem? (i := 188) rfl
theorem wa_189 : (Cond.code yy_RG_independentShards bb_RG_independentShards 4 (some .int) : Cond) ∈ wA := List.mem_of_getElem? (i := 189) rfl
theorem wa_190 : (Cond.code yy_RG_nextToMend bb_RG_nextToMend 4 (some .int) : Cond) ∈ wA := List.mem_of_getElem? (i := 190) rfl
theorem wa_191 : (Cond.methodLink "RepairGroups" 177 yy_RG_canBeWritten : Cond) ∈ wA := List.mem_of_getElem? (i := 191) rfl
theorem wa_192 : (Cond.instanceMethod yy_RG_canBeWritten : Cond) ∈ wA := List.mem_of_getElem? (i := 192) rfl
theorem wa_193 : (Cond.selects "RepairGroups" yy_RG_canBeWritten yy_RG_canBeWritten : Cond) ∈ wA := List.mem_of_getElem? (i := 193) rfl
theorem wa_194 : (Cond.code yy_RG_canBeWritten bb_RG_canBeWritten 3 (some .boolean) : Cond) ∈ wA := List.mem_of_getElem? (i := 194) rfl
theorem wa_195 : (Cond.code yy_RG_isIn bb_RG_isIn 2 (some .boolean) : Cond) ∈ wA := List.mem_of_getElem? (i := 195) rfl
theorem wa_196 : (Cond.code yy_By_at bb_By_at 3 (some .int) : Cond) ∈ wA := List.mem_of_getElem? (i := 196) rfl
theorem wa_197 : (Cond.code yy_By_placed bb_By_placed 2 (some .long) : Cond) ∈ wA := List.mem_of_getElem? (i := 197) rfl
theorem wa_198 : (Cond.code yy_By_times bb_By_times 12 (some .long) : Cond) ∈ wA := List.mem_of_getElem? (i := 198) rfl
theorem wa_199 : (Cond.constantLong "RepairGroups$Bytes" 9 (72340172838076673) : Cond) ∈ wA := List.mem_of_getElem? (i := 199) rfl
theorem wa_200 : (Cond.constantLong "RepairGroups$Bytes" 11 (9187201950435737471) : Cond) ∈ wA := List.mem_of_getElem? (i := 200) rfl
theorem wa_201 : (Cond.constantLong "RepairGroups$Bytes" 13 (29) : Cond) ∈ wA := List.mem_of_getElem? (i := 201) rfl
theorem wa_202 : (Cond.code yy_By_inverse bb_By_inverse 4 (some .int) : Cond) ∈ wA := List.mem_of_getElem? (i := 202) rfl
theorem wa_203 : (Cond.methodLink "RepairGroups$Bytes" 15 yy_By_times : Cond) ∈ wA := List.mem_of_getElem? (i := 203) rfl
theorem wa_204 : (Cond.code yy_Co_init bb_Co_init 3 none : Cond) ∈ wA := List.mem_of_getElem? (i := 204) rfl
theorem wa_205 : (Cond.methodLink "RepairGroups$Code" 3 objectInit : Cond) ∈ wA := List.mem_of_getElem? (i := 205) rfl
theorem wa_206 : (Cond.fieldLink "RepairGroups$Code" 11 "RepairGroups$Code" "shards" "I" : Cond) ∈ wA := List.mem_of_getElem? (i := 206) rfl
theorem wa_207 : (Cond.fieldLink "RepairGroups$Code" 15 "RepairGroups$Code" "grouped" "Z" : Cond) ∈ wA := List.mem_of_getElem? (i := 207) rfl
theorem wa_208 : (Cond.arrayClass .long : Cond) ∈ wA := List.mem_of_getElem? (i := 208) rfl
theorem wa_209 : (Cond.fieldLink "RepairGroups$Code" 19 "RepairGroups$Code" "rows" "[J" : Cond) ∈ wA := List.mem_of_getElem? (i := 209) rfl
theorem wa_210 : (Cond.methodLink "RepairGroups$Code" 23 yy_Co_groupedRow : Cond) ∈ wA := List.mem_of_getElem? (i := 210) rfl
theorem wa_211 : (Cond.static yy_Co_groupedRow : Cond) ∈ wA := List.mem_of_getElem? (i := 211) rfl
theorem wa_212 : (Cond.methodLink "RepairGroups$Code" 27 yy_Co_plainRow : Cond) ∈ wA := List.mem_of_getElem? (i := 212) rfl
theorem wa_213 : (Cond.static yy_Co_plainRow : Cond) ∈ wA := List.mem_of_getElem? (i := 213) rfl
theorem wa_214 : (Cond.code yy_Co_plainRow bb_Co_plainRow 1 (some .long) : Cond) ∈ wA := List.mem_of_getElem? (i := 214) rfl
theorem wa_215 : (Cond.methodLink "RepairGroups$Code" 30 yy_By_placed : Cond) ∈ wA := List.mem_of_getElem? (i := 215) rfl
theorem wa_216 : (Cond.static yy_By_placed : Cond) ∈ wA := List.mem_of_getElem? (i := 216) rfl
theorem wa_217 : (Cond.methodLink "RepairGroups$Code" 36 yy_Co_inversesRow : Cond) ∈ wA := List.mem_of_getElem? (i := 217) rfl
theorem wa_218 : (Cond.static yy_Co_inversesRow : Cond) ∈ wA := List.mem_of_getElem? (i := 218) rfl
theorem wa_219 : (Cond.code yy_Co_groupedRow bb_Co_groupedRow 1 (some .long) : Cond) ∈ wA := List.mem_of_getElem? (i := 219) rfl
theorem wa_220 : (Cond.constantLong "RepairGroups$Code" 39 (65793) : Cond) ∈ wA := List.mem_of_getElem? (i := 220) rfl
theorem wa_221 : (Cond.constantLong "RepairGroups$Code" 41 (1103823372288) : Cond) ∈ wA := List.mem_of_getElem? (i := 221) rfl
theorem wa_222 : (Cond.code yy_Co_inversesRow bb_Co_inversesRow 4 (some .long) : Cond) ∈ wA := List.mem_of_getElem? (i := 222) rfl
theorem wa_223 : (Cond.methodLink "RepairGroups$Code" 43 yy_By_inverse : Cond) ∈ wA := List.mem_of_getElem? (i := 223) rfl
theorem wa_224 : (Cond.static yy_By_inverse : Cond) ∈ wA := List.mem_of_getElem? (i := 224) rfl
theorem wa_225 : (Cond.code yy_Co_groupOf bb_Co_groupOf 2 (some .int) : Cond) ∈ wA := List.mem_of_getElem? (i := 225) rfl
theorem wa_226 : (Cond.code yy_Sp_init bb_Sp_init 1 none : Cond) ∈ wA := List.mem_of_getElem? (i := 226) rfl
theorem wa_227 : (Cond.methodLink "RepairGroups$Span" 3 objectInit : Cond) ∈ wA := List.mem_of_getElem? (i := 227) rfl
theorem wa_228 : (Cond.fieldLink "RepairGroups$Span" 9 "RepairGroups$Span" "rows" "[J" : Cond) ∈ wA := List.mem_of_getElem? (i := 228) rfl
theorem wa_229 : (Cond.fieldLink "RepairGroups$Span" 15 "RepairGroups$Span" "values" "[J" : Cond) ∈ wA := List.mem_of_getElem? (i := 229) rfl
theorem wa_230 : (Cond.code yy_Sp_clear bb_Sp_clear 2 none : Cond) ∈ wA := List.mem_of_getElem? (i := 230) rfl
theorem wa_231 : (Cond.code yy_Sp_take bb_Sp_take 12 (some .boolean) : Cond) ∈ wA := List.mem_of_getElem? (i := 231) rfl
theorem wa_232 : (Cond.methodLink "RepairGroups$Span" 18 yy_By_at : Cond) ∈ wA := List.mem_of_getElem? (i := 232) rfl
theorem wa_233 : (Cond.methodLink "RepairGroups$Span" 24 yy_By_inverse : Cond) ∈ wA := List.mem_of_getElem? (i := 233) rfl
theorem wa_234 : (Cond.methodLink "RepairGroups$Span" 28 yy_By_times : Cond) ∈ wA := List.mem_of_getElem? (i := 234) rfl
theorem wa_235 : (Cond.code yy_Sp_valueOf bb_Sp_valueOf 9 (some .long) : Cond) ∈ wA := List.mem_of_getElem? (i := 235) rfl
theorem wa_236 : (Cond.code yy_Sq_init bb_Sq_init 3 none : Cond) ∈ wA := List.mem_of_getElem? (i := 236) rfl
theorem wa_237 : (Cond.methodLink "RepairGroups$Stripe" 3 objectInit : Cond) ∈ wA := List.mem_of_getElem? (i := 237) rfl
theorem wa_238 : (Cond.fieldLink "RepairGroups$Stripe" 11 "RepairGroups$Stripe" "firstNode" "I" : Cond) ∈ wA := List.mem_of_getElem? (i := 238) rfl
theorem wa_239 : (Cond.fieldLink "RepairGroups$Stripe" 15 "RepairGroups$Stripe" "all" "I" : Cond) ∈ wA := List.mem_of_getElem? (i := 239) rfl
theorem wa_240 : (Cond.fieldLink "RepairGroups$Stripe" 18 "RepairGroups$Stripe" "written" "[J" : Cond) ∈ wA := List.mem_of_getElem? (i := 240) rfl
theorem wa_241 : (Cond.fieldLink "RepairGroups$Stripe" 22 "RepairGroups$Stripe" "flipped" "[J" : Cond) ∈ wA := List.mem_of_getElem? (i := 241) rfl
theorem wa_242 : (Cond.fieldLink "RepairGroups$Stripe" 25 "RepairGroups$Stripe" "there" "I" : Cond) ∈ wA := List.mem_of_getElem? (i := 242) rfl
theorem wa_243 : (Cond.code yy_Sq_nodeOf bb_Sq_nodeOf 2 (some .int) : Cond) ∈ wA := List.mem_of_getElem? (i := 243) rfl
theorem wa_244 : (Cond.code yy_Sq_isThere bb_Sq_isThere 2 (some .boolean) : Cond) ∈ wA := List.mem_of_getElem? (i := 244) rfl
theorem wa_245 : (Cond.code yy_Sq_lostMask bb_Sq_lostMask 1 (some .int) : Cond) ∈ wA := List.mem_of_getElem? (i := 245) rfl
theorem wa_246 : (Cond.code yy_Sq_isDamaged bb_Sq_isDamaged 2 (some .boolean) : Cond) ∈ wA := List.mem_of_getElem? (i := 246) rfl
theorem wa_247 : (Cond.code yy_Sq_held bb_Sq_held 2 (some .long) : Cond) ∈ wA := List.mem_of_getElem? (i := 247) rfl
theorem wa_248 : (Cond.code yy_Sq_flip bb_Sq_flip 3 none : Cond) ∈ wA := List.mem_of_getElem? (i := 248) rfl
theorem wa_249 : (Cond.code yy_Sq_lose bb_Sq_lose 2 none : Cond) ∈ wA := List.mem_of_getElem? (i := 249) rfl
theorem wa_250 : (Cond.code yy_Sq_store bb_Sq_store 4 none : Cond) ∈ wA := List.mem_of_getElem? (i := 250) rfl
theorem wa_251 : (Cond.code yy_Mo_init bb_Mo_init 4 none : Cond) ∈ wA := List.mem_of_getElem? (i := 251) rfl
theorem wa_252 : (Cond.methodLink "RepairGroupsModel" 1 objectInit : Cond) ∈ wA := List.mem_of_getElem? (i := 252) rfl
theorem wa_253 : (Cond.fieldLink "RepairGroupsModel" 7 "RepairGroupsModel" "rows" "[I" : Cond) ∈ wA := List.mem_of_getElem? (i := 253) rfl
theorem wa_254 : (Cond.fieldLink "RepairGroupsModel" 13 "RepairGroupsModel" "data" "[J" : Cond) ∈ wA := List.mem_of_getElem? (i := 254) rfl
theorem wa_255 : (Cond.fieldLink "RepairGroupsModel" 17 "RepairGroupsModel" "there" "[Z" : Cond) ∈ wA := List.mem_of_getElem? (i := 255) rfl
theorem wa_256 : (Cond.fieldLink "RepairGroupsModel" 21 "RepairGroupsModel" "flips" "[J" : Cond) ∈ wA := List.mem_of_getElem? (i := 256) rfl
theorem wa_257 : (Cond.fieldLink "RepairGroupsModel" 24 "RepairGroupsModel" "down" "[Z" : Cond) ∈ wA := List.mem_of_getElem? (i := 257) rfl
theorem wa_258 : (Cond.fieldLink "RepairGroupsModel" 27 "RepairGroupsModel" "plan" "[I" : Cond) ∈ wA := List.mem_of_getElem? (i := 258) rfl
theorem wa_259 : (Cond.fieldLink "RepairGroupsModel" 30 "RepairGroupsModel" "basis" "[I" : Cond) ∈ wA := List.mem_of_getElem? (i := 259) rfl
theorem wa_260 : (Cond.fieldLink "RepairGroupsModel" 33 "RepairGroupsModel" "pivot" "[I" : Cond) ∈ wA := List.mem_of_getElem? (i := 260) rfl
theorem wa_261 : (Cond.fieldLink "RepairGroupsModel" 36 "RepairGroupsModel" "row" "[I" : Cond) ∈ wA := List.mem_of_getElem? (i := 261) rfl
theorem wa_262 : (Cond.fieldLink "RepairGroupsModel" 39 "RepairGroupsModel" "kind" "I" : Cond) ∈ wA := List.mem_of_getElem? (i := 262) rfl
theorem wa_263 : (Cond.fieldLink "RepairGroupsModel" 43 "RepairGroupsModel" "n" "I" : Cond) ∈ wA := List.mem_of_getElem? (i := 263) rfl
theorem wa_264 : (Cond.methodLink "RepairGroupsModel" 46 yy_Mo_coefficient : Cond) ∈ wA := List.mem_of_getElem? (i := 264) rfl
theorem wa_265 : (Cond.initialized "RepairGroupsModel" : Cond) ∈ wA := List.mem_of_getElem? (i := 265) rfl
theorem wa_266 : (Cond.instanceMethod yy_Mo_coefficient : Cond) ∈ wA := List.mem_of_getElem? (i := 266) rfl
theorem wa_267 : (Cond.selects "RepairGroupsModel" yy_Mo_coefficient yy_Mo_coefficient : Cond) ∈ wA := List.mem_of_getElem? (i := 267) rfl
theorem wa_268 : (Cond.code yy_Mo_product bb_Mo_product 5 (some .int) : Cond) ∈ wA := List.mem_of_getElem? (i := 268) rfl
theorem wa_269 : (Cond.code yy_Mo_inverse bb_Mo_inverse 4 (some .int) : Cond) ∈ wA := List.mem_of_getElem? (i := 269) rfl
theorem wa_270 : (Cond.methodLink "RepairGroupsModel" 50 yy_Mo_product : Cond) ∈ wA := List.mem_of_getElem? (i := 270) rfl
theorem wa_271 : (Cond.instanceMethod yy_Mo_product : Cond) ∈ wA := List.mem_of_getElem? (i := 271) rfl
theorem wa_272 : (Cond.selects "RepairGroupsModel" yy_Mo_product yy_Mo_product : Cond) ∈ wA := List.mem_of_getElem? (i := 272) rfl
theorem wa_273 : (Cond.code yy_Mo_coefficient bb_Mo_coefficient 3 (some .int) : Cond) ∈ wA := List.mem_of_getElem? (i := 273) rfl
theorem wa_274 : (Cond.methodLink "RepairGroupsModel" 53 yy_Mo_inverse : Cond) ∈ wA := List.mem_of_getElem? (i := 274) rfl
theorem wa_275 : (Cond.instanceMethod yy_Mo_inverse : Cond) ∈ wA := List.mem_of_getElem? (i := 275) rfl
theorem wa_276 : (Cond.selects "RepairGroupsModel" yy_Mo_inverse yy_Mo_inverse : Cond) ∈ wA := List.mem_of_getElem? (i := 276) rfl
theorem wa_277 : (Cond.code yy_Mo_byteOf bb_Mo_byteOf 4 (some .int) : Cond) ∈ wA := List.mem_of_getElem? (i := 277) rfl
theorem wa_278 : (Cond.constantLong "RepairGroupsModel" 57 (255) : Cond) ∈ wA := List.mem_of_getElem? (i := 278) rfl
theorem wa_279 : (Cond.code yy_Mo_value bb_Mo_value 9 (some .long) : Cond) ∈ wA := List.mem_of_getElem? (i := 279) rfl
theorem wa_280 : (Cond.methodLink "RepairGroupsModel" 59 yy_Mo_byteOf : Cond) ∈ wA := List.mem_of_getElem? (i := 280) rfl
theorem wa_281 : (Cond.instanceMethod yy_Mo_byteOf : Cond) ∈ wA := List.mem_of_getElem? (i := 281) rfl
theorem wa_282 : (Cond.selects "RepairGroupsModel" yy_Mo_byteOf yy_Mo_byteOf : Cond) ∈ wA := List.mem_of_getElem? (i := 282) rfl
theorem wa_283 : (Cond.code yy_Mo_noStripe bb_Mo_noStripe 2 (some .boolean) : Cond) ∈ wA := List.mem_of_getElem? (i := 283) rfl
theorem wa_284 : (Cond.code yy_Mo_noShard bb_Mo_noShard 3 (some .boolean) : Cond) ∈ wA := List.mem_of_getElem? (i := 284) rfl
theorem wa_285 : (Cond.methodLink "RepairGroupsModel" 63 yy_Mo_noStripe : Cond) ∈ wA := List.mem_of_getElem? (i := 285) rfl
theorem wa_286 : (Cond.instanceMethod yy_Mo_noStripe : Cond) ∈ wA := List.mem_of_getElem? (i := 286) rfl
theorem wa_287 : (Cond.selects "RepairGroupsModel" yy_Mo_noStripe yy_Mo_noStripe : Cond) ∈ wA := List.mem_of_getElem? (i := 287) rfl
theorem wa_288 : (Cond.code yy_Mo_place bb_Mo_place 3 (some .int) : Cond) ∈ wA := List.mem_of_getElem? (i := 288) rfl
theorem wa_289 : (Cond.code yy_Mo_cell bb_Mo_cell 3 (some .int) : Cond) ∈ wA := List.mem_of_getElem? (i := 289) rfl
theorem wa_290 : (Cond.code yy_Mo_rejected bb_Mo_rejected 4 (some .boolean) : Cond) ∈ wA := List.mem_of_getElem? (i := 290) rfl
theorem wa_291 : (Cond.fieldLink "RepairGroupsModel" 67 "RepairGroupsModel" "reads" "I" : Cond) ∈ wA := List.mem_of_getElem? (i := 291) rfl
theorem wa_292 : (Cond.methodLink "RepairGroupsModel" 70 yy_Mo_cell : Cond) ∈ wA := List.mem_of_getElem? (i := 292) rfl
theorem wa_293 : (Cond.instanceMethod yy_Mo_cell : Cond) ∈ wA := List.mem_of_getElem? (i := 293) rfl
theorem wa_294 : (Cond.selects "RepairGroupsModel" yy_Mo_cell yy_Mo_cell : Cond) ∈ wA := List.mem_of_getElem? (i := 294) rfl
theorem wa_295 : (Cond.code yy_Mo_rejectedFor bb_Mo_rejectedFor 4 (some .boolean) : Cond) ∈ wA := List.mem_of_getElem? (i := 295) rfl
theorem wa_296 : (Cond.fieldLink "RepairGroupsModel" 73 "RepairGroupsModel" "crossings" "I" : Cond) ∈ wA := List.mem_of_getElem? (i := 296) rfl
theorem wa_297 : (Cond.methodLink "RepairGroupsModel" 76 yy_Mo_place : Cond) ∈ wA := List.mem_of_getElem? (i := 297) rfl
theorem wa_298 : (Cond.instanceMethod yy_Mo_place : Cond) ∈ wA := List.mem_of_getElem? (i := 298) rfl
theorem wa_299 : (Cond.selects "RepairGroupsModel" yy_Mo_place yy_Mo_place : Cond) ∈ wA := List.mem_of_getElem? (i := 299) rfl
theorem wa_300 : (Cond.methodLink "RepairGroupsModel" 79 yy_Mo_rejected : Cond) ∈ wA := List.mem_of_getElem? (i := 300) rfl
theorem wa_301 : (Cond.instanceMethod yy_Mo_rejected : Cond) ∈ wA := List.mem_of_getElem? (i := 301) rfl
theorem wa_302 : (Cond.selects "RepairGroupsModel" yy_Mo_rejected yy_Mo_rejected : Cond) ∈ wA := List.mem_of_getElem? (i := 302) rfl
theorem wa_303 : (Cond.code yy_Mo_written bb_Mo_written 3 none : Cond) ∈ wA := List.mem_of_getElem? (i := 303) rfl
theorem wa_304 : (Cond.fieldLink "RepairGroupsModel" 83 "RepairGroupsModel" "writes" "I" : Cond) ∈ wA := List.mem_of_getElem? (i := 304) rfl
theorem wa_305 : (Cond.code yy_Mo_grouped bb_Mo_grouped 3 (some .boolean) : Cond) ∈ wA := List.mem_of_getElem? (i := 305) rfl
theorem wa_306 : (Cond.methodLink "RepairGroupsModel" 86 yy_Mo_group : Cond) ∈ wA := List.mem_of_getElem? (i := 306) rfl
theorem wa_307 : (Cond.instanceMethod yy_Mo_group : Cond) ∈ wA := List.mem_of_getElem? (i := 307) rfl
theorem wa_308 : (Cond.selects "RepairGroupsModel" yy_Mo_group yy_Mo_group : Cond) ∈ wA := List.mem_of_getElem? (i := 308) rfl
theorem wa_309 : (Cond.code yy_Mo_group bb_Mo_group 2 (some .int) : Cond) ∈ wA := List.mem_of_getElem? (i := 309) rfl
theorem wa_310 : (Cond.code yy_Mo_local bb_Mo_local 6 (some .boolean) : Cond) ∈ wA := List.mem_of_getElem? (i := 310) rfl
theorem wa_311 : (Cond.methodLink "RepairGroupsModel" 89 yy_Mo_grouped : Cond) ∈ wA := List.mem_of_getElem? (i := 311) rfl
theorem wa_312 : (Cond.instanceMethod yy_Mo_grouped : Cond) ∈ wA := List.mem_of_getElem? (i := 312) rfl
theorem wa_313 : (Cond.selects "RepairGroupsModel" yy_Mo_grouped yy_Mo_grouped : Cond) ∈ wA := List.mem_of_getElem? (i := 313) rfl
theorem wa_314 : (Cond.code yy_Mo_adds bb_Mo_adds 5 (some .boolean) : Cond) ∈ wA := List.mem_of_getElem? (i := 314) rfl
theorem wa_315 : (Cond.fieldLink "RepairGroupsModel" 92 "RepairGroupsModel" "taken" "I" : Cond) ∈ wA := List.mem_of_getElem? (i := 315) rfl
theorem wa_316 : (Cond.code yy_Mo_goOver bb_Mo_goOver 3 none : Cond) ∈ wA := List.mem_of_getElem? (i := 316) rfl
theorem wa_317 : (Cond.fieldLink "RepairGroupsModel" 95 "RepairGroupsModel" "planSize" "I" : Cond) ∈ wA := List.mem_of_getElem? (i := 317) rfl
theorem wa_318 : (Cond.methodLink "RepairGroupsModel" 98 yy_Mo_adds : Cond) ∈ wA := List.mem_of_getElem? (i := 318) rfl
theorem wa_319 : (Cond.instanceMethod yy_Mo_adds : Cond) ∈ wA := List.mem_of_getElem? (i := 319) rfl
theorem wa_320 : (Cond.selects "RepairGroupsModel" yy_Mo_adds yy_Mo_adds : Cond) ∈ wA := List.mem_of_getElem? (i := 320) rfl
theorem wa_321 : (Cond.code yy_Mo_choose bb_Mo_choose 4 (some .boolean) : Cond) ∈ wA := List.mem_of_getElem? (i := 321) rfl
theorem wa_322 : (Cond.methodLink "RepairGroupsModel" 101 yy_Mo_local : Cond) ∈ wA := List.mem_of_getElem? (i := 322) rfl
theorem wa_323 : (Cond.instanceMethod yy_Mo_local : Cond) ∈ wA := List.mem_of_getElem? (i := 323) rfl
theorem wa_324 : (Cond.selects "RepairGroupsModel" yy_Mo_local yy_Mo_local : Cond) ∈ wA := List.mem_of_getElem? (i := 324) rfl
theorem wa_325 : (Cond.methodLink "RepairGroupsModel" 104 yy_Mo_goOver : Cond) ∈ wA := List.mem_of_getElem? (i := 325) rfl
theorem wa_326 : (Cond.instanceMethod yy_Mo_goOver : Cond) ∈ wA := List.mem_of_getElem? (i := 326) rfl
theorem wa_327 : (Cond.selects "RepairGroupsModel" yy_Mo_goOver yy_Mo_goOver : Cond) ∈ wA := List.mem_of_getElem? (i := 327) rfl
theorem wa_328 : (Cond.code yy_Mo_follow bb_Mo_follow 7 (some .int) : Cond) ∈ wA := List.mem_of_getElem? (i := 328) rfl
theorem wa_329 : (Cond.methodLink "RepairGroupsModel" 108 yy_Mo_choose : Cond) ∈ wA := List.mem_of_getElem? (i := 329) rfl
theorem wa_330 : (Cond.instanceMethod yy_Mo_choose : Cond) ∈ wA := List.mem_of_getElem? (i := 330) rfl
theorem wa_331 : (Cond.selects "RepairGroupsModel" yy_Mo_choose yy_Mo_choose : Cond) ∈ wA := List.mem_of_getElem? (i := 331) rfl
theorem wa_332 : (Cond.fieldLink "RepairGroupsModel" 111 "RepairGroupsModel" "plans" "I" : Cond) ∈ wA := List.mem_of_getElem? (i := 332) rfl
theorem wa_333 : (Cond.methodLink "RepairGroupsModel" 114 yy_Mo_rejectedFor : Cond) ∈ wA := List.mem_of_getElem? (i := 333) rfl
theorem wa_334 : (Cond.instanceMethod yy_Mo_rejectedFor : Cond) ∈ wA := List.mem_of_getElem? (i := 334) rfl
theorem wa_335 : (Cond.selects "RepairGroupsModel" yy_Mo_rejectedFor yy_Mo_rejectedFor : Cond) ∈ wA := List.mem_of_getElem? (i := 335) rfl
theorem wa_336 : (Cond.code yy_Mo_put bb_Mo_put 7 (some .int) : Cond) ∈ wA := List.mem_of_getElem? (i := 336) rfl
theorem wa_337 : (Cond.methodLink "RepairGroupsModel" 118 yy_Mo_written : Cond) ∈ wA := List.mem_of_getElem? (i := 337) rfl
theorem wa_338 : (Cond.instanceMethod yy_Mo_written : Cond) ∈ wA := List.mem_of_getElem? (i := 338) rfl
theorem wa_339 : (Cond.selects "RepairGroupsModel" yy_Mo_written yy_Mo_written : Cond) ∈ wA := List.mem_of_getElem? (i := 339) rfl
theorem wa_340 : (Cond.code yy_Mo_fetch bb_Mo_fetch 5 (some .int) : Cond) ∈ wA := List.mem_of_getElem? (i := 340) rfl
theorem wa_341 : (Cond.methodLink "RepairGroupsModel" 122 yy_Mo_noShard : Cond) ∈ wA := List.mem_of_getElem? (i := 341) rfl
theorem wa_342 : (Cond.instanceMethod yy_Mo_noShard : Cond) ∈ wA := List.mem_of_getElem? (i := 342) rfl
theorem wa_343 : (Cond.selects "RepairGroupsModel" yy_Mo_noShard yy_Mo_noShard : Cond) ∈ wA := List.mem_of_getElem? (i := 343) rfl
theorem wa_344 : (Cond.methodLink "RepairGroupsModel" 125 yy_Mo_follow : Cond) ∈ wA := List.mem_of_getElem? (i := 344) rfl
theorem wa_345 : (Cond.instanceMethod yy_Mo_follow : Cond) ∈ wA := List.mem_of_getElem? (i := 345) rfl
theorem wa_346 : (Cond.selects "RepairGroupsModel" yy_Mo_follow yy_Mo_follow : Cond) ∈ wA := List.mem_of_getElem? (i := 346) rfl
theorem wa_347 : (Cond.methodLink "RepairGroupsModel" 128 yy_Mo_value : Cond) ∈ wA := List.mem_of_getElem? (i := 347) rfl
theorem wa_348 : (Cond.instanceMethod yy_Mo_value : Cond) ∈ wA := List.mem_of_getElem? (i := 348) rfl
theorem wa_349 : (Cond.selects "RepairGroupsModel" yy_Mo_value yy_Mo_value : Cond) ∈ wA := List.mem_of_getElem? (i := 349) rfl
theorem wa_350 : (Cond.fieldLink "RepairGroupsModel" 132 "RepairGroupsModel" "latest" "J" : Cond) ∈ wA := List.mem_of_getElem? (i := 350) rfl
theorem wa_351 : (Cond.code yy_Mo_fetched bb_Mo_fetched 1 (some .long) : Cond) ∈ wA := List.mem_of_getElem? (i := 351) rfl
theorem wa_352 : (Cond.code yy_Mo_fail bb_Mo_fail 5 (some .int) : Cond) ∈ wA := List.mem_of_getElem? (i := 352) rfl
theorem wa_353 : (Cond.code yy_Mo_revive bb_Mo_revive 2 (some .boolean) : Cond) ∈ wA := List.mem_of_getElem? (i := 353) rfl
theorem wa_354 : (Cond.code yy_Mo_damage bb_Mo_damage 4 (some .boolean) : Cond) ∈ wA := List.mem_of_getElem? (i := 354) rfl
theorem wa_355 : (Cond.code yy_Mo_repair bb_Mo_repair 4 (some .int) : Cond) ∈ wA := List.mem_of_getElem? (i := 355) rfl
theorem wa_356 : (Cond.code yy_Mo_next bb_Mo_next 5 (some .int) : Cond) ∈ wA := List.mem_of_getElem? (i := 356) rfl
theorem wa_357 : (Cond.code yy_Mo_mend bb_Mo_mend 5 (some .int) : Cond) ∈ wA := List.mem_of_getElem? (i := 357) rfl
theorem wa_358 : (Cond.methodLink "RepairGroupsModel" 136 yy_Mo_next : Cond) ∈ wA := List.mem_of_getElem? (i := 358) rfl
theorem wa_359 : (Cond.instanceMethod yy_Mo_next : Cond) ∈ wA := List.mem_of_getElem? (i := 359) rfl
theorem wa_360 : (Cond.selects "RepairGroupsModel" yy_Mo_next yy_Mo_next : Cond) ∈ wA := List.mem_of_getElem? (i := 360) rfl
theorem wa_361 : (Cond.methodLink "RepairGroupsModel" 139 yy_Mo_repair : Cond) ∈ wA := List.mem_of_getElem? (i := 361) rfl
theorem wa_362 : (Cond.instanceMethod yy_Mo_repair : Cond) ∈ wA := List.mem_of_getElem? (i := 362) rfl
theorem wa_363 : (Cond.selects "RepairGroupsModel" yy_Mo_repair yy_Mo_repair : Cond) ∈ wA := List.mem_of_getElem? (i := 363) rfl
theorem wa_364 : (Cond.code yy_Mo_scrub bb_Mo_scrub 4 (some .int) : Cond) ∈ wA := List.mem_of_getElem? (i := 364) rfl
theorem wa_365 : (Cond.code yy_Mo_cost bb_Mo_cost 3 (some .int) : Cond) ∈ wA := List.mem_of_getElem? (i := 365) rfl
theorem wa_366 : (Cond.code yy_Mo_rank bb_Mo_rank 2 (some .int) : Cond) ∈ wA := List.mem_of_getElem? (i := 366) rfl
theorem wa_367 : (Cond.code yy_Mo_lost bb_Mo_lost 4 (some .int) : Cond) ∈ wA := List.mem_of_getElem? (i := 367) rfl
theorem wa_368 : (Cond.code yy_Mo_content bb_Mo_content 3 (some .long) : Cond) ∈ wA := List.mem_of_getElem? (i := 368) rfl
theorem wa_369 : (Cond.code yy_Mo_node bb_Mo_node 3 (some .int) : Cond) ∈ wA := List.mem_of_getElem? (i := 369) rfl
theorem wa_370 : (Cond.code yy_Mo_up bb_Mo_up 2 (some .boolean) : Cond) ∈ wA := List.mem_of_getElem? (i := 370) rfl
theorem wa_371 : (Cond.code yy_Mo_count bb_Mo_count 2 (some .int) : Cond) ∈ wA := List.mem_of_getElem? (i := 371) rfl
theorem wa_372 : (Cond.code yy_Mo_size bb_Mo_size 1 (some .int) : Cond) ∈ wA := List.mem_of_getElem? (i := 372) rfl
theorem wa_373 : (Cond.code yy_La_cell bb_La_cell 2 (some .int) : Cond) ∈ wA := List.mem_of_getElem? (i := 373) rfl
theorem wa_374 : (Cond.classLink "RepairGroupsLaw" 7 "RepairGroups" : Cond) ∈ wA := List.mem_of_getElem? (i := 374) rfl
theorem wa_375 : (Cond.instantiable "RepairGroups" 7 : Cond) ∈ wA := List.mem_of_getElem? (i := 375) rfl
theorem wa_376 : (Cond.methodLink "RepairGroupsLaw" 9 yy_La_cell : Cond) ∈ wA := List.mem_of_getElem? (i := 376) rfl
theorem wa_377 : (Cond.initialized "RepairGroupsLaw" : Cond) ∈ wA := List.mem_of_getElem? (i := 377) rfl
theorem wa_378 : (Cond.static yy_La_cell : Cond) ∈ wA := List.mem_of_getElem? (i := 378) rfl
theorem wa_379 : (Cond.methodLink "RepairGroupsLaw" 15 yy_RG_init : Cond) ∈ wA := List.mem_of_getElem? (i := 379) rfl
theorem wa_380 : (Cond.instanceMethod yy_RG_init : Cond) ∈ wA := List.mem_of_getElem? (i := 380) rfl
theorem wa_381 : (Cond.classLink "RepairGroupsLaw" 18 "RepairGroupsModel" : Cond) ∈ wA := List.mem_of_getElem? (i := 381) rfl
theorem wa_382 : (Cond.instantiable "RepairGroupsModel" 18 : Cond) ∈ wA := List.mem_of_getElem? (i := 382) rfl
theorem wa_383 : (Cond.methodLink "RepairGroupsLaw" 20 yy_Mo_init : Cond) ∈ wA := List.mem_of_getElem? (i := 383) rfl
theorem wa_384 : (Cond.instanceMethod yy_Mo_init : Cond) ∈ wA := List.mem_of_getElem? (i := 384) rfl
theorem wa_385 : (Cond.constantLong "RepairGroupsLaw" 21 (4294967295) : Cond) ∈ wA := List.mem_of_getElem? (i := 385) rfl
theorem wa_386 : (Cond.methodLink "RepairGroupsLaw" 23 yy_RG_put : Cond) ∈ wA := List.mem_of_getElem? (i := 386) rfl
theorem wa_387 : (Cond.instanceMethod yy_RG_put : Cond) ∈ wA := List.mem_of_getElem? (i := 387) rfl
theorem wa_388 : (Cond.selects "RepairGroups" yy_RG_put yy_RG_put : Cond) ∈ wA := List.mem_of_getElem? (i := 388) rfl
theorem wa_389 : (Cond.methodLink "RepairGroupsLaw" 27 yy_Mo_put : Cond) ∈ wA := List.mem_of_getElem? (i := 389) rfl
theorem wa_390 : (Cond.instanceMethod yy_Mo_put : Cond) ∈ wA := List.mem_of_getElem? (i := 390) rfl
theorem wa_391 : (Cond.selects "RepairGroupsModel" yy_Mo_put yy_Mo_put : Cond) ∈ wA := List.mem_of_getElem? (i := 391) rfl
theorem wa_392 : (Cond.methodLink "RepairGroupsLaw" 28 yy_RG_fetch : Cond) ∈ wA := List.mem_of_getElem? (i := 392) rfl
theorem wa_393 : (Cond.instanceMethod yy_RG_fetch : Cond) ∈ wA := List.mem_of_getElem? (i := 393) rfl
theorem wa_394 : (Cond.selects "RepairGroups" yy_RG_fetch yy_RG_fetch : Cond) ∈ wA := List.mem_of_getElem? (i := 394) rfl
theorem wa_395 : (Cond.methodLink "RepairGroupsLaw" 32 yy_Mo_fetch : Cond) ∈ wA := List.mem_of_getElem? (i := 395) rfl
theorem wa_396 : (Cond.instanceMethod yy_Mo_fetch : Cond) ∈ wA := List.mem_of_getElem? (i := 396) rfl
theorem wa_397 : (Cond.selects "RepairGroupsModel" yy_Mo_fetch yy_Mo_fetch : Cond) ∈ wA := List.mem_of_getElem? (i := 397) rfl
theorem wa_398 : (Cond.methodLink "RepairGroupsLaw" 33 yy_RG_fetched : Cond) ∈ wA := List.mem_of_getElem? (i := 398) rfl
theorem wa_399 : (Cond.instanceMethod yy_RG_fetched : Cond) ∈ wA := List.mem_of_getElem? (i := 399) rfl
theorem wa_400 : (Cond.selects "RepairGroups" yy_RG_fetched yy_RG_fetched : Cond) ∈ wA := List.mem_of_getElem? (i := 400) rfl
theorem wa_401 : (Cond.methodLink "RepairGroupsLaw" 37 yy_Mo_fetched : Cond) ∈ wA := List.mem_of_getElem? (i := 401) rfl
theorem wa_402 : (Cond.instanceMethod yy_Mo_fetched : Cond) ∈ wA := List.mem_of_getElem? (i := 402) rfl
theorem wa_403 : (Cond.selects "RepairGroupsModel" yy_Mo_fetched yy_Mo_fetched : Cond) ∈ wA := List.mem_of_getElem? (i := 403) rfl
theorem wa_404 : (Cond.methodLink "RepairGroupsLaw" 38 yy_RG_fail : Cond) ∈ wA := List.mem_of_getElem? (i := 404) rfl
theorem wa_405 : (Cond.instanceMethod yy_RG_fail : Cond) ∈ wA := List.mem_of_getElem? (i := 405) rfl
theorem wa_406 : (Cond.selects "RepairGroups" yy_RG_fail yy_RG_fail : Cond) ∈ wA := List.mem_of_getElem? (i := 406) rfl
theorem wa_407 : (Cond.methodLink "RepairGroupsLaw" 42 yy_Mo_fail : Cond) ∈ wA := List.mem_of_getElem? (i := 407) rfl
theorem wa_408 : (Cond.instanceMethod yy_Mo_fail : Cond) ∈ wA := List.mem_of_getElem? (i := 408) rfl
theorem wa_409 : (Cond.selects "RepairGroupsModel" yy_Mo_fail yy_Mo_fail : Cond) ∈ wA := List.mem_of_getElem? (i := 409) rfl
theorem wa_410 : (Cond.methodLink "RepairGroupsLaw" 43 yy_RG_revive : Cond) ∈ wA := List.mem_of_getElem? (i := 410) rfl
theorem wa_411 : (Cond.instanceMethod yy_RG_revive : Cond) ∈ wA := List.mem_of_getElem? (i := 411) rfl
theorem wa_412 : (Cond.selects "RepairGroups" yy_RG_revive yy_RG_revive : Cond) ∈ wA := List.mem_of_getElem? (i := 412) rfl
theorem wa_413 : (Cond.methodLink "RepairGroupsLaw" 47 yy_Mo_revive : Cond) ∈ wA := List.mem_of_getElem? (i := 413) rfl
theorem wa_414 : (Cond.instanceMethod yy_Mo_revive : Cond) ∈ wA := List.mem_of_getElem? (i := 414) rfl
theorem wa_415 : (Cond.selects "RepairGroupsModel" yy_Mo_revive yy_Mo_revive : Cond) ∈ wA := List.mem_of_getElem? (i := 415) rfl
theorem wa_416 : (Cond.methodLink "RepairGroupsLaw" 48 yy_RG_damage : Cond) ∈ wA := List.mem_of_getElem? (i := 416) rfl
theorem wa_417 : (Cond.instanceMethod yy_RG_damage : Cond) ∈ wA := List.mem_of_getElem? (i := 417) rfl
theorem wa_418 : (Cond.selects "RepairGroups" yy_RG_damage yy_RG_damage : Cond) ∈ wA := List.mem_of_getElem? (i := 418) rfl
theorem wa_419 : (Cond.methodLink "RepairGroupsLaw" 52 yy_Mo_damage : Cond) ∈ wA := List.mem_of_getElem? (i := 419) rfl
theorem wa_420 : (Cond.instanceMethod yy_Mo_damage : Cond) ∈ wA := List.mem_of_getElem? (i := 420) rfl
theorem wa_421 : (Cond.selects "RepairGroupsModel" yy_Mo_damage yy_Mo_damage : Cond) ∈ wA := List.mem_of_getElem? (i := 421) rfl
theorem wa_422 : (Cond.methodLink "RepairGroupsLaw" 53 yy_RG_repair : Cond) ∈ wA := List.mem_of_getElem? (i := 422) rfl
theorem wa_423 : (Cond.instanceMethod yy_RG_repair : Cond) ∈ wA := List.mem_of_getElem? (i := 423) rfl
theorem wa_424 : (Cond.selects "RepairGroups" yy_RG_repair yy_RG_repair : Cond) ∈ wA := List.mem_of_getElem? (i := 424) rfl
theorem wa_425 : (Cond.methodLink "RepairGroupsLaw" 56 yy_Mo_repair : Cond) ∈ wA := List.mem_of_getElem? (i := 425) rfl
theorem wa_426 : (Cond.methodLink "RepairGroupsLaw" 57 yy_RG_mend : Cond) ∈ wA := List.mem_of_getElem? (i := 426) rfl
theorem wa_427 : (Cond.instanceMethod yy_RG_mend : Cond) ∈ wA := List.mem_of_getElem? (i := 427) rfl
theorem wa_428 : (Cond.selects "RepairGroups" yy_RG_mend yy_RG_mend : Cond) ∈ wA := List.mem_of_getElem? (i := 428) rfl
theorem wa_429 : (Cond.methodLink "RepairGroupsLaw" 60 yy_Mo_mend : Cond) ∈ wA := List.mem_of_getElem? (i := 429) rfl
theorem wa_430 : (Cond.instanceMethod yy_Mo_mend : Cond) ∈ wA := List.mem_of_getElem? (i := 430) rfl
theorem wa_431 : (Cond.selects "RepairGroupsModel" yy_Mo_mend yy_Mo_mend : Cond) ∈ wA := List.mem_of_getElem? (i := 431) rfl
theorem wa_432 : (Cond.methodLink "RepairGroupsLaw" 61 yy_RG_scrub : Cond) ∈ wA := List.mem_of_getElem? (i := 432) rfl
theorem wa_433 : (Cond.instanceMethod yy_RG_scrub : Cond) ∈ wA := List.mem_of_getElem? (i := 433) rfl
theorem wa_434 : (Cond.selects "RepairGroups" yy_RG_scrub yy_RG_scrub : Cond) ∈ wA := List.mem_of_getElem? (i := 434) rfl
theorem wa_435 : (Cond.methodLink "RepairGroupsLaw" 64 yy_Mo_scrub : Cond) ∈ wA := List.mem_of_getElem? (i := 435) rfl
theorem wa_436 : (Cond.instanceMethod yy_Mo_scrub : Cond) ∈ wA := List.mem_of_getElem? (i := 436) rfl
theorem wa_437 : (Cond.selects "RepairGroupsModel" yy_Mo_scrub yy_Mo_scrub : Cond) ∈ wA := List.mem_of_getElem? (i := 437) rfl
theorem wa_438 : (Cond.methodLink "RepairGroupsLaw" 65 yy_RG_cost : Cond) ∈ wA := List.mem_of_getElem? (i := 438) rfl
theorem wa_439 : (Cond.instanceMethod yy_RG_cost : Cond) ∈ wA := List.mem_of_getElem? (i := 439) rfl
theorem wa_440 : (Cond.selects "RepairGroups" yy_RG_cost yy_RG_cost : Cond) ∈ wA := List.mem_of_getElem? (i := 440) rfl
theorem wa_441 : (Cond.methodLink "RepairGroupsLaw" 68 yy_Mo_cost : Cond) ∈ wA := List.mem_of_getElem? (i := 441) rfl
theorem wa_442 : (Cond.instanceMethod yy_Mo_cost : Cond) ∈ wA := List.mem_of_getElem? (i := 442) rfl
theorem wa_443 : (Cond.selects "RepairGroupsModel" yy_Mo_cost yy_Mo_cost : Cond) ∈ wA := List.mem_of_getElem? (i := 443) rfl
theorem wa_444 : (Cond.methodLink "RepairGroupsLaw" 69 yy_RG_rank : Cond) ∈ wA := List.mem_of_getElem? (i := 444) rfl
theorem wa_445 : (Cond.instanceMethod yy_RG_rank : Cond) ∈ wA := List.mem_of_getElem? (i := 445) rfl
theorem wa_446 : (Cond.selects "RepairGroups" yy_RG_rank yy_RG_rank : Cond) ∈ wA := List.mem_of_getElem? (i := 446) rfl
theorem wa_447 : (Cond.methodLink "RepairGroupsLaw" 72 yy_Mo_rank : Cond) ∈ wA := List.mem_of_getElem? (i := 447) rfl
theorem wa_448 : (Cond.instanceMethod yy_Mo_rank : Cond) ∈ wA := List.mem_of_getElem? (i := 448) rfl
theorem wa_449 : (Cond.selects "RepairGroupsModel" yy_Mo_rank yy_Mo_rank : Cond) ∈ wA := List.mem_of_getElem? (i := 449) rfl
theorem wa_450 : (Cond.methodLink "RepairGroupsLaw" 73 yy_RG_lost : Cond) ∈ wA := List.mem_of_getElem? (i := 450) rfl
theorem wa_451 : (Cond.instanceMethod yy_RG_lost : Cond) ∈ wA := List.mem_of_getElem? (i := 451) rfl
theorem wa_452 : (Cond.selects "RepairGroups" yy_RG_lost yy_RG_lost : Cond) ∈ wA := List.mem_of_getElem? (i := 452) rfl
theorem wa_453 : (Cond.methodLink "RepairGroupsLaw" 76 yy_Mo_lost : Cond) ∈ wA := List.mem_of_getElem? (i := 453) rfl
theorem wa_454 : (Cond.instanceMethod yy_Mo_lost : Cond) ∈ wA := List.mem_of_getElem? (i := 454) rfl
theorem wa_455 : (Cond.selects "RepairGroupsModel" yy_Mo_lost yy_Mo_lost : Cond) ∈ wA := List.mem_of_getElem? (i := 455) rfl
theorem wa_456 : (Cond.methodLink "RepairGroupsLaw" 77 yy_RG_content : Cond) ∈ wA := List.mem_of_getElem? (i := 456) rfl
theorem wa_457 : (Cond.instanceMethod yy_RG_content : Cond) ∈ wA := List.mem_of_getElem? (i := 457) rfl
theorem wa_458 : (Cond.selects "RepairGroups" yy_RG_content yy_RG_content : Cond) ∈ wA := List.mem_of_getElem? (i := 458) rfl
theorem wa_459 : (Cond.methodLink "RepairGroupsLaw" 81 yy_Mo_content : Cond) ∈ wA := List.mem_of_getElem? (i := 459) rfl
theorem wa_460 : (Cond.instanceMethod yy_Mo_content : Cond) ∈ wA := List.mem_of_getElem? (i := 460) rfl
theorem wa_461 : (Cond.selects "RepairGroupsModel" yy_Mo_content yy_Mo_content : Cond) ∈ wA := List.mem_of_getElem? (i := 461) rfl
theorem wa_462 : (Cond.methodLink "RepairGroupsLaw" 82 yy_RG_node : Cond) ∈ wA := List.mem_of_getElem? (i := 462) rfl
theorem wa_463 : (Cond.instanceMethod yy_RG_node : Cond) ∈ wA := List.mem_of_getElem? (i := 463) rfl
theorem wa_464 : (Cond.selects "RepairGroups" yy_RG_node yy_RG_node : Cond) ∈ wA := List.mem_of_getElem? (i := 464) rfl
theorem wa_465 : (Cond.methodLink "RepairGroupsLaw" 85 yy_Mo_node : Cond) ∈ wA := List.mem_of_getElem? (i := 465) rfl
theorem wa_466 : (Cond.instanceMethod yy_Mo_node : Cond) ∈ wA := List.mem_of_getElem? (i := 466) rfl
theorem wa_467 : (Cond.selects "RepairGroupsModel" yy_Mo_node yy_Mo_node : Cond) ∈ wA := List.mem_of_getElem? (i := 467) rfl
theorem wa_468 : (Cond.methodLink "RepairGroupsLaw" 86 yy_RG_up : Cond) ∈ wA := List.mem_of_getElem? (i := 468) rfl
theorem wa_469 : (Cond.instanceMethod yy_RG_up : Cond) ∈ wA := List.mem_of_getElem? (i := 469) rfl
theorem wa_470 : (Cond.selects "RepairGroups" yy_RG_up yy_RG_up : Cond) ∈ wA := List.mem_of_getElem? (i := 470) rfl
theorem wa_471 : (Cond.methodLink "RepairGroupsLaw" 89 yy_Mo_up : Cond) ∈ wA := List.mem_of_getElem? (i := 471) rfl
theorem wa_472 : (Cond.instanceMethod yy_Mo_up : Cond) ∈ wA := List.mem_of_getElem? (i := 472) rfl
theorem wa_473 : (Cond.selects "RepairGroupsModel" yy_Mo_up yy_Mo_up : Cond) ∈ wA := List.mem_of_getElem? (i := 473) rfl
theorem wa_474 : (Cond.methodLink "RepairGroupsLaw" 90 yy_RG_count : Cond) ∈ wA := List.mem_of_getElem? (i := 474) rfl
theorem wa_475 : (Cond.instanceMethod yy_RG_count : Cond) ∈ wA := List.mem_of_getElem? (i := 475) rfl
theorem wa_476 : (Cond.selects "RepairGroups" yy_RG_count yy_RG_count : Cond) ∈ wA := List.mem_of_getElem? (i := 476) rfl
theorem wa_477 : (Cond.methodLink "RepairGroupsLaw" 93 yy_Mo_count : Cond) ∈ wA := List.mem_of_getElem? (i := 477) rfl
theorem wa_478 : (Cond.instanceMethod yy_Mo_count : Cond) ∈ wA := List.mem_of_getElem? (i := 478) rfl
theorem wa_479 : (Cond.selects "RepairGroupsModel" yy_Mo_count yy_Mo_count : Cond) ∈ wA := List.mem_of_getElem? (i := 479) rfl
theorem wa_480 : (Cond.methodLink "RepairGroupsLaw" 94 yy_RG_size : Cond) ∈ wA := List.mem_of_getElem? (i := 480) rfl
theorem wa_481 : (Cond.instanceMethod yy_RG_size : Cond) ∈ wA := List.mem_of_getElem? (i := 481) rfl
theorem wa_482 : (Cond.selects "RepairGroups" yy_RG_size yy_RG_size : Cond) ∈ wA := List.mem_of_getElem? (i := 482) rfl
theorem wa_483 : (Cond.methodLink "RepairGroupsLaw" 98 yy_Mo_size : Cond) ∈ wA := List.mem_of_getElem? (i := 483) rfl
theorem wa_484 : (Cond.instanceMethod yy_Mo_size : Cond) ∈ wA := List.mem_of_getElem? (i := 484) rfl
theorem wa_485 : (Cond.selects "RepairGroupsModel" yy_Mo_size yy_Mo_size : Cond) ∈ wA := List.mem_of_getElem? (i := 485) rfl
theorem wa_486 : (Cond.code yy_In_bitCount bb_In_bitCount 1 (some .int) : Cond) ∈ wA := List.mem_of_getElem? (i := 486) rfl
theorem wa_487 : (Cond.constant "java/lang/Integer" 265 (1431655765) : Cond) ∈ wA := List.mem_of_getElem? (i := 487) rfl
theorem wa_488 : (Cond.constant "java/lang/Integer" 266 (858993459) : Cond) ∈ wA := List.mem_of_getElem? (i := 488) rfl
theorem wa_489 : (Cond.constant "java/lang/Integer" 267 (252645135) : Cond) ∈ wA := List.mem_of_getElem? (i := 489) rfl
theorem wA_all : wA.all goodWord = true := by decide +kernel
theorem wA_good : ∀ w ∈ wA, (w.onTables && w.keeps) = true ∨ ∃ ty, w = .arrayClass ty := fun w hw => good_of_word (List.all_eq_true.mp wA_all w hw)
def nW : List Cond := [.methodLinkNest "RepairGroups" 20 yy_Sp_init "RepairGroups",
  .fieldLinkNest "RepairGroups" 31 "RepairGroups$Code" "shards" "I" "RepairGroups",
  .fieldLinkNest "RepairGroups" 129 "RepairGroups$Code" "rows" "[J" "RepairGroups",
  .methodLinkNest "RepairGroups$Code" 47 yy_RG_isIn "RepairGroups",
  .methodLinkNest "RepairGroups$Stripe" 28 yy_RG_isIn "RepairGroups"]
theorem nw_0 : (Cond.methodLinkNest "RepairGroups" 20 yy_Sp_init "RepairGroups" : Cond) ∈ nW := List.mem_of_getElem? (i := 0) rfl
theorem nw_1 : (Cond.fieldLinkNest "RepairGroups" 31 "RepairGroups$Code" "shards" "I" "RepairGroups" : Cond) ∈ nW := List.mem_of_getElem? (i := 1) rfl
theorem nw_2 : (Cond.fieldLinkNest "RepairGroups" 129 "RepairGroups$Code" "rows" "[J" "RepairGroups" : Cond) ∈ nW := List.mem_of_getElem? (i := 2) rfl
theorem nw_3 : (Cond.methodLinkNest "RepairGroups$Code" 47 yy_RG_isIn "RepairGroups" : Cond) ∈ nW := List.mem_of_getElem? (i := 3) rfl
theorem nw_4 : (Cond.methodLinkNest "RepairGroups$Stripe" 28 yy_RG_isIn "RepairGroups" : Cond) ∈ nW := List.mem_of_getElem? (i := 4) rfl
theorem nW_tab : ∀ w ∈ nW, w.onTables = true := by decide +kernel
theorem nW_warm {s U : State} (hW : s.WarmedH U.vm) : ∀ w ∈ nW, va_Nw w s → va_Nw w U := by
  intro w hw h
  simp only [nW, List.mem_cons, List.not_mem_nil, or_false] at hw
  rcases hw with rfl | rfl | rfl | rfl | rfl <;> first | exact va_Nw.warmF hW h | exact va_Nw.warmM hW h
theorem uw_RG : ∀ w ∈ u_ws "RepairGroups" ff_RG 7, w ∈ wA := by decide +kernel
theorem uw_Co : ∀ w ∈ u_ws "RepairGroups$Code" ff_Co 3, w ∈ wA := by decide +kernel
theorem uw_Sp : ∀ w ∈ u_ws "RepairGroups$Span" ff_Sp 2, w ∈ wA := by decide +kernel
theorem uw_Sq : ∀ w ∈ u_ws "RepairGroups$Stripe" ff_Sq 5, w ∈ wA := by decide +kernel
theorem uw_Mo : ∀ w ∈ u_ws "RepairGroupsModel" ff_Mo 18, w ∈ wA := by decide +kernel
