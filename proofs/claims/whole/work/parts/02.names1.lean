def wsX6_nights_r2 : List Cond := [Cond.selects RX6 yX6_draw yX6_draw, Cond.code yX6_draw cX6_draw 2 (some .int), Cond.constantLong RX6 200 (1103515245), Cond.constantLong RX6 205 (12345), Cond.constantLong RX6 207 (2147483647), Cond.constant RX6 209 (65536), Cond.methodLink RX6 158 yX6_leaveOut, Cond.instanceMethod yX6_leaveOut, Cond.selects RX6 yX6_leaveOut yX6_leaveOut, Cond.code yX6_leaveOut cX6_leaveOut 2 none, Cond.fieldLink RX6 16 "ClappedWrongModel" "rows" "[I", Cond.methodLink RX6 142 yX6_makes, Cond.instanceMethod yX6_makes, Cond.selects RX6 yX6_makes yX6_makes, Cond.code yX6_makes cX6_makes 3 none, Cond.methodLink RX6 136 yX6_pass, Cond.instanceMethod yX6_pass, Cond.selects RX6 yX6_pass yX6_pass, Cond.code yX6_pass cX6_pass 2 none, Cond.fieldLink RX6 31 "ClappedWrongModel" "ahead" "[I", Cond.methodLink RX6 133 yX6_nextOf, Cond.instanceMethod yX6_nextOf, Cond.selects RX6 yX6_nextOf yX6_nextOf, Cond.code yX6_nextOf cX6_nextOf 4 (some .int)]
def wsX6_nights_r3 : List Cond := [Cond.methodLink RX6 112 yX6_isTired, Cond.instanceMethod yX6_isTired, Cond.selects RX6 yX6_isTired yX6_isTired, Cond.code yX6_isTired cX6_isTired 3 (some .boolean), Cond.methodLink RX6 127 yX6_isStubborn, Cond.instanceMethod yX6_isStubborn, Cond.selects RX6 yX6_isStubborn yX6_isStubborn, Cond.code yX6_isStubborn cX6_isStubborn 2 (some .boolean), Cond.methodLink RX6 130 yX6_palmsBy, Cond.instanceMethod yX6_palmsBy, Cond.selects RX6 yX6_palmsBy yX6_palmsBy, Cond.code yX6_palmsBy cX6_palmsBy 5 (some .int), Cond.methodLink RX6 116 yX6_isRow, Cond.instanceMethod yX6_isRow, Cond.selects RX6 yX6_isRow yX6_isRow, Cond.code yX6_isRow cX6_isRow 2 (some .boolean), Cond.methodLink RX6 155 yX6_rightNow, Cond.instanceMethod yX6_rightNow, Cond.selects RX6 yX6_rightNow yX6_rightNow, Cond.code yX6_rightNow cX6_rightNow 3 (some .int), Cond.methodLink RX6 217 yX6_palmsAll, Cond.instanceMethod yX6_palmsAll, Cond.selects RX6 yX6_palmsAll yX6_palmsAll, Cond.code yX6_palmsAll cX6_palmsAll 3 (some .int)]
def wsX6_nights : List Cond := .code yX6_nights cX6_nights 7 (some .int) :: ((wsX6_nights_r1 ++ (wsX6_nights_r2 ++ wsX6_nights_r3)) ++ wsX60)
def wsX6_copy : List Cond := .code yX6_copy cX6_copy 3 none :: ([])
def wsX6_image_r1 : List Cond := [Cond.fieldLink RX6 19 "ClappedWrongModel" "sounds" "[I", Cond.fieldLink RX6 37 "ClappedWrongModel" "keptSounds" "[I", Cond.fieldLink RX6 22 "ClappedWrongModel" "clapped" "[I", Cond.fieldLink RX6 40 "ClappedWrongModel" "keptClapped" "[I", Cond.fieldLink RX6 34 "ClappedWrongModel" "records" "[I", Cond.fieldLink RX6 43 "ClappedWrongModel" "keptRecords" "[I", Cond.fieldLink RX6 90 "ClappedWrongModel" "armNow" "I", Cond.fieldLink RX6 224 "ClappedWrongModel" "keptArm" "I", Cond.fieldLink RX6 93 "ClappedWrongModel" "barNow" "I", Cond.fieldLink RX6 227 "ClappedWrongModel" "keptBar" "I", Cond.fieldLink RX6 96 "ClappedWrongModel" "skips" "I", Cond.fieldLink RX6 230 "ClappedWrongModel" "keptSkips" "I", Cond.fieldLink RX6 99 "ClappedWrongModel" "recordMany" "I", Cond.fieldLink RX6 233 "ClappedWrongModel" "keptRecordMany" "I", Cond.fieldLink RX6 102 "ClappedWrongModel" "hallsRead" "I", Cond.fieldLink RX6 46 "ClappedWrongModel" "keptHall" "I", Cond.methodLink RX6 151 yX6_lacks, Cond.instanceMethod yX6_lacks, Cond.selects RX6 yX6_lacks yX6_lacks, Cond.initialized RX6, Cond.code yX6_lacks cX6_lacks 1 (some .boolean), Cond.fieldLink RX6 84 "ClappedWrongModel" "many" "I", Cond.methodLink RX6 220 yX6_copy, Cond.static yX6_copy]
def wsX6_image_r2 : List Cond := [Cond.code yX6_copy cX6_copy 3 none]
def wsX6_image : List Cond := .code yX6_image cX6_image 1 (some .int) :: ((wsX6_image_r1 ++ wsX6_image_r2) ++ wsX60)
def wsX6_restore : List Cond := .code yX6_restore cX6_restore 1 (some .int) :: ([.fieldLink RX6 46 "ClappedWrongModel" "keptHall" "I", .fieldLink RX6 102 "ClappedWrongModel" "hallsRead" "I", .fieldLink RX6 37 "ClappedWrongModel" "keptSounds" "[I", .fieldLink RX6 19 "ClappedWrongModel" "sounds" "[I", .fieldLink RX6 40 "ClappedWrongModel" "keptClapped" "[I", .fieldLink RX6 22 "ClappedWrongModel" "clapped" "[I", .fieldLink RX6 43 "ClappedWrongModel" "keptRecords" "[I", .fieldLink RX6 34 "ClappedWrongModel" "records" "[I", .fieldLink RX6 224 "ClappedWrongModel" "keptArm" "I", .fieldLink RX6 90 "ClappedWrongModel" "armNow" "I", .fieldLink RX6 227 "ClappedWrongModel" "keptBar" "I", .fieldLink RX6 93 "ClappedWrongModel" "barNow" "I", .fieldLink RX6 230 "ClappedWrongModel" "keptSkips" "I", .fieldLink RX6 96 "ClappedWrongModel" "skips" "I", .fieldLink RX6 233 "ClappedWrongModel" "keptRecordMany" "I", .fieldLink RX6 99 "ClappedWrongModel" "recordMany" "I", .methodLink RX6 220 yX6_copy, .static yX6_copy, .initialized RX6, .code yX6_copy cX6_copy 3 none] ++ wsX60)
def wsX6_countOf_r1 : List Cond := [Cond.fieldLink RX6 84 "ClappedWrongModel" "many" "I", Cond.fieldLink RX6 87 "ClappedWrongModel" "late" "I", Cond.fieldLink RX6 90 "ClappedWrongModel" "armNow" "I", Cond.fieldLink RX6 93 "ClappedWrongModel" "barNow" "I", Cond.fieldLink RX6 96 "ClappedWrongModel" "skips" "I", Cond.fieldLink RX6 99 "ClappedWrongModel" "recordMany" "I", Cond.fieldLink RX6 56 "ClappedWrongModel" "pageMany" "I", Cond.fieldLink RX6 102 "ClappedWrongModel" "hallsRead" "I", Cond.fieldLink RX6 181 "ClappedWrongModel" "turnedMany" "I", Cond.fieldLink RX6 193 "ClappedWrongModel" "beganMany" "I", Cond.methodLink RX6 217 yX6_palmsAll, Cond.instanceMethod yX6_palmsAll, Cond.selects RX6 yX6_palmsAll yX6_palmsAll, Cond.initialized RX6, Cond.code yX6_palmsAll cX6_palmsAll 3 (some .int), Cond.fieldLink RX6 16 "ClappedWrongModel" "rows" "[I", Cond.methodLink RX6 139 yX6_asItIs, Cond.instanceMethod yX6_asItIs, Cond.selects RX6 yX6_asItIs yX6_asItIs, Cond.code yX6_asItIs cX6_asItIs 2 none, Cond.fieldLink RX6 25 "ClappedWrongModel" "now" "[I", Cond.fieldLink RX6 19 "ClappedWrongModel" "sounds" "[I", Cond.fieldLink RX6 28 "ClappedWrongModel" "nowLong" "[I", Cond.fieldLink RX6 22 "ClappedWrongModel" "clapped" "[I"]
def wsX6_countOf_r2 : List Cond := [Cond.fieldLink RX6 124 "ClappedWrongModel" "nowArm" "I", Cond.methodLink RX6 155 yX6_rightNow, Cond.instanceMethod yX6_rightNow, Cond.selects RX6 yX6_rightNow yX6_rightNow, Cond.code yX6_rightNow cX6_rightNow 3 (some .int)]
def wsX6_countOf : List Cond := .code yX6_countOf cX6_countOf 2 (some .int) :: ((wsX6_countOf_r1 ++ wsX6_countOf_r2) ++ wsX60)
def wsX6_count_r1 : List Cond := [Cond.methodLink RX6 236 yX6_countOf, Cond.instanceMethod yX6_countOf, Cond.selects RX6 yX6_countOf yX6_countOf, Cond.initialized RX6, Cond.code yX6_countOf cX6_countOf 2 (some .int), Cond.fieldLink RX6 84 "ClappedWrongModel" "many" "I", Cond.fieldLink RX6 87 "ClappedWrongModel" "late" "I", Cond.fieldLink RX6 90 "ClappedWrongModel" "armNow" "I", Cond.fieldLink RX6 93 "ClappedWrongModel" "barNow" "I", Cond.fieldLink RX6 96 "ClappedWrongModel" "skips" "I", Cond.fieldLink RX6 99 "ClappedWrongModel" "recordMany" "I", Cond.fieldLink RX6 56 "ClappedWrongModel" "pageMany" "I", Cond.fieldLink RX6 102 "ClappedWrongModel" "hallsRead" "I", Cond.fieldLink RX6 181 "ClappedWrongModel" "turnedMany" "I", Cond.fieldLink RX6 193 "ClappedWrongModel" "beganMany" "I", Cond.methodLink RX6 217 yX6_palmsAll, Cond.instanceMethod yX6_palmsAll, Cond.selects RX6 yX6_palmsAll yX6_palmsAll, Cond.code yX6_palmsAll cX6_palmsAll 3 (some .int), Cond.fieldLink RX6 16 "ClappedWrongModel" "rows" "[I", Cond.methodLink RX6 139 yX6_asItIs, Cond.instanceMethod yX6_asItIs, Cond.selects RX6 yX6_asItIs yX6_asItIs, Cond.code yX6_asItIs cX6_asItIs 2 none]
def wsX6_count_r2 : List Cond := [Cond.fieldLink RX6 25 "ClappedWrongModel" "now" "[I", Cond.fieldLink RX6 19 "ClappedWrongModel" "sounds" "[I", Cond.fieldLink RX6 28 "ClappedWrongModel" "nowLong" "[I", Cond.fieldLink RX6 22 "ClappedWrongModel" "clapped" "[I", Cond.fieldLink RX6 124 "ClappedWrongModel" "nowArm" "I", Cond.methodLink RX6 155 yX6_rightNow, Cond.instanceMethod yX6_rightNow, Cond.selects RX6 yX6_rightNow yX6_rightNow, Cond.code yX6_rightNow cX6_rightNow 3 (some .int)]
def wsX6_count : List Cond := .code yX6_count cX6_count 2 (some .int) :: ((wsX6_count_r1 ++ wsX6_count_r2) ++ wsX60)
def wsX6_say : List Cond := .code yX6_say cX6_say 3 none :: ([.constantLong RX6 239 (31), .fieldLink RX6 241 "ClappedWrongModel" "hash" "J"] ++ wsX60)
def wsX6_digest_r1 : List Cond := [Cond.constantLong RX6 245 (773), Cond.fieldLink RX6 241 "ClappedWrongModel" "hash" "J", Cond.fieldLink RX6 84 "ClappedWrongModel" "many" "I", Cond.fieldLink RX6 56 "ClappedWrongModel" "pageMany" "I", Cond.fieldLink RX6 7 "ClappedWrongModel" "page" "[I", Cond.methodLink RX6 119 yX6_tell, Cond.instanceMethod yX6_tell, Cond.selects RX6 yX6_tell yX6_tell, Cond.initialized RX6, Cond.code yX6_tell cX6_tell 3 (some .int), Cond.fieldLink RX6 16 "ClappedWrongModel" "rows" "[I", Cond.fieldLink RX6 19 "ClappedWrongModel" "sounds" "[I", Cond.fieldLink RX6 22 "ClappedWrongModel" "clapped" "[I", Cond.fieldLink RX6 90 "ClappedWrongModel" "armNow" "I", Cond.methodLink RX6 105 yX6_lagOf, Cond.instanceMethod yX6_lagOf, Cond.selects RX6 yX6_lagOf yX6_lagOf, Cond.code yX6_lagOf cX6_lagOf 2 (some .int), Cond.fieldLink RX6 87 "ClappedWrongModel" "late" "I", Cond.methodLink RX6 108 yX6_byLag, Cond.instanceMethod yX6_byLag, Cond.selects RX6 yX6_byLag yX6_byLag, Cond.code yX6_byLag cX6_byLag 4 (some .int), Cond.methodLink RX6 112 yX6_isTired]
def wsX6_digest_r2 : List Cond := [Cond.instanceMethod yX6_isTired, Cond.selects RX6 yX6_isTired yX6_isTired, Cond.code yX6_isTired cX6_isTired 3 (some .boolean), Cond.methodLink RX6 247 yX6_say, Cond.instanceMethod yX6_say, Cond.selects RX6 yX6_say yX6_say, Cond.code yX6_say cX6_say 3 none, Cond.constantLong RX6 239 (31), Cond.methodLink RX6 161 yX6_loudOf, Cond.instanceMethod yX6_loudOf, Cond.selects RX6 yX6_loudOf yX6_loudOf, Cond.code yX6_loudOf cX6_loudOf 7 (some .int), Cond.methodLink RX6 116 yX6_isRow, Cond.instanceMethod yX6_isRow, Cond.selects RX6 yX6_isRow yX6_isRow, Cond.code yX6_isRow cX6_isRow 2 (some .boolean), Cond.methodLink RX6 52 yX6_in, Cond.static yX6_in, Cond.code yX6_in cX6_in 6 (some .boolean), Cond.methodLink RX6 151 yX6_lacks, Cond.instanceMethod yX6_lacks, Cond.selects RX6 yX6_lacks yX6_lacks, Cond.code yX6_lacks cX6_lacks 1 (some .boolean), Cond.methodLink RX6 164 yX6_restOf]
def wsX6_digest_r3 : List Cond := [Cond.instanceMethod yX6_restOf, Cond.selects RX6 yX6_restOf yX6_restOf, Cond.code yX6_restOf cX6_restOf 4 (some .int), Cond.fieldLink RX6 25 "ClappedWrongModel" "now" "[I", Cond.fieldLink RX6 31 "ClappedWrongModel" "ahead" "[I", Cond.methodLink RX6 139 yX6_asItIs, Cond.instanceMethod yX6_asItIs, Cond.selects RX6 yX6_asItIs yX6_asItIs, Cond.code yX6_asItIs cX6_asItIs 2 none, Cond.fieldLink RX6 28 "ClappedWrongModel" "nowLong" "[I", Cond.fieldLink RX6 124 "ClappedWrongModel" "nowArm" "I", Cond.methodLink RX6 136 yX6_pass, Cond.instanceMethod yX6_pass, Cond.selects RX6 yX6_pass yX6_pass, Cond.code yX6_pass cX6_pass 2 none, Cond.methodLink RX6 133 yX6_nextOf, Cond.instanceMethod yX6_nextOf, Cond.selects RX6 yX6_nextOf yX6_nextOf, Cond.code yX6_nextOf cX6_nextOf 4 (some .int), Cond.methodLink RX6 127 yX6_isStubborn, Cond.instanceMethod yX6_isStubborn, Cond.selects RX6 yX6_isStubborn yX6_isStubborn, Cond.code yX6_isStubborn cX6_isStubborn 2 (some .boolean), Cond.methodLink RX6 130 yX6_palmsBy]
def wsX6_digest_r4 : List Cond := [Cond.instanceMethod yX6_palmsBy, Cond.selects RX6 yX6_palmsBy yX6_palmsBy, Cond.code yX6_palmsBy cX6_palmsBy 5 (some .int), Cond.methodLink RX6 173 yX6_outcomeOf, Cond.instanceMethod yX6_outcomeOf, Cond.selects RX6 yX6_outcomeOf yX6_outcomeOf, Cond.code yX6_outcomeOf cX6_outcomeOf 2 (some .int), Cond.methodLink RX6 167 yX6_passAll, Cond.instanceMethod yX6_passAll, Cond.selects RX6 yX6_passAll yX6_passAll, Cond.code yX6_passAll cX6_passAll 3 none, Cond.methodLink RX6 155 yX6_rightNow, Cond.instanceMethod yX6_rightNow, Cond.selects RX6 yX6_rightNow yX6_rightNow, Cond.code yX6_rightNow cX6_rightNow 3 (some .int), Cond.methodLink RX6 178 yX6_trickOf, Cond.instanceMethod yX6_trickOf, Cond.selects RX6 yX6_trickOf yX6_trickOf, Cond.code yX6_trickOf cX6_trickOf 7 (some .int), Cond.methodLink RX6 158 yX6_leaveOut, Cond.instanceMethod yX6_leaveOut, Cond.selects RX6 yX6_leaveOut yX6_leaveOut, Cond.code yX6_leaveOut cX6_leaveOut 2 none, Cond.methodLink RX6 236 yX6_countOf]
def wsX6_digest_r5 : List Cond := [Cond.instanceMethod yX6_countOf, Cond.selects RX6 yX6_countOf yX6_countOf, Cond.code yX6_countOf cX6_countOf 2 (some .int), Cond.fieldLink RX6 93 "ClappedWrongModel" "barNow" "I", Cond.fieldLink RX6 96 "ClappedWrongModel" "skips" "I", Cond.fieldLink RX6 99 "ClappedWrongModel" "recordMany" "I", Cond.fieldLink RX6 102 "ClappedWrongModel" "hallsRead" "I", Cond.fieldLink RX6 181 "ClappedWrongModel" "turnedMany" "I", Cond.fieldLink RX6 193 "ClappedWrongModel" "beganMany" "I", Cond.methodLink RX6 217 yX6_palmsAll, Cond.instanceMethod yX6_palmsAll, Cond.selects RX6 yX6_palmsAll yX6_palmsAll, Cond.code yX6_palmsAll cX6_palmsAll 3 (some .int)]
def wsX6_digest : List Cond := .code yX6_digest cX6_digest 3 (some .long) :: ((wsX6_digest_r1 ++ (wsX6_digest_r2 ++ (wsX6_digest_r3 ++ (wsX6_digest_r4 ++ wsX6_digest_r5)))) ++ wsX60)
def wsJ9_max_7cf53 : List Cond := .code yJ9_max_7cf53 cJ9_max_7cf53 2 (some .int) :: ([])
def wsJ9_min_7cf53 : List Cond := .code yJ9_min_7cf53 cJ9_min_7cf53 2 (some .int) :: ([])
theorem dX0_init_0 : decode cX0_init 0 = .ok (.aload_n 0, 1) := by decide +kernel
theorem dX0_init_1 : decode cX0_init 1 = .ok (.invokespecial 3, 3) := by decide +kernel
theorem dX0_init_4 : decode cX0_init 4 = .ok (.aload_n 0, 1) := by decide +kernel
theorem dX0_init_5 : decode cX0_init 5 = .ok (.bipush 8, 2) := by decide +kernel
theorem dX0_init_7 : decode cX0_init 7 = .ok (.newarray .int, 2) := by decide +kernel
theorem dX0_init_9 : decode cX0_init 9 = .ok (.putfield 9, 3) := by decide +kernel
theorem dX0_init_12 : decode cX0_init 12 = .ok (.aload_n 0, 1) := by decide +kernel
theorem dX0_init_13 : decode cX0_init 13 = .ok (.bipush 8, 2) := by decide +kernel
theorem dX0_init_15 : decode cX0_init 15 = .ok (.newarray .int, 2) := by decide +kernel
theorem dX0_init_17 : decode cX0_init 17 = .ok (.putfield 15, 3) := by decide +kernel
theorem dX0_init_20 : decode cX0_init 20 = .ok (.aload_n 0, 1) := by decide +kernel
theorem dX0_init_21 : decode cX0_init 21 = .ok (.bipush 8, 2) := by decide +kernel
theorem dX0_init_23 : decode cX0_init 23 = .ok (.newarray .int, 2) := by decide +kernel
theorem dX0_init_25 : decode cX0_init 25 = .ok (.putfield 18, 3) := by decide +kernel
theorem dX0_init_28 : decode cX0_init 28 = .ok (.aload_n 0, 1) := by decide +kernel
theorem dX0_init_29 : decode cX0_init 29 = .ok (.iconst 0, 1) := by decide +kernel
theorem dX0_init_30 : decode cX0_init 30 = .ok (.putfield 21, 3) := by decide +kernel
theorem dX0_init_33 : decode cX0_init 33 = .ok (.return_, 1) := by decide +kernel
theorem dX0_takeFrom_0 : decode cX0_takeFrom 0 = .ok (.iconst 0, 1) := by decide +kernel
theorem dX0_takeFrom_1 : decode cX0_takeFrom 1 = .ok (.istore_n 2, 1) := by decide +kernel
theorem dX0_takeFrom_2 : decode cX0_takeFrom 2 = .ok (.iload_n 2, 1) := by decide +kernel
theorem dX0_takeFrom_3 : decode cX0_takeFrom 3 = .ok (.bipush 8, 2) := by decide +kernel
theorem dX0_takeFrom_5 : decode cX0_takeFrom 5 = .ok (.if_icmp .ge 33, 3) := by decide +kernel
theorem dX0_takeFrom_8 : decode cX0_takeFrom 8 = .ok (.aload_n 0, 1) := by decide +kernel
theorem dX0_takeFrom_9 : decode cX0_takeFrom 9 = .ok (.getfield 9, 3) := by decide +kernel
theorem dX0_takeFrom_12 : decode cX0_takeFrom 12 = .ok (.iload_n 2, 1) := by decide +kernel
theorem dX0_takeFrom_13 : decode cX0_takeFrom 13 = .ok (.aload_n 1, 1) := by decide +kernel
theorem dX0_takeFrom_14 : decode cX0_takeFrom 14 = .ok (.getfield 9, 3) := by decide +kernel
theorem dX0_takeFrom_17 : decode cX0_takeFrom 17 = .ok (.iload_n 2, 1) := by decide +kernel
theorem dX0_takeFrom_18 : decode cX0_takeFrom 18 = .ok (.iaload, 1) := by decide +kernel
theorem dX0_takeFrom_19 : decode cX0_takeFrom 19 = .ok (.iastore, 1) := by decide +kernel
theorem dX0_takeFrom_20 : decode cX0_takeFrom 20 = .ok (.aload_n 0, 1) := by decide +kernel
theorem dX0_takeFrom_21 : decode cX0_takeFrom 21 = .ok (.getfield 15, 3) := by decide +kernel
theorem dX0_takeFrom_24 : decode cX0_takeFrom 24 = .ok (.iload_n 2, 1) := by decide +kernel
theorem dX0_takeFrom_25 : decode cX0_takeFrom 25 = .ok (.aload_n 1, 1) := by decide +kernel
theorem dX0_takeFrom_26 : decode cX0_takeFrom 26 = .ok (.getfield 15, 3) := by decide +kernel
theorem dX0_takeFrom_29 : decode cX0_takeFrom 29 = .ok (.iload_n 2, 1) := by decide +kernel
theorem dX0_takeFrom_30 : decode cX0_takeFrom 30 = .ok (.iaload, 1) := by decide +kernel
theorem dX0_takeFrom_31 : decode cX0_takeFrom 31 = .ok (.iastore, 1) := by decide +kernel
theorem dX0_takeFrom_32 : decode cX0_takeFrom 32 = .ok (.iinc 2 1, 3) := by decide +kernel
theorem dX0_takeFrom_35 : decode cX0_takeFrom 35 = .ok (.goto (-33), 3) := by decide +kernel
theorem dX0_takeFrom_38 : decode cX0_takeFrom 38 = .ok (.aload_n 0, 1) := by decide +kernel
theorem dX0_takeFrom_39 : decode cX0_takeFrom 39 = .ok (.aload_n 1, 1) := by decide +kernel
theorem dX0_takeFrom_40 : decode cX0_takeFrom 40 = .ok (.getfield 21, 3) := by decide +kernel
theorem dX0_takeFrom_43 : decode cX0_takeFrom 43 = .ok (.putfield 21, 3) := by decide +kernel
theorem dX0_takeFrom_46 : decode cX0_takeFrom 46 = .ok (.return_, 1) := by decide +kernel
theorem dX0_beginWith_0 : decode cX0_beginWith 0 = .ok (.iconst 0, 1) := by decide +kernel
theorem dX0_beginWith_1 : decode cX0_beginWith 1 = .ok (.istore_n 2, 1) := by decide +kernel
theorem dX0_beginWith_2 : decode cX0_beginWith 2 = .ok (.iload_n 2, 1) := by decide +kernel
theorem dX0_beginWith_3 : decode cX0_beginWith 3 = .ok (.bipush 8, 2) := by decide +kernel
theorem dX0_beginWith_5 : decode cX0_beginWith 5 = .ok (.if_icmp .ge 23, 3) := by decide +kernel
theorem dX0_beginWith_8 : decode cX0_beginWith 8 = .ok (.aload_n 0, 1) := by decide +kernel
theorem dX0_beginWith_9 : decode cX0_beginWith 9 = .ok (.getfield 9, 3) := by decide +kernel
theorem dX0_beginWith_12 : decode cX0_beginWith 12 = .ok (.iload_n 2, 1) := by decide +kernel
theorem dX0_beginWith_13 : decode cX0_beginWith 13 = .ok (.iconst 3, 1) := by decide +kernel
theorem dX0_beginWith_14 : decode cX0_beginWith 14 = .ok (.iastore, 1) := by decide +kernel
theorem dX0_beginWith_15 : decode cX0_beginWith 15 = .ok (.aload_n 0, 1) := by decide +kernel
theorem dX0_beginWith_16 : decode cX0_beginWith 16 = .ok (.getfield 15, 3) := by decide +kernel
theorem dX0_beginWith_19 : decode cX0_beginWith 19 = .ok (.iload_n 2, 1) := by decide +kernel
theorem dX0_beginWith_20 : decode cX0_beginWith 20 = .ok (.iconst 0, 1) := by decide +kernel
theorem dX0_beginWith_21 : decode cX0_beginWith 21 = .ok (.iastore, 1) := by decide +kernel
theorem dX0_beginWith_22 : decode cX0_beginWith 22 = .ok (.iinc 2 1, 3) := by decide +kernel
theorem dX0_beginWith_25 : decode cX0_beginWith 25 = .ok (.goto (-23), 3) := by decide +kernel
theorem dX0_beginWith_28 : decode cX0_beginWith 28 = .ok (.aload_n 0, 1) := by decide +kernel
theorem dX0_beginWith_29 : decode cX0_beginWith 29 = .ok (.iload_n 1, 1) := by decide +kernel
theorem dX0_beginWith_30 : decode cX0_beginWith 30 = .ok (.putfield 21, 3) := by decide +kernel
theorem dX0_beginWith_33 : decode cX0_beginWith 33 = .ok (.return_, 1) := by decide +kernel
theorem dX0_soundOf_0 : decode cX0_soundOf 0 = .ok (.iload_n 1, 1) := by decide +kernel
theorem dX0_soundOf_1 : decode cX0_soundOf 1 = .ok (.ifCond .lt 18, 3) := by decide +kernel
theorem dX0_soundOf_4 : decode cX0_soundOf 4 = .ok (.iload_n 1, 1) := by decide +kernel
theorem dX0_soundOf_5 : decode cX0_soundOf 5 = .ok (.bipush 8, 2) := by decide +kernel
theorem dX0_soundOf_7 : decode cX0_soundOf 7 = .ok (.if_icmp .ge 12, 3) := by decide +kernel
theorem dX0_soundOf_10 : decode cX0_soundOf 10 = .ok (.aload_n 0, 1) := by decide +kernel
theorem dX0_soundOf_11 : decode cX0_soundOf 11 = .ok (.getfield 9, 3) := by decide +kernel
theorem dX0_soundOf_14 : decode cX0_soundOf 14 = .ok (.iload_n 1, 1) := by decide +kernel
theorem dX0_soundOf_15 : decode cX0_soundOf 15 = .ok (.iaload, 1) := by decide +kernel
theorem dX0_soundOf_16 : decode cX0_soundOf 16 = .ok (.goto 4, 3) := by decide +kernel
theorem dX0_soundOf_19 : decode cX0_soundOf 19 = .ok (.iconst 0, 1) := by decide +kernel
theorem dX0_soundOf_20 : decode cX0_soundOf 20 = .ok (.ireturn, 1) := by decide +kernel
theorem dX0_clappedOf_0 : decode cX0_clappedOf 0 = .ok (.iload_n 1, 1) := by decide +kernel
theorem dX0_clappedOf_1 : decode cX0_clappedOf 1 = .ok (.ifCond .lt 18, 3) := by decide +kernel
theorem dX0_clappedOf_4 : decode cX0_clappedOf 4 = .ok (.iload_n 1, 1) := by decide +kernel
theorem dX0_clappedOf_5 : decode cX0_clappedOf 5 = .ok (.bipush 8, 2) := by decide +kernel
theorem dX0_clappedOf_7 : decode cX0_clappedOf 7 = .ok (.if_icmp .ge 12, 3) := by decide +kernel
theorem dX0_clappedOf_10 : decode cX0_clappedOf 10 = .ok (.aload_n 0, 1) := by decide +kernel
theorem dX0_clappedOf_11 : decode cX0_clappedOf 11 = .ok (.getfield 15, 3) := by decide +kernel
theorem dX0_clappedOf_14 : decode cX0_clappedOf 14 = .ok (.iload_n 1, 1) := by decide +kernel
theorem dX0_clappedOf_15 : decode cX0_clappedOf 15 = .ok (.iaload, 1) := by decide +kernel
theorem dX0_clappedOf_16 : decode cX0_clappedOf 16 = .ok (.goto 4, 3) := by decide +kernel
theorem dX0_clappedOf_19 : decode cX0_clappedOf 19 = .ok (.iconst 0, 1) := by decide +kernel
theorem dX0_clappedOf_20 : decode cX0_clappedOf 20 = .ok (.ireturn, 1) := by decide +kernel
theorem dX0_let_0 : decode cX0_let 0 = .ok (.iload_n 1, 1) := by decide +kernel
theorem dX0_let_1 : decode cX0_let 1 = .ok (.ifCond .lt 9, 3) := by decide +kernel
theorem dX0_let_4 : decode cX0_let 4 = .ok (.iload_n 1, 1) := by decide +kernel
theorem dX0_let_5 : decode cX0_let 5 = .ok (.bipush 8, 2) := by decide +kernel
theorem dX0_let_7 : decode cX0_let 7 = .ok (.if_icmp .lt 4, 3) := by decide +kernel
theorem dX0_let_10 : decode cX0_let 10 = .ok (.return_, 1) := by decide +kernel
theorem dX0_let_11 : decode cX0_let 11 = .ok (.aload_n 0, 1) := by decide +kernel
theorem dX0_let_12 : decode cX0_let 12 = .ok (.getfield 9, 3) := by decide +kernel
theorem dX0_let_15 : decode cX0_let 15 = .ok (.iload_n 1, 1) := by decide +kernel
theorem dX0_let_16 : decode cX0_let 16 = .ok (.iload_n 2, 1) := by decide +kernel
theorem dX0_let_17 : decode cX0_let 17 = .ok (.iastore, 1) := by decide +kernel
theorem dX0_let_18 : decode cX0_let 18 = .ok (.iload_n 2, 1) := by decide +kernel
theorem dX0_let_19 : decode cX0_let 19 = .ok (.ifCond .ne 10, 3) := by decide +kernel
theorem dX0_let_22 : decode cX0_let 22 = .ok (.aload_n 0, 1) := by decide +kernel
theorem dX0_let_23 : decode cX0_let 23 = .ok (.getfield 15, 3) := by decide +kernel
theorem dX0_let_26 : decode cX0_let 26 = .ok (.iload_n 1, 1) := by decide +kernel
theorem dX0_let_27 : decode cX0_let 27 = .ok (.iconst 0, 1) := by decide +kernel
theorem dX0_let_28 : decode cX0_let 28 = .ok (.iastore, 1) := by decide +kernel
theorem dX0_let_29 : decode cX0_let 29 = .ok (.return_, 1) := by decide +kernel
set_option maxRecDepth 20000 in
theorem ggX0_isTired_X2_strengthOf : GoodIn wsX0_isTired wsX2_strengthOf := goodIn_r _ [5, 6, 7, 14, 15, 16, 17, 18] (by decide +kernel) (by decide +kernel)
set_option maxRecDepth 20000 in
theorem gX0_isTired_X2_strengthOf : GoodIn wsX0_isTired (wsV RX0 25 RX2 yX2_strengthOf wsX2_strengthOf) := goodIn_app (goodIn_of _ (by decide +kernel)) ggX0_isTired_X2_strengthOf
set_option maxRecDepth 20000 in
theorem ggX0_isTired_X0_clappedOf : GoodIn wsX0_isTired wsX0_clappedOf := goodIn_r _ [12, 13, 19, 20, 21, 22] (by decide +kernel) (by decide +kernel)
set_option maxRecDepth 20000 in
theorem gX0_isTired_X0_clappedOf : GoodIn wsX0_isTired (wsV RX0 31 RX0 yX0_clappedOf wsX0_clappedOf) := goodIn_app (goodIn_of _ (by decide +kernel)) ggX0_isTired_X0_clappedOf
theorem dX0_isTired_0 : decode cX0_isTired 0 = .ok (.aload_n 1, 1) := by decide +kernel
theorem dX0_isTired_1 : decode cX0_isTired 1 = .ok (.iload_n 2, 1) := by decide +kernel
theorem dX0_isTired_2 : decode cX0_isTired 2 = .ok (.invokevirtual 25, 3) := by decide +kernel
theorem dX0_isTired_5 : decode cX0_isTired 5 = .ok (.istore_n 3, 1) := by decide +kernel
theorem dX0_isTired_6 : decode cX0_isTired 6 = .ok (.iload_n 3, 1) := by decide +kernel
theorem dX0_isTired_7 : decode cX0_isTired 7 = .ok (.ifCond .le 16, 3) := by decide +kernel
theorem dX0_isTired_10 : decode cX0_isTired 10 = .ok (.aload_n 0, 1) := by decide +kernel
theorem dX0_isTired_11 : decode cX0_isTired 11 = .ok (.iload_n 2, 1) := by decide +kernel
theorem dX0_isTired_12 : decode cX0_isTired 12 = .ok (.invokevirtual 31, 3) := by decide +kernel
theorem dX0_isTired_15 : decode cX0_isTired 15 = .ok (.iload_n 3, 1) := by decide +kernel
theorem dX0_isTired_16 : decode cX0_isTired 16 = .ok (.if_icmp .lt 7, 3) := by decide +kernel
theorem dX0_isTired_19 : decode cX0_isTired 19 = .ok (.iconst 1, 1) := by decide +kernel
theorem dX0_isTired_20 : decode cX0_isTired 20 = .ok (.goto 4, 3) := by decide +kernel
theorem dX0_isTired_23 : decode cX0_isTired 23 = .ok (.iconst 0, 1) := by decide +kernel
theorem dX0_isTired_24 : decode cX0_isTired 24 = .ok (.ireturn, 1) := by decide +kernel
theorem dX0_seesArm_0 : decode cX0_seesArm 0 = .ok (.iload_n 1, 1) := by decide +kernel
theorem dX0_seesArm_1 : decode cX0_seesArm 1 = .ok (.aload_n 0, 1) := by decide +kernel
theorem dX0_seesArm_2 : decode cX0_seesArm 2 = .ok (.getfield 21, 3) := by decide +kernel
theorem dX0_seesArm_5 : decode cX0_seesArm 5 = .ok (.if_icmp .ge 7, 3) := by decide +kernel
theorem dX0_seesArm_8 : decode cX0_seesArm 8 = .ok (.iconst 1, 1) := by decide +kernel
theorem dX0_seesArm_9 : decode cX0_seesArm 9 = .ok (.goto 4, 3) := by decide +kernel
theorem dX0_seesArm_12 : decode cX0_seesArm 12 = .ok (.iconst 0, 1) := by decide +kernel
theorem dX0_seesArm_13 : decode cX0_seesArm 13 = .ok (.ireturn, 1) := by decide +kernel
set_option maxRecDepth 20000 in
theorem ggX0_goOn_X0_soundNext : GoodIn wsX0_goOn wsX0_soundNext := goodIn_r _ [8, 9, 10, 11, 7, 12, 13, 14, 15, 16, 17, 18, 19, 20, 21, 22, 23, 3, 24, 25, 26, 27, 2, 28, 29, 30, 31, 32, 33, 34, 35, 36, 37, 38, 39, 40, 41, 42, 43, 44, 45, 46, 47, 48, 49, 50, 58, 59, 60, 61, 62, 63, 64, 65, 66] (by decide +kernel) (by decide +kernel)
set_option maxRecDepth 20000 in
theorem gX0_goOn_X0_soundNext : GoodIn wsX0_goOn (wsV RX0 37 RX0 yX0_soundNext wsX0_soundNext) := goodIn_app (goodIn_of _ (by decide +kernel)) ggX0_goOn_X0_soundNext
set_option maxRecDepth 20000 in
theorem ggX0_goOn_X0_let : GoodIn wsX0_goOn wsX0_let := goodIn_r _ [54, 2, 3, 63, 64, 65, 66] (by decide +kernel) (by decide +kernel)
set_option maxRecDepth 20000 in
theorem gX0_goOn_X0_let : GoodIn wsX0_goOn (wsV RX0 41 RX0 yX0_let wsX0_let) := goodIn_app (goodIn_of _ (by decide +kernel)) ggX0_goOn_X0_let
set_option maxRecDepth 20000 in
theorem ggX0_goOn_X5_oneIf : GoodIn wsX0_goOn wsX5_oneIf := goodIn_r _ [57] (by decide +kernel) (by decide +kernel)
set_option maxRecDepth 20000 in
theorem gX0_goOn_X5_oneIf_n45 : GoodIn wsX0_goOn (wsX5_oneIf) := ggX0_goOn_X5_oneIf
theorem dX0_goOn_0 : decode cX0_goOn 0 = .ok (.iconst 0, 1) := by decide +kernel
theorem dX0_goOn_1 : decode cX0_goOn 1 = .ok (.istore_n 2, 1) := by decide +kernel
theorem dX0_goOn_2 : decode cX0_goOn 2 = .ok (.iload_n 2, 1) := by decide +kernel
theorem dX0_goOn_3 : decode cX0_goOn 3 = .ok (.aload_n 1, 1) := by decide +kernel
theorem dX0_goOn_4 : decode cX0_goOn 4 = .ok (.getfield 34, 3) := by decide +kernel
theorem dX0_goOn_7 : decode cX0_goOn 7 = .ok (.if_icmp .ge 21, 3) := by decide +kernel
theorem dX0_goOn_10 : decode cX0_goOn 10 = .ok (.aload_n 0, 1) := by decide +kernel
theorem dX0_goOn_11 : decode cX0_goOn 11 = .ok (.getfield 18, 3) := by decide +kernel
theorem dX0_goOn_14 : decode cX0_goOn 14 = .ok (.iload_n 2, 1) := by decide +kernel
theorem dX0_goOn_15 : decode cX0_goOn 15 = .ok (.aload_n 0, 1) := by decide +kernel
theorem dX0_goOn_16 : decode cX0_goOn 16 = .ok (.aload_n 1, 1) := by decide +kernel
theorem dX0_goOn_17 : decode cX0_goOn 17 = .ok (.iload_n 2, 1) := by decide +kernel
theorem dX0_goOn_18 : decode cX0_goOn 18 = .ok (.invokevirtual 37, 3) := by decide +kernel
theorem dX0_goOn_21 : decode cX0_goOn 21 = .ok (.iastore, 1) := by decide +kernel
theorem dX0_goOn_22 : decode cX0_goOn 22 = .ok (.iinc 2 1, 3) := by decide +kernel
theorem dX0_goOn_25 : decode cX0_goOn 25 = .ok (.goto (-23), 3) := by decide +kernel
theorem dX0_goOn_28 : decode cX0_goOn 28 = .ok (.iconst 0, 1) := by decide +kernel
theorem dX0_goOn_29 : decode cX0_goOn 29 = .ok (.istore_n 2, 1) := by decide +kernel
theorem dX0_goOn_30 : decode cX0_goOn 30 = .ok (.iconst 0, 1) := by decide +kernel
theorem dX0_goOn_31 : decode cX0_goOn 31 = .ok (.istore_n 3, 1) := by decide +kernel
theorem dX0_goOn_32 : decode cX0_goOn 32 = .ok (.iload_n 3, 1) := by decide +kernel
theorem dX0_goOn_33 : decode cX0_goOn 33 = .ok (.aload_n 1, 1) := by decide +kernel
theorem dX0_goOn_34 : decode cX0_goOn 34 = .ok (.getfield 34, 3) := by decide +kernel
theorem dX0_goOn_37 : decode cX0_goOn 37 = .ok (.if_icmp .ge 71, 3) := by decide +kernel
theorem dX0_goOn_40 : decode cX0_goOn 40 = .ok (.iload_n 2, 1) := by decide +kernel
theorem dX0_goOn_41 : decode cX0_goOn 41 = .ok (.ifCond .ne 18, 3) := by decide +kernel
theorem dX0_goOn_44 : decode cX0_goOn 44 = .ok (.aload_n 0, 1) := by decide +kernel
theorem dX0_goOn_45 : decode cX0_goOn 45 = .ok (.getfield 18, 3) := by decide +kernel
theorem dX0_goOn_48 : decode cX0_goOn 48 = .ok (.iload_n 3, 1) := by decide +kernel
theorem dX0_goOn_49 : decode cX0_goOn 49 = .ok (.iaload, 1) := by decide +kernel
theorem dX0_goOn_50 : decode cX0_goOn 50 = .ok (.aload_n 0, 1) := by decide +kernel
theorem dX0_goOn_51 : decode cX0_goOn 51 = .ok (.getfield 9, 3) := by decide +kernel
theorem dX0_goOn_54 : decode cX0_goOn 54 = .ok (.iload_n 3, 1) := by decide +kernel
theorem dX0_goOn_55 : decode cX0_goOn 55 = .ok (.iaload, 1) := by decide +kernel
theorem dX0_goOn_56 : decode cX0_goOn 56 = .ok (.if_icmp .eq 7, 3) := by decide +kernel
theorem dX0_goOn_59 : decode cX0_goOn 59 = .ok (.iconst 1, 1) := by decide +kernel
theorem dX0_goOn_60 : decode cX0_goOn 60 = .ok (.goto 4, 3) := by decide +kernel
theorem dX0_goOn_63 : decode cX0_goOn 63 = .ok (.iconst 0, 1) := by decide +kernel
theorem dX0_goOn_64 : decode cX0_goOn 64 = .ok (.istore_n 2, 1) := by decide +kernel
theorem dX0_goOn_65 : decode cX0_goOn 65 = .ok (.aload_n 0, 1) := by decide +kernel
theorem dX0_goOn_66 : decode cX0_goOn 66 = .ok (.iload_n 3, 1) := by decide +kernel
theorem dX0_goOn_67 : decode cX0_goOn 67 = .ok (.aload_n 0, 1) := by decide +kernel
theorem dX0_goOn_68 : decode cX0_goOn 68 = .ok (.getfield 18, 3) := by decide +kernel
theorem dX0_goOn_71 : decode cX0_goOn 71 = .ok (.iload_n 3, 1) := by decide +kernel
theorem dX0_goOn_72 : decode cX0_goOn 72 = .ok (.iaload, 1) := by decide +kernel
theorem dX0_goOn_73 : decode cX0_goOn 73 = .ok (.invokevirtual 41, 3) := by decide +kernel
theorem dX0_goOn_76 : decode cX0_goOn 76 = .ok (.aload_n 0, 1) := by decide +kernel
theorem dX0_goOn_77 : decode cX0_goOn 77 = .ok (.getfield 15, 3) := by decide +kernel
theorem dX0_goOn_80 : decode cX0_goOn 80 = .ok (.iload_n 3, 1) := by decide +kernel
theorem dX0_goOn_81 : decode cX0_goOn 81 = .ok (.dup2, 1) := by decide +kernel
theorem dX0_goOn_82 : decode cX0_goOn 82 = .ok (.iaload, 1) := by decide +kernel
theorem dX0_goOn_83 : decode cX0_goOn 83 = .ok (.aload_n 0, 1) := by decide +kernel
theorem dX0_goOn_84 : decode cX0_goOn 84 = .ok (.getfield 18, 3) := by decide +kernel
theorem dX0_goOn_87 : decode cX0_goOn 87 = .ok (.iload_n 3, 1) := by decide +kernel
theorem dX0_goOn_88 : decode cX0_goOn 88 = .ok (.iaload, 1) := by decide +kernel
theorem dX0_goOn_89 : decode cX0_goOn 89 = .ok (.ifCond .eq 7, 3) := by decide +kernel
theorem dX0_goOn_92 : decode cX0_goOn 92 = .ok (.iconst 1, 1) := by decide +kernel
theorem dX0_goOn_93 : decode cX0_goOn 93 = .ok (.goto 4, 3) := by decide +kernel
theorem dX0_goOn_96 : decode cX0_goOn 96 = .ok (.iconst 0, 1) := by decide +kernel
theorem dX0_goOn_97 : decode cX0_goOn 97 = .ok (.invokestatic 45, 3) := by decide +kernel
theorem dX0_goOn_100 : decode cX0_goOn 100 = .ok (.iadd, 1) := by decide +kernel
theorem dX0_goOn_101 : decode cX0_goOn 101 = .ok (.iastore, 1) := by decide +kernel
theorem dX0_goOn_102 : decode cX0_goOn 102 = .ok (.iinc 3 1, 3) := by decide +kernel
theorem dX0_goOn_105 : decode cX0_goOn 105 = .ok (.goto (-73), 3) := by decide +kernel
theorem dX0_goOn_108 : decode cX0_goOn 108 = .ok (.iload_n 2, 1) := by decide +kernel
theorem dX0_goOn_109 : decode cX0_goOn 109 = .ok (.ireturn, 1) := by decide +kernel
set_option maxRecDepth 20000 in
theorem ggX0_soundNext_X0_isTired : GoodIn wsX0_soundNext wsX0_isTired := goodIn_r _ [5, 6, 7, 8, 9, 10, 11, 12, 13, 14, 15, 4, 16, 17, 46, 47, 48, 49, 50, 51, 52, 53, 54] (by decide +kernel) (by decide +kernel)
set_option maxRecDepth 20000 in
theorem gX0_soundNext_X0_isTired : GoodIn wsX0_soundNext (wsV RX0 49 RX0 yX0_isTired wsX0_isTired) := goodIn_app (goodIn_of _ (by decide +kernel)) ggX0_soundNext_X0_isTired
set_option maxRecDepth 20000 in
theorem ggX0_soundNext_X0_soundOf : GoodIn wsX0_soundNext wsX0_soundOf := goodIn_r _ [21, 22, 51, 52, 53, 54] (by decide +kernel) (by decide +kernel)
set_option maxRecDepth 20000 in
theorem gX0_soundNext_X0_soundOf : GoodIn wsX0_soundNext (wsV RX0 53 RX0 yX0_soundOf wsX0_soundOf) := goodIn_app (goodIn_of _ (by decide +kernel)) ggX0_soundNext_X0_soundOf
set_option maxRecDepth 20000 in
theorem ggX0_soundNext_X2_isOf : GoodIn wsX0_soundNext wsX2_isOf := goodIn_r _ [26, 27, 28, 29, 9, 30, 11, 31, 46, 47, 48, 49, 50] (by decide +kernel) (by decide +kernel)
set_option maxRecDepth 20000 in
theorem gX0_soundNext_X2_isOf : GoodIn wsX0_soundNext (wsV RX0 56 RX2 yX2_isOf wsX2_isOf) := goodIn_app (goodIn_of _ (by decide +kernel)) ggX0_soundNext_X2_isOf
set_option maxRecDepth 20000 in
theorem ggX0_soundNext_X2_kindOf : GoodIn wsX0_soundNext wsX2_kindOf := goodIn_r _ [30, 11, 31, 46, 47, 48, 49, 50] (by decide +kernel) (by decide +kernel)
set_option maxRecDepth 20000 in
theorem gX0_soundNext_X2_kindOf : GoodIn wsX0_soundNext (wsV RX0 60 RX2 yX2_kindOf wsX2_kindOf) := goodIn_app (goodIn_of _ (by decide +kernel)) ggX0_soundNext_X2_kindOf
set_option maxRecDepth 20000 in
theorem ggX0_soundNext_X0_seesArm : GoodIn wsX0_soundNext wsX0_seesArm := goodIn_r _ [36, 37, 51, 52, 53, 54] (by decide +kernel) (by decide +kernel)
set_option maxRecDepth 20000 in
theorem gX0_soundNext_X0_seesArm : GoodIn wsX0_soundNext (wsV RX0 63 RX0 yX0_seesArm wsX0_seesArm) := goodIn_app (goodIn_of _ (by decide +kernel)) ggX0_soundNext_X0_seesArm
set_option maxRecDepth 20000 in
theorem ggX0_soundNext_X0_soundOfMore : GoodIn wsX0_soundNext wsX0_soundOfMore := goodIn_r _ [41, 42, 43, 44, 4, 45, 22, 32, 28, 29, 9, 30, 11, 31, 18, 19, 20, 21, 46, 47, 48, 49, 50, 51, 52, 53, 54] (by decide +kernel) (by decide +kernel)
set_option maxRecDepth 20000 in
theorem gX0_soundNext_X0_soundOfMore : GoodIn wsX0_soundNext (wsV RX0 67 RX0 yX0_soundOfMore wsX0_soundOfMore) := goodIn_app (goodIn_of _ (by decide +kernel)) ggX0_soundNext_X0_soundOfMore
theorem dX0_soundNext_0 : decode cX0_soundNext 0 = .ok (.aload_n 0, 1) := by decide +kernel
theorem dX0_soundNext_1 : decode cX0_soundNext 1 = .ok (.aload_n 1, 1) := by decide +kernel
theorem dX0_soundNext_2 : decode cX0_soundNext 2 = .ok (.iload_n 2, 1) := by decide +kernel
theorem dX0_soundNext_3 : decode cX0_soundNext 3 = .ok (.invokevirtual 49, 3) := by decide +kernel
theorem dX0_soundNext_6 : decode cX0_soundNext 6 = .ok (.ifCond .eq 5, 3) := by decide +kernel
theorem dX0_soundNext_9 : decode cX0_soundNext 9 = .ok (.iconst 0, 1) := by decide +kernel
theorem dX0_soundNext_10 : decode cX0_soundNext 10 = .ok (.ireturn, 1) := by decide +kernel
theorem dX0_soundNext_11 : decode cX0_soundNext 11 = .ok (.aload_n 0, 1) := by decide +kernel
theorem dX0_soundNext_12 : decode cX0_soundNext 12 = .ok (.iload_n 2, 1) := by decide +kernel
theorem dX0_soundNext_13 : decode cX0_soundNext 13 = .ok (.invokevirtual 53, 3) := by decide +kernel
theorem dX0_soundNext_16 : decode cX0_soundNext 16 = .ok (.istore_n 3, 1) := by decide +kernel
theorem dX0_soundNext_17 : decode cX0_soundNext 17 = .ok (.iload_n 3, 1) := by decide +kernel
theorem dX0_soundNext_18 : decode cX0_soundNext 18 = .ok (.ifCond .ne 5, 3) := by decide +kernel
theorem dX0_soundNext_21 : decode cX0_soundNext 21 = .ok (.iconst 3, 1) := by decide +kernel
theorem dX0_soundNext_22 : decode cX0_soundNext 22 = .ok (.ireturn, 1) := by decide +kernel
theorem dX0_soundNext_23 : decode cX0_soundNext 23 = .ok (.aload_n 1, 1) := by decide +kernel
theorem dX0_soundNext_24 : decode cX0_soundNext 24 = .ok (.iload_n 2, 1) := by decide +kernel
theorem dX0_soundNext_25 : decode cX0_soundNext 25 = .ok (.iconst 1, 1) := by decide +kernel
theorem dX0_soundNext_26 : decode cX0_soundNext 26 = .ok (.invokevirtual 56, 3) := by decide +kernel
theorem dX0_soundNext_29 : decode cX0_soundNext 29 = .ok (.ifCond .eq 5, 3) := by decide +kernel
theorem dX0_soundNext_32 : decode cX0_soundNext 32 = .ok (.iload_n 3, 1) := by decide +kernel
theorem dX0_soundNext_33 : decode cX0_soundNext 33 = .ok (.ireturn, 1) := by decide +kernel
theorem dX0_soundNext_34 : decode cX0_soundNext 34 = .ok (.aload_n 1, 1) := by decide +kernel
theorem dX0_soundNext_35 : decode cX0_soundNext 35 = .ok (.iload_n 2, 1) := by decide +kernel
theorem dX0_soundNext_36 : decode cX0_soundNext 36 = .ok (.invokevirtual 60, 3) := by decide +kernel
theorem dX0_soundNext_39 : decode cX0_soundNext 39 = .ok (.iconst 2, 1) := by decide +kernel
theorem dX0_soundNext_40 : decode cX0_soundNext 40 = .ok (.if_icmp .ne 13, 3) := by decide +kernel
theorem dX0_soundNext_43 : decode cX0_soundNext 43 = .ok (.aload_n 0, 1) := by decide +kernel
theorem dX0_soundNext_44 : decode cX0_soundNext 44 = .ok (.iload_n 2, 1) := by decide +kernel
theorem dX0_soundNext_45 : decode cX0_soundNext 45 = .ok (.invokevirtual 63, 3) := by decide +kernel
theorem dX0_soundNext_48 : decode cX0_soundNext 48 = .ok (.ifCond .eq 5, 3) := by decide +kernel
theorem dX0_soundNext_51 : decode cX0_soundNext 51 = .ok (.iconst 2, 1) := by decide +kernel
theorem dX0_soundNext_52 : decode cX0_soundNext 52 = .ok (.ireturn, 1) := by decide +kernel
theorem dX0_soundNext_53 : decode cX0_soundNext 53 = .ok (.aload_n 0, 1) := by decide +kernel
theorem dX0_soundNext_54 : decode cX0_soundNext 54 = .ok (.aload_n 1, 1) := by decide +kernel
theorem dX0_soundNext_55 : decode cX0_soundNext 55 = .ok (.iload_n 2, 1) := by decide +kernel
theorem dX0_soundNext_56 : decode cX0_soundNext 56 = .ok (.invokevirtual 67, 3) := by decide +kernel
theorem dX0_soundNext_59 : decode cX0_soundNext 59 = .ok (.ireturn, 1) := by decide +kernel
set_option maxRecDepth 20000 in
theorem ggX0_soundOfMore_X0_palmsThatSound : GoodIn wsX0_soundOfMore wsX0_palmsThatSound := goodIn_r _ [5, 6, 18, 19, 20, 21, 22, 23, 24, 25, 26] (by decide +kernel) (by decide +kernel)
set_option maxRecDepth 20000 in
theorem gX0_soundOfMore_X0_palmsThatSound : GoodIn wsX0_soundOfMore (wsV RX0 70 RX0 yX0_palmsThatSound wsX0_palmsThatSound) := goodIn_app (goodIn_of _ (by decide +kernel)) ggX0_soundOfMore_X0_palmsThatSound
set_option maxRecDepth 20000 in
theorem ggX0_soundOfMore_X2_kindOf : GoodIn wsX0_soundOfMore wsX2_kindOf := goodIn_r _ [11, 12, 13, 18, 19, 20, 21, 22] (by decide +kernel) (by decide +kernel)
set_option maxRecDepth 20000 in
theorem gX0_soundOfMore_X2_kindOf : GoodIn wsX0_soundOfMore (wsV RX0 60 RX2 yX2_kindOf wsX2_kindOf) := goodIn_app (goodIn_of _ (by decide +kernel)) ggX0_soundOfMore_X2_kindOf
set_option maxRecDepth 20000 in
theorem ggX0_soundOfMore_X0_soundOf : GoodIn wsX0_soundOfMore wsX0_soundOf := goodIn_r _ [17, 6, 23, 24, 25, 26] (by decide +kernel) (by decide +kernel)
set_option maxRecDepth 20000 in
theorem gX0_soundOfMore_X0_soundOf : GoodIn wsX0_soundOfMore (wsV RX0 53 RX0 yX0_soundOf wsX0_soundOf) := goodIn_app (goodIn_of _ (by decide +kernel)) ggX0_soundOfMore_X0_soundOf
theorem dX0_soundOfMore_0 : decode cX0_soundOfMore 0 = .ok (.iconst 0, 1) := by decide +kernel
theorem dX0_soundOfMore_1 : decode cX0_soundOfMore 1 = .ok (.istore_n 3, 1) := by decide +kernel
theorem dX0_soundOfMore_2 : decode cX0_soundOfMore 2 = .ok (.iconst 0, 1) := by decide +kernel
theorem dX0_soundOfMore_3 : decode cX0_soundOfMore 3 = .ok (.istore 4, 2) := by decide +kernel
theorem dX0_soundOfMore_5 : decode cX0_soundOfMore 5 = .ok (.iload_n 2, 1) := by decide +kernel
theorem dX0_soundOfMore_6 : decode cX0_soundOfMore 6 = .ok (.iconst 1, 1) := by decide +kernel
theorem dX0_soundOfMore_7 : decode cX0_soundOfMore 7 = .ok (.isub, 1) := by decide +kernel
theorem dX0_soundOfMore_8 : decode cX0_soundOfMore 8 = .ok (.istore 5, 2) := by decide +kernel
theorem dX0_soundOfMore_10 : decode cX0_soundOfMore 10 = .ok (.iload 5, 2) := by decide +kernel
theorem dX0_soundOfMore_12 : decode cX0_soundOfMore 12 = .ok (.iload_n 2, 1) := by decide +kernel
theorem dX0_soundOfMore_13 : decode cX0_soundOfMore 13 = .ok (.iconst 1, 1) := by decide +kernel
theorem dX0_soundOfMore_14 : decode cX0_soundOfMore 14 = .ok (.iadd, 1) := by decide +kernel
theorem dX0_soundOfMore_15 : decode cX0_soundOfMore 15 = .ok (.if_icmp .gt 33, 3) := by decide +kernel
theorem dX0_soundOfMore_18 : decode cX0_soundOfMore 18 = .ok (.iload_n 3, 1) := by decide +kernel
theorem dX0_soundOfMore_19 : decode cX0_soundOfMore 19 = .ok (.aload_n 0, 1) := by decide +kernel
theorem dX0_soundOfMore_20 : decode cX0_soundOfMore 20 = .ok (.aload_n 1, 1) := by decide +kernel
theorem dX0_soundOfMore_21 : decode cX0_soundOfMore 21 = .ok (.iload 5, 2) := by decide +kernel
theorem dX0_soundOfMore_23 : decode cX0_soundOfMore 23 = .ok (.iconst 1, 1) := by decide +kernel
theorem dX0_soundOfMore_24 : decode cX0_soundOfMore 24 = .ok (.invokevirtual 70, 3) := by decide +kernel
theorem dX0_soundOfMore_27 : decode cX0_soundOfMore 27 = .ok (.iadd, 1) := by decide +kernel
theorem dX0_soundOfMore_28 : decode cX0_soundOfMore 28 = .ok (.istore_n 3, 1) := by decide +kernel
theorem dX0_soundOfMore_29 : decode cX0_soundOfMore 29 = .ok (.iload 4, 2) := by decide +kernel
theorem dX0_soundOfMore_31 : decode cX0_soundOfMore 31 = .ok (.aload_n 0, 1) := by decide +kernel
theorem dX0_soundOfMore_32 : decode cX0_soundOfMore 32 = .ok (.aload_n 1, 1) := by decide +kernel
theorem dX0_soundOfMore_33 : decode cX0_soundOfMore 33 = .ok (.iload 5, 2) := by decide +kernel
theorem dX0_soundOfMore_35 : decode cX0_soundOfMore 35 = .ok (.iconst 2, 1) := by decide +kernel
theorem dX0_soundOfMore_36 : decode cX0_soundOfMore 36 = .ok (.invokevirtual 70, 3) := by decide +kernel
theorem dX0_soundOfMore_39 : decode cX0_soundOfMore 39 = .ok (.iadd, 1) := by decide +kernel
theorem dX0_soundOfMore_40 : decode cX0_soundOfMore 40 = .ok (.istore 4, 2) := by decide +kernel
theorem dX0_soundOfMore_42 : decode cX0_soundOfMore 42 = .ok (.iinc 5 1, 3) := by decide +kernel
theorem dX0_soundOfMore_45 : decode cX0_soundOfMore 45 = .ok (.goto (-35), 3) := by decide +kernel
theorem dX0_soundOfMore_48 : decode cX0_soundOfMore 48 = .ok (.iload_n 3, 1) := by decide +kernel
theorem dX0_soundOfMore_49 : decode cX0_soundOfMore 49 = .ok (.iload 4, 2) := by decide +kernel
theorem dX0_soundOfMore_51 : decode cX0_soundOfMore 51 = .ok (.if_icmp .eq 15, 3) := by decide +kernel
theorem dX0_soundOfMore_54 : decode cX0_soundOfMore 54 = .ok (.iload_n 3, 1) := by decide +kernel
theorem dX0_soundOfMore_55 : decode cX0_soundOfMore 55 = .ok (.iload 4, 2) := by decide +kernel
theorem dX0_soundOfMore_57 : decode cX0_soundOfMore 57 = .ok (.if_icmp .le 7, 3) := by decide +kernel
theorem dX0_soundOfMore_60 : decode cX0_soundOfMore 60 = .ok (.iconst 1, 1) := by decide +kernel
theorem dX0_soundOfMore_61 : decode cX0_soundOfMore 61 = .ok (.goto 4, 3) := by decide +kernel
theorem dX0_soundOfMore_64 : decode cX0_soundOfMore 64 = .ok (.iconst 2, 1) := by decide +kernel
theorem dX0_soundOfMore_65 : decode cX0_soundOfMore 65 = .ok (.ireturn, 1) := by decide +kernel
theorem dX0_soundOfMore_66 : decode cX0_soundOfMore 66 = .ok (.aload_n 1, 1) := by decide +kernel
theorem dX0_soundOfMore_67 : decode cX0_soundOfMore 67 = .ok (.iload_n 2, 1) := by decide +kernel
theorem dX0_soundOfMore_68 : decode cX0_soundOfMore 68 = .ok (.invokevirtual 60, 3) := by decide +kernel
theorem dX0_soundOfMore_71 : decode cX0_soundOfMore 71 = .ok (.iconst 3, 1) := by decide +kernel
theorem dX0_soundOfMore_72 : decode cX0_soundOfMore 72 = .ok (.if_icmp .ne 7, 3) := by decide +kernel
theorem dX0_soundOfMore_75 : decode cX0_soundOfMore 75 = .ok (.iconst 3, 1) := by decide +kernel
theorem dX0_soundOfMore_76 : decode cX0_soundOfMore 76 = .ok (.goto 8, 3) := by decide +kernel
theorem dX0_soundOfMore_79 : decode cX0_soundOfMore 79 = .ok (.aload_n 0, 1) := by decide +kernel
theorem dX0_soundOfMore_80 : decode cX0_soundOfMore 80 = .ok (.iload_n 2, 1) := by decide +kernel
theorem dX0_soundOfMore_81 : decode cX0_soundOfMore 81 = .ok (.invokevirtual 53, 3) := by decide +kernel
theorem dX0_soundOfMore_84 : decode cX0_soundOfMore 84 = .ok (.ireturn, 1) := by decide +kernel
theorem dX0_palmsThatSound_0 : decode cX0_palmsThatSound 0 = .ok (.iload_n 2, 1) := by decide +kernel
theorem dX0_palmsThatSound_1 : decode cX0_palmsThatSound 1 = .ok (.ifCond .lt 11, 3) := by decide +kernel
theorem dX0_palmsThatSound_4 : decode cX0_palmsThatSound 4 = .ok (.iload_n 2, 1) := by decide +kernel
theorem dX0_palmsThatSound_5 : decode cX0_palmsThatSound 5 = .ok (.aload_n 1, 1) := by decide +kernel
theorem dX0_palmsThatSound_6 : decode cX0_palmsThatSound 6 = .ok (.getfield 34, 3) := by decide +kernel
theorem dX0_palmsThatSound_9 : decode cX0_palmsThatSound 9 = .ok (.if_icmp .lt 5, 3) := by decide +kernel
theorem dX0_palmsThatSound_12 : decode cX0_palmsThatSound 12 = .ok (.iconst 0, 1) := by decide +kernel
theorem dX0_palmsThatSound_13 : decode cX0_palmsThatSound 13 = .ok (.ireturn, 1) := by decide +kernel
theorem dX0_palmsThatSound_14 : decode cX0_palmsThatSound 14 = .ok (.aload_n 0, 1) := by decide +kernel
theorem dX0_palmsThatSound_15 : decode cX0_palmsThatSound 15 = .ok (.getfield 9, 3) := by decide +kernel
theorem dX0_palmsThatSound_18 : decode cX0_palmsThatSound 18 = .ok (.iload_n 2, 1) := by decide +kernel
theorem dX0_palmsThatSound_19 : decode cX0_palmsThatSound 19 = .ok (.iaload, 1) := by decide +kernel
theorem dX0_palmsThatSound_20 : decode cX0_palmsThatSound 20 = .ok (.iload_n 3, 1) := by decide +kernel
theorem dX0_palmsThatSound_21 : decode cX0_palmsThatSound 21 = .ok (.iand, 1) := by decide +kernel
theorem dX0_palmsThatSound_22 : decode cX0_palmsThatSound 22 = .ok (.ifCond .eq 12, 3) := by decide +kernel
theorem dX0_palmsThatSound_25 : decode cX0_palmsThatSound 25 = .ok (.aload_n 1, 1) := by decide +kernel
theorem dX0_palmsThatSound_26 : decode cX0_palmsThatSound 26 = .ok (.getfield 74, 3) := by decide +kernel
theorem dX0_palmsThatSound_29 : decode cX0_palmsThatSound 29 = .ok (.iload_n 2, 1) := by decide +kernel
theorem dX0_palmsThatSound_30 : decode cX0_palmsThatSound 30 = .ok (.iaload, 1) := by decide +kernel
theorem dX0_palmsThatSound_31 : decode cX0_palmsThatSound 31 = .ok (.goto 4, 3) := by decide +kernel
theorem dX0_palmsThatSound_34 : decode cX0_palmsThatSound 34 = .ok (.iconst 0, 1) := by decide +kernel
theorem dX0_palmsThatSound_35 : decode cX0_palmsThatSound 35 = .ok (.ireturn, 1) := by decide +kernel
set_option maxRecDepth 20000 in
theorem ggX0_leaveBeatOut_X2_kindOf : GoodIn wsX0_leaveBeatOut wsX2_kindOf := goodIn_r _ [6, 7, 8, 12, 13, 14, 15, 16] (by decide +kernel) (by decide +kernel)
set_option maxRecDepth 20000 in
theorem gX0_leaveBeatOut_X2_kindOf : GoodIn wsX0_leaveBeatOut (wsV RX0 60 RX2 yX2_kindOf wsX2_kindOf) := goodIn_app (goodIn_of _ (by decide +kernel)) ggX0_leaveBeatOut_X2_kindOf
set_option maxRecDepth 20000 in
theorem ggX0_leaveBeatOut_X5_swapped : GoodIn wsX0_leaveBeatOut wsX5_swapped := goodIn_r _ [11] (by decide +kernel) (by decide +kernel)
set_option maxRecDepth 20000 in
theorem gX0_leaveBeatOut_X5_swapped_n77 : GoodIn wsX0_leaveBeatOut (wsX5_swapped) := ggX0_leaveBeatOut_X5_swapped
theorem dX0_leaveBeatOut_0 : decode cX0_leaveBeatOut 0 = .ok (.iconst 0, 1) := by decide +kernel
theorem dX0_leaveBeatOut_1 : decode cX0_leaveBeatOut 1 = .ok (.istore_n 2, 1) := by decide +kernel
theorem dX0_leaveBeatOut_2 : decode cX0_leaveBeatOut 2 = .ok (.iload_n 2, 1) := by decide +kernel
theorem dX0_leaveBeatOut_3 : decode cX0_leaveBeatOut 3 = .ok (.aload_n 1, 1) := by decide +kernel
theorem dX0_leaveBeatOut_4 : decode cX0_leaveBeatOut 4 = .ok (.getfield 34, 3) := by decide +kernel
theorem dX0_leaveBeatOut_7 : decode cX0_leaveBeatOut 7 = .ok (.if_icmp .ge 33, 3) := by decide +kernel
theorem dX0_leaveBeatOut_10 : decode cX0_leaveBeatOut 10 = .ok (.aload_n 1, 1) := by decide +kernel
theorem dX0_leaveBeatOut_11 : decode cX0_leaveBeatOut 11 = .ok (.iload_n 2, 1) := by decide +kernel
theorem dX0_leaveBeatOut_12 : decode cX0_leaveBeatOut 12 = .ok (.invokevirtual 60, 3) := by decide +kernel
theorem dX0_leaveBeatOut_15 : decode cX0_leaveBeatOut 15 = .ok (.iconst 1, 1) := by decide +kernel
theorem dX0_leaveBeatOut_16 : decode cX0_leaveBeatOut 16 = .ok (.if_icmp .eq 18, 3) := by decide +kernel
theorem dX0_leaveBeatOut_19 : decode cX0_leaveBeatOut 19 = .ok (.aload_n 0, 1) := by decide +kernel
theorem dX0_leaveBeatOut_20 : decode cX0_leaveBeatOut 20 = .ok (.getfield 9, 3) := by decide +kernel
theorem dX0_leaveBeatOut_23 : decode cX0_leaveBeatOut 23 = .ok (.iload_n 2, 1) := by decide +kernel
theorem dX0_leaveBeatOut_24 : decode cX0_leaveBeatOut 24 = .ok (.aload_n 0, 1) := by decide +kernel
theorem dX0_leaveBeatOut_25 : decode cX0_leaveBeatOut 25 = .ok (.getfield 9, 3) := by decide +kernel
theorem dX0_leaveBeatOut_28 : decode cX0_leaveBeatOut 28 = .ok (.iload_n 2, 1) := by decide +kernel
theorem dX0_leaveBeatOut_29 : decode cX0_leaveBeatOut 29 = .ok (.iaload, 1) := by decide +kernel
theorem dX0_leaveBeatOut_30 : decode cX0_leaveBeatOut 30 = .ok (.invokestatic 77, 3) := by decide +kernel
theorem dX0_leaveBeatOut_33 : decode cX0_leaveBeatOut 33 = .ok (.iastore, 1) := by decide +kernel
theorem dX0_leaveBeatOut_34 : decode cX0_leaveBeatOut 34 = .ok (.iinc 2 1, 3) := by decide +kernel
theorem dX0_leaveBeatOut_37 : decode cX0_leaveBeatOut 37 = .ok (.goto (-35), 3) := by decide +kernel
theorem dX0_leaveBeatOut_40 : decode cX0_leaveBeatOut 40 = .ok (.return_, 1) := by decide +kernel
set_option maxRecDepth 20000 in
theorem ggX0_palmsRight_X2_palmsOf : GoodIn wsX0_palmsRight wsX2_palmsOf := goodIn_r _ [6, 7, 8, 9, 10, 11, 12, 13] (by decide +kernel) (by decide +kernel)
set_option maxRecDepth 20000 in
theorem gX0_palmsRight_X2_palmsOf : GoodIn wsX0_palmsRight (wsV RX0 80 RX2 yX2_palmsOf wsX2_palmsOf) := goodIn_app (goodIn_of _ (by decide +kernel)) ggX0_palmsRight_X2_palmsOf
theorem dX0_palmsRight_0 : decode cX0_palmsRight 0 = .ok (.iconst 0, 1) := by decide +kernel
theorem dX0_palmsRight_1 : decode cX0_palmsRight 1 = .ok (.istore_n 2, 1) := by decide +kernel
theorem dX0_palmsRight_2 : decode cX0_palmsRight 2 = .ok (.iconst 0, 1) := by decide +kernel
theorem dX0_palmsRight_3 : decode cX0_palmsRight 3 = .ok (.istore_n 3, 1) := by decide +kernel
theorem dX0_palmsRight_4 : decode cX0_palmsRight 4 = .ok (.iload_n 3, 1) := by decide +kernel
theorem dX0_palmsRight_5 : decode cX0_palmsRight 5 = .ok (.aload_n 1, 1) := by decide +kernel
theorem dX0_palmsRight_6 : decode cX0_palmsRight 6 = .ok (.getfield 34, 3) := by decide +kernel
theorem dX0_palmsRight_9 : decode cX0_palmsRight 9 = .ok (.if_icmp .ge 27, 3) := by decide +kernel
theorem dX0_palmsRight_12 : decode cX0_palmsRight 12 = .ok (.aload_n 0, 1) := by decide +kernel
theorem dX0_palmsRight_13 : decode cX0_palmsRight 13 = .ok (.getfield 9, 3) := by decide +kernel
theorem dX0_palmsRight_16 : decode cX0_palmsRight 16 = .ok (.iload_n 3, 1) := by decide +kernel
theorem dX0_palmsRight_17 : decode cX0_palmsRight 17 = .ok (.iaload, 1) := by decide +kernel
theorem dX0_palmsRight_18 : decode cX0_palmsRight 18 = .ok (.iconst 2, 1) := by decide +kernel
theorem dX0_palmsRight_19 : decode cX0_palmsRight 19 = .ok (.if_icmp .ne 11, 3) := by decide +kernel
theorem dX0_palmsRight_22 : decode cX0_palmsRight 22 = .ok (.iload_n 2, 1) := by decide +kernel
theorem dX0_palmsRight_23 : decode cX0_palmsRight 23 = .ok (.aload_n 1, 1) := by decide +kernel
theorem dX0_palmsRight_24 : decode cX0_palmsRight 24 = .ok (.iload_n 3, 1) := by decide +kernel
theorem dX0_palmsRight_25 : decode cX0_palmsRight 25 = .ok (.invokevirtual 80, 3) := by decide +kernel
theorem dX0_palmsRight_28 : decode cX0_palmsRight 28 = .ok (.iadd, 1) := by decide +kernel
theorem dX0_palmsRight_29 : decode cX0_palmsRight 29 = .ok (.istore_n 2, 1) := by decide +kernel
theorem dX0_palmsRight_30 : decode cX0_palmsRight 30 = .ok (.iinc 3 1, 3) := by decide +kernel
theorem dX0_palmsRight_33 : decode cX0_palmsRight 33 = .ok (.goto (-29), 3) := by decide +kernel
theorem dX0_palmsRight_36 : decode cX0_palmsRight 36 = .ok (.iload_n 2, 1) := by decide +kernel
theorem dX0_palmsRight_37 : decode cX0_palmsRight 37 = .ok (.ireturn, 1) := by decide +kernel
set_option maxRecDepth 20000 in
theorem ggX0_areWillingRight_X2_isOf : GoodIn wsX0_areWillingRight wsX2_isOf := goodIn_r _ [6, 7, 8, 9, 5, 10, 11, 12, 13, 14, 15, 16, 17] (by decide +kernel) (by decide +kernel)
set_option maxRecDepth 20000 in
theorem gX0_areWillingRight_X2_isOf : GoodIn wsX0_areWillingRight (wsV RX0 56 RX2 yX2_isOf wsX2_isOf) := goodIn_app (goodIn_of _ (by decide +kernel)) ggX0_areWillingRight_X2_isOf
theorem dX0_areWillingRight_0 : decode cX0_areWillingRight 0 = .ok (.iconst 0, 1) := by decide +kernel
theorem dX0_areWillingRight_1 : decode cX0_areWillingRight 1 = .ok (.istore_n 2, 1) := by decide +kernel
theorem dX0_areWillingRight_2 : decode cX0_areWillingRight 2 = .ok (.iload_n 2, 1) := by decide +kernel
theorem dX0_areWillingRight_3 : decode cX0_areWillingRight 3 = .ok (.aload_n 1, 1) := by decide +kernel
theorem dX0_areWillingRight_4 : decode cX0_areWillingRight 4 = .ok (.getfield 34, 3) := by decide +kernel
theorem dX0_areWillingRight_7 : decode cX0_areWillingRight 7 = .ok (.if_icmp .ge 30, 3) := by decide +kernel
theorem dX0_areWillingRight_10 : decode cX0_areWillingRight 10 = .ok (.aload_n 0, 1) := by decide +kernel
theorem dX0_areWillingRight_11 : decode cX0_areWillingRight 11 = .ok (.getfield 9, 3) := by decide +kernel
theorem dX0_areWillingRight_14 : decode cX0_areWillingRight 14 = .ok (.iload_n 2, 1) := by decide +kernel
theorem dX0_areWillingRight_15 : decode cX0_areWillingRight 15 = .ok (.iaload, 1) := by decide +kernel
theorem dX0_areWillingRight_16 : decode cX0_areWillingRight 16 = .ok (.iconst 2, 1) := by decide +kernel
theorem dX0_areWillingRight_17 : decode cX0_areWillingRight 17 = .ok (.if_icmp .eq 14, 3) := by decide +kernel
theorem dX0_areWillingRight_20 : decode cX0_areWillingRight 20 = .ok (.aload_n 1, 1) := by decide +kernel
theorem dX0_areWillingRight_21 : decode cX0_areWillingRight 21 = .ok (.iload_n 2, 1) := by decide +kernel
theorem dX0_areWillingRight_22 : decode cX0_areWillingRight 22 = .ok (.iconst 1, 1) := by decide +kernel
theorem dX0_areWillingRight_23 : decode cX0_areWillingRight 23 = .ok (.invokevirtual 56, 3) := by decide +kernel
theorem dX0_areWillingRight_26 : decode cX0_areWillingRight 26 = .ok (.ifCond .ne 5, 3) := by decide +kernel
theorem dX0_areWillingRight_29 : decode cX0_areWillingRight 29 = .ok (.iconst 0, 1) := by decide +kernel
theorem dX0_areWillingRight_30 : decode cX0_areWillingRight 30 = .ok (.ireturn, 1) := by decide +kernel
theorem dX0_areWillingRight_31 : decode cX0_areWillingRight 31 = .ok (.iinc 2 1, 3) := by decide +kernel
theorem dX0_areWillingRight_34 : decode cX0_areWillingRight 34 = .ok (.goto (-32), 3) := by decide +kernel
theorem dX0_areWillingRight_37 : decode cX0_areWillingRight 37 = .ok (.iconst 1, 1) := by decide +kernel
theorem dX0_areWillingRight_38 : decode cX0_areWillingRight 38 = .ok (.ireturn, 1) := by decide +kernel
set_option maxRecDepth 20000 in
theorem ggX0_loudness_X0_palmsThatSound : GoodIn wsX0_loudness wsX0_palmsThatSound := goodIn_r _ [5, 6, 7, 8, 9, 10, 11, 12, 13, 14, 15] (by decide +kernel) (by decide +kernel)
set_option maxRecDepth 20000 in
theorem gX0_loudness_X0_palmsThatSound : GoodIn wsX0_loudness (wsV RX0 70 RX0 yX0_palmsThatSound wsX0_palmsThatSound) := goodIn_app (goodIn_of _ (by decide +kernel)) ggX0_loudness_X0_palmsThatSound
theorem dX0_loudness_0 : decode cX0_loudness 0 = .ok (.iload_n 3, 1) := by decide +kernel
theorem dX0_loudness_1 : decode cX0_loudness 1 = .ok (.iconst 2, 1) := by decide +kernel
theorem dX0_loudness_2 : decode cX0_loudness 2 = .ok (.irem, 1) := by decide +kernel
theorem dX0_loudness_3 : decode cX0_loudness 3 = .ok (.ifCond .ne 7, 3) := by decide +kernel
theorem dX0_loudness_6 : decode cX0_loudness 6 = .ok (.iconst 1, 1) := by decide +kernel
theorem dX0_loudness_7 : decode cX0_loudness 7 = .ok (.goto 4, 3) := by decide +kernel
theorem dX0_loudness_10 : decode cX0_loudness 10 = .ok (.iconst 2, 1) := by decide +kernel
theorem dX0_loudness_11 : decode cX0_loudness 11 = .ok (.istore 4, 2) := by decide +kernel
theorem dX0_loudness_13 : decode cX0_loudness 13 = .ok (.iconst 0, 1) := by decide +kernel
theorem dX0_loudness_14 : decode cX0_loudness 14 = .ok (.istore 5, 2) := by decide +kernel
theorem dX0_loudness_16 : decode cX0_loudness 16 = .ok (.iload_n 2, 1) := by decide +kernel
theorem dX0_loudness_17 : decode cX0_loudness 17 = .ok (.iconst 1, 1) := by decide +kernel
theorem dX0_loudness_18 : decode cX0_loudness 18 = .ok (.isub, 1) := by decide +kernel
theorem dX0_loudness_19 : decode cX0_loudness 19 = .ok (.istore 6, 2) := by decide +kernel
theorem dX0_loudness_21 : decode cX0_loudness 21 = .ok (.iload 6, 2) := by decide +kernel
theorem dX0_loudness_23 : decode cX0_loudness 23 = .ok (.iload_n 2, 1) := by decide +kernel
theorem dX0_loudness_24 : decode cX0_loudness 24 = .ok (.iconst 1, 1) := by decide +kernel
theorem dX0_loudness_25 : decode cX0_loudness 25 = .ok (.iadd, 1) := by decide +kernel
theorem dX0_loudness_26 : decode cX0_loudness 26 = .ok (.if_icmp .gt 23, 3) := by decide +kernel
theorem dX0_loudness_29 : decode cX0_loudness 29 = .ok (.iload 5, 2) := by decide +kernel
theorem dX0_loudness_31 : decode cX0_loudness 31 = .ok (.aload_n 0, 1) := by decide +kernel
theorem dX0_loudness_32 : decode cX0_loudness 32 = .ok (.aload_n 1, 1) := by decide +kernel
theorem dX0_loudness_33 : decode cX0_loudness 33 = .ok (.iload 6, 2) := by decide +kernel
theorem dX0_loudness_35 : decode cX0_loudness 35 = .ok (.iload 4, 2) := by decide +kernel
theorem dX0_loudness_37 : decode cX0_loudness 37 = .ok (.invokevirtual 70, 3) := by decide +kernel
theorem dX0_loudness_40 : decode cX0_loudness 40 = .ok (.iadd, 1) := by decide +kernel
theorem dX0_loudness_41 : decode cX0_loudness 41 = .ok (.istore 5, 2) := by decide +kernel
theorem dX0_loudness_43 : decode cX0_loudness 43 = .ok (.iinc 6 1, 3) := by decide +kernel
theorem dX0_loudness_46 : decode cX0_loudness 46 = .ok (.goto (-25), 3) := by decide +kernel
theorem dX0_loudness_49 : decode cX0_loudness 49 = .ok (.iload 5, 2) := by decide +kernel
theorem dX0_loudness_51 : decode cX0_loudness 51 = .ok (.aload_n 0, 1) := by decide +kernel
theorem dX0_loudness_52 : decode cX0_loudness 52 = .ok (.aload_n 1, 1) := by decide +kernel
theorem dX0_loudness_53 : decode cX0_loudness 53 = .ok (.iload_n 2, 1) := by decide +kernel
theorem dX0_loudness_54 : decode cX0_loudness 54 = .ok (.iconst 2, 1) := by decide +kernel
theorem dX0_loudness_55 : decode cX0_loudness 55 = .ok (.isub, 1) := by decide +kernel
theorem dX0_loudness_56 : decode cX0_loudness 56 = .ok (.iload 4, 2) := by decide +kernel
theorem dX0_loudness_58 : decode cX0_loudness 58 = .ok (.invokevirtual 70, 3) := by decide +kernel
theorem dX0_loudness_61 : decode cX0_loudness 61 = .ok (.iconst 2, 1) := by decide +kernel
theorem dX0_loudness_62 : decode cX0_loudness 62 = .ok (.idiv, 1) := by decide +kernel
theorem dX0_loudness_63 : decode cX0_loudness 63 = .ok (.iadd, 1) := by decide +kernel
theorem dX0_loudness_64 : decode cX0_loudness 64 = .ok (.aload_n 0, 1) := by decide +kernel
theorem dX0_loudness_65 : decode cX0_loudness 65 = .ok (.aload_n 1, 1) := by decide +kernel
theorem dX0_loudness_66 : decode cX0_loudness 66 = .ok (.iload_n 2, 1) := by decide +kernel
theorem dX0_loudness_67 : decode cX0_loudness 67 = .ok (.iconst 2, 1) := by decide +kernel
theorem dX0_loudness_68 : decode cX0_loudness 68 = .ok (.iadd, 1) := by decide +kernel
theorem dX0_loudness_69 : decode cX0_loudness 69 = .ok (.iload 4, 2) := by decide +kernel
theorem dX0_loudness_71 : decode cX0_loudness 71 = .ok (.invokevirtual 70, 3) := by decide +kernel
theorem dX0_loudness_74 : decode cX0_loudness 74 = .ok (.iconst 2, 1) := by decide +kernel
theorem dX0_loudness_75 : decode cX0_loudness 75 = .ok (.idiv, 1) := by decide +kernel
theorem dX0_loudness_76 : decode cX0_loudness 76 = .ok (.iadd, 1) := by decide +kernel
theorem dX0_loudness_77 : decode cX0_loudness 77 = .ok (.ireturn, 1) := by decide +kernel
theorem dX1_init_0 : decode cX1_init 0 = .ok (.aload_n 0, 1) := by decide +kernel
theorem dX1_init_1 : decode cX1_init 1 = .ok (.invokespecial 1, 3) := by decide +kernel
theorem dX1_init_4 : decode cX1_init 4 = .ok (.aload_n 0, 1) := by decide +kernel
theorem dX1_init_5 : decode cX1_init 5 = .ok (.iload_n 1, 1) := by decide +kernel
theorem dX1_init_6 : decode cX1_init 6 = .ok (.putfield 7, 3) := by decide +kernel
theorem dX1_init_9 : decode cX1_init 9 = .ok (.return_, 1) := by decide +kernel
theorem dX1_next_0 : decode cX1_next 0 = .ok (.aload_n 0, 1) := by decide +kernel
theorem dX1_next_1 : decode cX1_next 1 = .ok (.ldc2_w 13, 3) := by decide +kernel
theorem dX1_next_4 : decode cX1_next 4 = .ok (.aload_n 0, 1) := by decide +kernel
theorem dX1_next_5 : decode cX1_next 5 = .ok (.getfield 7, 3) := by decide +kernel
theorem dX1_next_8 : decode cX1_next 8 = .ok (.i2l, 1) := by decide +kernel
theorem dX1_next_9 : decode cX1_next 9 = .ok (.lmul, 1) := by decide +kernel
theorem dX1_next_10 : decode cX1_next 10 = .ok (.ldc2_w 15, 3) := by decide +kernel
theorem dX1_next_13 : decode cX1_next 13 = .ok (.ladd, 1) := by decide +kernel
theorem dX1_next_14 : decode cX1_next 14 = .ok (.ldc2_w 17, 3) := by decide +kernel
theorem dX1_next_17 : decode cX1_next 17 = .ok (.lrem, 1) := by decide +kernel
theorem dX1_next_18 : decode cX1_next 18 = .ok (.l2i, 1) := by decide +kernel
theorem dX1_next_19 : decode cX1_next 19 = .ok (.putfield 7, 3) := by decide +kernel
theorem dX1_next_22 : decode cX1_next 22 = .ok (.iload_n 1, 1) := by decide +kernel
theorem dX1_next_23 : decode cX1_next 23 = .ok (.ifCond .le 15, 3) := by decide +kernel
theorem dX1_next_26 : decode cX1_next 26 = .ok (.aload_n 0, 1) := by decide +kernel
theorem dX1_next_27 : decode cX1_next 27 = .ok (.getfield 7, 3) := by decide +kernel
theorem dX1_next_30 : decode cX1_next 30 = .ok (.ldc 19, 2) := by decide +kernel
theorem dX1_next_32 : decode cX1_next 32 = .ok (.idiv, 1) := by decide +kernel
theorem dX1_next_33 : decode cX1_next 33 = .ok (.iload_n 1, 1) := by decide +kernel
theorem dX1_next_34 : decode cX1_next 34 = .ok (.irem, 1) := by decide +kernel
theorem dX1_next_35 : decode cX1_next 35 = .ok (.goto 4, 3) := by decide +kernel
theorem dX1_next_38 : decode cX1_next 38 = .ok (.iconst 0, 1) := by decide +kernel
theorem dX1_next_39 : decode cX1_next 39 = .ok (.ireturn, 1) := by decide +kernel
theorem dX2_init_0 : decode cX2_init 0 = .ok (.aload_n 0, 1) := by decide +kernel
theorem dX2_init_1 : decode cX2_init 1 = .ok (.invokespecial 3, 3) := by decide +kernel
theorem dX2_init_4 : decode cX2_init 4 = .ok (.aload_n 0, 1) := by decide +kernel
theorem dX2_init_5 : decode cX2_init 5 = .ok (.bipush 8, 2) := by decide +kernel
theorem dX2_init_7 : decode cX2_init 7 = .ok (.newarray .int, 2) := by decide +kernel
theorem dX2_init_9 : decode cX2_init 9 = .ok (.putfield 9, 3) := by decide +kernel
theorem dX2_init_12 : decode cX2_init 12 = .ok (.aload_n 0, 1) := by decide +kernel
theorem dX2_init_13 : decode cX2_init 13 = .ok (.bipush 8, 2) := by decide +kernel
theorem dX2_init_15 : decode cX2_init 15 = .ok (.newarray .int, 2) := by decide +kernel
theorem dX2_init_17 : decode cX2_init 17 = .ok (.putfield 15, 3) := by decide +kernel
theorem dX2_init_20 : decode cX2_init 20 = .ok (.aload_n 0, 1) := by decide +kernel
theorem dX2_init_21 : decode cX2_init 21 = .ok (.bipush 8, 2) := by decide +kernel
theorem dX2_init_23 : decode cX2_init 23 = .ok (.newarray .int, 2) := by decide +kernel
theorem dX2_init_25 : decode cX2_init 25 = .ok (.putfield 18, 3) := by decide +kernel
theorem dX2_init_28 : decode cX2_init 28 = .ok (.aload_n 0, 1) := by decide +kernel
theorem dX2_init_29 : decode cX2_init 29 = .ok (.iconst 0, 1) := by decide +kernel
theorem dX2_init_30 : decode cX2_init 30 = .ok (.putfield 21, 3) := by decide +kernel
theorem dX2_init_33 : decode cX2_init 33 = .ok (.aload_n 0, 1) := by decide +kernel
theorem dX2_init_34 : decode cX2_init 34 = .ok (.iconst 0, 1) := by decide +kernel
theorem dX2_init_35 : decode cX2_init 35 = .ok (.putfield 25, 3) := by decide +kernel
theorem dX2_init_38 : decode cX2_init 38 = .ok (.return_, 1) := by decide +kernel
set_option maxRecDepth 20000 in
theorem ggX2_read_X4_codeAt : GoodIn wsX2_read wsX4_codeAt := goodIn_r _ [14, 15, 16, 17, 18, 108, 109] (by decide +kernel) (by decide +kernel)
set_option maxRecDepth 20000 in
theorem gX2_read_X4_codeAt : GoodIn wsX2_read (wsV RX2 39 RX4 yX4_codeAt wsX4_codeAt) := goodIn_app (goodIn_of _ (by decide +kernel)) ggX2_read_X4_codeAt
set_option maxRecDepth 20000 in
theorem ggX2_read_X4_kindBy : GoodIn wsX2_read wsX4_kindBy := goodIn_r _ [21, 22, 23, 24, 25, 26, 27, 28, 29, 30, 31, 32, 33, 34, 35, 36, 37, 38, 39, 40, 41, 42, 43, 44, 45, 46, 47, 48, 49, 50, 51, 3, 52, 53, 2, 4, 54, 55, 56, 57, 58, 59, 60, 61, 62, 63, 64, 65, 66, 67, 68, 69, 70, 71, 72, 73, 74, 75, 76, 77, 78, 79, 80, 81, 82, 83, 84, 85, 86, 87, 88, 89, 90, 91, 92, 93, 94, 95, 96, 97, 98, 99, 100, 101, 102, 103, 104, 105, 106, 107] (by decide +kernel) (by decide +kernel)
set_option maxRecDepth 20000 in
theorem gX2_read_X4_kindBy : GoodIn wsX2_read (va_wsS RX2 43 yX4_kindBy wsX4_kindBy) := goodIn_app (goodIn_of _ (by decide +kernel)) ggX2_read_X4_kindBy
theorem dX2_read_0 : decode cX2_read 0 = .ok (.aload_n 0, 1) := by decide +kernel
theorem dX2_read_1 : decode cX2_read 1 = .ok (.aload_n 1, 1) := by decide +kernel
theorem dX2_read_2 : decode cX2_read 2 = .ok (.getfield 28, 3) := by decide +kernel
theorem dX2_read_5 : decode cX2_read 5 = .ok (.iconst 4, 1) := by decide +kernel
theorem dX2_read_6 : decode cX2_read 6 = .ok (.idiv, 1) := by decide +kernel
theorem dX2_read_7 : decode cX2_read 7 = .ok (.bipush 8, 2) := by decide +kernel
theorem dX2_read_9 : decode cX2_read 9 = .ok (.invokestatic 33, 3) := by decide +kernel
theorem dX2_read_12 : decode cX2_read 12 = .ok (.putfield 21, 3) := by decide +kernel
theorem dX2_read_15 : decode cX2_read 15 = .ok (.iconst 0, 1) := by decide +kernel
theorem dX2_read_16 : decode cX2_read 16 = .ok (.istore_n 2, 1) := by decide +kernel
theorem dX2_read_17 : decode cX2_read 17 = .ok (.iload_n 2, 1) := by decide +kernel
theorem dX2_read_18 : decode cX2_read 18 = .ok (.aload_n 0, 1) := by decide +kernel
theorem dX2_read_19 : decode cX2_read 19 = .ok (.getfield 21, 3) := by decide +kernel
theorem dX2_read_22 : decode cX2_read 22 = .ok (.if_icmp .ge 61, 3) := by decide +kernel
theorem dX2_read_25 : decode cX2_read 25 = .ok (.aload_n 0, 1) := by decide +kernel
theorem dX2_read_26 : decode cX2_read 26 = .ok (.getfield 9, 3) := by decide +kernel
theorem dX2_read_29 : decode cX2_read 29 = .ok (.iload_n 2, 1) := by decide +kernel
theorem dX2_read_30 : decode cX2_read 30 = .ok (.aload_n 1, 1) := by decide +kernel
theorem dX2_read_31 : decode cX2_read 31 = .ok (.iconst 4, 1) := by decide +kernel
theorem dX2_read_32 : decode cX2_read 32 = .ok (.iload_n 2, 1) := by decide +kernel
theorem dX2_read_33 : decode cX2_read 33 = .ok (.imul, 1) := by decide +kernel
theorem dX2_read_34 : decode cX2_read 34 = .ok (.invokevirtual 39, 3) := by decide +kernel
theorem dX2_read_37 : decode cX2_read 37 = .ok (.invokestatic 43, 3) := by decide +kernel
theorem dX2_read_40 : decode cX2_read 40 = .ok (.iastore, 1) := by decide +kernel
theorem dX2_read_41 : decode cX2_read 41 = .ok (.aload_n 0, 1) := by decide +kernel
theorem dX2_read_42 : decode cX2_read 42 = .ok (.getfield 15, 3) := by decide +kernel
theorem dX2_read_45 : decode cX2_read 45 = .ok (.iload_n 2, 1) := by decide +kernel
theorem dX2_read_46 : decode cX2_read 46 = .ok (.aload_n 1, 1) := by decide +kernel
theorem dX2_read_47 : decode cX2_read 47 = .ok (.iconst 4, 1) := by decide +kernel
theorem dX2_read_48 : decode cX2_read 48 = .ok (.iload_n 2, 1) := by decide +kernel
theorem dX2_read_49 : decode cX2_read 49 = .ok (.imul, 1) := by decide +kernel
theorem dX2_read_50 : decode cX2_read 50 = .ok (.iconst 1, 1) := by decide +kernel
theorem dX2_read_51 : decode cX2_read 51 = .ok (.iadd, 1) := by decide +kernel
theorem dX2_read_52 : decode cX2_read 52 = .ok (.invokevirtual 39, 3) := by decide +kernel
theorem dX2_read_55 : decode cX2_read 55 = .ok (.bipush 48, 2) := by decide +kernel
theorem dX2_read_57 : decode cX2_read 57 = .ok (.isub, 1) := by decide +kernel
theorem dX2_read_58 : decode cX2_read 58 = .ok (.iastore, 1) := by decide +kernel
theorem dX2_read_59 : decode cX2_read 59 = .ok (.aload_n 0, 1) := by decide +kernel
theorem dX2_read_60 : decode cX2_read 60 = .ok (.getfield 18, 3) := by decide +kernel
theorem dX2_read_63 : decode cX2_read 63 = .ok (.iload_n 2, 1) := by decide +kernel
theorem dX2_read_64 : decode cX2_read 64 = .ok (.aload_n 1, 1) := by decide +kernel
theorem dX2_read_65 : decode cX2_read 65 = .ok (.iconst 4, 1) := by decide +kernel
theorem dX2_read_66 : decode cX2_read 66 = .ok (.iload_n 2, 1) := by decide +kernel
theorem dX2_read_67 : decode cX2_read 67 = .ok (.imul, 1) := by decide +kernel
theorem dX2_read_68 : decode cX2_read 68 = .ok (.iconst 2, 1) := by decide +kernel
theorem dX2_read_69 : decode cX2_read 69 = .ok (.iadd, 1) := by decide +kernel
theorem dX2_read_70 : decode cX2_read 70 = .ok (.invokevirtual 39, 3) := by decide +kernel
theorem dX2_read_73 : decode cX2_read 73 = .ok (.bipush 48, 2) := by decide +kernel
theorem dX2_read_75 : decode cX2_read 75 = .ok (.isub, 1) := by decide +kernel
theorem dX2_read_76 : decode cX2_read 76 = .ok (.iastore, 1) := by decide +kernel
theorem dX2_read_77 : decode cX2_read 77 = .ok (.iinc 2 1, 3) := by decide +kernel
theorem dX2_read_80 : decode cX2_read 80 = .ok (.goto (-63), 3) := by decide +kernel
theorem dX2_read_83 : decode cX2_read 83 = .ok (.aload_n 0, 1) := by decide +kernel
theorem dX2_read_84 : decode cX2_read 84 = .ok (.aload_n 1, 1) := by decide +kernel
theorem dX2_read_85 : decode cX2_read 85 = .ok (.iconst 4, 1) := by decide +kernel
theorem dX2_read_86 : decode cX2_read 86 = .ok (.aload_n 0, 1) := by decide +kernel
theorem dX2_read_87 : decode cX2_read 87 = .ok (.getfield 21, 3) := by decide +kernel
theorem dX2_read_90 : decode cX2_read 90 = .ok (.imul, 1) := by decide +kernel
theorem dX2_read_91 : decode cX2_read 91 = .ok (.invokevirtual 39, 3) := by decide +kernel
theorem dX2_read_94 : decode cX2_read 94 = .ok (.bipush 48, 2) := by decide +kernel
theorem dX2_read_96 : decode cX2_read 96 = .ok (.isub, 1) := by decide +kernel
theorem dX2_read_97 : decode cX2_read 97 = .ok (.putfield 25, 3) := by decide +kernel
theorem dX2_read_100 : decode cX2_read 100 = .ok (.return_, 1) := by decide +kernel
theorem dX2_isThere_0 : decode cX2_isThere 0 = .ok (.aload_n 0, 1) := by decide +kernel
theorem dX2_isThere_1 : decode cX2_isThere 1 = .ok (.getfield 21, 3) := by decide +kernel
theorem dX2_isThere_4 : decode cX2_isThere 4 = .ok (.ifCond .le 7, 3) := by decide +kernel
theorem dX2_isThere_7 : decode cX2_isThere 7 = .ok (.iconst 1, 1) := by decide +kernel
theorem dX2_isThere_8 : decode cX2_isThere 8 = .ok (.goto 4, 3) := by decide +kernel
theorem dX2_isThere_11 : decode cX2_isThere 11 = .ok (.iconst 0, 1) := by decide +kernel
theorem dX2_isThere_12 : decode cX2_isThere 12 = .ok (.ireturn, 1) := by decide +kernel
theorem dX2_has_0 : decode cX2_has 0 = .ok (.iload_n 1, 1) := by decide +kernel
theorem dX2_has_1 : decode cX2_has 1 = .ok (.ifCond .lt 15, 3) := by decide +kernel
theorem dX2_has_4 : decode cX2_has 4 = .ok (.iload_n 1, 1) := by decide +kernel
theorem dX2_has_5 : decode cX2_has 5 = .ok (.aload_n 0, 1) := by decide +kernel
theorem dX2_has_6 : decode cX2_has 6 = .ok (.getfield 21, 3) := by decide +kernel
theorem dX2_has_9 : decode cX2_has 9 = .ok (.if_icmp .ge 7, 3) := by decide +kernel
theorem dX2_has_12 : decode cX2_has 12 = .ok (.iconst 1, 1) := by decide +kernel
theorem dX2_has_13 : decode cX2_has 13 = .ok (.goto 4, 3) := by decide +kernel
theorem dX2_has_16 : decode cX2_has 16 = .ok (.iconst 0, 1) := by decide +kernel
theorem dX2_has_17 : decode cX2_has 17 = .ok (.ireturn, 1) := by decide +kernel
theorem dX2_kindOf_0 : decode cX2_kindOf 0 = .ok (.iload_n 1, 1) := by decide +kernel
theorem dX2_kindOf_1 : decode cX2_kindOf 1 = .ok (.ifCond .lt 20, 3) := by decide +kernel
theorem dX2_kindOf_4 : decode cX2_kindOf 4 = .ok (.iload_n 1, 1) := by decide +kernel
theorem dX2_kindOf_5 : decode cX2_kindOf 5 = .ok (.aload_n 0, 1) := by decide +kernel
theorem dX2_kindOf_6 : decode cX2_kindOf 6 = .ok (.getfield 21, 3) := by decide +kernel
theorem dX2_kindOf_9 : decode cX2_kindOf 9 = .ok (.if_icmp .ge 12, 3) := by decide +kernel
theorem dX2_kindOf_12 : decode cX2_kindOf 12 = .ok (.aload_n 0, 1) := by decide +kernel
theorem dX2_kindOf_13 : decode cX2_kindOf 13 = .ok (.getfield 9, 3) := by decide +kernel
theorem dX2_kindOf_16 : decode cX2_kindOf 16 = .ok (.iload_n 1, 1) := by decide +kernel
theorem dX2_kindOf_17 : decode cX2_kindOf 17 = .ok (.iaload, 1) := by decide +kernel
theorem dX2_kindOf_18 : decode cX2_kindOf 18 = .ok (.goto 4, 3) := by decide +kernel
theorem dX2_kindOf_21 : decode cX2_kindOf 21 = .ok (.iconst (-1), 1) := by decide +kernel
theorem dX2_kindOf_22 : decode cX2_kindOf 22 = .ok (.ireturn, 1) := by decide +kernel
theorem dX2_palmsOf_0 : decode cX2_palmsOf 0 = .ok (.iload_n 1, 1) := by decide +kernel
theorem dX2_palmsOf_1 : decode cX2_palmsOf 1 = .ok (.ifCond .lt 20, 3) := by decide +kernel
theorem dX2_palmsOf_4 : decode cX2_palmsOf 4 = .ok (.iload_n 1, 1) := by decide +kernel
theorem dX2_palmsOf_5 : decode cX2_palmsOf 5 = .ok (.aload_n 0, 1) := by decide +kernel
theorem dX2_palmsOf_6 : decode cX2_palmsOf 6 = .ok (.getfield 21, 3) := by decide +kernel
theorem dX2_palmsOf_9 : decode cX2_palmsOf 9 = .ok (.if_icmp .ge 12, 3) := by decide +kernel
theorem dX2_palmsOf_12 : decode cX2_palmsOf 12 = .ok (.aload_n 0, 1) := by decide +kernel
theorem dX2_palmsOf_13 : decode cX2_palmsOf 13 = .ok (.getfield 15, 3) := by decide +kernel
theorem dX2_palmsOf_16 : decode cX2_palmsOf 16 = .ok (.iload_n 1, 1) := by decide +kernel
theorem dX2_palmsOf_17 : decode cX2_palmsOf 17 = .ok (.iaload, 1) := by decide +kernel
theorem dX2_palmsOf_18 : decode cX2_palmsOf 18 = .ok (.goto 4, 3) := by decide +kernel
theorem dX2_palmsOf_21 : decode cX2_palmsOf 21 = .ok (.iconst 0, 1) := by decide +kernel
theorem dX2_palmsOf_22 : decode cX2_palmsOf 22 = .ok (.ireturn, 1) := by decide +kernel
theorem dX2_strengthOf_0 : decode cX2_strengthOf 0 = .ok (.iload_n 1, 1) := by decide +kernel
theorem dX2_strengthOf_1 : decode cX2_strengthOf 1 = .ok (.ifCond .lt 20, 3) := by decide +kernel
theorem dX2_strengthOf_4 : decode cX2_strengthOf 4 = .ok (.iload_n 1, 1) := by decide +kernel
theorem dX2_strengthOf_5 : decode cX2_strengthOf 5 = .ok (.aload_n 0, 1) := by decide +kernel
theorem dX2_strengthOf_6 : decode cX2_strengthOf 6 = .ok (.getfield 21, 3) := by decide +kernel
theorem dX2_strengthOf_9 : decode cX2_strengthOf 9 = .ok (.if_icmp .ge 12, 3) := by decide +kernel
theorem dX2_strengthOf_12 : decode cX2_strengthOf 12 = .ok (.aload_n 0, 1) := by decide +kernel
theorem dX2_strengthOf_13 : decode cX2_strengthOf 13 = .ok (.getfield 18, 3) := by decide +kernel
theorem dX2_strengthOf_16 : decode cX2_strengthOf 16 = .ok (.iload_n 1, 1) := by decide +kernel
theorem dX2_strengthOf_17 : decode cX2_strengthOf 17 = .ok (.iaload, 1) := by decide +kernel
theorem dX2_strengthOf_18 : decode cX2_strengthOf 18 = .ok (.goto 4, 3) := by decide +kernel
theorem dX2_strengthOf_21 : decode cX2_strengthOf 21 = .ok (.iconst 0, 1) := by decide +kernel
theorem dX2_strengthOf_22 : decode cX2_strengthOf 22 = .ok (.ireturn, 1) := by decide +kernel
theorem dX2_lag_0 : decode cX2_lag 0 = .ok (.aload_n 0, 1) := by decide +kernel
theorem dX2_lag_1 : decode cX2_lag 1 = .ok (.getfield 25, 3) := by decide +kernel
theorem dX2_lag_4 : decode cX2_lag 4 = .ok (.ifCond .le 12, 3) := by decide +kernel
theorem dX2_lag_7 : decode cX2_lag 7 = .ok (.iload_n 1, 1) := by decide +kernel
theorem dX2_lag_8 : decode cX2_lag 8 = .ok (.aload_n 0, 1) := by decide +kernel
theorem dX2_lag_9 : decode cX2_lag 9 = .ok (.getfield 25, 3) := by decide +kernel
theorem dX2_lag_12 : decode cX2_lag 12 = .ok (.idiv, 1) := by decide +kernel
theorem dX2_lag_13 : decode cX2_lag 13 = .ok (.goto 4, 3) := by decide +kernel
theorem dX2_lag_16 : decode cX2_lag 16 = .ok (.iconst 0, 1) := by decide +kernel
theorem dX2_lag_17 : decode cX2_lag 17 = .ok (.ireturn, 1) := by decide +kernel
set_option maxRecDepth 20000 in
theorem ggX2_isOf_X2_kindOf : GoodIn wsX2_isOf wsX2_kindOf := goodIn_r _ [5, 6, 7, 8, 9, 10, 11, 12] (by decide +kernel) (by decide +kernel)
set_option maxRecDepth 20000 in
theorem gX2_isOf_X2_kindOf : GoodIn wsX2_isOf (wsV RX2 46 RX2 yX2_kindOf wsX2_kindOf) := goodIn_app (goodIn_of _ (by decide +kernel)) ggX2_isOf_X2_kindOf
theorem dX2_isOf_0 : decode cX2_isOf 0 = .ok (.aload_n 0, 1) := by decide +kernel
theorem dX2_isOf_1 : decode cX2_isOf 1 = .ok (.iload_n 1, 1) := by decide +kernel
theorem dX2_isOf_2 : decode cX2_isOf 2 = .ok (.invokevirtual 46, 3) := by decide +kernel
theorem dX2_isOf_5 : decode cX2_isOf 5 = .ok (.istore_n 3, 1) := by decide +kernel
theorem dX2_isOf_6 : decode cX2_isOf 6 = .ok (.iload_n 2, 1) := by decide +kernel
theorem dX2_isOf_7 : decode cX2_isOf 7 = .ok (.ifCond .eq 18, 3) := by decide +kernel
theorem dX2_isOf_10 : decode cX2_isOf 10 = .ok (.iload_n 2, 1) := by decide +kernel
theorem dX2_isOf_11 : decode cX2_isOf 11 = .ok (.iload_n 3, 1) := by decide +kernel
theorem dX2_isOf_12 : decode cX2_isOf 12 = .ok (.if_icmp .eq 13, 3) := by decide +kernel
theorem dX2_isOf_15 : decode cX2_isOf 15 = .ok (.iload_n 2, 1) := by decide +kernel
theorem dX2_isOf_16 : decode cX2_isOf 16 = .ok (.iconst 1, 1) := by decide +kernel
theorem dX2_isOf_17 : decode cX2_isOf 17 = .ok (.if_icmp .ne 12, 3) := by decide +kernel
theorem dX2_isOf_20 : decode cX2_isOf 20 = .ok (.iload_n 3, 1) := by decide +kernel
theorem dX2_isOf_21 : decode cX2_isOf 21 = .ok (.iconst 4, 1) := by decide +kernel
theorem dX2_isOf_22 : decode cX2_isOf 22 = .ok (.if_icmp .ne 7, 3) := by decide +kernel
theorem dX2_isOf_25 : decode cX2_isOf 25 = .ok (.iconst 1, 1) := by decide +kernel
theorem dX2_isOf_26 : decode cX2_isOf 26 = .ok (.goto 4, 3) := by decide +kernel
theorem dX2_isOf_29 : decode cX2_isOf 29 = .ok (.iconst 0, 1) := by decide +kernel
theorem dX2_isOf_30 : decode cX2_isOf 30 = .ok (.ireturn, 1) := by decide +kernel
theorem dX2_allPalms_0 : decode cX2_allPalms 0 = .ok (.iconst 0, 1) := by decide +kernel
theorem dX2_allPalms_1 : decode cX2_allPalms 1 = .ok (.istore_n 1, 1) := by decide +kernel
theorem dX2_allPalms_2 : decode cX2_allPalms 2 = .ok (.iconst 0, 1) := by decide +kernel
theorem dX2_allPalms_3 : decode cX2_allPalms 3 = .ok (.istore_n 2, 1) := by decide +kernel
theorem dX2_allPalms_4 : decode cX2_allPalms 4 = .ok (.iload_n 2, 1) := by decide +kernel
theorem dX2_allPalms_5 : decode cX2_allPalms 5 = .ok (.aload_n 0, 1) := by decide +kernel
theorem dX2_allPalms_6 : decode cX2_allPalms 6 = .ok (.getfield 21, 3) := by decide +kernel
theorem dX2_allPalms_9 : decode cX2_allPalms 9 = .ok (.if_icmp .ge 18, 3) := by decide +kernel
theorem dX2_allPalms_12 : decode cX2_allPalms 12 = .ok (.iload_n 1, 1) := by decide +kernel
theorem dX2_allPalms_13 : decode cX2_allPalms 13 = .ok (.aload_n 0, 1) := by decide +kernel
theorem dX2_allPalms_14 : decode cX2_allPalms 14 = .ok (.getfield 15, 3) := by decide +kernel
theorem dX2_allPalms_17 : decode cX2_allPalms 17 = .ok (.iload_n 2, 1) := by decide +kernel
theorem dX2_allPalms_18 : decode cX2_allPalms 18 = .ok (.iaload, 1) := by decide +kernel
theorem dX2_allPalms_19 : decode cX2_allPalms 19 = .ok (.iadd, 1) := by decide +kernel
theorem dX2_allPalms_20 : decode cX2_allPalms 20 = .ok (.istore_n 1, 1) := by decide +kernel
theorem dX2_allPalms_21 : decode cX2_allPalms 21 = .ok (.iinc 2 1, 3) := by decide +kernel
theorem dX2_allPalms_24 : decode cX2_allPalms 24 = .ok (.goto (-20), 3) := by decide +kernel
theorem dX2_allPalms_27 : decode cX2_allPalms 27 = .ok (.iload_n 1, 1) := by decide +kernel
theorem dX2_allPalms_28 : decode cX2_allPalms 28 = .ok (.ireturn, 1) := by decide +kernel
set_option maxRecDepth 20000 in
theorem ggX3_init_X0_init : GoodIn wsX3_init wsX0_init := goodIn_r _ [15, 16, 2, 3, 8, 17, 18, 19, 20, 21, 22, 23, 24] (by decide +kernel) (by decide +kernel)
set_option maxRecDepth 20000 in
theorem gX3_init_X0_init : GoodIn wsX3_init (wsX0_init) := ggX3_init_X0_init
theorem dX3_init_0 : decode cX3_init 0 = .ok (.aload_n 0, 1) := by decide +kernel
theorem dX3_init_1 : decode cX3_init 1 = .ok (.invokespecial 3, 3) := by decide +kernel
theorem dX3_init_4 : decode cX3_init 4 = .ok (.aload_n 0, 1) := by decide +kernel
theorem dX3_init_5 : decode cX3_init 5 = .ok (.new 9, 3) := by decide +kernel
theorem dX3_init_8 : decode cX3_init 8 = .ok (.dup, 1) := by decide +kernel
theorem dX3_init_9 : decode cX3_init 9 = .ok (.invokespecial 11, 3) := by decide +kernel
theorem dX3_init_12 : decode cX3_init 12 = .ok (.putfield 12, 3) := by decide +kernel
theorem dX3_init_15 : decode cX3_init 15 = .ok (.aload_n 0, 1) := by decide +kernel
theorem dX3_init_16 : decode cX3_init 16 = .ok (.bipush 8, 2) := by decide +kernel
theorem dX3_init_18 : decode cX3_init 18 = .ok (.newarray .int, 2) := by decide +kernel
theorem dX3_init_20 : decode cX3_init 20 = .ok (.putfield 18, 3) := by decide +kernel
theorem dX3_init_23 : decode cX3_init 23 = .ok (.aload_n 0, 1) := by decide +kernel
theorem dX3_init_24 : decode cX3_init 24 = .ok (.iconst 0, 1) := by decide +kernel
theorem dX3_init_25 : decode cX3_init 25 = .ok (.putfield 22, 3) := by decide +kernel
theorem dX3_init_28 : decode cX3_init 28 = .ok (.aload_n 0, 1) := by decide +kernel
theorem dX3_init_29 : decode cX3_init 29 = .ok (.iconst 0, 1) := by decide +kernel
theorem dX3_init_30 : decode cX3_init 30 = .ok (.putfield 26, 3) := by decide +kernel
theorem dX3_init_33 : decode cX3_init 33 = .ok (.aload_n 0, 1) := by decide +kernel
theorem dX3_init_34 : decode cX3_init 34 = .ok (.iconst 0, 1) := by decide +kernel
theorem dX3_init_35 : decode cX3_init 35 = .ok (.putfield 29, 3) := by decide +kernel
theorem dX3_init_38 : decode cX3_init 38 = .ok (.return_, 1) := by decide +kernel
set_option maxRecDepth 20000 in
theorem ggX3_startAnew_X0_beginWith : GoodIn wsX3_startAnew wsX0_beginWith := goodIn_r _ [9, 10, 11, 12, 18, 19, 20, 21] (by decide +kernel) (by decide +kernel)
set_option maxRecDepth 20000 in
theorem gX3_startAnew_X0_beginWith : GoodIn wsX3_startAnew (wsV RX3 32 RX0 yX0_beginWith wsX0_beginWith) := goodIn_app (goodIn_of _ (by decide +kernel)) ggX3_startAnew_X0_beginWith
theorem dX3_startAnew_0 : decode cX3_startAnew 0 = .ok (.aload_n 0, 1) := by decide +kernel
theorem dX3_startAnew_1 : decode cX3_startAnew 1 = .ok (.getfield 12, 3) := by decide +kernel
theorem dX3_startAnew_4 : decode cX3_startAnew 4 = .ok (.iconst 0, 1) := by decide +kernel
theorem dX3_startAnew_5 : decode cX3_startAnew 5 = .ok (.invokevirtual 32, 3) := by decide +kernel
theorem dX3_startAnew_8 : decode cX3_startAnew 8 = .ok (.aload_n 0, 1) := by decide +kernel
theorem dX3_startAnew_9 : decode cX3_startAnew 9 = .ok (.iconst 0, 1) := by decide +kernel
theorem dX3_startAnew_10 : decode cX3_startAnew 10 = .ok (.putfield 22, 3) := by decide +kernel
theorem dX3_startAnew_13 : decode cX3_startAnew 13 = .ok (.aload_n 0, 1) := by decide +kernel
theorem dX3_startAnew_14 : decode cX3_startAnew 14 = .ok (.iconst 0, 1) := by decide +kernel
theorem dX3_startAnew_15 : decode cX3_startAnew 15 = .ok (.putfield 26, 3) := by decide +kernel
theorem dX3_startAnew_18 : decode cX3_startAnew 18 = .ok (.aload_n 0, 1) := by decide +kernel
theorem dX3_startAnew_19 : decode cX3_startAnew 19 = .ok (.iconst 0, 1) := by decide +kernel
theorem dX3_startAnew_20 : decode cX3_startAnew 20 = .ok (.putfield 29, 3) := by decide +kernel
theorem dX3_startAnew_23 : decode cX3_startAnew 23 = .ok (.return_, 1) := by decide +kernel
set_option maxRecDepth 20000 in
theorem ggX3_takeFrom_X0_takeFrom : GoodIn wsX3_takeFrom wsX0_takeFrom := goodIn_r _ [10, 11, 12, 13, 19, 20, 21, 22] (by decide +kernel) (by decide +kernel)
set_option maxRecDepth 20000 in
theorem gX3_takeFrom_X0_takeFrom : GoodIn wsX3_takeFrom (wsV RX3 36 RX0 yX0_takeFrom wsX0_takeFrom) := goodIn_app (goodIn_of _ (by decide +kernel)) ggX3_takeFrom_X0_takeFrom
theorem dX3_takeFrom_0 : decode cX3_takeFrom 0 = .ok (.aload_n 0, 1) := by decide +kernel
theorem dX3_takeFrom_1 : decode cX3_takeFrom 1 = .ok (.getfield 12, 3) := by decide +kernel
theorem dX3_takeFrom_4 : decode cX3_takeFrom 4 = .ok (.aload_n 1, 1) := by decide +kernel
theorem dX3_takeFrom_5 : decode cX3_takeFrom 5 = .ok (.getfield 12, 3) := by decide +kernel
theorem dX3_takeFrom_8 : decode cX3_takeFrom 8 = .ok (.invokevirtual 36, 3) := by decide +kernel
theorem dX3_takeFrom_11 : decode cX3_takeFrom 11 = .ok (.iconst 0, 1) := by decide +kernel
theorem dX3_takeFrom_12 : decode cX3_takeFrom 12 = .ok (.istore_n 2, 1) := by decide +kernel
theorem dX3_takeFrom_13 : decode cX3_takeFrom 13 = .ok (.iload_n 2, 1) := by decide +kernel
theorem dX3_takeFrom_14 : decode cX3_takeFrom 14 = .ok (.bipush 8, 2) := by decide +kernel
theorem dX3_takeFrom_16 : decode cX3_takeFrom 16 = .ok (.if_icmp .ge 21, 3) := by decide +kernel
theorem dX3_takeFrom_19 : decode cX3_takeFrom 19 = .ok (.aload_n 0, 1) := by decide +kernel
theorem dX3_takeFrom_20 : decode cX3_takeFrom 20 = .ok (.getfield 18, 3) := by decide +kernel
theorem dX3_takeFrom_23 : decode cX3_takeFrom 23 = .ok (.iload_n 2, 1) := by decide +kernel
theorem dX3_takeFrom_24 : decode cX3_takeFrom 24 = .ok (.aload_n 1, 1) := by decide +kernel
theorem dX3_takeFrom_25 : decode cX3_takeFrom 25 = .ok (.getfield 18, 3) := by decide +kernel
theorem dX3_takeFrom_28 : decode cX3_takeFrom 28 = .ok (.iload_n 2, 1) := by decide +kernel
theorem dX3_takeFrom_29 : decode cX3_takeFrom 29 = .ok (.iaload, 1) := by decide +kernel
theorem dX3_takeFrom_30 : decode cX3_takeFrom 30 = .ok (.iastore, 1) := by decide +kernel
theorem dX3_takeFrom_31 : decode cX3_takeFrom 31 = .ok (.iinc 2 1, 3) := by decide +kernel
theorem dX3_takeFrom_34 : decode cX3_takeFrom 34 = .ok (.goto (-21), 3) := by decide +kernel
theorem dX3_takeFrom_37 : decode cX3_takeFrom 37 = .ok (.aload_n 0, 1) := by decide +kernel
theorem dX3_takeFrom_38 : decode cX3_takeFrom 38 = .ok (.aload_n 1, 1) := by decide +kernel
theorem dX3_takeFrom_39 : decode cX3_takeFrom 39 = .ok (.getfield 22, 3) := by decide +kernel
theorem dX3_takeFrom_42 : decode cX3_takeFrom 42 = .ok (.putfield 22, 3) := by decide +kernel
theorem dX3_takeFrom_45 : decode cX3_takeFrom 45 = .ok (.aload_n 0, 1) := by decide +kernel
theorem dX3_takeFrom_46 : decode cX3_takeFrom 46 = .ok (.aload_n 1, 1) := by decide +kernel
theorem dX3_takeFrom_47 : decode cX3_takeFrom 47 = .ok (.getfield 26, 3) := by decide +kernel
theorem dX3_takeFrom_50 : decode cX3_takeFrom 50 = .ok (.putfield 26, 3) := by decide +kernel
theorem dX3_takeFrom_53 : decode cX3_takeFrom 53 = .ok (.aload_n 0, 1) := by decide +kernel
theorem dX3_takeFrom_54 : decode cX3_takeFrom 54 = .ok (.aload_n 1, 1) := by decide +kernel
theorem dX3_takeFrom_55 : decode cX3_takeFrom 55 = .ok (.getfield 29, 3) := by decide +kernel
theorem dX3_takeFrom_58 : decode cX3_takeFrom 58 = .ok (.putfield 29, 3) := by decide +kernel
theorem dX3_takeFrom_61 : decode cX3_takeFrom 61 = .ok (.return_, 1) := by decide +kernel
set_option maxRecDepth 20000 in
theorem ggX3_noteDown_X5_within : GoodIn wsX3_noteDown wsX5_within := goodIn_r _ [5] (by decide +kernel) (by decide +kernel)
set_option maxRecDepth 20000 in
theorem gX3_noteDown_X5_within_n40 : GoodIn wsX3_noteDown (wsX5_within) := ggX3_noteDown_X5_within
theorem dX3_noteDown_0 : decode cX3_noteDown 0 = .ok (.aload_n 0, 1) := by decide +kernel
theorem dX3_noteDown_1 : decode cX3_noteDown 1 = .ok (.getfield 22, 3) := by decide +kernel
theorem dX3_noteDown_4 : decode cX3_noteDown 4 = .ok (.iconst 0, 1) := by decide +kernel
theorem dX3_noteDown_5 : decode cX3_noteDown 5 = .ok (.bipush 7, 2) := by decide +kernel
theorem dX3_noteDown_7 : decode cX3_noteDown 7 = .ok (.invokestatic 40, 3) := by decide +kernel
theorem dX3_noteDown_10 : decode cX3_noteDown 10 = .ok (.ifCond .ne 5, 3) := by decide +kernel
theorem dX3_noteDown_13 : decode cX3_noteDown 13 = .ok (.iconst 0, 1) := by decide +kernel
theorem dX3_noteDown_14 : decode cX3_noteDown 14 = .ok (.ireturn, 1) := by decide +kernel
theorem dX3_noteDown_15 : decode cX3_noteDown 15 = .ok (.aload_n 0, 1) := by decide +kernel
theorem dX3_noteDown_16 : decode cX3_noteDown 16 = .ok (.getfield 18, 3) := by decide +kernel
theorem dX3_noteDown_19 : decode cX3_noteDown 19 = .ok (.aload_n 0, 1) := by decide +kernel
theorem dX3_noteDown_20 : decode cX3_noteDown 20 = .ok (.getfield 22, 3) := by decide +kernel
theorem dX3_noteDown_23 : decode cX3_noteDown 23 = .ok (.iload_n 1, 1) := by decide +kernel
theorem dX3_noteDown_24 : decode cX3_noteDown 24 = .ok (.iastore, 1) := by decide +kernel
theorem dX3_noteDown_25 : decode cX3_noteDown 25 = .ok (.aload_n 0, 1) := by decide +kernel
theorem dX3_noteDown_26 : decode cX3_noteDown 26 = .ok (.dup, 1) := by decide +kernel
theorem dX3_noteDown_27 : decode cX3_noteDown 27 = .ok (.getfield 22, 3) := by decide +kernel
theorem dX3_noteDown_30 : decode cX3_noteDown 30 = .ok (.iconst 1, 1) := by decide +kernel
theorem dX3_noteDown_31 : decode cX3_noteDown 31 = .ok (.iadd, 1) := by decide +kernel
theorem dX3_noteDown_32 : decode cX3_noteDown 32 = .ok (.putfield 22, 3) := by decide +kernel
theorem dX3_noteDown_35 : decode cX3_noteDown 35 = .ok (.iconst 1, 1) := by decide +kernel
theorem dX3_noteDown_36 : decode cX3_noteDown 36 = .ok (.ireturn, 1) := by decide +kernel
set_option maxRecDepth 20000 in
theorem ggX3_recordedAt_X5_within : GoodIn wsX3_recordedAt wsX5_within := goodIn_r _ [4] (by decide +kernel) (by decide +kernel)
set_option maxRecDepth 20000 in
theorem gX3_recordedAt_X5_within_n40 : GoodIn wsX3_recordedAt (wsX5_within) := ggX3_recordedAt_X5_within
theorem dX3_recordedAt_0 : decode cX3_recordedAt 0 = .ok (.iload_n 1, 1) := by decide +kernel
theorem dX3_recordedAt_1 : decode cX3_recordedAt 1 = .ok (.iconst 0, 1) := by decide +kernel
theorem dX3_recordedAt_2 : decode cX3_recordedAt 2 = .ok (.bipush 7, 2) := by decide +kernel
theorem dX3_recordedAt_4 : decode cX3_recordedAt 4 = .ok (.invokestatic 40, 3) := by decide +kernel
theorem dX3_recordedAt_7 : decode cX3_recordedAt 7 = .ok (.ifCond .eq 12, 3) := by decide +kernel
theorem dX3_recordedAt_10 : decode cX3_recordedAt 10 = .ok (.aload_n 0, 1) := by decide +kernel
theorem dX3_recordedAt_11 : decode cX3_recordedAt 11 = .ok (.getfield 18, 3) := by decide +kernel
theorem dX3_recordedAt_14 : decode cX3_recordedAt 14 = .ok (.iload_n 1, 1) := by decide +kernel
theorem dX3_recordedAt_15 : decode cX3_recordedAt 15 = .ok (.iaload, 1) := by decide +kernel
theorem dX3_recordedAt_16 : decode cX3_recordedAt 16 = .ok (.goto 4, 3) := by decide +kernel
theorem dX3_recordedAt_19 : decode cX3_recordedAt 19 = .ok (.iconst 0, 1) := by decide +kernel
theorem dX3_recordedAt_20 : decode cX3_recordedAt 20 = .ok (.ireturn, 1) := by decide +kernel
theorem dX4_init_0 : decode cX4_init 0 = .ok (.aload_n 0, 1) := by decide +kernel
theorem dX4_init_1 : decode cX4_init 1 = .ok (.invokespecial 3, 3) := by decide +kernel
theorem dX4_init_4 : decode cX4_init 4 = .ok (.aload_n 0, 1) := by decide +kernel
theorem dX4_init_5 : decode cX4_init 5 = .ok (.bipush 36, 2) := by decide +kernel
theorem dX4_init_7 : decode cX4_init 7 = .ok (.newarray .int, 2) := by decide +kernel
theorem dX4_init_9 : decode cX4_init 9 = .ok (.putfield 9, 3) := by decide +kernel
theorem dX4_init_12 : decode cX4_init 12 = .ok (.aload_n 0, 1) := by decide +kernel
theorem dX4_init_13 : decode cX4_init 13 = .ok (.iconst 0, 1) := by decide +kernel
theorem dX4_init_14 : decode cX4_init 14 = .ok (.putfield 15, 3) := by decide +kernel
theorem dX4_init_17 : decode cX4_init 17 = .ok (.return_, 1) := by decide +kernel
theorem dX4_write_0 : decode cX4_write 0 = .ok (.aload_n 0, 1) := by decide +kernel
theorem dX4_write_1 : decode cX4_write 1 = .ok (.getfield 15, 3) := by decide +kernel
theorem dX4_write_4 : decode cX4_write 4 = .ok (.ifCond .lt 15, 3) := by decide +kernel
theorem dX4_write_7 : decode cX4_write 7 = .ok (.aload_n 0, 1) := by decide +kernel
theorem dX4_write_8 : decode cX4_write 8 = .ok (.getfield 15, 3) := by decide +kernel
theorem dX4_write_11 : decode cX4_write 11 = .ok (.aload_n 0, 1) := by decide +kernel
theorem dX4_write_12 : decode cX4_write 12 = .ok (.getfield 9, 3) := by decide +kernel
theorem dX4_write_15 : decode cX4_write 15 = .ok (.arraylength, 1) := by decide +kernel
