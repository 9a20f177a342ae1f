def wsX6_winningShare_r2 : List Cond := [Cond.code yX4_ruleSet cX4_ruleSet 1 (some .int), Cond.fieldLink RX4 19 "CairnGame$State" "greatest" "I", Cond.fieldLink RX4 22 "CairnGame$State" "splitting" "Z", Cond.fieldLink RX4 26 "CairnGame$State" "merging" "Z", Cond.static yX6_bit, Cond.code yX6_bit cX6_bit 1 (some .int), Cond.methodLink RX3 35 yX2_init, Cond.instanceMethod yX2_init, Cond.code yX2_init cX2_init 1 none, Cond.methodLink RX2 3 objectInit, Cond.instanceMethod objectInit, Cond.code objectInit ⟨#[0xb1]⟩ 1 none, Cond.arrayClass .int, Cond.fieldLink RX2 9 "CairnGame$Solution" "numbers" "[I", Cond.fieldLink RX2 15 "CairnGame$Solution" "longest" "[I", Cond.fieldLink RX2 18 "CairnGame$Solution" "shortest" "[I", Cond.arrayClass .boolean, Cond.fieldLink RX2 21 "CairnGame$Solution" "wonTurned" "[Z", Cond.fieldLink RX2 25 "CairnGame$Solution" "solvedStones" "I", Cond.methodLink RX3 36 yX4_total, Cond.instanceMethod yX4_total, Cond.selects RX4 yX4_total yX4_total, Cond.code yX4_total cX4_total 3 (some .int), Cond.fieldLink RX4 15 "CairnGame$State" "count" "I"]
def wsX6_winningShare_r3 : List Cond := [Cond.fieldLink RX4 9 "CairnGame$State" "sizes" "[I", Cond.methodLink RX3 43 yX4_copyFrom, Cond.instanceMethod yX4_copyFrom, Cond.selects RX4 yX4_copyFrom yX4_copyFrom, Cond.code yX4_copyFrom cX4_copyFrom 2 none, Cond.methodLink RX4 35 arraycopyName, Cond.native arraycopyName, Cond.static arraycopyName, Cond.initialized "java/lang/System", Cond.fieldLink RX4 29 "CairnGame$State" "normal" "Z", Cond.fieldLink RX4 32 "CairnGame$State" "madeOfKind" "[I", Cond.methodLink RX3 47 yX3_solveAll, Cond.instanceMethod yX3_solveAll, Cond.selects RX3 yX3_solveAll yX3_solveAll, Cond.code yX3_solveAll cX3_solveAll 5 none, Cond.fieldLink RX3 27 "CairnGame$Solver" "list" "LCairnGame$MoveList;", Cond.methodLink RX3 51 yX3_startWithOnes, Cond.instanceMethod yX3_startWithOnes, Cond.selects RX3 yX3_startWithOnes yX3_startWithOnes, Cond.code yX3_startWithOnes cX3_startWithOnes 2 none, Cond.fieldLink RX3 69 "CairnGame$State" "count" "I", Cond.methodLink RX3 72 yX3_appendOnes, Cond.instanceMethod yX3_appendOnes, Cond.selects RX3 yX3_appendOnes yX3_appendOnes]
def wsX6_winningShare_r4 : List Cond := [Cond.code yX3_appendOnes cX3_appendOnes 3 none, Cond.methodLink RX3 79 yX4_insert, Cond.instanceMethod yX4_insert, Cond.selects RX4 yX4_insert yX4_insert, Cond.code yX4_insert cX4_insert 4 none, Cond.methodLink RX3 55 yX1_fill, Cond.instanceMethod yX1_fill, Cond.selects RX1 yX1_fill yX1_fill, Cond.initialized RX1, Cond.code yX1_fill cX1_fill 3 none, Cond.fieldLink RX1 24 "CairnGame$MoveList" "count" "I", Cond.fieldLink RX1 38 "CairnGame$State" "splitting" "Z", Cond.fieldLink RX1 45 "CairnGame$State" "merging" "Z", Cond.methodLink RX1 28 yX4_slot, Cond.instanceMethod yX4_slot, Cond.selects RX4 yX4_slot yX4_slot, Cond.code yX4_slot cX4_slot 3 (some .int), Cond.static yX6_weightOf, Cond.code yX6_weightOf cX6_weightOf 1 (some .int), Cond.fieldLink RX6 276 "CairnGame" "WEIGHTS" "[I", Cond.methodLink RX1 34 yX1_addTakes, Cond.instanceMethod yX1_addTakes, Cond.selects RX1 yX1_addTakes yX1_addTakes, Cond.code yX1_addTakes cX1_addTakes 8 none]
def wsX6_winningShare_r5 : List Cond := [Cond.fieldLink RX1 51 "CairnGame$State" "count" "I", Cond.fieldLink RX1 52 "CairnGame$State" "sizes" "[I", Cond.fieldLink RX1 59 "CairnGame$State" "greatest" "I", Cond.methodLink RX1 62 Lib.Math.min.name, Cond.static Lib.Math.min.name, Cond.initialized "java/lang/Math", Cond.code Lib.Math.min.name Lib.Math.min.code 2 (some .int), Cond.methodLink RX1 68 yX1_add, Cond.instanceMethod yX1_add, Cond.selects RX1 yX1_add yX1_add, Cond.code yX1_add cX1_add 5 none, Cond.fieldLink RX1 9 "CairnGame$MoveList" "kinds" "[I", Cond.fieldLink RX1 15 "CairnGame$MoveList" "heaps" "[I", Cond.fieldLink RX1 18 "CairnGame$MoveList" "amounts" "[I", Cond.fieldLink RX1 21 "CairnGame$MoveList" "behind" "[I", Cond.methodLink RX1 42 yX1_addSplits, Cond.instanceMethod yX1_addSplits, Cond.selects RX1 yX1_addSplits yX1_addSplits, Cond.code yX1_addSplits cX1_addSplits 7 none, Cond.methodLink RX1 48 yX1_addMerges, Cond.instanceMethod yX1_addMerges, Cond.selects RX1 yX1_addMerges yX1_addMerges, Cond.code yX1_addMerges cX1_addMerges 8 none, Cond.methodLink RX3 58 yX4_slot]
def wsX6_winningShare_r6 : List Cond := [Cond.methodLink RX3 61 yX2_enter, Cond.instanceMethod yX2_enter, Cond.selects RX2 yX2_enter yX2_enter, Cond.code yX2_enter cX2_enter 10 none, Cond.fieldLink RX2 29 "CairnGame$MoveList" "count" "I", Cond.fieldLink RX2 34 "CairnGame$MoveList" "behind" "[I", Cond.methodLink RX2 37 Lib.Math.max.name, Cond.static Lib.Math.max.name, Cond.code Lib.Math.max.name Lib.Math.max.code 2 (some .int), Cond.methodLink RX2 43 Lib.Math.min.name, Cond.methodLink RX2 46 yX2_leastMissing, Cond.static yX2_leastMissing, Cond.code yX2_leastMissing cX2_leastMissing 3 (some .int), Cond.methodLink RX3 65 yX3_stepOn, Cond.instanceMethod yX3_stepOn, Cond.selects RX3 yX3_stepOn yX3_stepOn, Cond.code yX3_stepOn cX3_stepOn 5 (some .boolean), Cond.fieldLink RX3 75 "CairnGame$State" "sizes" "[I", Cond.methodLink RX6 141 yX1_fill, Cond.methodLink RX6 164 yX6_isWinner, Cond.instanceMethod yX6_isWinner, Cond.selects RX6 yX6_isWinner yX6_isWinner, Cond.code yX6_isWinner cX6_isWinner 3 (some .boolean), Cond.fieldLink RX6 171 "CairnGame$MoveList" "behind" "[I"]
def wsX6_winningShare_r7 : List Cond := [Cond.fieldLink RX6 87 "CairnGame$State" "normal" "Z", Cond.methodLink RX6 160 yX2_isWonAt, Cond.instanceMethod yX2_isWonAt, Cond.selects RX2 yX2_isWonAt yX2_isWonAt, Cond.code yX2_isWonAt cX2_isWonAt 3 (some .boolean), Cond.methodLink RX6 180 yX6_moves, Cond.instanceMethod yX6_moves, Cond.selects RX6 yX6_moves yX6_moves, Cond.code yX6_moves cX6_moves 1 (some .int)]
def wsX6_winningShare : List Cond := .code yX6_winningShare cX6_winningShare 3 (some .double) :: ((wsX6_winningShare_r1 ++ (wsX6_winningShare_r2 ++ (wsX6_winningShare_r3 ++ (wsX6_winningShare_r4 ++ (wsX6_winningShare_r5 ++ (wsX6_winningShare_r6 ++ wsX6_winningShare_r7)))))) ++ wsX60 ++ wsX10 ++ wsX30 ++ wsX20 ++ wsX40)
def wsJ9_max_7cf53 : List Cond := .code yJ9_max_7cf53 cJ9_max_7cf53 2 (some .int) :: ([])
def wsJ9_min_7cf53 : List Cond := .code yJ9_min_7cf53 cJ9_min_7cf53 2 (some .int) :: ([])
def wsL_cell : List Cond := .code yL_cell cL_cell 2 (some .int) :: ([.constant RL 7 (1000308137), .constant RL 8 (751363311)])
def wsL_low : List Cond := .code yL_low cL_low 2 (some .int) :: ([.constant RL 9 (2147483647)])
def wsL_radix : List Cond := .code yL_radix cL_radix 1 (some .int) :: ([])
def wsL_code : List Cond := .code yL_code cL_code 3 (some .int) :: ([.methodLink RL 10 yL_radix, .static yL_radix, .initialized RL, .code yL_radix cL_radix 1 (some .int)])
def wsL_decode : List Cond := .code yL_decode cL_decode 4 none :: ([.methodLink RL 10 yL_radix, .static yL_radix, .initialized RL, .code yL_radix cL_radix 1 (some .int)])
def wsL_find : List Cond := .code yL_find cL_find 3 (some .int) :: ([])
def wsL_lay : List Cond := .code yL_lay cL_lay 8 none :: ([.arrayClass .int, .methodLink RL 16 yL_decode, .static yL_decode, .initialized RL, .code yL_decode cL_decode 4 none, .methodLink RL 10 yL_radix, .static yL_radix, .code yL_radix cL_radix 1 (some .int)])
def wsL_note : List Cond := .code yL_note cL_note 8 (some .long) :: ([])
def wsL_learn : List Cond := .code yL_learn cL_learn 12 none :: ([.arrayClass .int, .methodLink RL 16 yL_decode, .static yL_decode, .initialized RL, .code yL_decode cL_decode 4 none, .methodLink RL 10 yL_radix, .static yL_radix, .code yL_radix cL_radix 1 (some .int), .methodLink RL 20 yL_code, .static yL_code, .code yL_code cL_code 3 (some .int), .methodLink RL 24 yL_find, .static yL_find, .code yL_find cL_find 3 (some .int), .methodLink RL 28 yL_note, .static yL_note, .code yL_note cL_note 8 (some .long)])
def wsL_here : List Cond := .code yL_here cL_here 4 (some .int) :: ([.arrayClass .int, .methodLink RL 20 yL_code, .static yL_code, .initialized RL, .code yL_code cL_code 3 (some .int), .methodLink RL 10 yL_radix, .static yL_radix, .code yL_radix cL_radix 1 (some .int)])
def wsL_move : List Cond := .code yL_move cL_move 7 (some .int) :: ([])
def wsL_won : List Cond := .code yL_won cL_won 4 (some .boolean) :: ([])
def wsL_same_r1 : List Cond := [Cond.arrayClass .int, Cond.methodLink RL 20 yL_code, Cond.static yL_code, Cond.initialized RL, Cond.code yL_code cL_code 3 (some .int), Cond.methodLink RL 10 yL_radix, Cond.static yL_radix, Cond.code yL_radix cL_radix 1 (some .int), Cond.methodLink RL 24 yL_find, Cond.static yL_find, Cond.code yL_find cL_find 3 (some .int), Cond.methodLink RL 32 yX6_stonesOf, Cond.instanceMethod yX6_stonesOf, Cond.selects RX6 yX6_stonesOf yX6_stonesOf, Cond.initialized RX6, Cond.code yX6_stonesOf cX6_stonesOf 2 (some .int), Cond.fieldLink RX6 12 "CairnGame" "state" "LCairnGame$State;", Cond.methodLink RX6 90 yX6_requireHeap, Cond.instanceMethod yX6_requireHeap, Cond.selects RX6 yX6_requireHeap yX6_requireHeap, Cond.code yX6_requireHeap cX6_requireHeap 2 none, Cond.classLink RX6 283 "java/lang/IndexOutOfBoundsException", Cond.initialized "java/lang/IndexOutOfBoundsException", Cond.methodLink RX6 279 yX4_hasHeap]
def wsL_same_r2 : List Cond := [Cond.instanceMethod yX4_hasHeap, Cond.selects RX4 yX4_hasHeap yX4_hasHeap, Cond.initialized RX4, Cond.code yX4_hasHeap cX4_hasHeap 2 (some .boolean), Cond.fieldLink RX4 15 "CairnGame$State" "count" "I", Cond.methodLink RX6 113 yX4_sizeAt, Cond.instanceMethod yX4_sizeAt, Cond.selects RX4 yX4_sizeAt yX4_sizeAt, Cond.code yX4_sizeAt cX4_sizeAt 2 (some .int), Cond.fieldLink RX4 9 "CairnGame$State" "sizes" "[I", Cond.methodLink RX4 41 yX4_hasHeap, Cond.methodLink RL 37 yL_move, Cond.static yL_move, Cond.code yL_move cL_move 7 (some .int), Cond.methodLink RL 41 yL_here, Cond.static yL_here, Cond.code yL_here cL_here 4 (some .int), Cond.methodLink RL 44 yL_won, Cond.static yL_won, Cond.code yL_won cL_won 4 (some .boolean), Cond.methodLink RL 48 yX6_kindOf, Cond.instanceMethod yX6_kindOf, Cond.selects RX6 yX6_kindOf yX6_kindOf, Cond.code yX6_kindOf cX6_kindOf 2 (some .int)]
def wsL_same_r3 : List Cond := [Cond.fieldLink RX6 26 "CairnGame" "list" "LCairnGame$MoveList;", Cond.fieldLink RX6 120 "CairnGame$MoveList" "kinds" "[I", Cond.methodLink RX6 117 yX6_requireListed, Cond.instanceMethod yX6_requireListed, Cond.selects RX6 yX6_requireListed yX6_requireListed, Cond.code yX6_requireListed cX6_requireListed 2 none, Cond.fieldLink RX6 144 "CairnGame$MoveList" "count" "I", Cond.methodLink RX6 141 yX1_fill, Cond.instanceMethod yX1_fill, Cond.selects RX1 yX1_fill yX1_fill, Cond.initialized RX1, Cond.code yX1_fill cX1_fill 3 none, Cond.fieldLink RX1 24 "CairnGame$MoveList" "count" "I", Cond.fieldLink RX1 38 "CairnGame$State" "splitting" "Z", Cond.fieldLink RX1 45 "CairnGame$State" "merging" "Z", Cond.methodLink RX1 28 yX4_slot, Cond.instanceMethod yX4_slot, Cond.selects RX4 yX4_slot yX4_slot, Cond.code yX4_slot cX4_slot 3 (some .int), Cond.static yX6_weightOf, Cond.code yX6_weightOf cX6_weightOf 1 (some .int), Cond.fieldLink RX6 276 "CairnGame" "WEIGHTS" "[I", Cond.methodLink RX1 34 yX1_addTakes, Cond.instanceMethod yX1_addTakes]
def wsL_same_r4 : List Cond := [Cond.selects RX1 yX1_addTakes yX1_addTakes, Cond.code yX1_addTakes cX1_addTakes 8 none, Cond.fieldLink RX1 51 "CairnGame$State" "count" "I", Cond.fieldLink RX1 52 "CairnGame$State" "sizes" "[I", Cond.fieldLink RX1 59 "CairnGame$State" "greatest" "I", Cond.methodLink RX1 62 Lib.Math.min.name, Cond.static Lib.Math.min.name, Cond.initialized "java/lang/Math", Cond.code Lib.Math.min.name Lib.Math.min.code 2 (some .int), Cond.methodLink RX1 68 yX1_add, Cond.instanceMethod yX1_add, Cond.selects RX1 yX1_add yX1_add, Cond.code yX1_add cX1_add 5 none, Cond.fieldLink RX1 9 "CairnGame$MoveList" "kinds" "[I", Cond.fieldLink RX1 15 "CairnGame$MoveList" "heaps" "[I", Cond.fieldLink RX1 18 "CairnGame$MoveList" "amounts" "[I", Cond.fieldLink RX1 21 "CairnGame$MoveList" "behind" "[I", Cond.methodLink RX1 42 yX1_addSplits, Cond.instanceMethod yX1_addSplits, Cond.selects RX1 yX1_addSplits yX1_addSplits, Cond.code yX1_addSplits cX1_addSplits 7 none, Cond.methodLink RX1 48 yX1_addMerges, Cond.instanceMethod yX1_addMerges, Cond.selects RX1 yX1_addMerges yX1_addMerges]
def wsL_same_r5 : List Cond := [Cond.code yX1_addMerges cX1_addMerges 8 none, Cond.methodLink RL 51 yX6_heapOf, Cond.instanceMethod yX6_heapOf, Cond.selects RX6 yX6_heapOf yX6_heapOf, Cond.code yX6_heapOf cX6_heapOf 2 (some .int), Cond.fieldLink RX6 124 "CairnGame$MoveList" "heaps" "[I", Cond.methodLink RL 54 yX6_amountOf, Cond.instanceMethod yX6_amountOf, Cond.selects RX6 yX6_amountOf yX6_amountOf, Cond.code yX6_amountOf cX6_amountOf 2 (some .int), Cond.fieldLink RX6 127 "CairnGame$MoveList" "amounts" "[I", Cond.methodLink RL 57 yX6_wins, Cond.instanceMethod yX6_wins, Cond.selects RX6 yX6_wins yX6_wins, Cond.code yX6_wins cX6_wins 2 (some .boolean), Cond.fieldLink RX6 33 "CairnGame" "solver" "LCairnGame$Solver;", Cond.methodLink RX6 145 yX3_solve, Cond.instanceMethod yX3_solve, Cond.selects RX3 yX3_solve yX3_solve, Cond.initialized RX3, Cond.code yX3_solve cX3_solve 6 (some (.object "CairnGame$Solution")), Cond.fieldLink RX3 11 "CairnGame$Solver" "solutions" "[LCairnGame$Solution;", Cond.classLink RX3 9 RX2, Cond.instantiable RX2 5]
def wsL_same_r6 : List Cond := [Cond.initialized RX2, Cond.fieldLink RX3 39 "CairnGame$Solution" "solvedStones" "I", Cond.fieldLink RX3 20 "CairnGame$Solver" "probe" "LCairnGame$State;", Cond.methodLink RX3 31 yX4_ruleSet, Cond.instanceMethod yX4_ruleSet, Cond.selects RX4 yX4_ruleSet yX4_ruleSet, Cond.code yX4_ruleSet cX4_ruleSet 1 (some .int), Cond.fieldLink RX4 19 "CairnGame$State" "greatest" "I", Cond.fieldLink RX4 22 "CairnGame$State" "splitting" "Z", Cond.fieldLink RX4 26 "CairnGame$State" "merging" "Z", Cond.static yX6_bit, Cond.code yX6_bit cX6_bit 1 (some .int), Cond.methodLink RX3 35 yX2_init, Cond.instanceMethod yX2_init, Cond.code yX2_init cX2_init 1 none, Cond.methodLink RX2 3 objectInit, Cond.instanceMethod objectInit, Cond.code objectInit ⟨#[0xb1]⟩ 1 none, Cond.fieldLink RX2 9 "CairnGame$Solution" "numbers" "[I", Cond.fieldLink RX2 15 "CairnGame$Solution" "longest" "[I", Cond.fieldLink RX2 18 "CairnGame$Solution" "shortest" "[I", Cond.arrayClass .boolean, Cond.fieldLink RX2 21 "CairnGame$Solution" "wonTurned" "[Z", Cond.fieldLink RX2 25 "CairnGame$Solution" "solvedStones" "I"]
def wsL_same_r7 : List Cond := [Cond.methodLink RX3 36 yX4_total, Cond.instanceMethod yX4_total, Cond.selects RX4 yX4_total yX4_total, Cond.code yX4_total cX4_total 3 (some .int), Cond.methodLink RX3 43 yX4_copyFrom, Cond.instanceMethod yX4_copyFrom, Cond.selects RX4 yX4_copyFrom yX4_copyFrom, Cond.code yX4_copyFrom cX4_copyFrom 2 none, Cond.methodLink RX4 35 arraycopyName, Cond.native arraycopyName, Cond.static arraycopyName, Cond.initialized "java/lang/System", Cond.fieldLink RX4 29 "CairnGame$State" "normal" "Z", Cond.fieldLink RX4 32 "CairnGame$State" "madeOfKind" "[I", Cond.methodLink RX3 47 yX3_solveAll, Cond.instanceMethod yX3_solveAll, Cond.selects RX3 yX3_solveAll yX3_solveAll, Cond.code yX3_solveAll cX3_solveAll 5 none, Cond.fieldLink RX3 27 "CairnGame$Solver" "list" "LCairnGame$MoveList;", Cond.methodLink RX3 51 yX3_startWithOnes, Cond.instanceMethod yX3_startWithOnes, Cond.selects RX3 yX3_startWithOnes yX3_startWithOnes, Cond.code yX3_startWithOnes cX3_startWithOnes 2 none, Cond.fieldLink RX3 69 "CairnGame$State" "count" "I"]
def wsL_same_r8 : List Cond := [Cond.methodLink RX3 72 yX3_appendOnes, Cond.instanceMethod yX3_appendOnes, Cond.selects RX3 yX3_appendOnes yX3_appendOnes, Cond.code yX3_appendOnes cX3_appendOnes 3 none, Cond.methodLink RX3 79 yX4_insert, Cond.instanceMethod yX4_insert, Cond.selects RX4 yX4_insert yX4_insert, Cond.code yX4_insert cX4_insert 4 none, Cond.methodLink RX3 55 yX1_fill, Cond.methodLink RX3 58 yX4_slot, Cond.methodLink RX3 61 yX2_enter, Cond.instanceMethod yX2_enter, Cond.selects RX2 yX2_enter yX2_enter, Cond.code yX2_enter cX2_enter 10 none, Cond.fieldLink RX2 29 "CairnGame$MoveList" "count" "I", Cond.fieldLink RX2 34 "CairnGame$MoveList" "behind" "[I", Cond.methodLink RX2 37 Lib.Math.max.name, Cond.static Lib.Math.max.name, Cond.code Lib.Math.max.name Lib.Math.max.code 2 (some .int), Cond.methodLink RX2 43 Lib.Math.min.name, Cond.methodLink RX2 46 yX2_leastMissing, Cond.static yX2_leastMissing, Cond.code yX2_leastMissing cX2_leastMissing 3 (some .int), Cond.methodLink RX3 65 yX3_stepOn]
def wsL_same_r9 : List Cond := [Cond.instanceMethod yX3_stepOn, Cond.selects RX3 yX3_stepOn yX3_stepOn, Cond.code yX3_stepOn cX3_stepOn 5 (some .boolean), Cond.fieldLink RX3 75 "CairnGame$State" "sizes" "[I", Cond.methodLink RX6 164 yX6_isWinner, Cond.instanceMethod yX6_isWinner, Cond.selects RX6 yX6_isWinner yX6_isWinner, Cond.code yX6_isWinner cX6_isWinner 3 (some .boolean), Cond.fieldLink RX6 171 "CairnGame$MoveList" "behind" "[I", Cond.fieldLink RX6 87 "CairnGame$State" "normal" "Z", Cond.methodLink RX6 160 yX2_isWonAt, Cond.instanceMethod yX2_isWonAt, Cond.selects RX2 yX2_isWonAt yX2_isWonAt, Cond.code yX2_isWonAt cX2_isWonAt 3 (some .boolean), Cond.methodLink RL 61 yX6_moves, Cond.instanceMethod yX6_moves, Cond.selects RX6 yX6_moves yX6_moves, Cond.code yX6_moves cX6_moves 1 (some .int), Cond.methodLink RL 65 yX6_winningMoves, Cond.instanceMethod yX6_winningMoves, Cond.selects RX6 yX6_winningMoves yX6_winningMoves, Cond.code yX6_winningMoves cX6_winningMoves 4 (some .int), Cond.methodLink RL 68 yX6_bestReply, Cond.instanceMethod yX6_bestReply]
def wsL_same_r10 : List Cond := [Cond.selects RX6 yX6_bestReply yX6_bestReply, Cond.code yX6_bestReply cX6_bestReply 6 (some .int), Cond.fieldLink RX6 168 "CairnGame$Solution" "longest" "[I", Cond.methodLink RL 71 yX6_winningShare, Cond.instanceMethod yX6_winningShare, Cond.selects RX6 yX6_winningShare yX6_winningShare, Cond.code yX6_winningShare cX6_winningShare 3 (some .double), Cond.methodLink RX6 177 yX6_winningMoves, Cond.methodLink RX6 180 yX6_moves, Cond.methodLink RL 75 yX6_number, Cond.instanceMethod yX6_number, Cond.selects RX6 yX6_number yX6_number, Cond.code yX6_number cX6_number 1 (some .int), Cond.fieldLink RX6 149 "CairnGame$Solution" "numbers" "[I", Cond.methodLink RX6 154 yX4_slot, Cond.methodLink RL 78 yX6_numberByHeaps, Cond.instanceMethod yX6_numberByHeaps, Cond.selects RX6 yX6_numberByHeaps yX6_numberByHeaps, Cond.code yX6_numberByHeaps cX6_numberByHeaps 4 (some .int), Cond.fieldLink RX6 67 "CairnGame$State" "count" "I", Cond.methodLink RX6 157 yX6_weightOf, Cond.methodLink RL 81 yX6_isWon, Cond.instanceMethod yX6_isWon, Cond.selects RX6 yX6_isWon yX6_isWon]
def wsL_same_r11 : List Cond := [Cond.code yX6_isWon cX6_isWon 1 (some .boolean), Cond.methodLink RL 85 yX6_longestGame, Cond.instanceMethod yX6_longestGame, Cond.selects RX6 yX6_longestGame yX6_longestGame, Cond.code yX6_longestGame cX6_longestGame 1 (some .int), Cond.methodLink RL 88 yX6_shortestGame, Cond.instanceMethod yX6_shortestGame, Cond.selects RX6 yX6_shortestGame yX6_shortestGame, Cond.code yX6_shortestGame cX6_shortestGame 1 (some .int), Cond.fieldLink RX6 174 "CairnGame$Solution" "shortest" "[I", Cond.methodLink RL 91 yX6_heaps, Cond.instanceMethod yX6_heaps, Cond.selects RX6 yX6_heaps yX6_heaps, Cond.code yX6_heaps cX6_heaps 1 (some .int), Cond.methodLink RL 94 yX6_stones, Cond.instanceMethod yX6_stones, Cond.selects RX6 yX6_stones yX6_stones, Cond.code yX6_stones cX6_stones 1 (some .int), Cond.methodLink RX6 48 yX4_total, Cond.methodLink RL 97 yX6_greatestTake, Cond.instanceMethod yX6_greatestTake, Cond.selects RX6 yX6_greatestTake yX6_greatestTake, Cond.code yX6_greatestTake cX6_greatestTake 1 (some .int), Cond.fieldLink RX6 77 "CairnGame$State" "greatest" "I"]
def wsL_same_r12 : List Cond := [Cond.methodLink RL 100 yX6_isSplitting, Cond.instanceMethod yX6_isSplitting, Cond.selects RX6 yX6_isSplitting yX6_isSplitting, Cond.code yX6_isSplitting cX6_isSplitting 1 (some .boolean), Cond.fieldLink RX6 80 "CairnGame$State" "splitting" "Z", Cond.methodLink RL 103 yX6_isMerging, Cond.instanceMethod yX6_isMerging, Cond.selects RX6 yX6_isMerging yX6_isMerging, Cond.code yX6_isMerging cX6_isMerging 1 (some .boolean), Cond.fieldLink RX6 84 "CairnGame$State" "merging" "Z", Cond.methodLink RL 106 yX6_isNormal, Cond.instanceMethod yX6_isNormal, Cond.selects RX6 yX6_isNormal yX6_isNormal, Cond.code yX6_isNormal cX6_isNormal 1 (some .boolean), Cond.methodLink RL 109 yX6_player, Cond.instanceMethod yX6_player, Cond.selects RX6 yX6_player yX6_player, Cond.code yX6_player cX6_player 1 (some .int), Cond.methodLink RX6 130 yX6_made, Cond.instanceMethod yX6_made, Cond.selects RX6 yX6_made yX6_made, Cond.code yX6_made cX6_made 1 (some .int), Cond.fieldLink RX6 133 "CairnGame$State" "madeOfKind" "[I", Cond.methodLink RL 112 yX6_made]
def wsL_same_r13 : List Cond := [Cond.methodLink RL 115 yX6_madeOf, Cond.instanceMethod yX6_madeOf, Cond.selects RX6 yX6_madeOf yX6_madeOf, Cond.code yX6_madeOf cX6_madeOf 2 (some .int), Cond.classLink RX6 55 "java/lang/IllegalArgumentException", Cond.initialized "java/lang/IllegalArgumentException", Cond.methodLink RL 118 yX6_winner, Cond.instanceMethod yX6_winner, Cond.selects RX6 yX6_winner yX6_winner, Cond.code yX6_winner cX6_winner 1 (some .int), Cond.methodLink RX6 138 yX6_player]
def wsL_same : List Cond := .code yL_same cL_same 23 (some .boolean) :: ((wsL_same_r1 ++ (wsL_same_r2 ++ (wsL_same_r3 ++ (wsL_same_r4 ++ (wsL_same_r5 ++ (wsL_same_r6 ++ (wsL_same_r7 ++ (wsL_same_r8 ++ (wsL_same_r9 ++ (wsL_same_r10 ++ (wsL_same_r11 ++ (wsL_same_r12 ++ wsL_same_r13)))))))))))) ++ wsX60 ++ wsX40 ++ wsX10 ++ wsX30 ++ wsX20 ++ (vx_atS RX6 287 "java/lang/IndexOutOfBoundsException" ["java/lang/RuntimeException", "java/lang/Exception"]).filter goodWord ++ (vx_atS RX6 59 "java/lang/IllegalArgumentException" ["java/lang/RuntimeException", "java/lang/Exception"]).filter goodWord)
def wsL_refused_r1 : List Cond := [Cond.classLink RL 131 "java/lang/IllegalStateException", Cond.methodLink RL 121 yX6_take, Cond.instanceMethod yX6_take, Cond.selects RX6 yX6_take yX6_take, Cond.initialized RX6, Cond.code yX6_take cX6_take 3 (some .int), Cond.classLink RX6 55 "java/lang/IllegalArgumentException", Cond.initialized "java/lang/IllegalArgumentException", Cond.fieldLink RX6 19 "CairnGame" "history" "LCairnGame$History;", Cond.fieldLink RX6 12 "CairnGame" "state" "LCairnGame$State;", Cond.methodLink RX6 90 yX6_requireHeap, Cond.instanceMethod yX6_requireHeap, Cond.selects RX6 yX6_requireHeap yX6_requireHeap, Cond.code yX6_requireHeap cX6_requireHeap 2 none, Cond.classLink RX6 283 "java/lang/IndexOutOfBoundsException", Cond.initialized "java/lang/IndexOutOfBoundsException", Cond.methodLink RX6 279 yX4_hasHeap, Cond.instanceMethod yX4_hasHeap, Cond.selects RX4 yX4_hasHeap yX4_hasHeap, Cond.initialized RX4, Cond.code yX4_hasHeap cX4_hasHeap 2 (some .boolean), Cond.fieldLink RX4 15 "CairnGame$State" "count" "I", Cond.methodLink RX6 96 yX6_requireMove, Cond.instanceMethod yX6_requireMove]
def wsL_refused_r2 : List Cond := [Cond.selects RX6 yX6_requireMove yX6_requireMove, Cond.code yX6_requireMove cX6_requireMove 4 none, Cond.classLink RX6 62 "java/lang/IllegalStateException", Cond.initialized "java/lang/IllegalStateException", Cond.methodLink RX6 215 yX4_isMove, Cond.instanceMethod yX4_isMove, Cond.selects RX4 yX4_isMove yX4_isMove, Cond.code yX4_isMove cX4_isMove 4 (some .boolean), Cond.fieldLink RX4 19 "CairnGame$State" "greatest" "I", Cond.fieldLink RX4 9 "CairnGame$State" "sizes" "[I", Cond.fieldLink RX4 22 "CairnGame$State" "splitting" "Z", Cond.fieldLink RX4 26 "CairnGame$State" "merging" "Z", Cond.methodLink RX4 41 yX4_hasHeap, Cond.methodLink RX6 44 yX0_save, Cond.instanceMethod yX0_save, Cond.selects RX0 yX0_save yX0_save, Cond.initialized RX0, Cond.code yX0_save cX0_save 2 none, Cond.fieldLink RX0 11 "CairnGame$History" "saved" "[LCairnGame$State;", Cond.fieldLink RX0 17 "CairnGame$History" "next" "I", Cond.fieldLink RX0 21 "CairnGame$History" "count" "I", Cond.methodLink RX0 29 Lib.Math.min.name, Cond.static Lib.Math.min.name, Cond.initialized "java/lang/Math"]
def wsL_refused_r3 : List Cond := [Cond.code Lib.Math.min.name Lib.Math.min.code 2 (some .int), Cond.methodLink RX0 25 yX4_copyFrom, Cond.instanceMethod yX4_copyFrom, Cond.selects RX4 yX4_copyFrom yX4_copyFrom, Cond.code yX4_copyFrom cX4_copyFrom 2 none, Cond.methodLink RX4 35 arraycopyName, Cond.native arraycopyName, Cond.static arraycopyName, Cond.initialized "java/lang/System", Cond.fieldLink RX4 29 "CairnGame$State" "normal" "Z", Cond.fieldLink RX4 32 "CairnGame$State" "madeOfKind" "[I", Cond.methodLink RX6 100 yX4_carryOut, Cond.instanceMethod yX4_carryOut, Cond.selects RX4 yX4_carryOut yX4_carryOut, Cond.code yX4_carryOut cX4_carryOut 4 none, Cond.methodLink RX4 60 Lib.Math.min.name, Cond.methodLink RX4 66 Lib.Math.max.name, Cond.static Lib.Math.max.name, Cond.code Lib.Math.max.name Lib.Math.max.code 2 (some .int), Cond.methodLink RX4 53 yX4_shrink, Cond.instanceMethod yX4_shrink, Cond.selects RX4 yX4_shrink yX4_shrink, Cond.code yX4_shrink cX4_shrink 3 none, Cond.methodLink RX4 69 yX4_remove]
def wsL_refused_r4 : List Cond := [Cond.instanceMethod yX4_remove, Cond.selects RX4 yX4_remove yX4_remove, Cond.code yX4_remove cX4_remove 3 none, Cond.methodLink RX4 57 yX4_insert, Cond.instanceMethod yX4_insert, Cond.selects RX4 yX4_insert yX4_insert, Cond.code yX4_insert cX4_insert 4 none, Cond.methodLink RX6 48 yX4_total, Cond.instanceMethod yX4_total, Cond.selects RX4 yX4_total yX4_total, Cond.code yX4_total cX4_total 3 (some .int), Cond.methodLink RL 125 yX6_split, Cond.instanceMethod yX6_split, Cond.selects RX6 yX6_split yX6_split, Cond.code yX6_split cX6_split 3 (some .int), Cond.fieldLink RX6 67 "CairnGame$State" "count" "I", Cond.methodLink RL 128 yX6_merge, Cond.instanceMethod yX6_merge, Cond.selects RX6 yX6_merge yX6_merge, Cond.code yX6_merge cX6_merge 3 (some .int), Cond.methodLink RX6 107 Lib.Math.min.name, Cond.methodLink RX6 113 yX4_sizeAt, Cond.instanceMethod yX4_sizeAt, Cond.selects RX4 yX4_sizeAt yX4_sizeAt]
def wsL_refused_r5 : List Cond := [Cond.code yX4_sizeAt cX4_sizeAt 2 (some .int)]
def wsL_refused : List Cond := .codeWith yL_refused cL_refused 5 (some .boolean) [(0, 45, 46, 131)] :: ((wsL_refused_r1 ++ (wsL_refused_r2 ++ (wsL_refused_r3 ++ (wsL_refused_r4 ++ wsL_refused_r5)))) ++ wsX60 ++ wsX40 ++ wsX00 ++ (vx_atS RX6 59 "java/lang/IllegalArgumentException" ["java/lang/RuntimeException", "java/lang/Exception"]).filter goodWord ++ (vx_atS RX6 287 "java/lang/IndexOutOfBoundsException" ["java/lang/RuntimeException", "java/lang/Exception"]).filter goodWord ++ (vx_atS RX6 66 "java/lang/IllegalStateException" ["java/lang/RuntimeException", "java/lang/Exception"]).filter goodWord)
def wsL_law0_r1 : List Cond := [Cond.classLink RL 33 RX6, Cond.instantiable RX6 5, Cond.initialized RX6, Cond.arrayClass .int, Cond.methodLink RL 133 yX6_init, Cond.instanceMethod yX6_init, Cond.code yX6_init cX6_init 1 none, Cond.methodLink RX6 3 objectInit, Cond.instanceMethod objectInit, Cond.code objectInit ⟨#[0xb1]⟩ 1 none, Cond.classLink RX6 9 RX4, Cond.instantiable RX4 7, Cond.initialized RX4, Cond.fieldLink RX6 12 "CairnGame" "state" "LCairnGame$State;", Cond.classLink RX6 16 RX0, Cond.instantiable RX0 3, Cond.initialized RX0, Cond.fieldLink RX6 19 "CairnGame" "history" "LCairnGame$History;", Cond.classLink RX6 23 RX1, Cond.instantiable RX1 5, Cond.initialized RX1, Cond.fieldLink RX6 26 "CairnGame" "list" "LCairnGame$MoveList;", Cond.classLink RX6 30 RX3, Cond.instantiable RX3 3]
def wsL_law0_r2 : List Cond := [Cond.initialized RX3, Cond.fieldLink RX6 33 "CairnGame" "solver" "LCairnGame$Solver;", Cond.classLink RX6 37 RX5, Cond.instantiable RX5 6, Cond.initialized RX5, Cond.fieldLink RX6 40 "CairnGame" "text" "LCairnGame$Text;", Cond.instanceMethod yX4_init, Cond.code yX4_init cX4_init 1 none, Cond.methodLink RX4 3 objectInit, Cond.fieldLink RX4 9 "CairnGame$State" "sizes" "[I", Cond.fieldLink RX4 15 "CairnGame$State" "count" "I", Cond.fieldLink RX4 19 "CairnGame$State" "greatest" "I", Cond.fieldLink RX4 22 "CairnGame$State" "splitting" "Z", Cond.fieldLink RX4 26 "CairnGame$State" "merging" "Z", Cond.fieldLink RX4 29 "CairnGame$State" "normal" "Z", Cond.fieldLink RX4 32 "CairnGame$State" "madeOfKind" "[I", Cond.methodLink RX6 18 yX0_init, Cond.instanceMethod yX0_init, Cond.code yX0_init cX0_init 2 none, Cond.methodLink RX0 3 objectInit, Cond.classLink RX0 9 RX4, Cond.fieldLink RX0 11 "CairnGame$History" "saved" "[LCairnGame$State;", Cond.fieldLink RX0 17 "CairnGame$History" "next" "I", Cond.fieldLink RX0 21 "CairnGame$History" "count" "I"]
def wsL_law0_r3 : List Cond := [Cond.instanceMethod yX1_init, Cond.code yX1_init cX1_init 1 none, Cond.methodLink RX1 3 objectInit, Cond.fieldLink RX1 9 "CairnGame$MoveList" "kinds" "[I", Cond.fieldLink RX1 15 "CairnGame$MoveList" "heaps" "[I", Cond.fieldLink RX1 18 "CairnGame$MoveList" "amounts" "[I", Cond.fieldLink RX1 21 "CairnGame$MoveList" "behind" "[I", Cond.fieldLink RX1 24 "CairnGame$MoveList" "count" "I", Cond.instanceMethod yX3_init, Cond.code yX3_init cX3_init 1 none, Cond.methodLink RX3 3 objectInit, Cond.classLink RX3 9 RX2, Cond.fieldLink RX3 11 "CairnGame$Solver" "solutions" "[LCairnGame$Solution;", Cond.classLink RX3 17 RX4, Cond.fieldLink RX3 20 "CairnGame$Solver" "probe" "LCairnGame$State;", Cond.classLink RX3 24 RX1, Cond.fieldLink RX3 27 "CairnGame$Solver" "list" "LCairnGame$MoveList;", Cond.instanceMethod yX5_init, Cond.code yX5_init cX5_init 1 none, Cond.methodLink RX5 3 objectInit, Cond.arrayClass .char, Cond.fieldLink RX5 9 "CairnGame$Text" "signs" "[C", Cond.fieldLink RX5 15 "CairnGame$Text" "length" "I", Cond.fieldLink RX5 19 "CairnGame$Text" "at" "I"]
def wsL_law0_r4 : List Cond := [Cond.fieldLink RX5 22 "CairnGame$Text" "kind" "I", Cond.fieldLink RX5 25 "CairnGame$Text" "heap" "I", Cond.fieldLink RX5 28 "CairnGame$Text" "amount" "I", Cond.methodLink RL 134 yL_lay, Cond.static yL_lay, Cond.initialized RL, Cond.code yL_lay cL_lay 8 none, Cond.methodLink RL 16 yL_decode, Cond.static yL_decode, Cond.code yL_decode cL_decode 4 none, Cond.methodLink RL 10 yL_radix, Cond.static yL_radix, Cond.code yL_radix cL_radix 1 (some .int), Cond.methodLink RL 138 yL_learn, Cond.static yL_learn, Cond.code yL_learn cL_learn 12 none, Cond.methodLink RL 20 yL_code, Cond.static yL_code, Cond.code yL_code cL_code 3 (some .int), Cond.methodLink RL 24 yL_find, Cond.static yL_find, Cond.code yL_find cL_find 3 (some .int), Cond.methodLink RL 28 yL_note, Cond.static yL_note]
def wsL_law0_r5 : List Cond := [Cond.code yL_note cL_note 8 (some .long), Cond.methodLink RL 142 yL_cell, Cond.static yL_cell, Cond.code yL_cell cL_cell 2 (some .int), Cond.constant RL 7 (1000308137), Cond.constant RL 8 (751363311), Cond.methodLink RL 146 yL_low, Cond.static yL_low, Cond.code yL_low cL_low 2 (some .int), Cond.constant RL 9 (2147483647), Cond.methodLink RL 149 yX6_addHeap, Cond.instanceMethod yX6_addHeap, Cond.selects RX6 yX6_addHeap yX6_addHeap, Cond.code yX6_addHeap cX6_addHeap 2 (some .int), Cond.classLink RX6 55 "java/lang/IllegalArgumentException", Cond.initialized "java/lang/IllegalArgumentException", Cond.classLink RX6 62 "java/lang/IllegalStateException", Cond.initialized "java/lang/IllegalStateException", Cond.fieldLink RX6 67 "CairnGame$State" "count" "I", Cond.methodLink RX6 48 yX4_total, Cond.instanceMethod yX4_total, Cond.selects RX4 yX4_total yX4_total, Cond.code yX4_total cX4_total 3 (some .int), Cond.methodLink RX6 44 yX0_save]
def wsL_law0_r6 : List Cond := [Cond.instanceMethod yX0_save, Cond.selects RX0 yX0_save yX0_save, Cond.code yX0_save cX0_save 2 none, Cond.methodLink RX0 29 Lib.Math.min.name, Cond.static Lib.Math.min.name, Cond.initialized "java/lang/Math", Cond.code Lib.Math.min.name Lib.Math.min.code 2 (some .int), Cond.methodLink RX0 25 yX4_copyFrom, Cond.instanceMethod yX4_copyFrom, Cond.selects RX4 yX4_copyFrom yX4_copyFrom, Cond.code yX4_copyFrom cX4_copyFrom 2 none, Cond.methodLink RX4 35 arraycopyName, Cond.native arraycopyName, Cond.static arraycopyName, Cond.initialized "java/lang/System", Cond.methodLink RX6 71 yX4_insert, Cond.instanceMethod yX4_insert, Cond.selects RX4 yX4_insert yX4_insert, Cond.code yX4_insert cX4_insert 4 none, Cond.methodLink RL 152 yX6_begin, Cond.instanceMethod yX6_begin, Cond.selects RX6 yX6_begin yX6_begin, Cond.code yX6_begin cX6_begin 2 (some .int), Cond.methodLink RX6 52 yX4_startAnew]
def wsL_law0_r7 : List Cond := [Cond.instanceMethod yX4_startAnew, Cond.selects RX4 yX4_startAnew yX4_startAnew, Cond.code yX4_startAnew cX4_startAnew 2 none, Cond.methodLink RL 155 yX6_setGreatestTake, Cond.instanceMethod yX6_setGreatestTake, Cond.selects RX6 yX6_setGreatestTake yX6_setGreatestTake, Cond.code yX6_setGreatestTake cX6_setGreatestTake 3 (some .int), Cond.fieldLink RX6 77 "CairnGame$State" "greatest" "I", Cond.methodLink RL 158 yX6_turnSplitting, Cond.instanceMethod yX6_turnSplitting, Cond.selects RX6 yX6_turnSplitting yX6_turnSplitting, Cond.code yX6_turnSplitting cX6_turnSplitting 1 (some .boolean), Cond.fieldLink RX6 80 "CairnGame$State" "splitting" "Z", Cond.methodLink RL 161 yX6_turnMerging, Cond.instanceMethod yX6_turnMerging, Cond.selects RX6 yX6_turnMerging yX6_turnMerging, Cond.code yX6_turnMerging cX6_turnMerging 1 (some .boolean), Cond.fieldLink RX6 84 "CairnGame$State" "merging" "Z", Cond.methodLink RL 164 yX6_turnEnding, Cond.instanceMethod yX6_turnEnding, Cond.selects RX6 yX6_turnEnding yX6_turnEnding, Cond.code yX6_turnEnding cX6_turnEnding 1 (some .boolean), Cond.fieldLink RX6 87 "CairnGame$State" "normal" "Z", Cond.methodLink RL 167 yL_refused]
def wsL_law0_r8 : List Cond := [Cond.static yL_refused, Cond.codeWith yL_refused cL_refused 5 (some .boolean) [(0, 45, 46, 131)], Cond.classLink RL 131 "java/lang/IllegalStateException", Cond.methodLink RL 121 yX6_take, Cond.instanceMethod yX6_take, Cond.selects RX6 yX6_take yX6_take, Cond.code yX6_take cX6_take 3 (some .int), Cond.methodLink RX6 90 yX6_requireHeap, Cond.instanceMethod yX6_requireHeap, Cond.selects RX6 yX6_requireHeap yX6_requireHeap, Cond.code yX6_requireHeap cX6_requireHeap 2 none, Cond.classLink RX6 283 "java/lang/IndexOutOfBoundsException", Cond.initialized "java/lang/IndexOutOfBoundsException", Cond.methodLink RX6 279 yX4_hasHeap, Cond.instanceMethod yX4_hasHeap, Cond.selects RX4 yX4_hasHeap yX4_hasHeap, Cond.code yX4_hasHeap cX4_hasHeap 2 (some .boolean), Cond.methodLink RX6 96 yX6_requireMove, Cond.instanceMethod yX6_requireMove, Cond.selects RX6 yX6_requireMove yX6_requireMove, Cond.code yX6_requireMove cX6_requireMove 4 none, Cond.methodLink RX6 215 yX4_isMove, Cond.instanceMethod yX4_isMove, Cond.selects RX4 yX4_isMove yX4_isMove]
def wsL_law0_r9 : List Cond := [Cond.code yX4_isMove cX4_isMove 4 (some .boolean), Cond.methodLink RX4 41 yX4_hasHeap, Cond.methodLink RX6 100 yX4_carryOut, Cond.instanceMethod yX4_carryOut, Cond.selects RX4 yX4_carryOut yX4_carryOut, Cond.code yX4_carryOut cX4_carryOut 4 none, Cond.methodLink RX4 60 Lib.Math.min.name, Cond.methodLink RX4 66 Lib.Math.max.name, Cond.static Lib.Math.max.name, Cond.code Lib.Math.max.name Lib.Math.max.code 2 (some .int), Cond.methodLink RX4 53 yX4_shrink, Cond.instanceMethod yX4_shrink, Cond.selects RX4 yX4_shrink yX4_shrink, Cond.code yX4_shrink cX4_shrink 3 none, Cond.methodLink RX4 69 yX4_remove, Cond.instanceMethod yX4_remove, Cond.selects RX4 yX4_remove yX4_remove, Cond.code yX4_remove cX4_remove 3 none, Cond.methodLink RX4 57 yX4_insert, Cond.methodLink RL 125 yX6_split, Cond.instanceMethod yX6_split, Cond.selects RX6 yX6_split yX6_split, Cond.code yX6_split cX6_split 3 (some .int), Cond.methodLink RL 128 yX6_merge]
def wsL_law0_r10 : List Cond := [Cond.instanceMethod yX6_merge, Cond.selects RX6 yX6_merge yX6_merge, Cond.code yX6_merge cX6_merge 3 (some .int), Cond.methodLink RX6 107 Lib.Math.min.name, Cond.methodLink RX6 113 yX4_sizeAt, Cond.instanceMethod yX4_sizeAt, Cond.selects RX4 yX4_sizeAt yX4_sizeAt, Cond.code yX4_sizeAt cX4_sizeAt 2 (some .int), Cond.methodLink RL 37 yL_move, Cond.static yL_move, Cond.code yL_move cL_move 7 (some .int), Cond.methodLink RL 61 yX6_moves, Cond.instanceMethod yX6_moves, Cond.selects RX6 yX6_moves yX6_moves, Cond.code yX6_moves cX6_moves 1 (some .int), Cond.fieldLink RX6 144 "CairnGame$MoveList" "count" "I", Cond.methodLink RX6 141 yX1_fill, Cond.instanceMethod yX1_fill, Cond.selects RX1 yX1_fill yX1_fill, Cond.code yX1_fill cX1_fill 3 none, Cond.fieldLink RX1 38 "CairnGame$State" "splitting" "Z", Cond.fieldLink RX1 45 "CairnGame$State" "merging" "Z", Cond.methodLink RX1 28 yX4_slot, Cond.instanceMethod yX4_slot]
def wsL_law0_r11 : List Cond := [Cond.selects RX4 yX4_slot yX4_slot, Cond.code yX4_slot cX4_slot 3 (some .int), Cond.static yX6_weightOf, Cond.code yX6_weightOf cX6_weightOf 1 (some .int), Cond.fieldLink RX6 276 "CairnGame" "WEIGHTS" "[I", Cond.methodLink RX1 34 yX1_addTakes, Cond.instanceMethod yX1_addTakes, Cond.selects RX1 yX1_addTakes yX1_addTakes, Cond.code yX1_addTakes cX1_addTakes 8 none, Cond.fieldLink RX1 51 "CairnGame$State" "count" "I", Cond.fieldLink RX1 52 "CairnGame$State" "sizes" "[I", Cond.fieldLink RX1 59 "CairnGame$State" "greatest" "I", Cond.methodLink RX1 62 Lib.Math.min.name, Cond.methodLink RX1 68 yX1_add, Cond.instanceMethod yX1_add, Cond.selects RX1 yX1_add yX1_add, Cond.code yX1_add cX1_add 5 none, Cond.methodLink RX1 42 yX1_addSplits, Cond.instanceMethod yX1_addSplits, Cond.selects RX1 yX1_addSplits yX1_addSplits, Cond.code yX1_addSplits cX1_addSplits 7 none, Cond.methodLink RX1 48 yX1_addMerges, Cond.instanceMethod yX1_addMerges, Cond.selects RX1 yX1_addMerges yX1_addMerges]
def wsL_law0_r12 : List Cond := [Cond.code yX1_addMerges cX1_addMerges 8 none, Cond.methodLink RL 68 yX6_bestReply, Cond.instanceMethod yX6_bestReply, Cond.selects RX6 yX6_bestReply yX6_bestReply, Cond.code yX6_bestReply cX6_bestReply 6 (some .int), Cond.fieldLink RX6 168 "CairnGame$Solution" "longest" "[I", Cond.fieldLink RX6 171 "CairnGame$MoveList" "behind" "[I", Cond.methodLink RX6 145 yX3_solve, Cond.instanceMethod yX3_solve, Cond.selects RX3 yX3_solve yX3_solve, Cond.code yX3_solve cX3_solve 6 (some (.object "CairnGame$Solution")), Cond.instantiable RX2 5, Cond.initialized RX2, Cond.fieldLink RX3 39 "CairnGame$Solution" "solvedStones" "I", Cond.methodLink RX3 31 yX4_ruleSet, Cond.instanceMethod yX4_ruleSet, Cond.selects RX4 yX4_ruleSet yX4_ruleSet, Cond.code yX4_ruleSet cX4_ruleSet 1 (some .int), Cond.static yX6_bit, Cond.code yX6_bit cX6_bit 1 (some .int), Cond.methodLink RX3 35 yX2_init, Cond.instanceMethod yX2_init, Cond.code yX2_init cX2_init 1 none, Cond.methodLink RX2 3 objectInit]
def wsL_law0_r13 : List Cond := [Cond.fieldLink RX2 9 "CairnGame$Solution" "numbers" "[I", Cond.fieldLink RX2 15 "CairnGame$Solution" "longest" "[I", Cond.fieldLink RX2 18 "CairnGame$Solution" "shortest" "[I", Cond.arrayClass .boolean, Cond.fieldLink RX2 21 "CairnGame$Solution" "wonTurned" "[Z", Cond.fieldLink RX2 25 "CairnGame$Solution" "solvedStones" "I", Cond.methodLink RX3 36 yX4_total, Cond.methodLink RX3 43 yX4_copyFrom, Cond.methodLink RX3 47 yX3_solveAll, Cond.instanceMethod yX3_solveAll, Cond.selects RX3 yX3_solveAll yX3_solveAll, Cond.code yX3_solveAll cX3_solveAll 5 none, Cond.methodLink RX3 51 yX3_startWithOnes, Cond.instanceMethod yX3_startWithOnes, Cond.selects RX3 yX3_startWithOnes yX3_startWithOnes, Cond.code yX3_startWithOnes cX3_startWithOnes 2 none, Cond.fieldLink RX3 69 "CairnGame$State" "count" "I", Cond.methodLink RX3 72 yX3_appendOnes, Cond.instanceMethod yX3_appendOnes, Cond.selects RX3 yX3_appendOnes yX3_appendOnes, Cond.code yX3_appendOnes cX3_appendOnes 3 none, Cond.methodLink RX3 79 yX4_insert, Cond.methodLink RX3 55 yX1_fill, Cond.methodLink RX3 58 yX4_slot]
def wsL_law0_r14 : List Cond := [Cond.methodLink RX3 61 yX2_enter, Cond.instanceMethod yX2_enter, Cond.selects RX2 yX2_enter yX2_enter, Cond.code yX2_enter cX2_enter 10 none, Cond.fieldLink RX2 29 "CairnGame$MoveList" "count" "I", Cond.fieldLink RX2 34 "CairnGame$MoveList" "behind" "[I", Cond.methodLink RX2 37 Lib.Math.max.name, Cond.methodLink RX2 43 Lib.Math.min.name, Cond.methodLink RX2 46 yX2_leastMissing, Cond.static yX2_leastMissing, Cond.code yX2_leastMissing cX2_leastMissing 3 (some .int), Cond.methodLink RX3 65 yX3_stepOn, Cond.instanceMethod yX3_stepOn, Cond.selects RX3 yX3_stepOn yX3_stepOn, Cond.code yX3_stepOn cX3_stepOn 5 (some .boolean), Cond.fieldLink RX3 75 "CairnGame$State" "sizes" "[I", Cond.methodLink RX6 164 yX6_isWinner, Cond.instanceMethod yX6_isWinner, Cond.selects RX6 yX6_isWinner yX6_isWinner, Cond.code yX6_isWinner cX6_isWinner 3 (some .boolean), Cond.methodLink RX6 160 yX2_isWonAt, Cond.instanceMethod yX2_isWonAt, Cond.selects RX2 yX2_isWonAt yX2_isWonAt, Cond.code yX2_isWonAt cX2_isWonAt 3 (some .boolean)]
def wsL_law0_r15 : List Cond := [Cond.methodLink RL 48 yX6_kindOf, Cond.instanceMethod yX6_kindOf, Cond.selects RX6 yX6_kindOf yX6_kindOf, Cond.code yX6_kindOf cX6_kindOf 2 (some .int), Cond.fieldLink RX6 120 "CairnGame$MoveList" "kinds" "[I", Cond.methodLink RX6 117 yX6_requireListed, Cond.instanceMethod yX6_requireListed, Cond.selects RX6 yX6_requireListed yX6_requireListed, Cond.code yX6_requireListed cX6_requireListed 2 none, Cond.methodLink RL 51 yX6_heapOf, Cond.instanceMethod yX6_heapOf, Cond.selects RX6 yX6_heapOf yX6_heapOf, Cond.code yX6_heapOf cX6_heapOf 2 (some .int), Cond.fieldLink RX6 124 "CairnGame$MoveList" "heaps" "[I", Cond.methodLink RL 54 yX6_amountOf, Cond.instanceMethod yX6_amountOf, Cond.selects RX6 yX6_amountOf yX6_amountOf, Cond.code yX6_amountOf cX6_amountOf 2 (some .int), Cond.fieldLink RX6 127 "CairnGame$MoveList" "amounts" "[I", Cond.methodLink RL 171 yX6_make, Cond.instanceMethod yX6_make, Cond.selects RX6 yX6_make yX6_make, Cond.code yX6_make cX6_make 3 (some .int), Cond.methodLink RL 174 yL_same]
def wsL_law0_r16 : List Cond := [Cond.static yL_same, Cond.code yL_same cL_same 23 (some .boolean), Cond.methodLink RL 32 yX6_stonesOf, Cond.instanceMethod yX6_stonesOf, Cond.selects RX6 yX6_stonesOf yX6_stonesOf, Cond.code yX6_stonesOf cX6_stonesOf 2 (some .int), Cond.methodLink RL 41 yL_here, Cond.static yL_here, Cond.code yL_here cL_here 4 (some .int), Cond.methodLink RL 44 yL_won, Cond.static yL_won, Cond.code yL_won cL_won 4 (some .boolean), Cond.methodLink RL 57 yX6_wins, Cond.instanceMethod yX6_wins, Cond.selects RX6 yX6_wins yX6_wins, Cond.code yX6_wins cX6_wins 2 (some .boolean), Cond.methodLink RL 65 yX6_winningMoves, Cond.instanceMethod yX6_winningMoves, Cond.selects RX6 yX6_winningMoves yX6_winningMoves, Cond.code yX6_winningMoves cX6_winningMoves 4 (some .int), Cond.methodLink RL 71 yX6_winningShare, Cond.instanceMethod yX6_winningShare, Cond.selects RX6 yX6_winningShare yX6_winningShare, Cond.code yX6_winningShare cX6_winningShare 3 (some .double)]
def wsL_law0_r17 : List Cond := [Cond.methodLink RX6 177 yX6_winningMoves, Cond.methodLink RX6 180 yX6_moves, Cond.methodLink RL 75 yX6_number, Cond.instanceMethod yX6_number, Cond.selects RX6 yX6_number yX6_number, Cond.code yX6_number cX6_number 1 (some .int), Cond.fieldLink RX6 149 "CairnGame$Solution" "numbers" "[I", Cond.methodLink RX6 154 yX4_slot, Cond.methodLink RL 78 yX6_numberByHeaps, Cond.instanceMethod yX6_numberByHeaps, Cond.selects RX6 yX6_numberByHeaps yX6_numberByHeaps, Cond.code yX6_numberByHeaps cX6_numberByHeaps 4 (some .int), Cond.methodLink RX6 157 yX6_weightOf, Cond.methodLink RL 81 yX6_isWon, Cond.instanceMethod yX6_isWon, Cond.selects RX6 yX6_isWon yX6_isWon, Cond.code yX6_isWon cX6_isWon 1 (some .boolean), Cond.methodLink RL 85 yX6_longestGame, Cond.instanceMethod yX6_longestGame, Cond.selects RX6 yX6_longestGame yX6_longestGame, Cond.code yX6_longestGame cX6_longestGame 1 (some .int), Cond.methodLink RL 88 yX6_shortestGame, Cond.instanceMethod yX6_shortestGame, Cond.selects RX6 yX6_shortestGame yX6_shortestGame]
def wsL_law0_r18 : List Cond := [Cond.code yX6_shortestGame cX6_shortestGame 1 (some .int), Cond.fieldLink RX6 174 "CairnGame$Solution" "shortest" "[I", Cond.methodLink RL 91 yX6_heaps, Cond.instanceMethod yX6_heaps, Cond.selects RX6 yX6_heaps yX6_heaps, Cond.code yX6_heaps cX6_heaps 1 (some .int), Cond.methodLink RL 94 yX6_stones, Cond.instanceMethod yX6_stones, Cond.selects RX6 yX6_stones yX6_stones, Cond.code yX6_stones cX6_stones 1 (some .int), Cond.methodLink RL 97 yX6_greatestTake, Cond.instanceMethod yX6_greatestTake, Cond.selects RX6 yX6_greatestTake yX6_greatestTake, Cond.code yX6_greatestTake cX6_greatestTake 1 (some .int), Cond.methodLink RL 100 yX6_isSplitting, Cond.instanceMethod yX6_isSplitting, Cond.selects RX6 yX6_isSplitting yX6_isSplitting, Cond.code yX6_isSplitting cX6_isSplitting 1 (some .boolean), Cond.methodLink RL 103 yX6_isMerging, Cond.instanceMethod yX6_isMerging, Cond.selects RX6 yX6_isMerging yX6_isMerging, Cond.code yX6_isMerging cX6_isMerging 1 (some .boolean), Cond.methodLink RL 106 yX6_isNormal, Cond.instanceMethod yX6_isNormal]
def wsL_law0_r19 : List Cond := [Cond.selects RX6 yX6_isNormal yX6_isNormal, Cond.code yX6_isNormal cX6_isNormal 1 (some .boolean), Cond.methodLink RL 109 yX6_player, Cond.instanceMethod yX6_player, Cond.selects RX6 yX6_player yX6_player, Cond.code yX6_player cX6_player 1 (some .int), Cond.methodLink RX6 130 yX6_made, Cond.instanceMethod yX6_made, Cond.selects RX6 yX6_made yX6_made, Cond.code yX6_made cX6_made 1 (some .int), Cond.fieldLink RX6 133 "CairnGame$State" "madeOfKind" "[I", Cond.methodLink RL 112 yX6_made, Cond.methodLink RL 115 yX6_madeOf, Cond.instanceMethod yX6_madeOf, Cond.selects RX6 yX6_madeOf yX6_madeOf, Cond.code yX6_madeOf cX6_madeOf 2 (some .int), Cond.methodLink RL 118 yX6_winner, Cond.instanceMethod yX6_winner, Cond.selects RX6 yX6_winner yX6_winner, Cond.code yX6_winner cX6_winner 1 (some .int), Cond.methodLink RX6 138 yX6_player]
def wsL_law0 : List Cond := (wsL_law0_r1 ++ (wsL_law0_r2 ++ (wsL_law0_r3 ++ (wsL_law0_r4 ++ (wsL_law0_r5 ++ (wsL_law0_r6 ++ (wsL_law0_r7 ++ (wsL_law0_r8 ++ (wsL_law0_r9 ++ (wsL_law0_r10 ++ (wsL_law0_r11 ++ (wsL_law0_r12 ++ (wsL_law0_r13 ++ (wsL_law0_r14 ++ (wsL_law0_r15 ++ (wsL_law0_r16 ++ (wsL_law0_r17 ++ (wsL_law0_r18 ++ wsL_law0_r19)))))))))))))))))) ++ wsX60 ++ wsX40 ++ wsX00 ++ wsX10 ++ wsX30 ++ wsX50 ++ wsX20 ++ ([] : List Cond)
def wsL_law : List Cond := wsL_law0 ++ (vx_atS RX6 59 "java/lang/IllegalArgumentException" ["java/lang/RuntimeException", "java/lang/Exception"]).filter goodWord ++ (vx_atS RX6 66 "java/lang/IllegalStateException" ["java/lang/RuntimeException", "java/lang/Exception"]).filter goodWord ++ (vx_atS RX6 287 "java/lang/IndexOutOfBoundsException" ["java/lang/RuntimeException", "java/lang/Exception"]).filter goodWord
theorem lwt_p {w : Cond} (h : w ∈ k2_sels lw_privs) : w ∈ lw_tbl := List.mem_append_left _ h
theorem lwt_t1 {w : Cond} (h : w ∈ tables_1_1) : w ∈ lw_tbl := List.mem_append_right _ (show w ∈ tables_1 from List.mem_append_left _ h)
theorem lwt_t2 {w : Cond} (h : w ∈ tables_1_2) : w ∈ lw_tbl := List.mem_append_right _ (show w ∈ tables_1 from List.mem_append_right _ (List.mem_append_left _ h))
theorem lwt_t3 {w : Cond} (h : w ∈ tables_1_3) : w ∈ lw_tbl := List.mem_append_right _ (show w ∈ tables_1 from List.mem_append_right _ (List.mem_append_right _ (h)))
set_option maxRecDepth 20000 in
theorem wsL_law0_r1_in : ∀ w ∈ wsL_law0_r1, w ∈ lw_tbl := List.forall_mem_cons.mpr ⟨lwt_t1 (List.mem_of_getElem? (i := 16) rfl), List.forall_mem_cons.mpr ⟨lwt_t1 (List.mem_of_getElem? (i := 17) rfl), List.forall_mem_cons.mpr ⟨lwt_t1 (List.mem_of_getElem? (i := 1) rfl), List.forall_mem_cons.mpr ⟨lwt_t1 (List.mem_of_getElem? (i := 65) rfl), List.forall_mem_cons.mpr ⟨lwt_t1 (List.mem_of_getElem? (i := 18) rfl), List.forall_mem_cons.mpr ⟨lwt_t1 (List.mem_of_getElem? (i := 19) rfl), List.forall_mem_cons.mpr ⟨lwt_t1 (List.mem_of_getElem? (i := 20) rfl), List.forall_mem_cons.mpr ⟨lwt_t1 (List.mem_of_getElem? (i := 21) rfl), List.forall_mem_cons.mpr ⟨lwt_t1 (List.mem_of_getElem? (i := 22) rfl), List.forall_mem_cons.mpr ⟨lwt_t1 (List.mem_of_getElem? (i := 23) rfl), List.forall_mem_cons.mpr ⟨lwt_t1 (List.mem_of_getElem? (i := 24) rfl), List.forall_mem_cons.mpr ⟨lwt_t1 (List.mem_of_getElem? (i := 25) rfl), List.forall_mem_cons.mpr ⟨lwt_t1 (List.mem_of_getElem? (i := 2) rfl), List.forall_mem_cons.mpr ⟨lwt_t1 (List.mem_of_getElem? (i := 162) rfl), List.forall_mem_cons.mpr ⟨lwt_t1 (List.mem_of_getElem? (i := 66) rfl), List.forall_mem_cons.mpr ⟨lwt_t1 (List.mem_of_getElem? (i := 67) rfl), List.forall_mem_cons.mpr ⟨lwt_t1 (List.mem_of_getElem? (i := 3) rfl), List.forall_mem_cons.mpr ⟨lwt_t1 (List.mem_of_getElem? (i := 163) rfl), List.forall_mem_cons.mpr ⟨lwt_t1 (List.mem_of_getElem? (i := 85) rfl), List.forall_mem_cons.mpr ⟨lwt_t1 (List.mem_of_getElem? (i := 86) rfl), List.forall_mem_cons.mpr ⟨lwt_t1 (List.mem_of_getElem? (i := 4) rfl), List.forall_mem_cons.mpr ⟨lwt_t1 (List.mem_of_getElem? (i := 164) rfl), List.forall_mem_cons.mpr ⟨lwt_t1 (List.mem_of_getElem? (i := 114) rfl), List.forall_mem_cons.mpr ⟨lwt_t1 (List.mem_of_getElem? (i := 115) rfl), fun _ h => absurd h List.not_mem_nil⟩⟩⟩⟩⟩⟩⟩⟩⟩⟩⟩⟩⟩⟩⟩⟩⟩⟩⟩⟩⟩⟩⟩⟩
set_option maxRecDepth 20000 in
theorem wsL_law0_r2_in : ∀ w ∈ wsL_law0_r2, w ∈ lw_tbl := List.forall_mem_cons.mpr ⟨lwt_t1 (List.mem_of_getElem? (i := 5) rfl), List.forall_mem_cons.mpr ⟨lwt_t1 (List.mem_of_getElem? (i := 165) rfl), List.forall_mem_cons.mpr ⟨lwt_t1 (List.mem_of_getElem? (i := 136) rfl), List.forall_mem_cons.mpr ⟨lwt_t1 (List.mem_of_getElem? (i := 137) rfl), List.forall_mem_cons.mpr ⟨lwt_t1 (List.mem_of_getElem? (i := 6) rfl), List.forall_mem_cons.mpr ⟨lwt_t1 (List.mem_of_getElem? (i := 166) rfl), List.forall_mem_cons.mpr ⟨lwt_t1 (List.mem_of_getElem? (i := 27) rfl), List.forall_mem_cons.mpr ⟨lwt_t1 (List.mem_of_getElem? (i := 28) rfl), List.forall_mem_cons.mpr ⟨lwt_t1 (List.mem_of_getElem? (i := 29) rfl), List.forall_mem_cons.mpr ⟨lwt_t1 (List.mem_of_getElem? (i := 30) rfl), List.forall_mem_cons.mpr ⟨lwt_t1 (List.mem_of_getElem? (i := 33) rfl), List.forall_mem_cons.mpr ⟨lwt_t1 (List.mem_of_getElem? (i := 37) rfl), List.forall_mem_cons.mpr ⟨lwt_t1 (List.mem_of_getElem? (i := 40) rfl), List.forall_mem_cons.mpr ⟨lwt_t1 (List.mem_of_getElem? (i := 43) rfl), List.forall_mem_cons.mpr ⟨lwt_t1 (List.mem_of_getElem? (i := 46) rfl), List.forall_mem_cons.mpr ⟨lwt_t1 (List.mem_of_getElem? (i := 48) rfl), List.forall_mem_cons.mpr ⟨lwt_t1 (List.mem_of_getElem? (i := 68) rfl), List.forall_mem_cons.mpr ⟨lwt_t1 (List.mem_of_getElem? (i := 69) rfl), List.forall_mem_cons.mpr ⟨lwt_t1 (List.mem_of_getElem? (i := 70) rfl), List.forall_mem_cons.mpr ⟨lwt_t1 (List.mem_of_getElem? (i := 71) rfl), List.forall_mem_cons.mpr ⟨lwt_t1 (List.mem_of_getElem? (i := 72) rfl), List.forall_mem_cons.mpr ⟨lwt_t1 (List.mem_of_getElem? (i := 75) rfl), List.forall_mem_cons.mpr ⟨lwt_t1 (List.mem_of_getElem? (i := 76) rfl), List.forall_mem_cons.mpr ⟨lwt_t1 (List.mem_of_getElem? (i := 77) rfl), fun _ h => absurd h List.not_mem_nil⟩⟩⟩⟩⟩⟩⟩⟩⟩⟩⟩⟩⟩⟩⟩⟩⟩⟩⟩⟩⟩⟩⟩⟩
set_option maxRecDepth 20000 in
theorem wsL_law0_r3_in : ∀ w ∈ wsL_law0_r3, w ∈ lw_tbl := List.forall_mem_cons.mpr ⟨lwt_t1 (List.mem_of_getElem? (i := 88) rfl), List.forall_mem_cons.mpr ⟨lwt_t1 (List.mem_of_getElem? (i := 89) rfl), List.forall_mem_cons.mpr ⟨lwt_t1 (List.mem_of_getElem? (i := 90) rfl), List.forall_mem_cons.mpr ⟨lwt_t1 (List.mem_of_getElem? (i := 91) rfl), List.forall_mem_cons.mpr ⟨lwt_t1 (List.mem_of_getElem? (i := 93) rfl), List.forall_mem_cons.mpr ⟨lwt_t1 (List.mem_of_getElem? (i := 95) rfl), List.forall_mem_cons.mpr ⟨lwt_t1 (List.mem_of_getElem? (i := 97) rfl), List.forall_mem_cons.mpr ⟨lwt_t1 (List.mem_of_getElem? (i := 100) rfl), List.forall_mem_cons.mpr ⟨lwt_t1 (List.mem_of_getElem? (i := 117) rfl), List.forall_mem_cons.mpr ⟨lwt_t1 (List.mem_of_getElem? (i := 118) rfl), List.forall_mem_cons.mpr ⟨lwt_t1 (List.mem_of_getElem? (i := 119) rfl), List.forall_mem_cons.mpr ⟨lwt_t1 (List.mem_of_getElem? (i := 120) rfl), List.forall_mem_cons.mpr ⟨lwt_t1 (List.mem_of_getElem? (i := 126) rfl), List.forall_mem_cons.mpr ⟨lwt_t1 (List.mem_of_getElem? (i := 122) rfl), List.forall_mem_cons.mpr ⟨lwt_t1 (List.mem_of_getElem? (i := 127) rfl), List.forall_mem_cons.mpr ⟨lwt_t1 (List.mem_of_getElem? (i := 124) rfl), List.forall_mem_cons.mpr ⟨lwt_t1 (List.mem_of_getElem? (i := 128) rfl), List.forall_mem_cons.mpr ⟨lwt_t1 (List.mem_of_getElem? (i := 139) rfl), List.forall_mem_cons.mpr ⟨lwt_t1 (List.mem_of_getElem? (i := 140) rfl), List.forall_mem_cons.mpr ⟨lwt_t1 (List.mem_of_getElem? (i := 141) rfl), List.forall_mem_cons.mpr ⟨lwt_t1 (List.mem_of_getElem? (i := 161) rfl), List.forall_mem_cons.mpr ⟨lwt_t1 (List.mem_of_getElem? (i := 142) rfl), List.forall_mem_cons.mpr ⟨lwt_t1 (List.mem_of_getElem? (i := 143) rfl), List.forall_mem_cons.mpr ⟨lwt_t1 (List.mem_of_getElem? (i := 144) rfl), fun _ h => absurd h List.not_mem_nil⟩⟩⟩⟩⟩⟩⟩⟩⟩⟩⟩⟩⟩⟩⟩⟩⟩⟩⟩⟩⟩⟩⟩⟩
set_option maxRecDepth 20000 in
theorem wsL_law0_r4_in : ∀ w ∈ wsL_law0_r4, w ∈ lw_tbl := List.forall_mem_cons.mpr ⟨lwt_t1 (List.mem_of_getElem? (i := 145) rfl), List.forall_mem_cons.mpr ⟨lwt_t1 (List.mem_of_getElem? (i := 146) rfl), List.forall_mem_cons.mpr ⟨lwt_t1 (List.mem_of_getElem? (i := 147) rfl), List.forall_mem_cons.mpr ⟨lwt_t3 (List.mem_of_getElem? (i := 48) rfl), List.forall_mem_cons.mpr ⟨lwt_t3 (List.mem_of_getElem? (i := 49) rfl), List.forall_mem_cons.mpr ⟨lwt_t1 (List.mem_of_getElem? (i := 0) rfl), List.forall_mem_cons.mpr ⟨lwt_t3 (List.mem_of_getElem? (i := 50) rfl), List.forall_mem_cons.mpr ⟨lwt_t3 (List.mem_of_getElem? (i := 51) rfl), List.forall_mem_cons.mpr ⟨lwt_t3 (List.mem_of_getElem? (i := 52) rfl), List.forall_mem_cons.mpr ⟨lwt_t3 (List.mem_of_getElem? (i := 53) rfl), List.forall_mem_cons.mpr ⟨lwt_t3 (List.mem_of_getElem? (i := 54) rfl), List.forall_mem_cons.mpr ⟨lwt_t3 (List.mem_of_getElem? (i := 55) rfl), List.forall_mem_cons.mpr ⟨lwt_t3 (List.mem_of_getElem? (i := 56) rfl), List.forall_mem_cons.mpr ⟨lwt_t3 (List.mem_of_getElem? (i := 57) rfl), List.forall_mem_cons.mpr ⟨lwt_t3 (List.mem_of_getElem? (i := 58) rfl), List.forall_mem_cons.mpr ⟨lwt_t3 (List.mem_of_getElem? (i := 59) rfl), List.forall_mem_cons.mpr ⟨lwt_t3 (List.mem_of_getElem? (i := 60) rfl), List.forall_mem_cons.mpr ⟨lwt_t3 (List.mem_of_getElem? (i := 61) rfl), List.forall_mem_cons.mpr ⟨lwt_t3 (List.mem_of_getElem? (i := 62) rfl), List.forall_mem_cons.mpr ⟨lwt_t3 (List.mem_of_getElem? (i := 63) rfl), List.forall_mem_cons.mpr ⟨lwt_t3 (List.mem_of_getElem? (i := 64) rfl), List.forall_mem_cons.mpr ⟨lwt_t3 (List.mem_of_getElem? (i := 65) rfl), List.forall_mem_cons.mpr ⟨lwt_t3 (List.mem_of_getElem? (i := 66) rfl), List.forall_mem_cons.mpr ⟨lwt_t3 (List.mem_of_getElem? (i := 67) rfl), fun _ h => absurd h List.not_mem_nil⟩⟩⟩⟩⟩⟩⟩⟩⟩⟩⟩⟩⟩⟩⟩⟩⟩⟩⟩⟩⟩⟩⟩⟩
set_option maxRecDepth 20000 in
theorem wsL_law0_r5_in : ∀ w ∈ wsL_law0_r5, w ∈ lw_tbl := List.forall_mem_cons.mpr ⟨lwt_t3 (List.mem_of_getElem? (i := 68) rfl), List.forall_mem_cons.mpr ⟨lwt_t3 (List.mem_of_getElem? (i := 39) rfl), List.forall_mem_cons.mpr ⟨lwt_t3 (List.mem_of_getElem? (i := 40) rfl), List.forall_mem_cons.mpr ⟨lwt_t3 (List.mem_of_getElem? (i := 41) rfl), List.forall_mem_cons.mpr ⟨lwt_t3 (List.mem_of_getElem? (i := 42) rfl), List.forall_mem_cons.mpr ⟨lwt_t3 (List.mem_of_getElem? (i := 43) rfl), List.forall_mem_cons.mpr ⟨lwt_t3 (List.mem_of_getElem? (i := 44) rfl), List.forall_mem_cons.mpr ⟨lwt_t3 (List.mem_of_getElem? (i := 45) rfl), List.forall_mem_cons.mpr ⟨lwt_t3 (List.mem_of_getElem? (i := 46) rfl), List.forall_mem_cons.mpr ⟨lwt_t3 (List.mem_of_getElem? (i := 47) rfl), List.forall_mem_cons.mpr ⟨lwt_t1 (List.mem_of_getElem? (i := 204) rfl), List.forall_mem_cons.mpr ⟨lwt_t1 (List.mem_of_getElem? (i := 205) rfl), List.forall_mem_cons.mpr ⟨lwt_t1 (List.mem_of_getElem? (i := 206) rfl), List.forall_mem_cons.mpr ⟨lwt_t1 (List.mem_of_getElem? (i := 207) rfl), List.forall_mem_cons.mpr ⟨lwt_t1 (List.mem_of_getElem? (i := 208) rfl), List.forall_mem_cons.mpr ⟨lwt_t1 (List.mem_of_getElem? (i := 10) rfl), List.forall_mem_cons.mpr ⟨lwt_t2 (List.mem_of_getElem? (i := 36) rfl), List.forall_mem_cons.mpr ⟨lwt_t1 (List.mem_of_getElem? (i := 11) rfl), List.forall_mem_cons.mpr ⟨lwt_t1 (List.mem_of_getElem? (i := 35) rfl), List.forall_mem_cons.mpr ⟨lwt_t1 (List.mem_of_getElem? (i := 196) rfl), List.forall_mem_cons.mpr ⟨lwt_t1 (List.mem_of_getElem? (i := 197) rfl), List.forall_mem_cons.mpr ⟨lwt_t1 (List.mem_of_getElem? (i := 198) rfl), List.forall_mem_cons.mpr ⟨lwt_t1 (List.mem_of_getElem? (i := 199) rfl), List.forall_mem_cons.mpr ⟨lwt_t1 (List.mem_of_getElem? (i := 182) rfl), fun _ h => absurd h List.not_mem_nil⟩⟩⟩⟩⟩⟩⟩⟩⟩⟩⟩⟩⟩⟩⟩⟩⟩⟩⟩⟩⟩⟩⟩⟩
set_option maxRecDepth 20000 in
theorem wsL_law0_r6_in : ∀ w ∈ wsL_law0_r6, w ∈ lw_tbl := List.forall_mem_cons.mpr ⟨lwt_t1 (List.mem_of_getElem? (i := 183) rfl), List.forall_mem_cons.mpr ⟨lwt_t1 (List.mem_of_getElem? (i := 184) rfl), List.forall_mem_cons.mpr ⟨lwt_t1 (List.mem_of_getElem? (i := 185) rfl), List.forall_mem_cons.mpr ⟨lwt_t1 (List.mem_of_getElem? (i := 193) rfl), List.forall_mem_cons.mpr ⟨lwt_t1 (List.mem_of_getElem? (i := 194) rfl), List.forall_mem_cons.mpr ⟨lwt_t1 (List.mem_of_getElem? (i := 13) rfl), List.forall_mem_cons.mpr ⟨lwt_t1 (List.mem_of_getElem? (i := 195) rfl), List.forall_mem_cons.mpr ⟨lwt_t1 (List.mem_of_getElem? (i := 186) rfl), List.forall_mem_cons.mpr ⟨lwt_t1 (List.mem_of_getElem? (i := 187) rfl), List.forall_mem_cons.mpr ⟨lwt_t1 (List.mem_of_getElem? (i := 188) rfl), List.forall_mem_cons.mpr ⟨lwt_t1 (List.mem_of_getElem? (i := 189) rfl), List.forall_mem_cons.mpr ⟨lwt_t1 (List.mem_of_getElem? (i := 190) rfl), List.forall_mem_cons.mpr ⟨lwt_t1 (List.mem_of_getElem? (i := 192) rfl), List.forall_mem_cons.mpr ⟨lwt_t1 (List.mem_of_getElem? (i := 191) rfl), List.forall_mem_cons.mpr ⟨lwt_t1 (List.mem_of_getElem? (i := 12) rfl), List.forall_mem_cons.mpr ⟨lwt_t2 (List.mem_of_getElem? (i := 52) rfl), List.forall_mem_cons.mpr ⟨lwt_t2 (List.mem_of_getElem? (i := 53) rfl), List.forall_mem_cons.mpr ⟨lwt_t2 (List.mem_of_getElem? (i := 54) rfl), List.forall_mem_cons.mpr ⟨lwt_t2 (List.mem_of_getElem? (i := 55) rfl), List.forall_mem_cons.mpr ⟨lwt_t1 (List.mem_of_getElem? (i := 178) rfl), List.forall_mem_cons.mpr ⟨lwt_t1 (List.mem_of_getElem? (i := 179) rfl), List.forall_mem_cons.mpr ⟨lwt_t1 (List.mem_of_getElem? (i := 180) rfl), List.forall_mem_cons.mpr ⟨lwt_t1 (List.mem_of_getElem? (i := 181) rfl), List.forall_mem_cons.mpr ⟨lwt_t1 (List.mem_of_getElem? (i := 200) rfl), fun _ h => absurd h List.not_mem_nil⟩⟩⟩⟩⟩⟩⟩⟩⟩⟩⟩⟩⟩⟩⟩⟩⟩⟩⟩⟩⟩⟩⟩⟩
set_option maxRecDepth 20000 in
theorem wsL_law0_r7_in : ∀ w ∈ wsL_law0_r7, w ∈ lw_tbl := List.forall_mem_cons.mpr ⟨lwt_t1 (List.mem_of_getElem? (i := 201) rfl), List.forall_mem_cons.mpr ⟨lwt_t1 (List.mem_of_getElem? (i := 202) rfl), List.forall_mem_cons.mpr ⟨lwt_t1 (List.mem_of_getElem? (i := 203) rfl), List.forall_mem_cons.mpr ⟨lwt_t2 (List.mem_of_getElem? (i := 56) rfl), List.forall_mem_cons.mpr ⟨lwt_t2 (List.mem_of_getElem? (i := 57) rfl), List.forall_mem_cons.mpr ⟨lwt_t2 (List.mem_of_getElem? (i := 58) rfl), List.forall_mem_cons.mpr ⟨lwt_t2 (List.mem_of_getElem? (i := 59) rfl), List.forall_mem_cons.mpr ⟨lwt_t1 (List.mem_of_getElem? (i := 39) rfl), List.forall_mem_cons.mpr ⟨lwt_t2 (List.mem_of_getElem? (i := 61) rfl), List.forall_mem_cons.mpr ⟨lwt_t2 (List.mem_of_getElem? (i := 62) rfl), List.forall_mem_cons.mpr ⟨lwt_t2 (List.mem_of_getElem? (i := 63) rfl), List.forall_mem_cons.mpr ⟨lwt_t2 (List.mem_of_getElem? (i := 64) rfl), List.forall_mem_cons.mpr ⟨lwt_t1 (List.mem_of_getElem? (i := 42) rfl), List.forall_mem_cons.mpr ⟨lwt_t2 (List.mem_of_getElem? (i := 65) rfl), List.forall_mem_cons.mpr ⟨lwt_t2 (List.mem_of_getElem? (i := 66) rfl), List.forall_mem_cons.mpr ⟨lwt_t2 (List.mem_of_getElem? (i := 67) rfl), List.forall_mem_cons.mpr ⟨lwt_t2 (List.mem_of_getElem? (i := 68) rfl), List.forall_mem_cons.mpr ⟨lwt_t1 (List.mem_of_getElem? (i := 45) rfl), List.forall_mem_cons.mpr ⟨lwt_t2 (List.mem_of_getElem? (i := 69) rfl), List.forall_mem_cons.mpr ⟨lwt_t2 (List.mem_of_getElem? (i := 70) rfl), List.forall_mem_cons.mpr ⟨lwt_t2 (List.mem_of_getElem? (i := 71) rfl), List.forall_mem_cons.mpr ⟨lwt_t2 (List.mem_of_getElem? (i := 72) rfl), List.forall_mem_cons.mpr ⟨lwt_t1 (List.mem_of_getElem? (i := 47) rfl), List.forall_mem_cons.mpr ⟨lwt_t3 (List.mem_of_getElem? (i := 164) rfl), fun _ h => absurd h List.not_mem_nil⟩⟩⟩⟩⟩⟩⟩⟩⟩⟩⟩⟩⟩⟩⟩⟩⟩⟩⟩⟩⟩⟩⟩⟩
set_option maxRecDepth 20000 in
theorem wsL_law0_r8_in : ∀ w ∈ wsL_law0_r8, w ∈ lw_tbl := List.forall_mem_cons.mpr ⟨lwt_t3 (List.mem_of_getElem? (i := 165) rfl), List.forall_mem_cons.mpr ⟨lwt_t3 (List.mem_of_getElem? (i := 166) rfl), List.forall_mem_cons.mpr ⟨lwt_t3 (List.mem_of_getElem? (i := 167) rfl), List.forall_mem_cons.mpr ⟨lwt_t2 (List.mem_of_getElem? (i := 73) rfl), List.forall_mem_cons.mpr ⟨lwt_t2 (List.mem_of_getElem? (i := 74) rfl), List.forall_mem_cons.mpr ⟨lwt_t2 (List.mem_of_getElem? (i := 75) rfl), List.forall_mem_cons.mpr ⟨lwt_t2 (List.mem_of_getElem? (i := 76) rfl), List.forall_mem_cons.mpr ⟨lwt_t2 (List.mem_of_getElem? (i := 77) rfl), List.forall_mem_cons.mpr ⟨lwt_t2 (List.mem_of_getElem? (i := 79) rfl), List.forall_mem_cons.mpr ⟨lwt_p (List.mem_of_getElem? (i := 1) rfl), List.forall_mem_cons.mpr ⟨lwt_t2 (List.mem_of_getElem? (i := 80) rfl), List.forall_mem_cons.mpr ⟨lwt_t2 (List.mem_of_getElem? (i := 85) rfl), List.forall_mem_cons.mpr ⟨lwt_t1 (List.mem_of_getElem? (i := 14) rfl), List.forall_mem_cons.mpr ⟨lwt_t2 (List.mem_of_getElem? (i := 81) rfl), List.forall_mem_cons.mpr ⟨lwt_t2 (List.mem_of_getElem? (i := 82) rfl), List.forall_mem_cons.mpr ⟨lwt_t2 (List.mem_of_getElem? (i := 83) rfl), List.forall_mem_cons.mpr ⟨lwt_t2 (List.mem_of_getElem? (i := 84) rfl), List.forall_mem_cons.mpr ⟨lwt_t2 (List.mem_of_getElem? (i := 102) rfl), List.forall_mem_cons.mpr ⟨lwt_t2 (List.mem_of_getElem? (i := 104) rfl), List.forall_mem_cons.mpr ⟨lwt_p (List.mem_of_getElem? (i := 2) rfl), List.forall_mem_cons.mpr ⟨lwt_t2 (List.mem_of_getElem? (i := 105) rfl), List.forall_mem_cons.mpr ⟨lwt_t2 (List.mem_of_getElem? (i := 106) rfl), List.forall_mem_cons.mpr ⟨lwt_t2 (List.mem_of_getElem? (i := 107) rfl), List.forall_mem_cons.mpr ⟨lwt_t2 (List.mem_of_getElem? (i := 108) rfl), fun _ h => absurd h List.not_mem_nil⟩⟩⟩⟩⟩⟩⟩⟩⟩⟩⟩⟩⟩⟩⟩⟩⟩⟩⟩⟩⟩⟩⟩⟩
set_option maxRecDepth 20000 in
theorem wsL_law0_r9_in : ∀ w ∈ wsL_law0_r9, w ∈ lw_tbl := List.forall_mem_cons.mpr ⟨lwt_t2 (List.mem_of_getElem? (i := 109) rfl), List.forall_mem_cons.mpr ⟨lwt_t2 (List.mem_of_getElem? (i := 110) rfl), List.forall_mem_cons.mpr ⟨lwt_t2 (List.mem_of_getElem? (i := 112) rfl), List.forall_mem_cons.mpr ⟨lwt_t2 (List.mem_of_getElem? (i := 113) rfl), List.forall_mem_cons.mpr ⟨lwt_t2 (List.mem_of_getElem? (i := 114) rfl), List.forall_mem_cons.mpr ⟨lwt_t2 (List.mem_of_getElem? (i := 115) rfl), List.forall_mem_cons.mpr ⟨lwt_t2 (List.mem_of_getElem? (i := 125) rfl), List.forall_mem_cons.mpr ⟨lwt_t2 (List.mem_of_getElem? (i := 126) rfl), List.forall_mem_cons.mpr ⟨lwt_t2 (List.mem_of_getElem? (i := 127) rfl), List.forall_mem_cons.mpr ⟨lwt_t2 (List.mem_of_getElem? (i := 128) rfl), List.forall_mem_cons.mpr ⟨lwt_t2 (List.mem_of_getElem? (i := 116) rfl), List.forall_mem_cons.mpr ⟨lwt_t2 (List.mem_of_getElem? (i := 117) rfl), List.forall_mem_cons.mpr ⟨lwt_t2 (List.mem_of_getElem? (i := 118) rfl), List.forall_mem_cons.mpr ⟨lwt_t2 (List.mem_of_getElem? (i := 119) rfl), List.forall_mem_cons.mpr ⟨lwt_t2 (List.mem_of_getElem? (i := 120) rfl), List.forall_mem_cons.mpr ⟨lwt_t2 (List.mem_of_getElem? (i := 121) rfl), List.forall_mem_cons.mpr ⟨lwt_t2 (List.mem_of_getElem? (i := 122) rfl), List.forall_mem_cons.mpr ⟨lwt_t2 (List.mem_of_getElem? (i := 123) rfl), List.forall_mem_cons.mpr ⟨lwt_t2 (List.mem_of_getElem? (i := 124) rfl), List.forall_mem_cons.mpr ⟨lwt_t2 (List.mem_of_getElem? (i := 129) rfl), List.forall_mem_cons.mpr ⟨lwt_t2 (List.mem_of_getElem? (i := 130) rfl), List.forall_mem_cons.mpr ⟨lwt_t2 (List.mem_of_getElem? (i := 131) rfl), List.forall_mem_cons.mpr ⟨lwt_t2 (List.mem_of_getElem? (i := 132) rfl), List.forall_mem_cons.mpr ⟨lwt_t2 (List.mem_of_getElem? (i := 134) rfl), fun _ h => absurd h List.not_mem_nil⟩⟩⟩⟩⟩⟩⟩⟩⟩⟩⟩⟩⟩⟩⟩⟩⟩⟩⟩⟩⟩⟩⟩⟩
set_option maxRecDepth 20000 in
theorem wsL_law0_r10_in : ∀ w ∈ wsL_law0_r10, w ∈ lw_tbl := List.forall_mem_cons.mpr ⟨lwt_t2 (List.mem_of_getElem? (i := 135) rfl), List.forall_mem_cons.mpr ⟨lwt_t2 (List.mem_of_getElem? (i := 136) rfl), List.forall_mem_cons.mpr ⟨lwt_t2 (List.mem_of_getElem? (i := 137) rfl), List.forall_mem_cons.mpr ⟨lwt_t2 (List.mem_of_getElem? (i := 139) rfl), List.forall_mem_cons.mpr ⟨lwt_t2 (List.mem_of_getElem? (i := 140) rfl), List.forall_mem_cons.mpr ⟨lwt_t2 (List.mem_of_getElem? (i := 141) rfl), List.forall_mem_cons.mpr ⟨lwt_t2 (List.mem_of_getElem? (i := 142) rfl), List.forall_mem_cons.mpr ⟨lwt_t2 (List.mem_of_getElem? (i := 143) rfl), List.forall_mem_cons.mpr ⟨lwt_t3 (List.mem_of_getElem? (i := 69) rfl), List.forall_mem_cons.mpr ⟨lwt_t3 (List.mem_of_getElem? (i := 70) rfl), List.forall_mem_cons.mpr ⟨lwt_t3 (List.mem_of_getElem? (i := 71) rfl), List.forall_mem_cons.mpr ⟨lwt_t2 (List.mem_of_getElem? (i := 184) rfl), List.forall_mem_cons.mpr ⟨lwt_t2 (List.mem_of_getElem? (i := 185) rfl), List.forall_mem_cons.mpr ⟨lwt_t2 (List.mem_of_getElem? (i := 186) rfl), List.forall_mem_cons.mpr ⟨lwt_t2 (List.mem_of_getElem? (i := 187) rfl), List.forall_mem_cons.mpr ⟨lwt_t1 (List.mem_of_getElem? (i := 102) rfl), List.forall_mem_cons.mpr ⟨lwt_t2 (List.mem_of_getElem? (i := 152) rfl), List.forall_mem_cons.mpr ⟨lwt_t2 (List.mem_of_getElem? (i := 153) rfl), List.forall_mem_cons.mpr ⟨lwt_t2 (List.mem_of_getElem? (i := 154) rfl), List.forall_mem_cons.mpr ⟨lwt_t2 (List.mem_of_getElem? (i := 155) rfl), List.forall_mem_cons.mpr ⟨lwt_t1 (List.mem_of_getElem? (i := 41) rfl), List.forall_mem_cons.mpr ⟨lwt_t1 (List.mem_of_getElem? (i := 44) rfl), List.forall_mem_cons.mpr ⟨lwt_t2 (List.mem_of_getElem? (i := 156) rfl), List.forall_mem_cons.mpr ⟨lwt_t2 (List.mem_of_getElem? (i := 157) rfl), fun _ h => absurd h List.not_mem_nil⟩⟩⟩⟩⟩⟩⟩⟩⟩⟩⟩⟩⟩⟩⟩⟩⟩⟩⟩⟩⟩⟩⟩⟩
set_option maxRecDepth 20000 in
theorem wsL_law0_r11_in : ∀ w ∈ wsL_law0_r11, w ∈ lw_tbl := List.forall_mem_cons.mpr ⟨lwt_t2 (List.mem_of_getElem? (i := 158) rfl), List.forall_mem_cons.mpr ⟨lwt_t2 (List.mem_of_getElem? (i := 159) rfl), List.forall_mem_cons.mpr ⟨lwt_t2 (List.mem_of_getElem? (i := 161) rfl), List.forall_mem_cons.mpr ⟨lwt_t2 (List.mem_of_getElem? (i := 162) rfl), List.forall_mem_cons.mpr ⟨lwt_t2 (List.mem_of_getElem? (i := 163) rfl), List.forall_mem_cons.mpr ⟨lwt_t2 (List.mem_of_getElem? (i := 165) rfl), List.forall_mem_cons.mpr ⟨lwt_t2 (List.mem_of_getElem? (i := 167) rfl), List.forall_mem_cons.mpr ⟨lwt_p (List.mem_of_getElem? (i := 4) rfl), List.forall_mem_cons.mpr ⟨lwt_t2 (List.mem_of_getElem? (i := 168) rfl), List.forall_mem_cons.mpr ⟨lwt_t1 (List.mem_of_getElem? (i := 34) rfl), List.forall_mem_cons.mpr ⟨lwt_t1 (List.mem_of_getElem? (i := 31) rfl), List.forall_mem_cons.mpr ⟨lwt_t1 (List.mem_of_getElem? (i := 38) rfl), List.forall_mem_cons.mpr ⟨lwt_t2 (List.mem_of_getElem? (i := 170) rfl), List.forall_mem_cons.mpr ⟨lwt_t2 (List.mem_of_getElem? (i := 171) rfl), List.forall_mem_cons.mpr ⟨lwt_t2 (List.mem_of_getElem? (i := 173) rfl), List.forall_mem_cons.mpr ⟨lwt_p (List.mem_of_getElem? (i := 5) rfl), List.forall_mem_cons.mpr ⟨lwt_t2 (List.mem_of_getElem? (i := 174) rfl), List.forall_mem_cons.mpr ⟨lwt_t2 (List.mem_of_getElem? (i := 175) rfl), List.forall_mem_cons.mpr ⟨lwt_t2 (List.mem_of_getElem? (i := 177) rfl), List.forall_mem_cons.mpr ⟨lwt_p (List.mem_of_getElem? (i := 6) rfl), List.forall_mem_cons.mpr ⟨lwt_t2 (List.mem_of_getElem? (i := 178) rfl), List.forall_mem_cons.mpr ⟨lwt_t2 (List.mem_of_getElem? (i := 179) rfl), List.forall_mem_cons.mpr ⟨lwt_t2 (List.mem_of_getElem? (i := 181) rfl), List.forall_mem_cons.mpr ⟨lwt_p (List.mem_of_getElem? (i := 7) rfl), fun _ h => absurd h List.not_mem_nil⟩⟩⟩⟩⟩⟩⟩⟩⟩⟩⟩⟩⟩⟩⟩⟩⟩⟩⟩⟩⟩⟩⟩⟩
set_option maxRecDepth 20000 in
theorem wsL_law0_r12_in : ∀ w ∈ wsL_law0_r12, w ∈ lw_tbl := List.forall_mem_cons.mpr ⟨lwt_t2 (List.mem_of_getElem? (i := 182) rfl), List.forall_mem_cons.mpr ⟨lwt_t2 (List.mem_of_getElem? (i := 200) rfl), List.forall_mem_cons.mpr ⟨lwt_t2 (List.mem_of_getElem? (i := 201) rfl), List.forall_mem_cons.mpr ⟨lwt_t2 (List.mem_of_getElem? (i := 202) rfl), List.forall_mem_cons.mpr ⟨lwt_t2 (List.mem_of_getElem? (i := 203) rfl), List.forall_mem_cons.mpr ⟨lwt_t2 (List.mem_of_getElem? (i := 223) rfl), List.forall_mem_cons.mpr ⟨lwt_t1 (List.mem_of_getElem? (i := 99) rfl), List.forall_mem_cons.mpr ⟨lwt_t2 (List.mem_of_getElem? (i := 204) rfl), List.forall_mem_cons.mpr ⟨lwt_t2 (List.mem_of_getElem? (i := 205) rfl), List.forall_mem_cons.mpr ⟨lwt_t2 (List.mem_of_getElem? (i := 206) rfl), List.forall_mem_cons.mpr ⟨lwt_t2 (List.mem_of_getElem? (i := 207) rfl), List.forall_mem_cons.mpr ⟨lwt_t2 (List.mem_of_getElem? (i := 215) rfl), List.forall_mem_cons.mpr ⟨lwt_t1 (List.mem_of_getElem? (i := 15) rfl), List.forall_mem_cons.mpr ⟨lwt_t2 (List.mem_of_getElem? (i := 228) rfl), List.forall_mem_cons.mpr ⟨lwt_t2 (List.mem_of_getElem? (i := 208) rfl), List.forall_mem_cons.mpr ⟨lwt_t2 (List.mem_of_getElem? (i := 209) rfl), List.forall_mem_cons.mpr ⟨lwt_t2 (List.mem_of_getElem? (i := 210) rfl), List.forall_mem_cons.mpr ⟨lwt_t2 (List.mem_of_getElem? (i := 211) rfl), List.forall_mem_cons.mpr ⟨lwt_t2 (List.mem_of_getElem? (i := 213) rfl), List.forall_mem_cons.mpr ⟨lwt_t2 (List.mem_of_getElem? (i := 214) rfl), List.forall_mem_cons.mpr ⟨lwt_t2 (List.mem_of_getElem? (i := 216) rfl), List.forall_mem_cons.mpr ⟨lwt_t2 (List.mem_of_getElem? (i := 217) rfl), List.forall_mem_cons.mpr ⟨lwt_t2 (List.mem_of_getElem? (i := 218) rfl), List.forall_mem_cons.mpr ⟨lwt_t2 (List.mem_of_getElem? (i := 219) rfl), fun _ h => absurd h List.not_mem_nil⟩⟩⟩⟩⟩⟩⟩⟩⟩⟩⟩⟩⟩⟩⟩⟩⟩⟩⟩⟩⟩⟩⟩⟩
set_option maxRecDepth 20000 in
theorem wsL_law0_r13_in : ∀ w ∈ wsL_law0_r13, w ∈ lw_tbl := List.forall_mem_cons.mpr ⟨lwt_t2 (List.mem_of_getElem? (i := 220) rfl), List.forall_mem_cons.mpr ⟨lwt_t2 (List.mem_of_getElem? (i := 222) rfl), List.forall_mem_cons.mpr ⟨lwt_t2 (List.mem_of_getElem? (i := 224) rfl), List.forall_mem_cons.mpr ⟨lwt_t3 (List.mem_of_getElem? (i := 0) rfl), List.forall_mem_cons.mpr ⟨lwt_t2 (List.mem_of_getElem? (i := 226) rfl), List.forall_mem_cons.mpr ⟨lwt_t2 (List.mem_of_getElem? (i := 227) rfl), List.forall_mem_cons.mpr ⟨lwt_t3 (List.mem_of_getElem? (i := 1) rfl), List.forall_mem_cons.mpr ⟨lwt_t3 (List.mem_of_getElem? (i := 2) rfl), List.forall_mem_cons.mpr ⟨lwt_t3 (List.mem_of_getElem? (i := 3) rfl), List.forall_mem_cons.mpr ⟨lwt_t3 (List.mem_of_getElem? (i := 5) rfl), List.forall_mem_cons.mpr ⟨lwt_p (List.mem_of_getElem? (i := 8) rfl), List.forall_mem_cons.mpr ⟨lwt_t3 (List.mem_of_getElem? (i := 6) rfl), List.forall_mem_cons.mpr ⟨lwt_t3 (List.mem_of_getElem? (i := 7) rfl), List.forall_mem_cons.mpr ⟨lwt_t3 (List.mem_of_getElem? (i := 9) rfl), List.forall_mem_cons.mpr ⟨lwt_p (List.mem_of_getElem? (i := 9) rfl), List.forall_mem_cons.mpr ⟨lwt_t3 (List.mem_of_getElem? (i := 10) rfl), List.forall_mem_cons.mpr ⟨lwt_t1 (List.mem_of_getElem? (i := 36) rfl), List.forall_mem_cons.mpr ⟨lwt_t3 (List.mem_of_getElem? (i := 11) rfl), List.forall_mem_cons.mpr ⟨lwt_t3 (List.mem_of_getElem? (i := 13) rfl), List.forall_mem_cons.mpr ⟨lwt_p (List.mem_of_getElem? (i := 10) rfl), List.forall_mem_cons.mpr ⟨lwt_t3 (List.mem_of_getElem? (i := 14) rfl), List.forall_mem_cons.mpr ⟨lwt_t3 (List.mem_of_getElem? (i := 15) rfl), List.forall_mem_cons.mpr ⟨lwt_t3 (List.mem_of_getElem? (i := 16) rfl), List.forall_mem_cons.mpr ⟨lwt_t3 (List.mem_of_getElem? (i := 17) rfl), fun _ h => absurd h List.not_mem_nil⟩⟩⟩⟩⟩⟩⟩⟩⟩⟩⟩⟩⟩⟩⟩⟩⟩⟩⟩⟩⟩⟩⟩⟩
set_option maxRecDepth 20000 in
theorem wsL_law0_r14_in : ∀ w ∈ wsL_law0_r14, w ∈ lw_tbl := List.forall_mem_cons.mpr ⟨lwt_t3 (List.mem_of_getElem? (i := 18) rfl), List.forall_mem_cons.mpr ⟨lwt_t3 (List.mem_of_getElem? (i := 19) rfl), List.forall_mem_cons.mpr ⟨lwt_t3 (List.mem_of_getElem? (i := 20) rfl), List.forall_mem_cons.mpr ⟨lwt_t3 (List.mem_of_getElem? (i := 21) rfl), List.forall_mem_cons.mpr ⟨lwt_t1 (List.mem_of_getElem? (i := 101) rfl), List.forall_mem_cons.mpr ⟨lwt_t1 (List.mem_of_getElem? (i := 98) rfl), List.forall_mem_cons.mpr ⟨lwt_t3 (List.mem_of_getElem? (i := 22) rfl), List.forall_mem_cons.mpr ⟨lwt_t3 (List.mem_of_getElem? (i := 23) rfl), List.forall_mem_cons.mpr ⟨lwt_t3 (List.mem_of_getElem? (i := 24) rfl), List.forall_mem_cons.mpr ⟨lwt_t3 (List.mem_of_getElem? (i := 25) rfl), List.forall_mem_cons.mpr ⟨lwt_t3 (List.mem_of_getElem? (i := 26) rfl), List.forall_mem_cons.mpr ⟨lwt_t3 (List.mem_of_getElem? (i := 27) rfl), List.forall_mem_cons.mpr ⟨lwt_t3 (List.mem_of_getElem? (i := 29) rfl), List.forall_mem_cons.mpr ⟨lwt_p (List.mem_of_getElem? (i := 11) rfl), List.forall_mem_cons.mpr ⟨lwt_t3 (List.mem_of_getElem? (i := 30) rfl), List.forall_mem_cons.mpr ⟨lwt_t1 (List.mem_of_getElem? (i := 32) rfl), List.forall_mem_cons.mpr ⟨lwt_t3 (List.mem_of_getElem? (i := 31) rfl), List.forall_mem_cons.mpr ⟨lwt_t3 (List.mem_of_getElem? (i := 33) rfl), List.forall_mem_cons.mpr ⟨lwt_p (List.mem_of_getElem? (i := 12) rfl), List.forall_mem_cons.mpr ⟨lwt_t3 (List.mem_of_getElem? (i := 34) rfl), List.forall_mem_cons.mpr ⟨lwt_t3 (List.mem_of_getElem? (i := 35) rfl), List.forall_mem_cons.mpr ⟨lwt_t3 (List.mem_of_getElem? (i := 36) rfl), List.forall_mem_cons.mpr ⟨lwt_t3 (List.mem_of_getElem? (i := 37) rfl), List.forall_mem_cons.mpr ⟨lwt_t3 (List.mem_of_getElem? (i := 38) rfl), fun _ h => absurd h List.not_mem_nil⟩⟩⟩⟩⟩⟩⟩⟩⟩⟩⟩⟩⟩⟩⟩⟩⟩⟩⟩⟩⟩⟩⟩⟩
set_option maxRecDepth 20000 in
theorem wsL_law0_r15_in : ∀ w ∈ wsL_law0_r15, w ∈ lw_tbl := List.forall_mem_cons.mpr ⟨lwt_t2 (List.mem_of_getElem? (i := 188) rfl), List.forall_mem_cons.mpr ⟨lwt_t2 (List.mem_of_getElem? (i := 189) rfl), List.forall_mem_cons.mpr ⟨lwt_t2 (List.mem_of_getElem? (i := 190) rfl), List.forall_mem_cons.mpr ⟨lwt_t2 (List.mem_of_getElem? (i := 191) rfl), List.forall_mem_cons.mpr ⟨lwt_t1 (List.mem_of_getElem? (i := 92) rfl), List.forall_mem_cons.mpr ⟨lwt_t2 (List.mem_of_getElem? (i := 148) rfl), List.forall_mem_cons.mpr ⟨lwt_t2 (List.mem_of_getElem? (i := 150) rfl), List.forall_mem_cons.mpr ⟨lwt_p (List.mem_of_getElem? (i := 3) rfl), List.forall_mem_cons.mpr ⟨lwt_t2 (List.mem_of_getElem? (i := 151) rfl), List.forall_mem_cons.mpr ⟨lwt_t2 (List.mem_of_getElem? (i := 192) rfl), List.forall_mem_cons.mpr ⟨lwt_t2 (List.mem_of_getElem? (i := 193) rfl), List.forall_mem_cons.mpr ⟨lwt_t2 (List.mem_of_getElem? (i := 194) rfl), List.forall_mem_cons.mpr ⟨lwt_t2 (List.mem_of_getElem? (i := 195) rfl), List.forall_mem_cons.mpr ⟨lwt_t1 (List.mem_of_getElem? (i := 94) rfl), List.forall_mem_cons.mpr ⟨lwt_t2 (List.mem_of_getElem? (i := 196) rfl), List.forall_mem_cons.mpr ⟨lwt_t2 (List.mem_of_getElem? (i := 197) rfl), List.forall_mem_cons.mpr ⟨lwt_t2 (List.mem_of_getElem? (i := 198) rfl), List.forall_mem_cons.mpr ⟨lwt_t2 (List.mem_of_getElem? (i := 199) rfl), List.forall_mem_cons.mpr ⟨lwt_t1 (List.mem_of_getElem? (i := 96) rfl), List.forall_mem_cons.mpr ⟨lwt_t2 (List.mem_of_getElem? (i := 144) rfl), List.forall_mem_cons.mpr ⟨lwt_t2 (List.mem_of_getElem? (i := 145) rfl), List.forall_mem_cons.mpr ⟨lwt_t2 (List.mem_of_getElem? (i := 146) rfl), List.forall_mem_cons.mpr ⟨lwt_t2 (List.mem_of_getElem? (i := 147) rfl), List.forall_mem_cons.mpr ⟨lwt_t3 (List.mem_of_getElem? (i := 72) rfl), fun _ h => absurd h List.not_mem_nil⟩⟩⟩⟩⟩⟩⟩⟩⟩⟩⟩⟩⟩⟩⟩⟩⟩⟩⟩⟩⟩⟩⟩⟩
set_option maxRecDepth 20000 in
theorem wsL_law0_r16_in : ∀ w ∈ wsL_law0_r16, w ∈ lw_tbl := List.forall_mem_cons.mpr ⟨lwt_t3 (List.mem_of_getElem? (i := 73) rfl), List.forall_mem_cons.mpr ⟨lwt_t3 (List.mem_of_getElem? (i := 74) rfl), List.forall_mem_cons.mpr ⟨lwt_t3 (List.mem_of_getElem? (i := 75) rfl), List.forall_mem_cons.mpr ⟨lwt_t3 (List.mem_of_getElem? (i := 76) rfl), List.forall_mem_cons.mpr ⟨lwt_t3 (List.mem_of_getElem? (i := 77) rfl), List.forall_mem_cons.mpr ⟨lwt_t3 (List.mem_of_getElem? (i := 78) rfl), List.forall_mem_cons.mpr ⟨lwt_t3 (List.mem_of_getElem? (i := 79) rfl), List.forall_mem_cons.mpr ⟨lwt_t3 (List.mem_of_getElem? (i := 80) rfl), List.forall_mem_cons.mpr ⟨lwt_t3 (List.mem_of_getElem? (i := 81) rfl), List.forall_mem_cons.mpr ⟨lwt_t3 (List.mem_of_getElem? (i := 82) rfl), List.forall_mem_cons.mpr ⟨lwt_t3 (List.mem_of_getElem? (i := 83) rfl), List.forall_mem_cons.mpr ⟨lwt_t3 (List.mem_of_getElem? (i := 84) rfl), List.forall_mem_cons.mpr ⟨lwt_t3 (List.mem_of_getElem? (i := 85) rfl), List.forall_mem_cons.mpr ⟨lwt_t3 (List.mem_of_getElem? (i := 86) rfl), List.forall_mem_cons.mpr ⟨lwt_t3 (List.mem_of_getElem? (i := 87) rfl), List.forall_mem_cons.mpr ⟨lwt_t3 (List.mem_of_getElem? (i := 88) rfl), List.forall_mem_cons.mpr ⟨lwt_t3 (List.mem_of_getElem? (i := 89) rfl), List.forall_mem_cons.mpr ⟨lwt_t3 (List.mem_of_getElem? (i := 90) rfl), List.forall_mem_cons.mpr ⟨lwt_t3 (List.mem_of_getElem? (i := 91) rfl), List.forall_mem_cons.mpr ⟨lwt_t3 (List.mem_of_getElem? (i := 92) rfl), List.forall_mem_cons.mpr ⟨lwt_t3 (List.mem_of_getElem? (i := 93) rfl), List.forall_mem_cons.mpr ⟨lwt_t3 (List.mem_of_getElem? (i := 94) rfl), List.forall_mem_cons.mpr ⟨lwt_t3 (List.mem_of_getElem? (i := 95) rfl), List.forall_mem_cons.mpr ⟨lwt_t3 (List.mem_of_getElem? (i := 96) rfl), fun _ h => absurd h List.not_mem_nil⟩⟩⟩⟩⟩⟩⟩⟩⟩⟩⟩⟩⟩⟩⟩⟩⟩⟩⟩⟩⟩⟩⟩⟩
set_option maxRecDepth 20000 in
theorem wsL_law0_r17_in : ∀ w ∈ wsL_law0_r17, w ∈ lw_tbl := List.forall_mem_cons.mpr ⟨lwt_t3 (List.mem_of_getElem? (i := 97) rfl), List.forall_mem_cons.mpr ⟨lwt_t3 (List.mem_of_getElem? (i := 98) rfl), List.forall_mem_cons.mpr ⟨lwt_t3 (List.mem_of_getElem? (i := 99) rfl), List.forall_mem_cons.mpr ⟨lwt_t3 (List.mem_of_getElem? (i := 100) rfl), List.forall_mem_cons.mpr ⟨lwt_t3 (List.mem_of_getElem? (i := 101) rfl), List.forall_mem_cons.mpr ⟨lwt_t3 (List.mem_of_getElem? (i := 102) rfl), List.forall_mem_cons.mpr ⟨lwt_t2 (List.mem_of_getElem? (i := 221) rfl), List.forall_mem_cons.mpr ⟨lwt_t3 (List.mem_of_getElem? (i := 103) rfl), List.forall_mem_cons.mpr ⟨lwt_t3 (List.mem_of_getElem? (i := 104) rfl), List.forall_mem_cons.mpr ⟨lwt_t3 (List.mem_of_getElem? (i := 105) rfl), List.forall_mem_cons.mpr ⟨lwt_t3 (List.mem_of_getElem? (i := 106) rfl), List.forall_mem_cons.mpr ⟨lwt_t3 (List.mem_of_getElem? (i := 107) rfl), List.forall_mem_cons.mpr ⟨lwt_t3 (List.mem_of_getElem? (i := 108) rfl), List.forall_mem_cons.mpr ⟨lwt_t3 (List.mem_of_getElem? (i := 109) rfl), List.forall_mem_cons.mpr ⟨lwt_t3 (List.mem_of_getElem? (i := 110) rfl), List.forall_mem_cons.mpr ⟨lwt_t3 (List.mem_of_getElem? (i := 111) rfl), List.forall_mem_cons.mpr ⟨lwt_t3 (List.mem_of_getElem? (i := 112) rfl), List.forall_mem_cons.mpr ⟨lwt_t3 (List.mem_of_getElem? (i := 113) rfl), List.forall_mem_cons.mpr ⟨lwt_t3 (List.mem_of_getElem? (i := 114) rfl), List.forall_mem_cons.mpr ⟨lwt_t3 (List.mem_of_getElem? (i := 115) rfl), List.forall_mem_cons.mpr ⟨lwt_t3 (List.mem_of_getElem? (i := 116) rfl), List.forall_mem_cons.mpr ⟨lwt_t3 (List.mem_of_getElem? (i := 117) rfl), List.forall_mem_cons.mpr ⟨lwt_t3 (List.mem_of_getElem? (i := 118) rfl), List.forall_mem_cons.mpr ⟨lwt_t3 (List.mem_of_getElem? (i := 119) rfl), fun _ h => absurd h List.not_mem_nil⟩⟩⟩⟩⟩⟩⟩⟩⟩⟩⟩⟩⟩⟩⟩⟩⟩⟩⟩⟩⟩⟩⟩⟩
set_option maxRecDepth 20000 in
theorem wsL_law0_r18_in : ∀ w ∈ wsL_law0_r18, w ∈ lw_tbl := List.forall_mem_cons.mpr ⟨lwt_t3 (List.mem_of_getElem? (i := 120) rfl), List.forall_mem_cons.mpr ⟨lwt_t2 (List.mem_of_getElem? (i := 225) rfl), List.forall_mem_cons.mpr ⟨lwt_t3 (List.mem_of_getElem? (i := 121) rfl), List.forall_mem_cons.mpr ⟨lwt_t3 (List.mem_of_getElem? (i := 122) rfl), List.forall_mem_cons.mpr ⟨lwt_t3 (List.mem_of_getElem? (i := 123) rfl), List.forall_mem_cons.mpr ⟨lwt_t3 (List.mem_of_getElem? (i := 124) rfl), List.forall_mem_cons.mpr ⟨lwt_t3 (List.mem_of_getElem? (i := 125) rfl), List.forall_mem_cons.mpr ⟨lwt_t3 (List.mem_of_getElem? (i := 126) rfl), List.forall_mem_cons.mpr ⟨lwt_t3 (List.mem_of_getElem? (i := 127) rfl), List.forall_mem_cons.mpr ⟨lwt_t3 (List.mem_of_getElem? (i := 128) rfl), List.forall_mem_cons.mpr ⟨lwt_t3 (List.mem_of_getElem? (i := 129) rfl), List.forall_mem_cons.mpr ⟨lwt_t3 (List.mem_of_getElem? (i := 130) rfl), List.forall_mem_cons.mpr ⟨lwt_t3 (List.mem_of_getElem? (i := 131) rfl), List.forall_mem_cons.mpr ⟨lwt_t3 (List.mem_of_getElem? (i := 132) rfl), List.forall_mem_cons.mpr ⟨lwt_t3 (List.mem_of_getElem? (i := 133) rfl), List.forall_mem_cons.mpr ⟨lwt_t3 (List.mem_of_getElem? (i := 134) rfl), List.forall_mem_cons.mpr ⟨lwt_t3 (List.mem_of_getElem? (i := 135) rfl), List.forall_mem_cons.mpr ⟨lwt_t3 (List.mem_of_getElem? (i := 136) rfl), List.forall_mem_cons.mpr ⟨lwt_t3 (List.mem_of_getElem? (i := 137) rfl), List.forall_mem_cons.mpr ⟨lwt_t3 (List.mem_of_getElem? (i := 138) rfl), List.forall_mem_cons.mpr ⟨lwt_t3 (List.mem_of_getElem? (i := 139) rfl), List.forall_mem_cons.mpr ⟨lwt_t3 (List.mem_of_getElem? (i := 140) rfl), List.forall_mem_cons.mpr ⟨lwt_t3 (List.mem_of_getElem? (i := 141) rfl), List.forall_mem_cons.mpr ⟨lwt_t3 (List.mem_of_getElem? (i := 142) rfl), fun _ h => absurd h List.not_mem_nil⟩⟩⟩⟩⟩⟩⟩⟩⟩⟩⟩⟩⟩⟩⟩⟩⟩⟩⟩⟩⟩⟩⟩⟩
set_option maxRecDepth 20000 in
theorem wsL_law0_r19_in : ∀ w ∈ wsL_law0_r19, w ∈ lw_tbl := List.forall_mem_cons.mpr ⟨lwt_t3 (List.mem_of_getElem? (i := 143) rfl), List.forall_mem_cons.mpr ⟨lwt_t3 (List.mem_of_getElem? (i := 144) rfl), List.forall_mem_cons.mpr ⟨lwt_t3 (List.mem_of_getElem? (i := 145) rfl), List.forall_mem_cons.mpr ⟨lwt_t3 (List.mem_of_getElem? (i := 146) rfl), List.forall_mem_cons.mpr ⟨lwt_t3 (List.mem_of_getElem? (i := 147) rfl), List.forall_mem_cons.mpr ⟨lwt_t3 (List.mem_of_getElem? (i := 148) rfl), List.forall_mem_cons.mpr ⟨lwt_t3 (List.mem_of_getElem? (i := 149) rfl), List.forall_mem_cons.mpr ⟨lwt_t3 (List.mem_of_getElem? (i := 150) rfl), List.forall_mem_cons.mpr ⟨lwt_t3 (List.mem_of_getElem? (i := 151) rfl), List.forall_mem_cons.mpr ⟨lwt_t3 (List.mem_of_getElem? (i := 152) rfl), List.forall_mem_cons.mpr ⟨lwt_t1 (List.mem_of_getElem? (i := 49) rfl), List.forall_mem_cons.mpr ⟨lwt_t3 (List.mem_of_getElem? (i := 153) rfl), List.forall_mem_cons.mpr ⟨lwt_t3 (List.mem_of_getElem? (i := 154) rfl), List.forall_mem_cons.mpr ⟨lwt_t3 (List.mem_of_getElem? (i := 155) rfl), List.forall_mem_cons.mpr ⟨lwt_t3 (List.mem_of_getElem? (i := 156) rfl), List.forall_mem_cons.mpr ⟨lwt_t3 (List.mem_of_getElem? (i := 157) rfl), List.forall_mem_cons.mpr ⟨lwt_t3 (List.mem_of_getElem? (i := 159) rfl), List.forall_mem_cons.mpr ⟨lwt_t3 (List.mem_of_getElem? (i := 160) rfl), List.forall_mem_cons.mpr ⟨lwt_t3 (List.mem_of_getElem? (i := 161) rfl), List.forall_mem_cons.mpr ⟨lwt_t3 (List.mem_of_getElem? (i := 162) rfl), List.forall_mem_cons.mpr ⟨lwt_t3 (List.mem_of_getElem? (i := 163) rfl), fun _ h => absurd h List.not_mem_nil⟩⟩⟩⟩⟩⟩⟩⟩⟩⟩⟩⟩⟩⟩⟩⟩⟩⟩⟩⟩⟩
set_option maxRecDepth 20000 in
theorem wsX00_in : ∀ w ∈ wsX00, w ∈ lw_tbl := List.forall_mem_cons.mpr ⟨lwt_t1 (List.mem_of_getElem? (i := 78) rfl), List.forall_mem_cons.mpr ⟨lwt_t1 (List.mem_of_getElem? (i := 80) rfl), List.forall_mem_cons.mpr ⟨lwt_t1 (List.mem_of_getElem? (i := 82) rfl), fun _ h => absurd h List.not_mem_nil⟩⟩⟩
set_option maxRecDepth 20000 in
theorem wsX10_in : ∀ w ∈ wsX10, w ∈ lw_tbl := List.forall_mem_cons.mpr ⟨lwt_t1 (List.mem_of_getElem? (i := 103) rfl), List.forall_mem_cons.mpr ⟨lwt_t1 (List.mem_of_getElem? (i := 105) rfl), List.forall_mem_cons.mpr ⟨lwt_t1 (List.mem_of_getElem? (i := 107) rfl), List.forall_mem_cons.mpr ⟨lwt_t1 (List.mem_of_getElem? (i := 109) rfl), List.forall_mem_cons.mpr ⟨lwt_t1 (List.mem_of_getElem? (i := 111) rfl), fun _ h => absurd h List.not_mem_nil⟩⟩⟩⟩⟩
set_option maxRecDepth 20000 in
theorem wsX20_in : ∀ w ∈ wsX20, w ∈ lw_tbl := List.forall_mem_cons.mpr ⟨lwt_t2 (List.mem_of_getElem? (i := 229) rfl), List.forall_mem_cons.mpr ⟨lwt_t2 (List.mem_of_getElem? (i := 231) rfl), List.forall_mem_cons.mpr ⟨lwt_t2 (List.mem_of_getElem? (i := 233) rfl), List.forall_mem_cons.mpr ⟨lwt_t2 (List.mem_of_getElem? (i := 235) rfl), List.forall_mem_cons.mpr ⟨lwt_t2 (List.mem_of_getElem? (i := 237) rfl), fun _ h => absurd h List.not_mem_nil⟩⟩⟩⟩⟩
set_option maxRecDepth 20000 in
theorem wsX30_in : ∀ w ∈ wsX30, w ∈ lw_tbl := List.forall_mem_cons.mpr ⟨lwt_t1 (List.mem_of_getElem? (i := 129) rfl), List.forall_mem_cons.mpr ⟨lwt_t1 (List.mem_of_getElem? (i := 131) rfl), List.forall_mem_cons.mpr ⟨lwt_t1 (List.mem_of_getElem? (i := 133) rfl), fun _ h => absurd h List.not_mem_nil⟩⟩⟩
set_option maxRecDepth 20000 in
theorem wsX40_in : ∀ w ∈ wsX40, w ∈ lw_tbl := List.forall_mem_cons.mpr ⟨lwt_t1 (List.mem_of_getElem? (i := 50) rfl), List.forall_mem_cons.mpr ⟨lwt_t1 (List.mem_of_getElem? (i := 52) rfl), List.forall_mem_cons.mpr ⟨lwt_t1 (List.mem_of_getElem? (i := 54) rfl), List.forall_mem_cons.mpr ⟨lwt_t1 (List.mem_of_getElem? (i := 56) rfl), List.forall_mem_cons.mpr ⟨lwt_t1 (List.mem_of_getElem? (i := 58) rfl), List.forall_mem_cons.mpr ⟨lwt_t1 (List.mem_of_getElem? (i := 60) rfl), List.forall_mem_cons.mpr ⟨lwt_t1 (List.mem_of_getElem? (i := 62) rfl), fun _ h => absurd h List.not_mem_nil⟩⟩⟩⟩⟩⟩⟩
set_option maxRecDepth 20000 in
theorem wsX50_in : ∀ w ∈ wsX50, w ∈ lw_tbl := List.forall_mem_cons.mpr ⟨lwt_t1 (List.mem_of_getElem? (i := 148) rfl), List.forall_mem_cons.mpr ⟨lwt_t1 (List.mem_of_getElem? (i := 150) rfl), List.forall_mem_cons.mpr ⟨lwt_t1 (List.mem_of_getElem? (i := 152) rfl), List.forall_mem_cons.mpr ⟨lwt_t1 (List.mem_of_getElem? (i := 154) rfl), List.forall_mem_cons.mpr ⟨lwt_t1 (List.mem_of_getElem? (i := 156) rfl), List.forall_mem_cons.mpr ⟨lwt_t1 (List.mem_of_getElem? (i := 158) rfl), fun _ h => absurd h List.not_mem_nil⟩⟩⟩⟩⟩⟩
set_option maxRecDepth 20000 in
theorem wsX60_in : ∀ w ∈ wsX60, w ∈ lw_tbl := List.forall_mem_cons.mpr ⟨lwt_t1 (List.mem_of_getElem? (i := 167) rfl), List.forall_mem_cons.mpr ⟨lwt_t1 (List.mem_of_getElem? (i := 169) rfl), List.forall_mem_cons.mpr ⟨lwt_t1 (List.mem_of_getElem? (i := 171) rfl), List.forall_mem_cons.mpr ⟨lwt_t1 (List.mem_of_getElem? (i := 173) rfl), List.forall_mem_cons.mpr ⟨lwt_t1 (List.mem_of_getElem? (i := 175) rfl), fun _ h => absurd h List.not_mem_nil⟩⟩⟩⟩⟩
theorem wsL_law0_rs_in : ∀ w ∈ (wsL_law0_r1 ++ (wsL_law0_r2 ++ (wsL_law0_r3 ++ (wsL_law0_r4 ++ (wsL_law0_r5 ++ (wsL_law0_r6 ++ (wsL_law0_r7 ++ (wsL_law0_r8 ++ (wsL_law0_r9 ++ (wsL_law0_r10 ++ (wsL_law0_r11 ++ (wsL_law0_r12 ++ (wsL_law0_r13 ++ (wsL_law0_r14 ++ (wsL_law0_r15 ++ (wsL_law0_r16 ++ (wsL_law0_r17 ++ (wsL_law0_r18 ++ (wsL_law0_r19))))))))))))))))))), w ∈ lw_tbl := List.forall_mem_append.mpr ⟨wsL_law0_r1_in, List.forall_mem_append.mpr ⟨wsL_law0_r2_in, List.forall_mem_append.mpr ⟨wsL_law0_r3_in, List.forall_mem_append.mpr ⟨wsL_law0_r4_in, List.forall_mem_append.mpr ⟨wsL_law0_r5_in, List.forall_mem_append.mpr ⟨wsL_law0_r6_in, List.forall_mem_append.mpr ⟨wsL_law0_r7_in, List.forall_mem_append.mpr ⟨wsL_law0_r8_in, List.forall_mem_append.mpr ⟨wsL_law0_r9_in, List.forall_mem_append.mpr ⟨wsL_law0_r10_in, List.forall_mem_append.mpr ⟨wsL_law0_r11_in, List.forall_mem_append.mpr ⟨wsL_law0_r12_in, List.forall_mem_append.mpr ⟨wsL_law0_r13_in, List.forall_mem_append.mpr ⟨wsL_law0_r14_in, List.forall_mem_append.mpr ⟨wsL_law0_r15_in, List.forall_mem_append.mpr ⟨wsL_law0_r16_in, List.forall_mem_append.mpr ⟨wsL_law0_r17_in, List.forall_mem_append.mpr ⟨wsL_law0_r18_in, wsL_law0_r19_in⟩⟩⟩⟩⟩⟩⟩⟩⟩⟩⟩⟩⟩⟩⟩⟩⟩⟩
set_option maxRecDepth 20000 in
theorem wsL_law_in0 : ∀ w ∈ wsL_law0, w ∈ lw_tbl := List.forall_mem_append.mpr ⟨List.forall_mem_append.mpr ⟨List.forall_mem_append.mpr ⟨List.forall_mem_append.mpr ⟨List.forall_mem_append.mpr ⟨List.forall_mem_append.mpr ⟨List.forall_mem_append.mpr ⟨List.forall_mem_append.mpr ⟨wsL_law0_rs_in, wsX60_in⟩, wsX40_in⟩, wsX00_in⟩, wsX10_in⟩, wsX30_in⟩, wsX50_in⟩, wsX20_in⟩, fun _ h => absurd h List.not_mem_nil⟩
theorem wsL_law_x0 : ∀ w ∈ (vx_atS RX6 59 "java/lang/IllegalArgumentException" ["java/lang/RuntimeException", "java/lang/Exception"]).filter goodWord, w ∈ lw_tbl := by decide +kernel
theorem wsL_law_x1 : ∀ w ∈ (vx_atS RX6 66 "java/lang/IllegalStateException" ["java/lang/RuntimeException", "java/lang/Exception"]).filter goodWord, w ∈ lw_tbl := by decide +kernel
theorem wsL_law_x2 : ∀ w ∈ (vx_atS RX6 287 "java/lang/IndexOutOfBoundsException" ["java/lang/RuntimeException", "java/lang/Exception"]).filter goodWord, w ∈ lw_tbl := by decide +kernel
theorem wsL_law_in : ∀ w ∈ wsL_law, w ∈ lw_tbl := fun w h => (List.mem_append.mp h).elim (fun h => (List.mem_append.mp h).elim (fun h => (List.mem_append.mp h).elim (fun h => wsL_law_in0 w h) (fun h => wsL_law_x0 w h)) (fun h => wsL_law_x1 w h)) (fun h => wsL_law_x2 w h)
theorem inlX0 : ∀ w ∈ wsX00, w ∈ wsL_law := fun _ h => List.mem_append_left _ (List.mem_append_left _ (List.mem_append_left _ (List.mem_append_left _ (List.mem_append_left _ (List.mem_append_left _ (List.mem_append_left _ (List.mem_append_left _ (List.mem_append_right _ h))))))))
theorem inX0 : ∀ w ∈ wsX00, w ∈ lw_tbl := fun w h => wsL_law_in w (inlX0 w h)
theorem inlX1 : ∀ w ∈ wsX10, w ∈ wsL_law := fun _ h => List.mem_append_left _ (List.mem_append_left _ (List.mem_append_left _ (List.mem_append_left _ (List.mem_append_left _ (List.mem_append_left _ (List.mem_append_left _ (List.mem_append_right _ h)))))))
theorem inX1 : ∀ w ∈ wsX10, w ∈ lw_tbl := fun w h => wsL_law_in w (inlX1 w h)
theorem inlX2 : ∀ w ∈ wsX20, w ∈ wsL_law := fun _ h => List.mem_append_left _ (List.mem_append_left _ (List.mem_append_left _ (List.mem_append_left _ (List.mem_append_right _ h))))
theorem inX2 : ∀ w ∈ wsX20, w ∈ lw_tbl := fun w h => wsL_law_in w (inlX2 w h)
theorem inlX3 : ∀ w ∈ wsX30, w ∈ wsL_law := fun _ h => List.mem_append_left _ (List.mem_append_left _ (List.mem_append_left _ (List.mem_append_left _ (List.mem_append_left _ (List.mem_append_left _ (List.mem_append_right _ h))))))
theorem inX3 : ∀ w ∈ wsX30, w ∈ lw_tbl := fun w h => wsL_law_in w (inlX3 w h)
theorem inlX4 : ∀ w ∈ wsX40, w ∈ wsL_law := fun _ h => List.mem_append_left _ (List.mem_append_left _ (List.mem_append_left _ (List.mem_append_left _ (List.mem_append_left _ (List.mem_append_left _ (List.mem_append_left _ (List.mem_append_left _ (List.mem_append_left _ (List.mem_append_right _ h)))))))))
theorem inX4 : ∀ w ∈ wsX40, w ∈ lw_tbl := fun w h => wsL_law_in w (inlX4 w h)
theorem inlX5 : ∀ w ∈ wsX50, w ∈ wsL_law := fun _ h => List.mem_append_left _ (List.mem_append_left _ (List.mem_append_left _ (List.mem_append_left _ (List.mem_append_left _ (List.mem_append_right _ h)))))
theorem inX5 : ∀ w ∈ wsX50, w ∈ lw_tbl := fun w h => wsL_law_in w (inlX5 w h)
theorem inlX6 : ∀ w ∈ wsX60, w ∈ wsL_law := fun _ h => List.mem_append_left _ (List.mem_append_left _ (List.mem_append_left _ (List.mem_append_left _ (List.mem_append_left _ (List.mem_append_left _ (List.mem_append_left _ (List.mem_append_left _ (List.mem_append_left _ (List.mem_append_left _ (List.mem_append_right _ h))))))))))
theorem inX6 : ∀ w ∈ wsX60, w ∈ lw_tbl := fun w h => wsL_law_in w (inlX6 w h)
theorem inX7 : ∀ w ∈ wsX70, w ∈ lw_tbl := by decide +kernel
theorem inJ9 : ∀ w ∈ wsJ90, w ∈ lw_tbl := by decide +kernel
theorem inJ0 : ∀ w ∈ wsJ00, w ∈ lw_tbl := by decide +kernel
theorem inJ10 : ∀ w ∈ wsJ100, w ∈ lw_tbl := by decide +kernel
set_option maxRecDepth 20000 in
theorem ggX0_init_X4_init : GoodIn wsX0_init wsX4_init := goodIn_r _ [11, 12, 2, 3, 13, 14, 15, 16, 17, 18, 19, 20, 24, 25, 26, 27, 28, 29, 30] (by decide +kernel) (by decide +kernel)
set_option maxRecDepth 20000 in
theorem gX0_init_X4_init_n24 : GoodIn wsX0_init (wsX4_init) := ggX0_init_X4_init
theorem dX0_init_0 : decode cX0_init 0 = .ok (.aload_n 0, 1) := by decide +kernel
theorem dX0_init_1 : decode cX0_init 1 = .ok (.invokespecial 3, 3) := by decide +kernel
theorem dX0_init_4 : decode cX0_init 4 = .ok (.aload_n 0, 1) := by decide +kernel
theorem dX0_init_5 : decode cX0_init 5 = .ok (.bipush 6, 2) := by decide +kernel
theorem dX0_init_7 : decode cX0_init 7 = .ok (.anewarray 9, 3) := by decide +kernel
theorem dX0_init_10 : decode cX0_init 10 = .ok (.putfield 11, 3) := by decide +kernel
theorem dX0_init_13 : decode cX0_init 13 = .ok (.aload_n 0, 1) := by decide +kernel
theorem dX0_init_14 : decode cX0_init 14 = .ok (.iconst 0, 1) := by decide +kernel
theorem dX0_init_15 : decode cX0_init 15 = .ok (.putfield 17, 3) := by decide +kernel
theorem dX0_init_18 : decode cX0_init 18 = .ok (.aload_n 0, 1) := by decide +kernel
theorem dX0_init_19 : decode cX0_init 19 = .ok (.iconst 0, 1) := by decide +kernel
theorem dX0_init_20 : decode cX0_init 20 = .ok (.putfield 21, 3) := by decide +kernel
theorem dX0_init_23 : decode cX0_init 23 = .ok (.iconst 0, 1) := by decide +kernel
theorem dX0_init_24 : decode cX0_init 24 = .ok (.istore_n 1, 1) := by decide +kernel
theorem dX0_init_25 : decode cX0_init 25 = .ok (.iload_n 1, 1) := by decide +kernel
theorem dX0_init_26 : decode cX0_init 26 = .ok (.bipush 6, 2) := by decide +kernel
theorem dX0_init_28 : decode cX0_init 28 = .ok (.if_icmp .ge 22, 3) := by decide +kernel
theorem dX0_init_31 : decode cX0_init 31 = .ok (.aload_n 0, 1) := by decide +kernel
theorem dX0_init_32 : decode cX0_init 32 = .ok (.getfield 11, 3) := by decide +kernel
theorem dX0_init_35 : decode cX0_init 35 = .ok (.iload_n 1, 1) := by decide +kernel
theorem dX0_init_36 : decode cX0_init 36 = .ok (.new 9, 3) := by decide +kernel
theorem dX0_init_39 : decode cX0_init 39 = .ok (.dup, 1) := by decide +kernel
theorem dX0_init_40 : decode cX0_init 40 = .ok (.invokespecial 24, 3) := by decide +kernel
theorem dX0_init_43 : decode cX0_init 43 = .ok (.aastore, 1) := by decide +kernel
theorem dX0_init_44 : decode cX0_init 44 = .ok (.iinc 1 1, 3) := by decide +kernel
theorem dX0_init_47 : decode cX0_init 47 = .ok (.goto (-22), 3) := by decide +kernel
theorem dX0_init_50 : decode cX0_init 50 = .ok (.return_, 1) := by decide +kernel
set_option maxRecDepth 20000 in
theorem ggX0_save_X4_copyFrom : GoodIn wsX0_save wsX4_copyFrom := goodIn_r _ [12, 13, 14, 15, 16, 17, 18, 19, 20, 21, 22, 23, 27, 28, 29, 30, 31, 32, 33] (by decide +kernel) (by decide +kernel)
set_option maxRecDepth 20000 in
theorem gX0_save_X4_copyFrom : GoodIn wsX0_save (wsV RX0 25 RX4 yX4_copyFrom wsX4_copyFrom) := goodIn_app (goodIn_of _ (by decide +kernel)) ggX0_save_X4_copyFrom
theorem dX0_save_0 : decode cX0_save 0 = .ok (.aload_n 0, 1) := by decide +kernel
theorem dX0_save_1 : decode cX0_save 1 = .ok (.getfield 11, 3) := by decide +kernel
theorem dX0_save_4 : decode cX0_save 4 = .ok (.aload_n 0, 1) := by decide +kernel
theorem dX0_save_5 : decode cX0_save 5 = .ok (.getfield 17, 3) := by decide +kernel
theorem dX0_save_8 : decode cX0_save 8 = .ok (.aaload, 1) := by decide +kernel
theorem dX0_save_9 : decode cX0_save 9 = .ok (.aload_n 1, 1) := by decide +kernel
theorem dX0_save_10 : decode cX0_save 10 = .ok (.invokevirtual 25, 3) := by decide +kernel
theorem dX0_save_13 : decode cX0_save 13 = .ok (.aload_n 0, 1) := by decide +kernel
theorem dX0_save_14 : decode cX0_save 14 = .ok (.aload_n 0, 1) := by decide +kernel
theorem dX0_save_15 : decode cX0_save 15 = .ok (.getfield 17, 3) := by decide +kernel
theorem dX0_save_18 : decode cX0_save 18 = .ok (.iconst 1, 1) := by decide +kernel
theorem dX0_save_19 : decode cX0_save 19 = .ok (.iadd, 1) := by decide +kernel
theorem dX0_save_20 : decode cX0_save 20 = .ok (.bipush 6, 2) := by decide +kernel
theorem dX0_save_22 : decode cX0_save 22 = .ok (.irem, 1) := by decide +kernel
theorem dX0_save_23 : decode cX0_save 23 = .ok (.putfield 17, 3) := by decide +kernel
theorem dX0_save_26 : decode cX0_save 26 = .ok (.aload_n 0, 1) := by decide +kernel
theorem dX0_save_27 : decode cX0_save 27 = .ok (.aload_n 0, 1) := by decide +kernel
theorem dX0_save_28 : decode cX0_save 28 = .ok (.getfield 21, 3) := by decide +kernel
theorem dX0_save_31 : decode cX0_save 31 = .ok (.iconst 1, 1) := by decide +kernel
theorem dX0_save_32 : decode cX0_save 32 = .ok (.iadd, 1) := by decide +kernel
theorem dX0_save_33 : decode cX0_save 33 = .ok (.bipush 6, 2) := by decide +kernel
theorem dX0_save_35 : decode cX0_save 35 = .ok (.invokestatic 29, 3) := by decide +kernel
theorem dX0_save_38 : decode cX0_save 38 = .ok (.putfield 21, 3) := by decide +kernel
theorem dX0_save_41 : decode cX0_save 41 = .ok (.return_, 1) := by decide +kernel
theorem dX1_init_0 : decode cX1_init 0 = .ok (.aload_n 0, 1) := by decide +kernel
theorem dX1_init_1 : decode cX1_init 1 = .ok (.invokespecial 3, 3) := by decide +kernel
theorem dX1_init_4 : decode cX1_init 4 = .ok (.aload_n 0, 1) := by decide +kernel
theorem dX1_init_5 : decode cX1_init 5 = .ok (.bipush 84, 2) := by decide +kernel
theorem dX1_init_7 : decode cX1_init 7 = .ok (.newarray .int, 2) := by decide +kernel
theorem dX1_init_9 : decode cX1_init 9 = .ok (.putfield 9, 3) := by decide +kernel
theorem dX1_init_12 : decode cX1_init 12 = .ok (.aload_n 0, 1) := by decide +kernel
theorem dX1_init_13 : decode cX1_init 13 = .ok (.bipush 84, 2) := by decide +kernel
theorem dX1_init_15 : decode cX1_init 15 = .ok (.newarray .int, 2) := by decide +kernel
theorem dX1_init_17 : decode cX1_init 17 = .ok (.putfield 15, 3) := by decide +kernel
theorem dX1_init_20 : decode cX1_init 20 = .ok (.aload_n 0, 1) := by decide +kernel
theorem dX1_init_21 : decode cX1_init 21 = .ok (.bipush 84, 2) := by decide +kernel
theorem dX1_init_23 : decode cX1_init 23 = .ok (.newarray .int, 2) := by decide +kernel
theorem dX1_init_25 : decode cX1_init 25 = .ok (.putfield 18, 3) := by decide +kernel
theorem dX1_init_28 : decode cX1_init 28 = .ok (.aload_n 0, 1) := by decide +kernel
theorem dX1_init_29 : decode cX1_init 29 = .ok (.bipush 84, 2) := by decide +kernel
theorem dX1_init_31 : decode cX1_init 31 = .ok (.newarray .int, 2) := by decide +kernel
theorem dX1_init_33 : decode cX1_init 33 = .ok (.putfield 21, 3) := by decide +kernel
theorem dX1_init_36 : decode cX1_init 36 = .ok (.aload_n 0, 1) := by decide +kernel
theorem dX1_init_37 : decode cX1_init 37 = .ok (.iconst 0, 1) := by decide +kernel
theorem dX1_init_38 : decode cX1_init 38 = .ok (.putfield 24, 3) := by decide +kernel
theorem dX1_init_41 : decode cX1_init 41 = .ok (.return_, 1) := by decide +kernel
set_option maxRecDepth 20000 in
theorem ggX1_fill_X4_slot : GoodIn wsX1_fill wsX4_slot := goodIn_r _ [8, 9, 10, 11, 12, 13, 14, 48, 49, 50, 51, 52, 53, 54] (by decide +kernel) (by decide +kernel)
set_option maxRecDepth 20000 in
theorem gX1_fill_X4_slot : GoodIn wsX1_fill (wsV RX1 28 RX4 yX4_slot wsX4_slot) := goodIn_app (goodIn_of _ (by decide +kernel)) ggX1_fill_X4_slot
set_option maxRecDepth 20000 in
theorem ggX1_fill_X1_addTakes : GoodIn wsX1_fill wsX1_addTakes := goodIn_r _ [19, 20, 21, 22, 23, 24, 25, 26, 11, 12, 13, 14, 27, 28, 29, 18, 30, 1, 31, 32, 33, 34, 48, 49, 50, 51, 52, 53, 54, 43, 44, 45, 46, 47] (by decide +kernel) (by decide +kernel)
set_option maxRecDepth 20000 in
theorem gX1_fill_X1_addTakes : GoodIn wsX1_fill (wsV RX1 34 RX1 yX1_addTakes wsX1_addTakes) := goodIn_app (goodIn_of _ (by decide +kernel)) ggX1_fill_X1_addTakes
set_option maxRecDepth 20000 in
theorem ggX1_fill_X1_addSplits : GoodIn wsX1_fill wsX1_addSplits := goodIn_r _ [38, 20, 21, 11, 12, 13, 14, 27, 28, 29, 18, 30, 1, 31, 32, 33, 34, 48, 49, 50, 51, 52, 53, 54, 43, 44, 45, 46, 47] (by decide +kernel) (by decide +kernel)
set_option maxRecDepth 20000 in
theorem gX1_fill_X1_addSplits : GoodIn wsX1_fill (wsV RX1 42 RX1 yX1_addSplits wsX1_addSplits) := goodIn_app (goodIn_of _ (by decide +kernel)) ggX1_fill_X1_addSplits
set_option maxRecDepth 20000 in
theorem ggX1_fill_X1_addMerges : GoodIn wsX1_fill wsX1_addMerges := goodIn_r _ [42, 20, 21, 11, 12, 13, 14, 27, 28, 29, 18, 30, 1, 31, 32, 33, 34, 48, 49, 50, 51, 52, 53, 54, 43, 44, 45, 46, 47] (by decide +kernel) (by decide +kernel)
set_option maxRecDepth 20000 in
theorem gX1_fill_X1_addMerges : GoodIn wsX1_fill (wsV RX1 48 RX1 yX1_addMerges wsX1_addMerges) := goodIn_app (goodIn_of _ (by decide +kernel)) ggX1_fill_X1_addMerges
theorem dX1_fill_0 : decode cX1_fill 0 = .ok (.aload_n 0, 1) := by decide +kernel
theorem dX1_fill_1 : decode cX1_fill 1 = .ok (.iconst 0, 1) := by decide +kernel
theorem dX1_fill_2 : decode cX1_fill 2 = .ok (.putfield 24, 3) := by decide +kernel
theorem dX1_fill_5 : decode cX1_fill 5 = .ok (.aload_n 1, 1) := by decide +kernel
theorem dX1_fill_6 : decode cX1_fill 6 = .ok (.invokevirtual 28, 3) := by decide +kernel
theorem dX1_fill_9 : decode cX1_fill 9 = .ok (.istore_n 2, 1) := by decide +kernel
theorem dX1_fill_10 : decode cX1_fill 10 = .ok (.aload_n 0, 1) := by decide +kernel
theorem dX1_fill_11 : decode cX1_fill 11 = .ok (.aload_n 1, 1) := by decide +kernel
theorem dX1_fill_12 : decode cX1_fill 12 = .ok (.iload_n 2, 1) := by decide +kernel
theorem dX1_fill_13 : decode cX1_fill 13 = .ok (.invokevirtual 34, 3) := by decide +kernel
theorem dX1_fill_16 : decode cX1_fill 16 = .ok (.aload_n 1, 1) := by decide +kernel
theorem dX1_fill_17 : decode cX1_fill 17 = .ok (.getfield 38, 3) := by decide +kernel
theorem dX1_fill_20 : decode cX1_fill 20 = .ok (.ifCond .eq 9, 3) := by decide +kernel
theorem dX1_fill_23 : decode cX1_fill 23 = .ok (.aload_n 0, 1) := by decide +kernel
theorem dX1_fill_24 : decode cX1_fill 24 = .ok (.aload_n 1, 1) := by decide +kernel
theorem dX1_fill_25 : decode cX1_fill 25 = .ok (.iload_n 2, 1) := by decide +kernel
theorem dX1_fill_26 : decode cX1_fill 26 = .ok (.invokevirtual 42, 3) := by decide +kernel
theorem dX1_fill_29 : decode cX1_fill 29 = .ok (.aload_n 1, 1) := by decide +kernel
theorem dX1_fill_30 : decode cX1_fill 30 = .ok (.getfield 45, 3) := by decide +kernel
theorem dX1_fill_33 : decode cX1_fill 33 = .ok (.ifCond .eq 9, 3) := by decide +kernel
theorem dX1_fill_36 : decode cX1_fill 36 = .ok (.aload_n 0, 1) := by decide +kernel
theorem dX1_fill_37 : decode cX1_fill 37 = .ok (.aload_n 1, 1) := by decide +kernel
theorem dX1_fill_38 : decode cX1_fill 38 = .ok (.iload_n 2, 1) := by decide +kernel
theorem dX1_fill_39 : decode cX1_fill 39 = .ok (.invokevirtual 48, 3) := by decide +kernel
theorem dX1_fill_42 : decode cX1_fill 42 = .ok (.return_, 1) := by decide +kernel
set_option maxRecDepth 20000 in
theorem ggX1_addTakes_X6_weightOf : GoodIn wsX1_addTakes wsX6_weightOf := goodIn_r _ [10, 11] (by decide +kernel) (by decide +kernel)
set_option maxRecDepth 20000 in
theorem gX1_addTakes_X6_weightOf_n55 : GoodIn wsX1_addTakes (wsX6_weightOf) := ggX1_addTakes_X6_weightOf
set_option maxRecDepth 20000 in
theorem ggX1_addTakes_X1_add : GoodIn wsX1_addTakes wsX1_add := goodIn_r _ [16, 17, 18, 19, 20, 21, 29, 30, 31, 32, 33] (by decide +kernel) (by decide +kernel)
set_option maxRecDepth 20000 in
theorem gX1_addTakes_X1_add : GoodIn wsX1_addTakes (wsV RX1 68 RX1 yX1_add wsX1_add) := goodIn_app (goodIn_of _ (by decide +kernel)) ggX1_addTakes_X1_add
theorem dX1_addTakes_0 : decode cX1_addTakes 0 = .ok (.iconst 0, 1) := by decide +kernel
theorem dX1_addTakes_1 : decode cX1_addTakes 1 = .ok (.istore_n 3, 1) := by decide +kernel
theorem dX1_addTakes_2 : decode cX1_addTakes 2 = .ok (.iload_n 3, 1) := by decide +kernel
theorem dX1_addTakes_3 : decode cX1_addTakes 3 = .ok (.aload_n 1, 1) := by decide +kernel
theorem dX1_addTakes_4 : decode cX1_addTakes 4 = .ok (.getfield 51, 3) := by decide +kernel
theorem dX1_addTakes_7 : decode cX1_addTakes 7 = .ok (.if_icmp .ge 72, 3) := by decide +kernel
theorem dX1_addTakes_10 : decode cX1_addTakes 10 = .ok (.aload_n 1, 1) := by decide +kernel
theorem dX1_addTakes_11 : decode cX1_addTakes 11 = .ok (.getfield 52, 3) := by decide +kernel
theorem dX1_addTakes_14 : decode cX1_addTakes 14 = .ok (.iload_n 3, 1) := by decide +kernel
theorem dX1_addTakes_15 : decode cX1_addTakes 15 = .ok (.iaload, 1) := by decide +kernel
theorem dX1_addTakes_16 : decode cX1_addTakes 16 = .ok (.istore 4, 2) := by decide +kernel
theorem dX1_addTakes_18 : decode cX1_addTakes 18 = .ok (.iload_n 2, 1) := by decide +kernel
theorem dX1_addTakes_19 : decode cX1_addTakes 19 = .ok (.iload 4, 2) := by decide +kernel
theorem dX1_addTakes_21 : decode cX1_addTakes 21 = .ok (.invokestatic 55, 3) := by decide +kernel
theorem dX1_addTakes_24 : decode cX1_addTakes 24 = .ok (.isub, 1) := by decide +kernel
theorem dX1_addTakes_25 : decode cX1_addTakes 25 = .ok (.istore 5, 2) := by decide +kernel
theorem dX1_addTakes_27 : decode cX1_addTakes 27 = .ok (.iload 4, 2) := by decide +kernel
theorem dX1_addTakes_29 : decode cX1_addTakes 29 = .ok (.aload_n 1, 1) := by decide +kernel
theorem dX1_addTakes_30 : decode cX1_addTakes 30 = .ok (.getfield 59, 3) := by decide +kernel
theorem dX1_addTakes_33 : decode cX1_addTakes 33 = .ok (.invokestatic 62, 3) := by decide +kernel
theorem dX1_addTakes_36 : decode cX1_addTakes 36 = .ok (.istore 6, 2) := by decide +kernel
theorem dX1_addTakes_38 : decode cX1_addTakes 38 = .ok (.iconst 1, 1) := by decide +kernel
theorem dX1_addTakes_39 : decode cX1_addTakes 39 = .ok (.istore 7, 2) := by decide +kernel
theorem dX1_addTakes_41 : decode cX1_addTakes 41 = .ok (.iload 7, 2) := by decide +kernel
theorem dX1_addTakes_43 : decode cX1_addTakes 43 = .ok (.iload 6, 2) := by decide +kernel
theorem dX1_addTakes_45 : decode cX1_addTakes 45 = .ok (.if_icmp .gt 28, 3) := by decide +kernel
theorem dX1_addTakes_48 : decode cX1_addTakes 48 = .ok (.aload_n 0, 1) := by decide +kernel
theorem dX1_addTakes_49 : decode cX1_addTakes 49 = .ok (.iconst 0, 1) := by decide +kernel
theorem dX1_addTakes_50 : decode cX1_addTakes 50 = .ok (.iload_n 3, 1) := by decide +kernel
theorem dX1_addTakes_51 : decode cX1_addTakes 51 = .ok (.iload 7, 2) := by decide +kernel
theorem dX1_addTakes_53 : decode cX1_addTakes 53 = .ok (.iload 5, 2) := by decide +kernel
theorem dX1_addTakes_55 : decode cX1_addTakes 55 = .ok (.iload 4, 2) := by decide +kernel
theorem dX1_addTakes_57 : decode cX1_addTakes 57 = .ok (.iload 7, 2) := by decide +kernel
theorem dX1_addTakes_59 : decode cX1_addTakes 59 = .ok (.isub, 1) := by decide +kernel
theorem dX1_addTakes_60 : decode cX1_addTakes 60 = .ok (.invokestatic 55, 3) := by decide +kernel
theorem dX1_addTakes_63 : decode cX1_addTakes 63 = .ok (.iadd, 1) := by decide +kernel
theorem dX1_addTakes_64 : decode cX1_addTakes 64 = .ok (.invokevirtual 68, 3) := by decide +kernel
theorem dX1_addTakes_67 : decode cX1_addTakes 67 = .ok (.iinc 7 1, 3) := by decide +kernel
theorem dX1_addTakes_70 : decode cX1_addTakes 70 = .ok (.goto (-29), 3) := by decide +kernel
theorem dX1_addTakes_73 : decode cX1_addTakes 73 = .ok (.iinc 3 1, 3) := by decide +kernel
theorem dX1_addTakes_76 : decode cX1_addTakes 76 = .ok (.goto (-74), 3) := by decide +kernel
theorem dX1_addTakes_79 : decode cX1_addTakes 79 = .ok (.return_, 1) := by decide +kernel
set_option maxRecDepth 20000 in
theorem ggX1_addSplits_X6_weightOf : GoodIn wsX1_addSplits wsX6_weightOf := goodIn_r _ [5, 6] (by decide +kernel) (by decide +kernel)
set_option maxRecDepth 20000 in
theorem gX1_addSplits_X6_weightOf_n55 : GoodIn wsX1_addSplits (wsX6_weightOf) := ggX1_addSplits_X6_weightOf
set_option maxRecDepth 20000 in
theorem ggX1_addSplits_X1_add : GoodIn wsX1_addSplits wsX1_add := goodIn_r _ [11, 12, 13, 14, 15, 16, 24, 25, 26, 27, 28] (by decide +kernel) (by decide +kernel)
set_option maxRecDepth 20000 in
theorem gX1_addSplits_X1_add : GoodIn wsX1_addSplits (wsV RX1 68 RX1 yX1_add wsX1_add) := goodIn_app (goodIn_of _ (by decide +kernel)) ggX1_addSplits_X1_add
theorem dX1_addSplits_0 : decode cX1_addSplits 0 = .ok (.iconst 0, 1) := by decide +kernel
theorem dX1_addSplits_1 : decode cX1_addSplits 1 = .ok (.istore_n 3, 1) := by decide +kernel
theorem dX1_addSplits_2 : decode cX1_addSplits 2 = .ok (.iload_n 3, 1) := by decide +kernel
theorem dX1_addSplits_3 : decode cX1_addSplits 3 = .ok (.aload_n 1, 1) := by decide +kernel
theorem dX1_addSplits_4 : decode cX1_addSplits 4 = .ok (.getfield 51, 3) := by decide +kernel
theorem dX1_addSplits_7 : decode cX1_addSplits 7 = .ok (.if_icmp .ge 70, 3) := by decide +kernel
theorem dX1_addSplits_10 : decode cX1_addSplits 10 = .ok (.aload_n 1, 1) := by decide +kernel
theorem dX1_addSplits_11 : decode cX1_addSplits 11 = .ok (.getfield 52, 3) := by decide +kernel
theorem dX1_addSplits_14 : decode cX1_addSplits 14 = .ok (.iload_n 3, 1) := by decide +kernel
theorem dX1_addSplits_15 : decode cX1_addSplits 15 = .ok (.iaload, 1) := by decide +kernel
theorem dX1_addSplits_16 : decode cX1_addSplits 16 = .ok (.istore 4, 2) := by decide +kernel
theorem dX1_addSplits_18 : decode cX1_addSplits 18 = .ok (.iload_n 2, 1) := by decide +kernel
theorem dX1_addSplits_19 : decode cX1_addSplits 19 = .ok (.iload 4, 2) := by decide +kernel
theorem dX1_addSplits_21 : decode cX1_addSplits 21 = .ok (.invokestatic 55, 3) := by decide +kernel
theorem dX1_addSplits_24 : decode cX1_addSplits 24 = .ok (.isub, 1) := by decide +kernel
theorem dX1_addSplits_25 : decode cX1_addSplits 25 = .ok (.istore 5, 2) := by decide +kernel
theorem dX1_addSplits_27 : decode cX1_addSplits 27 = .ok (.iconst 1, 1) := by decide +kernel
theorem dX1_addSplits_28 : decode cX1_addSplits 28 = .ok (.istore 6, 2) := by decide +kernel
theorem dX1_addSplits_30 : decode cX1_addSplits 30 = .ok (.iload 6, 2) := by decide +kernel
theorem dX1_addSplits_32 : decode cX1_addSplits 32 = .ok (.iload 4, 2) := by decide +kernel
theorem dX1_addSplits_34 : decode cX1_addSplits 34 = .ok (.iload 6, 2) := by decide +kernel
theorem dX1_addSplits_36 : decode cX1_addSplits 36 = .ok (.isub, 1) := by decide +kernel
theorem dX1_addSplits_37 : decode cX1_addSplits 37 = .ok (.if_icmp .gt 34, 3) := by decide +kernel
theorem dX1_addSplits_40 : decode cX1_addSplits 40 = .ok (.aload_n 0, 1) := by decide +kernel
theorem dX1_addSplits_41 : decode cX1_addSplits 41 = .ok (.iconst 1, 1) := by decide +kernel
theorem dX1_addSplits_42 : decode cX1_addSplits 42 = .ok (.iload_n 3, 1) := by decide +kernel
theorem dX1_addSplits_43 : decode cX1_addSplits 43 = .ok (.iload 6, 2) := by decide +kernel
theorem dX1_addSplits_45 : decode cX1_addSplits 45 = .ok (.iload 5, 2) := by decide +kernel
theorem dX1_addSplits_47 : decode cX1_addSplits 47 = .ok (.iload 6, 2) := by decide +kernel
theorem dX1_addSplits_49 : decode cX1_addSplits 49 = .ok (.invokestatic 55, 3) := by decide +kernel
theorem dX1_addSplits_52 : decode cX1_addSplits 52 = .ok (.iadd, 1) := by decide +kernel
theorem dX1_addSplits_53 : decode cX1_addSplits 53 = .ok (.iload 4, 2) := by decide +kernel
theorem dX1_addSplits_55 : decode cX1_addSplits 55 = .ok (.iload 6, 2) := by decide +kernel
theorem dX1_addSplits_57 : decode cX1_addSplits 57 = .ok (.isub, 1) := by decide +kernel
theorem dX1_addSplits_58 : decode cX1_addSplits 58 = .ok (.invokestatic 55, 3) := by decide +kernel
theorem dX1_addSplits_61 : decode cX1_addSplits 61 = .ok (.iadd, 1) := by decide +kernel
theorem dX1_addSplits_62 : decode cX1_addSplits 62 = .ok (.invokevirtual 68, 3) := by decide +kernel
theorem dX1_addSplits_65 : decode cX1_addSplits 65 = .ok (.iinc 6 1, 3) := by decide +kernel
theorem dX1_addSplits_68 : decode cX1_addSplits 68 = .ok (.goto (-38), 3) := by decide +kernel
theorem dX1_addSplits_71 : decode cX1_addSplits 71 = .ok (.iinc 3 1, 3) := by decide +kernel
theorem dX1_addSplits_74 : decode cX1_addSplits 74 = .ok (.goto (-72), 3) := by decide +kernel
theorem dX1_addSplits_77 : decode cX1_addSplits 77 = .ok (.return_, 1) := by decide +kernel
set_option maxRecDepth 20000 in
theorem ggX1_addMerges_X6_weightOf : GoodIn wsX1_addMerges wsX6_weightOf := goodIn_r _ [5, 6] (by decide +kernel) (by decide +kernel)
set_option maxRecDepth 20000 in
theorem gX1_addMerges_X6_weightOf_n55 : GoodIn wsX1_addMerges (wsX6_weightOf) := ggX1_addMerges_X6_weightOf
set_option maxRecDepth 20000 in
theorem ggX1_addMerges_X1_add : GoodIn wsX1_addMerges wsX1_add := goodIn_r _ [11, 12, 13, 14, 15, 16, 24, 25, 26, 27, 28] (by decide +kernel) (by decide +kernel)
set_option maxRecDepth 20000 in
theorem gX1_addMerges_X1_add : GoodIn wsX1_addMerges (wsV RX1 68 RX1 yX1_add wsX1_add) := goodIn_app (goodIn_of _ (by decide +kernel)) ggX1_addMerges_X1_add
theorem dX1_addMerges_0 : decode cX1_addMerges 0 = .ok (.iconst 0, 1) := by decide +kernel
theorem dX1_addMerges_1 : decode cX1_addMerges 1 = .ok (.istore_n 3, 1) := by decide +kernel
theorem dX1_addMerges_2 : decode cX1_addMerges 2 = .ok (.iload_n 3, 1) := by decide +kernel
theorem dX1_addMerges_3 : decode cX1_addMerges 3 = .ok (.aload_n 1, 1) := by decide +kernel
theorem dX1_addMerges_4 : decode cX1_addMerges 4 = .ok (.getfield 51, 3) := by decide +kernel
theorem dX1_addMerges_7 : decode cX1_addMerges 7 = .ok (.if_icmp .ge 82, 3) := by decide +kernel
theorem dX1_addMerges_10 : decode cX1_addMerges 10 = .ok (.aload_n 1, 1) := by decide +kernel
theorem dX1_addMerges_11 : decode cX1_addMerges 11 = .ok (.getfield 52, 3) := by decide +kernel
theorem dX1_addMerges_14 : decode cX1_addMerges 14 = .ok (.iload_n 3, 1) := by decide +kernel
theorem dX1_addMerges_15 : decode cX1_addMerges 15 = .ok (.iaload, 1) := by decide +kernel
theorem dX1_addMerges_16 : decode cX1_addMerges 16 = .ok (.istore 4, 2) := by decide +kernel
theorem dX1_addMerges_18 : decode cX1_addMerges 18 = .ok (.iload_n 2, 1) := by decide +kernel
theorem dX1_addMerges_19 : decode cX1_addMerges 19 = .ok (.iload 4, 2) := by decide +kernel
theorem dX1_addMerges_21 : decode cX1_addMerges 21 = .ok (.invokestatic 55, 3) := by decide +kernel
theorem dX1_addMerges_24 : decode cX1_addMerges 24 = .ok (.isub, 1) := by decide +kernel
theorem dX1_addMerges_25 : decode cX1_addMerges 25 = .ok (.istore 5, 2) := by decide +kernel
theorem dX1_addMerges_27 : decode cX1_addMerges 27 = .ok (.iload_n 3, 1) := by decide +kernel
theorem dX1_addMerges_28 : decode cX1_addMerges 28 = .ok (.iconst 1, 1) := by decide +kernel
theorem dX1_addMerges_29 : decode cX1_addMerges 29 = .ok (.iadd, 1) := by decide +kernel
theorem dX1_addMerges_30 : decode cX1_addMerges 30 = .ok (.istore 6, 2) := by decide +kernel
theorem dX1_addMerges_32 : decode cX1_addMerges 32 = .ok (.iload 6, 2) := by decide +kernel
theorem dX1_addMerges_34 : decode cX1_addMerges 34 = .ok (.aload_n 1, 1) := by decide +kernel
theorem dX1_addMerges_35 : decode cX1_addMerges 35 = .ok (.getfield 51, 3) := by decide +kernel
theorem dX1_addMerges_38 : decode cX1_addMerges 38 = .ok (.if_icmp .ge 45, 3) := by decide +kernel
theorem dX1_addMerges_41 : decode cX1_addMerges 41 = .ok (.aload_n 1, 1) := by decide +kernel
theorem dX1_addMerges_42 : decode cX1_addMerges 42 = .ok (.getfield 52, 3) := by decide +kernel
theorem dX1_addMerges_45 : decode cX1_addMerges 45 = .ok (.iload 6, 2) := by decide +kernel
theorem dX1_addMerges_47 : decode cX1_addMerges 47 = .ok (.iaload, 1) := by decide +kernel
theorem dX1_addMerges_48 : decode cX1_addMerges 48 = .ok (.istore 7, 2) := by decide +kernel
theorem dX1_addMerges_50 : decode cX1_addMerges 50 = .ok (.aload_n 0, 1) := by decide +kernel
theorem dX1_addMerges_51 : decode cX1_addMerges 51 = .ok (.iconst 2, 1) := by decide +kernel
theorem dX1_addMerges_52 : decode cX1_addMerges 52 = .ok (.iload_n 3, 1) := by decide +kernel
theorem dX1_addMerges_53 : decode cX1_addMerges 53 = .ok (.iload 6, 2) := by decide +kernel
theorem dX1_addMerges_55 : decode cX1_addMerges 55 = .ok (.iload 5, 2) := by decide +kernel
theorem dX1_addMerges_57 : decode cX1_addMerges 57 = .ok (.iload 7, 2) := by decide +kernel
theorem dX1_addMerges_59 : decode cX1_addMerges 59 = .ok (.invokestatic 55, 3) := by decide +kernel
theorem dX1_addMerges_62 : decode cX1_addMerges 62 = .ok (.isub, 1) := by decide +kernel
theorem dX1_addMerges_63 : decode cX1_addMerges 63 = .ok (.iload 4, 2) := by decide +kernel
theorem dX1_addMerges_65 : decode cX1_addMerges 65 = .ok (.iload 7, 2) := by decide +kernel
theorem dX1_addMerges_67 : decode cX1_addMerges 67 = .ok (.iadd, 1) := by decide +kernel
theorem dX1_addMerges_68 : decode cX1_addMerges 68 = .ok (.iconst 1, 1) := by decide +kernel
theorem dX1_addMerges_69 : decode cX1_addMerges 69 = .ok (.isub, 1) := by decide +kernel
theorem dX1_addMerges_70 : decode cX1_addMerges 70 = .ok (.invokestatic 55, 3) := by decide +kernel
theorem dX1_addMerges_73 : decode cX1_addMerges 73 = .ok (.iadd, 1) := by decide +kernel
theorem dX1_addMerges_74 : decode cX1_addMerges 74 = .ok (.invokevirtual 68, 3) := by decide +kernel
theorem dX1_addMerges_77 : decode cX1_addMerges 77 = .ok (.iinc 6 1, 3) := by decide +kernel
theorem dX1_addMerges_80 : decode cX1_addMerges 80 = .ok (.goto (-48), 3) := by decide +kernel
theorem dX1_addMerges_83 : decode cX1_addMerges 83 = .ok (.iinc 3 1, 3) := by decide +kernel
theorem dX1_addMerges_86 : decode cX1_addMerges 86 = .ok (.goto (-84), 3) := by decide +kernel
theorem dX1_addMerges_89 : decode cX1_addMerges 89 = .ok (.return_, 1) := by decide +kernel
theorem dX1_add_0 : decode cX1_add 0 = .ok (.aload_n 0, 1) := by decide +kernel
theorem dX1_add_1 : decode cX1_add 1 = .ok (.getfield 24, 3) := by decide +kernel
theorem dX1_add_4 : decode cX1_add 4 = .ok (.bipush 84, 2) := by decide +kernel
theorem dX1_add_6 : decode cX1_add 6 = .ok (.if_icmp .ge 58, 3) := by decide +kernel
theorem dX1_add_9 : decode cX1_add 9 = .ok (.aload_n 0, 1) := by decide +kernel
theorem dX1_add_10 : decode cX1_add 10 = .ok (.getfield 9, 3) := by decide +kernel
theorem dX1_add_13 : decode cX1_add 13 = .ok (.aload_n 0, 1) := by decide +kernel
theorem dX1_add_14 : decode cX1_add 14 = .ok (.getfield 24, 3) := by decide +kernel
theorem dX1_add_17 : decode cX1_add 17 = .ok (.iload_n 1, 1) := by decide +kernel
theorem dX1_add_18 : decode cX1_add 18 = .ok (.iastore, 1) := by decide +kernel
theorem dX1_add_19 : decode cX1_add 19 = .ok (.aload_n 0, 1) := by decide +kernel
theorem dX1_add_20 : decode cX1_add 20 = .ok (.getfield 15, 3) := by decide +kernel
theorem dX1_add_23 : decode cX1_add 23 = .ok (.aload_n 0, 1) := by decide +kernel
theorem dX1_add_24 : decode cX1_add 24 = .ok (.getfield 24, 3) := by decide +kernel
theorem dX1_add_27 : decode cX1_add 27 = .ok (.iload_n 2, 1) := by decide +kernel
theorem dX1_add_28 : decode cX1_add 28 = .ok (.iastore, 1) := by decide +kernel
theorem dX1_add_29 : decode cX1_add 29 = .ok (.aload_n 0, 1) := by decide +kernel
theorem dX1_add_30 : decode cX1_add 30 = .ok (.getfield 18, 3) := by decide +kernel
theorem dX1_add_33 : decode cX1_add 33 = .ok (.aload_n 0, 1) := by decide +kernel
theorem dX1_add_34 : decode cX1_add 34 = .ok (.getfield 24, 3) := by decide +kernel
theorem dX1_add_37 : decode cX1_add 37 = .ok (.iload_n 3, 1) := by decide +kernel
theorem dX1_add_38 : decode cX1_add 38 = .ok (.iastore, 1) := by decide +kernel
theorem dX1_add_39 : decode cX1_add 39 = .ok (.aload_n 0, 1) := by decide +kernel
theorem dX1_add_40 : decode cX1_add 40 = .ok (.getfield 21, 3) := by decide +kernel
theorem dX1_add_43 : decode cX1_add 43 = .ok (.aload_n 0, 1) := by decide +kernel
theorem dX1_add_44 : decode cX1_add 44 = .ok (.getfield 24, 3) := by decide +kernel
theorem dX1_add_47 : decode cX1_add 47 = .ok (.iload 4, 2) := by decide +kernel
theorem dX1_add_49 : decode cX1_add 49 = .ok (.sipush 1023, 3) := by decide +kernel
theorem dX1_add_52 : decode cX1_add 52 = .ok (.iand, 1) := by decide +kernel
theorem dX1_add_53 : decode cX1_add 53 = .ok (.iastore, 1) := by decide +kernel
theorem dX1_add_54 : decode cX1_add 54 = .ok (.aload_n 0, 1) := by decide +kernel
theorem dX1_add_55 : decode cX1_add 55 = .ok (.dup, 1) := by decide +kernel
theorem dX1_add_56 : decode cX1_add 56 = .ok (.getfield 24, 3) := by decide +kernel
theorem dX1_add_59 : decode cX1_add 59 = .ok (.iconst 1, 1) := by decide +kernel
theorem dX1_add_60 : decode cX1_add 60 = .ok (.iadd, 1) := by decide +kernel
theorem dX1_add_61 : decode cX1_add 61 = .ok (.putfield 24, 3) := by decide +kernel
theorem dX1_add_64 : decode cX1_add 64 = .ok (.return_, 1) := by decide +kernel
theorem dX2_init_0 : decode cX2_init 0 = .ok (.aload_n 0, 1) := by decide +kernel
theorem dX2_init_1 : decode cX2_init 1 = .ok (.invokespecial 3, 3) := by decide +kernel
theorem dX2_init_4 : decode cX2_init 4 = .ok (.aload_n 0, 1) := by decide +kernel
theorem dX2_init_5 : decode cX2_init 5 = .ok (.sipush 1024, 3) := by decide +kernel
theorem dX2_init_8 : decode cX2_init 8 = .ok (.newarray .int, 2) := by decide +kernel
theorem dX2_init_10 : decode cX2_init 10 = .ok (.putfield 9, 3) := by decide +kernel
theorem dX2_init_13 : decode cX2_init 13 = .ok (.aload_n 0, 1) := by decide +kernel
theorem dX2_init_14 : decode cX2_init 14 = .ok (.sipush 1024, 3) := by decide +kernel
theorem dX2_init_17 : decode cX2_init 17 = .ok (.newarray .int, 2) := by decide +kernel
theorem dX2_init_19 : decode cX2_init 19 = .ok (.putfield 15, 3) := by decide +kernel
theorem dX2_init_22 : decode cX2_init 22 = .ok (.aload_n 0, 1) := by decide +kernel
theorem dX2_init_23 : decode cX2_init 23 = .ok (.sipush 1024, 3) := by decide +kernel
theorem dX2_init_26 : decode cX2_init 26 = .ok (.newarray .int, 2) := by decide +kernel
theorem dX2_init_28 : decode cX2_init 28 = .ok (.putfield 18, 3) := by decide +kernel
theorem dX2_init_31 : decode cX2_init 31 = .ok (.aload_n 0, 1) := by decide +kernel
theorem dX2_init_32 : decode cX2_init 32 = .ok (.sipush 1024, 3) := by decide +kernel
theorem dX2_init_35 : decode cX2_init 35 = .ok (.newarray .boolean, 2) := by decide +kernel
theorem dX2_init_37 : decode cX2_init 37 = .ok (.putfield 21, 3) := by decide +kernel
theorem dX2_init_40 : decode cX2_init 40 = .ok (.aload_n 0, 1) := by decide +kernel
theorem dX2_init_41 : decode cX2_init 41 = .ok (.iconst 0, 1) := by decide +kernel
theorem dX2_init_42 : decode cX2_init 42 = .ok (.putfield 25, 3) := by decide +kernel
theorem dX2_init_45 : decode cX2_init 45 = .ok (.aload_n 0, 1) := by decide +kernel
theorem dX2_init_46 : decode cX2_init 46 = .ok (.getfield 21, 3) := by decide +kernel
theorem dX2_init_49 : decode cX2_init 49 = .ok (.iconst 0, 1) := by decide +kernel
theorem dX2_init_50 : decode cX2_init 50 = .ok (.iconst 1, 1) := by decide +kernel
theorem dX2_init_51 : decode cX2_init 51 = .ok (.bastore, 1) := by decide +kernel
theorem dX2_init_52 : decode cX2_init 52 = .ok (.return_, 1) := by decide +kernel
theorem dX2_isWonAt_0 : decode cX2_isWonAt 0 = .ok (.iload_n 2, 1) := by decide +kernel
theorem dX2_isWonAt_1 : decode cX2_isWonAt 1 = .ok (.ifCond .eq 20, 3) := by decide +kernel
theorem dX2_isWonAt_4 : decode cX2_isWonAt 4 = .ok (.aload_n 0, 1) := by decide +kernel
theorem dX2_isWonAt_5 : decode cX2_isWonAt 5 = .ok (.getfield 9, 3) := by decide +kernel
theorem dX2_isWonAt_8 : decode cX2_isWonAt 8 = .ok (.iload_n 1, 1) := by decide +kernel
theorem dX2_isWonAt_9 : decode cX2_isWonAt 9 = .ok (.iaload, 1) := by decide +kernel
theorem dX2_isWonAt_10 : decode cX2_isWonAt 10 = .ok (.ifCond .eq 7, 3) := by decide +kernel
theorem dX2_isWonAt_13 : decode cX2_isWonAt 13 = .ok (.iconst 1, 1) := by decide +kernel
theorem dX2_isWonAt_14 : decode cX2_isWonAt 14 = .ok (.goto 13, 3) := by decide +kernel
theorem dX2_isWonAt_17 : decode cX2_isWonAt 17 = .ok (.iconst 0, 1) := by decide +kernel
theorem dX2_isWonAt_18 : decode cX2_isWonAt 18 = .ok (.goto 9, 3) := by decide +kernel
theorem dX2_isWonAt_21 : decode cX2_isWonAt 21 = .ok (.aload_n 0, 1) := by decide +kernel
theorem dX2_isWonAt_22 : decode cX2_isWonAt 22 = .ok (.getfield 21, 3) := by decide +kernel
theorem dX2_isWonAt_25 : decode cX2_isWonAt 25 = .ok (.iload_n 1, 1) := by decide +kernel
theorem dX2_isWonAt_26 : decode cX2_isWonAt 26 = .ok (.baload, 1) := by decide +kernel
theorem dX2_isWonAt_27 : decode cX2_isWonAt 27 = .ok (.ireturn, 1) := by decide +kernel
set_option maxRecDepth 20000 in
theorem ggX2_enter_X2_leastMissing : GoodIn wsX2_enter wsX2_leastMissing := goodIn_r _ [17] (by decide +kernel) (by decide +kernel)
set_option maxRecDepth 20000 in
theorem gX2_enter_X2_leastMissing : GoodIn wsX2_enter (va_wsS RX2 46 yX2_leastMissing wsX2_leastMissing) := goodIn_app (goodIn_of _ (by decide +kernel)) ggX2_enter_X2_leastMissing
theorem dX2_enter_0 : decode cX2_enter 0 = .ok (.lconst 0, 1) := by decide +kernel
theorem dX2_enter_1 : decode cX2_enter 1 = .ok (.lstore_n 3, 1) := by decide +kernel
theorem dX2_enter_2 : decode cX2_enter 2 = .ok (.iconst 0, 1) := by decide +kernel
theorem dX2_enter_3 : decode cX2_enter 3 = .ok (.istore 5, 2) := by decide +kernel
theorem dX2_enter_5 : decode cX2_enter 5 = .ok (.sipush 1000, 3) := by decide +kernel
theorem dX2_enter_8 : decode cX2_enter 8 = .ok (.istore 6, 2) := by decide +kernel
theorem dX2_enter_10 : decode cX2_enter 10 = .ok (.iconst 0, 1) := by decide +kernel
theorem dX2_enter_11 : decode cX2_enter 11 = .ok (.istore 7, 2) := by decide +kernel
theorem dX2_enter_13 : decode cX2_enter 13 = .ok (.iconst 0, 1) := by decide +kernel
theorem dX2_enter_14 : decode cX2_enter 14 = .ok (.istore 8, 2) := by decide +kernel
theorem dX2_enter_16 : decode cX2_enter 16 = .ok (.iload 8, 2) := by decide +kernel
theorem dX2_enter_18 : decode cX2_enter 18 = .ok (.aload_n 2, 1) := by decide +kernel
theorem dX2_enter_19 : decode cX2_enter 19 = .ok (.getfield 29, 3) := by decide +kernel
theorem dX2_enter_22 : decode cX2_enter 22 = .ok (.if_icmp .ge 80, 3) := by decide +kernel
theorem dX2_enter_25 : decode cX2_enter 25 = .ok (.aload_n 2, 1) := by decide +kernel
theorem dX2_enter_26 : decode cX2_enter 26 = .ok (.getfield 34, 3) := by decide +kernel
theorem dX2_enter_29 : decode cX2_enter 29 = .ok (.iload 8, 2) := by decide +kernel
theorem dX2_enter_31 : decode cX2_enter 31 = .ok (.iaload, 1) := by decide +kernel
theorem dX2_enter_32 : decode cX2_enter 32 = .ok (.istore 9, 2) := by decide +kernel
theorem dX2_enter_34 : decode cX2_enter 34 = .ok (.lload_n 3, 1) := by decide +kernel
theorem dX2_enter_35 : decode cX2_enter 35 = .ok (.lconst 1, 1) := by decide +kernel
theorem dX2_enter_36 : decode cX2_enter 36 = .ok (.aload_n 0, 1) := by decide +kernel
theorem dX2_enter_37 : decode cX2_enter 37 = .ok (.getfield 9, 3) := by decide +kernel
theorem dX2_enter_40 : decode cX2_enter 40 = .ok (.iload 9, 2) := by decide +kernel
theorem dX2_enter_42 : decode cX2_enter 42 = .ok (.iaload, 1) := by decide +kernel
theorem dX2_enter_43 : decode cX2_enter 43 = .ok (.lshl, 1) := by decide +kernel
theorem dX2_enter_44 : decode cX2_enter 44 = .ok (.lor, 1) := by decide +kernel
theorem dX2_enter_45 : decode cX2_enter 45 = .ok (.lstore_n 3, 1) := by decide +kernel
theorem dX2_enter_46 : decode cX2_enter 46 = .ok (.iload 5, 2) := by decide +kernel
theorem dX2_enter_48 : decode cX2_enter 48 = .ok (.aload_n 0, 1) := by decide +kernel
theorem dX2_enter_49 : decode cX2_enter 49 = .ok (.getfield 15, 3) := by decide +kernel
theorem dX2_enter_52 : decode cX2_enter 52 = .ok (.iload 9, 2) := by decide +kernel
theorem dX2_enter_54 : decode cX2_enter 54 = .ok (.iaload, 1) := by decide +kernel
theorem dX2_enter_55 : decode cX2_enter 55 = .ok (.invokestatic 37, 3) := by decide +kernel
theorem dX2_enter_58 : decode cX2_enter 58 = .ok (.istore 5, 2) := by decide +kernel
theorem dX2_enter_60 : decode cX2_enter 60 = .ok (.iload 6, 2) := by decide +kernel
theorem dX2_enter_62 : decode cX2_enter 62 = .ok (.aload_n 0, 1) := by decide +kernel
theorem dX2_enter_63 : decode cX2_enter 63 = .ok (.getfield 18, 3) := by decide +kernel
theorem dX2_enter_66 : decode cX2_enter 66 = .ok (.iload 9, 2) := by decide +kernel
theorem dX2_enter_68 : decode cX2_enter 68 = .ok (.iaload, 1) := by decide +kernel
theorem dX2_enter_69 : decode cX2_enter 69 = .ok (.invokestatic 43, 3) := by decide +kernel
theorem dX2_enter_72 : decode cX2_enter 72 = .ok (.istore 6, 2) := by decide +kernel
theorem dX2_enter_74 : decode cX2_enter 74 = .ok (.iload 7, 2) := by decide +kernel
theorem dX2_enter_76 : decode cX2_enter 76 = .ok (.ifCond .ne 13, 3) := by decide +kernel
theorem dX2_enter_79 : decode cX2_enter 79 = .ok (.aload_n 0, 1) := by decide +kernel
theorem dX2_enter_80 : decode cX2_enter 80 = .ok (.getfield 21, 3) := by decide +kernel
theorem dX2_enter_83 : decode cX2_enter 83 = .ok (.iload 9, 2) := by decide +kernel
theorem dX2_enter_85 : decode cX2_enter 85 = .ok (.baload, 1) := by decide +kernel
theorem dX2_enter_86 : decode cX2_enter 86 = .ok (.ifCond .ne 7, 3) := by decide +kernel
theorem dX2_enter_89 : decode cX2_enter 89 = .ok (.iconst 1, 1) := by decide +kernel
theorem dX2_enter_90 : decode cX2_enter 90 = .ok (.goto 4, 3) := by decide +kernel
theorem dX2_enter_93 : decode cX2_enter 93 = .ok (.iconst 0, 1) := by decide +kernel
theorem dX2_enter_94 : decode cX2_enter 94 = .ok (.istore 7, 2) := by decide +kernel
theorem dX2_enter_96 : decode cX2_enter 96 = .ok (.iinc 8 1, 3) := by decide +kernel
theorem dX2_enter_99 : decode cX2_enter 99 = .ok (.goto (-83), 3) := by decide +kernel
theorem dX2_enter_102 : decode cX2_enter 102 = .ok (.aload_n 0, 1) := by decide +kernel
theorem dX2_enter_103 : decode cX2_enter 103 = .ok (.getfield 9, 3) := by decide +kernel
theorem dX2_enter_106 : decode cX2_enter 106 = .ok (.iload_n 1, 1) := by decide +kernel
theorem dX2_enter_107 : decode cX2_enter 107 = .ok (.lload_n 3, 1) := by decide +kernel
theorem dX2_enter_108 : decode cX2_enter 108 = .ok (.invokestatic 46, 3) := by decide +kernel
theorem dX2_enter_111 : decode cX2_enter 111 = .ok (.iastore, 1) := by decide +kernel
theorem dX2_enter_112 : decode cX2_enter 112 = .ok (.aload_n 0, 1) := by decide +kernel
theorem dX2_enter_113 : decode cX2_enter 113 = .ok (.getfield 15, 3) := by decide +kernel
theorem dX2_enter_116 : decode cX2_enter 116 = .ok (.iload_n 1, 1) := by decide +kernel
theorem dX2_enter_117 : decode cX2_enter 117 = .ok (.iload 5, 2) := by decide +kernel
theorem dX2_enter_119 : decode cX2_enter 119 = .ok (.iconst 1, 1) := by decide +kernel
theorem dX2_enter_120 : decode cX2_enter 120 = .ok (.iadd, 1) := by decide +kernel
theorem dX2_enter_121 : decode cX2_enter 121 = .ok (.iastore, 1) := by decide +kernel
theorem dX2_enter_122 : decode cX2_enter 122 = .ok (.aload_n 0, 1) := by decide +kernel
theorem dX2_enter_123 : decode cX2_enter 123 = .ok (.getfield 18, 3) := by decide +kernel
theorem dX2_enter_126 : decode cX2_enter 126 = .ok (.iload_n 1, 1) := by decide +kernel
theorem dX2_enter_127 : decode cX2_enter 127 = .ok (.iload 6, 2) := by decide +kernel
theorem dX2_enter_129 : decode cX2_enter 129 = .ok (.iconst 1, 1) := by decide +kernel
theorem dX2_enter_130 : decode cX2_enter 130 = .ok (.iadd, 1) := by decide +kernel
theorem dX2_enter_131 : decode cX2_enter 131 = .ok (.iastore, 1) := by decide +kernel
theorem dX2_enter_132 : decode cX2_enter 132 = .ok (.aload_n 0, 1) := by decide +kernel
theorem dX2_enter_133 : decode cX2_enter 133 = .ok (.getfield 21, 3) := by decide +kernel
theorem dX2_enter_136 : decode cX2_enter 136 = .ok (.iload_n 1, 1) := by decide +kernel
theorem dX2_enter_137 : decode cX2_enter 137 = .ok (.iload 7, 2) := by decide +kernel
theorem dX2_enter_139 : decode cX2_enter 139 = .ok (.bastore, 1) := by decide +kernel
theorem dX2_enter_140 : decode cX2_enter 140 = .ok (.return_, 1) := by decide +kernel
theorem dX2_leastMissing_0 : decode cX2_leastMissing 0 = .ok (.iconst 0, 1) := by decide +kernel
theorem dX2_leastMissing_1 : decode cX2_leastMissing 1 = .ok (.istore_n 2, 1) := by decide +kernel
theorem dX2_leastMissing_2 : decode cX2_leastMissing 2 = .ok (.iload_n 2, 1) := by decide +kernel
theorem dX2_leastMissing_3 : decode cX2_leastMissing 3 = .ok (.bipush 63, 2) := by decide +kernel
theorem dX2_leastMissing_5 : decode cX2_leastMissing 5 = .ok (.if_icmp .ge 19, 3) := by decide +kernel
theorem dX2_leastMissing_8 : decode cX2_leastMissing 8 = .ok (.lload_n 0, 1) := by decide +kernel
theorem dX2_leastMissing_9 : decode cX2_leastMissing 9 = .ok (.iload_n 2, 1) := by decide +kernel
theorem dX2_leastMissing_10 : decode cX2_leastMissing 10 = .ok (.lshr, 1) := by decide +kernel
theorem dX2_leastMissing_11 : decode cX2_leastMissing 11 = .ok (.lconst 1, 1) := by decide +kernel
theorem dX2_leastMissing_12 : decode cX2_leastMissing 12 = .ok (.land, 1) := by decide +kernel
theorem dX2_leastMissing_13 : decode cX2_leastMissing 13 = .ok (.lconst 1, 1) := by decide +kernel
theorem dX2_leastMissing_14 : decode cX2_leastMissing 14 = .ok (.lcmp, 1) := by decide +kernel
theorem dX2_leastMissing_15 : decode cX2_leastMissing 15 = .ok (.ifCond .ne 9, 3) := by decide +kernel
theorem dX2_leastMissing_18 : decode cX2_leastMissing 18 = .ok (.iinc 2 1, 3) := by decide +kernel
theorem dX2_leastMissing_21 : decode cX2_leastMissing 21 = .ok (.goto (-19), 3) := by decide +kernel
theorem dX2_leastMissing_24 : decode cX2_leastMissing 24 = .ok (.iload_n 2, 1) := by decide +kernel
theorem dX2_leastMissing_25 : decode cX2_leastMissing 25 = .ok (.ireturn, 1) := by decide +kernel
set_option maxRecDepth 20000 in
theorem ggX3_init_X4_init : GoodIn wsX3_init wsX4_init := goodIn_r _ [15, 16, 2, 3, 17, 18, 19, 20, 21, 22, 23, 24, 36, 37, 38, 39, 40, 41, 42] (by decide +kernel) (by decide +kernel)
set_option maxRecDepth 20000 in
theorem gX3_init_X4_init_n19 : GoodIn wsX3_init (wsX4_init) := ggX3_init_X4_init
set_option maxRecDepth 20000 in
theorem ggX3_init_X1_init : GoodIn wsX3_init wsX1_init := goodIn_r _ [26, 27, 2, 3, 17, 28, 29, 30, 31, 32, 43, 44, 45, 46, 47] (by decide +kernel) (by decide +kernel)
set_option maxRecDepth 20000 in
theorem gX3_init_X1_init_n26 : GoodIn wsX3_init (wsX1_init) := ggX3_init_X1_init
theorem dX3_init_0 : decode cX3_init 0 = .ok (.aload_n 0, 1) := by decide +kernel
theorem dX3_init_1 : decode cX3_init 1 = .ok (.invokespecial 3, 3) := by decide +kernel
theorem dX3_init_4 : decode cX3_init 4 = .ok (.aload_n 0, 1) := by decide +kernel
theorem dX3_init_5 : decode cX3_init 5 = .ok (.bipush 20, 2) := by decide +kernel
theorem dX3_init_7 : decode cX3_init 7 = .ok (.anewarray 9, 3) := by decide +kernel
theorem dX3_init_10 : decode cX3_init 10 = .ok (.putfield 11, 3) := by decide +kernel
theorem dX3_init_13 : decode cX3_init 13 = .ok (.aload_n 0, 1) := by decide +kernel
theorem dX3_init_14 : decode cX3_init 14 = .ok (.new 17, 3) := by decide +kernel
theorem dX3_init_17 : decode cX3_init 17 = .ok (.dup, 1) := by decide +kernel
theorem dX3_init_18 : decode cX3_init 18 = .ok (.invokespecial 19, 3) := by decide +kernel
theorem dX3_init_21 : decode cX3_init 21 = .ok (.putfield 20, 3) := by decide +kernel
theorem dX3_init_24 : decode cX3_init 24 = .ok (.aload_n 0, 1) := by decide +kernel
theorem dX3_init_25 : decode cX3_init 25 = .ok (.new 24, 3) := by decide +kernel
theorem dX3_init_28 : decode cX3_init 28 = .ok (.dup, 1) := by decide +kernel
theorem dX3_init_29 : decode cX3_init 29 = .ok (.invokespecial 26, 3) := by decide +kernel
theorem dX3_init_32 : decode cX3_init 32 = .ok (.putfield 27, 3) := by decide +kernel
theorem dX3_init_35 : decode cX3_init 35 = .ok (.return_, 1) := by decide +kernel
set_option maxRecDepth 20000 in
theorem ggX3_solve_X4_ruleSet : GoodIn wsX3_solve wsX4_ruleSet := goodIn_r _ [11, 12, 13, 14, 15, 16, 17, 135, 136, 137, 138, 139, 140, 141] (by decide +kernel) (by decide +kernel)
set_option maxRecDepth 20000 in
theorem gX3_solve_X4_ruleSet : GoodIn wsX3_solve (wsV RX3 31 RX4 yX4_ruleSet wsX4_ruleSet) := goodIn_app (goodIn_of _ (by decide +kernel)) ggX3_solve_X4_ruleSet
set_option maxRecDepth 20000 in
theorem ggX3_solve_X2_init : GoodIn wsX3_solve wsX2_init := goodIn_r _ [20, 21, 22, 23, 24, 25, 26, 27, 28, 29, 30, 130, 131, 132, 133, 134] (by decide +kernel) (by decide +kernel)
set_option maxRecDepth 20000 in
theorem gX3_solve_X2_init : GoodIn wsX3_solve (wsX2_init) := ggX3_solve_X2_init
set_option maxRecDepth 20000 in
theorem ggX3_solve_X4_total : GoodIn wsX3_solve wsX4_total := goodIn_r _ [34, 35, 36, 135, 136, 137, 138, 139, 140, 141] (by decide +kernel) (by decide +kernel)
set_option maxRecDepth 20000 in
theorem gX3_solve_X4_total : GoodIn wsX3_solve (wsV RX3 36 RX4 yX4_total wsX4_total) := goodIn_app (goodIn_of _ (by decide +kernel)) ggX3_solve_X4_total
set_option maxRecDepth 20000 in
theorem ggX3_solve_X4_copyFrom : GoodIn wsX3_solve wsX4_copyFrom := goodIn_r _ [40, 36, 41, 42, 43, 44, 35, 12, 13, 14, 45, 46, 135, 136, 137, 138, 139, 140, 141] (by decide +kernel) (by decide +kernel)
set_option maxRecDepth 20000 in
theorem gX3_solve_X4_copyFrom : GoodIn wsX3_solve (wsV RX3 43 RX4 yX4_copyFrom wsX4_copyFrom) := goodIn_app (goodIn_of _ (by decide +kernel)) ggX3_solve_X4_copyFrom
set_option maxRecDepth 20000 in
theorem ggX3_solve_X3_solveAll : GoodIn wsX3_solve wsX3_solveAll := goodIn_r _ [51, 52, 6, 53, 54, 55, 50, 56, 57, 58, 59, 60, 61, 62, 63, 64, 10, 65, 35, 36, 66, 67, 68, 69, 70, 71, 72, 73, 74, 75, 76, 77, 78, 16, 79, 80, 81, 82, 83, 84, 85, 86, 87, 88, 89, 90, 91, 92, 93, 94, 95, 96, 97, 98, 99, 100, 101, 102, 103, 104, 105, 106, 107, 108, 109, 110, 111, 4, 112, 113, 114, 25, 26, 115, 116, 117, 27, 118, 29, 119, 120, 121, 122, 123, 124, 125, 126, 127, 128, 129, 135, 136, 137, 138, 139, 140, 141, 142, 143, 144, 145, 146, 130, 131, 132, 133, 134] (by decide +kernel) (by decide +kernel)
set_option maxRecDepth 20000 in
theorem gX3_solve_X3_solveAll : GoodIn wsX3_solve (wsV RX3 47 RX3 yX3_solveAll wsX3_solveAll) := goodIn_app (goodIn_of _ (by decide +kernel)) ggX3_solve_X3_solveAll
theorem dX3_solve_0 : decode cX3_solve 0 = .ok (.aload_n 1, 1) := by decide +kernel
theorem dX3_solve_1 : decode cX3_solve 1 = .ok (.invokevirtual 31, 3) := by decide +kernel
theorem dX3_solve_4 : decode cX3_solve 4 = .ok (.istore_n 2, 1) := by decide +kernel
theorem dX3_solve_5 : decode cX3_solve 5 = .ok (.aload_n 0, 1) := by decide +kernel
theorem dX3_solve_6 : decode cX3_solve 6 = .ok (.getfield 11, 3) := by decide +kernel
theorem dX3_solve_9 : decode cX3_solve 9 = .ok (.iload_n 2, 1) := by decide +kernel
theorem dX3_solve_10 : decode cX3_solve 10 = .ok (.aaload, 1) := by decide +kernel
theorem dX3_solve_11 : decode cX3_solve 11 = .ok (.ifnonnull 16, 3) := by decide +kernel
theorem dX3_solve_14 : decode cX3_solve 14 = .ok (.aload_n 0, 1) := by decide +kernel
theorem dX3_solve_15 : decode cX3_solve 15 = .ok (.getfield 11, 3) := by decide +kernel
theorem dX3_solve_18 : decode cX3_solve 18 = .ok (.iload_n 2, 1) := by decide +kernel
theorem dX3_solve_19 : decode cX3_solve 19 = .ok (.new 9, 3) := by decide +kernel
theorem dX3_solve_22 : decode cX3_solve 22 = .ok (.dup, 1) := by decide +kernel
theorem dX3_solve_23 : decode cX3_solve 23 = .ok (.invokespecial 35, 3) := by decide +kernel
theorem dX3_solve_26 : decode cX3_solve 26 = .ok (.aastore, 1) := by decide +kernel
theorem dX3_solve_27 : decode cX3_solve 27 = .ok (.aload_n 0, 1) := by decide +kernel
theorem dX3_solve_28 : decode cX3_solve 28 = .ok (.getfield 11, 3) := by decide +kernel
theorem dX3_solve_31 : decode cX3_solve 31 = .ok (.iload_n 2, 1) := by decide +kernel
theorem dX3_solve_32 : decode cX3_solve 32 = .ok (.aaload, 1) := by decide +kernel
theorem dX3_solve_33 : decode cX3_solve 33 = .ok (.astore_n 3, 1) := by decide +kernel
theorem dX3_solve_34 : decode cX3_solve 34 = .ok (.aload_n 1, 1) := by decide +kernel
theorem dX3_solve_35 : decode cX3_solve 35 = .ok (.invokevirtual 36, 3) := by decide +kernel
theorem dX3_solve_38 : decode cX3_solve 38 = .ok (.istore 4, 2) := by decide +kernel
theorem dX3_solve_40 : decode cX3_solve 40 = .ok (.aload_n 3, 1) := by decide +kernel
theorem dX3_solve_41 : decode cX3_solve 41 = .ok (.getfield 39, 3) := by decide +kernel
theorem dX3_solve_44 : decode cX3_solve 44 = .ok (.iload 4, 2) := by decide +kernel
theorem dX3_solve_46 : decode cX3_solve 46 = .ok (.if_icmp .ge 45, 3) := by decide +kernel
theorem dX3_solve_49 : decode cX3_solve 49 = .ok (.aload_n 0, 1) := by decide +kernel
theorem dX3_solve_50 : decode cX3_solve 50 = .ok (.getfield 20, 3) := by decide +kernel
theorem dX3_solve_53 : decode cX3_solve 53 = .ok (.aload_n 1, 1) := by decide +kernel
theorem dX3_solve_54 : decode cX3_solve 54 = .ok (.invokevirtual 43, 3) := by decide +kernel
theorem dX3_solve_57 : decode cX3_solve 57 = .ok (.aload_n 3, 1) := by decide +kernel
theorem dX3_solve_58 : decode cX3_solve 58 = .ok (.getfield 39, 3) := by decide +kernel
theorem dX3_solve_61 : decode cX3_solve 61 = .ok (.iconst 1, 1) := by decide +kernel
theorem dX3_solve_62 : decode cX3_solve 62 = .ok (.iadd, 1) := by decide +kernel
theorem dX3_solve_63 : decode cX3_solve 63 = .ok (.istore 5, 2) := by decide +kernel
theorem dX3_solve_65 : decode cX3_solve 65 = .ok (.iload 5, 2) := by decide +kernel
theorem dX3_solve_67 : decode cX3_solve 67 = .ok (.iload 4, 2) := by decide +kernel
theorem dX3_solve_69 : decode cX3_solve 69 = .ok (.if_icmp .gt 16, 3) := by decide +kernel
theorem dX3_solve_72 : decode cX3_solve 72 = .ok (.aload_n 0, 1) := by decide +kernel
theorem dX3_solve_73 : decode cX3_solve 73 = .ok (.aload_n 3, 1) := by decide +kernel
theorem dX3_solve_74 : decode cX3_solve 74 = .ok (.iload 5, 2) := by decide +kernel
theorem dX3_solve_76 : decode cX3_solve 76 = .ok (.invokevirtual 47, 3) := by decide +kernel
theorem dX3_solve_79 : decode cX3_solve 79 = .ok (.iinc 5 1, 3) := by decide +kernel
theorem dX3_solve_82 : decode cX3_solve 82 = .ok (.goto (-17), 3) := by decide +kernel
theorem dX3_solve_85 : decode cX3_solve 85 = .ok (.aload_n 3, 1) := by decide +kernel
theorem dX3_solve_86 : decode cX3_solve 86 = .ok (.iload 4, 2) := by decide +kernel
theorem dX3_solve_88 : decode cX3_solve 88 = .ok (.putfield 39, 3) := by decide +kernel
theorem dX3_solve_91 : decode cX3_solve 91 = .ok (.aload_n 3, 1) := by decide +kernel
theorem dX3_solve_92 : decode cX3_solve 92 = .ok (.areturn, 1) := by decide +kernel
set_option maxRecDepth 20000 in
theorem ggX3_solveAll_X3_startWithOnes : GoodIn wsX3_solveAll wsX3_startWithOnes := goodIn_r _ [7, 2, 8, 9, 10, 11, 6, 12, 13, 14, 15, 16, 17, 18, 19, 87, 88, 89, 90, 91, 92, 93, 94, 95, 96] (by decide +kernel) (by decide +kernel)
set_option maxRecDepth 20000 in
theorem gX3_solveAll_X3_startWithOnes : GoodIn wsX3_solveAll (wsV RX3 51 RX3 yX3_startWithOnes wsX3_startWithOnes) := goodIn_app (goodIn_of _ (by decide +kernel)) ggX3_solveAll_X3_startWithOnes
set_option maxRecDepth 20000 in
theorem ggX3_solveAll_X1_fill : GoodIn wsX3_solveAll wsX1_fill := goodIn_r _ [24, 25, 26, 27, 28, 29, 30, 16, 31, 18, 19, 32, 33, 34, 35, 36, 37, 38, 23, 39, 40, 41, 42, 43, 44, 45, 46, 47, 48, 49, 50, 51, 52, 53, 54, 55, 56, 57, 58, 59, 60, 61, 62, 97, 98, 99, 100, 101, 90, 91, 92, 93, 94, 95, 96] (by decide +kernel) (by decide +kernel)
set_option maxRecDepth 20000 in
theorem gX3_solveAll_X1_fill : GoodIn wsX3_solveAll (wsV RX3 55 RX1 yX1_fill wsX1_fill) := goodIn_app (goodIn_of _ (by decide +kernel)) ggX3_solveAll_X1_fill
set_option maxRecDepth 20000 in
theorem ggX3_solveAll_X4_slot : GoodIn wsX3_solveAll wsX4_slot := goodIn_r _ [31, 18, 19, 32, 33, 34, 35, 90, 91, 92, 93, 94, 95, 96] (by decide +kernel) (by decide +kernel)
set_option maxRecDepth 20000 in
theorem gX3_solveAll_X4_slot : GoodIn wsX3_solveAll (wsV RX3 58 RX4 yX4_slot wsX4_slot) := goodIn_app (goodIn_of _ (by decide +kernel)) ggX3_solveAll_X4_slot
set_option maxRecDepth 20000 in
theorem ggX3_solveAll_X2_enter : GoodIn wsX3_solveAll wsX2_enter := goodIn_r _ [68, 69, 70, 71, 72, 73, 74, 45, 75, 76, 77, 44, 46, 78, 79, 80, 67, 81, 97, 98, 99, 100, 101, 102, 103, 104, 105, 106] (by decide +kernel) (by decide +kernel)
set_option maxRecDepth 20000 in
theorem gX3_solveAll_X2_enter : GoodIn wsX3_solveAll (wsV RX3 61 RX2 yX2_enter wsX2_enter) := goodIn_app (goodIn_of _ (by decide +kernel)) ggX3_solveAll_X2_enter
set_option maxRecDepth 20000 in
theorem ggX3_solveAll_X3_stepOn : GoodIn wsX3_solveAll wsX3_stepOn := goodIn_r _ [85, 2, 86, 8, 9, 10, 11, 6, 12, 13, 14, 15, 16, 17, 18, 19, 87, 88, 89, 90, 91, 92, 93, 94, 95, 96] (by decide +kernel) (by decide +kernel)
set_option maxRecDepth 20000 in
theorem gX3_solveAll_X3_stepOn : GoodIn wsX3_solveAll (wsV RX3 65 RX3 yX3_stepOn wsX3_stepOn) := goodIn_app (goodIn_of _ (by decide +kernel)) ggX3_solveAll_X3_stepOn
theorem dX3_solveAll_0 : decode cX3_solveAll 0 = .ok (.aload_n 0, 1) := by decide +kernel
theorem dX3_solveAll_1 : decode cX3_solveAll 1 = .ok (.iload_n 2, 1) := by decide +kernel
theorem dX3_solveAll_2 : decode cX3_solveAll 2 = .ok (.invokevirtual 51, 3) := by decide +kernel
theorem dX3_solveAll_5 : decode cX3_solveAll 5 = .ok (.iconst 1, 1) := by decide +kernel
theorem dX3_solveAll_6 : decode cX3_solveAll 6 = .ok (.istore_n 3, 1) := by decide +kernel
theorem dX3_solveAll_7 : decode cX3_solveAll 7 = .ok (.iconst 0, 1) := by decide +kernel
theorem dX3_solveAll_8 : decode cX3_solveAll 8 = .ok (.istore 4, 2) := by decide +kernel
theorem dX3_solveAll_10 : decode cX3_solveAll 10 = .ok (.iload_n 3, 1) := by decide +kernel
theorem dX3_solveAll_11 : decode cX3_solveAll 11 = .ok (.ifCond .eq 47, 3) := by decide +kernel
theorem dX3_solveAll_14 : decode cX3_solveAll 14 = .ok (.iload 4, 2) := by decide +kernel
theorem dX3_solveAll_16 : decode cX3_solveAll 16 = .ok (.bipush 100, 2) := by decide +kernel
theorem dX3_solveAll_18 : decode cX3_solveAll 18 = .ok (.if_icmp .ge 40, 3) := by decide +kernel
theorem dX3_solveAll_21 : decode cX3_solveAll 21 = .ok (.aload_n 0, 1) := by decide +kernel
theorem dX3_solveAll_22 : decode cX3_solveAll 22 = .ok (.getfield 27, 3) := by decide +kernel
theorem dX3_solveAll_25 : decode cX3_solveAll 25 = .ok (.aload_n 0, 1) := by decide +kernel
theorem dX3_solveAll_26 : decode cX3_solveAll 26 = .ok (.getfield 20, 3) := by decide +kernel
theorem dX3_solveAll_29 : decode cX3_solveAll 29 = .ok (.invokevirtual 55, 3) := by decide +kernel
theorem dX3_solveAll_32 : decode cX3_solveAll 32 = .ok (.aload_n 1, 1) := by decide +kernel
theorem dX3_solveAll_33 : decode cX3_solveAll 33 = .ok (.aload_n 0, 1) := by decide +kernel
theorem dX3_solveAll_34 : decode cX3_solveAll 34 = .ok (.getfield 20, 3) := by decide +kernel
theorem dX3_solveAll_37 : decode cX3_solveAll 37 = .ok (.invokevirtual 58, 3) := by decide +kernel
theorem dX3_solveAll_40 : decode cX3_solveAll 40 = .ok (.aload_n 0, 1) := by decide +kernel
theorem dX3_solveAll_41 : decode cX3_solveAll 41 = .ok (.getfield 27, 3) := by decide +kernel
theorem dX3_solveAll_44 : decode cX3_solveAll 44 = .ok (.invokevirtual 61, 3) := by decide +kernel
theorem dX3_solveAll_47 : decode cX3_solveAll 47 = .ok (.aload_n 0, 1) := by decide +kernel
theorem dX3_solveAll_48 : decode cX3_solveAll 48 = .ok (.invokevirtual 65, 3) := by decide +kernel
theorem dX3_solveAll_51 : decode cX3_solveAll 51 = .ok (.istore_n 3, 1) := by decide +kernel
theorem dX3_solveAll_52 : decode cX3_solveAll 52 = .ok (.iinc 4 1, 3) := by decide +kernel
theorem dX3_solveAll_55 : decode cX3_solveAll 55 = .ok (.goto (-45), 3) := by decide +kernel
theorem dX3_solveAll_58 : decode cX3_solveAll 58 = .ok (.return_, 1) := by decide +kernel
set_option maxRecDepth 20000 in
theorem ggX3_startWithOnes_X3_appendOnes : GoodIn wsX3_startWithOnes wsX3_appendOnes := goodIn_r _ [7, 1, 2, 8, 9, 10, 11, 12, 13, 14, 15, 16, 17, 18, 19, 20, 21, 22, 23, 24] (by decide +kernel) (by decide +kernel)
set_option maxRecDepth 20000 in
theorem gX3_startWithOnes_X3_appendOnes : GoodIn wsX3_startWithOnes (wsV RX3 72 RX3 yX3_appendOnes wsX3_appendOnes) := goodIn_app (goodIn_of _ (by decide +kernel)) ggX3_startWithOnes_X3_appendOnes
theorem dX3_startWithOnes_0 : decode cX3_startWithOnes 0 = .ok (.aload_n 0, 1) := by decide +kernel
theorem dX3_startWithOnes_1 : decode cX3_startWithOnes 1 = .ok (.getfield 20, 3) := by decide +kernel
theorem dX3_startWithOnes_4 : decode cX3_startWithOnes 4 = .ok (.iconst 0, 1) := by decide +kernel
theorem dX3_startWithOnes_5 : decode cX3_startWithOnes 5 = .ok (.putfield 69, 3) := by decide +kernel
theorem dX3_startWithOnes_8 : decode cX3_startWithOnes 8 = .ok (.aload_n 0, 1) := by decide +kernel
theorem dX3_startWithOnes_9 : decode cX3_startWithOnes 9 = .ok (.iload_n 1, 1) := by decide +kernel
theorem dX3_startWithOnes_10 : decode cX3_startWithOnes 10 = .ok (.invokevirtual 72, 3) := by decide +kernel
theorem dX3_startWithOnes_13 : decode cX3_startWithOnes 13 = .ok (.return_, 1) := by decide +kernel
set_option maxRecDepth 20000 in
theorem ggX3_stepOn_X3_appendOnes : GoodIn wsX3_stepOn wsX3_appendOnes := goodIn_r _ [8, 1, 3, 9, 10, 11, 12, 13, 14, 15, 16, 17, 18, 19, 20, 21, 22, 23, 24, 25] (by decide +kernel) (by decide +kernel)
set_option maxRecDepth 20000 in
theorem gX3_stepOn_X3_appendOnes : GoodIn wsX3_stepOn (wsV RX3 72 RX3 yX3_appendOnes wsX3_appendOnes) := goodIn_app (goodIn_of _ (by decide +kernel)) ggX3_stepOn_X3_appendOnes
theorem dX3_stepOn_0 : decode cX3_stepOn 0 = .ok (.aload_n 0, 1) := by decide +kernel
theorem dX3_stepOn_1 : decode cX3_stepOn 1 = .ok (.getfield 20, 3) := by decide +kernel
theorem dX3_stepOn_4 : decode cX3_stepOn 4 = .ok (.getfield 75, 3) := by decide +kernel
theorem dX3_stepOn_7 : decode cX3_stepOn 7 = .ok (.astore_n 1, 1) := by decide +kernel
theorem dX3_stepOn_8 : decode cX3_stepOn 8 = .ok (.aload_n 0, 1) := by decide +kernel
theorem dX3_stepOn_9 : decode cX3_stepOn 9 = .ok (.getfield 20, 3) := by decide +kernel
theorem dX3_stepOn_12 : decode cX3_stepOn 12 = .ok (.getfield 69, 3) := by decide +kernel
theorem dX3_stepOn_15 : decode cX3_stepOn 15 = .ok (.iconst 2, 1) := by decide +kernel
theorem dX3_stepOn_16 : decode cX3_stepOn 16 = .ok (.isub, 1) := by decide +kernel
theorem dX3_stepOn_17 : decode cX3_stepOn 17 = .ok (.istore_n 2, 1) := by decide +kernel
theorem dX3_stepOn_18 : decode cX3_stepOn 18 = .ok (.iload_n 2, 1) := by decide +kernel
theorem dX3_stepOn_19 : decode cX3_stepOn 19 = .ok (.ifCond .le 20, 3) := by decide +kernel
theorem dX3_stepOn_22 : decode cX3_stepOn 22 = .ok (.aload_n 1, 1) := by decide +kernel
theorem dX3_stepOn_23 : decode cX3_stepOn 23 = .ok (.iload_n 2, 1) := by decide +kernel
theorem dX3_stepOn_24 : decode cX3_stepOn 24 = .ok (.iconst 1, 1) := by decide +kernel
theorem dX3_stepOn_25 : decode cX3_stepOn 25 = .ok (.isub, 1) := by decide +kernel
theorem dX3_stepOn_26 : decode cX3_stepOn 26 = .ok (.iaload, 1) := by decide +kernel
theorem dX3_stepOn_27 : decode cX3_stepOn 27 = .ok (.aload_n 1, 1) := by decide +kernel
theorem dX3_stepOn_28 : decode cX3_stepOn 28 = .ok (.iload_n 2, 1) := by decide +kernel
theorem dX3_stepOn_29 : decode cX3_stepOn 29 = .ok (.iaload, 1) := by decide +kernel
theorem dX3_stepOn_30 : decode cX3_stepOn 30 = .ok (.if_icmp .ne 9, 3) := by decide +kernel
theorem dX3_stepOn_33 : decode cX3_stepOn 33 = .ok (.iinc 2 (-1), 3) := by decide +kernel
theorem dX3_stepOn_36 : decode cX3_stepOn 36 = .ok (.goto (-18), 3) := by decide +kernel
theorem dX3_stepOn_39 : decode cX3_stepOn 39 = .ok (.iload_n 2, 1) := by decide +kernel
theorem dX3_stepOn_40 : decode cX3_stepOn 40 = .ok (.ifCond .ge 5, 3) := by decide +kernel
theorem dX3_stepOn_43 : decode cX3_stepOn 43 = .ok (.iconst 0, 1) := by decide +kernel
theorem dX3_stepOn_44 : decode cX3_stepOn 44 = .ok (.ireturn, 1) := by decide +kernel
theorem dX3_stepOn_45 : decode cX3_stepOn 45 = .ok (.iconst (-1), 1) := by decide +kernel
theorem dX3_stepOn_46 : decode cX3_stepOn 46 = .ok (.istore_n 3, 1) := by decide +kernel
theorem dX3_stepOn_47 : decode cX3_stepOn 47 = .ok (.iload_n 2, 1) := by decide +kernel
theorem dX3_stepOn_48 : decode cX3_stepOn 48 = .ok (.iconst 1, 1) := by decide +kernel
theorem dX3_stepOn_49 : decode cX3_stepOn 49 = .ok (.iadd, 1) := by decide +kernel
theorem dX3_stepOn_50 : decode cX3_stepOn 50 = .ok (.istore 4, 2) := by decide +kernel
theorem dX3_stepOn_52 : decode cX3_stepOn 52 = .ok (.iload 4, 2) := by decide +kernel
theorem dX3_stepOn_54 : decode cX3_stepOn 54 = .ok (.aload_n 0, 1) := by decide +kernel
theorem dX3_stepOn_55 : decode cX3_stepOn 55 = .ok (.getfield 20, 3) := by decide +kernel
