def wsL_law0_r29 : List Cond := [Cond.codeWith yL_wins cL_wins 4 (some .int) [(0, 16, 19, 24)], Cond.methodLink RL 50 yX6_wins, Cond.instanceMethod yX6_wins, Cond.selects RX6 yX6_wins yX6_wins, Cond.code yX6_wins cX6_wins 2 (some .boolean), Cond.methodLink RX6 164 yX6_isWinner, Cond.instanceMethod yX6_isWinner, Cond.selects RX6 yX6_isWinner yX6_isWinner, Cond.code yX6_isWinner cX6_isWinner 3 (some .boolean), Cond.fieldLink RX6 171 "CairnGame$MoveList" "behind" "[I", Cond.methodLink RL 179 yX7_wins, Cond.instanceMethod yX7_wins, Cond.selects RX7 yX7_wins yX7_wins, Cond.code yX7_wins cX7_wins 2 (some .boolean), Cond.methodLink RL 180 yX6_winningMoves, Cond.instanceMethod yX6_winningMoves, Cond.selects RX6 yX6_winningMoves yX6_winningMoves, Cond.code yX6_winningMoves cX6_winningMoves 4 (some .int), Cond.methodLink RL 183 yX7_winningMoves, Cond.instanceMethod yX7_winningMoves, Cond.selects RX7 yX7_winningMoves yX7_winningMoves, Cond.code yX7_winningMoves cX7_winningMoves 1 (some .int), Cond.methodLink RX7 170 yX7_winning, Cond.instanceMethod yX7_winning]
def wsL_law0_r30 : List Cond := [Cond.selects RX7 yX7_winning yX7_winning, Cond.code yX7_winning cX7_winning 4 (some .int), Cond.methodLink RL 184 yX6_bestReply, Cond.instanceMethod yX6_bestReply, Cond.selects RX6 yX6_bestReply yX6_bestReply, Cond.code yX6_bestReply cX6_bestReply 6 (some .int), Cond.fieldLink RX6 168 "CairnGame$Solution" "longest" "[I", Cond.methodLink RL 187 yX7_bestReply, Cond.instanceMethod yX7_bestReply, Cond.selects RX7 yX7_bestReply yX7_bestReply, Cond.code yX7_bestReply cX7_bestReply 1 (some .int), Cond.methodLink RX7 174 yX7_reply, Cond.instanceMethod yX7_reply, Cond.selects RX7 yX7_reply yX7_reply, Cond.code yX7_reply cX7_reply 6 (some .int), Cond.methodLink RL 188 yX6_longestGame, Cond.instanceMethod yX6_longestGame, Cond.selects RX6 yX6_longestGame yX6_longestGame, Cond.code yX6_longestGame cX6_longestGame 1 (some .int), Cond.methodLink RL 191 yX7_longestGame, Cond.instanceMethod yX7_longestGame, Cond.selects RX7 yX7_longestGame yX7_longestGame, Cond.code yX7_longestGame cX7_longestGame 1 (some .int), Cond.methodLink RL 192 yX6_shortestGame]
def wsL_law0_r31 : List Cond := [Cond.instanceMethod yX6_shortestGame, Cond.selects RX6 yX6_shortestGame yX6_shortestGame, Cond.code yX6_shortestGame cX6_shortestGame 1 (some .int), Cond.fieldLink RX6 174 "CairnGame$Solution" "shortest" "[I", Cond.methodLink RL 195 yX7_shortestGame, Cond.instanceMethod yX7_shortestGame, Cond.selects RX7 yX7_shortestGame yX7_shortestGame, Cond.code yX7_shortestGame cX7_shortestGame 1 (some .int), Cond.methodLink RL 196 yX6_winningShare, Cond.instanceMethod yX6_winningShare, Cond.selects RX6 yX6_winningShare yX6_winningShare, Cond.code yX6_winningShare cX6_winningShare 3 (some .double), Cond.methodLink RX6 177 yX6_winningMoves, Cond.methodLink RX6 180 yX6_moves, Cond.methodLink RL 200 yX7_winningShare, Cond.instanceMethod yX7_winningShare, Cond.selects RX7 yX7_winningShare yX7_winningShare, Cond.code yX7_winningShare cX7_winningShare 2 (some .double), Cond.methodLink RL 201 yL_append, Cond.static yL_append, Cond.codeWith yL_append cL_append 4 (some .int) [(0, 9, 12, 13), (0, 9, 15, 15)], Cond.methodLink RL 54 yX6_append, Cond.instanceMethod yX6_append, Cond.selects RX6 yX6_append yX6_append]
def wsL_law0_r32 : List Cond := [Cond.code yX6_append cX6_append 2 (some .int), Cond.fieldLink RX6 185 "CairnGame$Text" "length" "I", Cond.methodLink RX6 190 yX5_add, Cond.instanceMethod yX5_add, Cond.selects RX5 yX5_add yX5_add, Cond.code yX5_add cX5_add 2 none, Cond.methodLink RL 203 yX7_append, Cond.instanceMethod yX7_append, Cond.selects RX7 yX7_append yX7_append, Cond.code yX7_append cX7_append 2 (some .int), Cond.fieldLink RX7 177 "CairnGameModel" "textLength" "I", Cond.methodLink RL 204 yX6_clearText, Cond.instanceMethod yX6_clearText, Cond.selects RX6 yX6_clearText yX6_clearText, Cond.code yX6_clearText cX6_clearText 2 (some .int), Cond.methodLink RL 207 yX7_clearText, Cond.instanceMethod yX7_clearText, Cond.selects RX7 yX7_clearText yX7_clearText, Cond.code yX7_clearText cX7_clearText 2 (some .int), Cond.methodLink RL 208 yX6_firstError, Cond.instanceMethod yX6_firstError, Cond.selects RX6 yX6_firstError yX6_firstError, Cond.code yX6_firstError cX6_firstError 1 (some .int), Cond.methodLink RX6 194 yX5_findError]
def wsL_law0_r33 : List Cond := [Cond.instanceMethod yX5_findError, Cond.selects RX5 yX5_findError yX5_findError, Cond.code yX5_findError cX5_findError 2 (some .int), Cond.methodLink RX5 31 yX5_readItem, Cond.instanceMethod yX5_readItem, Cond.selects RX5 yX5_readItem yX5_readItem, Cond.code yX5_readItem cX5_readItem 1 (some .boolean), Cond.methodLink RX5 41 yX5_signHere, Cond.instanceMethod yX5_signHere, Cond.selects RX5 yX5_signHere yX5_signHere, Cond.code yX5_signHere cX5_signHere 1 (some .char), Cond.methodLink RX5 45 yJ0_indexOf_0f7a4, Cond.instanceMethod yJ0_indexOf_0f7a4, Cond.selects RJ0 yJ0_indexOf_0f7a4 yJ0_indexOf_0f7a4, Cond.initialized RJ0, Cond.code yJ0_indexOf_0f7a4 cJ0_indexOf_0f7a4 2 (some .int), Cond.methodLink RJ0 633 yJ0_indexOf_7cf53, Cond.instanceMethod yJ0_indexOf_7cf53, Cond.selects RJ0 yJ0_indexOf_7cf53 yJ0_indexOf_7cf53, Cond.code yJ0_indexOf_7cf53 cJ0_indexOf_7cf53 3 (some .int), Cond.fieldLink RJ0 9 "java/lang/String" "value" "[B", Cond.methodLink RJ0 492 yJ0_isLatin1_aae02, Cond.instanceMethod yJ0_isLatin1_aae02, Cond.selects RJ0 yJ0_isLatin1_aae02 yJ0_isLatin1_aae02]
def wsL_law0_r34 : List Cond := [Cond.code yJ0_isLatin1_aae02 cJ0_isLatin1_aae02 1 (some .boolean), Cond.fieldLink RJ0 38 "java/lang/String" "COMPACT_STRINGS" "Z", Cond.fieldLink RJ0 15 "java/lang/String" "coder" "B", Cond.methodLink RJ0 505 yJ0_length_8abf5, Cond.instanceMethod yJ0_length_8abf5, Cond.selects RJ0 yJ0_length_8abf5 yJ0_length_8abf5, Cond.code yJ0_length_8abf5 cJ0_length_8abf5 1 (some .int), Cond.methodLink RJ0 335 yJ0_coder_7d493, Cond.instanceMethod yJ0_coder_7d493, Cond.selects RJ0 yJ0_coder_7d493 yJ0_coder_7d493, Cond.code yJ0_coder_7d493 cJ0_coder_7d493 1 (some .byte), Cond.methodLink RJ0 637 yJ1_indexOf_4cfef, Cond.static yJ1_indexOf_4cfef, Cond.initialized RJ1, Cond.code yJ1_indexOf_4cfef cJ1_indexOf_4cfef 4 (some .int), Cond.methodLink RJ1 92 Lib.Math.max.name, Cond.methodLink RJ1 38 Lib.Math.min.name, Cond.methodLink RJ1 88 yJ1_canEncode_9a6ad, Cond.static yJ1_canEncode_9a6ad, Cond.code yJ1_canEncode_9a6ad cJ1_canEncode_9a6ad 1 (some .boolean), Cond.methodLink RJ1 95 yJ1_indexOfChar_4cfef, Cond.static yJ1_indexOfChar_4cfef, Cond.code yJ1_indexOfChar_4cfef cJ1_indexOfChar_4cfef 6 (some .int), Cond.methodLink RJ0 640 yJ2_indexOf_4cfef]
def wsL_law0_r35 : List Cond := [Cond.static yJ2_indexOf_4cfef, Cond.initialized RJ2, Cond.code yJ2_indexOf_4cfef cJ2_indexOf_4cfef 4 (some .int), Cond.methodLink RJ2 224 Lib.Math.max.name, Cond.methodLink RJ2 183 Lib.Math.min.name, Cond.constant RJ2 227 (65536), Cond.methodLink RJ2 228 yJ2_indexOfChar_4cfef, Cond.static yJ2_indexOfChar_4cfef, Cond.code yJ2_indexOfChar_4cfef cJ2_indexOfChar_4cfef 4 (some .int), Cond.methodLink RJ2 96 yJ2_checkBoundsBeginEnd_d044e, Cond.static yJ2_checkBoundsBeginEnd_d044e, Cond.code yJ2_checkBoundsBeginEnd_d044e cJ2_checkBoundsBeginEnd_d044e 3 none, Cond.methodLink RJ2 48 yJ2_length_9d52b, Cond.static yJ2_length_9d52b, Cond.code yJ2_length_9d52b cJ2_length_9d52b 1 (some .int), Cond.methodLink RJ2 241 yJ0_checkBoundsBeginEnd_23922, Cond.static yJ0_checkBoundsBeginEnd_23922, Cond.code yJ0_checkBoundsBeginEnd_23922 cJ0_checkBoundsBeginEnd_23922 3 none, Cond.fieldLink RJ0 1053 "jdk/internal/util/Preconditions" "SIOOBE_FORMATTER" "Ljava/util/function/BiFunction;", Cond.methodLink RJ0 1062 yJ3_checkFromToIndex_8c36e, Cond.static yJ3_checkFromToIndex_8c36e, Cond.initialized RJ3, Cond.code yJ3_checkFromToIndex_8c36e cJ3_checkFromToIndex_8c36e 4 (some .int), Cond.methodLink RJ2 244 yJ2_indexOfCharUnsafe_4cfef]
def wsL_law0_r36 : List Cond := [Cond.static yJ2_indexOfCharUnsafe_4cfef, Cond.code yJ2_indexOfCharUnsafe_4cfef cJ2_indexOfCharUnsafe_4cfef 5 (some .int), Cond.methodLink RJ2 71 yJ2_getChar_3b067, Cond.static yJ2_getChar_3b067, Cond.code yJ2_getChar_3b067 cJ2_getChar_3b067 2 (some .char), Cond.fieldLink RJ2 44 "java/lang/StringUTF16" "$assertionsDisabled" "Z", Cond.fieldLink RJ2 59 "java/lang/StringUTF16" "HI_BYTE_SHIFT" "I", Cond.fieldLink RJ2 63 "java/lang/StringUTF16" "LO_BYTE_SHIFT" "I", Cond.methodLink RJ2 232 yJ2_indexOfSupplementary_4cfef, Cond.static yJ2_indexOfSupplementary_4cfef, Cond.code yJ2_indexOfSupplementary_4cfef cJ2_indexOfSupplementary_4cfef 7 (some .int), Cond.methodLink RJ2 164 yJ11_isValidCodePoint_9a6ad, Cond.static yJ11_isValidCodePoint_9a6ad, Cond.initialized RJ11, Cond.code yJ11_isValidCodePoint_9a6ad cJ11_isValidCodePoint_9a6ad 2 (some .boolean), Cond.methodLink RJ2 157 yJ11_highSurrogate_5068e, Cond.static yJ11_highSurrogate_5068e, Cond.code yJ11_highSurrogate_5068e cJ11_highSurrogate_5068e 1 (some .char), Cond.constant RJ11 110 (55232), Cond.methodLink RJ2 161 yJ11_lowSurrogate_5068e, Cond.static yJ11_lowSurrogate_5068e, Cond.code yJ11_lowSurrogate_5068e cJ11_lowSurrogate_5068e 1 (some .char), Cond.constant RJ11 76 (56320), Cond.methodLink RX5 51 yX5_readHeap]
def wsL_law0_r37 : List Cond := [Cond.instanceMethod yX5_readHeap, Cond.selects RX5 yX5_readHeap yX5_readHeap, Cond.code yX5_readHeap cX5_readHeap 2 (some .int), Cond.methodLink RX5 35 yX5_readSign, Cond.instanceMethod yX5_readSign, Cond.selects RX5 yX5_readSign yX5_readSign, Cond.code yX5_readSign cX5_readSign 2 (some .boolean), Cond.methodLink RX5 57 yJ0_charAt_5068e, Cond.instanceMethod yJ0_charAt_5068e, Cond.selects RJ0 yJ0_charAt_5068e yJ0_charAt_5068e, Cond.code yJ0_charAt_5068e cJ0_charAt_5068e 2 (some .char), Cond.methodLink RJ0 495 yJ1_charAt_3b067, Cond.static yJ1_charAt_3b067, Cond.code yJ1_charAt_3b067 cJ1_charAt_3b067 2 (some .char), Cond.methodLink RJ1 9 yJ0_checkIndex_df160, Cond.static yJ0_checkIndex_df160, Cond.code yJ0_checkIndex_df160 cJ0_checkIndex_df160 2 none, Cond.methodLink RJ0 1059 yJ3_checkIndex_8e157, Cond.static yJ3_checkIndex_8e157, Cond.code yJ3_checkIndex_8e157 cJ3_checkIndex_8e157 3 (some .int), Cond.methodLink RJ0 498 yJ2_charAt_3b067, Cond.static yJ2_charAt_3b067, Cond.code yJ2_charAt_3b067 cJ2_charAt_3b067 2 (some .char), Cond.methodLink RJ2 67 yJ2_checkIndex_2214a]
def wsL_law0_r38 : List Cond := [Cond.static yJ2_checkIndex_2214a, Cond.code yJ2_checkIndex_2214a cJ2_checkIndex_2214a 2 none, Cond.methodLink RJ2 414 yJ0_checkIndex_df160, Cond.methodLink RX5 61 yX5_readAmount, Cond.instanceMethod yX5_readAmount, Cond.selects RX5 yX5_readAmount yX5_readAmount, Cond.code yX5_readAmount cX5_readAmount 2 (some .int), Cond.methodLink RL 211 yX7_firstError, Cond.instanceMethod yX7_firstError, Cond.selects RX7 yX7_firstError yX7_firstError, Cond.code yX7_firstError cX7_firstError 1 (some .int), Cond.methodLink RX7 211 yX7_findError, Cond.instanceMethod yX7_findError, Cond.selects RX7 yX7_findError yX7_findError, Cond.code yX7_findError cX7_findError 1 (some .int), Cond.fieldLink RX7 180 "CairnGameModel" "at" "I", Cond.methodLink RX7 208 yX7_readsItem, Cond.instanceMethod yX7_readsItem, Cond.selects RX7 yX7_readsItem yX7_readsItem, Cond.code yX7_readsItem cX7_readsItem 2 (some .boolean), Cond.fieldLink RX7 196 "CairnGameModel" "kind" "I", Cond.fieldLink RX7 187 "CairnGameModel" "number" "I", Cond.fieldLink RX7 199 "CairnGameModel" "one" "I", Cond.methodLink RX7 183 yX7_accepts]
def wsL_law0_r39 : List Cond := [Cond.instanceMethod yX7_accepts, Cond.selects RX7 yX7_accepts yX7_accepts, Cond.code yX7_accepts cX7_accepts 4 (some .boolean), Cond.methodLink RX7 193 yX7_readsHeap, Cond.instanceMethod yX7_readsHeap, Cond.selects RX7 yX7_readsHeap yX7_readsHeap, Cond.code yX7_readsHeap cX7_readsHeap 1 (some .boolean), Cond.methodLink RX7 202 yX7_readsAmount, Cond.instanceMethod yX7_readsAmount, Cond.selects RX7 yX7_readsAmount yX7_readsAmount, Cond.code yX7_readsAmount cX7_readsAmount 3 (some .boolean), Cond.fieldLink RX7 190 "CairnGameModel" "other" "I", Cond.methodLink RX7 205 yX7_readsOther, Cond.instanceMethod yX7_readsOther, Cond.selects RX7 yX7_readsOther yX7_readsOther, Cond.code yX7_readsOther cX7_readsOther 2 (some .boolean), Cond.methodLink RL 212 yL_play, Cond.static yL_play, Cond.codeWith yL_play cL_play 3 (some .int) [(0, 8, 11, 15)], Cond.methodLink RL 57 yX6_play, Cond.instanceMethod yX6_play, Cond.selects RX6 yX6_play yX6_play, Cond.code yX6_play cX6_play 2 (some .int), Cond.fieldLink RX6 199 "CairnGame$Text" "at" "I"]
def wsL_law0_r40 : List Cond := [Cond.fieldLink RX6 206 "CairnGame$Text" "kind" "I", Cond.fieldLink RX6 209 "CairnGame$Text" "heap" "I", Cond.fieldLink RX6 212 "CairnGame$Text" "amount" "I", Cond.methodLink RX6 202 yX5_readItem, Cond.methodLink RX6 219 yX5_readSign, Cond.methodLink RL 215 yX7_play, Cond.instanceMethod yX7_play, Cond.selects RX7 yX7_play yX7_play, Cond.code yX7_play cX7_play 3 (some .int), Cond.methodLink RL 216 yL_undo, Cond.static yL_undo, Cond.codeWith yL_undo cL_undo 3 (some .int) [(0, 8, 11, 15)], Cond.methodLink RL 61 yX6_undo, Cond.instanceMethod yX6_undo, Cond.selects RX6 yX6_undo yX6_undo, Cond.code yX6_undo cX6_undo 1 (some .int), Cond.fieldLink RX6 223 "CairnGame$History" "count" "I", Cond.methodLink RX6 226 yX0_restore, Cond.instanceMethod yX0_restore, Cond.selects RX0 yX0_restore yX0_restore, Cond.code yX0_restore cX0_restore 2 none, Cond.methodLink RL 218 yX7_undo, Cond.instanceMethod yX7_undo, Cond.selects RX7 yX7_undo yX7_undo]
def wsL_law0_r41 : List Cond := [Cond.code yX7_undo cX7_undo 2 (some .int), Cond.methodLink RL 219 yX6_digest, Cond.instanceMethod yX6_digest, Cond.selects RX6 yX6_digest yX6_digest, Cond.code yX6_digest cX6_digest 4 (some .long), Cond.constantLong RX6 229 (165), Cond.methodLink RX6 231 yX6_heaps, Cond.methodLink RX6 233 yX6_mix, Cond.static yX6_mix, Cond.code yX6_mix cX6_mix 4 (some .long), Cond.constantLong RX6 274 (31), Cond.methodLink RX6 237 yX6_greatestTake, Cond.methodLink RX6 240 yX6_isSplitting, Cond.methodLink RX6 243 yX6_bit, Cond.methodLink RX6 247 yX6_isMerging, Cond.methodLink RX6 250 yX6_isNormal, Cond.methodLink RX6 253 yX6_winner, Cond.methodLink RX6 256 yX6_number, Cond.methodLink RX6 259 yX6_numberByHeaps, Cond.methodLink RX6 262 yX6_isWon, Cond.methodLink RX6 265 yX6_bestReply, Cond.methodLink RX6 268 yX6_longestGame, Cond.methodLink RX6 271 yX6_shortestGame, Cond.methodLink RL 223 yX7_digest]
def wsL_law0_r42 : List Cond := [Cond.instanceMethod yX7_digest, Cond.selects RX7 yX7_digest yX7_digest, Cond.code yX7_digest cX7_digest 4 (some .long), Cond.constantLong RX7 214 (165), Cond.constantLong RX7 216 (31)]
def wsL_law0 : List Cond := (wsL_law0_r1 ++ (wsL_law0_r2 ++ (wsL_law0_r3 ++ (wsL_law0_r4 ++ (wsL_law0_r5 ++ (wsL_law0_r6 ++ (wsL_law0_r7 ++ (wsL_law0_r8 ++ (wsL_law0_r9 ++ (wsL_law0_r10 ++ (wsL_law0_r11 ++ (wsL_law0_r12 ++ (wsL_law0_r13 ++ (wsL_law0_r14 ++ (wsL_law0_r15 ++ (wsL_law0_r16 ++ (wsL_law0_r17 ++ (wsL_law0_r18 ++ (wsL_law0_r19 ++ (wsL_law0_r20 ++ (wsL_law0_r21 ++ (wsL_law0_r22 ++ (wsL_law0_r23 ++ (wsL_law0_r24 ++ (wsL_law0_r25 ++ (wsL_law0_r26 ++ (wsL_law0_r27 ++ (wsL_law0_r28 ++ (wsL_law0_r29 ++ (wsL_law0_r30 ++ (wsL_law0_r31 ++ (wsL_law0_r32 ++ (wsL_law0_r33 ++ (wsL_law0_r34 ++ (wsL_law0_r35 ++ (wsL_law0_r36 ++ (wsL_law0_r37 ++ (wsL_law0_r38 ++ (wsL_law0_r39 ++ (wsL_law0_r40 ++ (wsL_law0_r41 ++ wsL_law0_r42))))))))))))))))))))))))))))))))))))))))) ++ wsX60 ++ wsX70 ++ wsX40 ++ wsX00 ++ wsX10 ++ wsX30 ++ wsX50 ++ wsX20 ++ ([] : List Cond)
def wsL_law : List Cond := wsL_law0 ++ (vx_atS RX6 59 "java/lang/IllegalArgumentException" ["java/lang/RuntimeException", "java/lang/Exception"]).filter goodWord ++ (vx_atS RX6 66 "java/lang/IllegalStateException" ["java/lang/RuntimeException", "java/lang/Exception"]).filter goodWord ++ (vx_atS RX6 287 "java/lang/IndexOutOfBoundsException" ["java/lang/RuntimeException", "java/lang/Exception"]).filter goodWord
theorem lwt_p {w : Cond} (h : w ∈ k2_sels lw_privs) : w ∈ lw_tbl := List.mem_append_left _ h
theorem lwt_t1 {w : Cond} (h : w ∈ tables_1_1) : w ∈ lw_tbl := List.mem_append_right _ (show w ∈ tables_1 from List.mem_append_left _ h)
theorem lwt_t2 {w : Cond} (h : w ∈ tables_1_2) : w ∈ lw_tbl := List.mem_append_right _ (show w ∈ tables_1 from List.mem_append_right _ (List.mem_append_left _ h))
theorem lwt_t3 {w : Cond} (h : w ∈ tables_1_3) : w ∈ lw_tbl := List.mem_append_right _ (show w ∈ tables_1 from List.mem_append_right _ (List.mem_append_right _ (List.mem_append_left _ h)))
theorem lwt_t4 {w : Cond} (h : w ∈ tables_1_4) : w ∈ lw_tbl := List.mem_append_right _ (show w ∈ tables_1 from List.mem_append_right _ (List.mem_append_right _ (List.mem_append_right _ (List.mem_append_left _ h))))
theorem lwt_t5 {w : Cond} (h : w ∈ tables_1_5) : w ∈ lw_tbl := List.mem_append_right _ (show w ∈ tables_1 from List.mem_append_right _ (List.mem_append_right _ (List.mem_append_right _ (List.mem_append_right _ (List.mem_append_left _ h)))))
theorem lwt_t6 {w : Cond} (h : w ∈ tables_1_6) : w ∈ lw_tbl := List.mem_append_right _ (show w ∈ tables_1 from List.mem_append_right _ (List.mem_append_right _ (List.mem_append_right _ (List.mem_append_right _ (List.mem_append_right _ (h))))))
set_option maxRecDepth 20000 in
theorem wsL_law0_r1_in : ∀ w ∈ wsL_law0_r1, w ∈ lw_tbl := List.forall_mem_cons.mpr ⟨lwt_t1 (List.mem_of_getElem? (i := 22) rfl), List.forall_mem_cons.mpr ⟨lwt_t1 (List.mem_of_getElem? (i := 23) rfl), List.forall_mem_cons.mpr ⟨lwt_t1 (List.mem_of_getElem? (i := 1) rfl), List.forall_mem_cons.mpr ⟨lwt_t4 (List.mem_of_getElem? (i := 126) rfl), List.forall_mem_cons.mpr ⟨lwt_t4 (List.mem_of_getElem? (i := 127) rfl), List.forall_mem_cons.mpr ⟨lwt_t1 (List.mem_of_getElem? (i := 7) rfl), List.forall_mem_cons.mpr ⟨lwt_t6 (List.mem_of_getElem? (i := 47) rfl), List.forall_mem_cons.mpr ⟨lwt_t1 (List.mem_of_getElem? (i := 24) rfl), List.forall_mem_cons.mpr ⟨lwt_t1 (List.mem_of_getElem? (i := 25) rfl), List.forall_mem_cons.mpr ⟨lwt_t1 (List.mem_of_getElem? (i := 26) rfl), List.forall_mem_cons.mpr ⟨lwt_t1 (List.mem_of_getElem? (i := 27) rfl), List.forall_mem_cons.mpr ⟨lwt_t1 (List.mem_of_getElem? (i := 28) rfl), List.forall_mem_cons.mpr ⟨lwt_t1 (List.mem_of_getElem? (i := 29) rfl), List.forall_mem_cons.mpr ⟨lwt_t1 (List.mem_of_getElem? (i := 30) rfl), List.forall_mem_cons.mpr ⟨lwt_t1 (List.mem_of_getElem? (i := 31) rfl), List.forall_mem_cons.mpr ⟨lwt_t1 (List.mem_of_getElem? (i := 2) rfl), List.forall_mem_cons.mpr ⟨lwt_t1 (List.mem_of_getElem? (i := 174) rfl), List.forall_mem_cons.mpr ⟨lwt_t1 (List.mem_of_getElem? (i := 72) rfl), List.forall_mem_cons.mpr ⟨lwt_t1 (List.mem_of_getElem? (i := 73) rfl), List.forall_mem_cons.mpr ⟨lwt_t1 (List.mem_of_getElem? (i := 3) rfl), List.forall_mem_cons.mpr ⟨lwt_t1 (List.mem_of_getElem? (i := 175) rfl), List.forall_mem_cons.mpr ⟨lwt_t1 (List.mem_of_getElem? (i := 92) rfl), List.forall_mem_cons.mpr ⟨lwt_t1 (List.mem_of_getElem? (i := 93) rfl), List.forall_mem_cons.mpr ⟨lwt_t1 (List.mem_of_getElem? (i := 4) rfl), fun _ h => absurd h List.not_mem_nil⟩⟩⟩⟩⟩⟩⟩⟩⟩⟩⟩⟩⟩⟩⟩⟩⟩⟩⟩⟩⟩⟩⟩⟩
set_option maxRecDepth 20000 in
theorem wsL_law0_r2_in : ∀ w ∈ wsL_law0_r2, w ∈ lw_tbl := List.forall_mem_cons.mpr ⟨lwt_t1 (List.mem_of_getElem? (i := 176) rfl), List.forall_mem_cons.mpr ⟨lwt_t1 (List.mem_of_getElem? (i := 121) rfl), List.forall_mem_cons.mpr ⟨lwt_t1 (List.mem_of_getElem? (i := 122) rfl), List.forall_mem_cons.mpr ⟨lwt_t1 (List.mem_of_getElem? (i := 5) rfl), List.forall_mem_cons.mpr ⟨lwt_t1 (List.mem_of_getElem? (i := 177) rfl), List.forall_mem_cons.mpr ⟨lwt_t1 (List.mem_of_getElem? (i := 143) rfl), List.forall_mem_cons.mpr ⟨lwt_t1 (List.mem_of_getElem? (i := 144) rfl), List.forall_mem_cons.mpr ⟨lwt_t1 (List.mem_of_getElem? (i := 6) rfl), List.forall_mem_cons.mpr ⟨lwt_t1 (List.mem_of_getElem? (i := 178) rfl), List.forall_mem_cons.mpr ⟨lwt_t1 (List.mem_of_getElem? (i := 33) rfl), List.forall_mem_cons.mpr ⟨lwt_t1 (List.mem_of_getElem? (i := 34) rfl), List.forall_mem_cons.mpr ⟨lwt_t1 (List.mem_of_getElem? (i := 35) rfl), List.forall_mem_cons.mpr ⟨lwt_t1 (List.mem_of_getElem? (i := 71) rfl), List.forall_mem_cons.mpr ⟨lwt_t1 (List.mem_of_getElem? (i := 36) rfl), List.forall_mem_cons.mpr ⟨lwt_t1 (List.mem_of_getElem? (i := 39) rfl), List.forall_mem_cons.mpr ⟨lwt_t1 (List.mem_of_getElem? (i := 43) rfl), List.forall_mem_cons.mpr ⟨lwt_t1 (List.mem_of_getElem? (i := 46) rfl), List.forall_mem_cons.mpr ⟨lwt_t1 (List.mem_of_getElem? (i := 49) rfl), List.forall_mem_cons.mpr ⟨lwt_t1 (List.mem_of_getElem? (i := 52) rfl), List.forall_mem_cons.mpr ⟨lwt_t1 (List.mem_of_getElem? (i := 54) rfl), List.forall_mem_cons.mpr ⟨lwt_t1 (List.mem_of_getElem? (i := 74) rfl), List.forall_mem_cons.mpr ⟨lwt_t1 (List.mem_of_getElem? (i := 75) rfl), List.forall_mem_cons.mpr ⟨lwt_t1 (List.mem_of_getElem? (i := 76) rfl), List.forall_mem_cons.mpr ⟨lwt_t1 (List.mem_of_getElem? (i := 77) rfl), fun _ h => absurd h List.not_mem_nil⟩⟩⟩⟩⟩⟩⟩⟩⟩⟩⟩⟩⟩⟩⟩⟩⟩⟩⟩⟩⟩⟩⟩⟩
set_option maxRecDepth 20000 in
theorem wsL_law0_r3_in : ∀ w ∈ wsL_law0_r3, w ∈ lw_tbl := List.forall_mem_cons.mpr ⟨lwt_t1 (List.mem_of_getElem? (i := 78) rfl), List.forall_mem_cons.mpr ⟨lwt_t1 (List.mem_of_getElem? (i := 81) rfl), List.forall_mem_cons.mpr ⟨lwt_t1 (List.mem_of_getElem? (i := 82) rfl), List.forall_mem_cons.mpr ⟨lwt_t1 (List.mem_of_getElem? (i := 83) rfl), List.forall_mem_cons.mpr ⟨lwt_t1 (List.mem_of_getElem? (i := 95) rfl), List.forall_mem_cons.mpr ⟨lwt_t1 (List.mem_of_getElem? (i := 96) rfl), List.forall_mem_cons.mpr ⟨lwt_t1 (List.mem_of_getElem? (i := 97) rfl), List.forall_mem_cons.mpr ⟨lwt_t1 (List.mem_of_getElem? (i := 98) rfl), List.forall_mem_cons.mpr ⟨lwt_t1 (List.mem_of_getElem? (i := 100) rfl), List.forall_mem_cons.mpr ⟨lwt_t1 (List.mem_of_getElem? (i := 102) rfl), List.forall_mem_cons.mpr ⟨lwt_t1 (List.mem_of_getElem? (i := 104) rfl), List.forall_mem_cons.mpr ⟨lwt_t1 (List.mem_of_getElem? (i := 107) rfl), List.forall_mem_cons.mpr ⟨lwt_t1 (List.mem_of_getElem? (i := 124) rfl), List.forall_mem_cons.mpr ⟨lwt_t1 (List.mem_of_getElem? (i := 125) rfl), List.forall_mem_cons.mpr ⟨lwt_t1 (List.mem_of_getElem? (i := 126) rfl), List.forall_mem_cons.mpr ⟨lwt_t1 (List.mem_of_getElem? (i := 127) rfl), List.forall_mem_cons.mpr ⟨lwt_t1 (List.mem_of_getElem? (i := 133) rfl), List.forall_mem_cons.mpr ⟨lwt_t1 (List.mem_of_getElem? (i := 129) rfl), List.forall_mem_cons.mpr ⟨lwt_t1 (List.mem_of_getElem? (i := 134) rfl), List.forall_mem_cons.mpr ⟨lwt_t1 (List.mem_of_getElem? (i := 131) rfl), List.forall_mem_cons.mpr ⟨lwt_t1 (List.mem_of_getElem? (i := 135) rfl), List.forall_mem_cons.mpr ⟨lwt_t1 (List.mem_of_getElem? (i := 146) rfl), List.forall_mem_cons.mpr ⟨lwt_t1 (List.mem_of_getElem? (i := 147) rfl), List.forall_mem_cons.mpr ⟨lwt_t1 (List.mem_of_getElem? (i := 148) rfl), fun _ h => absurd h List.not_mem_nil⟩⟩⟩⟩⟩⟩⟩⟩⟩⟩⟩⟩⟩⟩⟩⟩⟩⟩⟩⟩⟩⟩⟩⟩
set_option maxRecDepth 20000 in
theorem wsL_law0_r4_in : ∀ w ∈ wsL_law0_r4, w ∈ lw_tbl := List.forall_mem_cons.mpr ⟨lwt_t1 (List.mem_of_getElem? (i := 173) rfl), List.forall_mem_cons.mpr ⟨lwt_t1 (List.mem_of_getElem? (i := 149) rfl), List.forall_mem_cons.mpr ⟨lwt_t1 (List.mem_of_getElem? (i := 150) rfl), List.forall_mem_cons.mpr ⟨lwt_t1 (List.mem_of_getElem? (i := 152) rfl), List.forall_mem_cons.mpr ⟨lwt_t1 (List.mem_of_getElem? (i := 154) rfl), List.forall_mem_cons.mpr ⟨lwt_t1 (List.mem_of_getElem? (i := 156) rfl), List.forall_mem_cons.mpr ⟨lwt_t1 (List.mem_of_getElem? (i := 158) rfl), List.forall_mem_cons.mpr ⟨lwt_t4 (List.mem_of_getElem? (i := 128) rfl), List.forall_mem_cons.mpr ⟨lwt_t4 (List.mem_of_getElem? (i := 129) rfl), List.forall_mem_cons.mpr ⟨lwt_t4 (List.mem_of_getElem? (i := 130) rfl), List.forall_mem_cons.mpr ⟨lwt_t4 (List.mem_of_getElem? (i := 131) rfl), List.forall_mem_cons.mpr ⟨lwt_t4 (List.mem_of_getElem? (i := 141) rfl), List.forall_mem_cons.mpr ⟨lwt_t4 (List.mem_of_getElem? (i := 142) rfl), List.forall_mem_cons.mpr ⟨lwt_t4 (List.mem_of_getElem? (i := 144) rfl), List.forall_mem_cons.mpr ⟨lwt_t4 (List.mem_of_getElem? (i := 146) rfl), List.forall_mem_cons.mpr ⟨lwt_t4 (List.mem_of_getElem? (i := 147) rfl), List.forall_mem_cons.mpr ⟨lwt_t4 (List.mem_of_getElem? (i := 149) rfl), List.forall_mem_cons.mpr ⟨lwt_t4 (List.mem_of_getElem? (i := 150) rfl), List.forall_mem_cons.mpr ⟨lwt_t4 (List.mem_of_getElem? (i := 151) rfl), List.forall_mem_cons.mpr ⟨lwt_t4 (List.mem_of_getElem? (i := 152) rfl), List.forall_mem_cons.mpr ⟨lwt_t4 (List.mem_of_getElem? (i := 154) rfl), List.forall_mem_cons.mpr ⟨lwt_t4 (List.mem_of_getElem? (i := 156) rfl), List.forall_mem_cons.mpr ⟨lwt_t4 (List.mem_of_getElem? (i := 157) rfl), List.forall_mem_cons.mpr ⟨lwt_t4 (List.mem_of_getElem? (i := 158) rfl), fun _ h => absurd h List.not_mem_nil⟩⟩⟩⟩⟩⟩⟩⟩⟩⟩⟩⟩⟩⟩⟩⟩⟩⟩⟩⟩⟩⟩⟩⟩
set_option maxRecDepth 20000 in
theorem wsL_law0_r5_in : ∀ w ∈ wsL_law0_r5, w ∈ lw_tbl := List.forall_mem_cons.mpr ⟨lwt_t4 (List.mem_of_getElem? (i := 160) rfl), List.forall_mem_cons.mpr ⟨lwt_t4 (List.mem_of_getElem? (i := 148) rfl), List.forall_mem_cons.mpr ⟨lwt_t4 (List.mem_of_getElem? (i := 132) rfl), List.forall_mem_cons.mpr ⟨lwt_t4 (List.mem_of_getElem? (i := 134) rfl), List.forall_mem_cons.mpr ⟨lwt_p (List.mem_of_getElem? (i := 16) rfl), List.forall_mem_cons.mpr ⟨lwt_t4 (List.mem_of_getElem? (i := 135) rfl), List.forall_mem_cons.mpr ⟨lwt_t4 (List.mem_of_getElem? (i := 136) rfl), List.forall_mem_cons.mpr ⟨lwt_t4 (List.mem_of_getElem? (i := 138) rfl), List.forall_mem_cons.mpr ⟨lwt_p (List.mem_of_getElem? (i := 17) rfl), List.forall_mem_cons.mpr ⟨lwt_t4 (List.mem_of_getElem? (i := 139) rfl), List.forall_mem_cons.mpr ⟨lwt_t1 (List.mem_of_getElem? (i := 190) rfl), List.forall_mem_cons.mpr ⟨lwt_t1 (List.mem_of_getElem? (i := 191) rfl), List.forall_mem_cons.mpr ⟨lwt_t1 (List.mem_of_getElem? (i := 192) rfl), List.forall_mem_cons.mpr ⟨lwt_t1 (List.mem_of_getElem? (i := 193) rfl), List.forall_mem_cons.mpr ⟨lwt_t1 (List.mem_of_getElem? (i := 194) rfl), List.forall_mem_cons.mpr ⟨lwt_t1 (List.mem_of_getElem? (i := 195) rfl), List.forall_mem_cons.mpr ⟨lwt_t1 (List.mem_of_getElem? (i := 196) rfl), List.forall_mem_cons.mpr ⟨lwt_t1 (List.mem_of_getElem? (i := 197) rfl), List.forall_mem_cons.mpr ⟨lwt_t1 (List.mem_of_getElem? (i := 205) rfl), List.forall_mem_cons.mpr ⟨lwt_t1 (List.mem_of_getElem? (i := 206) rfl), List.forall_mem_cons.mpr ⟨lwt_t1 (List.mem_of_getElem? (i := 9) rfl), List.forall_mem_cons.mpr ⟨lwt_t1 (List.mem_of_getElem? (i := 207) rfl), List.forall_mem_cons.mpr ⟨lwt_t1 (List.mem_of_getElem? (i := 198) rfl), List.forall_mem_cons.mpr ⟨lwt_t1 (List.mem_of_getElem? (i := 199) rfl), fun _ h => absurd h List.not_mem_nil⟩⟩⟩⟩⟩⟩⟩⟩⟩⟩⟩⟩⟩⟩⟩⟩⟩⟩⟩⟩⟩⟩⟩⟩
set_option maxRecDepth 20000 in
theorem wsL_law0_r6_in : ∀ w ∈ wsL_law0_r6, w ∈ lw_tbl := List.forall_mem_cons.mpr ⟨lwt_t1 (List.mem_of_getElem? (i := 200) rfl), List.forall_mem_cons.mpr ⟨lwt_t1 (List.mem_of_getElem? (i := 201) rfl), List.forall_mem_cons.mpr ⟨lwt_t1 (List.mem_of_getElem? (i := 202) rfl), List.forall_mem_cons.mpr ⟨lwt_t1 (List.mem_of_getElem? (i := 204) rfl), List.forall_mem_cons.mpr ⟨lwt_t1 (List.mem_of_getElem? (i := 203) rfl), List.forall_mem_cons.mpr ⟨lwt_t1 (List.mem_of_getElem? (i := 8) rfl), List.forall_mem_cons.mpr ⟨lwt_t1 (List.mem_of_getElem? (i := 208) rfl), List.forall_mem_cons.mpr ⟨lwt_t1 (List.mem_of_getElem? (i := 209) rfl), List.forall_mem_cons.mpr ⟨lwt_t1 (List.mem_of_getElem? (i := 210) rfl), List.forall_mem_cons.mpr ⟨lwt_t1 (List.mem_of_getElem? (i := 211) rfl), List.forall_mem_cons.mpr ⟨lwt_t1 (List.mem_of_getElem? (i := 212) rfl), List.forall_mem_cons.mpr ⟨lwt_t1 (List.mem_of_getElem? (i := 213) rfl), List.forall_mem_cons.mpr ⟨lwt_t1 (List.mem_of_getElem? (i := 214) rfl), List.forall_mem_cons.mpr ⟨lwt_t1 (List.mem_of_getElem? (i := 215) rfl), List.forall_mem_cons.mpr ⟨lwt_t4 (List.mem_of_getElem? (i := 226) rfl), List.forall_mem_cons.mpr ⟨lwt_t4 (List.mem_of_getElem? (i := 227) rfl), List.forall_mem_cons.mpr ⟨lwt_t4 (List.mem_of_getElem? (i := 228) rfl), List.forall_mem_cons.mpr ⟨lwt_t4 (List.mem_of_getElem? (i := 229) rfl), List.forall_mem_cons.mpr ⟨lwt_t4 (List.mem_of_getElem? (i := 140) rfl), List.forall_mem_cons.mpr ⟨lwt_t4 (List.mem_of_getElem? (i := 230) rfl), List.forall_mem_cons.mpr ⟨lwt_t4 (List.mem_of_getElem? (i := 232) rfl), List.forall_mem_cons.mpr ⟨lwt_p (List.mem_of_getElem? (i := 18) rfl), List.forall_mem_cons.mpr ⟨lwt_t4 (List.mem_of_getElem? (i := 233) rfl), List.forall_mem_cons.mpr ⟨lwt_t4 (List.mem_of_getElem? (i := 143) rfl), fun _ h => absurd h List.not_mem_nil⟩⟩⟩⟩⟩⟩⟩⟩⟩⟩⟩⟩⟩⟩⟩⟩⟩⟩⟩⟩⟩⟩⟩⟩
set_option maxRecDepth 20000 in
theorem wsL_law0_r7_in : ∀ w ∈ wsL_law0_r7, w ∈ lw_tbl := List.forall_mem_cons.mpr ⟨lwt_t4 (List.mem_of_getElem? (i := 234) rfl), List.forall_mem_cons.mpr ⟨lwt_t4 (List.mem_of_getElem? (i := 236) rfl), List.forall_mem_cons.mpr ⟨lwt_p (List.mem_of_getElem? (i := 19) rfl), List.forall_mem_cons.mpr ⟨lwt_t4 (List.mem_of_getElem? (i := 237) rfl), List.forall_mem_cons.mpr ⟨lwt_t3 (List.mem_of_getElem? (i := 104) rfl), List.forall_mem_cons.mpr ⟨lwt_t3 (List.mem_of_getElem? (i := 105) rfl), List.forall_mem_cons.mpr ⟨lwt_t1 (List.mem_of_getElem? (i := 0) rfl), List.forall_mem_cons.mpr ⟨lwt_t3 (List.mem_of_getElem? (i := 106) rfl), List.forall_mem_cons.mpr ⟨lwt_t3 (List.mem_of_getElem? (i := 107) rfl), List.forall_mem_cons.mpr ⟨lwt_t3 (List.mem_of_getElem? (i := 108) rfl), List.forall_mem_cons.mpr ⟨lwt_t3 (List.mem_of_getElem? (i := 109) rfl), List.forall_mem_cons.mpr ⟨lwt_t3 (List.mem_of_getElem? (i := 110) rfl), List.forall_mem_cons.mpr ⟨lwt_t3 (List.mem_of_getElem? (i := 111) rfl), List.forall_mem_cons.mpr ⟨lwt_t3 (List.mem_of_getElem? (i := 112) rfl), List.forall_mem_cons.mpr ⟨lwt_t3 (List.mem_of_getElem? (i := 113) rfl), List.forall_mem_cons.mpr ⟨lwt_t1 (List.mem_of_getElem? (i := 13) rfl), List.forall_mem_cons.mpr ⟨lwt_t3 (List.mem_of_getElem? (i := 180) rfl), List.forall_mem_cons.mpr ⟨lwt_t1 (List.mem_of_getElem? (i := 14) rfl), List.forall_mem_cons.mpr ⟨lwt_t1 (List.mem_of_getElem? (i := 41) rfl), List.forall_mem_cons.mpr ⟨lwt_t3 (List.mem_of_getElem? (i := 196) rfl), List.forall_mem_cons.mpr ⟨lwt_t2 (List.mem_of_getElem? (i := 117) rfl), List.forall_mem_cons.mpr ⟨lwt_t2 (List.mem_of_getElem? (i := 118) rfl), List.forall_mem_cons.mpr ⟨lwt_t2 (List.mem_of_getElem? (i := 119) rfl), List.forall_mem_cons.mpr ⟨lwt_t4 (List.mem_of_getElem? (i := 238) rfl), fun _ h => absurd h List.not_mem_nil⟩⟩⟩⟩⟩⟩⟩⟩⟩⟩⟩⟩⟩⟩⟩⟩⟩⟩⟩⟩⟩⟩⟩⟩
set_option maxRecDepth 20000 in
theorem wsL_law0_r8_in : ∀ w ∈ wsL_law0_r8, w ∈ lw_tbl := List.forall_mem_cons.mpr ⟨lwt_t4 (List.mem_of_getElem? (i := 239) rfl), List.forall_mem_cons.mpr ⟨lwt_t5 (List.mem_of_getElem? (i := 0) rfl), List.forall_mem_cons.mpr ⟨lwt_t5 (List.mem_of_getElem? (i := 1) rfl), List.forall_mem_cons.mpr ⟨lwt_t5 (List.mem_of_getElem? (i := 2) rfl), List.forall_mem_cons.mpr ⟨lwt_t5 (List.mem_of_getElem? (i := 3) rfl), List.forall_mem_cons.mpr ⟨lwt_t5 (List.mem_of_getElem? (i := 4) rfl), List.forall_mem_cons.mpr ⟨lwt_t4 (List.mem_of_getElem? (i := 222) rfl), List.forall_mem_cons.mpr ⟨lwt_t4 (List.mem_of_getElem? (i := 223) rfl), List.forall_mem_cons.mpr ⟨lwt_t4 (List.mem_of_getElem? (i := 224) rfl), List.forall_mem_cons.mpr ⟨lwt_t4 (List.mem_of_getElem? (i := 225) rfl), List.forall_mem_cons.mpr ⟨lwt_t3 (List.mem_of_getElem? (i := 197) rfl), List.forall_mem_cons.mpr ⟨lwt_t3 (List.mem_of_getElem? (i := 198) rfl), List.forall_mem_cons.mpr ⟨lwt_t3 (List.mem_of_getElem? (i := 199) rfl), List.forall_mem_cons.mpr ⟨lwt_t3 (List.mem_of_getElem? (i := 200) rfl), List.forall_mem_cons.mpr ⟨lwt_t3 (List.mem_of_getElem? (i := 201) rfl), List.forall_mem_cons.mpr ⟨lwt_t3 (List.mem_of_getElem? (i := 202) rfl), List.forall_mem_cons.mpr ⟨lwt_t3 (List.mem_of_getElem? (i := 203) rfl), List.forall_mem_cons.mpr ⟨lwt_t1 (List.mem_of_getElem? (i := 45) rfl), List.forall_mem_cons.mpr ⟨lwt_t5 (List.mem_of_getElem? (i := 5) rfl), List.forall_mem_cons.mpr ⟨lwt_t5 (List.mem_of_getElem? (i := 6) rfl), List.forall_mem_cons.mpr ⟨lwt_t5 (List.mem_of_getElem? (i := 7) rfl), List.forall_mem_cons.mpr ⟨lwt_t5 (List.mem_of_getElem? (i := 8) rfl), List.forall_mem_cons.mpr ⟨lwt_t1 (List.mem_of_getElem? (i := 216) rfl), List.forall_mem_cons.mpr ⟨lwt_t1 (List.mem_of_getElem? (i := 217) rfl), fun _ h => absurd h List.not_mem_nil⟩⟩⟩⟩⟩⟩⟩⟩⟩⟩⟩⟩⟩⟩⟩⟩⟩⟩⟩⟩⟩⟩⟩⟩
set_option maxRecDepth 20000 in
theorem wsL_law0_r9_in : ∀ w ∈ wsL_law0_r9, w ∈ lw_tbl := List.forall_mem_cons.mpr ⟨lwt_t1 (List.mem_of_getElem? (i := 218) rfl), List.forall_mem_cons.mpr ⟨lwt_t1 (List.mem_of_getElem? (i := 219) rfl), List.forall_mem_cons.mpr ⟨lwt_t1 (List.mem_of_getElem? (i := 48) rfl), List.forall_mem_cons.mpr ⟨lwt_t5 (List.mem_of_getElem? (i := 9) rfl), List.forall_mem_cons.mpr ⟨lwt_t5 (List.mem_of_getElem? (i := 10) rfl), List.forall_mem_cons.mpr ⟨lwt_t5 (List.mem_of_getElem? (i := 11) rfl), List.forall_mem_cons.mpr ⟨lwt_t5 (List.mem_of_getElem? (i := 12) rfl), List.forall_mem_cons.mpr ⟨lwt_t5 (List.mem_of_getElem? (i := 13) rfl), List.forall_mem_cons.mpr ⟨lwt_t5 (List.mem_of_getElem? (i := 15) rfl), List.forall_mem_cons.mpr ⟨lwt_p (List.mem_of_getElem? (i := 20) rfl), List.forall_mem_cons.mpr ⟨lwt_t5 (List.mem_of_getElem? (i := 16) rfl), List.forall_mem_cons.mpr ⟨lwt_t1 (List.mem_of_getElem? (i := 220) rfl), List.forall_mem_cons.mpr ⟨lwt_t1 (List.mem_of_getElem? (i := 221) rfl), List.forall_mem_cons.mpr ⟨lwt_t1 (List.mem_of_getElem? (i := 222) rfl), List.forall_mem_cons.mpr ⟨lwt_t1 (List.mem_of_getElem? (i := 223) rfl), List.forall_mem_cons.mpr ⟨lwt_t1 (List.mem_of_getElem? (i := 51) rfl), List.forall_mem_cons.mpr ⟨lwt_t5 (List.mem_of_getElem? (i := 17) rfl), List.forall_mem_cons.mpr ⟨lwt_t5 (List.mem_of_getElem? (i := 18) rfl), List.forall_mem_cons.mpr ⟨lwt_t5 (List.mem_of_getElem? (i := 19) rfl), List.forall_mem_cons.mpr ⟨lwt_t5 (List.mem_of_getElem? (i := 20) rfl), List.forall_mem_cons.mpr ⟨lwt_t1 (List.mem_of_getElem? (i := 224) rfl), List.forall_mem_cons.mpr ⟨lwt_t1 (List.mem_of_getElem? (i := 225) rfl), List.forall_mem_cons.mpr ⟨lwt_t1 (List.mem_of_getElem? (i := 226) rfl), List.forall_mem_cons.mpr ⟨lwt_t1 (List.mem_of_getElem? (i := 227) rfl), fun _ h => absurd h List.not_mem_nil⟩⟩⟩⟩⟩⟩⟩⟩⟩⟩⟩⟩⟩⟩⟩⟩⟩⟩⟩⟩⟩⟩⟩⟩
set_option maxRecDepth 20000 in
theorem wsL_law0_r10_in : ∀ w ∈ wsL_law0_r10, w ∈ lw_tbl := List.forall_mem_cons.mpr ⟨lwt_t1 (List.mem_of_getElem? (i := 53) rfl), List.forall_mem_cons.mpr ⟨lwt_t5 (List.mem_of_getElem? (i := 21) rfl), List.forall_mem_cons.mpr ⟨lwt_t5 (List.mem_of_getElem? (i := 22) rfl), List.forall_mem_cons.mpr ⟨lwt_t5 (List.mem_of_getElem? (i := 23) rfl), List.forall_mem_cons.mpr ⟨lwt_t5 (List.mem_of_getElem? (i := 24) rfl), List.forall_mem_cons.mpr ⟨lwt_t3 (List.mem_of_getElem? (i := 205) rfl), List.forall_mem_cons.mpr ⟨lwt_t3 (List.mem_of_getElem? (i := 206) rfl), List.forall_mem_cons.mpr ⟨lwt_t3 (List.mem_of_getElem? (i := 207) rfl), List.forall_mem_cons.mpr ⟨lwt_t3 (List.mem_of_getElem? (i := 208) rfl), List.forall_mem_cons.mpr ⟨lwt_t3 (List.mem_of_getElem? (i := 209) rfl), List.forall_mem_cons.mpr ⟨lwt_t3 (List.mem_of_getElem? (i := 210) rfl), List.forall_mem_cons.mpr ⟨lwt_t3 (List.mem_of_getElem? (i := 211) rfl), List.forall_mem_cons.mpr ⟨lwt_t3 (List.mem_of_getElem? (i := 212) rfl), List.forall_mem_cons.mpr ⟨lwt_t3 (List.mem_of_getElem? (i := 213) rfl), List.forall_mem_cons.mpr ⟨lwt_t3 (List.mem_of_getElem? (i := 215) rfl), List.forall_mem_cons.mpr ⟨lwt_p (List.mem_of_getElem? (i := 13) rfl), List.forall_mem_cons.mpr ⟨lwt_t3 (List.mem_of_getElem? (i := 216) rfl), List.forall_mem_cons.mpr ⟨lwt_t3 (List.mem_of_getElem? (i := 218) rfl), List.forall_mem_cons.mpr ⟨lwt_t1 (List.mem_of_getElem? (i := 15) rfl), List.forall_mem_cons.mpr ⟨lwt_t3 (List.mem_of_getElem? (i := 217) rfl), List.forall_mem_cons.mpr ⟨lwt_t2 (List.mem_of_getElem? (i := 147) rfl), List.forall_mem_cons.mpr ⟨lwt_t2 (List.mem_of_getElem? (i := 148) rfl), List.forall_mem_cons.mpr ⟨lwt_t2 (List.mem_of_getElem? (i := 149) rfl), List.forall_mem_cons.mpr ⟨lwt_t3 (List.mem_of_getElem? (i := 235) rfl), fun _ h => absurd h List.not_mem_nil⟩⟩⟩⟩⟩⟩⟩⟩⟩⟩⟩⟩⟩⟩⟩⟩⟩⟩⟩⟩⟩⟩⟩⟩
set_option maxRecDepth 20000 in
theorem wsL_law0_r11_in : ∀ w ∈ wsL_law0_r11, w ∈ lw_tbl := List.forall_mem_cons.mpr ⟨lwt_t3 (List.mem_of_getElem? (i := 237) rfl), List.forall_mem_cons.mpr ⟨lwt_p (List.mem_of_getElem? (i := 14) rfl), List.forall_mem_cons.mpr ⟨lwt_t3 (List.mem_of_getElem? (i := 238) rfl), List.forall_mem_cons.mpr ⟨lwt_t3 (List.mem_of_getElem? (i := 239) rfl), List.forall_mem_cons.mpr ⟨lwt_t4 (List.mem_of_getElem? (i := 0) rfl), List.forall_mem_cons.mpr ⟨lwt_t4 (List.mem_of_getElem? (i := 1) rfl), List.forall_mem_cons.mpr ⟨lwt_t4 (List.mem_of_getElem? (i := 2) rfl), List.forall_mem_cons.mpr ⟨lwt_t2 (List.mem_of_getElem? (i := 146) rfl), List.forall_mem_cons.mpr ⟨lwt_t4 (List.mem_of_getElem? (i := 4) rfl), List.forall_mem_cons.mpr ⟨lwt_t4 (List.mem_of_getElem? (i := 5) rfl), List.forall_mem_cons.mpr ⟨lwt_t4 (List.mem_of_getElem? (i := 6) rfl), List.forall_mem_cons.mpr ⟨lwt_t4 (List.mem_of_getElem? (i := 7) rfl), List.forall_mem_cons.mpr ⟨lwt_t4 (List.mem_of_getElem? (i := 17) rfl), List.forall_mem_cons.mpr ⟨lwt_t4 (List.mem_of_getElem? (i := 18) rfl), List.forall_mem_cons.mpr ⟨lwt_t2 (List.mem_of_getElem? (i := 127) rfl), List.forall_mem_cons.mpr ⟨lwt_t2 (List.mem_of_getElem? (i := 128) rfl), List.forall_mem_cons.mpr ⟨lwt_t4 (List.mem_of_getElem? (i := 8) rfl), List.forall_mem_cons.mpr ⟨lwt_t4 (List.mem_of_getElem? (i := 9) rfl), List.forall_mem_cons.mpr ⟨lwt_t4 (List.mem_of_getElem? (i := 10) rfl), List.forall_mem_cons.mpr ⟨lwt_t4 (List.mem_of_getElem? (i := 11) rfl), List.forall_mem_cons.mpr ⟨lwt_t4 (List.mem_of_getElem? (i := 12) rfl), List.forall_mem_cons.mpr ⟨lwt_t4 (List.mem_of_getElem? (i := 13) rfl), List.forall_mem_cons.mpr ⟨lwt_t4 (List.mem_of_getElem? (i := 14) rfl), List.forall_mem_cons.mpr ⟨lwt_t4 (List.mem_of_getElem? (i := 15) rfl), fun _ h => absurd h List.not_mem_nil⟩⟩⟩⟩⟩⟩⟩⟩⟩⟩⟩⟩⟩⟩⟩⟩⟩⟩⟩⟩⟩⟩⟩⟩
set_option maxRecDepth 20000 in
theorem wsL_law0_r12_in : ∀ w ∈ wsL_law0_r12, w ∈ lw_tbl := List.forall_mem_cons.mpr ⟨lwt_t4 (List.mem_of_getElem? (i := 16) rfl), List.forall_mem_cons.mpr ⟨lwt_t5 (List.mem_of_getElem? (i := 25) rfl), List.forall_mem_cons.mpr ⟨lwt_t5 (List.mem_of_getElem? (i := 26) rfl), List.forall_mem_cons.mpr ⟨lwt_t5 (List.mem_of_getElem? (i := 27) rfl), List.forall_mem_cons.mpr ⟨lwt_t5 (List.mem_of_getElem? (i := 28) rfl), List.forall_mem_cons.mpr ⟨lwt_t5 (List.mem_of_getElem? (i := 29) rfl), List.forall_mem_cons.mpr ⟨lwt_t5 (List.mem_of_getElem? (i := 31) rfl), List.forall_mem_cons.mpr ⟨lwt_p (List.mem_of_getElem? (i := 21) rfl), List.forall_mem_cons.mpr ⟨lwt_t5 (List.mem_of_getElem? (i := 32) rfl), List.forall_mem_cons.mpr ⟨lwt_t5 (List.mem_of_getElem? (i := 33) rfl), List.forall_mem_cons.mpr ⟨lwt_t5 (List.mem_of_getElem? (i := 35) rfl), List.forall_mem_cons.mpr ⟨lwt_p (List.mem_of_getElem? (i := 22) rfl), List.forall_mem_cons.mpr ⟨lwt_t5 (List.mem_of_getElem? (i := 36) rfl), List.forall_mem_cons.mpr ⟨lwt_t5 (List.mem_of_getElem? (i := 37) rfl), List.forall_mem_cons.mpr ⟨lwt_t5 (List.mem_of_getElem? (i := 39) rfl), List.forall_mem_cons.mpr ⟨lwt_p (List.mem_of_getElem? (i := 23) rfl), List.forall_mem_cons.mpr ⟨lwt_t5 (List.mem_of_getElem? (i := 40) rfl), List.forall_mem_cons.mpr ⟨lwt_t4 (List.mem_of_getElem? (i := 161) rfl), List.forall_mem_cons.mpr ⟨lwt_t5 (List.mem_of_getElem? (i := 41) rfl), List.forall_mem_cons.mpr ⟨lwt_t5 (List.mem_of_getElem? (i := 43) rfl), List.forall_mem_cons.mpr ⟨lwt_p (List.mem_of_getElem? (i := 24) rfl), List.forall_mem_cons.mpr ⟨lwt_t5 (List.mem_of_getElem? (i := 44) rfl), List.forall_mem_cons.mpr ⟨lwt_t4 (List.mem_of_getElem? (i := 155) rfl), List.forall_mem_cons.mpr ⟨lwt_t5 (List.mem_of_getElem? (i := 45) rfl), fun _ h => absurd h List.not_mem_nil⟩⟩⟩⟩⟩⟩⟩⟩⟩⟩⟩⟩⟩⟩⟩⟩⟩⟩⟩⟩⟩⟩⟩⟩
set_option maxRecDepth 20000 in
theorem wsL_law0_r13_in : ∀ w ∈ wsL_law0_r13, w ∈ lw_tbl := List.forall_mem_cons.mpr ⟨lwt_t5 (List.mem_of_getElem? (i := 47) rfl), List.forall_mem_cons.mpr ⟨lwt_p (List.mem_of_getElem? (i := 25) rfl), List.forall_mem_cons.mpr ⟨lwt_t5 (List.mem_of_getElem? (i := 48) rfl), List.forall_mem_cons.mpr ⟨lwt_t4 (List.mem_of_getElem? (i := 153) rfl), List.forall_mem_cons.mpr ⟨lwt_t5 (List.mem_of_getElem? (i := 49) rfl), List.forall_mem_cons.mpr ⟨lwt_t5 (List.mem_of_getElem? (i := 51) rfl), List.forall_mem_cons.mpr ⟨lwt_p (List.mem_of_getElem? (i := 26) rfl), List.forall_mem_cons.mpr ⟨lwt_t5 (List.mem_of_getElem? (i := 52) rfl), List.forall_mem_cons.mpr ⟨lwt_t4 (List.mem_of_getElem? (i := 159) rfl), List.forall_mem_cons.mpr ⟨lwt_t5 (List.mem_of_getElem? (i := 53) rfl), List.forall_mem_cons.mpr ⟨lwt_t5 (List.mem_of_getElem? (i := 55) rfl), List.forall_mem_cons.mpr ⟨lwt_p (List.mem_of_getElem? (i := 27) rfl), List.forall_mem_cons.mpr ⟨lwt_t5 (List.mem_of_getElem? (i := 56) rfl), List.forall_mem_cons.mpr ⟨lwt_t5 (List.mem_of_getElem? (i := 57) rfl), List.forall_mem_cons.mpr ⟨lwt_t5 (List.mem_of_getElem? (i := 59) rfl), List.forall_mem_cons.mpr ⟨lwt_p (List.mem_of_getElem? (i := 28) rfl), List.forall_mem_cons.mpr ⟨lwt_t5 (List.mem_of_getElem? (i := 60) rfl), List.forall_mem_cons.mpr ⟨lwt_t5 (List.mem_of_getElem? (i := 61) rfl), List.forall_mem_cons.mpr ⟨lwt_t5 (List.mem_of_getElem? (i := 63) rfl), List.forall_mem_cons.mpr ⟨lwt_p (List.mem_of_getElem? (i := 29) rfl), List.forall_mem_cons.mpr ⟨lwt_t5 (List.mem_of_getElem? (i := 64) rfl), List.forall_mem_cons.mpr ⟨lwt_t5 (List.mem_of_getElem? (i := 65) rfl), List.forall_mem_cons.mpr ⟨lwt_t5 (List.mem_of_getElem? (i := 67) rfl), List.forall_mem_cons.mpr ⟨lwt_p (List.mem_of_getElem? (i := 30) rfl), fun _ h => absurd h List.not_mem_nil⟩⟩⟩⟩⟩⟩⟩⟩⟩⟩⟩⟩⟩⟩⟩⟩⟩⟩⟩⟩⟩⟩⟩⟩
set_option maxRecDepth 20000 in
theorem wsL_law0_r14_in : ∀ w ∈ wsL_law0_r14, w ∈ lw_tbl := List.forall_mem_cons.mpr ⟨lwt_t5 (List.mem_of_getElem? (i := 68) rfl), List.forall_mem_cons.mpr ⟨lwt_t5 (List.mem_of_getElem? (i := 69) rfl), List.forall_mem_cons.mpr ⟨lwt_t5 (List.mem_of_getElem? (i := 71) rfl), List.forall_mem_cons.mpr ⟨lwt_p (List.mem_of_getElem? (i := 31) rfl), List.forall_mem_cons.mpr ⟨lwt_t5 (List.mem_of_getElem? (i := 72) rfl), List.forall_mem_cons.mpr ⟨lwt_t5 (List.mem_of_getElem? (i := 73) rfl), List.forall_mem_cons.mpr ⟨lwt_t5 (List.mem_of_getElem? (i := 75) rfl), List.forall_mem_cons.mpr ⟨lwt_p (List.mem_of_getElem? (i := 32) rfl), List.forall_mem_cons.mpr ⟨lwt_t5 (List.mem_of_getElem? (i := 76) rfl), List.forall_mem_cons.mpr ⟨lwt_t5 (List.mem_of_getElem? (i := 77) rfl), List.forall_mem_cons.mpr ⟨lwt_t5 (List.mem_of_getElem? (i := 79) rfl), List.forall_mem_cons.mpr ⟨lwt_p (List.mem_of_getElem? (i := 33) rfl), List.forall_mem_cons.mpr ⟨lwt_t5 (List.mem_of_getElem? (i := 80) rfl), List.forall_mem_cons.mpr ⟨lwt_t4 (List.mem_of_getElem? (i := 19) rfl), List.forall_mem_cons.mpr ⟨lwt_t4 (List.mem_of_getElem? (i := 20) rfl), List.forall_mem_cons.mpr ⟨lwt_t4 (List.mem_of_getElem? (i := 21) rfl), List.forall_mem_cons.mpr ⟨lwt_t4 (List.mem_of_getElem? (i := 22) rfl), List.forall_mem_cons.mpr ⟨lwt_t4 (List.mem_of_getElem? (i := 23) rfl), List.forall_mem_cons.mpr ⟨lwt_t4 (List.mem_of_getElem? (i := 24) rfl), List.forall_mem_cons.mpr ⟨lwt_t4 (List.mem_of_getElem? (i := 25) rfl), List.forall_mem_cons.mpr ⟨lwt_t5 (List.mem_of_getElem? (i := 81) rfl), List.forall_mem_cons.mpr ⟨lwt_t5 (List.mem_of_getElem? (i := 82) rfl), List.forall_mem_cons.mpr ⟨lwt_t5 (List.mem_of_getElem? (i := 83) rfl), List.forall_mem_cons.mpr ⟨lwt_t5 (List.mem_of_getElem? (i := 84) rfl), fun _ h => absurd h List.not_mem_nil⟩⟩⟩⟩⟩⟩⟩⟩⟩⟩⟩⟩⟩⟩⟩⟩⟩⟩⟩⟩⟩⟩⟩⟩
set_option maxRecDepth 20000 in
theorem wsL_law0_r15_in : ∀ w ∈ wsL_law0_r15, w ∈ lw_tbl := List.forall_mem_cons.mpr ⟨lwt_t5 (List.mem_of_getElem? (i := 85) rfl), List.forall_mem_cons.mpr ⟨lwt_t5 (List.mem_of_getElem? (i := 87) rfl), List.forall_mem_cons.mpr ⟨lwt_p (List.mem_of_getElem? (i := 34) rfl), List.forall_mem_cons.mpr ⟨lwt_t5 (List.mem_of_getElem? (i := 88) rfl), List.forall_mem_cons.mpr ⟨lwt_t4 (List.mem_of_getElem? (i := 27) rfl), List.forall_mem_cons.mpr ⟨lwt_t4 (List.mem_of_getElem? (i := 28) rfl), List.forall_mem_cons.mpr ⟨lwt_t4 (List.mem_of_getElem? (i := 29) rfl), List.forall_mem_cons.mpr ⟨lwt_t4 (List.mem_of_getElem? (i := 30) rfl), List.forall_mem_cons.mpr ⟨lwt_t4 (List.mem_of_getElem? (i := 31) rfl), List.forall_mem_cons.mpr ⟨lwt_t4 (List.mem_of_getElem? (i := 32) rfl), List.forall_mem_cons.mpr ⟨lwt_t4 (List.mem_of_getElem? (i := 33) rfl), List.forall_mem_cons.mpr ⟨lwt_t4 (List.mem_of_getElem? (i := 35) rfl), List.forall_mem_cons.mpr ⟨lwt_t2 (List.mem_of_getElem? (i := 142) rfl), List.forall_mem_cons.mpr ⟨lwt_t2 (List.mem_of_getElem? (i := 143) rfl), List.forall_mem_cons.mpr ⟨lwt_t2 (List.mem_of_getElem? (i := 144) rfl), List.forall_mem_cons.mpr ⟨lwt_t2 (List.mem_of_getElem? (i := 145) rfl), List.forall_mem_cons.mpr ⟨lwt_t5 (List.mem_of_getElem? (i := 89) rfl), List.forall_mem_cons.mpr ⟨lwt_t5 (List.mem_of_getElem? (i := 90) rfl), List.forall_mem_cons.mpr ⟨lwt_t5 (List.mem_of_getElem? (i := 91) rfl), List.forall_mem_cons.mpr ⟨lwt_t5 (List.mem_of_getElem? (i := 92) rfl), List.forall_mem_cons.mpr ⟨lwt_t5 (List.mem_of_getElem? (i := 93) rfl), List.forall_mem_cons.mpr ⟨lwt_t5 (List.mem_of_getElem? (i := 95) rfl), List.forall_mem_cons.mpr ⟨lwt_p (List.mem_of_getElem? (i := 35) rfl), List.forall_mem_cons.mpr ⟨lwt_t5 (List.mem_of_getElem? (i := 96) rfl), fun _ h => absurd h List.not_mem_nil⟩⟩⟩⟩⟩⟩⟩⟩⟩⟩⟩⟩⟩⟩⟩⟩⟩⟩⟩⟩⟩⟩⟩⟩
set_option maxRecDepth 20000 in
theorem wsL_law0_r16_in : ∀ w ∈ wsL_law0_r16, w ∈ lw_tbl := List.forall_mem_cons.mpr ⟨lwt_t4 (List.mem_of_getElem? (i := 36) rfl), List.forall_mem_cons.mpr ⟨lwt_t4 (List.mem_of_getElem? (i := 37) rfl), List.forall_mem_cons.mpr ⟨lwt_t4 (List.mem_of_getElem? (i := 38) rfl), List.forall_mem_cons.mpr ⟨lwt_t4 (List.mem_of_getElem? (i := 39) rfl), List.forall_mem_cons.mpr ⟨lwt_t4 (List.mem_of_getElem? (i := 40) rfl), List.forall_mem_cons.mpr ⟨lwt_t4 (List.mem_of_getElem? (i := 41) rfl), List.forall_mem_cons.mpr ⟨lwt_t4 (List.mem_of_getElem? (i := 42) rfl), List.forall_mem_cons.mpr ⟨lwt_t1 (List.mem_of_getElem? (i := 99) rfl), List.forall_mem_cons.mpr ⟨lwt_t1 (List.mem_of_getElem? (i := 101) rfl), List.forall_mem_cons.mpr ⟨lwt_t1 (List.mem_of_getElem? (i := 103) rfl), List.forall_mem_cons.mpr ⟨lwt_t4 (List.mem_of_getElem? (i := 43) rfl), List.forall_mem_cons.mpr ⟨lwt_t4 (List.mem_of_getElem? (i := 45) rfl), List.forall_mem_cons.mpr ⟨lwt_p (List.mem_of_getElem? (i := 15) rfl), List.forall_mem_cons.mpr ⟨lwt_t4 (List.mem_of_getElem? (i := 46) rfl), List.forall_mem_cons.mpr ⟨lwt_t1 (List.mem_of_getElem? (i := 109) rfl), List.forall_mem_cons.mpr ⟨lwt_t2 (List.mem_of_getElem? (i := 30) rfl), List.forall_mem_cons.mpr ⟨lwt_t2 (List.mem_of_getElem? (i := 31) rfl), List.forall_mem_cons.mpr ⟨lwt_t2 (List.mem_of_getElem? (i := 32) rfl), List.forall_mem_cons.mpr ⟨lwt_t2 (List.mem_of_getElem? (i := 33) rfl), List.forall_mem_cons.mpr ⟨lwt_t1 (List.mem_of_getElem? (i := 47) rfl), List.forall_mem_cons.mpr ⟨lwt_t1 (List.mem_of_getElem? (i := 50) rfl), List.forall_mem_cons.mpr ⟨lwt_t2 (List.mem_of_getElem? (i := 34) rfl), List.forall_mem_cons.mpr ⟨lwt_t2 (List.mem_of_getElem? (i := 35) rfl), List.forall_mem_cons.mpr ⟨lwt_t2 (List.mem_of_getElem? (i := 36) rfl), fun _ h => absurd h List.not_mem_nil⟩⟩⟩⟩⟩⟩⟩⟩⟩⟩⟩⟩⟩⟩⟩⟩⟩⟩⟩⟩⟩⟩⟩⟩
set_option maxRecDepth 20000 in
theorem wsL_law0_r17_in : ∀ w ∈ wsL_law0_r17, w ∈ lw_tbl := List.forall_mem_cons.mpr ⟨lwt_t2 (List.mem_of_getElem? (i := 37) rfl), List.forall_mem_cons.mpr ⟨lwt_t2 (List.mem_of_getElem? (i := 39) rfl), List.forall_mem_cons.mpr ⟨lwt_t2 (List.mem_of_getElem? (i := 40) rfl), List.forall_mem_cons.mpr ⟨lwt_t2 (List.mem_of_getElem? (i := 41) rfl), List.forall_mem_cons.mpr ⟨lwt_t2 (List.mem_of_getElem? (i := 43) rfl), List.forall_mem_cons.mpr ⟨lwt_t2 (List.mem_of_getElem? (i := 45) rfl), List.forall_mem_cons.mpr ⟨lwt_p (List.mem_of_getElem? (i := 0) rfl), List.forall_mem_cons.mpr ⟨lwt_t2 (List.mem_of_getElem? (i := 46) rfl), List.forall_mem_cons.mpr ⟨lwt_t1 (List.mem_of_getElem? (i := 40) rfl), List.forall_mem_cons.mpr ⟨lwt_t1 (List.mem_of_getElem? (i := 37) rfl), List.forall_mem_cons.mpr ⟨lwt_t1 (List.mem_of_getElem? (i := 44) rfl), List.forall_mem_cons.mpr ⟨lwt_t2 (List.mem_of_getElem? (i := 48) rfl), List.forall_mem_cons.mpr ⟨lwt_t2 (List.mem_of_getElem? (i := 49) rfl), List.forall_mem_cons.mpr ⟨lwt_t2 (List.mem_of_getElem? (i := 51) rfl), List.forall_mem_cons.mpr ⟨lwt_p (List.mem_of_getElem? (i := 1) rfl), List.forall_mem_cons.mpr ⟨lwt_t2 (List.mem_of_getElem? (i := 52) rfl), List.forall_mem_cons.mpr ⟨lwt_t2 (List.mem_of_getElem? (i := 53) rfl), List.forall_mem_cons.mpr ⟨lwt_t2 (List.mem_of_getElem? (i := 55) rfl), List.forall_mem_cons.mpr ⟨lwt_p (List.mem_of_getElem? (i := 2) rfl), List.forall_mem_cons.mpr ⟨lwt_t2 (List.mem_of_getElem? (i := 56) rfl), List.forall_mem_cons.mpr ⟨lwt_t2 (List.mem_of_getElem? (i := 57) rfl), List.forall_mem_cons.mpr ⟨lwt_t2 (List.mem_of_getElem? (i := 59) rfl), List.forall_mem_cons.mpr ⟨lwt_p (List.mem_of_getElem? (i := 3) rfl), List.forall_mem_cons.mpr ⟨lwt_t2 (List.mem_of_getElem? (i := 60) rfl), fun _ h => absurd h List.not_mem_nil⟩⟩⟩⟩⟩⟩⟩⟩⟩⟩⟩⟩⟩⟩⟩⟩⟩⟩⟩⟩⟩⟩⟩⟩
set_option maxRecDepth 20000 in
theorem wsL_law0_r18_in : ∀ w ∈ wsL_law0_r18, w ∈ lw_tbl := List.forall_mem_cons.mpr ⟨lwt_t5 (List.mem_of_getElem? (i := 97) rfl), List.forall_mem_cons.mpr ⟨lwt_t5 (List.mem_of_getElem? (i := 98) rfl), List.forall_mem_cons.mpr ⟨lwt_t5 (List.mem_of_getElem? (i := 99) rfl), List.forall_mem_cons.mpr ⟨lwt_t5 (List.mem_of_getElem? (i := 100) rfl), List.forall_mem_cons.mpr ⟨lwt_t5 (List.mem_of_getElem? (i := 101) rfl), List.forall_mem_cons.mpr ⟨lwt_t5 (List.mem_of_getElem? (i := 103) rfl), List.forall_mem_cons.mpr ⟨lwt_p (List.mem_of_getElem? (i := 36) rfl), List.forall_mem_cons.mpr ⟨lwt_t5 (List.mem_of_getElem? (i := 104) rfl), List.forall_mem_cons.mpr ⟨lwt_t1 (List.mem_of_getElem? (i := 228) rfl), List.forall_mem_cons.mpr ⟨lwt_t1 (List.mem_of_getElem? (i := 229) rfl), List.forall_mem_cons.mpr ⟨lwt_t1 (List.mem_of_getElem? (i := 230) rfl), List.forall_mem_cons.mpr ⟨lwt_t1 (List.mem_of_getElem? (i := 231) rfl), List.forall_mem_cons.mpr ⟨lwt_t5 (List.mem_of_getElem? (i := 105) rfl), List.forall_mem_cons.mpr ⟨lwt_t5 (List.mem_of_getElem? (i := 106) rfl), List.forall_mem_cons.mpr ⟨lwt_t5 (List.mem_of_getElem? (i := 107) rfl), List.forall_mem_cons.mpr ⟨lwt_t5 (List.mem_of_getElem? (i := 108) rfl), List.forall_mem_cons.mpr ⟨lwt_t5 (List.mem_of_getElem? (i := 109) rfl), List.forall_mem_cons.mpr ⟨lwt_t5 (List.mem_of_getElem? (i := 111) rfl), List.forall_mem_cons.mpr ⟨lwt_p (List.mem_of_getElem? (i := 37) rfl), List.forall_mem_cons.mpr ⟨lwt_t5 (List.mem_of_getElem? (i := 112) rfl), List.forall_mem_cons.mpr ⟨lwt_t4 (List.mem_of_getElem? (i := 48) rfl), List.forall_mem_cons.mpr ⟨lwt_t4 (List.mem_of_getElem? (i := 49) rfl), List.forall_mem_cons.mpr ⟨lwt_t4 (List.mem_of_getElem? (i := 50) rfl), List.forall_mem_cons.mpr ⟨lwt_t4 (List.mem_of_getElem? (i := 51) rfl), fun _ h => absurd h List.not_mem_nil⟩⟩⟩⟩⟩⟩⟩⟩⟩⟩⟩⟩⟩⟩⟩⟩⟩⟩⟩⟩⟩⟩⟩⟩
set_option maxRecDepth 20000 in
theorem wsL_law0_r19_in : ∀ w ∈ wsL_law0_r19, w ∈ lw_tbl := List.forall_mem_cons.mpr ⟨lwt_t4 (List.mem_of_getElem? (i := 52) rfl), List.forall_mem_cons.mpr ⟨lwt_t4 (List.mem_of_getElem? (i := 53) rfl), List.forall_mem_cons.mpr ⟨lwt_t4 (List.mem_of_getElem? (i := 54) rfl), List.forall_mem_cons.mpr ⟨lwt_t5 (List.mem_of_getElem? (i := 113) rfl), List.forall_mem_cons.mpr ⟨lwt_t5 (List.mem_of_getElem? (i := 114) rfl), List.forall_mem_cons.mpr ⟨lwt_t5 (List.mem_of_getElem? (i := 115) rfl), List.forall_mem_cons.mpr ⟨lwt_t5 (List.mem_of_getElem? (i := 116) rfl), List.forall_mem_cons.mpr ⟨lwt_t1 (List.mem_of_getElem? (i := 232) rfl), List.forall_mem_cons.mpr ⟨lwt_t1 (List.mem_of_getElem? (i := 233) rfl), List.forall_mem_cons.mpr ⟨lwt_t1 (List.mem_of_getElem? (i := 234) rfl), List.forall_mem_cons.mpr ⟨lwt_t1 (List.mem_of_getElem? (i := 235) rfl), List.forall_mem_cons.mpr ⟨lwt_t5 (List.mem_of_getElem? (i := 117) rfl), List.forall_mem_cons.mpr ⟨lwt_t5 (List.mem_of_getElem? (i := 118) rfl), List.forall_mem_cons.mpr ⟨lwt_t5 (List.mem_of_getElem? (i := 119) rfl), List.forall_mem_cons.mpr ⟨lwt_t5 (List.mem_of_getElem? (i := 120) rfl), List.forall_mem_cons.mpr ⟨lwt_t1 (List.mem_of_getElem? (i := 236) rfl), List.forall_mem_cons.mpr ⟨lwt_t1 (List.mem_of_getElem? (i := 237) rfl), List.forall_mem_cons.mpr ⟨lwt_t1 (List.mem_of_getElem? (i := 238) rfl), List.forall_mem_cons.mpr ⟨lwt_t1 (List.mem_of_getElem? (i := 239) rfl), List.forall_mem_cons.mpr ⟨lwt_t5 (List.mem_of_getElem? (i := 121) rfl), List.forall_mem_cons.mpr ⟨lwt_t5 (List.mem_of_getElem? (i := 122) rfl), List.forall_mem_cons.mpr ⟨lwt_t5 (List.mem_of_getElem? (i := 123) rfl), List.forall_mem_cons.mpr ⟨lwt_t5 (List.mem_of_getElem? (i := 124) rfl), List.forall_mem_cons.mpr ⟨lwt_t2 (List.mem_of_getElem? (i := 0) rfl), fun _ h => absurd h List.not_mem_nil⟩⟩⟩⟩⟩⟩⟩⟩⟩⟩⟩⟩⟩⟩⟩⟩⟩⟩⟩⟩⟩⟩⟩⟩
set_option maxRecDepth 20000 in
theorem wsL_law0_r20_in : ∀ w ∈ wsL_law0_r20, w ∈ lw_tbl := List.forall_mem_cons.mpr ⟨lwt_t2 (List.mem_of_getElem? (i := 1) rfl), List.forall_mem_cons.mpr ⟨lwt_t2 (List.mem_of_getElem? (i := 2) rfl), List.forall_mem_cons.mpr ⟨lwt_t2 (List.mem_of_getElem? (i := 3) rfl), List.forall_mem_cons.mpr ⟨lwt_t5 (List.mem_of_getElem? (i := 125) rfl), List.forall_mem_cons.mpr ⟨lwt_t5 (List.mem_of_getElem? (i := 126) rfl), List.forall_mem_cons.mpr ⟨lwt_t5 (List.mem_of_getElem? (i := 127) rfl), List.forall_mem_cons.mpr ⟨lwt_t5 (List.mem_of_getElem? (i := 128) rfl), List.forall_mem_cons.mpr ⟨lwt_t2 (List.mem_of_getElem? (i := 4) rfl), List.forall_mem_cons.mpr ⟨lwt_t2 (List.mem_of_getElem? (i := 5) rfl), List.forall_mem_cons.mpr ⟨lwt_t2 (List.mem_of_getElem? (i := 6) rfl), List.forall_mem_cons.mpr ⟨lwt_t2 (List.mem_of_getElem? (i := 7) rfl), List.forall_mem_cons.mpr ⟨lwt_t5 (List.mem_of_getElem? (i := 129) rfl), List.forall_mem_cons.mpr ⟨lwt_t5 (List.mem_of_getElem? (i := 130) rfl), List.forall_mem_cons.mpr ⟨lwt_t5 (List.mem_of_getElem? (i := 131) rfl), List.forall_mem_cons.mpr ⟨lwt_t5 (List.mem_of_getElem? (i := 132) rfl), List.forall_mem_cons.mpr ⟨lwt_t2 (List.mem_of_getElem? (i := 8) rfl), List.forall_mem_cons.mpr ⟨lwt_t2 (List.mem_of_getElem? (i := 9) rfl), List.forall_mem_cons.mpr ⟨lwt_t2 (List.mem_of_getElem? (i := 10) rfl), List.forall_mem_cons.mpr ⟨lwt_t2 (List.mem_of_getElem? (i := 11) rfl), List.forall_mem_cons.mpr ⟨lwt_t5 (List.mem_of_getElem? (i := 133) rfl), List.forall_mem_cons.mpr ⟨lwt_t5 (List.mem_of_getElem? (i := 134) rfl), List.forall_mem_cons.mpr ⟨lwt_t5 (List.mem_of_getElem? (i := 135) rfl), List.forall_mem_cons.mpr ⟨lwt_t5 (List.mem_of_getElem? (i := 136) rfl), List.forall_mem_cons.mpr ⟨lwt_t2 (List.mem_of_getElem? (i := 12) rfl), fun _ h => absurd h List.not_mem_nil⟩⟩⟩⟩⟩⟩⟩⟩⟩⟩⟩⟩⟩⟩⟩⟩⟩⟩⟩⟩⟩⟩⟩⟩
set_option maxRecDepth 20000 in
theorem wsL_law0_r21_in : ∀ w ∈ wsL_law0_r21, w ∈ lw_tbl := List.forall_mem_cons.mpr ⟨lwt_t2 (List.mem_of_getElem? (i := 13) rfl), List.forall_mem_cons.mpr ⟨lwt_t2 (List.mem_of_getElem? (i := 14) rfl), List.forall_mem_cons.mpr ⟨lwt_t2 (List.mem_of_getElem? (i := 15) rfl), List.forall_mem_cons.mpr ⟨lwt_t2 (List.mem_of_getElem? (i := 16) rfl), List.forall_mem_cons.mpr ⟨lwt_t2 (List.mem_of_getElem? (i := 17) rfl), List.forall_mem_cons.mpr ⟨lwt_t2 (List.mem_of_getElem? (i := 18) rfl), List.forall_mem_cons.mpr ⟨lwt_t2 (List.mem_of_getElem? (i := 19) rfl), List.forall_mem_cons.mpr ⟨lwt_t1 (List.mem_of_getElem? (i := 55) rfl), List.forall_mem_cons.mpr ⟨lwt_t5 (List.mem_of_getElem? (i := 137) rfl), List.forall_mem_cons.mpr ⟨lwt_t5 (List.mem_of_getElem? (i := 138) rfl), List.forall_mem_cons.mpr ⟨lwt_t5 (List.mem_of_getElem? (i := 139) rfl), List.forall_mem_cons.mpr ⟨lwt_t5 (List.mem_of_getElem? (i := 140) rfl), List.forall_mem_cons.mpr ⟨lwt_t5 (List.mem_of_getElem? (i := 141) rfl), List.forall_mem_cons.mpr ⟨lwt_t5 (List.mem_of_getElem? (i := 143) rfl), List.forall_mem_cons.mpr ⟨lwt_p (List.mem_of_getElem? (i := 38) rfl), List.forall_mem_cons.mpr ⟨lwt_t5 (List.mem_of_getElem? (i := 144) rfl), List.forall_mem_cons.mpr ⟨lwt_t2 (List.mem_of_getElem? (i := 20) rfl), List.forall_mem_cons.mpr ⟨lwt_t5 (List.mem_of_getElem? (i := 145) rfl), List.forall_mem_cons.mpr ⟨lwt_t5 (List.mem_of_getElem? (i := 146) rfl), List.forall_mem_cons.mpr ⟨lwt_t5 (List.mem_of_getElem? (i := 147) rfl), List.forall_mem_cons.mpr ⟨lwt_t5 (List.mem_of_getElem? (i := 148) rfl), List.forall_mem_cons.mpr ⟨lwt_t4 (List.mem_of_getElem? (i := 55) rfl), List.forall_mem_cons.mpr ⟨lwt_t4 (List.mem_of_getElem? (i := 56) rfl), List.forall_mem_cons.mpr ⟨lwt_t4 (List.mem_of_getElem? (i := 57) rfl), fun _ h => absurd h List.not_mem_nil⟩⟩⟩⟩⟩⟩⟩⟩⟩⟩⟩⟩⟩⟩⟩⟩⟩⟩⟩⟩⟩⟩⟩⟩
set_option maxRecDepth 20000 in
theorem wsL_law0_r22_in : ∀ w ∈ wsL_law0_r22, w ∈ lw_tbl := List.forall_mem_cons.mpr ⟨lwt_t4 (List.mem_of_getElem? (i := 58) rfl), List.forall_mem_cons.mpr ⟨lwt_t4 (List.mem_of_getElem? (i := 59) rfl), List.forall_mem_cons.mpr ⟨lwt_t4 (List.mem_of_getElem? (i := 60) rfl), List.forall_mem_cons.mpr ⟨lwt_t4 (List.mem_of_getElem? (i := 61) rfl), List.forall_mem_cons.mpr ⟨lwt_t5 (List.mem_of_getElem? (i := 149) rfl), List.forall_mem_cons.mpr ⟨lwt_t5 (List.mem_of_getElem? (i := 150) rfl), List.forall_mem_cons.mpr ⟨lwt_t5 (List.mem_of_getElem? (i := 151) rfl), List.forall_mem_cons.mpr ⟨lwt_t5 (List.mem_of_getElem? (i := 152) rfl), List.forall_mem_cons.mpr ⟨lwt_t2 (List.mem_of_getElem? (i := 21) rfl), List.forall_mem_cons.mpr ⟨lwt_t2 (List.mem_of_getElem? (i := 22) rfl), List.forall_mem_cons.mpr ⟨lwt_t2 (List.mem_of_getElem? (i := 23) rfl), List.forall_mem_cons.mpr ⟨lwt_t2 (List.mem_of_getElem? (i := 24) rfl), List.forall_mem_cons.mpr ⟨lwt_t2 (List.mem_of_getElem? (i := 25) rfl), List.forall_mem_cons.mpr ⟨lwt_t5 (List.mem_of_getElem? (i := 153) rfl), List.forall_mem_cons.mpr ⟨lwt_t5 (List.mem_of_getElem? (i := 154) rfl), List.forall_mem_cons.mpr ⟨lwt_t5 (List.mem_of_getElem? (i := 155) rfl), List.forall_mem_cons.mpr ⟨lwt_t5 (List.mem_of_getElem? (i := 156) rfl), List.forall_mem_cons.mpr ⟨lwt_t5 (List.mem_of_getElem? (i := 157) rfl), List.forall_mem_cons.mpr ⟨lwt_t5 (List.mem_of_getElem? (i := 159) rfl), List.forall_mem_cons.mpr ⟨lwt_p (List.mem_of_getElem? (i := 39) rfl), List.forall_mem_cons.mpr ⟨lwt_t5 (List.mem_of_getElem? (i := 160) rfl), List.forall_mem_cons.mpr ⟨lwt_t2 (List.mem_of_getElem? (i := 26) rfl), List.forall_mem_cons.mpr ⟨lwt_t2 (List.mem_of_getElem? (i := 27) rfl), List.forall_mem_cons.mpr ⟨lwt_t2 (List.mem_of_getElem? (i := 28) rfl), fun _ h => absurd h List.not_mem_nil⟩⟩⟩⟩⟩⟩⟩⟩⟩⟩⟩⟩⟩⟩⟩⟩⟩⟩⟩⟩⟩⟩⟩⟩
set_option maxRecDepth 20000 in
theorem wsL_law0_r23_in : ∀ w ∈ wsL_law0_r23, w ∈ lw_tbl := List.forall_mem_cons.mpr ⟨lwt_t2 (List.mem_of_getElem? (i := 29) rfl), List.forall_mem_cons.mpr ⟨lwt_t5 (List.mem_of_getElem? (i := 161) rfl), List.forall_mem_cons.mpr ⟨lwt_t5 (List.mem_of_getElem? (i := 162) rfl), List.forall_mem_cons.mpr ⟨lwt_t5 (List.mem_of_getElem? (i := 163) rfl), List.forall_mem_cons.mpr ⟨lwt_t5 (List.mem_of_getElem? (i := 164) rfl), List.forall_mem_cons.mpr ⟨lwt_t4 (List.mem_of_getElem? (i := 63) rfl), List.forall_mem_cons.mpr ⟨lwt_t4 (List.mem_of_getElem? (i := 64) rfl), List.forall_mem_cons.mpr ⟨lwt_t4 (List.mem_of_getElem? (i := 65) rfl), List.forall_mem_cons.mpr ⟨lwt_t4 (List.mem_of_getElem? (i := 66) rfl), List.forall_mem_cons.mpr ⟨lwt_t4 (List.mem_of_getElem? (i := 67) rfl), List.forall_mem_cons.mpr ⟨lwt_t4 (List.mem_of_getElem? (i := 68) rfl), List.forall_mem_cons.mpr ⟨lwt_t4 (List.mem_of_getElem? (i := 69) rfl), List.forall_mem_cons.mpr ⟨lwt_t5 (List.mem_of_getElem? (i := 165) rfl), List.forall_mem_cons.mpr ⟨lwt_t5 (List.mem_of_getElem? (i := 166) rfl), List.forall_mem_cons.mpr ⟨lwt_t5 (List.mem_of_getElem? (i := 167) rfl), List.forall_mem_cons.mpr ⟨lwt_t5 (List.mem_of_getElem? (i := 168) rfl), List.forall_mem_cons.mpr ⟨lwt_t4 (List.mem_of_getElem? (i := 70) rfl), List.forall_mem_cons.mpr ⟨lwt_t4 (List.mem_of_getElem? (i := 71) rfl), List.forall_mem_cons.mpr ⟨lwt_t4 (List.mem_of_getElem? (i := 72) rfl), List.forall_mem_cons.mpr ⟨lwt_t4 (List.mem_of_getElem? (i := 73) rfl), List.forall_mem_cons.mpr ⟨lwt_t4 (List.mem_of_getElem? (i := 74) rfl), List.forall_mem_cons.mpr ⟨lwt_t4 (List.mem_of_getElem? (i := 75) rfl), List.forall_mem_cons.mpr ⟨lwt_t4 (List.mem_of_getElem? (i := 76) rfl), List.forall_mem_cons.mpr ⟨lwt_t5 (List.mem_of_getElem? (i := 169) rfl), fun _ h => absurd h List.not_mem_nil⟩⟩⟩⟩⟩⟩⟩⟩⟩⟩⟩⟩⟩⟩⟩⟩⟩⟩⟩⟩⟩⟩⟩⟩
set_option maxRecDepth 20000 in
theorem wsL_law0_r24_in : ∀ w ∈ wsL_law0_r24, w ∈ lw_tbl := List.forall_mem_cons.mpr ⟨lwt_t5 (List.mem_of_getElem? (i := 170) rfl), List.forall_mem_cons.mpr ⟨lwt_t5 (List.mem_of_getElem? (i := 171) rfl), List.forall_mem_cons.mpr ⟨lwt_t5 (List.mem_of_getElem? (i := 172) rfl), List.forall_mem_cons.mpr ⟨lwt_t4 (List.mem_of_getElem? (i := 77) rfl), List.forall_mem_cons.mpr ⟨lwt_t4 (List.mem_of_getElem? (i := 78) rfl), List.forall_mem_cons.mpr ⟨lwt_t4 (List.mem_of_getElem? (i := 79) rfl), List.forall_mem_cons.mpr ⟨lwt_t4 (List.mem_of_getElem? (i := 80) rfl), List.forall_mem_cons.mpr ⟨lwt_t4 (List.mem_of_getElem? (i := 81) rfl), List.forall_mem_cons.mpr ⟨lwt_t4 (List.mem_of_getElem? (i := 82) rfl), List.forall_mem_cons.mpr ⟨lwt_t4 (List.mem_of_getElem? (i := 83) rfl), List.forall_mem_cons.mpr ⟨lwt_t5 (List.mem_of_getElem? (i := 173) rfl), List.forall_mem_cons.mpr ⟨lwt_t5 (List.mem_of_getElem? (i := 174) rfl), List.forall_mem_cons.mpr ⟨lwt_t5 (List.mem_of_getElem? (i := 175) rfl), List.forall_mem_cons.mpr ⟨lwt_t5 (List.mem_of_getElem? (i := 176) rfl), List.forall_mem_cons.mpr ⟨lwt_t2 (List.mem_of_getElem? (i := 61) rfl), List.forall_mem_cons.mpr ⟨lwt_t2 (List.mem_of_getElem? (i := 62) rfl), List.forall_mem_cons.mpr ⟨lwt_t2 (List.mem_of_getElem? (i := 63) rfl), List.forall_mem_cons.mpr ⟨lwt_t2 (List.mem_of_getElem? (i := 64) rfl), List.forall_mem_cons.mpr ⟨lwt_t2 (List.mem_of_getElem? (i := 82) rfl), List.forall_mem_cons.mpr ⟨lwt_t2 (List.mem_of_getElem? (i := 65) rfl), List.forall_mem_cons.mpr ⟨lwt_t2 (List.mem_of_getElem? (i := 66) rfl), List.forall_mem_cons.mpr ⟨lwt_t2 (List.mem_of_getElem? (i := 67) rfl), List.forall_mem_cons.mpr ⟨lwt_t2 (List.mem_of_getElem? (i := 68) rfl), List.forall_mem_cons.mpr ⟨lwt_t2 (List.mem_of_getElem? (i := 76) rfl), fun _ h => absurd h List.not_mem_nil⟩⟩⟩⟩⟩⟩⟩⟩⟩⟩⟩⟩⟩⟩⟩⟩⟩⟩⟩⟩⟩⟩⟩⟩
set_option maxRecDepth 20000 in
theorem wsL_law0_r25_in : ∀ w ∈ wsL_law0_r25, w ∈ lw_tbl := List.forall_mem_cons.mpr ⟨lwt_t1 (List.mem_of_getElem? (i := 16) rfl), List.forall_mem_cons.mpr ⟨lwt_t2 (List.mem_of_getElem? (i := 89) rfl), List.forall_mem_cons.mpr ⟨lwt_t2 (List.mem_of_getElem? (i := 69) rfl), List.forall_mem_cons.mpr ⟨lwt_t2 (List.mem_of_getElem? (i := 70) rfl), List.forall_mem_cons.mpr ⟨lwt_t2 (List.mem_of_getElem? (i := 71) rfl), List.forall_mem_cons.mpr ⟨lwt_t2 (List.mem_of_getElem? (i := 72) rfl), List.forall_mem_cons.mpr ⟨lwt_t2 (List.mem_of_getElem? (i := 74) rfl), List.forall_mem_cons.mpr ⟨lwt_t2 (List.mem_of_getElem? (i := 75) rfl), List.forall_mem_cons.mpr ⟨lwt_t2 (List.mem_of_getElem? (i := 77) rfl), List.forall_mem_cons.mpr ⟨lwt_t2 (List.mem_of_getElem? (i := 78) rfl), List.forall_mem_cons.mpr ⟨lwt_t2 (List.mem_of_getElem? (i := 79) rfl), List.forall_mem_cons.mpr ⟨lwt_t2 (List.mem_of_getElem? (i := 80) rfl), List.forall_mem_cons.mpr ⟨lwt_t2 (List.mem_of_getElem? (i := 81) rfl), List.forall_mem_cons.mpr ⟨lwt_t2 (List.mem_of_getElem? (i := 83) rfl), List.forall_mem_cons.mpr ⟨lwt_t2 (List.mem_of_getElem? (i := 85) rfl), List.forall_mem_cons.mpr ⟨lwt_t2 (List.mem_of_getElem? (i := 101) rfl), List.forall_mem_cons.mpr ⟨lwt_t2 (List.mem_of_getElem? (i := 87) rfl), List.forall_mem_cons.mpr ⟨lwt_t2 (List.mem_of_getElem? (i := 88) rfl), List.forall_mem_cons.mpr ⟨lwt_t2 (List.mem_of_getElem? (i := 102) rfl), List.forall_mem_cons.mpr ⟨lwt_t2 (List.mem_of_getElem? (i := 103) rfl), List.forall_mem_cons.mpr ⟨lwt_t2 (List.mem_of_getElem? (i := 104) rfl), List.forall_mem_cons.mpr ⟨lwt_t2 (List.mem_of_getElem? (i := 106) rfl), List.forall_mem_cons.mpr ⟨lwt_p (List.mem_of_getElem? (i := 4) rfl), List.forall_mem_cons.mpr ⟨lwt_t2 (List.mem_of_getElem? (i := 107) rfl), fun _ h => absurd h List.not_mem_nil⟩⟩⟩⟩⟩⟩⟩⟩⟩⟩⟩⟩⟩⟩⟩⟩⟩⟩⟩⟩⟩⟩⟩⟩
set_option maxRecDepth 20000 in
theorem wsL_law0_r26_in : ∀ w ∈ wsL_law0_r26, w ∈ lw_tbl := List.forall_mem_cons.mpr ⟨lwt_t2 (List.mem_of_getElem? (i := 108) rfl), List.forall_mem_cons.mpr ⟨lwt_t2 (List.mem_of_getElem? (i := 110) rfl), List.forall_mem_cons.mpr ⟨lwt_p (List.mem_of_getElem? (i := 5) rfl), List.forall_mem_cons.mpr ⟨lwt_t2 (List.mem_of_getElem? (i := 111) rfl), List.forall_mem_cons.mpr ⟨lwt_t1 (List.mem_of_getElem? (i := 42) rfl), List.forall_mem_cons.mpr ⟨lwt_t2 (List.mem_of_getElem? (i := 112) rfl), List.forall_mem_cons.mpr ⟨lwt_t2 (List.mem_of_getElem? (i := 114) rfl), List.forall_mem_cons.mpr ⟨lwt_p (List.mem_of_getElem? (i := 6) rfl), List.forall_mem_cons.mpr ⟨lwt_t2 (List.mem_of_getElem? (i := 115) rfl), List.forall_mem_cons.mpr ⟨lwt_t2 (List.mem_of_getElem? (i := 116) rfl), List.forall_mem_cons.mpr ⟨lwt_t2 (List.mem_of_getElem? (i := 120) rfl), List.forall_mem_cons.mpr ⟨lwt_t2 (List.mem_of_getElem? (i := 121) rfl), List.forall_mem_cons.mpr ⟨lwt_t2 (List.mem_of_getElem? (i := 122) rfl), List.forall_mem_cons.mpr ⟨lwt_t2 (List.mem_of_getElem? (i := 123) rfl), List.forall_mem_cons.mpr ⟨lwt_t2 (List.mem_of_getElem? (i := 124) rfl), List.forall_mem_cons.mpr ⟨lwt_t2 (List.mem_of_getElem? (i := 125) rfl), List.forall_mem_cons.mpr ⟨lwt_t1 (List.mem_of_getElem? (i := 108) rfl), List.forall_mem_cons.mpr ⟨lwt_t1 (List.mem_of_getElem? (i := 105) rfl), List.forall_mem_cons.mpr ⟨lwt_t2 (List.mem_of_getElem? (i := 126) rfl), List.forall_mem_cons.mpr ⟨lwt_t2 (List.mem_of_getElem? (i := 129) rfl), List.forall_mem_cons.mpr ⟨lwt_t2 (List.mem_of_getElem? (i := 130) rfl), List.forall_mem_cons.mpr ⟨lwt_t2 (List.mem_of_getElem? (i := 131) rfl), List.forall_mem_cons.mpr ⟨lwt_t2 (List.mem_of_getElem? (i := 132) rfl), List.forall_mem_cons.mpr ⟨lwt_t2 (List.mem_of_getElem? (i := 133) rfl), fun _ h => absurd h List.not_mem_nil⟩⟩⟩⟩⟩⟩⟩⟩⟩⟩⟩⟩⟩⟩⟩⟩⟩⟩⟩⟩⟩⟩⟩⟩
set_option maxRecDepth 20000 in
theorem wsL_law0_r27_in : ∀ w ∈ wsL_law0_r27, w ∈ lw_tbl := List.forall_mem_cons.mpr ⟨lwt_t2 (List.mem_of_getElem? (i := 135) rfl), List.forall_mem_cons.mpr ⟨lwt_p (List.mem_of_getElem? (i := 7) rfl), List.forall_mem_cons.mpr ⟨lwt_t2 (List.mem_of_getElem? (i := 136) rfl), List.forall_mem_cons.mpr ⟨lwt_t1 (List.mem_of_getElem? (i := 38) rfl), List.forall_mem_cons.mpr ⟨lwt_t2 (List.mem_of_getElem? (i := 137) rfl), List.forall_mem_cons.mpr ⟨lwt_t5 (List.mem_of_getElem? (i := 177) rfl), List.forall_mem_cons.mpr ⟨lwt_t5 (List.mem_of_getElem? (i := 178) rfl), List.forall_mem_cons.mpr ⟨lwt_t5 (List.mem_of_getElem? (i := 179) rfl), List.forall_mem_cons.mpr ⟨lwt_t5 (List.mem_of_getElem? (i := 180) rfl), List.forall_mem_cons.mpr ⟨lwt_t5 (List.mem_of_getElem? (i := 181) rfl), List.forall_mem_cons.mpr ⟨lwt_t5 (List.mem_of_getElem? (i := 183) rfl), List.forall_mem_cons.mpr ⟨lwt_p (List.mem_of_getElem? (i := 40) rfl), List.forall_mem_cons.mpr ⟨lwt_t5 (List.mem_of_getElem? (i := 184) rfl), List.forall_mem_cons.mpr ⟨lwt_t2 (List.mem_of_getElem? (i := 138) rfl), List.forall_mem_cons.mpr ⟨lwt_t2 (List.mem_of_getElem? (i := 139) rfl), List.forall_mem_cons.mpr ⟨lwt_t2 (List.mem_of_getElem? (i := 140) rfl), List.forall_mem_cons.mpr ⟨lwt_t2 (List.mem_of_getElem? (i := 141) rfl), List.forall_mem_cons.mpr ⟨lwt_t2 (List.mem_of_getElem? (i := 150) rfl), List.forall_mem_cons.mpr ⟨lwt_t5 (List.mem_of_getElem? (i := 185) rfl), List.forall_mem_cons.mpr ⟨lwt_t5 (List.mem_of_getElem? (i := 186) rfl), List.forall_mem_cons.mpr ⟨lwt_t5 (List.mem_of_getElem? (i := 187) rfl), List.forall_mem_cons.mpr ⟨lwt_t5 (List.mem_of_getElem? (i := 188) rfl), List.forall_mem_cons.mpr ⟨lwt_t5 (List.mem_of_getElem? (i := 189) rfl), List.forall_mem_cons.mpr ⟨lwt_t5 (List.mem_of_getElem? (i := 191) rfl), fun _ h => absurd h List.not_mem_nil⟩⟩⟩⟩⟩⟩⟩⟩⟩⟩⟩⟩⟩⟩⟩⟩⟩⟩⟩⟩⟩⟩⟩⟩
set_option maxRecDepth 20000 in
theorem wsL_law0_r28_in : ∀ w ∈ wsL_law0_r28, w ∈ lw_tbl := List.forall_mem_cons.mpr ⟨lwt_p (List.mem_of_getElem? (i := 41) rfl), List.forall_mem_cons.mpr ⟨lwt_t5 (List.mem_of_getElem? (i := 192) rfl), List.forall_mem_cons.mpr ⟨lwt_t2 (List.mem_of_getElem? (i := 151) rfl), List.forall_mem_cons.mpr ⟨lwt_t2 (List.mem_of_getElem? (i := 152) rfl), List.forall_mem_cons.mpr ⟨lwt_t2 (List.mem_of_getElem? (i := 153) rfl), List.forall_mem_cons.mpr ⟨lwt_t2 (List.mem_of_getElem? (i := 154) rfl), List.forall_mem_cons.mpr ⟨lwt_t2 (List.mem_of_getElem? (i := 155) rfl), List.forall_mem_cons.mpr ⟨lwt_t2 (List.mem_of_getElem? (i := 156) rfl), List.forall_mem_cons.mpr ⟨lwt_t2 (List.mem_of_getElem? (i := 157) rfl), List.forall_mem_cons.mpr ⟨lwt_t2 (List.mem_of_getElem? (i := 158) rfl), List.forall_mem_cons.mpr ⟨lwt_t5 (List.mem_of_getElem? (i := 193) rfl), List.forall_mem_cons.mpr ⟨lwt_t5 (List.mem_of_getElem? (i := 194) rfl), List.forall_mem_cons.mpr ⟨lwt_t5 (List.mem_of_getElem? (i := 195) rfl), List.forall_mem_cons.mpr ⟨lwt_t5 (List.mem_of_getElem? (i := 196) rfl), List.forall_mem_cons.mpr ⟨lwt_t5 (List.mem_of_getElem? (i := 197) rfl), List.forall_mem_cons.mpr ⟨lwt_t5 (List.mem_of_getElem? (i := 199) rfl), List.forall_mem_cons.mpr ⟨lwt_p (List.mem_of_getElem? (i := 42) rfl), List.forall_mem_cons.mpr ⟨lwt_t5 (List.mem_of_getElem? (i := 200) rfl), List.forall_mem_cons.mpr ⟨lwt_t5 (List.mem_of_getElem? (i := 201) rfl), List.forall_mem_cons.mpr ⟨lwt_t5 (List.mem_of_getElem? (i := 203) rfl), List.forall_mem_cons.mpr ⟨lwt_p (List.mem_of_getElem? (i := 43) rfl), List.forall_mem_cons.mpr ⟨lwt_t5 (List.mem_of_getElem? (i := 204) rfl), List.forall_mem_cons.mpr ⟨lwt_t4 (List.mem_of_getElem? (i := 84) rfl), List.forall_mem_cons.mpr ⟨lwt_t4 (List.mem_of_getElem? (i := 85) rfl), fun _ h => absurd h List.not_mem_nil⟩⟩⟩⟩⟩⟩⟩⟩⟩⟩⟩⟩⟩⟩⟩⟩⟩⟩⟩⟩⟩⟩⟩⟩
set_option maxRecDepth 20000 in
theorem wsL_law0_r29_in : ∀ w ∈ wsL_law0_r29, w ∈ lw_tbl := List.forall_mem_cons.mpr ⟨lwt_t4 (List.mem_of_getElem? (i := 86) rfl), List.forall_mem_cons.mpr ⟨lwt_t4 (List.mem_of_getElem? (i := 87) rfl), List.forall_mem_cons.mpr ⟨lwt_t4 (List.mem_of_getElem? (i := 88) rfl), List.forall_mem_cons.mpr ⟨lwt_t4 (List.mem_of_getElem? (i := 89) rfl), List.forall_mem_cons.mpr ⟨lwt_t4 (List.mem_of_getElem? (i := 90) rfl), List.forall_mem_cons.mpr ⟨lwt_t2 (List.mem_of_getElem? (i := 163) rfl), List.forall_mem_cons.mpr ⟨lwt_t2 (List.mem_of_getElem? (i := 165) rfl), List.forall_mem_cons.mpr ⟨lwt_p (List.mem_of_getElem? (i := 8) rfl), List.forall_mem_cons.mpr ⟨lwt_t2 (List.mem_of_getElem? (i := 166) rfl), List.forall_mem_cons.mpr ⟨lwt_t1 (List.mem_of_getElem? (i := 106) rfl), List.forall_mem_cons.mpr ⟨lwt_t5 (List.mem_of_getElem? (i := 205) rfl), List.forall_mem_cons.mpr ⟨lwt_t5 (List.mem_of_getElem? (i := 206) rfl), List.forall_mem_cons.mpr ⟨lwt_t5 (List.mem_of_getElem? (i := 207) rfl), List.forall_mem_cons.mpr ⟨lwt_t5 (List.mem_of_getElem? (i := 208) rfl), List.forall_mem_cons.mpr ⟨lwt_t2 (List.mem_of_getElem? (i := 159) rfl), List.forall_mem_cons.mpr ⟨lwt_t2 (List.mem_of_getElem? (i := 160) rfl), List.forall_mem_cons.mpr ⟨lwt_t2 (List.mem_of_getElem? (i := 161) rfl), List.forall_mem_cons.mpr ⟨lwt_t2 (List.mem_of_getElem? (i := 162) rfl), List.forall_mem_cons.mpr ⟨lwt_t5 (List.mem_of_getElem? (i := 209) rfl), List.forall_mem_cons.mpr ⟨lwt_t5 (List.mem_of_getElem? (i := 210) rfl), List.forall_mem_cons.mpr ⟨lwt_t5 (List.mem_of_getElem? (i := 211) rfl), List.forall_mem_cons.mpr ⟨lwt_t5 (List.mem_of_getElem? (i := 212) rfl), List.forall_mem_cons.mpr ⟨lwt_t5 (List.mem_of_getElem? (i := 213) rfl), List.forall_mem_cons.mpr ⟨lwt_t5 (List.mem_of_getElem? (i := 215) rfl), fun _ h => absurd h List.not_mem_nil⟩⟩⟩⟩⟩⟩⟩⟩⟩⟩⟩⟩⟩⟩⟩⟩⟩⟩⟩⟩⟩⟩⟩⟩
set_option maxRecDepth 20000 in
theorem wsL_law0_r30_in : ∀ w ∈ wsL_law0_r30, w ∈ lw_tbl := List.forall_mem_cons.mpr ⟨lwt_p (List.mem_of_getElem? (i := 44) rfl), List.forall_mem_cons.mpr ⟨lwt_t5 (List.mem_of_getElem? (i := 216) rfl), List.forall_mem_cons.mpr ⟨lwt_t2 (List.mem_of_getElem? (i := 167) rfl), List.forall_mem_cons.mpr ⟨lwt_t2 (List.mem_of_getElem? (i := 168) rfl), List.forall_mem_cons.mpr ⟨lwt_t2 (List.mem_of_getElem? (i := 169) rfl), List.forall_mem_cons.mpr ⟨lwt_t2 (List.mem_of_getElem? (i := 170) rfl), List.forall_mem_cons.mpr ⟨lwt_t2 (List.mem_of_getElem? (i := 84) rfl), List.forall_mem_cons.mpr ⟨lwt_t5 (List.mem_of_getElem? (i := 217) rfl), List.forall_mem_cons.mpr ⟨lwt_t5 (List.mem_of_getElem? (i := 218) rfl), List.forall_mem_cons.mpr ⟨lwt_t5 (List.mem_of_getElem? (i := 219) rfl), List.forall_mem_cons.mpr ⟨lwt_t5 (List.mem_of_getElem? (i := 220) rfl), List.forall_mem_cons.mpr ⟨lwt_t5 (List.mem_of_getElem? (i := 221) rfl), List.forall_mem_cons.mpr ⟨lwt_t5 (List.mem_of_getElem? (i := 223) rfl), List.forall_mem_cons.mpr ⟨lwt_p (List.mem_of_getElem? (i := 45) rfl), List.forall_mem_cons.mpr ⟨lwt_t5 (List.mem_of_getElem? (i := 224) rfl), List.forall_mem_cons.mpr ⟨lwt_t2 (List.mem_of_getElem? (i := 171) rfl), List.forall_mem_cons.mpr ⟨lwt_t2 (List.mem_of_getElem? (i := 172) rfl), List.forall_mem_cons.mpr ⟨lwt_t2 (List.mem_of_getElem? (i := 173) rfl), List.forall_mem_cons.mpr ⟨lwt_t2 (List.mem_of_getElem? (i := 174) rfl), List.forall_mem_cons.mpr ⟨lwt_t5 (List.mem_of_getElem? (i := 225) rfl), List.forall_mem_cons.mpr ⟨lwt_t5 (List.mem_of_getElem? (i := 226) rfl), List.forall_mem_cons.mpr ⟨lwt_t5 (List.mem_of_getElem? (i := 227) rfl), List.forall_mem_cons.mpr ⟨lwt_t5 (List.mem_of_getElem? (i := 228) rfl), List.forall_mem_cons.mpr ⟨lwt_t2 (List.mem_of_getElem? (i := 175) rfl), fun _ h => absurd h List.not_mem_nil⟩⟩⟩⟩⟩⟩⟩⟩⟩⟩⟩⟩⟩⟩⟩⟩⟩⟩⟩⟩⟩⟩⟩⟩
set_option maxRecDepth 20000 in
theorem wsL_law0_r31_in : ∀ w ∈ wsL_law0_r31, w ∈ lw_tbl := List.forall_mem_cons.mpr ⟨lwt_t2 (List.mem_of_getElem? (i := 176) rfl), List.forall_mem_cons.mpr ⟨lwt_t2 (List.mem_of_getElem? (i := 177) rfl), List.forall_mem_cons.mpr ⟨lwt_t2 (List.mem_of_getElem? (i := 178) rfl), List.forall_mem_cons.mpr ⟨lwt_t2 (List.mem_of_getElem? (i := 86) rfl), List.forall_mem_cons.mpr ⟨lwt_t5 (List.mem_of_getElem? (i := 229) rfl), List.forall_mem_cons.mpr ⟨lwt_t5 (List.mem_of_getElem? (i := 230) rfl), List.forall_mem_cons.mpr ⟨lwt_t5 (List.mem_of_getElem? (i := 231) rfl), List.forall_mem_cons.mpr ⟨lwt_t5 (List.mem_of_getElem? (i := 232) rfl), List.forall_mem_cons.mpr ⟨lwt_t2 (List.mem_of_getElem? (i := 179) rfl), List.forall_mem_cons.mpr ⟨lwt_t2 (List.mem_of_getElem? (i := 180) rfl), List.forall_mem_cons.mpr ⟨lwt_t2 (List.mem_of_getElem? (i := 181) rfl), List.forall_mem_cons.mpr ⟨lwt_t2 (List.mem_of_getElem? (i := 182) rfl), List.forall_mem_cons.mpr ⟨lwt_t2 (List.mem_of_getElem? (i := 183) rfl), List.forall_mem_cons.mpr ⟨lwt_t2 (List.mem_of_getElem? (i := 184) rfl), List.forall_mem_cons.mpr ⟨lwt_t5 (List.mem_of_getElem? (i := 233) rfl), List.forall_mem_cons.mpr ⟨lwt_t5 (List.mem_of_getElem? (i := 234) rfl), List.forall_mem_cons.mpr ⟨lwt_t5 (List.mem_of_getElem? (i := 235) rfl), List.forall_mem_cons.mpr ⟨lwt_t5 (List.mem_of_getElem? (i := 236) rfl), List.forall_mem_cons.mpr ⟨lwt_t4 (List.mem_of_getElem? (i := 91) rfl), List.forall_mem_cons.mpr ⟨lwt_t4 (List.mem_of_getElem? (i := 92) rfl), List.forall_mem_cons.mpr ⟨lwt_t4 (List.mem_of_getElem? (i := 93) rfl), List.forall_mem_cons.mpr ⟨lwt_t4 (List.mem_of_getElem? (i := 94) rfl), List.forall_mem_cons.mpr ⟨lwt_t4 (List.mem_of_getElem? (i := 95) rfl), List.forall_mem_cons.mpr ⟨lwt_t4 (List.mem_of_getElem? (i := 96) rfl), fun _ h => absurd h List.not_mem_nil⟩⟩⟩⟩⟩⟩⟩⟩⟩⟩⟩⟩⟩⟩⟩⟩⟩⟩⟩⟩⟩⟩⟩⟩
set_option maxRecDepth 20000 in
theorem wsL_law0_r32_in : ∀ w ∈ wsL_law0_r32, w ∈ lw_tbl := List.forall_mem_cons.mpr ⟨lwt_t4 (List.mem_of_getElem? (i := 97) rfl), List.forall_mem_cons.mpr ⟨lwt_t1 (List.mem_of_getElem? (i := 151) rfl), List.forall_mem_cons.mpr ⟨lwt_t4 (List.mem_of_getElem? (i := 100) rfl), List.forall_mem_cons.mpr ⟨lwt_t4 (List.mem_of_getElem? (i := 101) rfl), List.forall_mem_cons.mpr ⟨lwt_t4 (List.mem_of_getElem? (i := 102) rfl), List.forall_mem_cons.mpr ⟨lwt_t4 (List.mem_of_getElem? (i := 103) rfl), List.forall_mem_cons.mpr ⟨lwt_t5 (List.mem_of_getElem? (i := 237) rfl), List.forall_mem_cons.mpr ⟨lwt_t5 (List.mem_of_getElem? (i := 238) rfl), List.forall_mem_cons.mpr ⟨lwt_t5 (List.mem_of_getElem? (i := 239) rfl), List.forall_mem_cons.mpr ⟨lwt_t6 (List.mem_of_getElem? (i := 0) rfl), List.forall_mem_cons.mpr ⟨lwt_t4 (List.mem_of_getElem? (i := 145) rfl), List.forall_mem_cons.mpr ⟨lwt_t2 (List.mem_of_getElem? (i := 185) rfl), List.forall_mem_cons.mpr ⟨lwt_t2 (List.mem_of_getElem? (i := 186) rfl), List.forall_mem_cons.mpr ⟨lwt_t2 (List.mem_of_getElem? (i := 187) rfl), List.forall_mem_cons.mpr ⟨lwt_t2 (List.mem_of_getElem? (i := 188) rfl), List.forall_mem_cons.mpr ⟨lwt_t6 (List.mem_of_getElem? (i := 1) rfl), List.forall_mem_cons.mpr ⟨lwt_t6 (List.mem_of_getElem? (i := 2) rfl), List.forall_mem_cons.mpr ⟨lwt_t6 (List.mem_of_getElem? (i := 3) rfl), List.forall_mem_cons.mpr ⟨lwt_t6 (List.mem_of_getElem? (i := 4) rfl), List.forall_mem_cons.mpr ⟨lwt_t2 (List.mem_of_getElem? (i := 189) rfl), List.forall_mem_cons.mpr ⟨lwt_t2 (List.mem_of_getElem? (i := 190) rfl), List.forall_mem_cons.mpr ⟨lwt_t2 (List.mem_of_getElem? (i := 191) rfl), List.forall_mem_cons.mpr ⟨lwt_t2 (List.mem_of_getElem? (i := 192) rfl), List.forall_mem_cons.mpr ⟨lwt_t2 (List.mem_of_getElem? (i := 193) rfl), fun _ h => absurd h List.not_mem_nil⟩⟩⟩⟩⟩⟩⟩⟩⟩⟩⟩⟩⟩⟩⟩⟩⟩⟩⟩⟩⟩⟩⟩⟩
set_option maxRecDepth 20000 in
theorem wsL_law0_r33_in : ∀ w ∈ wsL_law0_r33, w ∈ lw_tbl := List.forall_mem_cons.mpr ⟨lwt_t2 (List.mem_of_getElem? (i := 194) rfl), List.forall_mem_cons.mpr ⟨lwt_t2 (List.mem_of_getElem? (i := 195) rfl), List.forall_mem_cons.mpr ⟨lwt_t2 (List.mem_of_getElem? (i := 196) rfl), List.forall_mem_cons.mpr ⟨lwt_t2 (List.mem_of_getElem? (i := 197) rfl), List.forall_mem_cons.mpr ⟨lwt_t2 (List.mem_of_getElem? (i := 198) rfl), List.forall_mem_cons.mpr ⟨lwt_t2 (List.mem_of_getElem? (i := 199) rfl), List.forall_mem_cons.mpr ⟨lwt_t2 (List.mem_of_getElem? (i := 200) rfl), List.forall_mem_cons.mpr ⟨lwt_t2 (List.mem_of_getElem? (i := 202) rfl), List.forall_mem_cons.mpr ⟨lwt_t2 (List.mem_of_getElem? (i := 204) rfl), List.forall_mem_cons.mpr ⟨lwt_p (List.mem_of_getElem? (i := 9) rfl), List.forall_mem_cons.mpr ⟨lwt_t2 (List.mem_of_getElem? (i := 205) rfl), List.forall_mem_cons.mpr ⟨lwt_t2 (List.mem_of_getElem? (i := 206) rfl), List.forall_mem_cons.mpr ⟨lwt_t2 (List.mem_of_getElem? (i := 207) rfl), List.forall_mem_cons.mpr ⟨lwt_t2 (List.mem_of_getElem? (i := 208) rfl), List.forall_mem_cons.mpr ⟨lwt_t1 (List.mem_of_getElem? (i := 17) rfl), List.forall_mem_cons.mpr ⟨lwt_t2 (List.mem_of_getElem? (i := 209) rfl), List.forall_mem_cons.mpr ⟨lwt_t2 (List.mem_of_getElem? (i := 210) rfl), List.forall_mem_cons.mpr ⟨lwt_t2 (List.mem_of_getElem? (i := 211) rfl), List.forall_mem_cons.mpr ⟨lwt_t2 (List.mem_of_getElem? (i := 212) rfl), List.forall_mem_cons.mpr ⟨lwt_t2 (List.mem_of_getElem? (i := 213) rfl), List.forall_mem_cons.mpr ⟨lwt_t6 (List.mem_of_getElem? (i := 50) rfl), List.forall_mem_cons.mpr ⟨lwt_t2 (List.mem_of_getElem? (i := 214) rfl), List.forall_mem_cons.mpr ⟨lwt_t2 (List.mem_of_getElem? (i := 215) rfl), List.forall_mem_cons.mpr ⟨lwt_t2 (List.mem_of_getElem? (i := 216) rfl), fun _ h => absurd h List.not_mem_nil⟩⟩⟩⟩⟩⟩⟩⟩⟩⟩⟩⟩⟩⟩⟩⟩⟩⟩⟩⟩⟩⟩⟩⟩
set_option maxRecDepth 20000 in
theorem wsL_law0_r34_in : ∀ w ∈ wsL_law0_r34, w ∈ lw_tbl := List.forall_mem_cons.mpr ⟨lwt_t2 (List.mem_of_getElem? (i := 217) rfl), List.forall_mem_cons.mpr ⟨lwt_t2 (List.mem_of_getElem? (i := 218) rfl), List.forall_mem_cons.mpr ⟨lwt_t6 (List.mem_of_getElem? (i := 49) rfl), List.forall_mem_cons.mpr ⟨lwt_t2 (List.mem_of_getElem? (i := 220) rfl), List.forall_mem_cons.mpr ⟨lwt_t2 (List.mem_of_getElem? (i := 221) rfl), List.forall_mem_cons.mpr ⟨lwt_t2 (List.mem_of_getElem? (i := 222) rfl), List.forall_mem_cons.mpr ⟨lwt_t2 (List.mem_of_getElem? (i := 223) rfl), List.forall_mem_cons.mpr ⟨lwt_t2 (List.mem_of_getElem? (i := 224) rfl), List.forall_mem_cons.mpr ⟨lwt_t2 (List.mem_of_getElem? (i := 225) rfl), List.forall_mem_cons.mpr ⟨lwt_t2 (List.mem_of_getElem? (i := 226) rfl), List.forall_mem_cons.mpr ⟨lwt_t2 (List.mem_of_getElem? (i := 227) rfl), List.forall_mem_cons.mpr ⟨lwt_t2 (List.mem_of_getElem? (i := 228) rfl), List.forall_mem_cons.mpr ⟨lwt_t2 (List.mem_of_getElem? (i := 229) rfl), List.forall_mem_cons.mpr ⟨lwt_t1 (List.mem_of_getElem? (i := 18) rfl), List.forall_mem_cons.mpr ⟨lwt_t2 (List.mem_of_getElem? (i := 230) rfl), List.forall_mem_cons.mpr ⟨lwt_t2 (List.mem_of_getElem? (i := 234) rfl), List.forall_mem_cons.mpr ⟨lwt_t2 (List.mem_of_getElem? (i := 235) rfl), List.forall_mem_cons.mpr ⟨lwt_t2 (List.mem_of_getElem? (i := 231) rfl), List.forall_mem_cons.mpr ⟨lwt_t2 (List.mem_of_getElem? (i := 232) rfl), List.forall_mem_cons.mpr ⟨lwt_t2 (List.mem_of_getElem? (i := 233) rfl), List.forall_mem_cons.mpr ⟨lwt_t2 (List.mem_of_getElem? (i := 236) rfl), List.forall_mem_cons.mpr ⟨lwt_t2 (List.mem_of_getElem? (i := 237) rfl), List.forall_mem_cons.mpr ⟨lwt_t2 (List.mem_of_getElem? (i := 238) rfl), List.forall_mem_cons.mpr ⟨lwt_t2 (List.mem_of_getElem? (i := 239) rfl), fun _ h => absurd h List.not_mem_nil⟩⟩⟩⟩⟩⟩⟩⟩⟩⟩⟩⟩⟩⟩⟩⟩⟩⟩⟩⟩⟩⟩⟩⟩
set_option maxRecDepth 20000 in
theorem wsL_law0_r35_in : ∀ w ∈ wsL_law0_r35, w ∈ lw_tbl := List.forall_mem_cons.mpr ⟨lwt_t3 (List.mem_of_getElem? (i := 0) rfl), List.forall_mem_cons.mpr ⟨lwt_t1 (List.mem_of_getElem? (i := 19) rfl), List.forall_mem_cons.mpr ⟨lwt_t3 (List.mem_of_getElem? (i := 1) rfl), List.forall_mem_cons.mpr ⟨lwt_t3 (List.mem_of_getElem? (i := 2) rfl), List.forall_mem_cons.mpr ⟨lwt_t3 (List.mem_of_getElem? (i := 3) rfl), List.forall_mem_cons.mpr ⟨lwt_t3 (List.mem_of_getElem? (i := 4) rfl), List.forall_mem_cons.mpr ⟨lwt_t3 (List.mem_of_getElem? (i := 5) rfl), List.forall_mem_cons.mpr ⟨lwt_t3 (List.mem_of_getElem? (i := 6) rfl), List.forall_mem_cons.mpr ⟨lwt_t3 (List.mem_of_getElem? (i := 7) rfl), List.forall_mem_cons.mpr ⟨lwt_t3 (List.mem_of_getElem? (i := 8) rfl), List.forall_mem_cons.mpr ⟨lwt_t3 (List.mem_of_getElem? (i := 9) rfl), List.forall_mem_cons.mpr ⟨lwt_t3 (List.mem_of_getElem? (i := 10) rfl), List.forall_mem_cons.mpr ⟨lwt_t3 (List.mem_of_getElem? (i := 11) rfl), List.forall_mem_cons.mpr ⟨lwt_t3 (List.mem_of_getElem? (i := 12) rfl), List.forall_mem_cons.mpr ⟨lwt_t3 (List.mem_of_getElem? (i := 13) rfl), List.forall_mem_cons.mpr ⟨lwt_t3 (List.mem_of_getElem? (i := 14) rfl), List.forall_mem_cons.mpr ⟨lwt_t3 (List.mem_of_getElem? (i := 15) rfl), List.forall_mem_cons.mpr ⟨lwt_t3 (List.mem_of_getElem? (i := 16) rfl), List.forall_mem_cons.mpr ⟨lwt_t3 (List.mem_of_getElem? (i := 17) rfl), List.forall_mem_cons.mpr ⟨lwt_t3 (List.mem_of_getElem? (i := 19) rfl), List.forall_mem_cons.mpr ⟨lwt_t3 (List.mem_of_getElem? (i := 20) rfl), List.forall_mem_cons.mpr ⟨lwt_t1 (List.mem_of_getElem? (i := 20) rfl), List.forall_mem_cons.mpr ⟨lwt_t3 (List.mem_of_getElem? (i := 21) rfl), List.forall_mem_cons.mpr ⟨lwt_t3 (List.mem_of_getElem? (i := 22) rfl), fun _ h => absurd h List.not_mem_nil⟩⟩⟩⟩⟩⟩⟩⟩⟩⟩⟩⟩⟩⟩⟩⟩⟩⟩⟩⟩⟩⟩⟩⟩
set_option maxRecDepth 20000 in
theorem wsL_law0_r36_in : ∀ w ∈ wsL_law0_r36, w ∈ lw_tbl := List.forall_mem_cons.mpr ⟨lwt_t3 (List.mem_of_getElem? (i := 23) rfl), List.forall_mem_cons.mpr ⟨lwt_t3 (List.mem_of_getElem? (i := 24) rfl), List.forall_mem_cons.mpr ⟨lwt_t3 (List.mem_of_getElem? (i := 25) rfl), List.forall_mem_cons.mpr ⟨lwt_t3 (List.mem_of_getElem? (i := 26) rfl), List.forall_mem_cons.mpr ⟨lwt_t3 (List.mem_of_getElem? (i := 27) rfl), List.forall_mem_cons.mpr ⟨lwt_t3 (List.mem_of_getElem? (i := 28) rfl), List.forall_mem_cons.mpr ⟨lwt_t3 (List.mem_of_getElem? (i := 30) rfl), List.forall_mem_cons.mpr ⟨lwt_t3 (List.mem_of_getElem? (i := 32) rfl), List.forall_mem_cons.mpr ⟨lwt_t3 (List.mem_of_getElem? (i := 34) rfl), List.forall_mem_cons.mpr ⟨lwt_t3 (List.mem_of_getElem? (i := 35) rfl), List.forall_mem_cons.mpr ⟨lwt_t3 (List.mem_of_getElem? (i := 36) rfl), List.forall_mem_cons.mpr ⟨lwt_t3 (List.mem_of_getElem? (i := 37) rfl), List.forall_mem_cons.mpr ⟨lwt_t3 (List.mem_of_getElem? (i := 38) rfl), List.forall_mem_cons.mpr ⟨lwt_t1 (List.mem_of_getElem? (i := 21) rfl), List.forall_mem_cons.mpr ⟨lwt_t3 (List.mem_of_getElem? (i := 39) rfl), List.forall_mem_cons.mpr ⟨lwt_t3 (List.mem_of_getElem? (i := 40) rfl), List.forall_mem_cons.mpr ⟨lwt_t3 (List.mem_of_getElem? (i := 41) rfl), List.forall_mem_cons.mpr ⟨lwt_t3 (List.mem_of_getElem? (i := 42) rfl), List.forall_mem_cons.mpr ⟨lwt_t3 (List.mem_of_getElem? (i := 43) rfl), List.forall_mem_cons.mpr ⟨lwt_t3 (List.mem_of_getElem? (i := 44) rfl), List.forall_mem_cons.mpr ⟨lwt_t3 (List.mem_of_getElem? (i := 45) rfl), List.forall_mem_cons.mpr ⟨lwt_t3 (List.mem_of_getElem? (i := 46) rfl), List.forall_mem_cons.mpr ⟨lwt_t3 (List.mem_of_getElem? (i := 47) rfl), List.forall_mem_cons.mpr ⟨lwt_t3 (List.mem_of_getElem? (i := 48) rfl), fun _ h => absurd h List.not_mem_nil⟩⟩⟩⟩⟩⟩⟩⟩⟩⟩⟩⟩⟩⟩⟩⟩⟩⟩⟩⟩⟩⟩⟩⟩
set_option maxRecDepth 20000 in
theorem wsL_law0_r37_in : ∀ w ∈ wsL_law0_r37, w ∈ lw_tbl := List.forall_mem_cons.mpr ⟨lwt_t3 (List.mem_of_getElem? (i := 50) rfl), List.forall_mem_cons.mpr ⟨lwt_p (List.mem_of_getElem? (i := 10) rfl), List.forall_mem_cons.mpr ⟨lwt_t3 (List.mem_of_getElem? (i := 51) rfl), List.forall_mem_cons.mpr ⟨lwt_t3 (List.mem_of_getElem? (i := 52) rfl), List.forall_mem_cons.mpr ⟨lwt_t3 (List.mem_of_getElem? (i := 53) rfl), List.forall_mem_cons.mpr ⟨lwt_t3 (List.mem_of_getElem? (i := 54) rfl), List.forall_mem_cons.mpr ⟨lwt_t3 (List.mem_of_getElem? (i := 55) rfl), List.forall_mem_cons.mpr ⟨lwt_t3 (List.mem_of_getElem? (i := 57) rfl), List.forall_mem_cons.mpr ⟨lwt_t3 (List.mem_of_getElem? (i := 58) rfl), List.forall_mem_cons.mpr ⟨lwt_t3 (List.mem_of_getElem? (i := 59) rfl), List.forall_mem_cons.mpr ⟨lwt_t3 (List.mem_of_getElem? (i := 60) rfl), List.forall_mem_cons.mpr ⟨lwt_t3 (List.mem_of_getElem? (i := 61) rfl), List.forall_mem_cons.mpr ⟨lwt_t3 (List.mem_of_getElem? (i := 62) rfl), List.forall_mem_cons.mpr ⟨lwt_t3 (List.mem_of_getElem? (i := 63) rfl), List.forall_mem_cons.mpr ⟨lwt_t3 (List.mem_of_getElem? (i := 64) rfl), List.forall_mem_cons.mpr ⟨lwt_t3 (List.mem_of_getElem? (i := 65) rfl), List.forall_mem_cons.mpr ⟨lwt_t3 (List.mem_of_getElem? (i := 66) rfl), List.forall_mem_cons.mpr ⟨lwt_t3 (List.mem_of_getElem? (i := 67) rfl), List.forall_mem_cons.mpr ⟨lwt_t3 (List.mem_of_getElem? (i := 68) rfl), List.forall_mem_cons.mpr ⟨lwt_t3 (List.mem_of_getElem? (i := 69) rfl), List.forall_mem_cons.mpr ⟨lwt_t3 (List.mem_of_getElem? (i := 70) rfl), List.forall_mem_cons.mpr ⟨lwt_t3 (List.mem_of_getElem? (i := 71) rfl), List.forall_mem_cons.mpr ⟨lwt_t3 (List.mem_of_getElem? (i := 72) rfl), List.forall_mem_cons.mpr ⟨lwt_t3 (List.mem_of_getElem? (i := 73) rfl), fun _ h => absurd h List.not_mem_nil⟩⟩⟩⟩⟩⟩⟩⟩⟩⟩⟩⟩⟩⟩⟩⟩⟩⟩⟩⟩⟩⟩⟩⟩
set_option maxRecDepth 20000 in
theorem wsL_law0_r38_in : ∀ w ∈ wsL_law0_r38, w ∈ lw_tbl := List.forall_mem_cons.mpr ⟨lwt_t3 (List.mem_of_getElem? (i := 74) rfl), List.forall_mem_cons.mpr ⟨lwt_t3 (List.mem_of_getElem? (i := 75) rfl), List.forall_mem_cons.mpr ⟨lwt_t3 (List.mem_of_getElem? (i := 76) rfl), List.forall_mem_cons.mpr ⟨lwt_t3 (List.mem_of_getElem? (i := 77) rfl), List.forall_mem_cons.mpr ⟨lwt_t3 (List.mem_of_getElem? (i := 79) rfl), List.forall_mem_cons.mpr ⟨lwt_p (List.mem_of_getElem? (i := 11) rfl), List.forall_mem_cons.mpr ⟨lwt_t3 (List.mem_of_getElem? (i := 80) rfl), List.forall_mem_cons.mpr ⟨lwt_t6 (List.mem_of_getElem? (i := 5) rfl), List.forall_mem_cons.mpr ⟨lwt_t6 (List.mem_of_getElem? (i := 6) rfl), List.forall_mem_cons.mpr ⟨lwt_t6 (List.mem_of_getElem? (i := 7) rfl), List.forall_mem_cons.mpr ⟨lwt_t6 (List.mem_of_getElem? (i := 8) rfl), List.forall_mem_cons.mpr ⟨lwt_t6 (List.mem_of_getElem? (i := 9) rfl), List.forall_mem_cons.mpr ⟨lwt_t6 (List.mem_of_getElem? (i := 11) rfl), List.forall_mem_cons.mpr ⟨lwt_p (List.mem_of_getElem? (i := 46) rfl), List.forall_mem_cons.mpr ⟨lwt_t6 (List.mem_of_getElem? (i := 12) rfl), List.forall_mem_cons.mpr ⟨lwt_t4 (List.mem_of_getElem? (i := 162) rfl), List.forall_mem_cons.mpr ⟨lwt_t6 (List.mem_of_getElem? (i := 13) rfl), List.forall_mem_cons.mpr ⟨lwt_t6 (List.mem_of_getElem? (i := 15) rfl), List.forall_mem_cons.mpr ⟨lwt_p (List.mem_of_getElem? (i := 47) rfl), List.forall_mem_cons.mpr ⟨lwt_t6 (List.mem_of_getElem? (i := 16) rfl), List.forall_mem_cons.mpr ⟨lwt_t4 (List.mem_of_getElem? (i := 163) rfl), List.forall_mem_cons.mpr ⟨lwt_t4 (List.mem_of_getElem? (i := 166) rfl), List.forall_mem_cons.mpr ⟨lwt_t4 (List.mem_of_getElem? (i := 164) rfl), List.forall_mem_cons.mpr ⟨lwt_t6 (List.mem_of_getElem? (i := 17) rfl), fun _ h => absurd h List.not_mem_nil⟩⟩⟩⟩⟩⟩⟩⟩⟩⟩⟩⟩⟩⟩⟩⟩⟩⟩⟩⟩⟩⟩⟩⟩
set_option maxRecDepth 20000 in
theorem wsL_law0_r39_in : ∀ w ∈ wsL_law0_r39, w ∈ lw_tbl := List.forall_mem_cons.mpr ⟨lwt_t6 (List.mem_of_getElem? (i := 19) rfl), List.forall_mem_cons.mpr ⟨lwt_p (List.mem_of_getElem? (i := 48) rfl), List.forall_mem_cons.mpr ⟨lwt_t6 (List.mem_of_getElem? (i := 20) rfl), List.forall_mem_cons.mpr ⟨lwt_t6 (List.mem_of_getElem? (i := 21) rfl), List.forall_mem_cons.mpr ⟨lwt_t6 (List.mem_of_getElem? (i := 23) rfl), List.forall_mem_cons.mpr ⟨lwt_p (List.mem_of_getElem? (i := 49) rfl), List.forall_mem_cons.mpr ⟨lwt_t6 (List.mem_of_getElem? (i := 24) rfl), List.forall_mem_cons.mpr ⟨lwt_t6 (List.mem_of_getElem? (i := 25) rfl), List.forall_mem_cons.mpr ⟨lwt_t6 (List.mem_of_getElem? (i := 27) rfl), List.forall_mem_cons.mpr ⟨lwt_p (List.mem_of_getElem? (i := 50) rfl), List.forall_mem_cons.mpr ⟨lwt_t6 (List.mem_of_getElem? (i := 28) rfl), List.forall_mem_cons.mpr ⟨lwt_t4 (List.mem_of_getElem? (i := 165) rfl), List.forall_mem_cons.mpr ⟨lwt_t6 (List.mem_of_getElem? (i := 29) rfl), List.forall_mem_cons.mpr ⟨lwt_t6 (List.mem_of_getElem? (i := 31) rfl), List.forall_mem_cons.mpr ⟨lwt_p (List.mem_of_getElem? (i := 51) rfl), List.forall_mem_cons.mpr ⟨lwt_t6 (List.mem_of_getElem? (i := 32) rfl), List.forall_mem_cons.mpr ⟨lwt_t4 (List.mem_of_getElem? (i := 104) rfl), List.forall_mem_cons.mpr ⟨lwt_t4 (List.mem_of_getElem? (i := 105) rfl), List.forall_mem_cons.mpr ⟨lwt_t4 (List.mem_of_getElem? (i := 106) rfl), List.forall_mem_cons.mpr ⟨lwt_t4 (List.mem_of_getElem? (i := 107) rfl), List.forall_mem_cons.mpr ⟨lwt_t4 (List.mem_of_getElem? (i := 108) rfl), List.forall_mem_cons.mpr ⟨lwt_t4 (List.mem_of_getElem? (i := 109) rfl), List.forall_mem_cons.mpr ⟨lwt_t4 (List.mem_of_getElem? (i := 110) rfl), List.forall_mem_cons.mpr ⟨lwt_t1 (List.mem_of_getElem? (i := 153) rfl), fun _ h => absurd h List.not_mem_nil⟩⟩⟩⟩⟩⟩⟩⟩⟩⟩⟩⟩⟩⟩⟩⟩⟩⟩⟩⟩⟩⟩⟩⟩
set_option maxRecDepth 20000 in
theorem wsL_law0_r40_in : ∀ w ∈ wsL_law0_r40, w ∈ lw_tbl := List.forall_mem_cons.mpr ⟨lwt_t1 (List.mem_of_getElem? (i := 155) rfl), List.forall_mem_cons.mpr ⟨lwt_t1 (List.mem_of_getElem? (i := 157) rfl), List.forall_mem_cons.mpr ⟨lwt_t1 (List.mem_of_getElem? (i := 159) rfl), List.forall_mem_cons.mpr ⟨lwt_t4 (List.mem_of_getElem? (i := 112) rfl), List.forall_mem_cons.mpr ⟨lwt_t4 (List.mem_of_getElem? (i := 113) rfl), List.forall_mem_cons.mpr ⟨lwt_t6 (List.mem_of_getElem? (i := 33) rfl), List.forall_mem_cons.mpr ⟨lwt_t6 (List.mem_of_getElem? (i := 34) rfl), List.forall_mem_cons.mpr ⟨lwt_t6 (List.mem_of_getElem? (i := 35) rfl), List.forall_mem_cons.mpr ⟨lwt_t6 (List.mem_of_getElem? (i := 36) rfl), List.forall_mem_cons.mpr ⟨lwt_t4 (List.mem_of_getElem? (i := 114) rfl), List.forall_mem_cons.mpr ⟨lwt_t4 (List.mem_of_getElem? (i := 115) rfl), List.forall_mem_cons.mpr ⟨lwt_t4 (List.mem_of_getElem? (i := 116) rfl), List.forall_mem_cons.mpr ⟨lwt_t4 (List.mem_of_getElem? (i := 117) rfl), List.forall_mem_cons.mpr ⟨lwt_t4 (List.mem_of_getElem? (i := 118) rfl), List.forall_mem_cons.mpr ⟨lwt_t4 (List.mem_of_getElem? (i := 119) rfl), List.forall_mem_cons.mpr ⟨lwt_t4 (List.mem_of_getElem? (i := 120) rfl), List.forall_mem_cons.mpr ⟨lwt_t1 (List.mem_of_getElem? (i := 84) rfl), List.forall_mem_cons.mpr ⟨lwt_t4 (List.mem_of_getElem? (i := 122) rfl), List.forall_mem_cons.mpr ⟨lwt_t4 (List.mem_of_getElem? (i := 123) rfl), List.forall_mem_cons.mpr ⟨lwt_t4 (List.mem_of_getElem? (i := 124) rfl), List.forall_mem_cons.mpr ⟨lwt_t4 (List.mem_of_getElem? (i := 125) rfl), List.forall_mem_cons.mpr ⟨lwt_t6 (List.mem_of_getElem? (i := 37) rfl), List.forall_mem_cons.mpr ⟨lwt_t6 (List.mem_of_getElem? (i := 38) rfl), List.forall_mem_cons.mpr ⟨lwt_t6 (List.mem_of_getElem? (i := 39) rfl), fun _ h => absurd h List.not_mem_nil⟩⟩⟩⟩⟩⟩⟩⟩⟩⟩⟩⟩⟩⟩⟩⟩⟩⟩⟩⟩⟩⟩⟩⟩
set_option maxRecDepth 20000 in
theorem wsL_law0_r41_in : ∀ w ∈ wsL_law0_r41, w ∈ lw_tbl := List.forall_mem_cons.mpr ⟨lwt_t6 (List.mem_of_getElem? (i := 40) rfl), List.forall_mem_cons.mpr ⟨lwt_t3 (List.mem_of_getElem? (i := 82) rfl), List.forall_mem_cons.mpr ⟨lwt_t3 (List.mem_of_getElem? (i := 83) rfl), List.forall_mem_cons.mpr ⟨lwt_t3 (List.mem_of_getElem? (i := 84) rfl), List.forall_mem_cons.mpr ⟨lwt_t3 (List.mem_of_getElem? (i := 85) rfl), List.forall_mem_cons.mpr ⟨lwt_t3 (List.mem_of_getElem? (i := 86) rfl), List.forall_mem_cons.mpr ⟨lwt_t3 (List.mem_of_getElem? (i := 87) rfl), List.forall_mem_cons.mpr ⟨lwt_t3 (List.mem_of_getElem? (i := 88) rfl), List.forall_mem_cons.mpr ⟨lwt_t3 (List.mem_of_getElem? (i := 89) rfl), List.forall_mem_cons.mpr ⟨lwt_t3 (List.mem_of_getElem? (i := 90) rfl), List.forall_mem_cons.mpr ⟨lwt_t3 (List.mem_of_getElem? (i := 91) rfl), List.forall_mem_cons.mpr ⟨lwt_t3 (List.mem_of_getElem? (i := 92) rfl), List.forall_mem_cons.mpr ⟨lwt_t3 (List.mem_of_getElem? (i := 93) rfl), List.forall_mem_cons.mpr ⟨lwt_t3 (List.mem_of_getElem? (i := 94) rfl), List.forall_mem_cons.mpr ⟨lwt_t3 (List.mem_of_getElem? (i := 95) rfl), List.forall_mem_cons.mpr ⟨lwt_t3 (List.mem_of_getElem? (i := 96) rfl), List.forall_mem_cons.mpr ⟨lwt_t3 (List.mem_of_getElem? (i := 97) rfl), List.forall_mem_cons.mpr ⟨lwt_t3 (List.mem_of_getElem? (i := 98) rfl), List.forall_mem_cons.mpr ⟨lwt_t3 (List.mem_of_getElem? (i := 99) rfl), List.forall_mem_cons.mpr ⟨lwt_t3 (List.mem_of_getElem? (i := 100) rfl), List.forall_mem_cons.mpr ⟨lwt_t3 (List.mem_of_getElem? (i := 101) rfl), List.forall_mem_cons.mpr ⟨lwt_t3 (List.mem_of_getElem? (i := 102) rfl), List.forall_mem_cons.mpr ⟨lwt_t3 (List.mem_of_getElem? (i := 103) rfl), List.forall_mem_cons.mpr ⟨lwt_t6 (List.mem_of_getElem? (i := 41) rfl), fun _ h => absurd h List.not_mem_nil⟩⟩⟩⟩⟩⟩⟩⟩⟩⟩⟩⟩⟩⟩⟩⟩⟩⟩⟩⟩⟩⟩⟩⟩
set_option maxRecDepth 20000 in
theorem wsL_law0_r42_in : ∀ w ∈ wsL_law0_r42, w ∈ lw_tbl := List.forall_mem_cons.mpr ⟨lwt_t6 (List.mem_of_getElem? (i := 42) rfl), List.forall_mem_cons.mpr ⟨lwt_t6 (List.mem_of_getElem? (i := 43) rfl), List.forall_mem_cons.mpr ⟨lwt_t6 (List.mem_of_getElem? (i := 44) rfl), List.forall_mem_cons.mpr ⟨lwt_t6 (List.mem_of_getElem? (i := 45) rfl), List.forall_mem_cons.mpr ⟨lwt_t6 (List.mem_of_getElem? (i := 46) rfl), fun _ h => absurd h List.not_mem_nil⟩⟩⟩⟩⟩
set_option maxRecDepth 20000 in
theorem wsX00_in : ∀ w ∈ wsX00, w ∈ lw_tbl := List.forall_mem_cons.mpr ⟨lwt_t1 (List.mem_of_getElem? (i := 85) rfl), List.forall_mem_cons.mpr ⟨lwt_t1 (List.mem_of_getElem? (i := 87) rfl), List.forall_mem_cons.mpr ⟨lwt_t1 (List.mem_of_getElem? (i := 89) rfl), fun _ h => absurd h List.not_mem_nil⟩⟩⟩
set_option maxRecDepth 20000 in
theorem wsX10_in : ∀ w ∈ wsX10, w ∈ lw_tbl := List.forall_mem_cons.mpr ⟨lwt_t1 (List.mem_of_getElem? (i := 110) rfl), List.forall_mem_cons.mpr ⟨lwt_t1 (List.mem_of_getElem? (i := 112) rfl), List.forall_mem_cons.mpr ⟨lwt_t1 (List.mem_of_getElem? (i := 114) rfl), List.forall_mem_cons.mpr ⟨lwt_t1 (List.mem_of_getElem? (i := 116) rfl), List.forall_mem_cons.mpr ⟨lwt_t1 (List.mem_of_getElem? (i := 118) rfl), fun _ h => absurd h List.not_mem_nil⟩⟩⟩⟩⟩
set_option maxRecDepth 20000 in
theorem wsX20_in : ∀ w ∈ wsX20, w ∈ lw_tbl := List.forall_mem_cons.mpr ⟨lwt_t2 (List.mem_of_getElem? (i := 90) rfl), List.forall_mem_cons.mpr ⟨lwt_t2 (List.mem_of_getElem? (i := 92) rfl), List.forall_mem_cons.mpr ⟨lwt_t2 (List.mem_of_getElem? (i := 94) rfl), List.forall_mem_cons.mpr ⟨lwt_t2 (List.mem_of_getElem? (i := 96) rfl), List.forall_mem_cons.mpr ⟨lwt_t2 (List.mem_of_getElem? (i := 98) rfl), fun _ h => absurd h List.not_mem_nil⟩⟩⟩⟩⟩
set_option maxRecDepth 20000 in
theorem wsX30_in : ∀ w ∈ wsX30, w ∈ lw_tbl := List.forall_mem_cons.mpr ⟨lwt_t1 (List.mem_of_getElem? (i := 136) rfl), List.forall_mem_cons.mpr ⟨lwt_t1 (List.mem_of_getElem? (i := 138) rfl), List.forall_mem_cons.mpr ⟨lwt_t1 (List.mem_of_getElem? (i := 140) rfl), fun _ h => absurd h List.not_mem_nil⟩⟩⟩
set_option maxRecDepth 20000 in
theorem wsX40_in : ∀ w ∈ wsX40, w ∈ lw_tbl := List.forall_mem_cons.mpr ⟨lwt_t1 (List.mem_of_getElem? (i := 56) rfl), List.forall_mem_cons.mpr ⟨lwt_t1 (List.mem_of_getElem? (i := 58) rfl), List.forall_mem_cons.mpr ⟨lwt_t1 (List.mem_of_getElem? (i := 60) rfl), List.forall_mem_cons.mpr ⟨lwt_t1 (List.mem_of_getElem? (i := 62) rfl), List.forall_mem_cons.mpr ⟨lwt_t1 (List.mem_of_getElem? (i := 64) rfl), List.forall_mem_cons.mpr ⟨lwt_t1 (List.mem_of_getElem? (i := 66) rfl), List.forall_mem_cons.mpr ⟨lwt_t1 (List.mem_of_getElem? (i := 68) rfl), fun _ h => absurd h List.not_mem_nil⟩⟩⟩⟩⟩⟩⟩
set_option maxRecDepth 20000 in
theorem wsX50_in : ∀ w ∈ wsX50, w ∈ lw_tbl := List.forall_mem_cons.mpr ⟨lwt_t1 (List.mem_of_getElem? (i := 160) rfl), List.forall_mem_cons.mpr ⟨lwt_t1 (List.mem_of_getElem? (i := 162) rfl), List.forall_mem_cons.mpr ⟨lwt_t1 (List.mem_of_getElem? (i := 164) rfl), List.forall_mem_cons.mpr ⟨lwt_t1 (List.mem_of_getElem? (i := 166) rfl), List.forall_mem_cons.mpr ⟨lwt_t1 (List.mem_of_getElem? (i := 168) rfl), List.forall_mem_cons.mpr ⟨lwt_t1 (List.mem_of_getElem? (i := 170) rfl), fun _ h => absurd h List.not_mem_nil⟩⟩⟩⟩⟩⟩
set_option maxRecDepth 20000 in
theorem wsX60_in : ∀ w ∈ wsX60, w ∈ lw_tbl := List.forall_mem_cons.mpr ⟨lwt_t1 (List.mem_of_getElem? (i := 179) rfl), List.forall_mem_cons.mpr ⟨lwt_t1 (List.mem_of_getElem? (i := 181) rfl), List.forall_mem_cons.mpr ⟨lwt_t1 (List.mem_of_getElem? (i := 183) rfl), List.forall_mem_cons.mpr ⟨lwt_t1 (List.mem_of_getElem? (i := 185) rfl), List.forall_mem_cons.mpr ⟨lwt_t1 (List.mem_of_getElem? (i := 187) rfl), fun _ h => absurd h List.not_mem_nil⟩⟩⟩⟩⟩
set_option maxRecDepth 20000 in
theorem wsX70_in : ∀ w ∈ wsX70, w ∈ lw_tbl := List.forall_mem_cons.mpr ⟨lwt_t4 (List.mem_of_getElem? (i := 167) rfl), List.forall_mem_cons.mpr ⟨lwt_t4 (List.mem_of_getElem? (i := 169) rfl), List.forall_mem_cons.mpr ⟨lwt_t4 (List.mem_of_getElem? (i := 171) rfl), List.forall_mem_cons.mpr ⟨lwt_t4 (List.mem_of_getElem? (i := 173) rfl), List.forall_mem_cons.mpr ⟨lwt_t4 (List.mem_of_getElem? (i := 175) rfl), List.forall_mem_cons.mpr ⟨lwt_t4 (List.mem_of_getElem? (i := 177) rfl), List.forall_mem_cons.mpr ⟨lwt_t4 (List.mem_of_getElem? (i := 179) rfl), List.forall_mem_cons.mpr ⟨lwt_t4 (List.mem_of_getElem? (i := 181) rfl), List.forall_mem_cons.mpr ⟨lwt_t4 (List.mem_of_getElem? (i := 183) rfl), List.forall_mem_cons.mpr ⟨lwt_t4 (List.mem_of_getElem? (i := 185) rfl), List.forall_mem_cons.mpr ⟨lwt_t4 (List.mem_of_getElem? (i := 187) rfl), List.forall_mem_cons.mpr ⟨lwt_t4 (List.mem_of_getElem? (i := 189) rfl), List.forall_mem_cons.mpr ⟨lwt_t4 (List.mem_of_getElem? (i := 191) rfl), List.forall_mem_cons.mpr ⟨lwt_t4 (List.mem_of_getElem? (i := 193) rfl), List.forall_mem_cons.mpr ⟨lwt_t4 (List.mem_of_getElem? (i := 195) rfl), List.forall_mem_cons.mpr ⟨lwt_t4 (List.mem_of_getElem? (i := 197) rfl), List.forall_mem_cons.mpr ⟨lwt_t4 (List.mem_of_getElem? (i := 199) rfl), List.forall_mem_cons.mpr ⟨lwt_t4 (List.mem_of_getElem? (i := 201) rfl), List.forall_mem_cons.mpr ⟨lwt_t4 (List.mem_of_getElem? (i := 203) rfl), List.forall_mem_cons.mpr ⟨lwt_t4 (List.mem_of_getElem? (i := 205) rfl), List.forall_mem_cons.mpr ⟨lwt_t4 (List.mem_of_getElem? (i := 207) rfl), List.forall_mem_cons.mpr ⟨lwt_t4 (List.mem_of_getElem? (i := 209) rfl), List.forall_mem_cons.mpr ⟨lwt_t4 (List.mem_of_getElem? (i := 211) rfl), List.forall_mem_cons.mpr ⟨lwt_t4 (List.mem_of_getElem? (i := 213) rfl), List.forall_mem_cons.mpr ⟨lwt_t4 (List.mem_of_getElem? (i := 215) rfl), List.forall_mem_cons.mpr ⟨lwt_t4 (List.mem_of_getElem? (i := 217) rfl), List.forall_mem_cons.mpr ⟨lwt_t4 (List.mem_of_getElem? (i := 219) rfl), fun _ h => absurd h List.not_mem_nil⟩⟩⟩⟩⟩⟩⟩⟩⟩⟩⟩⟩⟩⟩⟩⟩⟩⟩⟩⟩⟩⟩⟩⟩⟩⟩⟩
theorem wsL_law0_rs_in : ∀ w ∈ (wsL_law0_r1 ++ (wsL_law0_r2 ++ (wsL_law0_r3 ++ (wsL_law0_r4 ++ (wsL_law0_r5 ++ (wsL_law0_r6 ++ (wsL_law0_r7 ++ (wsL_law0_r8 ++ (wsL_law0_r9 ++ (wsL_law0_r10 ++ (wsL_law0_r11 ++ (wsL_law0_r12 ++ (wsL_law0_r13 ++ (wsL_law0_r14 ++ (wsL_law0_r15 ++ (wsL_law0_r16 ++ (wsL_law0_r17 ++ (wsL_law0_r18 ++ (wsL_law0_r19 ++ (wsL_law0_r20 ++ (wsL_law0_r21 ++ (wsL_law0_r22 ++ (wsL_law0_r23 ++ (wsL_law0_r24 ++ (wsL_law0_r25 ++ (wsL_law0_r26 ++ (wsL_law0_r27 ++ (wsL_law0_r28 ++ (wsL_law0_r29 ++ (wsL_law0_r30 ++ (wsL_law0_r31 ++ (wsL_law0_r32 ++ (wsL_law0_r33 ++ (wsL_law0_r34 ++ (wsL_law0_r35 ++ (wsL_law0_r36 ++ (wsL_law0_r37 ++ (wsL_law0_r38 ++ (wsL_law0_r39 ++ (wsL_law0_r40 ++ (wsL_law0_r41 ++ (wsL_law0_r42)))))))))))))))))))))))))))))))))))))))))), w ∈ lw_tbl := List.forall_mem_append.mpr ⟨wsL_law0_r1_in, List.forall_mem_append.mpr ⟨wsL_law0_r2_in, List.forall_mem_append.mpr ⟨wsL_law0_r3_in, List.forall_mem_append.mpr ⟨wsL_law0_r4_in, List.forall_mem_append.mpr ⟨wsL_law0_r5_in, List.forall_mem_append.mpr ⟨wsL_law0_r6_in, List.forall_mem_append.mpr ⟨wsL_law0_r7_in, List.forall_mem_append.mpr ⟨wsL_law0_r8_in, List.forall_mem_append.mpr ⟨wsL_law0_r9_in, List.forall_mem_append.mpr ⟨wsL_law0_r10_in, List.forall_mem_append.mpr ⟨wsL_law0_r11_in, List.forall_mem_append.mpr ⟨wsL_law0_r12_in, List.forall_mem_append.mpr ⟨wsL_law0_r13_in, List.forall_mem_append.mpr ⟨wsL_law0_r14_in, List.forall_mem_append.mpr ⟨wsL_law0_r15_in, List.forall_mem_append.mpr ⟨wsL_law0_r16_in, List.forall_mem_append.mpr ⟨wsL_law0_r17_in, List.forall_mem_append.mpr ⟨wsL_law0_r18_in, List.forall_mem_append.mpr ⟨wsL_law0_r19_in, List.forall_mem_append.mpr ⟨wsL_law0_r20_in, List.forall_mem_append.mpr ⟨wsL_law0_r21_in, List.forall_mem_append.mpr ⟨wsL_law0_r22_in, List.forall_mem_append.mpr ⟨wsL_law0_r23_in, List.forall_mem_append.mpr ⟨wsL_law0_r24_in, List.forall_mem_append.mpr ⟨wsL_law0_r25_in, List.forall_mem_append.mpr ⟨wsL_law0_r26_in, List.forall_mem_append.mpr ⟨wsL_law0_r27_in, List.forall_mem_append.mpr ⟨wsL_law0_r28_in, List.forall_mem_append.mpr ⟨wsL_law0_r29_in, List.forall_mem_append.mpr ⟨wsL_law0_r30_in, List.forall_mem_append.mpr ⟨wsL_law0_r31_in, List.forall_mem_append.mpr ⟨wsL_law0_r32_in, List.forall_mem_append.mpr ⟨wsL_law0_r33_in, List.forall_mem_append.mpr ⟨wsL_law0_r34_in, List.forall_mem_append.mpr ⟨wsL_law0_r35_in, List.forall_mem_append.mpr ⟨wsL_law0_r36_in, List.forall_mem_append.mpr ⟨wsL_law0_r37_in, List.forall_mem_append.mpr ⟨wsL_law0_r38_in, List.forall_mem_append.mpr ⟨wsL_law0_r39_in, List.forall_mem_append.mpr ⟨wsL_law0_r40_in, List.forall_mem_append.mpr ⟨wsL_law0_r41_in, wsL_law0_r42_in⟩⟩⟩⟩⟩⟩⟩⟩⟩⟩⟩⟩⟩⟩⟩⟩⟩⟩⟩⟩⟩⟩⟩⟩⟩⟩⟩⟩⟩⟩⟩⟩⟩⟩⟩⟩⟩⟩⟩⟩⟩
set_option maxRecDepth 20000 in
theorem wsL_law_in0 : ∀ w ∈ wsL_law0, w ∈ lw_tbl := List.forall_mem_append.mpr ⟨List.forall_mem_append.mpr ⟨List.forall_mem_append.mpr ⟨List.forall_mem_append.mpr ⟨List.forall_mem_append.mpr ⟨List.forall_mem_append.mpr ⟨List.forall_mem_append.mpr ⟨List.forall_mem_append.mpr ⟨List.forall_mem_append.mpr ⟨wsL_law0_rs_in, wsX60_in⟩, wsX70_in⟩, wsX40_in⟩, wsX00_in⟩, wsX10_in⟩, wsX30_in⟩, wsX50_in⟩, wsX20_in⟩, fun _ h => absurd h List.not_mem_nil⟩
theorem wsL_law_x0 : ∀ w ∈ (vx_atS RX6 59 "java/lang/IllegalArgumentException" ["java/lang/RuntimeException", "java/lang/Exception"]).filter goodWord, w ∈ lw_tbl := by decide +kernel
theorem wsL_law_x1 : ∀ w ∈ (vx_atS RX6 66 "java/lang/IllegalStateException" ["java/lang/RuntimeException", "java/lang/Exception"]).filter goodWord, w ∈ lw_tbl := by decide +kernel
theorem wsL_law_x2 : ∀ w ∈ (vx_atS RX6 287 "java/lang/IndexOutOfBoundsException" ["java/lang/RuntimeException", "java/lang/Exception"]).filter goodWord, w ∈ lw_tbl := by decide +kernel
theorem wsL_law_in : ∀ w ∈ wsL_law, w ∈ lw_tbl := fun w h => (List.mem_append.mp h).elim (fun h => (List.mem_append.mp h).elim (fun h => (List.mem_append.mp h).elim (fun h => wsL_law_in0 w h) (fun h => wsL_law_x0 w h)) (fun h => wsL_law_x1 w h)) (fun h => wsL_law_x2 w h)
theorem inlX0 : ∀ w ∈ wsX00, w ∈ wsL_law := fun _ h => List.mem_append_left _ (List.mem_append_left _ (List.mem_append_left _ (List.mem_append_left _ (List.mem_append_left _ (List.mem_append_left _ (List.mem_append_left _ (List.mem_append_left _ (List.mem_append_right _ h))))))))
theorem inX0 : ∀ w ∈ wsX00, w ∈ lw_tbl := fun w h => wsL_law_in w (inlX0 w h)
theorem inlX1 : ∀ w ∈ wsX10, w ∈ wsL_law := fun _ h => List.mem_append_left _ (List.mem_append_left _ (List.mem_append_left _ (List.mem_append_left _ (List.mem_append_left _ (List.mem_append_left _ (List.mem_append_left _ (List.mem_append_right _ h)))))))
theorem inX1 : ∀ w ∈ wsX10, w ∈ lw_tbl := fun w h => wsL_law_in w (inlX1 w h)
theorem inlX2 : ∀ w ∈ wsX20, w ∈ wsL_law := fun _ h => List.mem_append_left _ (List.mem_append_left _ (List.mem_append_left _ (List.mem_append_left _ (List.mem_append_right _ h))))
theorem inX2 : ∀ w ∈ wsX20, w ∈ lw_tbl := fun w h => wsL_law_in w (inlX2 w h)
theorem inlX3 : ∀ w ∈ wsX30, w ∈ wsL_law := fun _ h => List.mem_append_left _ (List.mem_append_left _ (List.mem_append_left _ (List.mem_append_left _ (List.mem_append_left _ (List.mem_append_left _ (List.mem_append_right _ h))))))
theorem inX3 : ∀ w ∈ wsX30, w ∈ lw_tbl := fun w h => wsL_law_in w (inlX3 w h)
theorem inlX4 : ∀ w ∈ wsX40, w ∈ wsL_law := fun _ h => List.mem_append_left _ (List.mem_append_left _ (List.mem_append_left _ (List.mem_append_left _ (List.mem_append_left _ (List.mem_append_left _ (List.mem_append_left _ (List.mem_append_left _ (List.mem_append_left _ (List.mem_append_right _ h)))))))))
theorem inX4 : ∀ w ∈ wsX40, w ∈ lw_tbl := fun w h => wsL_law_in w (inlX4 w h)
theorem inlX5 : ∀ w ∈ wsX50, w ∈ wsL_law := fun _ h => List.mem_append_left _ (List.mem_append_left _ (List.mem_append_left _ (List.mem_append_left _ (List.mem_append_left _ (List.mem_append_right _ h)))))
theorem inX5 : ∀ w ∈ wsX50, w ∈ lw_tbl := fun w h => wsL_law_in w (inlX5 w h)
theorem inlX6 : ∀ w ∈ wsX60, w ∈ wsL_law := fun _ h => List.mem_append_left _ (List.mem_append_left _ (List.mem_append_left _ (List.mem_append_left _ (List.mem_append_left _ (List.mem_append_left _ (List.mem_append_left _ (List.mem_append_left _ (List.mem_append_left _ (List.mem_append_left _ (List.mem_append_left _ (List.mem_append_right _ h)))))))))))
theorem inX6 : ∀ w ∈ wsX60, w ∈ lw_tbl := fun w h => wsL_law_in w (inlX6 w h)
theorem inlX7 : ∀ w ∈ wsX70, w ∈ wsL_law := fun _ h => List.mem_append_left _ (List.mem_append_left _ (List.mem_append_left _ (List.mem_append_left _ (List.mem_append_left _ (List.mem_append_left _ (List.mem_append_left _ (List.mem_append_left _ (List.mem_append_left _ (List.mem_append_left _ (List.mem_append_right _ h))))))))))
theorem inX7 : ∀ w ∈ wsX70, w ∈ lw_tbl := fun w h => wsL_law_in w (inlX7 w h)
theorem inJ11 : ∀ w ∈ wsJ110, w ∈ lw_tbl := by decide +kernel
theorem inJ9 : ∀ w ∈ wsJ90, w ∈ lw_tbl := by decide +kernel
theorem inJ0 : ∀ w ∈ wsJ00, w ∈ lw_tbl := by decide +kernel
theorem inJ1 : ∀ w ∈ wsJ10, w ∈ lw_tbl := by decide +kernel
theorem inJ2 : ∀ w ∈ wsJ20, w ∈ lw_tbl := by decide +kernel
theorem inJ10 : ∀ w ∈ wsJ100, w ∈ lw_tbl := by decide +kernel
theorem inJ3 : ∀ w ∈ wsJ30, w ∈ lw_tbl := by decide +kernel
set_option maxRecDepth 20000 in
theorem ggX0_init_X4_init : GoodIn wsX0_init wsX4_init := goodIn_r _ [11, 12, 2, 3, 13, 14, 15, 16, 17, 18, 19, 20, 24, 25, 26, 27, 28, 29, 30] (by decide +kernel) (by decide +kernel)
set_option maxRecDepth 20000 in
theorem gX0_init_X4_init_n24 : GoodIn wsX0_init (wsX4_init) := ggX0_init_X4_init
theorem dX0_init_0 : decode cX0_init 0 = .ok (.aload_n 0, 1) := by decide +kernel
theorem dX0_init_1 : decode cX0_init 1 = .ok (.invokespecial 3, 3) := by decide +kernel
theorem dX0_init_4 : decode cX0_init 4 = .ok (.aload_n 0, 1) := by decide +kernel
theorem dX0_init_5 : decode cX0_init 5 = .ok (.bipush 6, 2) := by decide +kernel
theorem dX0_init_7 : decode cX0_init 7 = .ok (.anewarray 9, 3) := by decide +kernel
theorem dX0_init_10 : decode cX0_init 10 = .ok (.putfield 11, 3) := by decide +kernel
theorem dX0_init_13 : decode cX0_init 13 = .ok (.aload_n 0, 1) := by decide +kernel
theorem dX0_init_14 : decode cX0_init 14 = .ok (.iconst 0, 1) := by decide +kernel
theorem dX0_init_15 : decode cX0_init 15 = .ok (.putfield 17, 3) := by decide +kernel
theorem dX0_init_18 : decode cX0_init 18 = .ok (.aload_n 0, 1) := by decide +kernel
theorem dX0_init_19 : decode cX0_init 19 = .ok (.iconst 0, 1) := by decide +kernel
theorem dX0_init_20 : decode cX0_init 20 = .ok (.putfield 21, 3) := by decide +kernel
theorem dX0_init_23 : decode cX0_init 23 = .ok (.iconst 0, 1) := by decide +kernel
theorem dX0_init_24 : decode cX0_init 24 = .ok (.istore_n 1, 1) := by decide +kernel
theorem dX0_init_25 : decode cX0_init 25 = .ok (.iload_n 1, 1) := by decide +kernel
theorem dX0_init_26 : decode cX0_init 26 = .ok (.bipush 6, 2) := by decide +kernel
theorem dX0_init_28 : decode cX0_init 28 = .ok (.if_icmp .ge 22, 3) := by decide +kernel
theorem dX0_init_31 : decode cX0_init 31 = .ok (.aload_n 0, 1) := by decide +kernel
theorem dX0_init_32 : decode cX0_init 32 = .ok (.getfield 11, 3) := by decide +kernel
theorem dX0_init_35 : decode cX0_init 35 = .ok (.iload_n 1, 1) := by decide +kernel
theorem dX0_init_36 : decode cX0_init 36 = .ok (.new 9, 3) := by decide +kernel
theorem dX0_init_39 : decode cX0_init 39 = .ok (.dup, 1) := by decide +kernel
theorem dX0_init_40 : decode cX0_init 40 = .ok (.invokespecial 24, 3) := by decide +kernel
theorem dX0_init_43 : decode cX0_init 43 = .ok (.aastore, 1) := by decide +kernel
theorem dX0_init_44 : decode cX0_init 44 = .ok (.iinc 1 1, 3) := by decide +kernel
theorem dX0_init_47 : decode cX0_init 47 = .ok (.goto (-22), 3) := by decide +kernel
theorem dX0_init_50 : decode cX0_init 50 = .ok (.return_, 1) := by decide +kernel
set_option maxRecDepth 20000 in
theorem ggX0_save_X4_copyFrom : GoodIn wsX0_save wsX4_copyFrom := goodIn_r _ [12, 13, 14, 15, 16, 17, 18, 19, 20, 21, 22, 23, 27, 28, 29, 30, 31, 32, 33] (by decide +kernel) (by decide +kernel)
set_option maxRecDepth 20000 in
theorem gX0_save_X4_copyFrom : GoodIn wsX0_save (wsV RX0 25 RX4 yX4_copyFrom wsX4_copyFrom) := goodIn_app (goodIn_of _ (by decide +kernel)) ggX0_save_X4_copyFrom
theorem dX0_save_0 : decode cX0_save 0 = .ok (.aload_n 0, 1) := by decide +kernel
theorem dX0_save_1 : decode cX0_save 1 = .ok (.getfield 11, 3) := by decide +kernel
theorem dX0_save_4 : decode cX0_save 4 = .ok (.aload_n 0, 1) := by decide +kernel
theorem dX0_save_5 : decode cX0_save 5 = .ok (.getfield 17, 3) := by decide +kernel
theorem dX0_save_8 : decode cX0_save 8 = .ok (.aaload, 1) := by decide +kernel
theorem dX0_save_9 : decode cX0_save 9 = .ok (.aload_n 1, 1) := by decide +kernel
theorem dX0_save_10 : decode cX0_save 10 = .ok (.invokevirtual 25, 3) := by decide +kernel
theorem dX0_save_13 : decode cX0_save 13 = .ok (.aload_n 0, 1) := by decide +kernel
theorem dX0_save_14 : decode cX0_save 14 = .ok (.aload_n 0, 1) := by decide +kernel
theorem dX0_save_15 : decode cX0_save 15 = .ok (.getfield 17, 3) := by decide +kernel
theorem dX0_save_18 : decode cX0_save 18 = .ok (.iconst 1, 1) := by decide +kernel
theorem dX0_save_19 : decode cX0_save 19 = .ok (.iadd, 1) := by decide +kernel
theorem dX0_save_20 : decode cX0_save 20 = .ok (.bipush 6, 2) := by decide +kernel
theorem dX0_save_22 : decode cX0_save 22 = .ok (.irem, 1) := by decide +kernel
theorem dX0_save_23 : decode cX0_save 23 = .ok (.putfield 17, 3) := by decide +kernel
theorem dX0_save_26 : decode cX0_save 26 = .ok (.aload_n 0, 1) := by decide +kernel
theorem dX0_save_27 : decode cX0_save 27 = .ok (.aload_n 0, 1) := by decide +kernel
theorem dX0_save_28 : decode cX0_save 28 = .ok (.getfield 21, 3) := by decide +kernel
theorem dX0_save_31 : decode cX0_save 31 = .ok (.iconst 1, 1) := by decide +kernel
theorem dX0_save_32 : decode cX0_save 32 = .ok (.iadd, 1) := by decide +kernel
theorem dX0_save_33 : decode cX0_save 33 = .ok (.bipush 6, 2) := by decide +kernel
theorem dX0_save_35 : decode cX0_save 35 = .ok (.invokestatic 29, 3) := by decide +kernel
theorem dX0_save_38 : decode cX0_save 38 = .ok (.putfield 21, 3) := by decide +kernel
theorem dX0_save_41 : decode cX0_save 41 = .ok (.return_, 1) := by decide +kernel
set_option maxRecDepth 20000 in
theorem ggX0_restore_X4_copyFrom : GoodIn wsX0_restore wsX4_copyFrom := goodIn_r _ [8, 9, 10, 11, 12, 13, 14, 15, 16, 17, 18, 19, 23, 24, 25, 26, 27, 28, 29] (by decide +kernel) (by decide +kernel)
set_option maxRecDepth 20000 in
theorem gX0_restore_X4_copyFrom : GoodIn wsX0_restore (wsV RX0 25 RX4 yX4_copyFrom wsX4_copyFrom) := goodIn_app (goodIn_of _ (by decide +kernel)) ggX0_restore_X4_copyFrom
theorem dX0_restore_0 : decode cX0_restore 0 = .ok (.aload_n 0, 1) := by decide +kernel
theorem dX0_restore_1 : decode cX0_restore 1 = .ok (.aload_n 0, 1) := by decide +kernel
theorem dX0_restore_2 : decode cX0_restore 2 = .ok (.getfield 17, 3) := by decide +kernel
theorem dX0_restore_5 : decode cX0_restore 5 = .ok (.bipush 6, 2) := by decide +kernel
theorem dX0_restore_7 : decode cX0_restore 7 = .ok (.iadd, 1) := by decide +kernel
theorem dX0_restore_8 : decode cX0_restore 8 = .ok (.iconst 1, 1) := by decide +kernel
theorem dX0_restore_9 : decode cX0_restore 9 = .ok (.isub, 1) := by decide +kernel
theorem dX0_restore_10 : decode cX0_restore 10 = .ok (.bipush 6, 2) := by decide +kernel
theorem dX0_restore_12 : decode cX0_restore 12 = .ok (.irem, 1) := by decide +kernel
theorem dX0_restore_13 : decode cX0_restore 13 = .ok (.putfield 17, 3) := by decide +kernel
theorem dX0_restore_16 : decode cX0_restore 16 = .ok (.aload_n 0, 1) := by decide +kernel
theorem dX0_restore_17 : decode cX0_restore 17 = .ok (.dup, 1) := by decide +kernel
theorem dX0_restore_18 : decode cX0_restore 18 = .ok (.getfield 21, 3) := by decide +kernel
theorem dX0_restore_21 : decode cX0_restore 21 = .ok (.iconst 1, 1) := by decide +kernel
theorem dX0_restore_22 : decode cX0_restore 22 = .ok (.isub, 1) := by decide +kernel
theorem dX0_restore_23 : decode cX0_restore 23 = .ok (.putfield 21, 3) := by decide +kernel
theorem dX0_restore_26 : decode cX0_restore 26 = .ok (.aload_n 1, 1) := by decide +kernel
theorem dX0_restore_27 : decode cX0_restore 27 = .ok (.aload_n 0, 1) := by decide +kernel
theorem dX0_restore_28 : decode cX0_restore 28 = .ok (.getfield 11, 3) := by decide +kernel
theorem dX0_restore_31 : decode cX0_restore 31 = .ok (.aload_n 0, 1) := by decide +kernel
theorem dX0_restore_32 : decode cX0_restore 32 = .ok (.getfield 17, 3) := by decide +kernel
theorem dX0_restore_35 : decode cX0_restore 35 = .ok (.aaload, 1) := by decide +kernel
theorem dX0_restore_36 : decode cX0_restore 36 = .ok (.invokevirtual 25, 3) := by decide +kernel
theorem dX0_restore_39 : decode cX0_restore 39 = .ok (.return_, 1) := by decide +kernel
theorem dX1_init_0 : decode cX1_init 0 = .ok (.aload_n 0, 1) := by decide +kernel
theorem dX1_init_1 : decode cX1_init 1 = .ok (.invokespecial 3, 3) := by decide +kernel
theorem dX1_init_4 : decode cX1_init 4 = .ok (.aload_n 0, 1) := by decide +kernel
theorem dX1_init_5 : decode cX1_init 5 = .ok (.bipush 84, 2) := by decide +kernel
theorem dX1_init_7 : decode cX1_init 7 = .ok (.newarray .int, 2) := by decide +kernel
theorem dX1_init_9 : decode cX1_init 9 = .ok (.putfield 9, 3) := by decide +kernel
theorem dX1_init_12 : decode cX1_init 12 = .ok (.aload_n 0, 1) := by decide +kernel
theorem dX1_init_13 : decode cX1_init 13 = .ok (.bipush 84, 2) := by decide +kernel
theorem dX1_init_15 : decode cX1_init 15 = .ok (.newarray .int, 2) := by decide +kernel
theorem dX1_init_17 : decode cX1_init 17 = .ok (.putfield 15, 3) := by decide +kernel
theorem dX1_init_20 : decode cX1_init 20 = .ok (.aload_n 0, 1) := by decide +kernel
theorem dX1_init_21 : decode cX1_init 21 = .ok (.bipush 84, 2) := by decide +kernel
theorem dX1_init_23 : decode cX1_init 23 = .ok (.newarray .int, 2) := by decide +kernel
theorem dX1_init_25 : decode cX1_init 25 = .ok (.putfield 18, 3) := by decide +kernel
theorem dX1_init_28 : decode cX1_init 28 = .ok (.aload_n 0, 1) := by decide +kernel
theorem dX1_init_29 : decode cX1_init 29 = .ok (.bipush 84, 2) := by decide +kernel
theorem dX1_init_31 : decode cX1_init 31 = .ok (.newarray .int, 2) := by decide +kernel
theorem dX1_init_33 : decode cX1_init 33 = .ok (.putfield 21, 3) := by decide +kernel
theorem dX1_init_36 : decode cX1_init 36 = .ok (.aload_n 0, 1) := by decide +kernel
theorem dX1_init_37 : decode cX1_init 37 = .ok (.iconst 0, 1) := by decide +kernel
theorem dX1_init_38 : decode cX1_init 38 = .ok (.putfield 24, 3) := by decide +kernel
theorem dX1_init_41 : decode cX1_init 41 = .ok (.return_, 1) := by decide +kernel
set_option maxRecDepth 20000 in
theorem ggX1_fill_X4_slot : GoodIn wsX1_fill wsX4_slot := goodIn_r _ [8, 9, 10, 11, 12, 13, 14, 48, 49, 50, 51, 52, 53, 54] (by decide +kernel) (by decide +kernel)
set_option maxRecDepth 20000 in
theorem gX1_fill_X4_slot : GoodIn wsX1_fill (wsV RX1 28 RX4 yX4_slot wsX4_slot) := goodIn_app (goodIn_of _ (by decide +kernel)) ggX1_fill_X4_slot
set_option maxRecDepth 20000 in
theorem ggX1_fill_X1_addTakes : GoodIn wsX1_fill wsX1_addTakes := goodIn_r _ [19, 20, 21, 22, 23, 24, 25, 26, 11, 12, 13, 14, 27, 28, 29, 18, 30, 1, 31, 32, 33, 34, 48, 49, 50, 51, 52, 53, 54, 43, 44, 45, 46, 47] (by decide +kernel) (by decide +kernel)
set_option maxRecDepth 20000 in
theorem gX1_fill_X1_addTakes : GoodIn wsX1_fill (wsV RX1 34 RX1 yX1_addTakes wsX1_addTakes) := goodIn_app (goodIn_of _ (by decide +kernel)) ggX1_fill_X1_addTakes
set_option maxRecDepth 20000 in
theorem ggX1_fill_X1_addSplits : GoodIn wsX1_fill wsX1_addSplits := goodIn_r _ [38, 20, 21, 11, 12, 13, 14, 27, 28, 29, 18, 30, 1, 31, 32, 33, 34, 48, 49, 50, 51, 52, 53, 54, 43, 44, 45, 46, 47] (by decide +kernel) (by decide +kernel)
set_option maxRecDepth 20000 in
theorem gX1_fill_X1_addSplits : GoodIn wsX1_fill (wsV RX1 42 RX1 yX1_addSplits wsX1_addSplits) := goodIn_app (goodIn_of _ (by decide +kernel)) ggX1_fill_X1_addSplits
set_option maxRecDepth 20000 in
theorem ggX1_fill_X1_addMerges : GoodIn wsX1_fill wsX1_addMerges := goodIn_r _ [42, 20, 21, 11, 12, 13, 14, 27, 28, 29, 18, 30, 1, 31, 32, 33, 34, 48, 49, 50, 51, 52, 53, 54, 43, 44, 45, 46, 47] (by decide +kernel) (by decide +kernel)
set_option maxRecDepth 20000 in
theorem gX1_fill_X1_addMerges : GoodIn wsX1_fill (wsV RX1 48 RX1 yX1_addMerges wsX1_addMerges) := goodIn_app (goodIn_of _ (by decide +kernel)) ggX1_fill_X1_addMerges
theorem dX1_fill_0 : decode cX1_fill 0 = .ok (.aload_n 0, 1) := by decide +kernel
theorem dX1_fill_1 : decode cX1_fill 1 = .ok (.iconst 0, 1) := by decide +kernel
theorem dX1_fill_2 : decode cX1_fill 2 = .ok (.putfield 24, 3) := by decide +kernel
theorem dX1_fill_5 : decode cX1_fill 5 = .ok (.aload_n 1, 1) := by decide +kernel
theorem dX1_fill_6 : decode cX1_fill 6 = .ok (.invokevirtual 28, 3) := by decide +kernel
theorem dX1_fill_9 : decode cX1_fill 9 = .ok (.istore_n 2, 1) := by decide +kernel
theorem dX1_fill_10 : decode cX1_fill 10 = .ok (.aload_n 0, 1) := by decide +kernel
theorem dX1_fill_11 : decode cX1_fill 11 = .ok (.aload_n 1, 1) := by decide +kernel
theorem dX1_fill_12 : decode cX1_fill 12 = .ok (.iload_n 2, 1) := by decide +kernel
theorem dX1_fill_13 : decode cX1_fill 13 = .ok (.invokevirtual 34, 3) := by decide +kernel
theorem dX1_fill_16 : decode cX1_fill 16 = .ok (.aload_n 1, 1) := by decide +kernel
theorem dX1_fill_17 : decode cX1_fill 17 = .ok (.getfield 38, 3) := by decide +kernel
theorem dX1_fill_20 : decode cX1_fill 20 = .ok (.ifCond .eq 9, 3) := by decide +kernel
theorem dX1_fill_23 : decode cX1_fill 23 = .ok (.aload_n 0, 1) := by decide +kernel
theorem dX1_fill_24 : decode cX1_fill 24 = .ok (.aload_n 1, 1) := by decide +kernel
theorem dX1_fill_25 : decode cX1_fill 25 = .ok (.iload_n 2, 1) := by decide +kernel
theorem dX1_fill_26 : decode cX1_fill 26 = .ok (.invokevirtual 42, 3) := by decide +kernel
theorem dX1_fill_29 : decode cX1_fill 29 = .ok (.aload_n 1, 1) := by decide +kernel
theorem dX1_fill_30 : decode cX1_fill 30 = .ok (.getfield 45, 3) := by decide +kernel
theorem dX1_fill_33 : decode cX1_fill 33 = .ok (.ifCond .eq 9, 3) := by decide +kernel
theorem dX1_fill_36 : decode cX1_fill 36 = .ok (.aload_n 0, 1) := by decide +kernel
theorem dX1_fill_37 : decode cX1_fill 37 = .ok (.aload_n 1, 1) := by decide +kernel
theorem dX1_fill_38 : decode cX1_fill 38 = .ok (.iload_n 2, 1) := by decide +kernel
theorem dX1_fill_39 : decode cX1_fill 39 = .ok (.invokevirtual 48, 3) := by decide +kernel
theorem dX1_fill_42 : decode cX1_fill 42 = .ok (.return_, 1) := by decide +kernel
set_option maxRecDepth 20000 in
theorem ggX1_addTakes_X6_weightOf : GoodIn wsX1_addTakes wsX6_weightOf := goodIn_r _ [10, 11] (by decide +kernel) (by decide +kernel)
set_option maxRecDepth 20000 in
theorem gX1_addTakes_X6_weightOf_n55 : GoodIn wsX1_addTakes (wsX6_weightOf) := ggX1_addTakes_X6_weightOf
set_option maxRecDepth 20000 in
theorem ggX1_addTakes_X1_add : GoodIn wsX1_addTakes wsX1_add := goodIn_r _ [16, 17, 18, 19, 20, 21, 29, 30, 31, 32, 33] (by decide +kernel) (by decide +kernel)
set_option maxRecDepth 20000 in
theorem gX1_addTakes_X1_add : GoodIn wsX1_addTakes (wsV RX1 68 RX1 yX1_add wsX1_add) := goodIn_app (goodIn_of _ (by decide +kernel)) ggX1_addTakes_X1_add
theorem dX1_addTakes_0 : decode cX1_addTakes 0 = .ok (.iconst 0, 1) := by decide +kernel
theorem dX1_addTakes_1 : decode cX1_addTakes 1 = .ok (.istore_n 3, 1) := by decide +kernel
theorem dX1_addTakes_2 : decode cX1_addTakes 2 = .ok (.iload_n 3, 1) := by decide +kernel
theorem dX1_addTakes_3 : decode cX1_addTakes 3 = .ok (.aload_n 1, 1) := by decide +kernel
theorem dX1_addTakes_4 : decode cX1_addTakes 4 = .ok (.getfield 51, 3) := by decide +kernel
theorem dX1_addTakes_7 : decode cX1_addTakes 7 = .ok (.if_icmp .ge 72, 3) := by decide +kernel
theorem dX1_addTakes_10 : decode cX1_addTakes 10 = .ok (.aload_n 1, 1) := by decide +kernel
theorem dX1_addTakes_11 : decode cX1_addTakes 11 = .ok (.getfield 52, 3) := by decide +kernel
theorem dX1_addTakes_14 : decode cX1_addTakes 14 = .ok (.iload_n 3, 1) := by decide +kernel
theorem dX1_addTakes_15 : decode cX1_addTakes 15 = .ok (.iaload, 1) := by decide +kernel
theorem dX1_addTakes_16 : decode cX1_addTakes 16 = .ok (.istore 4, 2) := by decide +kernel
theorem dX1_addTakes_18 : decode cX1_addTakes 18 = .ok (.iload_n 2, 1) := by decide +kernel
theorem dX1_addTakes_19 : decode cX1_addTakes 19 = .ok (.iload 4, 2) := by decide +kernel
theorem dX1_addTakes_21 : decode cX1_addTakes 21 = .ok (.invokestatic 55, 3) := by decide +kernel
theorem dX1_addTakes_24 : decode cX1_addTakes 24 = .ok (.isub, 1) := by decide +kernel
theorem dX1_addTakes_25 : decode cX1_addTakes 25 = .ok (.istore 5, 2) := by decide +kernel
theorem dX1_addTakes_27 : decode cX1_addTakes 27 = .ok (.iload 4, 2) := by decide +kernel
theorem dX1_addTakes_29 : decode cX1_addTakes 29 = .ok (.aload_n 1, 1) := by decide +kernel
theorem dX1_addTakes_30 : decode cX1_addTakes 30 = .ok (.getfield 59, 3) := by decide +kernel
theorem dX1_addTakes_33 : decode cX1_addTakes 33 = .ok (.invokestatic 62, 3) := by decide +kernel
theorem dX1_addTakes_36 : decode cX1_addTakes 36 = .ok (.istore 6, 2) := by decide +kernel
theorem dX1_addTakes_38 : decode cX1_addTakes 38 = .ok (.iconst 1, 1) := by decide +kernel
theorem dX1_addTakes_39 : decode cX1_addTakes 39 = .ok (.istore 7, 2) := by decide +kernel
theorem dX1_addTakes_41 : decode cX1_addTakes 41 = .ok (.iload 7, 2) := by decide +kernel
theorem dX1_addTakes_43 : decode cX1_addTakes 43 = .ok (.iload 6, 2) := by decide +kernel
theorem dX1_addTakes_45 : decode cX1_addTakes 45 = .ok (.if_icmp .gt 28, 3) := by decide +kernel
theorem dX1_addTakes_48 : decode cX1_addTakes 48 = .ok (.aload_n 0, 1) := by decide +kernel
theorem dX1_addTakes_49 : decode cX1_addTakes 49 = .ok (.iconst 0, 1) := by decide +kernel
theorem dX1_addTakes_50 : decode cX1_addTakes 50 = .ok (.iload_n 3, 1) := by decide +kernel
theorem dX1_addTakes_51 : decode cX1_addTakes 51 = .ok (.iload 7, 2) := by decide +kernel
theorem dX1_addTakes_53 : decode cX1_addTakes 53 = .ok (.iload 5, 2) := by decide +kernel
theorem dX1_addTakes_55 : decode cX1_addTakes 55 = .ok (.iload 4, 2) := by decide +kernel
theorem dX1_addTakes_57 : decode cX1_addTakes 57 = .ok (.iload 7, 2) := by decide +kernel
theorem dX1_addTakes_59 : decode cX1_addTakes 59 = .ok (.isub, 1) := by decide +kernel
theorem dX1_addTakes_60 : decode cX1_addTakes 60 = .ok (.invokestatic 55, 3) := by decide +kernel
theorem dX1_addTakes_63 : decode cX1_addTakes 63 = .ok (.iadd, 1) := by decide +kernel
theorem dX1_addTakes_64 : decode cX1_addTakes 64 = .ok (.invokevirtual 68, 3) := by decide +kernel
theorem dX1_addTakes_67 : decode cX1_addTakes 67 = .ok (.iinc 7 1, 3) := by decide +kernel
theorem dX1_addTakes_70 : decode cX1_addTakes 70 = .ok (.goto (-29), 3) := by decide +kernel
theorem dX1_addTakes_73 : decode cX1_addTakes 73 = .ok (.iinc 3 1, 3) := by decide +kernel
theorem dX1_addTakes_76 : decode cX1_addTakes 76 = .ok (.goto (-74), 3) := by decide +kernel
theorem dX1_addTakes_79 : decode cX1_addTakes 79 = .ok (.return_, 1) := by decide +kernel
set_option maxRecDepth 20000 in
theorem ggX1_addSplits_X6_weightOf : GoodIn wsX1_addSplits wsX6_weightOf := goodIn_r _ [5, 6] (by decide +kernel) (by decide +kernel)
set_option maxRecDepth 20000 in
theorem gX1_addSplits_X6_weightOf_n55 : GoodIn wsX1_addSplits (wsX6_weightOf) := ggX1_addSplits_X6_weightOf
set_option maxRecDepth 20000 in
theorem ggX1_addSplits_X1_add : GoodIn wsX1_addSplits wsX1_add := goodIn_r _ [11, 12, 13, 14, 15, 16, 24, 25, 26, 27, 28] (by decide +kernel) (by decide +kernel)
set_option maxRecDepth 20000 in
theorem gX1_addSplits_X1_add : GoodIn wsX1_addSplits (wsV RX1 68 RX1 yX1_add wsX1_add) := goodIn_app (goodIn_of _ (by decide +kernel)) ggX1_addSplits_X1_add
theorem dX1_addSplits_0 : decode cX1_addSplits 0 = .ok (.iconst 0, 1) := by decide +kernel
theorem dX1_addSplits_1 : decode cX1_addSplits 1 = .ok (.istore_n 3, 1) := by decide +kernel
theorem dX1_addSplits_2 : decode cX1_addSplits 2 = .ok (.iload_n 3, 1) := by decide +kernel
theorem dX1_addSplits_3 : decode cX1_addSplits 3 = .ok (.aload_n 1, 1) := by decide +kernel
theorem dX1_addSplits_4 : decode cX1_addSplits 4 = .ok (.getfield 51, 3) := by decide +kernel
theorem dX1_addSplits_7 : decode cX1_addSplits 7 = .ok (.if_icmp .ge 70, 3) := by decide +kernel
theorem dX1_addSplits_10 : decode cX1_addSplits 10 = .ok (.aload_n 1, 1) := by decide +kernel
theorem dX1_addSplits_11 : decode cX1_addSplits 11 = .ok (.getfield 52, 3) := by decide +kernel
theorem dX1_addSplits_14 : decode cX1_addSplits 14 = .ok (.iload_n 3, 1) := by decide +kernel
theorem dX1_addSplits_15 : decode cX1_addSplits 15 = .ok (.iaload, 1) := by decide +kernel
theorem dX1_addSplits_16 : decode cX1_addSplits 16 = .ok (.istore 4, 2) := by decide +kernel
theorem dX1_addSplits_18 : decode cX1_addSplits 18 = .ok (.iload_n 2, 1) := by decide +kernel
theorem dX1_addSplits_19 : decode cX1_addSplits 19 = .ok (.iload 4, 2) := by decide +kernel
theorem dX1_addSplits_21 : decode cX1_addSplits 21 = .ok (.invokestatic 55, 3) := by decide +kernel
theorem dX1_addSplits_24 : decode cX1_addSplits 24 = .ok (.isub, 1) := by decide +kernel
theorem dX1_addSplits_25 : decode cX1_addSplits 25 = .ok (.istore 5, 2) := by decide +kernel
theorem dX1_addSplits_27 : decode cX1_addSplits 27 = .ok (.iconst 1, 1) := by decide +kernel
theorem dX1_addSplits_28 : decode cX1_addSplits 28 = .ok (.istore 6, 2) := by decide +kernel
theorem dX1_addSplits_30 : decode cX1_addSplits 30 = .ok (.iload 6, 2) := by decide +kernel
theorem dX1_addSplits_32 : decode cX1_addSplits 32 = .ok (.iload 4, 2) := by decide +kernel
theorem dX1_addSplits_34 : decode cX1_addSplits 34 = .ok (.iload 6, 2) := by decide +kernel
theorem dX1_addSplits_36 : decode cX1_addSplits 36 = .ok (.isub, 1) := by decide +kernel
theorem dX1_addSplits_37 : decode cX1_addSplits 37 = .ok (.if_icmp .gt 34, 3) := by decide +kernel
theorem dX1_addSplits_40 : decode cX1_addSplits 40 = .ok (.aload_n 0, 1) := by decide +kernel
theorem dX1_addSplits_41 : decode cX1_addSplits 41 = .ok (.iconst 1, 1) := by decide +kernel
theorem dX1_addSplits_42 : decode cX1_addSplits 42 = .ok (.iload_n 3, 1) := by decide +kernel
theorem dX1_addSplits_43 : decode cX1_addSplits 43 = .ok (.iload 6, 2) := by decide +kernel
theorem dX1_addSplits_45 : decode cX1_addSplits 45 = .ok (.iload 5, 2) := by decide +kernel
theorem dX1_addSplits_47 : decode cX1_addSplits 47 = .ok (.iload 6, 2) := by decide +kernel
theorem dX1_addSplits_49 : decode cX1_addSplits 49 = .ok (.invokestatic 55, 3) := by decide +kernel
theorem dX1_addSplits_52 : decode cX1_addSplits 52 = .ok (.iadd, 1) := by decide +kernel
theorem dX1_addSplits_53 : decode cX1_addSplits 53 = .ok (.iload 4, 2) := by decide +kernel
theorem dX1_addSplits_55 : decode cX1_addSplits 55 = .ok (.iload 6, 2) := by decide +kernel
theorem dX1_addSplits_57 : decode cX1_addSplits 57 = .ok (.isub, 1) := by decide +kernel
theorem dX1_addSplits_58 : decode cX1_addSplits 58 = .ok (.invokestatic 55, 3) := by decide +kernel
theorem dX1_addSplits_61 : decode cX1_addSplits 61 = .ok (.iadd, 1) := by decide +kernel
theorem dX1_addSplits_62 : decode cX1_addSplits 62 = .ok (.invokevirtual 68, 3) := by decide +kernel
theorem dX1_addSplits_65 : decode cX1_addSplits 65 = .ok (.iinc 6 1, 3) := by decide +kernel
theorem dX1_addSplits_68 : decode cX1_addSplits 68 = .ok (.goto (-38), 3) := by decide +kernel
theorem dX1_addSplits_71 : decode cX1_addSplits 71 = .ok (.iinc 3 1, 3) := by decide +kernel
theorem dX1_addSplits_74 : decode cX1_addSplits 74 = .ok (.goto (-72), 3) := by decide +kernel
theorem dX1_addSplits_77 : decode cX1_addSplits 77 = .ok (.return_, 1) := by decide +kernel
set_option maxRecDepth 20000 in
theorem ggX1_addMerges_X6_weightOf : GoodIn wsX1_addMerges wsX6_weightOf := goodIn_r _ [5, 6] (by decide +kernel) (by decide +kernel)
set_option maxRecDepth 20000 in
theorem gX1_addMerges_X6_weightOf_n55 : GoodIn wsX1_addMerges (wsX6_weightOf) := ggX1_addMerges_X6_weightOf
set_option maxRecDepth 20000 in
theorem ggX1_addMerges_X1_add : GoodIn wsX1_addMerges wsX1_add := goodIn_r _ [11, 12, 13, 14, 15, 16, 24, 25, 26, 27, 28] (by decide +kernel) (by decide +kernel)
set_option maxRecDepth 20000 in
theorem gX1_addMerges_X1_add : GoodIn wsX1_addMerges (wsV RX1 68 RX1 yX1_add wsX1_add) := goodIn_app (goodIn_of _ (by decide +kernel)) ggX1_addMerges_X1_add
theorem dX1_addMerges_0 : decode cX1_addMerges 0 = .ok (.iconst 0, 1) := by decide +kernel
theorem dX1_addMerges_1 : decode cX1_addMerges 1 = .ok (.istore_n 3, 1) := by decide +kernel
theorem dX1_addMerges_2 : decode cX1_addMerges 2 = .ok (.iload_n 3, 1) := by decide +kernel
theorem dX1_addMerges_3 : decode cX1_addMerges 3 = .ok (.aload_n 1, 1) := by decide +kernel
theorem dX1_addMerges_4 : decode cX1_addMerges 4 = .ok (.getfield 51, 3) := by decide +kernel
theorem dX1_addMerges_7 : decode cX1_addMerges 7 = .ok (.if_icmp .ge 82, 3) := by decide +kernel
theorem dX1_addMerges_10 : decode cX1_addMerges 10 = .ok (.aload_n 1, 1) := by decide +kernel
theorem dX1_addMerges_11 : decode cX1_addMerges 11 = .ok (.getfield 52, 3) := by decide +kernel
theorem dX1_addMerges_14 : decode cX1_addMerges 14 = .ok (.iload_n 3, 1) := by decide +kernel
theorem dX1_addMerges_15 : decode cX1_addMerges 15 = .ok (.iaload, 1) := by decide +kernel
theorem dX1_addMerges_16 : decode cX1_addMerges 16 = .ok (.istore 4, 2) := by decide +kernel
theorem dX1_addMerges_18 : decode cX1_addMerges 18 = .ok (.iload_n 2, 1) := by decide +kernel
theorem dX1_addMerges_19 : decode cX1_addMerges 19 = .ok (.iload 4, 2) := by decide +kernel
theorem dX1_addMerges_21 : decode cX1_addMerges 21 = .ok (.invokestatic 55, 3) := by decide +kernel
theorem dX1_addMerges_24 : decode cX1_addMerges 24 = .ok (.isub, 1) := by decide +kernel
theorem dX1_addMerges_25 : decode cX1_addMerges 25 = .ok (.istore 5, 2) := by decide +kernel
theorem dX1_addMerges_27 : decode cX1_addMerges 27 = .ok (.iload_n 3, 1) := by decide +kernel
theorem dX1_addMerges_28 : decode cX1_addMerges 28 = .ok (.iconst 1, 1) := by decide +kernel
theorem dX1_addMerges_29 : decode cX1_addMerges 29 = .ok (.iadd, 1) := by decide +kernel
theorem dX1_addMerges_30 : decode cX1_addMerges 30 = .ok (.istore 6, 2) := by decide +kernel
theorem dX1_addMerges_32 : decode cX1_addMerges 32 = .ok (.iload 6, 2) := by decide +kernel
theorem dX1_addMerges_34 : decode cX1_addMerges 34 = .ok (.aload_n 1, 1) := by decide +kernel
theorem dX1_addMerges_35 : decode cX1_addMerges 35 = .ok (.getfield 51, 3) := by decide +kernel
theorem dX1_addMerges_38 : decode cX1_addMerges 38 = .ok (.if_icmp .ge 45, 3) := by decide +kernel
theorem dX1_addMerges_41 : decode cX1_addMerges 41 = .ok (.aload_n 1, 1) := by decide +kernel
theorem dX1_addMerges_42 : decode cX1_addMerges 42 = .ok (.getfield 52, 3) := by decide +kernel
theorem dX1_addMerges_45 : decode cX1_addMerges 45 = .ok (.iload 6, 2) := by decide +kernel
theorem dX1_addMerges_47 : decode cX1_addMerges 47 = .ok (.iaload, 1) := by decide +kernel
theorem dX1_addMerges_48 : decode cX1_addMerges 48 = .ok (.istore 7, 2) := by decide +kernel
theorem dX1_addMerges_50 : decode cX1_addMerges 50 = .ok (.aload_n 0, 1) := by decide +kernel
theorem dX1_addMerges_51 : decode cX1_addMerges 51 = .ok (.iconst 2, 1) := by decide +kernel
theorem dX1_addMerges_52 : decode cX1_addMerges 52 = .ok (.iload_n 3, 1) := by decide +kernel
theorem dX1_addMerges_53 : decode cX1_addMerges 53 = .ok (.iload 6, 2) := by decide +kernel
theorem dX1_addMerges_55 : decode cX1_addMerges 55 = .ok (.iload 5, 2) := by decide +kernel
theorem dX1_addMerges_57 : decode cX1_addMerges 57 = .ok (.iload 7, 2) := by decide +kernel
theorem dX1_addMerges_59 : decode cX1_addMerges 59 = .ok (.invokestatic 55, 3) := by decide +kernel
theorem dX1_addMerges_62 : decode cX1_addMerges 62 = .ok (.isub, 1) := by decide +kernel
theorem dX1_addMerges_63 : decode cX1_addMerges 63 = .ok (.iload 4, 2) := by decide +kernel
theorem dX1_addMerges_65 : decode cX1_addMerges 65 = .ok (.iload 7, 2) := by decide +kernel
theorem dX1_addMerges_67 : decode cX1_addMerges 67 = .ok (.iadd, 1) := by decide +kernel
theorem dX1_addMerges_68 : decode cX1_addMerges 68 = .ok (.iconst 1, 1) := by decide +kernel
theorem dX1_addMerges_69 : decode cX1_addMerges 69 = .ok (.isub, 1) := by decide +kernel
theorem dX1_addMerges_70 : decode cX1_addMerges 70 = .ok (.invokestatic 55, 3) := by decide +kernel
theorem dX1_addMerges_73 : decode cX1_addMerges 73 = .ok (.iadd, 1) := by decide +kernel
theorem dX1_addMerges_74 : decode cX1_addMerges 74 = .ok (.invokevirtual 68, 3) := by decide +kernel
theorem dX1_addMerges_77 : decode cX1_addMerges 77 = .ok (.iinc 6 1, 3) := by decide +kernel
theorem dX1_addMerges_80 : decode cX1_addMerges 80 = .ok (.goto (-48), 3) := by decide +kernel
theorem dX1_addMerges_83 : decode cX1_addMerges 83 = .ok (.iinc 3 1, 3) := by decide +kernel
theorem dX1_addMerges_86 : decode cX1_addMerges 86 = .ok (.goto (-84), 3) := by decide +kernel
theorem dX1_addMerges_89 : decode cX1_addMerges 89 = .ok (.return_, 1) := by decide +kernel
theorem dX1_add_0 : decode cX1_add 0 = .ok (.aload_n 0, 1) := by decide +kernel
theorem dX1_add_1 : decode cX1_add 1 = .ok (.getfield 24, 3) := by decide +kernel
theorem dX1_add_4 : decode cX1_add 4 = .ok (.bipush 84, 2) := by decide +kernel
theorem dX1_add_6 : decode cX1_add 6 = .ok (.if_icmp .ge 58, 3) := by decide +kernel
theorem dX1_add_9 : decode cX1_add 9 = .ok (.aload_n 0, 1) := by decide +kernel
theorem dX1_add_10 : decode cX1_add 10 = .ok (.getfield 9, 3) := by decide +kernel
theorem dX1_add_13 : decode cX1_add 13 = .ok (.aload_n 0, 1) := by decide +kernel
theorem dX1_add_14 : decode cX1_add 14 = .ok (.getfield 24, 3) := by decide +kernel
theorem dX1_add_17 : decode cX1_add 17 = .ok (.iload_n 1, 1) := by decide +kernel
theorem dX1_add_18 : decode cX1_add 18 = .ok (.iastore, 1) := by decide +kernel
theorem dX1_add_19 : decode cX1_add 19 = .ok (.aload_n 0, 1) := by decide +kernel
theorem dX1_add_20 : decode cX1_add 20 = .ok (.getfield 15, 3) := by decide +kernel
theorem dX1_add_23 : decode cX1_add 23 = .ok (.aload_n 0, 1) := by decide +kernel
theorem dX1_add_24 : decode cX1_add 24 = .ok (.getfield 24, 3) := by decide +kernel
theorem dX1_add_27 : decode cX1_add 27 = .ok (.iload_n 2, 1) := by decide +kernel
theorem dX1_add_28 : decode cX1_add 28 = .ok (.iastore, 1) := by decide +kernel
theorem dX1_add_29 : decode cX1_add 29 = .ok (.aload_n 0, 1) := by decide +kernel
theorem dX1_add_30 : decode cX1_add 30 = .ok (.getfield 18, 3) := by decide +kernel
theorem dX1_add_33 : decode cX1_add 33 = .ok (.aload_n 0, 1) := by decide +kernel
theorem dX1_add_34 : decode cX1_add 34 = .ok (.getfield 24, 3) := by decide +kernel
theorem dX1_add_37 : decode cX1_add 37 = .ok (.iload_n 3, 1) := by decide +kernel
theorem dX1_add_38 : decode cX1_add 38 = .ok (.iastore, 1) := by decide +kernel
theorem dX1_add_39 : decode cX1_add 39 = .ok (.aload_n 0, 1) := by decide +kernel
theorem dX1_add_40 : decode cX1_add 40 = .ok (.getfield 21, 3) := by decide +kernel
theorem dX1_add_43 : decode cX1_add 43 = .ok (.aload_n 0, 1) := by decide +kernel
theorem dX1_add_44 : decode cX1_add 44 = .ok (.getfield 24, 3) := by decide +kernel
theorem dX1_add_47 : decode cX1_add 47 = .ok (.iload 4, 2) := by decide +kernel
theorem dX1_add_49 : decode cX1_add 49 = .ok (.sipush 1023, 3) := by decide +kernel
theorem dX1_add_52 : decode cX1_add 52 = .ok (.iand, 1) := by decide +kernel
theorem dX1_add_53 : decode cX1_add 53 = .ok (.iastore, 1) := by decide +kernel
theorem dX1_add_54 : decode cX1_add 54 = .ok (.aload_n 0, 1) := by decide +kernel
theorem dX1_add_55 : decode cX1_add 55 = .ok (.dup, 1) := by decide +kernel
theorem dX1_add_56 : decode cX1_add 56 = .ok (.getfield 24, 3) := by decide +kernel
theorem dX1_add_59 : decode cX1_add 59 = .ok (.iconst 1, 1) := by decide +kernel
theorem dX1_add_60 : decode cX1_add 60 = .ok (.iadd, 1) := by decide +kernel
theorem dX1_add_61 : decode cX1_add 61 = .ok (.putfield 24, 3) := by decide +kernel
theorem dX1_add_64 : decode cX1_add 64 = .ok (.return_, 1) := by decide +kernel
theorem dX2_init_0 : decode cX2_init 0 = .ok (.aload_n 0, 1) := by decide +kernel
theorem dX2_init_1 : decode cX2_init 1 = .ok (.invokespecial 3, 3) := by decide +kernel
theorem dX2_init_4 : decode cX2_init 4 = .ok (.aload_n 0, 1) := by decide +kernel
theorem dX2_init_5 : decode cX2_init 5 = .ok (.sipush 1024, 3) := by decide +kernel
theorem dX2_init_8 : decode cX2_init 8 = .ok (.newarray .int, 2) := by decide +kernel
theorem dX2_init_10 : decode cX2_init 10 = .ok (.putfield 9, 3) := by decide +kernel
theorem dX2_init_13 : decode cX2_init 13 = .ok (.aload_n 0, 1) := by decide +kernel
theorem dX2_init_14 : decode cX2_init 14 = .ok (.sipush 1024, 3) := by decide +kernel
theorem dX2_init_17 : decode cX2_init 17 = .ok (.newarray .int, 2) := by decide +kernel
theorem dX2_init_19 : decode cX2_init 19 = .ok (.putfield 15, 3) := by decide +kernel
theorem dX2_init_22 : decode cX2_init 22 = .ok (.aload_n 0, 1) := by decide +kernel
theorem dX2_init_23 : decode cX2_init 23 = .ok (.sipush 1024, 3) := by decide +kernel
theorem dX2_init_26 : decode cX2_init 26 = .ok (.newarray .int, 2) := by decide +kernel
theorem dX2_init_28 : decode cX2_init 28 = .ok (.putfield 18, 3) := by decide +kernel
theorem dX2_init_31 : decode cX2_init 31 = .ok (.aload_n 0, 1) := by decide +kernel
theorem dX2_init_32 : decode cX2_init 32 = .ok (.sipush 1024, 3) := by decide +kernel
theorem dX2_init_35 : decode cX2_init 35 = .ok (.newarray .boolean, 2) := by decide +kernel
theorem dX2_init_37 : decode cX2_init 37 = .ok (.putfield 21, 3) := by decide +kernel
theorem dX2_init_40 : decode cX2_init 40 = .ok (.aload_n 0, 1) := by decide +kernel
theorem dX2_init_41 : decode cX2_init 41 = .ok (.iconst 0, 1) := by decide +kernel
theorem dX2_init_42 : decode cX2_init 42 = .ok (.putfield 25, 3) := by decide +kernel
theorem dX2_init_45 : decode cX2_init 45 = .ok (.aload_n 0, 1) := by decide +kernel
theorem dX2_init_46 : decode cX2_init 46 = .ok (.getfield 21, 3) := by decide +kernel
theorem dX2_init_49 : decode cX2_init 49 = .ok (.iconst 0, 1) := by decide +kernel
theorem dX2_init_50 : decode cX2_init 50 = .ok (.iconst 1, 1) := by decide +kernel
theorem dX2_init_51 : decode cX2_init 51 = .ok (.bastore, 1) := by decide +kernel
theorem dX2_init_52 : decode cX2_init 52 = .ok (.return_, 1) := by decide +kernel
theorem dX2_isWonAt_0 : decode cX2_isWonAt 0 = .ok (.iload_n 2, 1) := by decide +kernel
theorem dX2_isWonAt_1 : decode cX2_isWonAt 1 = .ok (.ifCond .eq 20, 3) := by decide +kernel
theorem dX2_isWonAt_4 : decode cX2_isWonAt 4 = .ok (.aload_n 0, 1) := by decide +kernel
theorem dX2_isWonAt_5 : decode cX2_isWonAt 5 = .ok (.getfield 9, 3) := by decide +kernel
theorem dX2_isWonAt_8 : decode cX2_isWonAt 8 = .ok (.iload_n 1, 1) := by decide +kernel
theorem dX2_isWonAt_9 : decode cX2_isWonAt 9 = .ok (.iaload, 1) := by decide +kernel
theorem dX2_isWonAt_10 : decode cX2_isWonAt 10 = .ok (.ifCond .eq 7, 3) := by decide +kernel
theorem dX2_isWonAt_13 : decode cX2_isWonAt 13 = .ok (.iconst 1, 1) := by decide +kernel
theorem dX2_isWonAt_14 : decode cX2_isWonAt 14 = .ok (.goto 13, 3) := by decide +kernel
theorem dX2_isWonAt_17 : decode cX2_isWonAt 17 = .ok (.iconst 0, 1) := by decide +kernel
theorem dX2_isWonAt_18 : decode cX2_isWonAt 18 = .ok (.goto 9, 3) := by decide +kernel
theorem dX2_isWonAt_21 : decode cX2_isWonAt 21 = .ok (.aload_n 0, 1) := by decide +kernel
theorem dX2_isWonAt_22 : decode cX2_isWonAt 22 = .ok (.getfield 21, 3) := by decide +kernel
theorem dX2_isWonAt_25 : decode cX2_isWonAt 25 = .ok (.iload_n 1, 1) := by decide +kernel
theorem dX2_isWonAt_26 : decode cX2_isWonAt 26 = .ok (.baload, 1) := by decide +kernel
theorem dX2_isWonAt_27 : decode cX2_isWonAt 27 = .ok (.ireturn, 1) := by decide +kernel
set_option maxRecDepth 20000 in
theorem ggX2_enter_X2_leastMissing : GoodIn wsX2_enter wsX2_leastMissing := goodIn_r _ [17] (by decide +kernel) (by decide +kernel)
set_option maxRecDepth 20000 in
theorem gX2_enter_X2_leastMissing : GoodIn wsX2_enter (va_wsS RX2 46 yX2_leastMissing wsX2_leastMissing) := goodIn_app (goodIn_of _ (by decide +kernel)) ggX2_enter_X2_leastMissing
theorem dX2_enter_0 : decode cX2_enter 0 = .ok (.lconst 0, 1) := by decide +kernel
theorem dX2_enter_1 : decode cX2_enter 1 = .ok (.lstore_n 3, 1) := by decide +kernel
theorem dX2_enter_2 : decode cX2_enter 2 = .ok (.iconst 0, 1) := by decide +kernel
theorem dX2_enter_3 : decode cX2_enter 3 = .ok (.istore 5, 2) := by decide +kernel
theorem dX2_enter_5 : decode cX2_enter 5 = .ok (.sipush 1000, 3) := by decide +kernel
theorem dX2_enter_8 : decode cX2_enter 8 = .ok (.istore 6, 2) := by decide +kernel
theorem dX2_enter_10 : decode cX2_enter 10 = .ok (.iconst 0, 1) := by decide +kernel
theorem dX2_enter_11 : decode cX2_enter 11 = .ok (.istore 7, 2) := by decide +kernel
theorem dX2_enter_13 : decode cX2_enter 13 = .ok (.iconst 0, 1) := by decide +kernel
theorem dX2_enter_14 : decode cX2_enter 14 = .ok (.istore 8, 2) := by decide +kernel
theorem dX2_enter_16 : decode cX2_enter 16 = .ok (.iload 8, 2) := by decide +kernel
theorem dX2_enter_18 : decode cX2_enter 18 = .ok (.aload_n 2, 1) := by decide +kernel
theorem dX2_enter_19 : decode cX2_enter 19 = .ok (.getfield 29, 3) := by decide +kernel
theorem dX2_enter_22 : decode cX2_enter 22 = .ok (.if_icmp .ge 80, 3) := by decide +kernel
theorem dX2_enter_25 : decode cX2_enter 25 = .ok (.aload_n 2, 1) := by decide +kernel
theorem dX2_enter_26 : decode cX2_enter 26 = .ok (.getfield 34, 3) := by decide +kernel
theorem dX2_enter_29 : decode cX2_enter 29 = .ok (.iload 8, 2) := by decide +kernel
theorem dX2_enter_31 : decode cX2_enter 31 = .ok (.iaload, 1) := by decide +kernel
theorem dX2_enter_32 : decode cX2_enter 32 = .ok (.istore 9, 2) := by decide +kernel
theorem dX2_enter_34 : decode cX2_enter 34 = .ok (.lload_n 3, 1) := by decide +kernel
theorem dX2_enter_35 : decode cX2_enter 35 = .ok (.lconst 1, 1) := by decide +kernel
theorem dX2_enter_36 : decode cX2_enter 36 = .ok (.aload_n 0, 1) := by decide +kernel
theorem dX2_enter_37 : decode cX2_enter 37 = .ok (.getfield 9, 3) := by decide +kernel
theorem dX2_enter_40 : decode cX2_enter 40 = .ok (.iload 9, 2) := by decide +kernel
theorem dX2_enter_42 : decode cX2_enter 42 = .ok (.iaload, 1) := by decide +kernel
theorem dX2_enter_43 : decode cX2_enter 43 = .ok (.lshl, 1) := by decide +kernel
theorem dX2_enter_44 : decode cX2_enter 44 = .ok (.lor, 1) := by decide +kernel
theorem dX2_enter_45 : decode cX2_enter 45 = .ok (.lstore_n 3, 1) := by decide +kernel
theorem dX2_enter_46 : decode cX2_enter 46 = .ok (.iload 5, 2) := by decide +kernel
theorem dX2_enter_48 : decode cX2_enter 48 = .ok (.aload_n 0, 1) := by decide +kernel
theorem dX2_enter_49 : decode cX2_enter 49 = .ok (.getfield 15, 3) := by decide +kernel
theorem dX2_enter_52 : decode cX2_enter 52 = .ok (.iload 9, 2) := by decide +kernel
theorem dX2_enter_54 : decode cX2_enter 54 = .ok (.iaload, 1) := by decide +kernel
theorem dX2_enter_55 : decode cX2_enter 55 = .ok (.invokestatic 37, 3) := by decide +kernel
theorem dX2_enter_58 : decode cX2_enter 58 = .ok (.istore 5, 2) := by decide +kernel
theorem dX2_enter_60 : decode cX2_enter 60 = .ok (.iload 6, 2) := by decide +kernel
theorem dX2_enter_62 : decode cX2_enter 62 = .ok (.aload_n 0, 1) := by decide +kernel
theorem dX2_enter_63 : decode cX2_enter 63 = .ok (.getfield 18, 3) := by decide +kernel
theorem dX2_enter_66 : decode cX2_enter 66 = .ok (.iload 9, 2) := by decide +kernel
theorem dX2_enter_68 : decode cX2_enter 68 = .ok (.iaload, 1) := by decide +kernel
theorem dX2_enter_69 : decode cX2_enter 69 = .ok (.invokestatic 43, 3) := by decide +kernel
theorem dX2_enter_72 : decode cX2_enter 72 = .ok (.istore 6, 2) := by decide +kernel
theorem dX2_enter_74 : decode cX2_enter 74 = .ok (.iload 7, 2) := by decide +kernel
theorem dX2_enter_76 : decode cX2_enter 76 = .ok (.ifCond .ne 13, 3) := by decide +kernel
theorem dX2_enter_79 : decode cX2_enter 79 = .ok (.aload_n 0, 1) := by decide +kernel
theorem dX2_enter_80 : decode cX2_enter 80 = .ok (.getfield 21, 3) := by decide +kernel
theorem dX2_enter_83 : decode cX2_enter 83 = .ok (.iload 9, 2) := by decide +kernel
theorem dX2_enter_85 : decode cX2_enter 85 = .ok (.baload, 1) := by decide +kernel
theorem dX2_enter_86 : decode cX2_enter 86 = .ok (.ifCond .ne 7, 3) := by decide +kernel
theorem dX2_enter_89 : decode cX2_enter 89 = .ok (.iconst 1, 1) := by decide +kernel
theorem dX2_enter_90 : decode cX2_enter 90 = .ok (.goto 4, 3) := by decide +kernel
theorem dX2_enter_93 : decode cX2_enter 93 = .ok (.iconst 0, 1) := by decide +kernel
theorem dX2_enter_94 : decode cX2_enter 94 = .ok (.istore 7, 2) := by decide +kernel
theorem dX2_enter_96 : decode cX2_enter 96 = .ok (.iinc 8 1, 3) := by decide +kernel
theorem dX2_enter_99 : decode cX2_enter 99 = .ok (.goto (-83), 3) := by decide +kernel
theorem dX2_enter_102 : decode cX2_enter 102 = .ok (.aload_n 0, 1) := by decide +kernel
theorem dX2_enter_103 : decode cX2_enter 103 = .ok (.getfield 9, 3) := by decide +kernel
theorem dX2_enter_106 : decode cX2_enter 106 = .ok (.iload_n 1, 1) := by decide +kernel
theorem dX2_enter_107 : decode cX2_enter 107 = .ok (.lload_n 3, 1) := by decide +kernel
theorem dX2_enter_108 : decode cX2_enter 108 = .ok (.invokestatic 46, 3) := by decide +kernel
theorem dX2_enter_111 : decode cX2_enter 111 = .ok (.iastore, 1) := by decide +kernel
theorem dX2_enter_112 : decode cX2_enter 112 = .ok (.aload_n 0, 1) := by decide +kernel
theorem dX2_enter_113 : decode cX2_enter 113 = .ok (.getfield 15, 3) := by decide +kernel
theorem dX2_enter_116 : decode cX2_enter 116 = .ok (.iload_n 1, 1) := by decide +kernel
theorem dX2_enter_117 : decode cX2_enter 117 = .ok (.iload 5, 2) := by decide +kernel
theorem dX2_enter_119 : decode cX2_enter 119 = .ok (.iconst 1, 1) := by decide +kernel
theorem dX2_enter_120 : decode cX2_enter 120 = .ok (.iadd, 1) := by decide +kernel
theorem dX2_enter_121 : decode cX2_enter 121 = .ok (.iastore, 1) := by decide +kernel
theorem dX2_enter_122 : decode cX2_enter 122 = .ok (.aload_n 0, 1) := by decide +kernel
theorem dX2_enter_123 : decode cX2_enter 123 = .ok (.getfield 18, 3) := by decide +kernel
theorem dX2_enter_126 : decode cX2_enter 126 = .ok (.iload_n 1, 1) := by decide +kernel
theorem dX2_enter_127 : decode cX2_enter 127 = .ok (.iload 6, 2) := by decide +kernel
theorem dX2_enter_129 : decode cX2_enter 129 = .ok (.iconst 1, 1) := by decide +kernel
theorem dX2_enter_130 : decode cX2_enter 130 = .ok (.iadd, 1) := by decide +kernel
theorem dX2_enter_131 : decode cX2_enter 131 = .ok (.iastore, 1) := by decide +kernel
theorem dX2_enter_132 : decode cX2_enter 132 = .ok (.aload_n 0, 1) := by decide +kernel
theorem dX2_enter_133 : decode cX2_enter 133 = .ok (.getfield 21, 3) := by decide +kernel
theorem dX2_enter_136 : decode cX2_enter 136 = .ok (.iload_n 1, 1) := by decide +kernel
theorem dX2_enter_137 : decode cX2_enter 137 = .ok (.iload 7, 2) := by decide +kernel
theorem dX2_enter_139 : decode cX2_enter 139 = .ok (.bastore, 1) := by decide +kernel
theorem dX2_enter_140 : decode cX2_enter 140 = .ok (.return_, 1) := by decide +kernel
theorem dX2_leastMissing_0 : decode cX2_leastMissing 0 = .ok (.iconst 0, 1) := by decide +kernel
theorem dX2_leastMissing_1 : decode cX2_leastMissing 1 = .ok (.istore_n 2, 1) := by decide +kernel
theorem dX2_leastMissing_2 : decode cX2_leastMissing 2 = .ok (.iload_n 2, 1) := by decide +kernel
theorem dX2_leastMissing_3 : decode cX2_leastMissing 3 = .ok (.bipush 63, 2) := by decide +kernel
theorem dX2_leastMissing_5 : decode cX2_leastMissing 5 = .ok (.if_icmp .ge 19, 3) := by decide +kernel
theorem dX2_leastMissing_8 : decode cX2_leastMissing 8 = .ok (.lload_n 0, 1) := by decide +kernel
theorem dX2_leastMissing_9 : decode cX2_leastMissing 9 = .ok (.iload_n 2, 1) := by decide +kernel
theorem dX2_leastMissing_10 : decode cX2_leastMissing 10 = .ok (.lshr, 1) := by decide +kernel
theorem dX2_leastMissing_11 : decode cX2_leastMissing 11 = .ok (.lconst 1, 1) := by decide +kernel
theorem dX2_leastMissing_12 : decode cX2_leastMissing 12 = .ok (.land, 1) := by decide +kernel
theorem dX2_leastMissing_13 : decode cX2_leastMissing 13 = .ok (.lconst 1, 1) := by decide +kernel
theorem dX2_leastMissing_14 : decode cX2_leastMissing 14 = .ok (.lcmp, 1) := by decide +kernel
theorem dX2_leastMissing_15 : decode cX2_leastMissing 15 = .ok (.ifCond .ne 9, 3) := by decide +kernel
theorem dX2_leastMissing_18 : decode cX2_leastMissing 18 = .ok (.iinc 2 1, 3) := by decide +kernel
theorem dX2_leastMissing_21 : decode cX2_leastMissing 21 = .ok (.goto (-19), 3) := by decide +kernel
theorem dX2_leastMissing_24 : decode cX2_leastMissing 24 = .ok (.iload_n 2, 1) := by decide +kernel
theorem dX2_leastMissing_25 : decode cX2_leastMissing 25 = .ok (.ireturn, 1) := by decide +kernel
set_option maxRecDepth 20000 in
theorem ggX3_init_X4_init : GoodIn wsX3_init wsX4_init := goodIn_r _ [15, 16, 2, 3, 17, 18, 19, 20, 21, 22, 23, 24, 36, 37, 38, 39, 40, 41, 42] (by decide +kernel) (by decide +kernel)
set_option maxRecDepth 20000 in
theorem gX3_init_X4_init_n19 : GoodIn wsX3_init (wsX4_init) := ggX3_init_X4_init
set_option maxRecDepth 20000 in
theorem ggX3_init_X1_init : GoodIn wsX3_init wsX1_init := goodIn_r _ [26, 27, 2, 3, 17, 28, 29, 30, 31, 32, 43, 44, 45, 46, 47] (by decide +kernel) (by decide +kernel)
set_option maxRecDepth 20000 in
theorem gX3_init_X1_init_n26 : GoodIn wsX3_init (wsX1_init) := ggX3_init_X1_init
theorem dX3_init_0 : decode cX3_init 0 = .ok (.aload_n 0, 1) := by decide +kernel
theorem dX3_init_1 : decode cX3_init 1 = .ok (.invokespecial 3, 3) := by decide +kernel
theorem dX3_init_4 : decode cX3_init 4 = .ok (.aload_n 0, 1) := by decide +kernel
theorem dX3_init_5 : decode cX3_init 5 = .ok (.bipush 20, 2) := by decide +kernel
theorem dX3_init_7 : decode cX3_init 7 = .ok (.anewarray 9, 3) := by decide +kernel
theorem dX3_init_10 : decode cX3_init 10 = .ok (.putfield 11, 3) := by decide +kernel
theorem dX3_init_13 : decode cX3_init 13 = .ok (.aload_n 0, 1) := by decide +kernel
theorem dX3_init_14 : decode cX3_init 14 = .ok (.new 17, 3) := by decide +kernel
theorem dX3_init_17 : decode cX3_init 17 = .ok (.dup, 1) := by decide +kernel
theorem dX3_init_18 : decode cX3_init 18 = .ok (.invokespecial 19, 3) := by decide +kernel
theorem dX3_init_21 : decode cX3_init 21 = .ok (.putfield 20, 3) := by decide +kernel
theorem dX3_init_24 : decode cX3_init 24 = .ok (.aload_n 0, 1) := by decide +kernel
theorem dX3_init_25 : decode cX3_init 25 = .ok (.new 24, 3) := by decide +kernel
theorem dX3_init_28 : decode cX3_init 28 = .ok (.dup, 1) := by decide +kernel
theorem dX3_init_29 : decode cX3_init 29 = .ok (.invokespecial 26, 3) := by decide +kernel
theorem dX3_init_32 : decode cX3_init 32 = .ok (.putfield 27, 3) := by decide +kernel
theorem dX3_init_35 : decode cX3_init 35 = .ok (.return_, 1) := by decide +kernel
set_option maxRecDepth 20000 in
theorem ggX3_solve_X4_ruleSet : GoodIn wsX3_solve wsX4_ruleSet := goodIn_r _ [11, 12, 13, 14, 15, 16, 17, 135, 136, 137, 138, 139, 140, 141] (by decide +kernel) (by decide +kernel)
set_option maxRecDepth 20000 in
theorem gX3_solve_X4_ruleSet : GoodIn wsX3_solve (wsV RX3 31 RX4 yX4_ruleSet wsX4_ruleSet) := goodIn_app (goodIn_of _ (by decide +kernel)) ggX3_solve_X4_ruleSet
set_option maxRecDepth 20000 in
theorem ggX3_solve_X2_init : GoodIn wsX3_solve wsX2_init := goodIn_r _ [20, 21, 22, 23, 24, 25, 26, 27, 28, 29, 30, 130, 131, 132, 133, 134] (by decide +kernel) (by decide +kernel)
set_option maxRecDepth 20000 in
theorem gX3_solve_X2_init : GoodIn wsX3_solve (wsX2_init) := ggX3_solve_X2_init
set_option maxRecDepth 20000 in
theorem ggX3_solve_X4_total : GoodIn wsX3_solve wsX4_total := goodIn_r _ [34, 35, 36, 135, 136, 137, 138, 139, 140, 141] (by decide +kernel) (by decide +kernel)
set_option maxRecDepth 20000 in
theorem gX3_solve_X4_total : GoodIn wsX3_solve (wsV RX3 36 RX4 yX4_total wsX4_total) := goodIn_app (goodIn_of _ (by decide +kernel)) ggX3_solve_X4_total
set_option maxRecDepth 20000 in
theorem ggX3_solve_X4_copyFrom : GoodIn wsX3_solve wsX4_copyFrom := goodIn_r _ [40, 36, 41, 42, 43, 44, 35, 12, 13, 14, 45, 46, 135, 136, 137, 138, 139, 140, 141] (by decide +kernel) (by decide +kernel)
set_option maxRecDepth 20000 in
theorem gX3_solve_X4_copyFrom : GoodIn wsX3_solve (wsV RX3 43 RX4 yX4_copyFrom wsX4_copyFrom) := goodIn_app (goodIn_of _ (by decide +kernel)) ggX3_solve_X4_copyFrom
set_option maxRecDepth 20000 in
theorem ggX3_solve_X3_solveAll : GoodIn wsX3_solve wsX3_solveAll := goodIn_r _ [51, 52, 6, 53, 54, 55, 50, 56, 57, 58, 59, 60, 61, 62, 63, 64, 10, 65, 35, 36, 66, 67, 68, 69, 70, 71, 72, 73, 74, 75, 76, 77, 78, 16, 79, 80, 81, 82, 83, 84, 85, 86, 87, 88, 89, 90, 91, 92, 93, 94, 95, 96, 97, 98, 99, 100, 101, 102, 103, 104, 105, 106, 107, 108, 109, 110, 111, 4, 112, 113, 114, 25, 26, 115, 116, 117, 27, 118, 29, 119, 120, 121, 122, 123, 124, 125, 126, 127, 128, 129, 135, 136, 137, 138, 139, 140, 141, 142, 143, 144, 145, 146, 130, 131, 132, 133, 134] (by decide +kernel) (by decide +kernel)
set_option maxRecDepth 20000 in
theorem gX3_solve_X3_solveAll : GoodIn wsX3_solve (wsV RX3 47 RX3 yX3_solveAll wsX3_solveAll) := goodIn_app (goodIn_of _ (by decide +kernel)) ggX3_solve_X3_solveAll
theorem dX3_solve_0 : decode cX3_solve 0 = .ok (.aload_n 1, 1) := by decide +kernel
theorem dX3_solve_1 : decode cX3_solve 1 = .ok (.invokevirtual 31, 3) := by decide +kernel
theorem dX3_solve_4 : decode cX3_solve 4 = .ok (.istore_n 2, 1) := by decide +kernel
theorem dX3_solve_5 : decode cX3_solve 5 = .ok (.aload_n 0, 1) := by decide +kernel
theorem dX3_solve_6 : decode cX3_solve 6 = .ok (.getfield 11, 3) := by decide +kernel
theorem dX3_solve_9 : decode cX3_solve 9 = .ok (.iload_n 2, 1) := by decide +kernel
theorem dX3_solve_10 : decode cX3_solve 10 = .ok (.aaload, 1) := by decide +kernel
theorem dX3_solve_11 : decode cX3_solve 11 = .ok (.ifnonnull 16, 3) := by decide +kernel
theorem dX3_solve_14 : decode cX3_solve 14 = .ok (.aload_n 0, 1) := by decide +kernel
theorem dX3_solve_15 : decode cX3_solve 15 = .ok (.getfield 11, 3) := by decide +kernel
theorem dX3_solve_18 : decode cX3_solve 18 = .ok (.iload_n 2, 1) := by decide +kernel
theorem dX3_solve_19 : decode cX3_solve 19 = .ok (.new 9, 3) := by decide +kernel
theorem dX3_solve_22 : decode cX3_solve 22 = .ok (.dup, 1) := by decide +kernel
theorem dX3_solve_23 : decode cX3_solve 23 = .ok (.invokespecial 35, 3) := by decide +kernel
theorem dX3_solve_26 : decode cX3_solve 26 = .ok (.aastore, 1) := by decide +kernel
theorem dX3_solve_27 : decode cX3_solve 27 = .ok (.aload_n 0, 1) := by decide +kernel
theorem dX3_solve_28 : decode cX3_solve 28 = .ok (.getfield 11, 3) := by decide +kernel
theorem dX3_solve_31 : decode cX3_solve 31 = .ok (.iload_n 2, 1) := by decide +kernel
theorem dX3_solve_32 : decode cX3_solve 32 = .ok (.aaload, 1) := by decide +kernel
theorem dX3_solve_33 : decode cX3_solve 33 = .ok (.astore_n 3, 1) := by decide +kernel
theorem dX3_solve_34 : decode cX3_solve 34 = .ok (.aload_n 1, 1) := by decide +kernel
theorem dX3_solve_35 : decode cX3_solve 35 = .ok (.invokevirtual 36, 3) := by decide +kernel
theorem dX3_solve_38 : decode cX3_solve 38 = .ok (.istore 4, 2) := by decide +kernel
theorem dX3_solve_40 : decode cX3_solve 40 = .ok (.aload_n 3, 1) := by decide +kernel
theorem dX3_solve_41 : decode cX3_solve 41 = .ok (.getfield 39, 3) := by decide +kernel
theorem dX3_solve_44 : decode cX3_solve 44 = .ok (.iload 4, 2) := by decide +kernel
theorem dX3_solve_46 : decode cX3_solve 46 = .ok (.if_icmp .ge 45, 3) := by decide +kernel
theorem dX3_solve_49 : decode cX3_solve 49 = .ok (.aload_n 0, 1) := by decide +kernel
theorem dX3_solve_50 : decode cX3_solve 50 = .ok (.getfield 20, 3) := by decide +kernel
theorem dX3_solve_53 : decode cX3_solve 53 = .ok (.aload_n 1, 1) := by decide +kernel
theorem dX3_solve_54 : decode cX3_solve 54 = .ok (.invokevirtual 43, 3) := by decide +kernel
theorem dX3_solve_57 : decode cX3_solve 57 = .ok (.aload_n 3, 1) := by decide +kernel
theorem dX3_solve_58 : decode cX3_solve 58 = .ok (.getfield 39, 3) := by decide +kernel
theorem dX3_solve_61 : decode cX3_solve 61 = .ok (.iconst 1, 1) := by decide +kernel
theorem dX3_solve_62 : decode cX3_solve 62 = .ok (.iadd, 1) := by decide +kernel
theorem dX3_solve_63 : decode cX3_solve 63 = .ok (.istore 5, 2) := by decide +kernel
theorem dX3_solve_65 : decode cX3_solve 65 = .ok (.iload 5, 2) := by decide +kernel
theorem dX3_solve_67 : decode cX3_solve 67 = .ok (.iload 4, 2) := by decide +kernel
theorem dX3_solve_69 : decode cX3_solve 69 = .ok (.if_icmp .gt 16, 3) := by decide +kernel
theorem dX3_solve_72 : decode cX3_solve 72 = .ok (.aload_n 0, 1) := by decide +kernel
theorem dX3_solve_73 : decode cX3_solve 73 = .ok (.aload_n 3, 1) := by decide +kernel
theorem dX3_solve_74 : decode cX3_solve 74 = .ok (.iload 5, 2) := by decide +kernel
theorem dX3_solve_76 : decode cX3_solve 76 = .ok (.invokevirtual 47, 3) := by decide +kernel
theorem dX3_solve_79 : decode cX3_solve 79 = .ok (.iinc 5 1, 3) := by decide +kernel
theorem dX3_solve_82 : decode cX3_solve 82 = .ok (.goto (-17), 3) := by decide +kernel
theorem dX3_solve_85 : decode cX3_solve 85 = .ok (.aload_n 3, 1) := by decide +kernel
theorem dX3_solve_86 : decode cX3_solve 86 = .ok (.iload 4, 2) := by decide +kernel
theorem dX3_solve_88 : decode cX3_solve 88 = .ok (.putfield 39, 3) := by decide +kernel
theorem dX3_solve_91 : decode cX3_solve 91 = .ok (.aload_n 3, 1) := by decide +kernel
theorem dX3_solve_92 : decode cX3_solve 92 = .ok (.areturn, 1) := by decide +kernel
set_option maxRecDepth 20000 in
theorem ggX3_solveAll_X3_startWithOnes : GoodIn wsX3_solveAll wsX3_startWithOnes := goodIn_r _ [7, 2, 8, 9, 10, 11, 6, 12, 13, 14, 15, 16, 17, 18, 19, 87, 88, 89, 90, 91, 92, 93, 94, 95, 96] (by decide +kernel) (by decide +kernel)
set_option maxRecDepth 20000 in
theorem gX3_solveAll_X3_startWithOnes : GoodIn wsX3_solveAll (wsV RX3 51 RX3 yX3_startWithOnes wsX3_startWithOnes) := goodIn_app (goodIn_of _ (by decide +kernel)) ggX3_solveAll_X3_startWithOnes
set_option maxRecDepth 20000 in
theorem ggX3_solveAll_X1_fill : GoodIn wsX3_solveAll wsX1_fill := goodIn_r _ [24, 25, 26, 27, 28, 29, 30, 16, 31, 18, 19, 32, 33, 34, 35, 36, 37, 38, 23, 39, 40, 41, 42, 43, 44, 45, 46, 47, 48, 49, 50, 51, 52, 53, 54, 55, 56, 57, 58, 59, 60, 61, 62, 97, 98, 99, 100, 101, 90, 91, 92, 93, 94, 95, 96] (by decide +kernel) (by decide +kernel)
set_option maxRecDepth 20000 in
theorem gX3_solveAll_X1_fill : GoodIn wsX3_solveAll (wsV RX3 55 RX1 yX1_fill wsX1_fill) := goodIn_app (goodIn_of _ (by decide +kernel)) ggX3_solveAll_X1_fill
set_option maxRecDepth 20000 in
theorem ggX3_solveAll_X4_slot : GoodIn wsX3_solveAll wsX4_slot := goodIn_r _ [31, 18, 19, 32, 33, 34, 35, 90, 91, 92, 93, 94, 95, 96] (by decide +kernel) (by decide +kernel)
set_option maxRecDepth 20000 in
theorem gX3_solveAll_X4_slot : GoodIn wsX3_solveAll (wsV RX3 58 RX4 yX4_slot wsX4_slot) := goodIn_app (goodIn_of _ (by decide +kernel)) ggX3_solveAll_X4_slot
set_option maxRecDepth 20000 in
theorem ggX3_solveAll_X2_enter : GoodIn wsX3_solveAll wsX2_enter := goodIn_r _ [68, 69, 70, 71, 72, 73, 74, 45, 75, 76, 77, 44, 46, 78, 79, 80, 67, 81, 97, 98, 99, 100, 101, 102, 103, 104, 105, 106] (by decide +kernel) (by decide +kernel)
set_option maxRecDepth 20000 in
theorem gX3_solveAll_X2_enter : GoodIn wsX3_solveAll (wsV RX3 61 RX2 yX2_enter wsX2_enter) := goodIn_app (goodIn_of _ (by decide +kernel)) ggX3_solveAll_X2_enter
set_option maxRecDepth 20000 in
theorem ggX3_solveAll_X3_stepOn : GoodIn wsX3_solveAll wsX3_stepOn := goodIn_r _ [85, 2, 86, 8, 9, 10, 11, 6, 12, 13, 14, 15, 16, 17, 18, 19, 87, 88, 89, 90, 91, 92, 93, 94, 95, 96] (by decide +kernel) (by decide +kernel)
set_option maxRecDepth 20000 in
theorem gX3_solveAll_X3_stepOn : GoodIn wsX3_solveAll (wsV RX3 65 RX3 yX3_stepOn wsX3_stepOn) := goodIn_app (goodIn_of _ (by decide +kernel)) ggX3_solveAll_X3_stepOn
theorem dX3_solveAll_0 : decode cX3_solveAll 0 = .ok (.aload_n 0, 1) := by decide +kernel
theorem dX3_solveAll_1 : decode cX3_solveAll 1 = .ok (.iload_n 2, 1) := by decide +kernel
theorem dX3_solveAll_2 : decode cX3_solveAll 2 = .ok (.invokevirtual 51, 3) := by decide +kernel
theorem dX3_solveAll_5 : decode cX3_solveAll 5 = .ok (.iconst 1, 1) := by decide +kernel
theorem dX3_solveAll_6 : decode cX3_solveAll 6 = .ok (.istore_n 3, 1) := by decide +kernel
theorem dX3_solveAll_7 : decode cX3_solveAll 7 = .ok (.iconst 0, 1) := by decide +kernel
theorem dX3_solveAll_8 : decode cX3_solveAll 8 = .ok (.istore 4, 2) := by decide +kernel
theorem dX3_solveAll_10 : decode cX3_solveAll 10 = .ok (.iload_n 3, 1) := by decide +kernel
theorem dX3_solveAll_11 : decode cX3_solveAll 11 = .ok (.ifCond .eq 47, 3) := by decide +kernel
theorem dX3_solveAll_14 : decode cX3_solveAll 14 = .ok (.iload 4, 2) := by decide +kernel
theorem dX3_solveAll_16 : decode cX3_solveAll 16 = .ok (.bipush 100, 2) := by decide +kernel
theorem dX3_solveAll_18 : decode cX3_solveAll 18 = .ok (.if_icmp .ge 40, 3) := by decide +kernel
theorem dX3_solveAll_21 : decode cX3_solveAll 21 = .ok (.aload_n 0, 1) := by decide +kernel
theorem dX3_solveAll_22 : decode cX3_solveAll 22 = .ok (.getfield 27, 3) := by decide +kernel
theorem dX3_solveAll_25 : decode cX3_solveAll 25 = .ok (.aload_n 0, 1) := by decide +kernel
theorem dX3_solveAll_26 : decode cX3_solveAll 26 = .ok (.getfield 20, 3) := by decide +kernel
theorem dX3_solveAll_29 : decode cX3_solveAll 29 = .ok (.invokevirtual 55, 3) := by decide +kernel
theorem dX3_solveAll_32 : decode cX3_solveAll 32 = .ok (.aload_n 1, 1) := by decide +kernel
theorem dX3_solveAll_33 : decode cX3_solveAll 33 = .ok (.aload_n 0, 1) := by decide +kernel
theorem dX3_solveAll_34 : decode cX3_solveAll 34 = .ok (.getfield 20, 3) := by decide +kernel
theorem dX3_solveAll_37 : decode cX3_solveAll 37 = .ok (.invokevirtual 58, 3) := by decide +kernel
theorem dX3_solveAll_40 : decode cX3_solveAll 40 = .ok (.aload_n 0, 1) := by decide +kernel
theorem dX3_solveAll_41 : decode cX3_solveAll 41 = .ok (.getfield 27, 3) := by decide +kernel
theorem dX3_solveAll_44 : decode cX3_solveAll 44 = .ok (.invokevirtual 61, 3) := by decide +kernel
theorem dX3_solveAll_47 : decode cX3_solveAll 47 = .ok (.aload_n 0, 1) := by decide +kernel
theorem dX3_solveAll_48 : decode cX3_solveAll 48 = .ok (.invokevirtual 65, 3) := by decide +kernel
theorem dX3_solveAll_51 : decode cX3_solveAll 51 = .ok (.istore_n 3, 1) := by decide +kernel
theorem dX3_solveAll_52 : decode cX3_solveAll 52 = .ok (.iinc 4 1, 3) := by decide +kernel
theorem dX3_solveAll_55 : decode cX3_solveAll 55 = .ok (.goto (-45), 3) := by decide +kernel
theorem dX3_solveAll_58 : decode cX3_solveAll 58 = .ok (.return_, 1) := by decide +kernel
set_option maxRecDepth 20000 in
theorem ggX3_startWithOnes_X3_appendOnes : GoodIn wsX3_startWithOnes wsX3_appendOnes := goodIn_r _ [7, 1, 2, 8, 9, 10, 11, 12, 13, 14, 15, 16, 17, 18, 19, 20, 21, 22, 23, 24] (by decide +kernel) (by decide +kernel)
set_option maxRecDepth 20000 in
theorem gX3_startWithOnes_X3_appendOnes : GoodIn wsX3_startWithOnes (wsV RX3 72 RX3 yX3_appendOnes wsX3_appendOnes) := goodIn_app (goodIn_of _ (by decide +kernel)) ggX3_startWithOnes_X3_appendOnes
theorem dX3_startWithOnes_0 : decode cX3_startWithOnes 0 = .ok (.aload_n 0, 1) := by decide +kernel
theorem dX3_startWithOnes_1 : decode cX3_startWithOnes 1 = .ok (.getfield 20, 3) := by decide +kernel
theorem dX3_startWithOnes_4 : decode cX3_startWithOnes 4 = .ok (.iconst 0, 1) := by decide +kernel
theorem dX3_startWithOnes_5 : decode cX3_startWithOnes 5 = .ok (.putfield 69, 3) := by decide +kernel
theorem dX3_startWithOnes_8 : decode cX3_startWithOnes 8 = .ok (.aload_n 0, 1) := by decide +kernel
theorem dX3_startWithOnes_9 : decode cX3_startWithOnes 9 = .ok (.iload_n 1, 1) := by decide +kernel
theorem dX3_startWithOnes_10 : decode cX3_startWithOnes 10 = .ok (.invokevirtual 72, 3) := by decide +kernel
theorem dX3_startWithOnes_13 : decode cX3_startWithOnes 13 = .ok (.return_, 1) := by decide +kernel
set_option maxRecDepth 20000 in
theorem ggX3_stepOn_X3_appendOnes : GoodIn wsX3_stepOn wsX3_appendOnes := goodIn_r _ [8, 1, 3, 9, 10, 11, 12, 13, 14, 15, 16, 17, 18, 19, 20, 21, 22, 23, 24, 25] (by decide +kernel) (by decide +kernel)
set_option maxRecDepth 20000 in
theorem gX3_stepOn_X3_appendOnes : GoodIn wsX3_stepOn (wsV RX3 72 RX3 yX3_appendOnes wsX3_appendOnes) := goodIn_app (goodIn_of _ (by decide +kernel)) ggX3_stepOn_X3_appendOnes
theorem dX3_stepOn_0 : decode cX3_stepOn 0 = .ok (.aload_n 0, 1) := by decide +kernel
theorem dX3_stepOn_1 : decode cX3_stepOn 1 = .ok (.getfield 20, 3) := by decide +kernel
theorem dX3_stepOn_4 : decode cX3_stepOn 4 = .ok (.getfield 75, 3) := by decide +kernel
theorem dX3_stepOn_7 : decode cX3_stepOn 7 = .ok (.astore_n 1, 1) := by decide +kernel
theorem dX3_stepOn_8 : decode cX3_stepOn 8 = .ok (.aload_n 0, 1) := by decide +kernel
theorem dX3_stepOn_9 : decode cX3_stepOn 9 = .ok (.getfield 20, 3) := by decide +kernel
theorem dX3_stepOn_12 : decode cX3_stepOn 12 = .ok (.getfield 69, 3) := by decide +kernel
theorem dX3_stepOn_15 : decode cX3_stepOn 15 = .ok (.iconst 2, 1) := by decide +kernel
theorem dX3_stepOn_16 : decode cX3_stepOn 16 = .ok (.isub, 1) := by decide +kernel
theorem dX3_stepOn_17 : decode cX3_stepOn 17 = .ok (.istore_n 2, 1) := by decide +kernel
theorem dX3_stepOn_18 : decode cX3_stepOn 18 = .ok (.iload_n 2, 1) := by decide +kernel
theorem dX3_stepOn_19 : decode cX3_stepOn 19 = .ok (.ifCond .le 20, 3) := by decide +kernel
theorem dX3_stepOn_22 : decode cX3_stepOn 22 = .ok (.aload_n 1, 1) := by decide +kernel
theorem dX3_stepOn_23 : decode cX3_stepOn 23 = .ok (.iload_n 2, 1) := by decide +kernel
theorem dX3_stepOn_24 : decode cX3_stepOn 24 = .ok (.iconst 1, 1) := by decide +kernel
theorem dX3_stepOn_25 : decode cX3_stepOn 25 = .ok (.isub, 1) := by decide +kernel
theorem dX3_stepOn_26 : decode cX3_stepOn 26 = .ok (.iaload, 1) := by decide +kernel
theorem dX3_stepOn_27 : decode cX3_stepOn 27 = .ok (.aload_n 1, 1) := by decide +kernel
theorem dX3_stepOn_28 : decode cX3_stepOn 28 = .ok (.iload_n 2, 1) := by decide +kernel
theorem dX3_stepOn_29 : decode cX3_stepOn 29 = .ok (.iaload, 1) := by decide +kernel
theorem dX3_stepOn_30 : decode cX3_stepOn 30 = .ok (.if_icmp .ne 9, 3) := by decide +kernel
theorem dX3_stepOn_33 : decode cX3_stepOn 33 = .ok (.iinc 2 (-1), 3) := by decide +kernel
theorem dX3_stepOn_36 : decode cX3_stepOn 36 = .ok (.goto (-18), 3) := by decide +kernel
theorem dX3_stepOn_39 : decode cX3_stepOn 39 = .ok (.iload_n 2, 1) := by decide +kernel
theorem dX3_stepOn_40 : decode cX3_stepOn 40 = .ok (.ifCond .ge 5, 3) := by decide +kernel
theorem dX3_stepOn_43 : decode cX3_stepOn 43 = .ok (.iconst 0, 1) := by decide +kernel
theorem dX3_stepOn_44 : decode cX3_stepOn 44 = .ok (.ireturn, 1) := by decide +kernel
theorem dX3_stepOn_45 : decode cX3_stepOn 45 = .ok (.iconst (-1), 1) := by decide +kernel
theorem dX3_stepOn_46 : decode cX3_stepOn 46 = .ok (.istore_n 3, 1) := by decide +kernel
theorem dX3_stepOn_47 : decode cX3_stepOn 47 = .ok (.iload_n 2, 1) := by decide +kernel
theorem dX3_stepOn_48 : decode cX3_stepOn 48 = .ok (.iconst 1, 1) := by decide +kernel
theorem dX3_stepOn_49 : decode cX3_stepOn 49 = .ok (.iadd, 1) := by decide +kernel
theorem dX3_stepOn_50 : decode cX3_stepOn 50 = .ok (.istore 4, 2) := by decide +kernel
theorem dX3_stepOn_52 : decode cX3_stepOn 52 = .ok (.iload 4, 2) := by decide +kernel
theorem dX3_stepOn_54 : decode cX3_stepOn 54 = .ok (.aload_n 0, 1) := by decide +kernel
theorem dX3_stepOn_55 : decode cX3_stepOn 55 = .ok (.getfield 20, 3) := by decide +kernel
theorem dX3_stepOn_58 : decode cX3_stepOn 58 = .ok (.getfield 69, 3) := by decide +kernel
theorem dX3_stepOn_61 : decode cX3_stepOn 61 = .ok (.if_icmp .ge 16, 3) := by decide +kernel
theorem dX3_stepOn_64 : decode cX3_stepOn 64 = .ok (.iload_n 3, 1) := by decide +kernel
theorem dX3_stepOn_65 : decode cX3_stepOn 65 = .ok (.aload_n 1, 1) := by decide +kernel
theorem dX3_stepOn_66 : decode cX3_stepOn 66 = .ok (.iload 4, 2) := by decide +kernel
theorem dX3_stepOn_68 : decode cX3_stepOn 68 = .ok (.iaload, 1) := by decide +kernel
theorem dX3_stepOn_69 : decode cX3_stepOn 69 = .ok (.iadd, 1) := by decide +kernel
theorem dX3_stepOn_70 : decode cX3_stepOn 70 = .ok (.istore_n 3, 1) := by decide +kernel
theorem dX3_stepOn_71 : decode cX3_stepOn 71 = .ok (.iinc 4 1, 3) := by decide +kernel
theorem dX3_stepOn_74 : decode cX3_stepOn 74 = .ok (.goto (-22), 3) := by decide +kernel
theorem dX3_stepOn_77 : decode cX3_stepOn 77 = .ok (.aload_n 1, 1) := by decide +kernel
theorem dX3_stepOn_78 : decode cX3_stepOn 78 = .ok (.iload_n 2, 1) := by decide +kernel
theorem dX3_stepOn_79 : decode cX3_stepOn 79 = .ok (.dup2, 1) := by decide +kernel
theorem dX3_stepOn_80 : decode cX3_stepOn 80 = .ok (.iaload, 1) := by decide +kernel
theorem dX3_stepOn_81 : decode cX3_stepOn 81 = .ok (.iconst 1, 1) := by decide +kernel
theorem dX3_stepOn_82 : decode cX3_stepOn 82 = .ok (.iadd, 1) := by decide +kernel
theorem dX3_stepOn_83 : decode cX3_stepOn 83 = .ok (.iastore, 1) := by decide +kernel
theorem dX3_stepOn_84 : decode cX3_stepOn 84 = .ok (.aload_n 0, 1) := by decide +kernel
theorem dX3_stepOn_85 : decode cX3_stepOn 85 = .ok (.getfield 20, 3) := by decide +kernel
theorem dX3_stepOn_88 : decode cX3_stepOn 88 = .ok (.iload_n 2, 1) := by decide +kernel
theorem dX3_stepOn_89 : decode cX3_stepOn 89 = .ok (.iconst 1, 1) := by decide +kernel
theorem dX3_stepOn_90 : decode cX3_stepOn 90 = .ok (.iadd, 1) := by decide +kernel
theorem dX3_stepOn_91 : decode cX3_stepOn 91 = .ok (.putfield 69, 3) := by decide +kernel
theorem dX3_stepOn_94 : decode cX3_stepOn 94 = .ok (.aload_n 0, 1) := by decide +kernel
theorem dX3_stepOn_95 : decode cX3_stepOn 95 = .ok (.iload_n 3, 1) := by decide +kernel
theorem dX3_stepOn_96 : decode cX3_stepOn 96 = .ok (.invokevirtual 72, 3) := by decide +kernel
theorem dX3_stepOn_99 : decode cX3_stepOn 99 = .ok (.iconst 1, 1) := by decide +kernel
theorem dX3_stepOn_100 : decode cX3_stepOn 100 = .ok (.ireturn, 1) := by decide +kernel
set_option maxRecDepth 20000 in
theorem ggX3_appendOnes_X4_insert : GoodIn wsX3_appendOnes wsX4_insert := goodIn_r _ [7, 8, 9, 13, 14, 15, 16, 17, 18, 19] (by decide +kernel) (by decide +kernel)
set_option maxRecDepth 20000 in
theorem gX3_appendOnes_X4_insert : GoodIn wsX3_appendOnes (wsV RX3 79 RX4 yX4_insert wsX4_insert) := goodIn_app (goodIn_of _ (by decide +kernel)) ggX3_appendOnes_X4_insert
theorem dX3_appendOnes_0 : decode cX3_appendOnes 0 = .ok (.iconst 0, 1) := by decide +kernel
theorem dX3_appendOnes_1 : decode cX3_appendOnes 1 = .ok (.istore_n 2, 1) := by decide +kernel
theorem dX3_appendOnes_2 : decode cX3_appendOnes 2 = .ok (.iload_n 2, 1) := by decide +kernel
theorem dX3_appendOnes_3 : decode cX3_appendOnes 3 = .ok (.iload_n 1, 1) := by decide +kernel
theorem dX3_appendOnes_4 : decode cX3_appendOnes 4 = .ok (.if_icmp .ge 24, 3) := by decide +kernel
theorem dX3_appendOnes_7 : decode cX3_appendOnes 7 = .ok (.aload_n 0, 1) := by decide +kernel
theorem dX3_appendOnes_8 : decode cX3_appendOnes 8 = .ok (.getfield 20, 3) := by decide +kernel
theorem dX3_appendOnes_11 : decode cX3_appendOnes 11 = .ok (.aload_n 0, 1) := by decide +kernel
theorem dX3_appendOnes_12 : decode cX3_appendOnes 12 = .ok (.getfield 20, 3) := by decide +kernel
theorem dX3_appendOnes_15 : decode cX3_appendOnes 15 = .ok (.getfield 69, 3) := by decide +kernel
theorem dX3_appendOnes_18 : decode cX3_appendOnes 18 = .ok (.iconst 1, 1) := by decide +kernel
theorem dX3_appendOnes_19 : decode cX3_appendOnes 19 = .ok (.invokevirtual 79, 3) := by decide +kernel
theorem dX3_appendOnes_22 : decode cX3_appendOnes 22 = .ok (.iinc 2 1, 3) := by decide +kernel
theorem dX3_appendOnes_25 : decode cX3_appendOnes 25 = .ok (.goto (-23), 3) := by decide +kernel
theorem dX3_appendOnes_28 : decode cX3_appendOnes 28 = .ok (.return_, 1) := by decide +kernel
theorem dX4_init_0 : decode cX4_init 0 = .ok (.aload_n 0, 1) := by decide +kernel
theorem dX4_init_1 : decode cX4_init 1 = .ok (.invokespecial 3, 3) := by decide +kernel
theorem dX4_init_4 : decode cX4_init 4 = .ok (.aload_n 0, 1) := by decide +kernel
theorem dX4_init_5 : decode cX4_init 5 = .ok (.bipush 12, 2) := by decide +kernel
theorem dX4_init_7 : decode cX4_init 7 = .ok (.newarray .int, 2) := by decide +kernel
theorem dX4_init_9 : decode cX4_init 9 = .ok (.putfield 9, 3) := by decide +kernel
theorem dX4_init_12 : decode cX4_init 12 = .ok (.aload_n 0, 1) := by decide +kernel
theorem dX4_init_13 : decode cX4_init 13 = .ok (.iconst 0, 1) := by decide +kernel
theorem dX4_init_14 : decode cX4_init 14 = .ok (.putfield 15, 3) := by decide +kernel
theorem dX4_init_17 : decode cX4_init 17 = .ok (.aload_n 0, 1) := by decide +kernel
theorem dX4_init_18 : decode cX4_init 18 = .ok (.iconst 3, 1) := by decide +kernel
theorem dX4_init_19 : decode cX4_init 19 = .ok (.putfield 19, 3) := by decide +kernel
theorem dX4_init_22 : decode cX4_init 22 = .ok (.aload_n 0, 1) := by decide +kernel
theorem dX4_init_23 : decode cX4_init 23 = .ok (.iconst 1, 1) := by decide +kernel
theorem dX4_init_24 : decode cX4_init 24 = .ok (.putfield 22, 3) := by decide +kernel
theorem dX4_init_27 : decode cX4_init 27 = .ok (.aload_n 0, 1) := by decide +kernel
theorem dX4_init_28 : decode cX4_init 28 = .ok (.iconst 0, 1) := by decide +kernel
theorem dX4_init_29 : decode cX4_init 29 = .ok (.putfield 26, 3) := by decide +kernel
theorem dX4_init_32 : decode cX4_init 32 = .ok (.aload_n 0, 1) := by decide +kernel
theorem dX4_init_33 : decode cX4_init 33 = .ok (.iconst 1, 1) := by decide +kernel
theorem dX4_init_34 : decode cX4_init 34 = .ok (.putfield 29, 3) := by decide +kernel
theorem dX4_init_37 : decode cX4_init 37 = .ok (.aload_n 0, 1) := by decide +kernel
theorem dX4_init_38 : decode cX4_init 38 = .ok (.iconst 3, 1) := by decide +kernel
theorem dX4_init_39 : decode cX4_init 39 = .ok (.newarray .int, 2) := by decide +kernel
theorem dX4_init_41 : decode cX4_init 41 = .ok (.putfield 32, 3) := by decide +kernel
theorem dX4_init_44 : decode cX4_init 44 = .ok (.return_, 1) := by decide +kernel
theorem dX4_copyFrom_0 : decode cX4_copyFrom 0 = .ok (.aload_n 1, 1) := by decide +kernel
theorem dX4_copyFrom_1 : decode cX4_copyFrom 1 = .ok (.getfield 9, 3) := by decide +kernel
theorem dX4_copyFrom_4 : decode cX4_copyFrom 4 = .ok (.iconst 0, 1) := by decide +kernel
theorem dX4_copyFrom_5 : decode cX4_copyFrom 5 = .ok (.aload_n 0, 1) := by decide +kernel
theorem dX4_copyFrom_6 : decode cX4_copyFrom 6 = .ok (.getfield 9, 3) := by decide +kernel
theorem dX4_copyFrom_9 : decode cX4_copyFrom 9 = .ok (.iconst 0, 1) := by decide +kernel
theorem dX4_copyFrom_10 : decode cX4_copyFrom 10 = .ok (.bipush 12, 2) := by decide +kernel
theorem dX4_copyFrom_12 : decode cX4_copyFrom 12 = .ok (.invokestatic 35, 3) := by decide +kernel
theorem dX4_copyFrom_15 : decode cX4_copyFrom 15 = .ok (.aload_n 0, 1) := by decide +kernel
theorem dX4_copyFrom_16 : decode cX4_copyFrom 16 = .ok (.aload_n 1, 1) := by decide +kernel
theorem dX4_copyFrom_17 : decode cX4_copyFrom 17 = .ok (.getfield 15, 3) := by decide +kernel
theorem dX4_copyFrom_20 : decode cX4_copyFrom 20 = .ok (.putfield 15, 3) := by decide +kernel
theorem dX4_copyFrom_23 : decode cX4_copyFrom 23 = .ok (.aload_n 0, 1) := by decide +kernel
theorem dX4_copyFrom_24 : decode cX4_copyFrom 24 = .ok (.aload_n 1, 1) := by decide +kernel
theorem dX4_copyFrom_25 : decode cX4_copyFrom 25 = .ok (.getfield 19, 3) := by decide +kernel
theorem dX4_copyFrom_28 : decode cX4_copyFrom 28 = .ok (.putfield 19, 3) := by decide +kernel
theorem dX4_copyFrom_31 : decode cX4_copyFrom 31 = .ok (.aload_n 0, 1) := by decide +kernel
theorem dX4_copyFrom_32 : decode cX4_copyFrom 32 = .ok (.aload_n 1, 1) := by decide +kernel
theorem dX4_copyFrom_33 : decode cX4_copyFrom 33 = .ok (.getfield 22, 3) := by decide +kernel
theorem dX4_copyFrom_36 : decode cX4_copyFrom 36 = .ok (.putfield 22, 3) := by decide +kernel
theorem dX4_copyFrom_39 : decode cX4_copyFrom 39 = .ok (.aload_n 0, 1) := by decide +kernel
theorem dX4_copyFrom_40 : decode cX4_copyFrom 40 = .ok (.aload_n 1, 1) := by decide +kernel
theorem dX4_copyFrom_41 : decode cX4_copyFrom 41 = .ok (.getfield 26, 3) := by decide +kernel
theorem dX4_copyFrom_44 : decode cX4_copyFrom 44 = .ok (.putfield 26, 3) := by decide +kernel
theorem dX4_copyFrom_47 : decode cX4_copyFrom 47 = .ok (.aload_n 0, 1) := by decide +kernel
theorem dX4_copyFrom_48 : decode cX4_copyFrom 48 = .ok (.aload_n 1, 1) := by decide +kernel
theorem dX4_copyFrom_49 : decode cX4_copyFrom 49 = .ok (.getfield 29, 3) := by decide +kernel
theorem dX4_copyFrom_52 : decode cX4_copyFrom 52 = .ok (.putfield 29, 3) := by decide +kernel
theorem dX4_copyFrom_55 : decode cX4_copyFrom 55 = .ok (.aload_n 1, 1) := by decide +kernel
theorem dX4_copyFrom_56 : decode cX4_copyFrom 56 = .ok (.getfield 32, 3) := by decide +kernel
theorem dX4_copyFrom_59 : decode cX4_copyFrom 59 = .ok (.iconst 0, 1) := by decide +kernel
theorem dX4_copyFrom_60 : decode cX4_copyFrom 60 = .ok (.aload_n 0, 1) := by decide +kernel
theorem dX4_copyFrom_61 : decode cX4_copyFrom 61 = .ok (.getfield 32, 3) := by decide +kernel
theorem dX4_copyFrom_64 : decode cX4_copyFrom 64 = .ok (.iconst 0, 1) := by decide +kernel
theorem dX4_copyFrom_65 : decode cX4_copyFrom 65 = .ok (.iconst 3, 1) := by decide +kernel
theorem dX4_copyFrom_66 : decode cX4_copyFrom 66 = .ok (.invokestatic 35, 3) := by decide +kernel
theorem dX4_copyFrom_69 : decode cX4_copyFrom 69 = .ok (.return_, 1) := by decide +kernel
theorem dX4_startAnew_0 : decode cX4_startAnew 0 = .ok (.aload_n 0, 1) := by decide +kernel
theorem dX4_startAnew_1 : decode cX4_startAnew 1 = .ok (.iconst 0, 1) := by decide +kernel
theorem dX4_startAnew_2 : decode cX4_startAnew 2 = .ok (.putfield 15, 3) := by decide +kernel
theorem dX4_startAnew_5 : decode cX4_startAnew 5 = .ok (.iconst 0, 1) := by decide +kernel
theorem dX4_startAnew_6 : decode cX4_startAnew 6 = .ok (.istore_n 1, 1) := by decide +kernel
theorem dX4_startAnew_7 : decode cX4_startAnew 7 = .ok (.iload_n 1, 1) := by decide +kernel
theorem dX4_startAnew_8 : decode cX4_startAnew 8 = .ok (.iconst 3, 1) := by decide +kernel
theorem dX4_startAnew_9 : decode cX4_startAnew 9 = .ok (.if_icmp .ge 16, 3) := by decide +kernel
theorem dX4_startAnew_12 : decode cX4_startAnew 12 = .ok (.aload_n 0, 1) := by decide +kernel
theorem dX4_startAnew_13 : decode cX4_startAnew 13 = .ok (.getfield 32, 3) := by decide +kernel
theorem dX4_startAnew_16 : decode cX4_startAnew 16 = .ok (.iload_n 1, 1) := by decide +kernel
theorem dX4_startAnew_17 : decode cX4_startAnew 17 = .ok (.iconst 0, 1) := by decide +kernel
theorem dX4_startAnew_18 : decode cX4_startAnew 18 = .ok (.iastore, 1) := by decide +kernel
theorem dX4_startAnew_19 : decode cX4_startAnew 19 = .ok (.iinc 1 1, 3) := by decide +kernel
theorem dX4_startAnew_22 : decode cX4_startAnew 22 = .ok (.goto (-15), 3) := by decide +kernel
theorem dX4_startAnew_25 : decode cX4_startAnew 25 = .ok (.return_, 1) := by decide +kernel
theorem dX4_hasHeap_0 : decode cX4_hasHeap 0 = .ok (.iload_n 1, 1) := by decide +kernel
theorem dX4_hasHeap_1 : decode cX4_hasHeap 1 = .ok (.ifCond .lt 15, 3) := by decide +kernel
theorem dX4_hasHeap_4 : decode cX4_hasHeap 4 = .ok (.iload_n 1, 1) := by decide +kernel
theorem dX4_hasHeap_5 : decode cX4_hasHeap 5 = .ok (.aload_n 0, 1) := by decide +kernel
theorem dX4_hasHeap_6 : decode cX4_hasHeap 6 = .ok (.getfield 15, 3) := by decide +kernel
theorem dX4_hasHeap_9 : decode cX4_hasHeap 9 = .ok (.if_icmp .ge 7, 3) := by decide +kernel
theorem dX4_hasHeap_12 : decode cX4_hasHeap 12 = .ok (.iconst 1, 1) := by decide +kernel
theorem dX4_hasHeap_13 : decode cX4_hasHeap 13 = .ok (.goto 4, 3) := by decide +kernel
theorem dX4_hasHeap_16 : decode cX4_hasHeap 16 = .ok (.iconst 0, 1) := by decide +kernel
theorem dX4_hasHeap_17 : decode cX4_hasHeap 17 = .ok (.ireturn, 1) := by decide +kernel
set_option maxRecDepth 20000 in
theorem ggX4_sizeAt_X4_hasHeap : GoodIn wsX4_sizeAt wsX4_hasHeap := goodIn_r _ [6, 7, 8, 9, 10, 11, 12, 13, 14] (by decide +kernel) (by decide +kernel)
set_option maxRecDepth 20000 in
theorem gX4_sizeAt_X4_hasHeap : GoodIn wsX4_sizeAt (wsV RX4 41 RX4 yX4_hasHeap wsX4_hasHeap) := goodIn_app (goodIn_of _ (by decide +kernel)) ggX4_sizeAt_X4_hasHeap
theorem dX4_sizeAt_0 : decode cX4_sizeAt 0 = .ok (.aload_n 0, 1) := by decide +kernel
theorem dX4_sizeAt_1 : decode cX4_sizeAt 1 = .ok (.iload_n 1, 1) := by decide +kernel
theorem dX4_sizeAt_2 : decode cX4_sizeAt 2 = .ok (.invokevirtual 41, 3) := by decide +kernel
theorem dX4_sizeAt_5 : decode cX4_sizeAt 5 = .ok (.ifCond .eq 12, 3) := by decide +kernel
theorem dX4_sizeAt_8 : decode cX4_sizeAt 8 = .ok (.aload_n 0, 1) := by decide +kernel
theorem dX4_sizeAt_9 : decode cX4_sizeAt 9 = .ok (.getfield 9, 3) := by decide +kernel
theorem dX4_sizeAt_12 : decode cX4_sizeAt 12 = .ok (.iload_n 1, 1) := by decide +kernel
theorem dX4_sizeAt_13 : decode cX4_sizeAt 13 = .ok (.iaload, 1) := by decide +kernel
theorem dX4_sizeAt_14 : decode cX4_sizeAt 14 = .ok (.goto 4, 3) := by decide +kernel
theorem dX4_sizeAt_17 : decode cX4_sizeAt 17 = .ok (.iconst 0, 1) := by decide +kernel
theorem dX4_sizeAt_18 : decode cX4_sizeAt 18 = .ok (.ireturn, 1) := by decide +kernel
theorem dX4_total_0 : decode cX4_total 0 = .ok (.iconst 0, 1) := by decide +kernel
theorem dX4_total_1 : decode cX4_total 1 = .ok (.istore_n 1, 1) := by decide +kernel
theorem dX4_total_2 : decode cX4_total 2 = .ok (.iconst 0, 1) := by decide +kernel
theorem dX4_total_3 : decode cX4_total 3 = .ok (.istore_n 2, 1) := by decide +kernel
theorem dX4_total_4 : decode cX4_total 4 = .ok (.iload_n 2, 1) := by decide +kernel
theorem dX4_total_5 : decode cX4_total 5 = .ok (.aload_n 0, 1) := by decide +kernel
theorem dX4_total_6 : decode cX4_total 6 = .ok (.getfield 15, 3) := by decide +kernel
theorem dX4_total_9 : decode cX4_total 9 = .ok (.if_icmp .ge 18, 3) := by decide +kernel
theorem dX4_total_12 : decode cX4_total 12 = .ok (.iload_n 1, 1) := by decide +kernel
theorem dX4_total_13 : decode cX4_total 13 = .ok (.aload_n 0, 1) := by decide +kernel
theorem dX4_total_14 : decode cX4_total 14 = .ok (.getfield 9, 3) := by decide +kernel
theorem dX4_total_17 : decode cX4_total 17 = .ok (.iload_n 2, 1) := by decide +kernel
theorem dX4_total_18 : decode cX4_total 18 = .ok (.iaload, 1) := by decide +kernel
theorem dX4_total_19 : decode cX4_total 19 = .ok (.iadd, 1) := by decide +kernel
theorem dX4_total_20 : decode cX4_total 20 = .ok (.istore_n 1, 1) := by decide +kernel
theorem dX4_total_21 : decode cX4_total 21 = .ok (.iinc 2 1, 3) := by decide +kernel
theorem dX4_total_24 : decode cX4_total 24 = .ok (.goto (-20), 3) := by decide +kernel
theorem dX4_total_27 : decode cX4_total 27 = .ok (.iload_n 1, 1) := by decide +kernel
theorem dX4_total_28 : decode cX4_total 28 = .ok (.ireturn, 1) := by decide +kernel
set_option maxRecDepth 20000 in
theorem ggX4_slot_X6_weightOf : GoodIn wsX4_slot wsX6_weightOf := goodIn_r _ [5, 6] (by decide +kernel) (by decide +kernel)
set_option maxRecDepth 20000 in
theorem gX4_slot_X6_weightOf_n45 : GoodIn wsX4_slot (wsX6_weightOf) := ggX4_slot_X6_weightOf
theorem dX4_slot_0 : decode cX4_slot 0 = .ok (.iconst 0, 1) := by decide +kernel
theorem dX4_slot_1 : decode cX4_slot 1 = .ok (.istore_n 1, 1) := by decide +kernel
theorem dX4_slot_2 : decode cX4_slot 2 = .ok (.iconst 0, 1) := by decide +kernel
theorem dX4_slot_3 : decode cX4_slot 3 = .ok (.istore_n 2, 1) := by decide +kernel
theorem dX4_slot_4 : decode cX4_slot 4 = .ok (.iload_n 2, 1) := by decide +kernel
theorem dX4_slot_5 : decode cX4_slot 5 = .ok (.aload_n 0, 1) := by decide +kernel
theorem dX4_slot_6 : decode cX4_slot 6 = .ok (.getfield 15, 3) := by decide +kernel
theorem dX4_slot_9 : decode cX4_slot 9 = .ok (.if_icmp .ge 21, 3) := by decide +kernel
theorem dX4_slot_12 : decode cX4_slot 12 = .ok (.iload_n 1, 1) := by decide +kernel
theorem dX4_slot_13 : decode cX4_slot 13 = .ok (.aload_n 0, 1) := by decide +kernel
theorem dX4_slot_14 : decode cX4_slot 14 = .ok (.getfield 9, 3) := by decide +kernel
theorem dX4_slot_17 : decode cX4_slot 17 = .ok (.iload_n 2, 1) := by decide +kernel
theorem dX4_slot_18 : decode cX4_slot 18 = .ok (.iaload, 1) := by decide +kernel
theorem dX4_slot_19 : decode cX4_slot 19 = .ok (.invokestatic 45, 3) := by decide +kernel
theorem dX4_slot_22 : decode cX4_slot 22 = .ok (.iadd, 1) := by decide +kernel
theorem dX4_slot_23 : decode cX4_slot 23 = .ok (.istore_n 1, 1) := by decide +kernel
theorem dX4_slot_24 : decode cX4_slot 24 = .ok (.iinc 2 1, 3) := by decide +kernel
theorem dX4_slot_27 : decode cX4_slot 27 = .ok (.goto (-23), 3) := by decide +kernel
theorem dX4_slot_30 : decode cX4_slot 30 = .ok (.iload_n 1, 1) := by decide +kernel
theorem dX4_slot_31 : decode cX4_slot 31 = .ok (.sipush 1023, 3) := by decide +kernel
theorem dX4_slot_34 : decode cX4_slot 34 = .ok (.iand, 1) := by decide +kernel
theorem dX4_slot_35 : decode cX4_slot 35 = .ok (.ireturn, 1) := by decide +kernel
set_option maxRecDepth 20000 in
theorem ggX4_ruleSet_X6_bit : GoodIn wsX4_ruleSet wsX6_bit := goodIn_r _ [6] (by decide +kernel) (by decide +kernel)
set_option maxRecDepth 20000 in
theorem gX4_ruleSet_X6_bit_n49 : GoodIn wsX4_ruleSet (wsX6_bit) := ggX4_ruleSet_X6_bit
theorem dX4_ruleSet_0 : decode cX4_ruleSet 0 = .ok (.aload_n 0, 1) := by decide +kernel
theorem dX4_ruleSet_1 : decode cX4_ruleSet 1 = .ok (.getfield 19, 3) := by decide +kernel
theorem dX4_ruleSet_4 : decode cX4_ruleSet 4 = .ok (.iconst 1, 1) := by decide +kernel
theorem dX4_ruleSet_5 : decode cX4_ruleSet 5 = .ok (.isub, 1) := by decide +kernel
theorem dX4_ruleSet_6 : decode cX4_ruleSet 6 = .ok (.iconst 4, 1) := by decide +kernel
theorem dX4_ruleSet_7 : decode cX4_ruleSet 7 = .ok (.imul, 1) := by decide +kernel
theorem dX4_ruleSet_8 : decode cX4_ruleSet 8 = .ok (.aload_n 0, 1) := by decide +kernel
theorem dX4_ruleSet_9 : decode cX4_ruleSet 9 = .ok (.getfield 22, 3) := by decide +kernel
theorem dX4_ruleSet_12 : decode cX4_ruleSet 12 = .ok (.invokestatic 49, 3) := by decide +kernel
theorem dX4_ruleSet_15 : decode cX4_ruleSet 15 = .ok (.iconst 2, 1) := by decide +kernel
theorem dX4_ruleSet_16 : decode cX4_ruleSet 16 = .ok (.imul, 1) := by decide +kernel
theorem dX4_ruleSet_17 : decode cX4_ruleSet 17 = .ok (.iadd, 1) := by decide +kernel
theorem dX4_ruleSet_18 : decode cX4_ruleSet 18 = .ok (.aload_n 0, 1) := by decide +kernel
theorem dX4_ruleSet_19 : decode cX4_ruleSet 19 = .ok (.getfield 26, 3) := by decide +kernel
theorem dX4_ruleSet_22 : decode cX4_ruleSet 22 = .ok (.invokestatic 49, 3) := by decide +kernel
theorem dX4_ruleSet_25 : decode cX4_ruleSet 25 = .ok (.iadd, 1) := by decide +kernel
theorem dX4_ruleSet_26 : decode cX4_ruleSet 26 = .ok (.ireturn, 1) := by decide +kernel
set_option maxRecDepth 20000 in
theorem ggX4_isMove_X4_hasHeap : GoodIn wsX4_isMove wsX4_hasHeap := goodIn_r _ [9, 10, 11, 12, 13, 14, 15, 16, 17] (by decide +kernel) (by decide +kernel)
set_option maxRecDepth 20000 in
theorem gX4_isMove_X4_hasHeap : GoodIn wsX4_isMove (wsV RX4 41 RX4 yX4_hasHeap wsX4_hasHeap) := goodIn_app (goodIn_of _ (by decide +kernel)) ggX4_isMove_X4_hasHeap
theorem dX4_isMove_0 : decode cX4_isMove 0 = .ok (.aload_n 0, 1) := by decide +kernel
theorem dX4_isMove_1 : decode cX4_isMove 1 = .ok (.iload_n 2, 1) := by decide +kernel
theorem dX4_isMove_2 : decode cX4_isMove 2 = .ok (.invokevirtual 41, 3) := by decide +kernel
theorem dX4_isMove_5 : decode cX4_isMove 5 = .ok (.ifCond .ne 5, 3) := by decide +kernel
theorem dX4_isMove_8 : decode cX4_isMove 8 = .ok (.iconst 0, 1) := by decide +kernel
theorem dX4_isMove_9 : decode cX4_isMove 9 = .ok (.ireturn, 1) := by decide +kernel
theorem dX4_isMove_10 : decode cX4_isMove 10 = .ok (.iload_n 1, 1) := by decide +kernel
theorem dX4_isMove_11 : decode cX4_isMove 11 = .ok (.ifCond .ne 32, 3) := by decide +kernel
theorem dX4_isMove_14 : decode cX4_isMove 14 = .ok (.iload_n 3, 1) := by decide +kernel
theorem dX4_isMove_15 : decode cX4_isMove 15 = .ok (.iconst 1, 1) := by decide +kernel
theorem dX4_isMove_16 : decode cX4_isMove 16 = .ok (.if_icmp .lt 25, 3) := by decide +kernel
theorem dX4_isMove_19 : decode cX4_isMove 19 = .ok (.iload_n 3, 1) := by decide +kernel
theorem dX4_isMove_20 : decode cX4_isMove 20 = .ok (.aload_n 0, 1) := by decide +kernel
theorem dX4_isMove_21 : decode cX4_isMove 21 = .ok (.getfield 19, 3) := by decide +kernel
theorem dX4_isMove_24 : decode cX4_isMove 24 = .ok (.if_icmp .gt 17, 3) := by decide +kernel
theorem dX4_isMove_27 : decode cX4_isMove 27 = .ok (.iload_n 3, 1) := by decide +kernel
theorem dX4_isMove_28 : decode cX4_isMove 28 = .ok (.aload_n 0, 1) := by decide +kernel
theorem dX4_isMove_29 : decode cX4_isMove 29 = .ok (.getfield 9, 3) := by decide +kernel
theorem dX4_isMove_32 : decode cX4_isMove 32 = .ok (.iload_n 2, 1) := by decide +kernel
theorem dX4_isMove_33 : decode cX4_isMove 33 = .ok (.iaload, 1) := by decide +kernel
theorem dX4_isMove_34 : decode cX4_isMove 34 = .ok (.if_icmp .gt 7, 3) := by decide +kernel
theorem dX4_isMove_37 : decode cX4_isMove 37 = .ok (.iconst 1, 1) := by decide +kernel
theorem dX4_isMove_38 : decode cX4_isMove 38 = .ok (.goto 4, 3) := by decide +kernel
theorem dX4_isMove_41 : decode cX4_isMove 41 = .ok (.iconst 0, 1) := by decide +kernel
theorem dX4_isMove_42 : decode cX4_isMove 42 = .ok (.ireturn, 1) := by decide +kernel
theorem dX4_isMove_43 : decode cX4_isMove 43 = .ok (.iload_n 1, 1) := by decide +kernel
theorem dX4_isMove_44 : decode cX4_isMove 44 = .ok (.iconst 1, 1) := by decide +kernel
theorem dX4_isMove_45 : decode cX4_isMove 45 = .ok (.if_icmp .ne 33, 3) := by decide +kernel
theorem dX4_isMove_48 : decode cX4_isMove 48 = .ok (.aload_n 0, 1) := by decide +kernel
theorem dX4_isMove_49 : decode cX4_isMove 49 = .ok (.getfield 22, 3) := by decide +kernel
theorem dX4_isMove_52 : decode cX4_isMove 52 = .ok (.ifCond .eq 24, 3) := by decide +kernel
theorem dX4_isMove_55 : decode cX4_isMove 55 = .ok (.iload_n 3, 1) := by decide +kernel
theorem dX4_isMove_56 : decode cX4_isMove 56 = .ok (.iconst 1, 1) := by decide +kernel
theorem dX4_isMove_57 : decode cX4_isMove 57 = .ok (.if_icmp .lt 19, 3) := by decide +kernel
theorem dX4_isMove_60 : decode cX4_isMove 60 = .ok (.iload_n 3, 1) := by decide +kernel
theorem dX4_isMove_61 : decode cX4_isMove 61 = .ok (.aload_n 0, 1) := by decide +kernel
theorem dX4_isMove_62 : decode cX4_isMove 62 = .ok (.getfield 9, 3) := by decide +kernel
theorem dX4_isMove_65 : decode cX4_isMove 65 = .ok (.iload_n 2, 1) := by decide +kernel
theorem dX4_isMove_66 : decode cX4_isMove 66 = .ok (.iaload, 1) := by decide +kernel
theorem dX4_isMove_67 : decode cX4_isMove 67 = .ok (.iload_n 3, 1) := by decide +kernel
theorem dX4_isMove_68 : decode cX4_isMove 68 = .ok (.isub, 1) := by decide +kernel
theorem dX4_isMove_69 : decode cX4_isMove 69 = .ok (.if_icmp .gt 7, 3) := by decide +kernel
theorem dX4_isMove_72 : decode cX4_isMove 72 = .ok (.iconst 1, 1) := by decide +kernel
theorem dX4_isMove_73 : decode cX4_isMove 73 = .ok (.goto 4, 3) := by decide +kernel
theorem dX4_isMove_76 : decode cX4_isMove 76 = .ok (.iconst 0, 1) := by decide +kernel
theorem dX4_isMove_77 : decode cX4_isMove 77 = .ok (.ireturn, 1) := by decide +kernel
theorem dX4_isMove_78 : decode cX4_isMove 78 = .ok (.aload_n 0, 1) := by decide +kernel
theorem dX4_isMove_79 : decode cX4_isMove 79 = .ok (.getfield 26, 3) := by decide +kernel
theorem dX4_isMove_82 : decode cX4_isMove 82 = .ok (.ifCond .eq 20, 3) := by decide +kernel
theorem dX4_isMove_85 : decode cX4_isMove 85 = .ok (.aload_n 0, 1) := by decide +kernel
theorem dX4_isMove_86 : decode cX4_isMove 86 = .ok (.iload_n 3, 1) := by decide +kernel
theorem dX4_isMove_87 : decode cX4_isMove 87 = .ok (.invokevirtual 41, 3) := by decide +kernel
theorem dX4_isMove_90 : decode cX4_isMove 90 = .ok (.ifCond .eq 12, 3) := by decide +kernel
theorem dX4_isMove_93 : decode cX4_isMove 93 = .ok (.iload_n 2, 1) := by decide +kernel
theorem dX4_isMove_94 : decode cX4_isMove 94 = .ok (.iload_n 3, 1) := by decide +kernel
theorem dX4_isMove_95 : decode cX4_isMove 95 = .ok (.if_icmp .eq 7, 3) := by decide +kernel
theorem dX4_isMove_98 : decode cX4_isMove 98 = .ok (.iconst 1, 1) := by decide +kernel
theorem dX4_isMove_99 : decode cX4_isMove 99 = .ok (.goto 4, 3) := by decide +kernel
theorem dX4_isMove_102 : decode cX4_isMove 102 = .ok (.iconst 0, 1) := by decide +kernel
theorem dX4_isMove_103 : decode cX4_isMove 103 = .ok (.ireturn, 1) := by decide +kernel
set_option maxRecDepth 20000 in
theorem ggX4_carryOut_X4_shrink : GoodIn wsX4_carryOut wsX4_shrink := goodIn_r _ [14, 1, 15, 16, 17, 13, 18, 19, 20, 21, 22, 23, 28, 29, 30, 31, 32, 33, 34] (by decide +kernel) (by decide +kernel)
set_option maxRecDepth 20000 in
theorem gX4_carryOut_X4_shrink : GoodIn wsX4_carryOut (wsV RX4 53 RX4 yX4_shrink wsX4_shrink) := goodIn_app (goodIn_of _ (by decide +kernel)) ggX4_carryOut_X4_shrink
set_option maxRecDepth 20000 in
theorem ggX4_carryOut_X4_insert : GoodIn wsX4_carryOut wsX4_insert := goodIn_r _ [27, 19, 1, 28, 29, 30, 31, 32, 33, 34] (by decide +kernel) (by decide +kernel)
set_option maxRecDepth 20000 in
theorem gX4_carryOut_X4_insert : GoodIn wsX4_carryOut (wsV RX4 57 RX4 yX4_insert wsX4_insert) := goodIn_app (goodIn_of _ (by decide +kernel)) ggX4_carryOut_X4_insert
set_option maxRecDepth 20000 in
theorem ggX4_carryOut_X4_remove : GoodIn wsX4_carryOut wsX4_remove := goodIn_r _ [18, 19, 1, 20, 21, 22, 13, 23, 28, 29, 30, 31, 32, 33, 34] (by decide +kernel) (by decide +kernel)
set_option maxRecDepth 20000 in
theorem gX4_carryOut_X4_remove : GoodIn wsX4_carryOut (wsV RX4 69 RX4 yX4_remove wsX4_remove) := goodIn_app (goodIn_of _ (by decide +kernel)) ggX4_carryOut_X4_remove
theorem dX4_carryOut_0 : decode cX4_carryOut 0 = .ok (.iload_n 1, 1) := by decide +kernel
theorem dX4_carryOut_1 : decode cX4_carryOut 1 = .ok (.ifCond .ne 12, 3) := by decide +kernel
theorem dX4_carryOut_4 : decode cX4_carryOut 4 = .ok (.aload_n 0, 1) := by decide +kernel
theorem dX4_carryOut_5 : decode cX4_carryOut 5 = .ok (.iload_n 2, 1) := by decide +kernel
theorem dX4_carryOut_6 : decode cX4_carryOut 6 = .ok (.iload_n 3, 1) := by decide +kernel
theorem dX4_carryOut_7 : decode cX4_carryOut 7 = .ok (.invokevirtual 53, 3) := by decide +kernel
theorem dX4_carryOut_10 : decode cX4_carryOut 10 = .ok (.goto 67, 3) := by decide +kernel
theorem dX4_carryOut_13 : decode cX4_carryOut 13 = .ok (.iload_n 1, 1) := by decide +kernel
theorem dX4_carryOut_14 : decode cX4_carryOut 14 = .ok (.iconst 1, 1) := by decide +kernel
theorem dX4_carryOut_15 : decode cX4_carryOut 15 = .ok (.if_icmp .ne 28, 3) := by decide +kernel
theorem dX4_carryOut_18 : decode cX4_carryOut 18 = .ok (.aload_n 0, 1) := by decide +kernel
theorem dX4_carryOut_19 : decode cX4_carryOut 19 = .ok (.iload_n 2, 1) := by decide +kernel
theorem dX4_carryOut_20 : decode cX4_carryOut 20 = .ok (.iconst 1, 1) := by decide +kernel
theorem dX4_carryOut_21 : decode cX4_carryOut 21 = .ok (.iadd, 1) := by decide +kernel
theorem dX4_carryOut_22 : decode cX4_carryOut 22 = .ok (.aload_n 0, 1) := by decide +kernel
theorem dX4_carryOut_23 : decode cX4_carryOut 23 = .ok (.getfield 9, 3) := by decide +kernel
theorem dX4_carryOut_26 : decode cX4_carryOut 26 = .ok (.iload_n 2, 1) := by decide +kernel
theorem dX4_carryOut_27 : decode cX4_carryOut 27 = .ok (.iaload, 1) := by decide +kernel
theorem dX4_carryOut_28 : decode cX4_carryOut 28 = .ok (.iload_n 3, 1) := by decide +kernel
theorem dX4_carryOut_29 : decode cX4_carryOut 29 = .ok (.isub, 1) := by decide +kernel
theorem dX4_carryOut_30 : decode cX4_carryOut 30 = .ok (.invokevirtual 57, 3) := by decide +kernel
theorem dX4_carryOut_33 : decode cX4_carryOut 33 = .ok (.aload_n 0, 1) := by decide +kernel
theorem dX4_carryOut_34 : decode cX4_carryOut 34 = .ok (.getfield 9, 3) := by decide +kernel
theorem dX4_carryOut_37 : decode cX4_carryOut 37 = .ok (.iload_n 2, 1) := by decide +kernel
theorem dX4_carryOut_38 : decode cX4_carryOut 38 = .ok (.iload_n 3, 1) := by decide +kernel
theorem dX4_carryOut_39 : decode cX4_carryOut 39 = .ok (.iastore, 1) := by decide +kernel
theorem dX4_carryOut_40 : decode cX4_carryOut 40 = .ok (.goto 37, 3) := by decide +kernel
theorem dX4_carryOut_43 : decode cX4_carryOut 43 = .ok (.aload_n 0, 1) := by decide +kernel
theorem dX4_carryOut_44 : decode cX4_carryOut 44 = .ok (.getfield 9, 3) := by decide +kernel
theorem dX4_carryOut_47 : decode cX4_carryOut 47 = .ok (.iload_n 2, 1) := by decide +kernel
theorem dX4_carryOut_48 : decode cX4_carryOut 48 = .ok (.iload_n 3, 1) := by decide +kernel
theorem dX4_carryOut_49 : decode cX4_carryOut 49 = .ok (.invokestatic 60, 3) := by decide +kernel
theorem dX4_carryOut_52 : decode cX4_carryOut 52 = .ok (.aload_n 0, 1) := by decide +kernel
theorem dX4_carryOut_53 : decode cX4_carryOut 53 = .ok (.getfield 9, 3) := by decide +kernel
theorem dX4_carryOut_56 : decode cX4_carryOut 56 = .ok (.iload_n 2, 1) := by decide +kernel
theorem dX4_carryOut_57 : decode cX4_carryOut 57 = .ok (.iaload, 1) := by decide +kernel
theorem dX4_carryOut_58 : decode cX4_carryOut 58 = .ok (.aload_n 0, 1) := by decide +kernel
theorem dX4_carryOut_59 : decode cX4_carryOut 59 = .ok (.getfield 9, 3) := by decide +kernel
theorem dX4_carryOut_62 : decode cX4_carryOut 62 = .ok (.iload_n 3, 1) := by decide +kernel
theorem dX4_carryOut_63 : decode cX4_carryOut 63 = .ok (.iaload, 1) := by decide +kernel
theorem dX4_carryOut_64 : decode cX4_carryOut 64 = .ok (.iadd, 1) := by decide +kernel
theorem dX4_carryOut_65 : decode cX4_carryOut 65 = .ok (.iconst 1, 1) := by decide +kernel
theorem dX4_carryOut_66 : decode cX4_carryOut 66 = .ok (.isub, 1) := by decide +kernel
theorem dX4_carryOut_67 : decode cX4_carryOut 67 = .ok (.iastore, 1) := by decide +kernel
theorem dX4_carryOut_68 : decode cX4_carryOut 68 = .ok (.aload_n 0, 1) := by decide +kernel
theorem dX4_carryOut_69 : decode cX4_carryOut 69 = .ok (.iload_n 2, 1) := by decide +kernel
theorem dX4_carryOut_70 : decode cX4_carryOut 70 = .ok (.iload_n 3, 1) := by decide +kernel
theorem dX4_carryOut_71 : decode cX4_carryOut 71 = .ok (.invokestatic 66, 3) := by decide +kernel
theorem dX4_carryOut_74 : decode cX4_carryOut 74 = .ok (.invokevirtual 69, 3) := by decide +kernel
theorem dX4_carryOut_77 : decode cX4_carryOut 77 = .ok (.aload_n 0, 1) := by decide +kernel
theorem dX4_carryOut_78 : decode cX4_carryOut 78 = .ok (.getfield 32, 3) := by decide +kernel
theorem dX4_carryOut_81 : decode cX4_carryOut 81 = .ok (.iload_n 1, 1) := by decide +kernel
theorem dX4_carryOut_82 : decode cX4_carryOut 82 = .ok (.dup2, 1) := by decide +kernel
theorem dX4_carryOut_83 : decode cX4_carryOut 83 = .ok (.iaload, 1) := by decide +kernel
theorem dX4_carryOut_84 : decode cX4_carryOut 84 = .ok (.iconst 1, 1) := by decide +kernel
theorem dX4_carryOut_85 : decode cX4_carryOut 85 = .ok (.iadd, 1) := by decide +kernel
theorem dX4_carryOut_86 : decode cX4_carryOut 86 = .ok (.iastore, 1) := by decide +kernel
theorem dX4_carryOut_87 : decode cX4_carryOut 87 = .ok (.return_, 1) := by decide +kernel
set_option maxRecDepth 20000 in
theorem ggX4_shrink_X4_remove : GoodIn wsX4_shrink wsX4_remove := goodIn_r _ [6, 7, 1, 8, 9, 10, 5, 11, 12, 13, 14, 15, 16, 17, 18] (by decide +kernel) (by decide +kernel)
set_option maxRecDepth 20000 in
theorem gX4_shrink_X4_remove : GoodIn wsX4_shrink (wsV RX4 69 RX4 yX4_remove wsX4_remove) := goodIn_app (goodIn_of _ (by decide +kernel)) ggX4_shrink_X4_remove
theorem dX4_shrink_0 : decode cX4_shrink 0 = .ok (.aload_n 0, 1) := by decide +kernel
theorem dX4_shrink_1 : decode cX4_shrink 1 = .ok (.getfield 9, 3) := by decide +kernel
theorem dX4_shrink_4 : decode cX4_shrink 4 = .ok (.iload_n 1, 1) := by decide +kernel
theorem dX4_shrink_5 : decode cX4_shrink 5 = .ok (.dup2, 1) := by decide +kernel
theorem dX4_shrink_6 : decode cX4_shrink 6 = .ok (.iaload, 1) := by decide +kernel
theorem dX4_shrink_7 : decode cX4_shrink 7 = .ok (.iload_n 2, 1) := by decide +kernel
theorem dX4_shrink_8 : decode cX4_shrink 8 = .ok (.isub, 1) := by decide +kernel
theorem dX4_shrink_9 : decode cX4_shrink 9 = .ok (.iastore, 1) := by decide +kernel
theorem dX4_shrink_10 : decode cX4_shrink 10 = .ok (.aload_n 0, 1) := by decide +kernel
theorem dX4_shrink_11 : decode cX4_shrink 11 = .ok (.getfield 9, 3) := by decide +kernel
theorem dX4_shrink_14 : decode cX4_shrink 14 = .ok (.iload_n 1, 1) := by decide +kernel
theorem dX4_shrink_15 : decode cX4_shrink 15 = .ok (.iaload, 1) := by decide +kernel
theorem dX4_shrink_16 : decode cX4_shrink 16 = .ok (.ifCond .ne 8, 3) := by decide +kernel
theorem dX4_shrink_19 : decode cX4_shrink 19 = .ok (.aload_n 0, 1) := by decide +kernel
theorem dX4_shrink_20 : decode cX4_shrink 20 = .ok (.iload_n 1, 1) := by decide +kernel
theorem dX4_shrink_21 : decode cX4_shrink 21 = .ok (.invokevirtual 69, 3) := by decide +kernel
theorem dX4_shrink_24 : decode cX4_shrink 24 = .ok (.return_, 1) := by decide +kernel
theorem dX4_insert_0 : decode cX4_insert 0 = .ok (.iload_n 1, 1) := by decide +kernel
theorem dX4_insert_1 : decode cX4_insert 1 = .ok (.ifCond .lt 20, 3) := by decide +kernel
theorem dX4_insert_4 : decode cX4_insert 4 = .ok (.iload_n 1, 1) := by decide +kernel
theorem dX4_insert_5 : decode cX4_insert 5 = .ok (.aload_n 0, 1) := by decide +kernel
theorem dX4_insert_6 : decode cX4_insert 6 = .ok (.getfield 15, 3) := by decide +kernel
theorem dX4_insert_9 : decode cX4_insert 9 = .ok (.if_icmp .gt 12, 3) := by decide +kernel
theorem dX4_insert_12 : decode cX4_insert 12 = .ok (.aload_n 0, 1) := by decide +kernel
theorem dX4_insert_13 : decode cX4_insert 13 = .ok (.getfield 15, 3) := by decide +kernel
theorem dX4_insert_16 : decode cX4_insert 16 = .ok (.bipush 12, 2) := by decide +kernel
theorem dX4_insert_18 : decode cX4_insert 18 = .ok (.if_icmp .lt 4, 3) := by decide +kernel
theorem dX4_insert_21 : decode cX4_insert 21 = .ok (.return_, 1) := by decide +kernel
theorem dX4_insert_22 : decode cX4_insert 22 = .ok (.aload_n 0, 1) := by decide +kernel
theorem dX4_insert_23 : decode cX4_insert 23 = .ok (.getfield 15, 3) := by decide +kernel
theorem dX4_insert_26 : decode cX4_insert 26 = .ok (.istore_n 3, 1) := by decide +kernel
theorem dX4_insert_27 : decode cX4_insert 27 = .ok (.iload_n 3, 1) := by decide +kernel
theorem dX4_insert_28 : decode cX4_insert 28 = .ok (.iload_n 1, 1) := by decide +kernel
theorem dX4_insert_29 : decode cX4_insert 29 = .ok (.if_icmp .le 23, 3) := by decide +kernel
theorem dX4_insert_32 : decode cX4_insert 32 = .ok (.aload_n 0, 1) := by decide +kernel
theorem dX4_insert_33 : decode cX4_insert 33 = .ok (.getfield 9, 3) := by decide +kernel
theorem dX4_insert_36 : decode cX4_insert 36 = .ok (.iload_n 3, 1) := by decide +kernel
theorem dX4_insert_37 : decode cX4_insert 37 = .ok (.aload_n 0, 1) := by decide +kernel
theorem dX4_insert_38 : decode cX4_insert 38 = .ok (.getfield 9, 3) := by decide +kernel
theorem dX4_insert_41 : decode cX4_insert 41 = .ok (.iload_n 3, 1) := by decide +kernel
theorem dX4_insert_42 : decode cX4_insert 42 = .ok (.iconst 1, 1) := by decide +kernel
theorem dX4_insert_43 : decode cX4_insert 43 = .ok (.isub, 1) := by decide +kernel
theorem dX4_insert_44 : decode cX4_insert 44 = .ok (.iaload, 1) := by decide +kernel
theorem dX4_insert_45 : decode cX4_insert 45 = .ok (.iastore, 1) := by decide +kernel
theorem dX4_insert_46 : decode cX4_insert 46 = .ok (.iinc 3 (-1), 3) := by decide +kernel
theorem dX4_insert_49 : decode cX4_insert 49 = .ok (.goto (-22), 3) := by decide +kernel
theorem dX4_insert_52 : decode cX4_insert 52 = .ok (.aload_n 0, 1) := by decide +kernel
theorem dX4_insert_53 : decode cX4_insert 53 = .ok (.getfield 9, 3) := by decide +kernel
theorem dX4_insert_56 : decode cX4_insert 56 = .ok (.iload_n 1, 1) := by decide +kernel
theorem dX4_insert_57 : decode cX4_insert 57 = .ok (.iload_n 2, 1) := by decide +kernel
theorem dX4_insert_58 : decode cX4_insert 58 = .ok (.iastore, 1) := by decide +kernel
theorem dX4_insert_59 : decode cX4_insert 59 = .ok (.aload_n 0, 1) := by decide +kernel
theorem dX4_insert_60 : decode cX4_insert 60 = .ok (.dup, 1) := by decide +kernel
theorem dX4_insert_61 : decode cX4_insert 61 = .ok (.getfield 15, 3) := by decide +kernel
theorem dX4_insert_64 : decode cX4_insert 64 = .ok (.iconst 1, 1) := by decide +kernel
theorem dX4_insert_65 : decode cX4_insert 65 = .ok (.iadd, 1) := by decide +kernel
theorem dX4_insert_66 : decode cX4_insert 66 = .ok (.putfield 15, 3) := by decide +kernel
theorem dX4_insert_69 : decode cX4_insert 69 = .ok (.return_, 1) := by decide +kernel
set_option maxRecDepth 20000 in
theorem ggX4_remove_X4_hasHeap : GoodIn wsX4_remove wsX4_hasHeap := goodIn_r _ [7, 1, 8, 9, 10, 11, 12, 13, 14] (by decide +kernel) (by decide +kernel)
set_option maxRecDepth 20000 in
theorem gX4_remove_X4_hasHeap : GoodIn wsX4_remove (wsV RX4 41 RX4 yX4_hasHeap wsX4_hasHeap) := goodIn_app (goodIn_of _ (by decide +kernel)) ggX4_remove_X4_hasHeap
theorem dX4_remove_0 : decode cX4_remove 0 = .ok (.aload_n 0, 1) := by decide +kernel
theorem dX4_remove_1 : decode cX4_remove 1 = .ok (.iload_n 1, 1) := by decide +kernel
theorem dX4_remove_2 : decode cX4_remove 2 = .ok (.invokevirtual 41, 3) := by decide +kernel
theorem dX4_remove_5 : decode cX4_remove 5 = .ok (.ifCond .ne 4, 3) := by decide +kernel
theorem dX4_remove_8 : decode cX4_remove 8 = .ok (.return_, 1) := by decide +kernel
theorem dX4_remove_9 : decode cX4_remove 9 = .ok (.aload_n 0, 1) := by decide +kernel
theorem dX4_remove_10 : decode cX4_remove 10 = .ok (.dup, 1) := by decide +kernel
theorem dX4_remove_11 : decode cX4_remove 11 = .ok (.getfield 15, 3) := by decide +kernel
theorem dX4_remove_14 : decode cX4_remove 14 = .ok (.iconst 1, 1) := by decide +kernel
theorem dX4_remove_15 : decode cX4_remove 15 = .ok (.isub, 1) := by decide +kernel
theorem dX4_remove_16 : decode cX4_remove 16 = .ok (.putfield 15, 3) := by decide +kernel
theorem dX4_remove_19 : decode cX4_remove 19 = .ok (.iload_n 1, 1) := by decide +kernel
theorem dX4_remove_20 : decode cX4_remove 20 = .ok (.istore_n 2, 1) := by decide +kernel
theorem dX4_remove_21 : decode cX4_remove 21 = .ok (.iload_n 2, 1) := by decide +kernel
theorem dX4_remove_22 : decode cX4_remove 22 = .ok (.aload_n 0, 1) := by decide +kernel
theorem dX4_remove_23 : decode cX4_remove 23 = .ok (.getfield 15, 3) := by decide +kernel
theorem dX4_remove_26 : decode cX4_remove 26 = .ok (.if_icmp .ge 23, 3) := by decide +kernel
theorem dX4_remove_29 : decode cX4_remove 29 = .ok (.aload_n 0, 1) := by decide +kernel
theorem dX4_remove_30 : decode cX4_remove 30 = .ok (.getfield 9, 3) := by decide +kernel
theorem dX4_remove_33 : decode cX4_remove 33 = .ok (.iload_n 2, 1) := by decide +kernel
theorem dX4_remove_34 : decode cX4_remove 34 = .ok (.aload_n 0, 1) := by decide +kernel
theorem dX4_remove_35 : decode cX4_remove 35 = .ok (.getfield 9, 3) := by decide +kernel
theorem dX4_remove_38 : decode cX4_remove 38 = .ok (.iload_n 2, 1) := by decide +kernel
theorem dX4_remove_39 : decode cX4_remove 39 = .ok (.iconst 1, 1) := by decide +kernel
theorem dX4_remove_40 : decode cX4_remove 40 = .ok (.iadd, 1) := by decide +kernel
theorem dX4_remove_41 : decode cX4_remove 41 = .ok (.iaload, 1) := by decide +kernel
theorem dX4_remove_42 : decode cX4_remove 42 = .ok (.iastore, 1) := by decide +kernel
theorem dX4_remove_43 : decode cX4_remove 43 = .ok (.iinc 2 1, 3) := by decide +kernel
theorem dX4_remove_46 : decode cX4_remove 46 = .ok (.goto (-25), 3) := by decide +kernel
theorem dX4_remove_49 : decode cX4_remove 49 = .ok (.return_, 1) := by decide +kernel
theorem dX5_init_0 : decode cX5_init 0 = .ok (.aload_n 0, 1) := by decide +kernel
theorem dX5_init_1 : decode cX5_init 1 = .ok (.invokespecial 3, 3) := by decide +kernel
theorem dX5_init_4 : decode cX5_init 4 = .ok (.aload_n 0, 1) := by decide +kernel
theorem dX5_init_5 : decode cX5_init 5 = .ok (.bipush 60, 2) := by decide +kernel
theorem dX5_init_7 : decode cX5_init 7 = .ok (.newarray .char, 2) := by decide +kernel
theorem dX5_init_9 : decode cX5_init 9 = .ok (.putfield 9, 3) := by decide +kernel
theorem dX5_init_12 : decode cX5_init 12 = .ok (.aload_n 0, 1) := by decide +kernel
theorem dX5_init_13 : decode cX5_init 13 = .ok (.iconst 0, 1) := by decide +kernel
theorem dX5_init_14 : decode cX5_init 14 = .ok (.putfield 15, 3) := by decide +kernel
theorem dX5_init_17 : decode cX5_init 17 = .ok (.aload_n 0, 1) := by decide +kernel
theorem dX5_init_18 : decode cX5_init 18 = .ok (.iconst 0, 1) := by decide +kernel
theorem dX5_init_19 : decode cX5_init 19 = .ok (.putfield 19, 3) := by decide +kernel
theorem dX5_init_22 : decode cX5_init 22 = .ok (.aload_n 0, 1) := by decide +kernel
theorem dX5_init_23 : decode cX5_init 23 = .ok (.iconst (-1), 1) := by decide +kernel
theorem dX5_init_24 : decode cX5_init 24 = .ok (.putfield 22, 3) := by decide +kernel
theorem dX5_init_27 : decode cX5_init 27 = .ok (.aload_n 0, 1) := by decide +kernel
theorem dX5_init_28 : decode cX5_init 28 = .ok (.iconst (-1), 1) := by decide +kernel
theorem dX5_init_29 : decode cX5_init 29 = .ok (.putfield 25, 3) := by decide +kernel
theorem dX5_init_32 : decode cX5_init 32 = .ok (.aload_n 0, 1) := by decide +kernel
theorem dX5_init_33 : decode cX5_init 33 = .ok (.iconst (-1), 1) := by decide +kernel
theorem dX5_init_34 : decode cX5_init 34 = .ok (.putfield 28, 3) := by decide +kernel
theorem dX5_init_37 : decode cX5_init 37 = .ok (.return_, 1) := by decide +kernel
theorem dX5_add_0 : decode cX5_add 0 = .ok (.aload_n 0, 1) := by decide +kernel
theorem dX5_add_1 : decode cX5_add 1 = .ok (.getfield 15, 3) := by decide +kernel
theorem dX5_add_4 : decode cX5_add 4 = .ok (.bipush 60, 2) := by decide +kernel
theorem dX5_add_6 : decode cX5_add 6 = .ok (.if_icmp .ge 23, 3) := by decide +kernel
theorem dX5_add_9 : decode cX5_add 9 = .ok (.aload_n 0, 1) := by decide +kernel
theorem dX5_add_10 : decode cX5_add 10 = .ok (.getfield 9, 3) := by decide +kernel
theorem dX5_add_13 : decode cX5_add 13 = .ok (.aload_n 0, 1) := by decide +kernel
theorem dX5_add_14 : decode cX5_add 14 = .ok (.getfield 15, 3) := by decide +kernel
theorem dX5_add_17 : decode cX5_add 17 = .ok (.iload_n 1, 1) := by decide +kernel
theorem dX5_add_18 : decode cX5_add 18 = .ok (.castore, 1) := by decide +kernel
theorem dX5_add_19 : decode cX5_add 19 = .ok (.aload_n 0, 1) := by decide +kernel
theorem dX5_add_20 : decode cX5_add 20 = .ok (.dup, 1) := by decide +kernel
theorem dX5_add_21 : decode cX5_add 21 = .ok (.getfield 15, 3) := by decide +kernel
theorem dX5_add_24 : decode cX5_add 24 = .ok (.iconst 1, 1) := by decide +kernel
theorem dX5_add_25 : decode cX5_add 25 = .ok (.iadd, 1) := by decide +kernel
theorem dX5_add_26 : decode cX5_add 26 = .ok (.putfield 15, 3) := by decide +kernel
theorem dX5_add_29 : decode cX5_add 29 = .ok (.return_, 1) := by decide +kernel
set_option maxRecDepth 20000 in
theorem ggX5_findError_X5_readItem : GoodIn wsX5_findError wsX5_readItem := goodIn_r _ [7, 8, 1, 9, 10, 11, 12, 13, 6, 14, 2, 15, 16, 17, 18, 19, 20, 21, 22, 23, 24, 25, 26, 27, 28, 29, 30, 31, 32, 33, 34, 35, 36, 37, 38, 39, 40, 41, 42, 43, 44, 45, 46, 47, 48, 49, 50, 51, 52, 53, 54, 55, 56, 57, 58, 59, 60, 61, 62, 63, 64, 65, 66, 67, 68, 69, 70, 71, 72, 73, 74, 75, 76, 77, 78, 79, 80, 81, 82, 83, 84, 85, 86, 87, 88, 89, 90, 91, 92, 93, 94, 95, 96, 97, 98, 99, 100, 101, 102, 103, 104, 105, 106, 107, 108, 109, 110, 111, 112, 113, 114, 115, 116, 117, 118, 119, 120, 121, 122, 123, 124, 125, 126, 127, 128, 129, 130, 131, 132, 133, 134, 135, 136, 137, 138, 139, 140, 141, 142] (by decide +kernel) (by decide +kernel)
set_option maxRecDepth 20000 in
theorem gX5_findError_X5_readItem : GoodIn wsX5_findError (wsV RX5 31 RX5 yX5_readItem wsX5_readItem) := goodIn_app (goodIn_of _ (by decide +kernel)) ggX5_findError_X5_readItem
set_option maxRecDepth 20000 in
theorem ggX5_findError_X5_readSign : GoodIn wsX5_findError wsX5_readSign := goodIn_r _ [112, 1, 11, 12, 13, 6, 14, 2, 15, 137, 138, 139, 140, 141, 142] (by decide +kernel) (by decide +kernel)
set_option maxRecDepth 20000 in
theorem gX5_findError_X5_readSign : GoodIn wsX5_findError (wsV RX5 35 RX5 yX5_readSign wsX5_readSign) := goodIn_app (goodIn_of _ (by decide +kernel)) ggX5_findError_X5_readSign
theorem dX5_findError_0 : decode cX5_findError 0 = .ok (.aload_n 0, 1) := by decide +kernel
theorem dX5_findError_1 : decode cX5_findError 1 = .ok (.iconst 0, 1) := by decide +kernel
theorem dX5_findError_2 : decode cX5_findError 2 = .ok (.putfield 19, 3) := by decide +kernel
theorem dX5_findError_5 : decode cX5_findError 5 = .ok (.iconst 0, 1) := by decide +kernel
theorem dX5_findError_6 : decode cX5_findError 6 = .ok (.istore_n 1, 1) := by decide +kernel
theorem dX5_findError_7 : decode cX5_findError 7 = .ok (.iload_n 1, 1) := by decide +kernel
theorem dX5_findError_8 : decode cX5_findError 8 = .ok (.bipush 60, 2) := by decide +kernel
theorem dX5_findError_10 : decode cX5_findError 10 = .ok (.if_icmp .ge 48, 3) := by decide +kernel
theorem dX5_findError_13 : decode cX5_findError 13 = .ok (.aload_n 0, 1) := by decide +kernel
theorem dX5_findError_14 : decode cX5_findError 14 = .ok (.invokevirtual 31, 3) := by decide +kernel
theorem dX5_findError_17 : decode cX5_findError 17 = .ok (.ifCond .ne 8, 3) := by decide +kernel
theorem dX5_findError_20 : decode cX5_findError 20 = .ok (.aload_n 0, 1) := by decide +kernel
theorem dX5_findError_21 : decode cX5_findError 21 = .ok (.getfield 19, 3) := by decide +kernel
theorem dX5_findError_24 : decode cX5_findError 24 = .ok (.ireturn, 1) := by decide +kernel
theorem dX5_findError_25 : decode cX5_findError 25 = .ok (.aload_n 0, 1) := by decide +kernel
theorem dX5_findError_26 : decode cX5_findError 26 = .ok (.getfield 19, 3) := by decide +kernel
theorem dX5_findError_29 : decode cX5_findError 29 = .ok (.aload_n 0, 1) := by decide +kernel
theorem dX5_findError_30 : decode cX5_findError 30 = .ok (.getfield 15, 3) := by decide +kernel
theorem dX5_findError_33 : decode cX5_findError 33 = .ok (.if_icmp .lt 5, 3) := by decide +kernel
theorem dX5_findError_36 : decode cX5_findError 36 = .ok (.iconst (-1), 1) := by decide +kernel
theorem dX5_findError_37 : decode cX5_findError 37 = .ok (.ireturn, 1) := by decide +kernel
theorem dX5_findError_38 : decode cX5_findError 38 = .ok (.aload_n 0, 1) := by decide +kernel
theorem dX5_findError_39 : decode cX5_findError 39 = .ok (.bipush 44, 2) := by decide +kernel
theorem dX5_findError_41 : decode cX5_findError 41 = .ok (.invokevirtual 35, 3) := by decide +kernel
theorem dX5_findError_44 : decode cX5_findError 44 = .ok (.ifCond .ne 8, 3) := by decide +kernel
theorem dX5_findError_47 : decode cX5_findError 47 = .ok (.aload_n 0, 1) := by decide +kernel
theorem dX5_findError_48 : decode cX5_findError 48 = .ok (.getfield 19, 3) := by decide +kernel
theorem dX5_findError_51 : decode cX5_findError 51 = .ok (.ireturn, 1) := by decide +kernel
theorem dX5_findError_52 : decode cX5_findError 52 = .ok (.iinc 1 1, 3) := by decide +kernel
theorem dX5_findError_55 : decode cX5_findError 55 = .ok (.goto (-48), 3) := by decide +kernel
theorem dX5_findError_58 : decode cX5_findError 58 = .ok (.aload_n 0, 1) := by decide +kernel
theorem dX5_findError_59 : decode cX5_findError 59 = .ok (.getfield 19, 3) := by decide +kernel
theorem dX5_findError_62 : decode cX5_findError 62 = .ok (.ireturn, 1) := by decide +kernel
set_option maxRecDepth 20000 in
theorem ggX5_readItem_X5_signHere : GoodIn wsX5_readItem wsX5_signHere := goodIn_r _ [9, 2, 10, 11, 133, 134, 135, 136, 137, 138] (by decide +kernel) (by decide +kernel)
set_option maxRecDepth 20000 in
theorem gX5_readItem_X5_signHere : GoodIn wsX5_readItem (wsV RX5 41 RX5 yX5_signHere wsX5_signHere) := goodIn_app (goodIn_of _ (by decide +kernel)) ggX5_readItem_X5_signHere
set_option maxRecDepth 20000 in
theorem ggX5_readItem_J0_indexOf_0f7a4 : GoodIn wsX5_readItem wsJ0_indexOf_0f7a4 := goodIn_r _ [16, 17, 18, 19, 15, 20, 21, 22, 23, 24, 25, 26, 27, 28, 29, 30, 31, 32, 33, 34, 35, 36, 37, 38, 39, 40, 41, 42, 43, 44, 45, 46, 47, 48, 49, 50, 51, 52, 53, 54, 55, 56, 57, 58, 59, 60, 61, 62, 63, 64, 65, 66, 67, 68, 69, 70, 71, 72, 73, 74, 75, 76, 77, 78, 79, 80, 81, 82, 83, 84, 85, 86, 87, 88, 89, 90, 91, 92, 93, 94, 95, 96, 97, 98, 99, 100] (by decide +kernel) (by decide +kernel)
set_option maxRecDepth 20000 in
theorem gX5_readItem_J0_indexOf_0f7a4 : GoodIn wsX5_readItem (wsV RX5 45 RJ0 yJ0_indexOf_0f7a4 wsJ0_indexOf_0f7a4) := goodIn_app (goodIn_of _ (by decide +kernel)) ggX5_readItem_J0_indexOf_0f7a4
set_option maxRecDepth 20000 in
theorem ggX5_readItem_X5_readHeap : GoodIn wsX5_readItem wsX5_readHeap := goodIn_r _ [104, 2, 5, 6, 7, 8, 9, 10, 11, 105, 106, 107, 108, 133, 134, 135, 136, 137, 138] (by decide +kernel) (by decide +kernel)
set_option maxRecDepth 20000 in
theorem gX5_readItem_X5_readHeap : GoodIn wsX5_readItem (wsV RX5 51 RX5 yX5_readHeap wsX5_readHeap) := goodIn_app (goodIn_of _ (by decide +kernel)) ggX5_readItem_X5_readHeap
set_option maxRecDepth 20000 in
theorem ggX5_readItem_J0_charAt_5068e : GoodIn wsX5_readItem wsJ0_charAt_5068e := goodIn_r _ [112, 21, 22, 23, 24, 15, 25, 26, 27, 113, 114, 38, 115, 116, 117, 118, 72, 119, 120, 75, 121, 122, 123, 55, 124, 125, 126, 127, 66, 67, 68, 128, 80, 81, 82, 83, 84, 85] (by decide +kernel) (by decide +kernel)
set_option maxRecDepth 20000 in
theorem gX5_readItem_J0_charAt_5068e : GoodIn wsX5_readItem (wsV RX5 57 RJ0 yJ0_charAt_5068e wsJ0_charAt_5068e) := goodIn_app (goodIn_of _ (by decide +kernel)) ggX5_readItem_J0_charAt_5068e
set_option maxRecDepth 20000 in
theorem ggX5_readItem_X5_readSign : GoodIn wsX5_readItem wsX5_readSign := goodIn_r _ [108, 2, 5, 6, 7, 8, 9, 10, 11, 133, 134, 135, 136, 137, 138] (by decide +kernel) (by decide +kernel)
set_option maxRecDepth 20000 in
theorem gX5_readItem_X5_readSign : GoodIn wsX5_readItem (wsV RX5 35 RX5 yX5_readSign wsX5_readSign) := goodIn_app (goodIn_of _ (by decide +kernel)) ggX5_readItem_X5_readSign
set_option maxRecDepth 20000 in
theorem ggX5_readItem_X5_readAmount : GoodIn wsX5_readItem wsX5_readAmount := goodIn_r _ [132, 1, 2, 101, 102, 103, 8, 104, 5, 6, 7, 9, 10, 11, 105, 106, 107, 108, 133, 134, 135, 136, 137, 138] (by decide +kernel) (by decide +kernel)
set_option maxRecDepth 20000 in
theorem gX5_readItem_X5_readAmount : GoodIn wsX5_readItem (wsV RX5 61 RX5 yX5_readAmount wsX5_readAmount) := goodIn_app (goodIn_of _ (by decide +kernel)) ggX5_readItem_X5_readAmount
theorem dX5_readItem_0 : decode cX5_readItem 0 = .ok (.aload_n 0, 1) := by decide +kernel
theorem dX5_readItem_1 : decode cX5_readItem 1 = .ok (.ldc 39, 2) := by decide +kernel
theorem dX5_readItem_3 : decode cX5_readItem 3 = .ok (.aload_n 0, 1) := by decide +kernel
theorem dX5_readItem_4 : decode cX5_readItem 4 = .ok (.invokevirtual 41, 3) := by decide +kernel
theorem dX5_readItem_7 : decode cX5_readItem 7 = .ok (.invokevirtual 45, 3) := by decide +kernel
theorem dX5_readItem_10 : decode cX5_readItem 10 = .ok (.putfield 22, 3) := by decide +kernel
theorem dX5_readItem_13 : decode cX5_readItem 13 = .ok (.aload_n 0, 1) := by decide +kernel
theorem dX5_readItem_14 : decode cX5_readItem 14 = .ok (.getfield 22, 3) := by decide +kernel
theorem dX5_readItem_17 : decode cX5_readItem 17 = .ok (.iconst (-1), 1) := by decide +kernel
theorem dX5_readItem_18 : decode cX5_readItem 18 = .ok (.if_icmp .ne 5, 3) := by decide +kernel
theorem dX5_readItem_21 : decode cX5_readItem 21 = .ok (.iconst 0, 1) := by decide +kernel
theorem dX5_readItem_22 : decode cX5_readItem 22 = .ok (.ireturn, 1) := by decide +kernel
theorem dX5_readItem_23 : decode cX5_readItem 23 = .ok (.aload_n 0, 1) := by decide +kernel
theorem dX5_readItem_24 : decode cX5_readItem 24 = .ok (.dup, 1) := by decide +kernel
theorem dX5_readItem_25 : decode cX5_readItem 25 = .ok (.getfield 19, 3) := by decide +kernel
theorem dX5_readItem_28 : decode cX5_readItem 28 = .ok (.iconst 1, 1) := by decide +kernel
theorem dX5_readItem_29 : decode cX5_readItem 29 = .ok (.iadd, 1) := by decide +kernel
theorem dX5_readItem_30 : decode cX5_readItem 30 = .ok (.putfield 19, 3) := by decide +kernel
theorem dX5_readItem_33 : decode cX5_readItem 33 = .ok (.aload_n 0, 1) := by decide +kernel
theorem dX5_readItem_34 : decode cX5_readItem 34 = .ok (.aload_n 0, 1) := by decide +kernel
theorem dX5_readItem_35 : decode cX5_readItem 35 = .ok (.invokevirtual 51, 3) := by decide +kernel
theorem dX5_readItem_38 : decode cX5_readItem 38 = .ok (.putfield 25, 3) := by decide +kernel
theorem dX5_readItem_41 : decode cX5_readItem 41 = .ok (.aload_n 0, 1) := by decide +kernel
theorem dX5_readItem_42 : decode cX5_readItem 42 = .ok (.getfield 25, 3) := by decide +kernel
theorem dX5_readItem_45 : decode cX5_readItem 45 = .ok (.iconst (-1), 1) := by decide +kernel
theorem dX5_readItem_46 : decode cX5_readItem 46 = .ok (.if_icmp .eq 19, 3) := by decide +kernel
theorem dX5_readItem_49 : decode cX5_readItem 49 = .ok (.aload_n 0, 1) := by decide +kernel
theorem dX5_readItem_50 : decode cX5_readItem 50 = .ok (.ldc 55, 2) := by decide +kernel
theorem dX5_readItem_52 : decode cX5_readItem 52 = .ok (.aload_n 0, 1) := by decide +kernel
theorem dX5_readItem_53 : decode cX5_readItem 53 = .ok (.getfield 22, 3) := by decide +kernel
theorem dX5_readItem_56 : decode cX5_readItem 56 = .ok (.invokevirtual 57, 3) := by decide +kernel
theorem dX5_readItem_59 : decode cX5_readItem 59 = .ok (.invokevirtual 35, 3) := by decide +kernel
theorem dX5_readItem_62 : decode cX5_readItem 62 = .ok (.ifCond .ne 5, 3) := by decide +kernel
theorem dX5_readItem_65 : decode cX5_readItem 65 = .ok (.iconst 0, 1) := by decide +kernel
theorem dX5_readItem_66 : decode cX5_readItem 66 = .ok (.ireturn, 1) := by decide +kernel
theorem dX5_readItem_67 : decode cX5_readItem 67 = .ok (.aload_n 0, 1) := by decide +kernel
theorem dX5_readItem_68 : decode cX5_readItem 68 = .ok (.aload_n 0, 1) := by decide +kernel
theorem dX5_readItem_69 : decode cX5_readItem 69 = .ok (.invokevirtual 61, 3) := by decide +kernel
theorem dX5_readItem_72 : decode cX5_readItem 72 = .ok (.putfield 28, 3) := by decide +kernel
theorem dX5_readItem_75 : decode cX5_readItem 75 = .ok (.aload_n 0, 1) := by decide +kernel
theorem dX5_readItem_76 : decode cX5_readItem 76 = .ok (.getfield 28, 3) := by decide +kernel
theorem dX5_readItem_79 : decode cX5_readItem 79 = .ok (.iconst (-1), 1) := by decide +kernel
theorem dX5_readItem_80 : decode cX5_readItem 80 = .ok (.if_icmp .eq 7, 3) := by decide +kernel
theorem dX5_readItem_83 : decode cX5_readItem 83 = .ok (.iconst 1, 1) := by decide +kernel
theorem dX5_readItem_84 : decode cX5_readItem 84 = .ok (.goto 4, 3) := by decide +kernel
theorem dX5_readItem_87 : decode cX5_readItem 87 = .ok (.iconst 0, 1) := by decide +kernel
theorem dX5_readItem_88 : decode cX5_readItem 88 = .ok (.ireturn, 1) := by decide +kernel
set_option maxRecDepth 20000 in
theorem ggX5_readAmount_X5_readHeap : GoodIn wsX5_readAmount wsX5_readHeap := goodIn_r _ [7, 2, 8, 9, 10, 6, 11, 12, 13, 14, 15, 16, 17, 18, 19, 20, 21, 22, 23] (by decide +kernel) (by decide +kernel)
set_option maxRecDepth 20000 in
theorem gX5_readAmount_X5_readHeap : GoodIn wsX5_readAmount (wsV RX5 51 RX5 yX5_readHeap wsX5_readHeap) := goodIn_app (goodIn_of _ (by decide +kernel)) ggX5_readAmount_X5_readHeap
set_option maxRecDepth 20000 in
theorem ggX5_readAmount_X5_signHere : GoodIn wsX5_readAmount wsX5_signHere := goodIn_r _ [11, 2, 12, 13, 18, 19, 20, 21, 22, 23] (by decide +kernel) (by decide +kernel)
set_option maxRecDepth 20000 in
theorem gX5_readAmount_X5_signHere : GoodIn wsX5_readAmount (wsV RX5 41 RX5 yX5_signHere wsX5_signHere) := goodIn_app (goodIn_of _ (by decide +kernel)) ggX5_readAmount_X5_signHere
theorem dX5_readAmount_0 : decode cX5_readAmount 0 = .ok (.aload_n 0, 1) := by decide +kernel
theorem dX5_readAmount_1 : decode cX5_readAmount 1 = .ok (.getfield 22, 3) := by decide +kernel
theorem dX5_readAmount_4 : decode cX5_readAmount 4 = .ok (.iconst 2, 1) := by decide +kernel
theorem dX5_readAmount_5 : decode cX5_readAmount 5 = .ok (.if_icmp .ne 8, 3) := by decide +kernel
theorem dX5_readAmount_8 : decode cX5_readAmount 8 = .ok (.aload_n 0, 1) := by decide +kernel
theorem dX5_readAmount_9 : decode cX5_readAmount 9 = .ok (.invokevirtual 51, 3) := by decide +kernel
theorem dX5_readAmount_12 : decode cX5_readAmount 12 = .ok (.ireturn, 1) := by decide +kernel
theorem dX5_readAmount_13 : decode cX5_readAmount 13 = .ok (.aload_n 0, 1) := by decide +kernel
theorem dX5_readAmount_14 : decode cX5_readAmount 14 = .ok (.invokevirtual 41, 3) := by decide +kernel
theorem dX5_readAmount_17 : decode cX5_readAmount 17 = .ok (.bipush 48, 2) := by decide +kernel
theorem dX5_readAmount_19 : decode cX5_readAmount 19 = .ok (.isub, 1) := by decide +kernel
theorem dX5_readAmount_20 : decode cX5_readAmount 20 = .ok (.istore_n 1, 1) := by decide +kernel
theorem dX5_readAmount_21 : decode cX5_readAmount 21 = .ok (.iload_n 1, 1) := by decide +kernel
theorem dX5_readAmount_22 : decode cX5_readAmount 22 = .ok (.iconst 1, 1) := by decide +kernel
theorem dX5_readAmount_23 : decode cX5_readAmount 23 = .ok (.if_icmp .lt 20, 3) := by decide +kernel
theorem dX5_readAmount_26 : decode cX5_readAmount 26 = .ok (.iload_n 1, 1) := by decide +kernel
theorem dX5_readAmount_27 : decode cX5_readAmount 27 = .ok (.aload_n 0, 1) := by decide +kernel
theorem dX5_readAmount_28 : decode cX5_readAmount 28 = .ok (.getfield 22, 3) := by decide +kernel
theorem dX5_readAmount_31 : decode cX5_readAmount 31 = .ok (.ifCond .ne 7, 3) := by decide +kernel
theorem dX5_readAmount_34 : decode cX5_readAmount 34 = .ok (.iconst 5, 1) := by decide +kernel
theorem dX5_readAmount_35 : decode cX5_readAmount 35 = .ok (.goto 5, 3) := by decide +kernel
theorem dX5_readAmount_38 : decode cX5_readAmount 38 = .ok (.bipush 6, 2) := by decide +kernel
theorem dX5_readAmount_40 : decode cX5_readAmount 40 = .ok (.if_icmp .le 5, 3) := by decide +kernel
theorem dX5_readAmount_43 : decode cX5_readAmount 43 = .ok (.iconst (-1), 1) := by decide +kernel
theorem dX5_readAmount_44 : decode cX5_readAmount 44 = .ok (.ireturn, 1) := by decide +kernel
theorem dX5_readAmount_45 : decode cX5_readAmount 45 = .ok (.aload_n 0, 1) := by decide +kernel
theorem dX5_readAmount_46 : decode cX5_readAmount 46 = .ok (.dup, 1) := by decide +kernel
theorem dX5_readAmount_47 : decode cX5_readAmount 47 = .ok (.getfield 19, 3) := by decide +kernel
theorem dX5_readAmount_50 : decode cX5_readAmount 50 = .ok (.iconst 1, 1) := by decide +kernel
theorem dX5_readAmount_51 : decode cX5_readAmount 51 = .ok (.iadd, 1) := by decide +kernel
theorem dX5_readAmount_52 : decode cX5_readAmount 52 = .ok (.putfield 19, 3) := by decide +kernel
theorem dX5_readAmount_55 : decode cX5_readAmount 55 = .ok (.iload_n 1, 1) := by decide +kernel
theorem dX5_readAmount_56 : decode cX5_readAmount 56 = .ok (.ireturn, 1) := by decide +kernel
set_option maxRecDepth 20000 in
theorem ggX5_readHeap_X5_signHere : GoodIn wsX5_readHeap wsX5_signHere := goodIn_r _ [6, 1, 7, 8, 13, 14, 15, 16, 17, 18] (by decide +kernel) (by decide +kernel)
set_option maxRecDepth 20000 in
theorem gX5_readHeap_X5_signHere : GoodIn wsX5_readHeap (wsV RX5 41 RX5 yX5_signHere wsX5_signHere) := goodIn_app (goodIn_of _ (by decide +kernel)) ggX5_readHeap_X5_signHere
set_option maxRecDepth 20000 in
theorem ggX5_readHeap_X5_readSign : GoodIn wsX5_readHeap wsX5_readSign := goodIn_r _ [12, 1, 2, 3, 4, 5, 6, 7, 8, 13, 14, 15, 16, 17, 18] (by decide +kernel) (by decide +kernel)
set_option maxRecDepth 20000 in
theorem gX5_readHeap_X5_readSign : GoodIn wsX5_readHeap (wsV RX5 35 RX5 yX5_readSign wsX5_readSign) := goodIn_app (goodIn_of _ (by decide +kernel)) ggX5_readHeap_X5_readSign
theorem dX5_readHeap_0 : decode cX5_readHeap 0 = .ok (.aload_n 0, 1) := by decide +kernel
theorem dX5_readHeap_1 : decode cX5_readHeap 1 = .ok (.invokevirtual 41, 3) := by decide +kernel
theorem dX5_readHeap_4 : decode cX5_readHeap 4 = .ok (.bipush 48, 2) := by decide +kernel
theorem dX5_readHeap_6 : decode cX5_readHeap 6 = .ok (.isub, 1) := by decide +kernel
theorem dX5_readHeap_7 : decode cX5_readHeap 7 = .ok (.istore_n 1, 1) := by decide +kernel
theorem dX5_readHeap_8 : decode cX5_readHeap 8 = .ok (.iload_n 1, 1) := by decide +kernel
theorem dX5_readHeap_9 : decode cX5_readHeap 9 = .ok (.ifCond .lt 9, 3) := by decide +kernel
theorem dX5_readHeap_12 : decode cX5_readHeap 12 = .ok (.iload_n 1, 1) := by decide +kernel
theorem dX5_readHeap_13 : decode cX5_readHeap 13 = .ok (.bipush 9, 2) := by decide +kernel
theorem dX5_readHeap_15 : decode cX5_readHeap 15 = .ok (.if_icmp .le 5, 3) := by decide +kernel
theorem dX5_readHeap_18 : decode cX5_readHeap 18 = .ok (.iconst (-1), 1) := by decide +kernel
theorem dX5_readHeap_19 : decode cX5_readHeap 19 = .ok (.ireturn, 1) := by decide +kernel
theorem dX5_readHeap_20 : decode cX5_readHeap 20 = .ok (.aload_n 0, 1) := by decide +kernel
theorem dX5_readHeap_21 : decode cX5_readHeap 21 = .ok (.dup, 1) := by decide +kernel
theorem dX5_readHeap_22 : decode cX5_readHeap 22 = .ok (.getfield 19, 3) := by decide +kernel
theorem dX5_readHeap_25 : decode cX5_readHeap 25 = .ok (.iconst 1, 1) := by decide +kernel
theorem dX5_readHeap_26 : decode cX5_readHeap 26 = .ok (.iadd, 1) := by decide +kernel
theorem dX5_readHeap_27 : decode cX5_readHeap 27 = .ok (.putfield 19, 3) := by decide +kernel
theorem dX5_readHeap_30 : decode cX5_readHeap 30 = .ok (.iload_n 1, 1) := by decide +kernel
theorem dX5_readHeap_31 : decode cX5_readHeap 31 = .ok (.iconst 1, 1) := by decide +kernel
theorem dX5_readHeap_32 : decode cX5_readHeap 32 = .ok (.if_icmp .eq 5, 3) := by decide +kernel
theorem dX5_readHeap_35 : decode cX5_readHeap 35 = .ok (.iload_n 1, 1) := by decide +kernel
theorem dX5_readHeap_36 : decode cX5_readHeap 36 = .ok (.ireturn, 1) := by decide +kernel
theorem dX5_readHeap_37 : decode cX5_readHeap 37 = .ok (.aload_n 0, 1) := by decide +kernel
theorem dX5_readHeap_38 : decode cX5_readHeap 38 = .ok (.bipush 48, 2) := by decide +kernel
theorem dX5_readHeap_40 : decode cX5_readHeap 40 = .ok (.invokevirtual 35, 3) := by decide +kernel
theorem dX5_readHeap_43 : decode cX5_readHeap 43 = .ok (.ifCond .eq 8, 3) := by decide +kernel
theorem dX5_readHeap_46 : decode cX5_readHeap 46 = .ok (.bipush 10, 2) := by decide +kernel
theorem dX5_readHeap_48 : decode cX5_readHeap 48 = .ok (.goto 18, 3) := by decide +kernel
theorem dX5_readHeap_51 : decode cX5_readHeap 51 = .ok (.aload_n 0, 1) := by decide +kernel
theorem dX5_readHeap_52 : decode cX5_readHeap 52 = .ok (.bipush 49, 2) := by decide +kernel
theorem dX5_readHeap_54 : decode cX5_readHeap 54 = .ok (.invokevirtual 35, 3) := by decide +kernel
theorem dX5_readHeap_57 : decode cX5_readHeap 57 = .ok (.ifCond .eq 8, 3) := by decide +kernel
theorem dX5_readHeap_60 : decode cX5_readHeap 60 = .ok (.bipush 11, 2) := by decide +kernel
theorem dX5_readHeap_62 : decode cX5_readHeap 62 = .ok (.goto 4, 3) := by decide +kernel
theorem dX5_readHeap_65 : decode cX5_readHeap 65 = .ok (.iconst 1, 1) := by decide +kernel
theorem dX5_readHeap_66 : decode cX5_readHeap 66 = .ok (.ireturn, 1) := by decide +kernel
set_option maxRecDepth 20000 in
theorem ggX5_readSign_X5_signHere : GoodIn wsX5_readSign wsX5_signHere := goodIn_r _ [6, 1, 7, 8, 9, 10, 11, 12, 13, 14] (by decide +kernel) (by decide +kernel)
set_option maxRecDepth 20000 in
theorem gX5_readSign_X5_signHere : GoodIn wsX5_readSign (wsV RX5 41 RX5 yX5_signHere wsX5_signHere) := goodIn_app (goodIn_of _ (by decide +kernel)) ggX5_readSign_X5_signHere
theorem dX5_readSign_0 : decode cX5_readSign 0 = .ok (.aload_n 0, 1) := by decide +kernel
theorem dX5_readSign_1 : decode cX5_readSign 1 = .ok (.invokevirtual 41, 3) := by decide +kernel
theorem dX5_readSign_4 : decode cX5_readSign 4 = .ok (.iload_n 1, 1) := by decide +kernel
theorem dX5_readSign_5 : decode cX5_readSign 5 = .ok (.if_icmp .eq 5, 3) := by decide +kernel
theorem dX5_readSign_8 : decode cX5_readSign 8 = .ok (.iconst 0, 1) := by decide +kernel
theorem dX5_readSign_9 : decode cX5_readSign 9 = .ok (.ireturn, 1) := by decide +kernel
theorem dX5_readSign_10 : decode cX5_readSign 10 = .ok (.aload_n 0, 1) := by decide +kernel
theorem dX5_readSign_11 : decode cX5_readSign 11 = .ok (.dup, 1) := by decide +kernel
theorem dX5_readSign_12 : decode cX5_readSign 12 = .ok (.getfield 19, 3) := by decide +kernel
theorem dX5_readSign_15 : decode cX5_readSign 15 = .ok (.iconst 1, 1) := by decide +kernel
theorem dX5_readSign_16 : decode cX5_readSign 16 = .ok (.iadd, 1) := by decide +kernel
theorem dX5_readSign_17 : decode cX5_readSign 17 = .ok (.putfield 19, 3) := by decide +kernel
theorem dX5_readSign_20 : decode cX5_readSign 20 = .ok (.iconst 1, 1) := by decide +kernel
theorem dX5_readSign_21 : decode cX5_readSign 21 = .ok (.ireturn, 1) := by decide +kernel
theorem dX5_signHere_0 : decode cX5_signHere 0 = .ok (.aload_n 0, 1) := by decide +kernel
theorem dX5_signHere_1 : decode cX5_signHere 1 = .ok (.getfield 19, 3) := by decide +kernel
theorem dX5_signHere_4 : decode cX5_signHere 4 = .ok (.ifCond .lt 26, 3) := by decide +kernel
theorem dX5_signHere_7 : decode cX5_signHere 7 = .ok (.aload_n 0, 1) := by decide +kernel
theorem dX5_signHere_8 : decode cX5_signHere 8 = .ok (.getfield 19, 3) := by decide +kernel
theorem dX5_signHere_11 : decode cX5_signHere 11 = .ok (.aload_n 0, 1) := by decide +kernel
theorem dX5_signHere_12 : decode cX5_signHere 12 = .ok (.getfield 15, 3) := by decide +kernel
theorem dX5_signHere_15 : decode cX5_signHere 15 = .ok (.if_icmp .ge 15, 3) := by decide +kernel
theorem dX5_signHere_18 : decode cX5_signHere 18 = .ok (.aload_n 0, 1) := by decide +kernel
theorem dX5_signHere_19 : decode cX5_signHere 19 = .ok (.getfield 9, 3) := by decide +kernel
theorem dX5_signHere_22 : decode cX5_signHere 22 = .ok (.aload_n 0, 1) := by decide +kernel
theorem dX5_signHere_23 : decode cX5_signHere 23 = .ok (.getfield 19, 3) := by decide +kernel
theorem dX5_signHere_26 : decode cX5_signHere 26 = .ok (.caload, 1) := by decide +kernel
theorem dX5_signHere_27 : decode cX5_signHere 27 = .ok (.goto 4, 3) := by decide +kernel
theorem dX5_signHere_30 : decode cX5_signHere 30 = .ok (.iconst 0, 1) := by decide +kernel
theorem dX5_signHere_31 : decode cX5_signHere 31 = .ok (.ireturn, 1) := by decide +kernel
