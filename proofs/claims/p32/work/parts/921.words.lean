/-! THE LAW'S WORDS: printed by the names' program, its one big check in pieces -/
def wsL_law0_r1 : List Cond := [Cond.classLink RL 11 RX5, Cond.instantiable RX5 10, Cond.initialized RX5, Cond.arrayClass .int, Cond.constant RL 55 (1000000), Cond.constant RL 127 (1073741824), Cond.methodLink RL 144 yX5_init, Cond.instanceMethod yX5_init, Cond.code yX5_init cX5_init 2 none, Cond.methodLink RX5 1 objectInit, Cond.instanceMethod objectInit, Cond.code objectInit ⟨#[0xb1]⟩ 1 none, Cond.classLink RX5 9 RX4, Cond.fieldLink RX5 11 "Amoebary" "polynomials" "[LAmoebary$Polynomial;", Cond.classLink RX5 15 RX2, Cond.fieldLink RX5 17 "Amoebary" "matrices" "[LAmoebary$Matrix;", Cond.classLink RX5 21 "[[I", Cond.fieldLink RX5 23 "Amoebary" "vectors" "[[I", Cond.classLink RX5 26 RX3, Cond.instantiable RX3 5, Cond.initialized RX3, Cond.fieldLink RX5 29 "Amoebary" "net" "LAmoebary$Net;", Cond.instantiable RX4 1, Cond.initialized RX4]
def wsL_law0_r2 : List Cond := [Cond.fieldLink RX5 34 "Amoebary" "polynomialDraft" "LAmoebary$Polynomial;", Cond.instantiable RX2 2, Cond.initialized RX2, Cond.fieldLink RX5 39 "Amoebary" "matrixDraft" "LAmoebary$Matrix;", Cond.fieldLink RX5 43 "Amoebary" "longerDraft" "LAmoebary$Matrix;", Cond.fieldLink RX5 46 "Amoebary" "vectorDraft" "[I", Cond.classLink RX5 50 RX1, Cond.instantiable RX1 2, Cond.initialized RX1, Cond.fieldLink RX5 53 "Amoebary" "fraction" "LAmoebary$Fraction;", Cond.classLink RX5 57 RX0, Cond.instantiable RX0 2, Cond.initialized RX0, Cond.fieldLink RX5 60 "Amoebary" "choices" "LAmoebary$Choices;", Cond.instanceMethod yX3_init, Cond.code yX3_init cX3_init 1 none, Cond.methodLink RX3 3 objectInit, Cond.classLink RX3 9 "[[I", Cond.fieldLink RX3 11 "Amoebary$Net" "between" "[[I", Cond.fieldLink RX3 16 "Amoebary$Net" "chips" "[I", Cond.fieldLink RX3 20 "Amoebary$Net" "near" "[I", Cond.fieldLink RX3 23 "Amoebary$Net" "piles" "[[I", Cond.fieldLink RX3 26 "Amoebary$Net" "minors" "[[I", Cond.methodLink RX5 33 yX4_init]
def wsL_law0_r3 : List Cond := [Cond.instanceMethod yX4_init, Cond.code yX4_init cX4_init 1 none, Cond.methodLink RX4 3 objectInit, Cond.fieldLink RX4 9 "Amoebary$Polynomial" "coefficients" "[I", Cond.constant RX4 15 (1000000), Cond.methodLink RX4 16 yJ7_fill_53178, Cond.static yJ7_fill_53178, Cond.initialized RJ7, Cond.code yJ7_fill_53178 cJ7_fill_53178 4 none, Cond.methodLink RX5 38 yX2_init, Cond.instanceMethod yX2_init, Cond.code yX2_init cX2_init 1 none, Cond.methodLink RX2 3 objectInit, Cond.classLink RX2 9 "[[I", Cond.fieldLink RX2 11 "Amoebary$Matrix" "entries" "[[I", Cond.methodLink RX2 16 yX2_becomeEmpty, Cond.instanceMethod yX2_becomeEmpty, Cond.selects RX2 yX2_becomeEmpty yX2_becomeEmpty, Cond.code yX2_becomeEmpty cX2_becomeEmpty 3 none, Cond.fieldLink RX2 20 "Amoebary$Matrix" "rows" "I", Cond.constant RX2 24 (1000000), Cond.methodLink RX2 25 yJ7_fill_53178, Cond.instanceMethod yX1_init, Cond.code yX1_init cX1_init 1 none]
def wsL_law0_r4 : List Cond := [Cond.methodLink RX1 3 objectInit, Cond.instanceMethod yX0_init, Cond.code yX0_init cX0_init 1 none, Cond.methodLink RX0 3 objectInit, Cond.fieldLink RX0 9 "Amoebary$Choices" "sums" "[I", Cond.fieldLink RX0 15 "Amoebary$Choices" "counts" "[I", Cond.methodLink RL 94 yL_draw, Cond.static yL_draw, Cond.initialized RL, Cond.code yL_draw cL_draw 4 (some .int), Cond.constant RL 7 (1070327761), Cond.constant RL 8 (799912421), Cond.constant RL 9 (2147483647), Cond.methodLink RL 145 yL_polys, Cond.static yL_polys, Cond.code yL_polys cL_polys 15 (some .boolean), Cond.constant RL 52 (-70008), Cond.methodLink RL 74 yX5_coefficient, Cond.instanceMethod yX5_coefficient, Cond.selects RX5 yX5_coefficient yX5_coefficient, Cond.code yX5_coefficient cX5_coefficient 5 (some .int), Cond.methodLink RX5 64 yX5_needHeld, Cond.static yX5_needHeld, Cond.code yX5_needHeld cX5_needHeld 1 none]
def wsL_law0_r5 : List Cond := [Cond.methodLink RX5 68 yX5_needIndex, Cond.static yX5_needIndex, Cond.code yX5_needIndex cX5_needIndex 2 none, Cond.classLink RX5 294 "java/lang/IndexOutOfBoundsException", Cond.initialized "java/lang/IndexOutOfBoundsException", Cond.methodLink RX5 72 yX5_needGiven, Cond.static yX5_needGiven, Cond.code yX5_needGiven cX5_needGiven 1 none, Cond.constant RX5 301 (1000000), Cond.methodLink RX5 78 yX5_needWithin, Cond.static yX5_needWithin, Cond.code yX5_needWithin cX5_needWithin 3 none, Cond.classLink RX5 224 "java/lang/IllegalArgumentException", Cond.initialized "java/lang/IllegalArgumentException", Cond.methodLink RL 77 yX5_value, Cond.instanceMethod yX5_value, Cond.selects RX5 yX5_value yX5_value, Cond.code yX5_value cX5_value 3 (some .int), Cond.methodLink RX5 82 yX4_leastAt, Cond.instanceMethod yX4_leastAt, Cond.selects RX4 yX4_leastAt yX4_leastAt, Cond.code yX4_leastAt cX4_leastAt 4 (some .int), Cond.methodLink RX4 26 Lib.Math.min.name, Cond.static Lib.Math.min.name]
def wsL_law0_r6 : List Cond := [Cond.initialized "java/lang/Math", Cond.code Lib.Math.min.name Lib.Math.min.code 2 (some .int), Cond.methodLink RX4 22 yX4_hasTerm, Cond.instanceMethod yX4_hasTerm, Cond.selects RX4 yX4_hasTerm yX4_hasTerm, Cond.code yX4_hasTerm cX4_hasTerm 2 (some .boolean), Cond.methodLink RL 68 yL_lesser, Cond.static yL_lesser, Cond.code yL_lesser cL_lesser 2 (some .int), Cond.methodLink RL 80 yX5_sum, Cond.instanceMethod yX5_sum, Cond.selects RX5 yX5_sum yX5_sum, Cond.code yX5_sum cX5_sum 4 (some .int), Cond.methodLink RX5 111 yX4_becomeLesser, Cond.instanceMethod yX4_becomeLesser, Cond.selects RX4 yX4_becomeLesser yX4_becomeLesser, Cond.code yX4_becomeLesser cX4_becomeLesser 4 none, Cond.methodLink RX5 115 yX4_becomeCopy, Cond.instanceMethod yX4_becomeCopy, Cond.selects RX4 yX4_becomeCopy yX4_becomeCopy, Cond.code yX4_becomeCopy cX4_becomeCopy 2 none, Cond.methodLink RX4 45 arraycopyName, Cond.native arraycopyName, Cond.static arraycopyName]
def wsL_law0_r7 : List Cond := [Cond.initialized "java/lang/System", Cond.methodLink RX5 119 yX4_countTerms, Cond.instanceMethod yX4_countTerms, Cond.selects RX4 yX4_countTerms yX4_countTerms, Cond.code yX4_countTerms cX4_countTerms 3 (some .int), Cond.methodLink RL 83 yL_plus, Cond.static yL_plus, Cond.code yL_plus cL_plus 2 (some .int), Cond.methodLink RL 59 yL_asks, Cond.static yL_asks, Cond.codeWith yL_asks cL_asks 6 (some .int) [(0, 155, 156, 47), (0, 155, 161, 50)], Cond.classLink RL 47 "java/lang/IndexOutOfBoundsException", Cond.classLink RL 50 "java/lang/IllegalStateException", Cond.constant RL 49 (-70007), Cond.methodLink RL 10 yX5_product, Cond.instanceMethod yX5_product, Cond.selects RX5 yX5_product yX5_product, Cond.code yX5_product cX5_product 4 (some .int), Cond.classLink RX5 125 "java/lang/IllegalStateException", Cond.initialized "java/lang/IllegalStateException", Cond.methodLink RX5 122 yX4_fitsWith, Cond.instanceMethod yX4_fitsWith, Cond.selects RX4 yX4_fitsWith yX4_fitsWith, Cond.code yX4_fitsWith cX4_fitsWith 4 (some .boolean)]
def wsL_law0_r8 : List Cond := [Cond.methodLink RX5 132 yX4_becomeProduct, Cond.instanceMethod yX4_becomeProduct, Cond.selects RX4 yX4_becomeProduct yX4_becomeProduct, Cond.code yX4_becomeProduct cX4_becomeProduct 6 none, Cond.static yX5_together, Cond.code yX5_together cX5_together 2 (some .int), Cond.methodLink RX5 135 yX4_isWithinLimit, Cond.instanceMethod yX4_isWithinLimit, Cond.selects RX4 yX4_isWithinLimit yX4_isWithinLimit, Cond.code yX4_isWithinLimit cX4_isWithinLimit 2 (some .boolean), Cond.static yX5_isBeyond, Cond.code yX5_isBeyond cX5_isBeyond 2 (some .boolean), Cond.methodLink RL 16 yX5_multiply, Cond.instanceMethod yX5_multiply, Cond.selects RX5 yX5_multiply yX5_multiply, Cond.code yX5_multiply cX5_multiply 4 (some .int), Cond.methodLink RX5 155 yX2_becomeProduct, Cond.instanceMethod yX2_becomeProduct, Cond.selects RX2 yX2_becomeProduct yX2_becomeProduct, Cond.code yX2_becomeProduct cX2_becomeProduct 7 none, Cond.methodLink RX2 50 Lib.Math.min.name, Cond.methodLink RX5 158 yX5_keepMatrixDraft, Cond.instanceMethod yX5_keepMatrixDraft, Cond.selects RX5 yX5_keepMatrixDraft yX5_keepMatrixDraft]
def wsL_law0_r9 : List Cond := [Cond.code yX5_keepMatrixDraft cX5_keepMatrixDraft 2 (some .int), Cond.methodLink RX5 313 yX2_isWithinLimit, Cond.instanceMethod yX2_isWithinLimit, Cond.selects RX2 yX2_isWithinLimit yX2_isWithinLimit, Cond.code yX2_isWithinLimit cX2_isWithinLimit 3 (some .boolean), Cond.constant RX2 41 (99999), Cond.methodLink RX5 161 yX2_becomeCopy, Cond.instanceMethod yX2_becomeCopy, Cond.selects RX2 yX2_becomeCopy yX2_becomeCopy, Cond.code yX2_becomeCopy cX2_becomeCopy 3 none, Cond.methodLink RX2 31 arraycopyName, Cond.methodLink RX5 316 yX2_countNumbers, Cond.instanceMethod yX2_countNumbers, Cond.selects RX2 yX2_countNumbers yX2_countNumbers, Cond.code yX2_countNumbers cX2_countNumbers 4 (some .int), Cond.methodLink RL 19 yX5_star, Cond.instanceMethod yX5_star, Cond.selects RX5 yX5_star yX5_star, Cond.code yX5_star cX5_star 3 (some .int), Cond.methodLink RX5 164 yX2_closeWays, Cond.instanceMethod yX2_closeWays, Cond.selects RX2 yX2_closeWays yX2_closeWays, Cond.code yX2_closeWays cX2_closeWays 5 none, Cond.methodLink RX5 167 yX2_comesBackBelowZero]
def wsL_law0_r10 : List Cond := [Cond.instanceMethod yX2_comesBackBelowZero, Cond.selects RX2 yX2_comesBackBelowZero yX2_comesBackBelowZero, Cond.code yX2_comesBackBelowZero cX2_comesBackBelowZero 2 (some .boolean), Cond.methodLink RL 23 yX5_solve, Cond.instanceMethod yX5_solve, Cond.selects RX5 yX5_solve yX5_solve, Cond.code yX5_solve cX5_solve 6 (some .boolean), Cond.methodLink RX5 200 arraycopyName, Cond.methodLink RX5 182 yX5_hasNumbers, Cond.static yX5_hasNumbers, Cond.code yX5_hasNumbers cX5_hasNumbers 3 (some .boolean), Cond.methodLink RX5 188 yX2_putSolution, Cond.instanceMethod yX2_putSolution, Cond.selects RX2 yX2_putSolution yX2_putSolution, Cond.code yX2_putSolution cX2_putSolution 7 none, Cond.methodLink RX2 55 Lib.Math.max.name, Cond.static Lib.Math.max.name, Cond.code Lib.Math.max.name Lib.Math.max.code 2 (some .int), Cond.methodLink RX5 192 yX5_needPartsWithinLimit, Cond.static yX5_needPartsWithinLimit, Cond.code yX5_needPartsWithinLimit cX5_needPartsWithinLimit 3 none, Cond.constant RX5 302 (99999), Cond.methodLink RX5 303 yX5_isBeyond, Cond.methodLink RX5 196 yX2_leadsTo]
def wsL_law0_r11 : List Cond := [Cond.instanceMethod yX2_leadsTo, Cond.selects RX2 yX2_leadsTo yX2_leadsTo, Cond.code yX2_leadsTo cX2_leadsTo 6 (some .boolean), Cond.methodLink RL 27 yX5_project, Cond.instanceMethod yX5_project, Cond.selects RX5 yX5_project yX5_project, Cond.code yX5_project cX5_project 6 (some .boolean), Cond.methodLink RX5 206 yX2_hasNumbersAlone, Cond.instanceMethod yX2_hasNumbersAlone, Cond.selects RX2 yX2_hasNumbersAlone yX2_hasNumbersAlone, Cond.code yX2_hasNumbersAlone cX2_hasNumbersAlone 1 (some .boolean), Cond.methodLink RX2 37 yX2_countNumbers, Cond.methodLink RX5 211 yX2_putProjection, Cond.instanceMethod yX2_putProjection, Cond.selects RX2 yX2_putProjection yX2_putProjection, Cond.code yX2_putProjection cX2_putProjection 7 none, Cond.methodLink RX2 58 yX2_shiftOf, Cond.instanceMethod yX2_shiftOf, Cond.selects RX2 yX2_shiftOf yX2_shiftOf, Cond.code yX2_shiftOf cX2_shiftOf 5 (some .int), Cond.methodLink RX5 214 yX5_areAlike, Cond.static yX5_areAlike, Cond.code yX5_areAlike cX5_areAlike 4 (some .boolean), Cond.methodLink RL 30 yX5_rank]
def wsL_law0_r12 : List Cond := [Cond.instanceMethod yX5_rank, Cond.selects RX5 yX5_rank yX5_rank, Cond.code yX5_rank cX5_rank 1 (some .int), Cond.methodLink RX5 256 yX5_needConnected, Cond.instanceMethod yX5_needConnected, Cond.selects RX5 yX5_needConnected yX5_needConnected, Cond.code yX5_needConnected cX5_needConnected 1 none, Cond.methodLink RX5 284 yX3_isConnected, Cond.instanceMethod yX3_isConnected, Cond.selects RX3 yX3_isConnected yX3_isConnected, Cond.code yX3_isConnected cX3_isConnected 2 (some .boolean), Cond.methodLink RX3 57 yX3_spreadFrom, Cond.instanceMethod yX3_spreadFrom, Cond.selects RX3 yX3_spreadFrom yX3_spreadFrom, Cond.code yX3_spreadFrom cX3_spreadFrom 4 none, Cond.methodLink RX3 39 yX3_countEdgesInto, Cond.instanceMethod yX3_countEdgesInto, Cond.selects RX3 yX3_countEdgesInto yX3_countEdgesInto, Cond.code yX3_countEdgesInto cX3_countEdgesInto 5 (some .int), Cond.methodLink RX3 43 yX3_hasVertex, Cond.instanceMethod yX3_hasVertex, Cond.selects RX3 yX3_hasVertex yX3_hasVertex, Cond.code yX3_hasVertex cX3_hasVertex 2 (some .boolean), Cond.methodLink RX3 35 yX3_allVertices]
def wsL_law0_r13 : List Cond := [Cond.instanceMethod yX3_allVertices, Cond.selects RX3 yX3_allVertices yX3_allVertices, Cond.code yX3_allVertices cX3_allVertices 1 (some .int), Cond.methodLink RX3 61 yX3_has, Cond.instanceMethod yX3_has, Cond.selects RX3 yX3_has yX3_has, Cond.code yX3_has cX3_has 3 (some .boolean), Cond.methodLink RX5 235 yX3_copyChips, Cond.instanceMethod yX3_copyChips, Cond.selects RX3 yX3_copyChips yX3_copyChips, Cond.code yX3_copyChips cX3_copyChips 1 none, Cond.methodLink RX3 29 arraycopyName, Cond.methodLink RX5 266 yX5_needRanked, Cond.instanceMethod yX5_needRanked, Cond.selects RX5 yX5_needRanked yX5_needRanked, Cond.code yX5_needRanked cX5_needRanked 1 none, Cond.methodLink RX5 238 yX3_startPile, Cond.instanceMethod yX3_startPile, Cond.selects RX3 yX3_startPile yX3_startPile, Cond.code yX3_startPile cX3_startPile 1 (some (.array .int)), Cond.methodLink RX5 287 yX3_degree, Cond.instanceMethod yX3_degree, Cond.selects RX3 yX3_degree yX3_degree, Cond.code yX3_degree cX3_degree 4 (some .int)]
def wsL_law0_r14 : List Cond := [Cond.methodLink RX5 269 yX3_rankOfStart, Cond.instanceMethod yX3_rankOfStart, Cond.selects RX3 yX3_rankOfStart yX3_rankOfStart, Cond.code yX3_rankOfStart cX3_rankOfStart 2 (some .int), Cond.methodLink RX3 86 Lib.Math.max.name, Cond.methodLink RX3 92 yX3_reduce, Cond.instanceMethod yX3_reduce, Cond.selects RX3 yX3_reduce yX3_reduce, Cond.code yX3_reduce cX3_reduce 4 none, Cond.constant RX3 68 (1000000), Cond.methodLink RX3 64 yX3_payDebts, Cond.instanceMethod yX3_payDebts, Cond.selects RX3 yX3_payDebts yX3_payDebts, Cond.code yX3_payDebts cX3_payDebts 6 none, Cond.methodLink RX3 81 yJ9_floorDiv_7cf53, Cond.static yJ9_floorDiv_7cf53, Cond.initialized RJ9, Cond.code yJ9_floorDiv_7cf53 cJ9_floorDiv_7cf53 3 (some .int), Cond.methodLink RX3 77 yX3_fireSet, Cond.instanceMethod yX3_fireSet, Cond.selects RX3 yX3_fireSet yX3_fireSet, Cond.code yX3_fireSet cX3_fireSet 5 none, Cond.methodLink RX3 69 yX3_findUnburnt, Cond.instanceMethod yX3_findUnburnt]
def wsL_law0_r15 : List Cond := [Cond.selects RX3 yX3_findUnburnt yX3_findUnburnt, Cond.code yX3_findUnburnt cX3_findUnburnt 6 (some .int), Cond.methodLink RX3 73 yX3_timesThatCanFire, Cond.instanceMethod yX3_timesThatCanFire, Cond.selects RX3 yX3_timesThatCanFire yX3_timesThatCanFire, Cond.code yX3_timesThatCanFire cX3_timesThatCanFire 6 (some .int), Cond.methodLink RX3 89 Lib.Math.min.name, Cond.methodLink RX3 95 yX3_degree, Cond.methodLink RX3 98 yX3_genus, Cond.instanceMethod yX3_genus, Cond.selects RX3 yX3_genus yX3_genus, Cond.code yX3_genus cX3_genus 1 (some .int), Cond.methodLink RX3 47 yX3_countEdges, Cond.instanceMethod yX3_countEdges, Cond.selects RX3 yX3_countEdges yX3_countEdges, Cond.code yX3_countEdges cX3_countEdges 3 (some .int), Cond.methodLink RX3 50 yX3_countVertices, Cond.instanceMethod yX3_countVertices, Cond.selects RX3 yX3_countVertices yX3_countVertices, Cond.code yX3_countVertices cX3_countVertices 3 (some .int), Cond.methodLink RX3 101 yX3_leastWithTaken, Cond.static yX3_leastWithTaken, Cond.code yX3_leastWithTaken cX3_leastWithTaken 8 (some .int), Cond.methodLink RL 34 yX5_restRank]
def wsL_law0_r16 : List Cond := [Cond.instanceMethod yX5_restRank, Cond.selects RX5 yX5_restRank yX5_restRank, Cond.code yX5_restRank cX5_restRank 1 (some .int), Cond.methodLink RX5 272 yX3_copyRest, Cond.instanceMethod yX3_copyRest, Cond.selects RX3 yX3_copyRest yX3_copyRest, Cond.code yX3_copyRest cX3_copyRest 2 none, Cond.methodLink RL 37 yX5_reduced, Cond.instanceMethod yX5_reduced, Cond.selects RX5 yX5_reduced yX5_reduced, Cond.code yX5_reduced cX5_reduced 3 (some .int), Cond.methodLink RX5 251 yX3_hasVertex, Cond.methodLink RX5 259 yX3_spreadFrom, Cond.methodLink RX5 262 yX3_reduce, Cond.methodLink RL 40 yX5_fire, Cond.instanceMethod yX5_fire, Cond.selects RX5 yX5_fire yX5_fire, Cond.code yX5_fire cX5_fire 2 (some .int), Cond.methodLink RX5 242 yX3_fireSet, Cond.methodLink RX5 246 yX3_isWithinLimit, Cond.instanceMethod yX3_isWithinLimit, Cond.selects RX3 yX3_isWithinLimit yX3_isWithinLimit, Cond.code yX3_isWithinLimit cX3_isWithinLimit 3 (some .boolean), Cond.methodLink RL 44 yX5_root]
def wsL_law0_r17 : List Cond := [Cond.instanceMethod yX5_root, Cond.selects RX5 yX5_root yX5_root, Cond.code yX5_root cX5_root 7 (some .int), Cond.methodLink RX5 86 yX4_countGaps, Cond.instanceMethod yX4_countGaps, Cond.selects RX4 yX4_countGaps yX4_countGaps, Cond.code yX4_countGaps cX4_countGaps 3 (some .int), Cond.methodLink RX4 42 Lib.Math.max.name, Cond.methodLink RX4 39 yX4_hasCorner, Cond.instanceMethod yX4_hasCorner, Cond.selects RX4 yX4_hasCorner yX4_hasCorner, Cond.code yX4_hasCorner cX4_hasCorner 2 (some .boolean), Cond.methodLink RX4 36 yX4_hasSpare, Cond.instanceMethod yX4_hasSpare, Cond.selects RX4 yX4_hasSpare yX4_hasSpare, Cond.code yX4_hasSpare cX4_hasSpare 4 (some .boolean), Cond.methodLink RX4 32 yX4_isOnOrAbove, Cond.instanceMethod yX4_isOnOrAbove, Cond.selects RX4 yX4_isOnOrAbove yX4_isOnOrAbove, Cond.code yX4_isOnOrAbove cX4_isOnOrAbove 5 (some .boolean), Cond.methodLink RX5 90 yX4_cornerBelow, Cond.instanceMethod yX4_cornerBelow, Cond.selects RX4 yX4_cornerBelow yX4_cornerBelow, Cond.code yX4_cornerBelow cX4_cornerBelow 3 (some .int)]
def wsL_law0_r18 : List Cond := [Cond.methodLink RX5 93 yX1_become, Cond.instanceMethod yX1_become, Cond.selects RX1 yX1_become yX1_become, Cond.code yX1_become cX1_become 5 none, Cond.fieldLink RX1 9 "Amoebary$Fraction" "above" "I", Cond.fieldLink RX1 15 "Amoebary$Fraction" "below" "I", Cond.methodLink RL 71 yX5_areSame, Cond.instanceMethod yX5_areSame, Cond.selects RX5 yX5_areSame yX5_areSame, Cond.code yX5_areSame cX5_areSame 3 (some .boolean), Cond.methodLink RX5 107 yX4_hasCornersOf, Cond.instanceMethod yX4_hasCornersOf, Cond.selects RX4 yX4_hasCornersOf yX4_hasCornersOf, Cond.code yX4_hasCornersOf cX4_hasCornersOf 3 (some .boolean), Cond.methodLink RL 63 yX5_isSpare, Cond.instanceMethod yX5_isSpare, Cond.selects RX5 yX5_isSpare yX5_isSpare, Cond.code yX5_isSpare cX5_isSpare 3 (some .boolean), Cond.methodLink RX5 103 yX4_hasSpare, Cond.methodLink RL 56 yX5_roots, Cond.instanceMethod yX5_roots, Cond.selects RX5 yX5_roots yX5_roots, Cond.code yX5_roots cX5_roots 2 (some .int), Cond.methodLink RL 86 yL_valueOf]
def wsL_law0_r19 : List Cond := [Cond.static yL_valueOf, Cond.code yL_valueOf cL_valueOf 5 (some .int), Cond.methodLink RL 149 yL_isPoly, Cond.static yL_isPoly, Cond.code yL_isPoly cL_isPoly 18 (some .boolean), Cond.constant RL 67 (1999999999), Cond.methodLink RL 153 yL_matrices, Cond.static yL_matrices, Cond.code yL_matrices cL_matrices 11 (some .boolean), Cond.methodLink RL 104 yL_fills, Cond.static yL_fills, Cond.code yL_fills cL_fills 9 none, Cond.constant RL 93 (1048576), Cond.methodLink RL 90 yX5_matrix, Cond.instanceMethod yX5_matrix, Cond.selects RX5 yX5_matrix yX5_matrix, Cond.code yX5_matrix cX5_matrix 4 (some .int), Cond.methodLink RX5 144 yX2_becomeEmpty, Cond.methodLink RL 97 yX5_entry, Cond.instanceMethod yX5_entry, Cond.selects RX5 yX5_entry yX5_entry, Cond.code yX5_entry cX5_entry 6 (some .int), Cond.methodLink RX5 147 yX5_needEntry, Cond.instanceMethod yX5_needEntry]
def wsL_law0_r20 : List Cond := [Cond.selects RX5 yX5_needEntry yX5_needEntry, Cond.code yX5_needEntry cX5_needEntry 4 none, Cond.methodLink RL 108 yX5_determinant, Cond.instanceMethod yX5_determinant, Cond.selects RX5 yX5_determinant yX5_determinant, Cond.code yX5_determinant cX5_determinant 2 (some .int), Cond.methodLink RX5 175 yX0_leastSum, Cond.instanceMethod yX0_leastSum, Cond.selects RX0 yX0_leastSum yX0_leastSum, Cond.code yX0_leastSum cX0_leastSum 2 (some .int), Cond.methodLink RX0 18 yX0_choose, Cond.instanceMethod yX0_choose, Cond.selects RX0 yX0_choose yX0_choose, Cond.code yX0_choose cX0_choose 5 none, Cond.constant RX0 28 (1000000), Cond.methodLink RX0 33 yJ6_bitCount_0f7a4, Cond.static yJ6_bitCount_0f7a4, Cond.initialized RJ6, Cond.code yJ6_bitCount_0f7a4 cJ6_bitCount_0f7a4 1 (some .int), Cond.constant RJ6 265 (1431655765), Cond.constant RJ6 266 (858993459), Cond.constant RJ6 267 (252645135), Cond.methodLink RX0 39 yX0_offer, Cond.instanceMethod yX0_offer]
def wsL_law0_r21 : List Cond := [Cond.selects RX0 yX0_offer yX0_offer, Cond.code yX0_offer cX0_offer 5 none, Cond.methodLink RL 111 yL_isLike, Cond.static yL_isLike, Cond.code yL_isLike cL_isLike 6 (some .boolean), Cond.methodLink RL 101 yX5_at, Cond.instanceMethod yX5_at, Cond.selects RX5 yX5_at yX5_at, Cond.code yX5_at cX5_at 4 (some .int), Cond.methodLink RL 115 yX5_ways, Cond.instanceMethod yX5_ways, Cond.selects RX5 yX5_ways yX5_ways, Cond.code yX5_ways cX5_ways 2 (some .int), Cond.methodLink RX5 179 yX0_countLeast, Cond.instanceMethod yX0_countLeast, Cond.selects RX0 yX0_countLeast yX0_countLeast, Cond.code yX0_countLeast cX0_countLeast 2 (some .int), Cond.methodLink RL 118 yX5_mean, Cond.instanceMethod yX5_mean, Cond.selects RX5 yX5_mean yX5_mean, Cond.code yX5_mean cX5_mean 3 (some .int), Cond.methodLink RX5 172 yX5_findLeastMean, Cond.instanceMethod yX5_findLeastMean, Cond.selects RX5 yX5_findLeastMean yX5_findLeastMean]
def wsL_law0_r22 : List Cond := [Cond.code yX5_findLeastMean cX5_findLeastMean 6 none, Cond.methodLink RX5 319 yX1_becomeNone, Cond.instanceMethod yX1_becomeNone, Cond.selects RX1 yX1_becomeNone yX1_becomeNone, Cond.code yX1_becomeNone cX1_becomeNone 1 none, Cond.methodLink RX5 322 yX1_becomeLesser, Cond.instanceMethod yX1_becomeLesser, Cond.selects RX1 yX1_becomeLesser yX1_becomeLesser, Cond.code yX1_becomeLesser cX1_becomeLesser 3 none, Cond.methodLink RX1 18 yX1_become, Cond.methodLink RL 156 yL_vectors, Cond.static yL_vectors, Cond.code yL_vectors cL_vectors 10 (some .boolean), Cond.methodLink RL 121 yX5_part, Cond.instanceMethod yX5_part, Cond.selects RX5 yX5_part yX5_part, Cond.code yX5_part cX5_part 5 (some .int), Cond.methodLink RL 124 yX5_partAt, Cond.instanceMethod yX5_partAt, Cond.selects RX5 yX5_partAt yX5_partAt, Cond.code yX5_partAt cX5_partAt 3 (some .int), Cond.methodLink RL 159 yL_chips, Cond.static yL_chips, Cond.code yL_chips cL_chips 16 (some .boolean)]
def wsL_law0_r23 : List Cond := [Cond.methodLink RL 128 yX5_edges, Cond.instanceMethod yX5_edges, Cond.selects RX5 yX5_edges yX5_edges, Cond.code yX5_edges cX5_edges 5 (some .int), Cond.methodLink RL 131 yX5_chips, Cond.instanceMethod yX5_chips, Cond.selects RX5 yX5_chips yX5_chips, Cond.code yX5_chips cX5_chips 4 (some .int), Cond.methodLink RL 134 yX5_graph, Cond.instanceMethod yX5_graph, Cond.selects RX5 yX5_graph yX5_graph, Cond.code yX5_graph cX5_graph 2 (some .int), Cond.methodLink RX5 275 yX3_countVertices, Cond.methodLink RX5 278 yX3_countEdges, Cond.methodLink RX5 281 yX3_genus, Cond.methodLink RX5 291 yX3_countSpanningTrees, Cond.instanceMethod yX3_countSpanningTrees, Cond.selects RX3 yX3_countSpanningTrees yX3_countSpanningTrees, Cond.code yX3_countSpanningTrees cX3_countSpanningTrees 3 (some .int), Cond.methodLink RX3 105 yX3_isConnected, Cond.methodLink RX3 109 yX3_putLaplacian, Cond.instanceMethod yX3_putLaplacian, Cond.selects RX3 yX3_putLaplacian yX3_putLaplacian, Cond.code yX3_putLaplacian cX3_putLaplacian 3 none]
def wsL_law0_r24 : List Cond := [Cond.methodLink RX3 112 yX3_eliminate, Cond.instanceMethod yX3_eliminate, Cond.selects RX3 yX3_eliminate yX3_eliminate, Cond.code yX3_eliminate cX3_eliminate 7 none, Cond.methodLink RL 137 yL_isReduced, Cond.static yL_isReduced, Cond.code yL_isReduced cL_isReduced 8 (some .boolean), Cond.methodLink RL 141 yX5_chipsAt, Cond.instanceMethod yX5_chipsAt, Cond.selects RX5 yX5_chipsAt yX5_chipsAt, Cond.code yX5_chipsAt cX5_chipsAt 2 (some .int)]
def wsL_law0 : List Cond := (wsL_law0_r1 ++ (wsL_law0_r2 ++ (wsL_law0_r3 ++ (wsL_law0_r4 ++ (wsL_law0_r5 ++ (wsL_law0_r6 ++ (wsL_law0_r7 ++ (wsL_law0_r8 ++ (wsL_law0_r9 ++ (wsL_law0_r10 ++ (wsL_law0_r11 ++ (wsL_law0_r12 ++ (wsL_law0_r13 ++ (wsL_law0_r14 ++ (wsL_law0_r15 ++ (wsL_law0_r16 ++ (wsL_law0_r17 ++ (wsL_law0_r18 ++ (wsL_law0_r19 ++ (wsL_law0_r20 ++ (wsL_law0_r21 ++ (wsL_law0_r22 ++ (wsL_law0_r23 ++ wsL_law0_r24))))))))))))))))))))))) ++ wsX50 ++ wsX30 ++ wsX40 ++ wsX20 ++ wsX10 ++ wsX00 ++ ([] : List Cond)
def wsL_law : List Cond := wsL_law0 ++ (vx_atS RX5 298 "java/lang/IndexOutOfBoundsException" ["java/lang/RuntimeException", "java/lang/Exception"]).filter goodWord ++ (vx_atS RX5 228 "java/lang/IllegalArgumentException" ["java/lang/RuntimeException", "java/lang/Exception"]).filter goodWord ++ (vx_atS RX5 129 "java/lang/IllegalStateException" ["java/lang/RuntimeException", "java/lang/Exception"]).filter goodWord
def wsL_c1_1 : List Cond := [Cond.classLink RL 11 RX5, Cond.instantiable RX5 10, Cond.initialized RX5, Cond.arrayClass .int, Cond.constant RL 55 (1000000), Cond.constant RL 127 (1073741824), Cond.methodLink RL 144 yX5_init, Cond.instanceMethod yX5_init, Cond.code yX5_init cX5_init 2 none, Cond.methodLink RX5 1 objectInit, Cond.instanceMethod objectInit, Cond.code objectInit ⟨#[0xb1]⟩ 1 none, Cond.classLink RX5 9 RX4, Cond.fieldLink RX5 11 "Amoebary" "polynomials" "[LAmoebary$Polynomial;", Cond.classLink RX5 15 RX2, Cond.fieldLink RX5 17 "Amoebary" "matrices" "[LAmoebary$Matrix;"]
set_option maxRecDepth 20000 in
theorem wsL_j1_1 : ∀ w ∈ wsL_c1_1, w ∈ lw_tbl := fun w h => (goodIn_p wsL_c1_1 [38, 41] (by decide +kernel) (by decide +kernel) w h).1
def wsL_c1_2 : List Cond := [Cond.classLink RX5 21 "[[I", Cond.fieldLink RX5 23 "Amoebary" "vectors" "[[I", Cond.classLink RX5 26 RX3, Cond.instantiable RX3 5, Cond.initialized RX3, Cond.fieldLink RX5 29 "Amoebary" "net" "LAmoebary$Net;", Cond.instantiable RX4 1, Cond.initialized RX4]
set_option maxRecDepth 20000 in
theorem wsL_j1_2 : ∀ w ∈ wsL_c1_2, w ∈ lw_tbl := fun w h => (goodIn_p wsL_c1_2 [] (by decide +kernel) (by decide +kernel) w h).1
theorem wsL_e1 : wsL_law0_r1 = (wsL_c1_1 ++ wsL_c1_2) := rfl
theorem wsL_i1 : ∀ w ∈ wsL_law0_r1, w ∈ lw_tbl := fun w h => by
  rw [wsL_e1] at h
  exact (List.mem_append.mp h).elim (wsL_j1_1 w) (wsL_j1_2 w)
def wsL_c2_1 : List Cond := [Cond.fieldLink RX5 34 "Amoebary" "polynomialDraft" "LAmoebary$Polynomial;", Cond.instantiable RX2 2, Cond.initialized RX2, Cond.fieldLink RX5 39 "Amoebary" "matrixDraft" "LAmoebary$Matrix;", Cond.fieldLink RX5 43 "Amoebary" "longerDraft" "LAmoebary$Matrix;", Cond.fieldLink RX5 46 "Amoebary" "vectorDraft" "[I", Cond.classLink RX5 50 RX1, Cond.instantiable RX1 2, Cond.initialized RX1, Cond.fieldLink RX5 53 "Amoebary" "fraction" "LAmoebary$Fraction;", Cond.classLink RX5 57 RX0, Cond.instantiable RX0 2, Cond.initialized RX0, Cond.fieldLink RX5 60 "Amoebary" "choices" "LAmoebary$Choices;", Cond.instanceMethod yX3_init, Cond.code yX3_init cX3_init 1 none]
set_option maxRecDepth 20000 in
theorem wsL_j2_1 : ∀ w ∈ wsL_c2_1, w ∈ lw_tbl := fun w h => (goodIn_p wsL_c2_1 [52] (by decide +kernel) (by decide +kernel) w h).1
def wsL_c2_2 : List Cond := [Cond.methodLink RX3 3 objectInit, Cond.classLink RX3 9 "[[I", Cond.fieldLink RX3 11 "Amoebary$Net" "between" "[[I", Cond.fieldLink RX3 16 "Amoebary$Net" "chips" "[I", Cond.fieldLink RX3 20 "Amoebary$Net" "near" "[I", Cond.fieldLink RX3 23 "Amoebary$Net" "piles" "[[I", Cond.fieldLink RX3 26 "Amoebary$Net" "minors" "[[I", Cond.methodLink RX5 33 yX4_init]
set_option maxRecDepth 20000 in
theorem wsL_j2_2 : ∀ w ∈ wsL_c2_2, w ∈ lw_tbl := fun w h => (goodIn_p wsL_c2_2 [] (by decide +kernel) (by decide +kernel) w h).1
theorem wsL_e2 : wsL_law0_r2 = (wsL_c2_1 ++ wsL_c2_2) := rfl
theorem wsL_i2 : ∀ w ∈ wsL_law0_r2, w ∈ lw_tbl := fun w h => by
  rw [wsL_e2] at h
  exact (List.mem_append.mp h).elim (wsL_j2_1 w) (wsL_j2_2 w)
def wsL_c3_1 : List Cond := [Cond.instanceMethod yX4_init, Cond.code yX4_init cX4_init 1 none, Cond.methodLink RX4 3 objectInit, Cond.fieldLink RX4 9 "Amoebary$Polynomial" "coefficients" "[I", Cond.constant RX4 15 (1000000), Cond.methodLink RX4 16 yJ7_fill_53178, Cond.static yJ7_fill_53178, Cond.initialized RJ7, Cond.code yJ7_fill_53178 cJ7_fill_53178 4 none, Cond.methodLink RX5 38 yX2_init, Cond.instanceMethod yX2_init, Cond.code yX2_init cX2_init 1 none, Cond.methodLink RX2 3 objectInit, Cond.classLink RX2 9 "[[I", Cond.fieldLink RX2 11 "Amoebary$Matrix" "entries" "[[I", Cond.methodLink RX2 16 yX2_becomeEmpty]
set_option maxRecDepth 20000 in
theorem wsL_j3_1 : ∀ w ∈ wsL_c3_1, w ∈ lw_tbl := fun w h => (goodIn_p wsL_c3_1 [77, 82, 91] (by decide +kernel) (by decide +kernel) w h).1
def wsL_c3_2 : List Cond := [Cond.instanceMethod yX2_becomeEmpty, Cond.selects RX2 yX2_becomeEmpty yX2_becomeEmpty, Cond.code yX2_becomeEmpty cX2_becomeEmpty 3 none, Cond.fieldLink RX2 20 "Amoebary$Matrix" "rows" "I", Cond.constant RX2 24 (1000000), Cond.methodLink RX2 25 yJ7_fill_53178, Cond.instanceMethod yX1_init, Cond.code yX1_init cX1_init 1 none]
set_option maxRecDepth 20000 in
theorem wsL_j3_2 : ∀ w ∈ wsL_c3_2, w ∈ lw_tbl := fun w h => (goodIn_p wsL_c3_2 [97, 115] (by decide +kernel) (by decide +kernel) w h).1
theorem wsL_e3 : wsL_law0_r3 = (wsL_c3_1 ++ wsL_c3_2) := rfl
theorem wsL_i3 : ∀ w ∈ wsL_law0_r3, w ∈ lw_tbl := fun w h => by
  rw [wsL_e3] at h
  exact (List.mem_append.mp h).elim (wsL_j3_1 w) (wsL_j3_2 w)
def wsL_c4_1 : List Cond := [Cond.methodLink RX1 3 objectInit, Cond.instanceMethod yX0_init, Cond.code yX0_init cX0_init 1 none, Cond.methodLink RX0 3 objectInit, Cond.fieldLink RX0 9 "Amoebary$Choices" "sums" "[I", Cond.fieldLink RX0 15 "Amoebary$Choices" "counts" "[I", Cond.methodLink RL 94 yL_draw, Cond.static yL_draw, Cond.initialized RL]
set_option maxRecDepth 20000 in
theorem wsL_j4_1 : ∀ w ∈ wsL_c4_1, w ∈ lw_tbl := fun w h => (goodIn_p wsL_c4_1 [130] (by decide +kernel) (by decide +kernel) w h).1
def wsL_c4_2 : List Cond := [Cond.code yL_draw cL_draw 4 (some .int)]
set_option maxRecDepth 20000 in
theorem wsL_p4_2 : lw_tbl[172]? = some (Cond.code yL_draw cL_draw 4 (some .int)) := rfl
theorem wsL_j4_2 : ∀ w ∈ wsL_c4_2, w ∈ lw_tbl := fun w h => by
  rw [List.mem_singleton.mp h]
  exact List.mem_of_getElem? wsL_p4_2
def wsL_c4_3 : List Cond := [Cond.constant RL 7 (1070327761), Cond.constant RL 8 (799912421), Cond.constant RL 9 (2147483647), Cond.methodLink RL 145 yL_polys, Cond.static yL_polys]
set_option maxRecDepth 20000 in
theorem wsL_j4_3 : ∀ w ∈ wsL_c4_3, w ∈ lw_tbl := fun w h => (goodIn_p wsL_c4_3 [] (by decide +kernel) (by decide +kernel) w h).1
def wsL_c4_4 : List Cond := [Cond.code yL_polys cL_polys 15 (some .boolean)]
set_option maxRecDepth 20000 in
theorem wsL_p4_4 : lw_tbl[605]? = some (Cond.code yL_polys cL_polys 15 (some .boolean)) := rfl
theorem wsL_j4_4 : ∀ w ∈ wsL_c4_4, w ∈ lw_tbl := fun w h => by
  rw [List.mem_singleton.mp h]
  exact List.mem_of_getElem? wsL_p4_4
def wsL_c4_5 : List Cond := [Cond.constant RL 52 (-70008), Cond.methodLink RL 74 yX5_coefficient, Cond.instanceMethod yX5_coefficient, Cond.selects RX5 yX5_coefficient yX5_coefficient, Cond.code yX5_coefficient cX5_coefficient 5 (some .int), Cond.methodLink RX5 64 yX5_needHeld, Cond.static yX5_needHeld, Cond.code yX5_needHeld cX5_needHeld 1 none]
set_option maxRecDepth 20000 in
theorem wsL_j4_5 : ∀ w ∈ wsL_c4_5, w ∈ lw_tbl := fun w h => (goodIn_p wsL_c4_5 [609, 185] (by decide +kernel) (by decide +kernel) w h).1
theorem wsL_e4 : wsL_law0_r4 = (wsL_c4_1 ++ (wsL_c4_2 ++ (wsL_c4_3 ++ (wsL_c4_4 ++ wsL_c4_5)))) := rfl
theorem wsL_i4 : ∀ w ∈ wsL_law0_r4, w ∈ lw_tbl := fun w h => by
  rw [wsL_e4] at h
  exact (List.mem_append.mp h).elim (wsL_j4_1 w) (fun h => (List.mem_append.mp h).elim (wsL_j4_2 w) (fun h => (List.mem_append.mp h).elim (wsL_j4_3 w) (fun h => (List.mem_append.mp h).elim (wsL_j4_4 w) (wsL_j4_5 w))))
def wsL_c5_1 : List Cond := [Cond.methodLink RX5 68 yX5_needIndex, Cond.static yX5_needIndex, Cond.code yX5_needIndex cX5_needIndex 2 none, Cond.classLink RX5 294 "java/lang/IndexOutOfBoundsException", Cond.initialized "java/lang/IndexOutOfBoundsException", Cond.methodLink RX5 72 yX5_needGiven, Cond.static yX5_needGiven, Cond.code yX5_needGiven cX5_needGiven 1 none, Cond.constant RX5 301 (1000000), Cond.methodLink RX5 78 yX5_needWithin, Cond.static yX5_needWithin, Cond.code yX5_needWithin cX5_needWithin 3 none, Cond.classLink RX5 224 "java/lang/IllegalArgumentException", Cond.initialized "java/lang/IllegalArgumentException", Cond.methodLink RL 77 yX5_value, Cond.instanceMethod yX5_value]
set_option maxRecDepth 20000 in
theorem wsL_j5_1 : ∀ w ∈ wsL_c5_1, w ∈ lw_tbl := fun w h => (goodIn_p wsL_c5_1 [188, 612, 558] (by decide +kernel) (by decide +kernel) w h).1
def wsL_c5_2 : List Cond := [Cond.selects RX5 yX5_value yX5_value, Cond.code yX5_value cX5_value 3 (some .int), Cond.methodLink RX5 82 yX4_leastAt, Cond.instanceMethod yX4_leastAt, Cond.selects RX4 yX4_leastAt yX4_leastAt, Cond.code yX4_leastAt cX4_leastAt 4 (some .int), Cond.methodLink RX4 26 Lib.Math.min.name, Cond.static Lib.Math.min.name]
set_option maxRecDepth 20000 in
theorem wsL_j5_2 : ∀ w ∈ wsL_c5_2, w ∈ lw_tbl := fun w h => (goodIn_p wsL_c5_2 [616, 620] (by decide +kernel) (by decide +kernel) w h).1
theorem wsL_e5 : wsL_law0_r5 = (wsL_c5_1 ++ wsL_c5_2) := rfl
theorem wsL_i5 : ∀ w ∈ wsL_law0_r5, w ∈ lw_tbl := fun w h => by
  rw [wsL_e5] at h
  exact (List.mem_append.mp h).elim (wsL_j5_1 w) (wsL_j5_2 w)
def wsL_c6_1 : List Cond := [Cond.initialized "java/lang/Math", Cond.code Lib.Math.min.name Lib.Math.min.code 2 (some .int), Cond.methodLink RX4 22 yX4_hasTerm, Cond.instanceMethod yX4_hasTerm, Cond.selects RX4 yX4_hasTerm yX4_hasTerm, Cond.code yX4_hasTerm cX4_hasTerm 2 (some .boolean), Cond.methodLink RL 68 yL_lesser, Cond.static yL_lesser]
set_option maxRecDepth 20000 in
theorem wsL_j6_1 : ∀ w ∈ wsL_c6_1, w ∈ lw_tbl := fun w h => (goodIn_p wsL_c6_1 [319, 268] (by decide +kernel) (by decide +kernel) w h).1
def wsL_c6_2 : List Cond := [Cond.code yL_lesser cL_lesser 2 (some .int)]
set_option maxRecDepth 20000 in
theorem wsL_p6_2 : lw_tbl[594]? = some (Cond.code yL_lesser cL_lesser 2 (some .int)) := rfl
theorem wsL_j6_2 : ∀ w ∈ wsL_c6_2, w ∈ lw_tbl := fun w h => by
  rw [List.mem_singleton.mp h]
  exact List.mem_of_getElem? wsL_p6_2
def wsL_c6_3 : List Cond := [Cond.methodLink RL 80 yX5_sum, Cond.instanceMethod yX5_sum, Cond.selects RX5 yX5_sum yX5_sum, Cond.code yX5_sum cX5_sum 4 (some .int), Cond.methodLink RX5 111 yX4_becomeLesser, Cond.instanceMethod yX4_becomeLesser, Cond.selects RX4 yX4_becomeLesser yX4_becomeLesser, Cond.code yX4_becomeLesser cX4_becomeLesser 4 none, Cond.methodLink RX5 115 yX4_becomeCopy, Cond.instanceMethod yX4_becomeCopy, Cond.selects RX4 yX4_becomeCopy yX4_becomeCopy, Cond.code yX4_becomeCopy cX4_becomeCopy 2 none, Cond.methodLink RX4 45 arraycopyName, Cond.native arraycopyName, Cond.static arraycopyName]
set_option maxRecDepth 20000 in
theorem wsL_j6_3 : ∀ w ∈ wsL_c6_3, w ∈ lw_tbl := fun w h => (goodIn_p wsL_c6_3 [624, 628, 331] (by decide +kernel) (by decide +kernel) w h).1
theorem wsL_e6 : wsL_law0_r6 = (wsL_c6_1 ++ (wsL_c6_2 ++ wsL_c6_3)) := rfl
theorem wsL_i6 : ∀ w ∈ wsL_law0_r6, w ∈ lw_tbl := fun w h => by
  rw [wsL_e6] at h
  exact (List.mem_append.mp h).elim (wsL_j6_1 w) (fun h => (List.mem_append.mp h).elim (wsL_j6_2 w) (wsL_j6_3 w))
def wsL_c7_1 : List Cond := [Cond.initialized "java/lang/System", Cond.methodLink RX5 119 yX4_countTerms, Cond.instanceMethod yX4_countTerms, Cond.selects RX4 yX4_countTerms yX4_countTerms, Cond.code yX4_countTerms cX4_countTerms 3 (some .int), Cond.methodLink RL 83 yL_plus, Cond.static yL_plus]
set_option maxRecDepth 20000 in
theorem wsL_j7_1 : ∀ w ∈ wsL_c7_1, w ∈ lw_tbl := fun w h => (goodIn_p wsL_c7_1 [338] (by decide +kernel) (by decide +kernel) w h).1
def wsL_c7_2 : List Cond := [Cond.code yL_plus cL_plus 2 (some .int)]
set_option maxRecDepth 20000 in
theorem wsL_p7_2 : lw_tbl[631]? = some (Cond.code yL_plus cL_plus 2 (some .int)) := rfl
theorem wsL_j7_2 : ∀ w ∈ wsL_c7_2, w ∈ lw_tbl := fun w h => by
  rw [List.mem_singleton.mp h]
  exact List.mem_of_getElem? wsL_p7_2
def wsL_c7_3 : List Cond := [Cond.methodLink RL 59 yL_asks, Cond.static yL_asks, Cond.codeWith yL_asks cL_asks 6 (some .int) [(0, 155, 156, 47), (0, 155, 161, 50)], Cond.classLink RL 47 "java/lang/IndexOutOfBoundsException", Cond.classLink RL 50 "java/lang/IllegalStateException", Cond.constant RL 49 (-70007), Cond.methodLink RL 10 yX5_product, Cond.instanceMethod yX5_product, Cond.selects RX5 yX5_product yX5_product, Cond.code yX5_product cX5_product 4 (some .int), Cond.classLink RX5 125 "java/lang/IllegalStateException", Cond.initialized "java/lang/IllegalStateException", Cond.methodLink RX5 122 yX4_fitsWith, Cond.instanceMethod yX4_fitsWith, Cond.selects RX4 yX4_fitsWith yX4_fitsWith, Cond.code yX4_fitsWith cX4_fitsWith 4 (some .boolean)]
set_option maxRecDepth 20000 in
theorem wsL_j7_3 : ∀ w ∈ wsL_c7_3, w ∈ lw_tbl := fun w h => (goodIn_p wsL_c7_3 [288, 292] (by decide +kernel) (by decide +kernel) w h).1
theorem wsL_e7 : wsL_law0_r7 = (wsL_c7_1 ++ (wsL_c7_2 ++ wsL_c7_3)) := rfl
theorem wsL_i7 : ∀ w ∈ wsL_law0_r7, w ∈ lw_tbl := fun w h => by
  rw [wsL_e7] at h
  exact (List.mem_append.mp h).elim (wsL_j7_1 w) (fun h => (List.mem_append.mp h).elim (wsL_j7_2 w) (wsL_j7_3 w))
def wsL_c8_1 : List Cond := [Cond.methodLink RX5 132 yX4_becomeProduct, Cond.instanceMethod yX4_becomeProduct, Cond.selects RX4 yX4_becomeProduct yX4_becomeProduct, Cond.code yX4_becomeProduct cX4_becomeProduct 6 none, Cond.static yX5_together, Cond.code yX5_together cX5_together 2 (some .int), Cond.methodLink RX5 135 yX4_isWithinLimit, Cond.instanceMethod yX4_isWithinLimit, Cond.selects RX4 yX4_isWithinLimit yX4_isWithinLimit, Cond.code yX4_isWithinLimit cX4_isWithinLimit 2 (some .boolean), Cond.static yX5_isBeyond, Cond.code yX5_isBeyond cX5_isBeyond 2 (some .boolean), Cond.methodLink RL 16 yX5_multiply, Cond.instanceMethod yX5_multiply, Cond.selects RX5 yX5_multiply yX5_multiply, Cond.code yX5_multiply cX5_multiply 4 (some .int)]
set_option maxRecDepth 20000 in
theorem wsL_j8_1 : ∀ w ∈ wsL_c8_1, w ∈ lw_tbl := fun w h => (goodIn_p wsL_c8_1 [312, 315, 323, 326, 342] (by decide +kernel) (by decide +kernel) w h).1
def wsL_c8_2 : List Cond := [Cond.methodLink RX5 155 yX2_becomeProduct, Cond.instanceMethod yX2_becomeProduct, Cond.selects RX2 yX2_becomeProduct yX2_becomeProduct, Cond.code yX2_becomeProduct cX2_becomeProduct 7 none, Cond.methodLink RX2 50 Lib.Math.min.name, Cond.methodLink RX5 158 yX5_keepMatrixDraft, Cond.instanceMethod yX5_keepMatrixDraft, Cond.selects RX5 yX5_keepMatrixDraft yX5_keepMatrixDraft]
set_option maxRecDepth 20000 in
theorem wsL_j8_2 : ∀ w ∈ wsL_c8_2, w ∈ lw_tbl := fun w h => (goodIn_p wsL_c8_2 [347] (by decide +kernel) (by decide +kernel) w h).1
theorem wsL_e8 : wsL_law0_r8 = (wsL_c8_1 ++ wsL_c8_2) := rfl
theorem wsL_i8 : ∀ w ∈ wsL_law0_r8, w ∈ lw_tbl := fun w h => by
  rw [wsL_e8] at h
  exact (List.mem_append.mp h).elim (wsL_j8_1 w) (wsL_j8_2 w)
def wsL_c9_1 : List Cond := [Cond.code yX5_keepMatrixDraft cX5_keepMatrixDraft 2 (some .int), Cond.methodLink RX5 313 yX2_isWithinLimit, Cond.instanceMethod yX2_isWithinLimit, Cond.selects RX2 yX2_isWithinLimit yX2_isWithinLimit, Cond.code yX2_isWithinLimit cX2_isWithinLimit 3 (some .boolean), Cond.constant RX2 41 (99999), Cond.methodLink RX5 161 yX2_becomeCopy, Cond.instanceMethod yX2_becomeCopy, Cond.selects RX2 yX2_becomeCopy yX2_becomeCopy, Cond.code yX2_becomeCopy cX2_becomeCopy 3 none, Cond.methodLink RX2 31 arraycopyName, Cond.methodLink RX5 316 yX2_countNumbers, Cond.instanceMethod yX2_countNumbers, Cond.selects RX2 yX2_countNumbers yX2_countNumbers, Cond.code yX2_countNumbers cX2_countNumbers 4 (some .int), Cond.methodLink RL 19 yX5_star]
set_option maxRecDepth 20000 in
theorem wsL_j9_1 : ∀ w ∈ wsL_c9_1, w ∈ lw_tbl := fun w h => (goodIn_p wsL_c9_1 [353, 357, 364, 369] (by decide +kernel) (by decide +kernel) w h).1
def wsL_c9_2 : List Cond := [Cond.instanceMethod yX5_star, Cond.selects RX5 yX5_star yX5_star, Cond.code yX5_star cX5_star 3 (some .int), Cond.methodLink RX5 164 yX2_closeWays, Cond.instanceMethod yX2_closeWays, Cond.selects RX2 yX2_closeWays yX2_closeWays, Cond.code yX2_closeWays cX2_closeWays 5 none, Cond.methodLink RX5 167 yX2_comesBackBelowZero]
set_option maxRecDepth 20000 in
theorem wsL_j9_2 : ∀ w ∈ wsL_c9_2, w ∈ lw_tbl := fun w h => (goodIn_p wsL_c9_2 [373, 377] (by decide +kernel) (by decide +kernel) w h).1
theorem wsL_e9 : wsL_law0_r9 = (wsL_c9_1 ++ wsL_c9_2) := rfl
theorem wsL_i9 : ∀ w ∈ wsL_law0_r9, w ∈ lw_tbl := fun w h => by
  rw [wsL_e9] at h
  exact (List.mem_append.mp h).elim (wsL_j9_1 w) (wsL_j9_2 w)
def wsL_c10_1 : List Cond := [Cond.instanceMethod yX2_comesBackBelowZero, Cond.selects RX2 yX2_comesBackBelowZero yX2_comesBackBelowZero, Cond.code yX2_comesBackBelowZero cX2_comesBackBelowZero 2 (some .boolean), Cond.methodLink RL 23 yX5_solve, Cond.instanceMethod yX5_solve, Cond.selects RX5 yX5_solve yX5_solve, Cond.code yX5_solve cX5_solve 6 (some .boolean), Cond.methodLink RX5 200 arraycopyName, Cond.methodLink RX5 182 yX5_hasNumbers, Cond.static yX5_hasNumbers, Cond.code yX5_hasNumbers cX5_hasNumbers 3 (some .boolean), Cond.methodLink RX5 188 yX2_putSolution, Cond.instanceMethod yX2_putSolution, Cond.selects RX2 yX2_putSolution yX2_putSolution, Cond.code yX2_putSolution cX2_putSolution 7 none, Cond.methodLink RX2 55 Lib.Math.max.name]
set_option maxRecDepth 20000 in
theorem wsL_j10_1 : ∀ w ∈ wsL_c10_1, w ∈ lw_tbl := fun w h => (goodIn_p wsL_c10_1 [381, 386, 389, 394] (by decide +kernel) (by decide +kernel) w h).1
def wsL_c10_2 : List Cond := [Cond.static Lib.Math.max.name, Cond.code Lib.Math.max.name Lib.Math.max.code 2 (some .int), Cond.methodLink RX5 192 yX5_needPartsWithinLimit, Cond.static yX5_needPartsWithinLimit, Cond.code yX5_needPartsWithinLimit cX5_needPartsWithinLimit 3 none, Cond.constant RX5 302 (99999), Cond.methodLink RX5 303 yX5_isBeyond, Cond.methodLink RX5 196 yX2_leadsTo]
set_option maxRecDepth 20000 in
theorem wsL_j10_2 : ∀ w ∈ wsL_c10_2, w ∈ lw_tbl := fun w h => (goodIn_p wsL_c10_2 [279, 398] (by decide +kernel) (by decide +kernel) w h).1
theorem wsL_e10 : wsL_law0_r10 = (wsL_c10_1 ++ wsL_c10_2) := rfl
theorem wsL_i10 : ∀ w ∈ wsL_law0_r10, w ∈ lw_tbl := fun w h => by
  rw [wsL_e10] at h
  exact (List.mem_append.mp h).elim (wsL_j10_1 w) (wsL_j10_2 w)
def wsL_c11_1 : List Cond := [Cond.instanceMethod yX2_leadsTo, Cond.selects RX2 yX2_leadsTo yX2_leadsTo, Cond.code yX2_leadsTo cX2_leadsTo 6 (some .boolean), Cond.methodLink RL 27 yX5_project, Cond.instanceMethod yX5_project, Cond.selects RX5 yX5_project yX5_project, Cond.code yX5_project cX5_project 6 (some .boolean), Cond.methodLink RX5 206 yX2_hasNumbersAlone, Cond.instanceMethod yX2_hasNumbersAlone, Cond.selects RX2 yX2_hasNumbersAlone yX2_hasNumbersAlone, Cond.code yX2_hasNumbersAlone cX2_hasNumbersAlone 1 (some .boolean), Cond.methodLink RX2 37 yX2_countNumbers, Cond.methodLink RX5 211 yX2_putProjection, Cond.instanceMethod yX2_putProjection, Cond.selects RX2 yX2_putProjection yX2_putProjection, Cond.code yX2_putProjection cX2_putProjection 7 none]
set_option maxRecDepth 20000 in
theorem wsL_j11_1 : ∀ w ∈ wsL_c11_1, w ∈ lw_tbl := fun w h => (goodIn_p wsL_c11_1 [405, 410, 414, 420] (by decide +kernel) (by decide +kernel) w h).1
def wsL_c11_2 : List Cond := [Cond.methodLink RX2 58 yX2_shiftOf, Cond.instanceMethod yX2_shiftOf, Cond.selects RX2 yX2_shiftOf yX2_shiftOf, Cond.code yX2_shiftOf cX2_shiftOf 5 (some .int), Cond.methodLink RX5 214 yX5_areAlike, Cond.static yX5_areAlike, Cond.code yX5_areAlike cX5_areAlike 4 (some .boolean), Cond.methodLink RL 30 yX5_rank]
set_option maxRecDepth 20000 in
theorem wsL_j11_2 : ∀ w ∈ wsL_c11_2, w ∈ lw_tbl := fun w h => (goodIn_p wsL_c11_2 [424, 427] (by decide +kernel) (by decide +kernel) w h).1
theorem wsL_e11 : wsL_law0_r11 = (wsL_c11_1 ++ wsL_c11_2) := rfl
theorem wsL_i11 : ∀ w ∈ wsL_law0_r11, w ∈ lw_tbl := fun w h => by
  rw [wsL_e11] at h
  exact (List.mem_append.mp h).elim (wsL_j11_1 w) (wsL_j11_2 w)
def wsL_c12_1 : List Cond := [Cond.instanceMethod yX5_rank, Cond.selects RX5 yX5_rank yX5_rank, Cond.code yX5_rank cX5_rank 1 (some .int), Cond.methodLink RX5 256 yX5_needConnected, Cond.instanceMethod yX5_needConnected, Cond.selects RX5 yX5_needConnected yX5_needConnected, Cond.code yX5_needConnected cX5_needConnected 1 none, Cond.methodLink RX5 284 yX3_isConnected, Cond.instanceMethod yX3_isConnected, Cond.selects RX3 yX3_isConnected yX3_isConnected, Cond.code yX3_isConnected cX3_isConnected 2 (some .boolean), Cond.methodLink RX3 57 yX3_spreadFrom, Cond.instanceMethod yX3_spreadFrom, Cond.selects RX3 yX3_spreadFrom yX3_spreadFrom, Cond.code yX3_spreadFrom cX3_spreadFrom 4 none, Cond.methodLink RX3 39 yX3_countEdgesInto]
set_option maxRecDepth 20000 in
theorem wsL_j12_1 : ∀ w ∈ wsL_c12_1, w ∈ lw_tbl := fun w h => (goodIn_p wsL_c12_1 [431, 435, 439, 443] (by decide +kernel) (by decide +kernel) w h).1
def wsL_c12_2 : List Cond := [Cond.instanceMethod yX3_countEdgesInto, Cond.selects RX3 yX3_countEdgesInto yX3_countEdgesInto, Cond.code yX3_countEdgesInto cX3_countEdgesInto 5 (some .int), Cond.methodLink RX3 43 yX3_hasVertex, Cond.instanceMethod yX3_hasVertex, Cond.selects RX3 yX3_hasVertex yX3_hasVertex, Cond.code yX3_hasVertex cX3_hasVertex 2 (some .boolean), Cond.methodLink RX3 35 yX3_allVertices]
set_option maxRecDepth 20000 in
theorem wsL_j12_2 : ∀ w ∈ wsL_c12_2, w ∈ lw_tbl := fun w h => (goodIn_p wsL_c12_2 [447, 451] (by decide +kernel) (by decide +kernel) w h).1
theorem wsL_e12 : wsL_law0_r12 = (wsL_c12_1 ++ wsL_c12_2) := rfl
theorem wsL_i12 : ∀ w ∈ wsL_law0_r12, w ∈ lw_tbl := fun w h => by
  rw [wsL_e12] at h
  exact (List.mem_append.mp h).elim (wsL_j12_1 w) (wsL_j12_2 w)
def wsL_c13_1 : List Cond := [Cond.instanceMethod yX3_allVertices, Cond.selects RX3 yX3_allVertices yX3_allVertices, Cond.code yX3_allVertices cX3_allVertices 1 (some .int), Cond.methodLink RX3 61 yX3_has, Cond.instanceMethod yX3_has, Cond.selects RX3 yX3_has yX3_has, Cond.code yX3_has cX3_has 3 (some .boolean), Cond.methodLink RX5 235 yX3_copyChips, Cond.instanceMethod yX3_copyChips, Cond.selects RX3 yX3_copyChips yX3_copyChips, Cond.code yX3_copyChips cX3_copyChips 1 none, Cond.methodLink RX3 29 arraycopyName, Cond.methodLink RX5 266 yX5_needRanked, Cond.instanceMethod yX5_needRanked, Cond.selects RX5 yX5_needRanked yX5_needRanked, Cond.code yX5_needRanked cX5_needRanked 1 none]
set_option maxRecDepth 20000 in
theorem wsL_j13_1 : ∀ w ∈ wsL_c13_1, w ∈ lw_tbl := fun w h => (goodIn_p wsL_c13_1 [455, 459, 464, 469] (by decide +kernel) (by decide +kernel) w h).1
def wsL_c13_2 : List Cond := [Cond.methodLink RX5 238 yX3_startPile, Cond.instanceMethod yX3_startPile, Cond.selects RX3 yX3_startPile yX3_startPile, Cond.code yX3_startPile cX3_startPile 1 (some (.array .int)), Cond.methodLink RX5 287 yX3_degree, Cond.instanceMethod yX3_degree, Cond.selects RX3 yX3_degree yX3_degree, Cond.code yX3_degree cX3_degree 4 (some .int)]
set_option maxRecDepth 20000 in
theorem wsL_j13_2 : ∀ w ∈ wsL_c13_2, w ∈ lw_tbl := fun w h => (goodIn_p wsL_c13_2 [473, 477] (by decide +kernel) (by decide +kernel) w h).1
theorem wsL_e13 : wsL_law0_r13 = (wsL_c13_1 ++ wsL_c13_2) := rfl
theorem wsL_i13 : ∀ w ∈ wsL_law0_r13, w ∈ lw_tbl := fun w h => by
  rw [wsL_e13] at h
  exact (List.mem_append.mp h).elim (wsL_j13_1 w) (wsL_j13_2 w)
def wsL_c14_1 : List Cond := [Cond.methodLink RX5 269 yX3_rankOfStart, Cond.instanceMethod yX3_rankOfStart, Cond.selects RX3 yX3_rankOfStart yX3_rankOfStart, Cond.code yX3_rankOfStart cX3_rankOfStart 2 (some .int), Cond.methodLink RX3 86 Lib.Math.max.name, Cond.methodLink RX3 92 yX3_reduce, Cond.instanceMethod yX3_reduce, Cond.selects RX3 yX3_reduce yX3_reduce, Cond.code yX3_reduce cX3_reduce 4 none, Cond.constant RX3 68 (1000000), Cond.methodLink RX3 64 yX3_payDebts, Cond.instanceMethod yX3_payDebts, Cond.selects RX3 yX3_payDebts yX3_payDebts, Cond.code yX3_payDebts cX3_payDebts 6 none, Cond.methodLink RX3 81 yJ9_floorDiv_7cf53, Cond.static yJ9_floorDiv_7cf53]
set_option maxRecDepth 20000 in
theorem wsL_j14_1 : ∀ w ∈ wsL_c14_1, w ∈ lw_tbl := fun w h => (goodIn_p wsL_c14_1 [482, 486, 490] (by decide +kernel) (by decide +kernel) w h).1
def wsL_c14_2 : List Cond := [Cond.initialized RJ9, Cond.code yJ9_floorDiv_7cf53 cJ9_floorDiv_7cf53 3 (some .int), Cond.methodLink RX3 77 yX3_fireSet, Cond.instanceMethod yX3_fireSet, Cond.selects RX3 yX3_fireSet yX3_fireSet, Cond.code yX3_fireSet cX3_fireSet 5 none, Cond.methodLink RX3 69 yX3_findUnburnt, Cond.instanceMethod yX3_findUnburnt]
set_option maxRecDepth 20000 in
theorem wsL_j14_2 : ∀ w ∈ wsL_c14_2, w ∈ lw_tbl := fun w h => (goodIn_p wsL_c14_2 [493, 498] (by decide +kernel) (by decide +kernel) w h).1
theorem wsL_e14 : wsL_law0_r14 = (wsL_c14_1 ++ wsL_c14_2) := rfl
theorem wsL_i14 : ∀ w ∈ wsL_law0_r14, w ∈ lw_tbl := fun w h => by
  rw [wsL_e14] at h
  exact (List.mem_append.mp h).elim (wsL_j14_1 w) (wsL_j14_2 w)
def wsL_c15_1 : List Cond := [Cond.selects RX3 yX3_findUnburnt yX3_findUnburnt, Cond.code yX3_findUnburnt cX3_findUnburnt 6 (some .int), Cond.methodLink RX3 73 yX3_timesThatCanFire, Cond.instanceMethod yX3_timesThatCanFire, Cond.selects RX3 yX3_timesThatCanFire yX3_timesThatCanFire, Cond.code yX3_timesThatCanFire cX3_timesThatCanFire 6 (some .int), Cond.methodLink RX3 89 Lib.Math.min.name, Cond.methodLink RX3 95 yX3_degree, Cond.methodLink RX3 98 yX3_genus, Cond.instanceMethod yX3_genus, Cond.selects RX3 yX3_genus yX3_genus, Cond.code yX3_genus cX3_genus 1 (some .int), Cond.methodLink RX3 47 yX3_countEdges, Cond.instanceMethod yX3_countEdges, Cond.selects RX3 yX3_countEdges yX3_countEdges, Cond.code yX3_countEdges cX3_countEdges 3 (some .int)]
set_option maxRecDepth 20000 in
theorem wsL_j15_1 : ∀ w ∈ wsL_c15_1, w ∈ lw_tbl := fun w h => (goodIn_p wsL_c15_1 [503, 507, 513, 517] (by decide +kernel) (by decide +kernel) w h).1
def wsL_c15_2 : List Cond := [Cond.methodLink RX3 50 yX3_countVertices, Cond.instanceMethod yX3_countVertices, Cond.selects RX3 yX3_countVertices yX3_countVertices, Cond.code yX3_countVertices cX3_countVertices 3 (some .int), Cond.methodLink RX3 101 yX3_leastWithTaken, Cond.static yX3_leastWithTaken, Cond.code yX3_leastWithTaken cX3_leastWithTaken 8 (some .int), Cond.methodLink RL 34 yX5_restRank]
set_option maxRecDepth 20000 in
theorem wsL_j15_2 : ∀ w ∈ wsL_c15_2, w ∈ lw_tbl := fun w h => (goodIn_p wsL_c15_2 [521, 524] (by decide +kernel) (by decide +kernel) w h).1
theorem wsL_e15 : wsL_law0_r15 = (wsL_c15_1 ++ wsL_c15_2) := rfl
theorem wsL_i15 : ∀ w ∈ wsL_law0_r15, w ∈ lw_tbl := fun w h => by
  rw [wsL_e15] at h
  exact (List.mem_append.mp h).elim (wsL_j15_1 w) (wsL_j15_2 w)
def wsL_c16_1 : List Cond := [Cond.instanceMethod yX5_restRank, Cond.selects RX5 yX5_restRank yX5_restRank, Cond.code yX5_restRank cX5_restRank 1 (some .int), Cond.methodLink RX5 272 yX3_copyRest, Cond.instanceMethod yX3_copyRest, Cond.selects RX3 yX3_copyRest yX3_copyRest, Cond.code yX3_copyRest cX3_copyRest 2 none, Cond.methodLink RL 37 yX5_reduced, Cond.instanceMethod yX5_reduced, Cond.selects RX5 yX5_reduced yX5_reduced, Cond.code yX5_reduced cX5_reduced 3 (some .int), Cond.methodLink RX5 251 yX3_hasVertex, Cond.methodLink RX5 259 yX3_spreadFrom, Cond.methodLink RX5 262 yX3_reduce, Cond.methodLink RL 40 yX5_fire, Cond.instanceMethod yX5_fire]
set_option maxRecDepth 20000 in
theorem wsL_j16_1 : ∀ w ∈ wsL_c16_1, w ∈ lw_tbl := fun w h => (goodIn_p wsL_c16_1 [528, 532, 536] (by decide +kernel) (by decide +kernel) w h).1
def wsL_c16_2 : List Cond := [Cond.selects RX5 yX5_fire yX5_fire, Cond.code yX5_fire cX5_fire 2 (some .int), Cond.methodLink RX5 242 yX3_fireSet, Cond.methodLink RX5 246 yX3_isWithinLimit, Cond.instanceMethod yX3_isWithinLimit, Cond.selects RX3 yX3_isWithinLimit yX3_isWithinLimit, Cond.code yX3_isWithinLimit cX3_isWithinLimit 3 (some .boolean), Cond.methodLink RL 44 yX5_root]
set_option maxRecDepth 20000 in
theorem wsL_j16_2 : ∀ w ∈ wsL_c16_2, w ∈ lw_tbl := fun w h => (goodIn_p wsL_c16_2 [544, 549] (by decide +kernel) (by decide +kernel) w h).1
theorem wsL_e16 : wsL_law0_r16 = (wsL_c16_1 ++ wsL_c16_2) := rfl
theorem wsL_i16 : ∀ w ∈ wsL_law0_r16, w ∈ lw_tbl := fun w h => by
  rw [wsL_e16] at h
  exact (List.mem_append.mp h).elim (wsL_j16_1 w) (wsL_j16_2 w)
def wsL_c17_1 : List Cond := [Cond.instanceMethod yX5_root, Cond.selects RX5 yX5_root yX5_root, Cond.code yX5_root cX5_root 7 (some .int), Cond.methodLink RX5 86 yX4_countGaps, Cond.instanceMethod yX4_countGaps, Cond.selects RX4 yX4_countGaps yX4_countGaps, Cond.code yX4_countGaps cX4_countGaps 3 (some .int), Cond.methodLink RX4 42 Lib.Math.max.name, Cond.methodLink RX4 39 yX4_hasCorner, Cond.instanceMethod yX4_hasCorner, Cond.selects RX4 yX4_hasCorner yX4_hasCorner, Cond.code yX4_hasCorner cX4_hasCorner 2 (some .boolean), Cond.methodLink RX4 36 yX4_hasSpare, Cond.instanceMethod yX4_hasSpare, Cond.selects RX4 yX4_hasSpare yX4_hasSpare, Cond.code yX4_hasSpare cX4_hasSpare 4 (some .boolean)]
set_option maxRecDepth 20000 in
theorem wsL_j17_1 : ∀ w ∈ wsL_c17_1, w ∈ lw_tbl := fun w h => (goodIn_p wsL_c17_1 [555, 260, 264, 272] (by decide +kernel) (by decide +kernel) w h).1
def wsL_c17_2 : List Cond := [Cond.methodLink RX4 32 yX4_isOnOrAbove, Cond.instanceMethod yX4_isOnOrAbove, Cond.selects RX4 yX4_isOnOrAbove yX4_isOnOrAbove, Cond.code yX4_isOnOrAbove cX4_isOnOrAbove 5 (some .boolean), Cond.methodLink RX5 90 yX4_cornerBelow, Cond.instanceMethod yX4_cornerBelow, Cond.selects RX4 yX4_cornerBelow yX4_cornerBelow, Cond.code yX4_cornerBelow cX4_cornerBelow 3 (some .int)]
set_option maxRecDepth 20000 in
theorem wsL_j17_2 : ∀ w ∈ wsL_c17_2, w ∈ lw_tbl := fun w h => (goodIn_p wsL_c17_2 [276, 578] (by decide +kernel) (by decide +kernel) w h).1
theorem wsL_e17 : wsL_law0_r17 = (wsL_c17_1 ++ wsL_c17_2) := rfl
theorem wsL_i17 : ∀ w ∈ wsL_law0_r17, w ∈ lw_tbl := fun w h => by
  rw [wsL_e17] at h
  exact (List.mem_append.mp h).elim (wsL_j17_1 w) (wsL_j17_2 w)
def wsL_c18_1 : List Cond := [Cond.methodLink RX5 93 yX1_become, Cond.instanceMethod yX1_become, Cond.selects RX1 yX1_become yX1_become, Cond.code yX1_become cX1_become 5 none, Cond.fieldLink RX1 9 "Amoebary$Fraction" "above" "I", Cond.fieldLink RX1 15 "Amoebary$Fraction" "below" "I", Cond.methodLink RL 71 yX5_areSame, Cond.instanceMethod yX5_areSame, Cond.selects RX5 yX5_areSame yX5_areSame, Cond.code yX5_areSame cX5_areSame 3 (some .boolean), Cond.methodLink RX5 107 yX4_hasCornersOf, Cond.instanceMethod yX4_hasCornersOf, Cond.selects RX4 yX4_hasCornersOf yX4_hasCornersOf, Cond.code yX4_hasCornersOf cX4_hasCornersOf 3 (some .boolean), Cond.methodLink RL 63 yX5_isSpare, Cond.instanceMethod yX5_isSpare]
set_option maxRecDepth 20000 in
theorem wsL_j18_1 : ∀ w ∈ wsL_c18_1, w ∈ lw_tbl := fun w h => (goodIn_p wsL_c18_1 [582, 598, 602] (by decide +kernel) (by decide +kernel) w h).1
def wsL_c18_2 : List Cond := [Cond.selects RX5 yX5_isSpare yX5_isSpare, Cond.code yX5_isSpare cX5_isSpare 3 (some .boolean), Cond.methodLink RX5 103 yX4_hasSpare, Cond.methodLink RL 56 yX5_roots, Cond.instanceMethod yX5_roots, Cond.selects RX5 yX5_roots yX5_roots, Cond.code yX5_roots cX5_roots 2 (some .int), Cond.methodLink RL 86 yL_valueOf]
set_option maxRecDepth 20000 in
theorem wsL_j18_2 : ∀ w ∈ wsL_c18_2, w ∈ lw_tbl := fun w h => (goodIn_p wsL_c18_2 [589, 182] (by decide +kernel) (by decide +kernel) w h).1
theorem wsL_e18 : wsL_law0_r18 = (wsL_c18_1 ++ wsL_c18_2) := rfl
theorem wsL_i18 : ∀ w ∈ wsL_law0_r18, w ∈ lw_tbl := fun w h => by
  rw [wsL_e18] at h
  exact (List.mem_append.mp h).elim (wsL_j18_1 w) (wsL_j18_2 w)
def wsL_c19_1 : List Cond := [Cond.static yL_valueOf]
set_option maxRecDepth 20000 in
theorem wsL_j19_1 : ∀ w ∈ wsL_c19_1, w ∈ lw_tbl := fun w h => (goodIn_p wsL_c19_1 [] (by decide +kernel) (by decide +kernel) w h).1
def wsL_c19_2 : List Cond := [Cond.code yL_valueOf cL_valueOf 5 (some .int)]
set_option maxRecDepth 20000 in
theorem wsL_p19_2 : lw_tbl[634]? = some (Cond.code yL_valueOf cL_valueOf 5 (some .int)) := rfl
theorem wsL_j19_2 : ∀ w ∈ wsL_c19_2, w ∈ lw_tbl := fun w h => by
  rw [List.mem_singleton.mp h]
  exact List.mem_of_getElem? wsL_p19_2
def wsL_c19_3 : List Cond := [Cond.methodLink RL 149 yL_isPoly, Cond.static yL_isPoly]
set_option maxRecDepth 20000 in
theorem wsL_j19_3 : ∀ w ∈ wsL_c19_3, w ∈ lw_tbl := fun w h => (goodIn_p wsL_c19_3 [] (by decide +kernel) (by decide +kernel) w h).1
def wsL_c19_4 : List Cond := [Cond.code yL_isPoly cL_isPoly 18 (some .boolean)]
set_option maxRecDepth 20000 in
theorem wsL_p19_4 : lw_tbl[178]? = some (Cond.code yL_isPoly cL_isPoly 18 (some .boolean)) := rfl
theorem wsL_j19_4 : ∀ w ∈ wsL_c19_4, w ∈ lw_tbl := fun w h => by
  rw [List.mem_singleton.mp h]
  exact List.mem_of_getElem? wsL_p19_4
def wsL_c19_5 : List Cond := [Cond.constant RL 67 (1999999999), Cond.methodLink RL 153 yL_matrices, Cond.static yL_matrices]
set_option maxRecDepth 20000 in
theorem wsL_j19_5 : ∀ w ∈ wsL_c19_5, w ∈ lw_tbl := fun w h => (goodIn_p wsL_c19_5 [] (by decide +kernel) (by decide +kernel) w h).1
def wsL_c19_6 : List Cond := [Cond.code yL_matrices cL_matrices 11 (some .boolean)]
set_option maxRecDepth 20000 in
theorem wsL_p19_6 : lw_tbl[637]? = some (Cond.code yL_matrices cL_matrices 11 (some .boolean)) := rfl
theorem wsL_j19_6 : ∀ w ∈ wsL_c19_6, w ∈ lw_tbl := fun w h => by
  rw [List.mem_singleton.mp h]
  exact List.mem_of_getElem? wsL_p19_6
def wsL_c19_7 : List Cond := [Cond.methodLink RL 104 yL_fills, Cond.static yL_fills]
set_option maxRecDepth 20000 in
theorem wsL_j19_7 : ∀ w ∈ wsL_c19_7, w ∈ lw_tbl := fun w h => (goodIn_p wsL_c19_7 [] (by decide +kernel) (by decide +kernel) w h).1
def wsL_c19_8 : List Cond := [Cond.code yL_fills cL_fills 9 none]
set_option maxRecDepth 20000 in
theorem wsL_p19_8 : lw_tbl[640]? = some (Cond.code yL_fills cL_fills 9 none) := rfl
theorem wsL_j19_8 : ∀ w ∈ wsL_c19_8, w ∈ lw_tbl := fun w h => by
  rw [List.mem_singleton.mp h]
  exact List.mem_of_getElem? wsL_p19_8
def wsL_c19_9 : List Cond := [Cond.constant RL 93 (1048576), Cond.methodLink RL 90 yX5_matrix, Cond.instanceMethod yX5_matrix, Cond.selects RX5 yX5_matrix yX5_matrix, Cond.code yX5_matrix cX5_matrix 4 (some .int), Cond.methodLink RX5 144 yX2_becomeEmpty, Cond.methodLink RL 97 yX5_entry, Cond.instanceMethod yX5_entry, Cond.selects RX5 yX5_entry yX5_entry, Cond.code yX5_entry cX5_entry 6 (some .int), Cond.methodLink RX5 147 yX5_needEntry, Cond.instanceMethod yX5_needEntry]
set_option maxRecDepth 20000 in
theorem wsL_j19_9 : ∀ w ∈ wsL_c19_9, w ∈ lw_tbl := fun w h => (goodIn_p wsL_c19_9 [644, 650] (by decide +kernel) (by decide +kernel) w h).1
theorem wsL_e19 : wsL_law0_r19 = (wsL_c19_1 ++ (wsL_c19_2 ++ (wsL_c19_3 ++ (wsL_c19_4 ++ (wsL_c19_5 ++ (wsL_c19_6 ++ (wsL_c19_7 ++ (wsL_c19_8 ++ wsL_c19_9)))))))) := rfl
theorem wsL_i19 : ∀ w ∈ wsL_law0_r19, w ∈ lw_tbl := fun w h => by
  rw [wsL_e19] at h
  exact (List.mem_append.mp h).elim (wsL_j19_1 w) (fun h => (List.mem_append.mp h).elim (wsL_j19_2 w) (fun h => (List.mem_append.mp h).elim (wsL_j19_3 w) (fun h => (List.mem_append.mp h).elim (wsL_j19_4 w) (fun h => (List.mem_append.mp h).elim (wsL_j19_5 w) (fun h => (List.mem_append.mp h).elim (wsL_j19_6 w) (fun h => (List.mem_append.mp h).elim (wsL_j19_7 w) (fun h => (List.mem_append.mp h).elim (wsL_j19_8 w) (wsL_j19_9 w))))))))
def wsL_c20_1 : List Cond := [Cond.selects RX5 yX5_needEntry yX5_needEntry, Cond.code yX5_needEntry cX5_needEntry 4 none, Cond.methodLink RL 108 yX5_determinant, Cond.instanceMethod yX5_determinant, Cond.selects RX5 yX5_determinant yX5_determinant, Cond.code yX5_determinant cX5_determinant 2 (some .int), Cond.methodLink RX5 175 yX0_leastSum, Cond.instanceMethod yX0_leastSum, Cond.selects RX0 yX0_leastSum yX0_leastSum, Cond.code yX0_leastSum cX0_leastSum 2 (some .int), Cond.methodLink RX0 18 yX0_choose, Cond.instanceMethod yX0_choose, Cond.selects RX0 yX0_choose yX0_choose, Cond.code yX0_choose cX0_choose 5 none, Cond.constant RX0 28 (1000000), Cond.methodLink RX0 33 yJ6_bitCount_0f7a4]
set_option maxRecDepth 20000 in
theorem wsL_j20_1 : ∀ w ∈ wsL_c20_1, w ∈ lw_tbl := fun w h => (goodIn_p wsL_c20_1 [654, 658, 662, 666] (by decide +kernel) (by decide +kernel) w h).1
def wsL_c20_2 : List Cond := [Cond.static yJ6_bitCount_0f7a4, Cond.initialized RJ6, Cond.code yJ6_bitCount_0f7a4 cJ6_bitCount_0f7a4 1 (some .int), Cond.constant RJ6 265 (1431655765), Cond.constant RJ6 266 (858993459), Cond.constant RJ6 267 (252645135), Cond.methodLink RX0 39 yX0_offer, Cond.instanceMethod yX0_offer]
set_option maxRecDepth 20000 in
theorem wsL_j20_2 : ∀ w ∈ wsL_c20_2, w ∈ lw_tbl := fun w h => (goodIn_p wsL_c20_2 [670] (by decide +kernel) (by decide +kernel) w h).1
theorem wsL_e20 : wsL_law0_r20 = (wsL_c20_1 ++ wsL_c20_2) := rfl
theorem wsL_i20 : ∀ w ∈ wsL_law0_r20, w ∈ lw_tbl := fun w h => by
  rw [wsL_e20] at h
  exact (List.mem_append.mp h).elim (wsL_j20_1 w) (wsL_j20_2 w)
def wsL_c21_1 : List Cond := [Cond.selects RX0 yX0_offer yX0_offer, Cond.code yX0_offer cX0_offer 5 none, Cond.methodLink RL 111 yL_isLike, Cond.static yL_isLike]
set_option maxRecDepth 20000 in
theorem wsL_j21_1 : ∀ w ∈ wsL_c21_1, w ∈ lw_tbl := fun w h => (goodIn_p wsL_c21_1 [677] (by decide +kernel) (by decide +kernel) w h).1
def wsL_c21_2 : List Cond := [Cond.code yL_isLike cL_isLike 6 (some .boolean)]
set_option maxRecDepth 20000 in
theorem wsL_p21_2 : lw_tbl[681]? = some (Cond.code yL_isLike cL_isLike 6 (some .boolean)) := rfl
theorem wsL_j21_2 : ∀ w ∈ wsL_c21_2, w ∈ lw_tbl := fun w h => by
  rw [List.mem_singleton.mp h]
  exact List.mem_of_getElem? wsL_p21_2
def wsL_c21_3 : List Cond := [Cond.methodLink RL 101 yX5_at, Cond.instanceMethod yX5_at, Cond.selects RX5 yX5_at yX5_at, Cond.code yX5_at cX5_at 4 (some .int), Cond.methodLink RL 115 yX5_ways, Cond.instanceMethod yX5_ways, Cond.selects RX5 yX5_ways yX5_ways, Cond.code yX5_ways cX5_ways 2 (some .int), Cond.methodLink RX5 179 yX0_countLeast, Cond.instanceMethod yX0_countLeast, Cond.selects RX0 yX0_countLeast yX0_countLeast, Cond.code yX0_countLeast cX0_countLeast 2 (some .int), Cond.methodLink RL 118 yX5_mean, Cond.instanceMethod yX5_mean, Cond.selects RX5 yX5_mean yX5_mean, Cond.code yX5_mean cX5_mean 3 (some .int)]
set_option maxRecDepth 20000 in
theorem wsL_j21_3 : ∀ w ∈ wsL_c21_3, w ∈ lw_tbl := fun w h => (goodIn_p wsL_c21_3 [685, 689, 693, 697] (by decide +kernel) (by decide +kernel) w h).1
def wsL_c21_4 : List Cond := [Cond.methodLink RX5 172 yX5_findLeastMean, Cond.instanceMethod yX5_findLeastMean, Cond.selects RX5 yX5_findLeastMean yX5_findLeastMean]
set_option maxRecDepth 20000 in
theorem wsL_j21_4 : ∀ w ∈ wsL_c21_4, w ∈ lw_tbl := fun w h => (goodIn_p wsL_c21_4 [] (by decide +kernel) (by decide +kernel) w h).1
theorem wsL_e21 : wsL_law0_r21 = (wsL_c21_1 ++ (wsL_c21_2 ++ (wsL_c21_3 ++ wsL_c21_4))) := rfl
theorem wsL_i21 : ∀ w ∈ wsL_law0_r21, w ∈ lw_tbl := fun w h => by
  rw [wsL_e21] at h
  exact (List.mem_append.mp h).elim (wsL_j21_1 w) (fun h => (List.mem_append.mp h).elim (wsL_j21_2 w) (fun h => (List.mem_append.mp h).elim (wsL_j21_3 w) (wsL_j21_4 w)))
def wsL_c22_1 : List Cond := [Cond.code yX5_findLeastMean cX5_findLeastMean 6 none, Cond.methodLink RX5 319 yX1_becomeNone, Cond.instanceMethod yX1_becomeNone, Cond.selects RX1 yX1_becomeNone yX1_becomeNone, Cond.code yX1_becomeNone cX1_becomeNone 1 none, Cond.methodLink RX5 322 yX1_becomeLesser, Cond.instanceMethod yX1_becomeLesser, Cond.selects RX1 yX1_becomeLesser yX1_becomeLesser, Cond.code yX1_becomeLesser cX1_becomeLesser 3 none, Cond.methodLink RX1 18 yX1_become, Cond.methodLink RL 156 yL_vectors, Cond.static yL_vectors]
set_option maxRecDepth 20000 in
theorem wsL_j22_1 : ∀ w ∈ wsL_c22_1, w ∈ lw_tbl := fun w h => (goodIn_p wsL_c22_1 [701, 705, 709] (by decide +kernel) (by decide +kernel) w h).1
def wsL_c22_2 : List Cond := [Cond.code yL_vectors cL_vectors 10 (some .boolean)]
set_option maxRecDepth 20000 in
theorem wsL_p22_2 : lw_tbl[713]? = some (Cond.code yL_vectors cL_vectors 10 (some .boolean)) := rfl
theorem wsL_j22_2 : ∀ w ∈ wsL_c22_2, w ∈ lw_tbl := fun w h => by
  rw [List.mem_singleton.mp h]
  exact List.mem_of_getElem? wsL_p22_2
def wsL_c22_3 : List Cond := [Cond.methodLink RL 121 yX5_part, Cond.instanceMethod yX5_part, Cond.selects RX5 yX5_part yX5_part, Cond.code yX5_part cX5_part 5 (some .int), Cond.methodLink RL 124 yX5_partAt, Cond.instanceMethod yX5_partAt, Cond.selects RX5 yX5_partAt yX5_partAt, Cond.code yX5_partAt cX5_partAt 3 (some .int), Cond.methodLink RL 159 yL_chips, Cond.static yL_chips]
set_option maxRecDepth 20000 in
theorem wsL_j22_3 : ∀ w ∈ wsL_c22_3, w ∈ lw_tbl := fun w h => (goodIn_p wsL_c22_3 [717, 721] (by decide +kernel) (by decide +kernel) w h).1
def wsL_c22_4 : List Cond := [Cond.code yL_chips cL_chips 16 (some .boolean)]
set_option maxRecDepth 20000 in
theorem wsL_p22_4 : lw_tbl[724]? = some (Cond.code yL_chips cL_chips 16 (some .boolean)) := rfl
theorem wsL_j22_4 : ∀ w ∈ wsL_c22_4, w ∈ lw_tbl := fun w h => by
  rw [List.mem_singleton.mp h]
  exact List.mem_of_getElem? wsL_p22_4
theorem wsL_e22 : wsL_law0_r22 = (wsL_c22_1 ++ (wsL_c22_2 ++ (wsL_c22_3 ++ wsL_c22_4))) := rfl
theorem wsL_i22 : ∀ w ∈ wsL_law0_r22, w ∈ lw_tbl := fun w h => by
  rw [wsL_e22] at h
  exact (List.mem_append.mp h).elim (wsL_j22_1 w) (fun h => (List.mem_append.mp h).elim (wsL_j22_2 w) (fun h => (List.mem_append.mp h).elim (wsL_j22_3 w) (wsL_j22_4 w)))
def wsL_c23_1 : List Cond := [Cond.methodLink RL 128 yX5_edges, Cond.instanceMethod yX5_edges, Cond.selects RX5 yX5_edges yX5_edges, Cond.code yX5_edges cX5_edges 5 (some .int), Cond.methodLink RL 131 yX5_chips, Cond.instanceMethod yX5_chips, Cond.selects RX5 yX5_chips yX5_chips, Cond.code yX5_chips cX5_chips 4 (some .int), Cond.methodLink RL 134 yX5_graph, Cond.instanceMethod yX5_graph, Cond.selects RX5 yX5_graph yX5_graph, Cond.code yX5_graph cX5_graph 2 (some .int), Cond.methodLink RX5 275 yX3_countVertices, Cond.methodLink RX5 278 yX3_countEdges, Cond.methodLink RX5 281 yX3_genus, Cond.methodLink RX5 291 yX3_countSpanningTrees]
set_option maxRecDepth 20000 in
theorem wsL_j23_1 : ∀ w ∈ wsL_c23_1, w ∈ lw_tbl := fun w h => (goodIn_p wsL_c23_1 [729, 734, 738] (by decide +kernel) (by decide +kernel) w h).1
def wsL_c23_2 : List Cond := [Cond.instanceMethod yX3_countSpanningTrees, Cond.selects RX3 yX3_countSpanningTrees yX3_countSpanningTrees, Cond.code yX3_countSpanningTrees cX3_countSpanningTrees 3 (some .int), Cond.methodLink RX3 105 yX3_isConnected, Cond.methodLink RX3 109 yX3_putLaplacian, Cond.instanceMethod yX3_putLaplacian, Cond.selects RX3 yX3_putLaplacian yX3_putLaplacian, Cond.code yX3_putLaplacian cX3_putLaplacian 3 none]
set_option maxRecDepth 20000 in
theorem wsL_j23_2 : ∀ w ∈ wsL_c23_2, w ∈ lw_tbl := fun w h => (goodIn_p wsL_c23_2 [745, 750] (by decide +kernel) (by decide +kernel) w h).1
theorem wsL_e23 : wsL_law0_r23 = (wsL_c23_1 ++ wsL_c23_2) := rfl
theorem wsL_i23 : ∀ w ∈ wsL_law0_r23, w ∈ lw_tbl := fun w h => by
  rw [wsL_e23] at h
  exact (List.mem_append.mp h).elim (wsL_j23_1 w) (wsL_j23_2 w)
def wsL_c24_1 : List Cond := [Cond.methodLink RX3 112 yX3_eliminate, Cond.instanceMethod yX3_eliminate, Cond.selects RX3 yX3_eliminate yX3_eliminate, Cond.code yX3_eliminate cX3_eliminate 7 none, Cond.methodLink RL 137 yL_isReduced, Cond.static yL_isReduced]
set_option maxRecDepth 20000 in
theorem wsL_j24_1 : ∀ w ∈ wsL_c24_1, w ∈ lw_tbl := fun w h => (goodIn_p wsL_c24_1 [754] (by decide +kernel) (by decide +kernel) w h).1
def wsL_c24_2 : List Cond := [Cond.code yL_isReduced cL_isReduced 8 (some .boolean)]
set_option maxRecDepth 20000 in
theorem wsL_p24_2 : lw_tbl[757]? = some (Cond.code yL_isReduced cL_isReduced 8 (some .boolean)) := rfl
theorem wsL_j24_2 : ∀ w ∈ wsL_c24_2, w ∈ lw_tbl := fun w h => by
  rw [List.mem_singleton.mp h]
  exact List.mem_of_getElem? wsL_p24_2
def wsL_c24_3 : List Cond := [Cond.methodLink RL 141 yX5_chipsAt, Cond.instanceMethod yX5_chipsAt, Cond.selects RX5 yX5_chipsAt yX5_chipsAt, Cond.code yX5_chipsAt cX5_chipsAt 2 (some .int)]
set_option maxRecDepth 20000 in
theorem wsL_j24_3 : ∀ w ∈ wsL_c24_3, w ∈ lw_tbl := fun w h => (goodIn_p wsL_c24_3 [761] (by decide +kernel) (by decide +kernel) w h).1
theorem wsL_e24 : wsL_law0_r24 = (wsL_c24_1 ++ (wsL_c24_2 ++ wsL_c24_3)) := rfl
theorem wsL_i24 : ∀ w ∈ wsL_law0_r24, w ∈ lw_tbl := fun w h => by
  rw [wsL_e24] at h
  exact (List.mem_append.mp h).elim (wsL_j24_1 w) (fun h => (List.mem_append.mp h).elim (wsL_j24_2 w) (wsL_j24_3 w))
set_option maxRecDepth 20000 in
theorem wsL_fX5 : ∀ w ∈ wsX50, w ∈ lw_tbl := fun w h => (goodIn_p wsX50 [] (by decide +kernel) (by decide +kernel) w h).1
set_option maxRecDepth 20000 in
theorem wsL_fX3 : ∀ w ∈ wsX30, w ∈ lw_tbl := fun w h => (goodIn_p wsX30 [] (by decide +kernel) (by decide +kernel) w h).1
set_option maxRecDepth 20000 in
theorem wsL_fX4 : ∀ w ∈ wsX40, w ∈ lw_tbl := fun w h => (goodIn_p wsX40 [] (by decide +kernel) (by decide +kernel) w h).1
set_option maxRecDepth 20000 in
theorem wsL_fX2 : ∀ w ∈ wsX20, w ∈ lw_tbl := fun w h => (goodIn_p wsX20 [] (by decide +kernel) (by decide +kernel) w h).1
set_option maxRecDepth 20000 in
theorem wsL_fX1 : ∀ w ∈ wsX10, w ∈ lw_tbl := fun w h => (goodIn_p wsX10 [] (by decide +kernel) (by decide +kernel) w h).1
set_option maxRecDepth 20000 in
theorem wsL_fX0 : ∀ w ∈ wsX00, w ∈ lw_tbl := fun w h => (goodIn_p wsX00 [] (by decide +kernel) (by decide +kernel) w h).1
theorem wsL_ir : ∀ w ∈ (wsL_law0_r1 ++ (wsL_law0_r2 ++ (wsL_law0_r3 ++ (wsL_law0_r4 ++ (wsL_law0_r5 ++ (wsL_law0_r6 ++ (wsL_law0_r7 ++ (wsL_law0_r8 ++ (wsL_law0_r9 ++ (wsL_law0_r10 ++ (wsL_law0_r11 ++ (wsL_law0_r12 ++ (wsL_law0_r13 ++ (wsL_law0_r14 ++ (wsL_law0_r15 ++ (wsL_law0_r16 ++ (wsL_law0_r17 ++ (wsL_law0_r18 ++ (wsL_law0_r19 ++ (wsL_law0_r20 ++ (wsL_law0_r21 ++ (wsL_law0_r22 ++ (wsL_law0_r23 ++ wsL_law0_r24))))))))))))))))))))))), w ∈ lw_tbl := fun w => fun h => (List.mem_append.mp h).elim (wsL_i1 w) (fun h => (List.mem_append.mp h).elim (wsL_i2 w) (fun h => (List.mem_append.mp h).elim (wsL_i3 w) (fun h => (List.mem_append.mp h).elim (wsL_i4 w) (fun h => (List.mem_append.mp h).elim (wsL_i5 w) (fun h => (List.mem_append.mp h).elim (wsL_i6 w) (fun h => (List.mem_append.mp h).elim (wsL_i7 w) (fun h => (List.mem_append.mp h).elim (wsL_i8 w) (fun h => (List.mem_append.mp h).elim (wsL_i9 w) (fun h => (List.mem_append.mp h).elim (wsL_i10 w) (fun h => (List.mem_append.mp h).elim (wsL_i11 w) (fun h => (List.mem_append.mp h).elim (wsL_i12 w) (fun h => (List.mem_append.mp h).elim (wsL_i13 w) (fun h => (List.mem_append.mp h).elim (wsL_i14 w) (fun h => (List.mem_append.mp h).elim (wsL_i15 w) (fun h => (List.mem_append.mp h).elim (wsL_i16 w) (fun h => (List.mem_append.mp h).elim (wsL_i17 w) (fun h => (List.mem_append.mp h).elim (wsL_i18 w) (fun h => (List.mem_append.mp h).elim (wsL_i19 w) (fun h => (List.mem_append.mp h).elim (wsL_i20 w) (fun h => (List.mem_append.mp h).elim (wsL_i21 w) (fun h => (List.mem_append.mp h).elim (wsL_i22 w) (fun h => (List.mem_append.mp h).elim (wsL_i23 w) (fun h => wsL_i24 w h)))))))))))))))))))))))
theorem wsL_law_in0 : ∀ w ∈ wsL_law0, w ∈ lw_tbl := fun w h => (List.mem_append.mp h).elim (fun h => (List.mem_append.mp h).elim (fun h => (List.mem_append.mp h).elim (fun h => (List.mem_append.mp h).elim (fun h => (List.mem_append.mp h).elim (fun h => (List.mem_append.mp h).elim (fun h => (List.mem_append.mp h).elim (wsL_ir w) (wsL_fX5 w)) (wsL_fX3 w)) (wsL_fX4 w)) (wsL_fX2 w)) (wsL_fX1 w)) (wsL_fX0 w)) (fun h => absurd h List.not_mem_nil)
theorem wsL_law_x0 : ∀ w ∈ (vx_atS RX5 298 "java/lang/IndexOutOfBoundsException" ["java/lang/RuntimeException", "java/lang/Exception"]).filter goodWord, w ∈ lw_tbl := by decide +kernel
theorem wsL_law_x1 : ∀ w ∈ (vx_atS RX5 228 "java/lang/IllegalArgumentException" ["java/lang/RuntimeException", "java/lang/Exception"]).filter goodWord, w ∈ lw_tbl := by decide +kernel
theorem wsL_law_x2 : ∀ w ∈ (vx_atS RX5 129 "java/lang/IllegalStateException" ["java/lang/RuntimeException", "java/lang/Exception"]).filter goodWord, w ∈ lw_tbl := by decide +kernel
theorem wsL_law_in : ∀ w ∈ wsL_law, w ∈ lw_tbl := fun w h => (List.mem_append.mp h).elim (fun h => (List.mem_append.mp h).elim (fun h => (List.mem_append.mp h).elim (fun h => wsL_law_in0 w h) (fun h => wsL_law_x0 w h)) (fun h => wsL_law_x1 w h)) (fun h => wsL_law_x2 w h)
