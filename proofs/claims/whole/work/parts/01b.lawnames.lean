abbrev cL_law : ByteArray := code
def yL_law : MethodName := ⟨RL, "law", "([I)Z"⟩
def wsL_law_r1 : List Cond := [Cond.classLink RL 7 RX3, Cond.instantiable RX3 10, Cond.initialized RX3, Cond.classLink RL 10 RX4, Cond.instantiable RX4 23, Cond.initialized RX4, Cond.methodLink RL 9 yX3_init, Cond.instanceMethod yX3_init, Cond.code yX3_init cX3_init 2 none, Cond.methodLink RX3 3 objectInit, Cond.instanceMethod objectInit, Cond.code objectInit ⟨#[0xb1]⟩ 1 none, Cond.classLink RX3 11 RX2, Cond.fieldLink RX3 13 "LieNights" "sheets" "[LLieNights$Sheet;", Cond.classLink RX3 17 RX0, Cond.instantiable RX0 5, Cond.initialized RX0, Cond.fieldLink RX3 20 "LieNights" "plan" "LLieNights$Plan;", Cond.arrayClass .int, Cond.fieldLink RX3 24 "LieNights" "asked" "[I", Cond.fieldLink RX3 28 "LieNights" "showed" "[I", Cond.classLink RX3 31 RX1, Cond.instantiable RX1 6, Cond.initialized RX1]
def wsL_law_r2 : List Cond := [Cond.fieldLink RX3 34 "LieNights" "secret" "LLieNights$Secret;", Cond.fieldLink RX3 38 "LieNights" "spare" "LLieNights$Secret;", Cond.fieldLink RX3 41 "LieNights" "planIsOld" "Z", Cond.fieldLink RX3 45 "LieNights" "lastFault" "I", Cond.instantiable RX2 3, Cond.initialized RX2, Cond.instanceMethod yX0_init, Cond.code yX0_init cX0_init 1 none, Cond.methodLink RX0 5 objectInit, Cond.fieldLink RX0 11 "LieNights$Plan" "alike" "[I", Cond.fieldLink RX0 17 "LieNights$Plan" "worst" "[I", Cond.fieldLink RX0 20 "LieNights$Plan" "first" "[I", Cond.fieldLink RX0 23 "LieNights$Plan" "nights" "[I", Cond.instanceMethod yX1_init, Cond.code yX1_init cX1_init 1 none, Cond.methodLink RX1 3 objectInit, Cond.fieldLink RX1 11 "LieNights$Secret" "kinds" "[I", Cond.fieldLink RX1 15 "LieNights$Secret" "places" "[I", Cond.fieldLink RX1 18 "LieNights$Secret" "weights" "[I", Cond.instanceMethod yX2_init, Cond.code yX2_init cX2_init 1 none, Cond.methodLink RX2 3 objectInit, Cond.fieldLink RX2 9 "LieNights$Sheet" "cells" "[I", Cond.fieldLink RX2 15 "LieNights$Sheet" "lane" "I"]
def wsL_law_r3 : List Cond := [Cond.methodLink RL 12 yX4_init, Cond.instanceMethod yX4_init, Cond.code yX4_init cX4_init 1 none, Cond.methodLink RX4 1 objectInit, Cond.fieldLink RX4 9 "LieNightsModel" "sorts" "[I", Cond.fieldLink RX4 13 "LieNightsModel" "sheetLong" "[I", Cond.fieldLink RX4 16 "LieNightsModel" "cells" "[I", Cond.fieldLink RX4 19 "LieNightsModel" "kind" "[I", Cond.fieldLink RX4 22 "LieNightsModel" "place" "[I", Cond.fieldLink RX4 25 "LieNightsModel" "weight" "[I", Cond.fieldLink RX4 28 "LieNightsModel" "readKind" "[I", Cond.fieldLink RX4 31 "LieNightsModel" "readPlace" "[I", Cond.fieldLink RX4 34 "LieNightsModel" "readWeight" "[I", Cond.fieldLink RX4 37 "LieNightsModel" "worstOf" "[I", Cond.fieldLink RX4 40 "LieNightsModel" "sumOf" "[I", Cond.fieldLink RX4 43 "LieNightsModel" "readAnswerOf" "[I", Cond.fieldLink RX4 46 "LieNightsModel" "readShown" "[I", Cond.methodLink RL 13 yX3_secret, Cond.instanceMethod yX3_secret, Cond.selects RX3 yX3_secret yX3_secret, Cond.code yX3_secret cX3_secret 8 (some .int), Cond.methodLink RX3 50 yX3_sheetOf, Cond.instanceMethod yX3_sheetOf, Cond.selects RX3 yX3_sheetOf yX3_sheetOf]
def wsL_law_r4 : List Cond := [Cond.code yX3_sheetOf cX3_sheetOf 2 (some (.object "LieNights$Sheet")), Cond.methodLink RX3 54 yX3_within, Cond.static yX3_within, Cond.code yX3_within cX3_within 2 (some .boolean), Cond.methodLink RX3 58 yX2_faultAs, Cond.instanceMethod yX2_faultAs, Cond.selects RX2 yX2_faultAs yX2_faultAs, Cond.code yX2_faultAs cX2_faultAs 2 (some .int), Cond.methodLink RX2 19 yX2_isNothing, Cond.instanceMethod yX2_isNothing, Cond.selects RX2 yX2_isNothing yX2_isNothing, Cond.code yX2_isNothing cX2_isNothing 1 (some .boolean), Cond.methodLink RX3 62 yX2_hasCells, Cond.instanceMethod yX2_hasCells, Cond.selects RX2 yX2_hasCells yX2_hasCells, Cond.code yX2_hasCells cX2_hasCells 3 (some .boolean), Cond.fieldLink RX2 23 "LieNights$Sheet" "length" "I", Cond.methodLink RX3 65 yX3_faulted, Cond.instanceMethod yX3_faulted, Cond.selects RX3 yX3_faulted yX3_faulted, Cond.code yX3_faulted cX3_faulted 2 (some .int), Cond.methodLink RX3 68 yX1_readText, Cond.instanceMethod yX1_readText, Cond.selects RX1 yX1_readText yX1_readText]
def wsL_law_r5 : List Cond := [Cond.code yX1_readText cX1_readText 6 (some .int), Cond.fieldLink RX1 21 "LieNights$Secret" "answers" "I", Cond.fieldLink RX1 25 "LieNights$Secret" "pillars" "I", Cond.methodLink RX1 49 yX2_get, Cond.instanceMethod yX2_get, Cond.selects RX2 yX2_get yX2_get, Cond.code yX2_get cX2_get 2 (some .int), Cond.static yX3_at, Cond.code yX3_at cX3_at 2 (some .int), Cond.methodLink RX1 54 yX1_takeCode, Cond.instanceMethod yX1_takeCode, Cond.selects RX1 yX1_takeCode yX1_takeCode, Cond.code yX1_takeCode cX1_takeCode 3 (some .int), Cond.methodLink RX1 57 yX1_kindByLetter, Cond.static yX1_kindByLetter, Cond.code yX1_kindByLetter cX1_kindByLetter 1 (some .int), Cond.methodLink RX1 60 yX1_takeKind, Cond.instanceMethod yX1_takeKind, Cond.selects RX1 yX1_takeKind yX1_takeKind, Cond.code yX1_takeKind cX1_takeKind 2 (some .int), Cond.static yX3_write, Cond.code yX3_write cX3_write 3 none, Cond.methodLink RX1 63 yX1_takePlace, Cond.instanceMethod yX1_takePlace]
def wsL_law_r6 : List Cond := [Cond.selects RX1 yX1_takePlace yX1_takePlace, Cond.code yX1_takePlace cX1_takePlace 2 (some .int), Cond.methodLink RX1 72 yX1_isDigit, Cond.static yX1_isDigit, Cond.code yX1_isDigit cX1_isDigit 1 (some .boolean), Cond.methodLink RX1 66 yX1_takeGrowth, Cond.instanceMethod yX1_takeGrowth, Cond.selects RX1 yX1_takeGrowth yX1_takeGrowth, Cond.code yX1_takeGrowth cX1_takeGrowth 2 (some .int), Cond.fieldLink RX1 28 "LieNights$Secret" "growth" "I", Cond.methodLink RX1 69 yX1_takeWeight, Cond.instanceMethod yX1_takeWeight, Cond.selects RX1 yX1_takeWeight yX1_takeWeight, Cond.code yX1_takeWeight cX1_takeWeight 2 (some .int), Cond.methodLink RX3 72 yX3_takeSpare, Cond.instanceMethod yX3_takeSpare, Cond.selects RX3 yX3_takeSpare yX3_takeSpare, Cond.code yX3_takeSpare cX3_takeSpare 2 none, Cond.fieldLink RX3 161 "LieNights" "readings" "I", Cond.methodLink RX3 75 yX1_answers, Cond.instanceMethod yX1_answers, Cond.selects RX1 yX1_answers yX1_answers, Cond.code yX1_answers cX1_answers 1 (some .int), Cond.methodLink RL 17 yX4_secret]
def wsL_law_r7 : List Cond := [Cond.instanceMethod yX4_secret, Cond.selects RX4 yX4_secret yX4_secret, Cond.code yX4_secret cX4_secret 8 (some .int), Cond.fieldLink RX4 49 "LieNightsModel" "fault" "I", Cond.fieldLink RX4 62 "LieNightsModel" "at" "I", Cond.fieldLink RX4 83 "LieNightsModel" "readAnswers" "I", Cond.fieldLink RX4 59 "LieNightsModel" "answers" "I", Cond.fieldLink RX4 86 "LieNightsModel" "readGrowth" "I", Cond.fieldLink RX4 89 "LieNightsModel" "growth" "I", Cond.fieldLink RX4 92 "LieNightsModel" "readPillars" "I", Cond.fieldLink RX4 95 "LieNightsModel" "pillars" "I", Cond.fieldLink RX4 98 "LieNightsModel" "readings" "I", Cond.methodLink RX4 65 yX4_isSheet, Cond.static yX4_isSheet, Cond.code yX4_isSheet cX4_isSheet 1 (some .boolean), Cond.methodLink RX4 55 yX4_within, Cond.static yX4_within, Cond.code yX4_within cX4_within 3 (some .boolean), Cond.methodLink RX4 69 yX4_isSort, Cond.static yX4_isSort, Cond.code yX4_isSort cX4_isSort 1 (some .boolean), Cond.methodLink RX4 72 yX4_against, Cond.instanceMethod yX4_against, Cond.selects RX4 yX4_against yX4_against]
def wsL_law_r8 : List Cond := [Cond.code yX4_against cX4_against 5 (some .int), Cond.methodLink RX4 76 yX4_fails, Cond.instanceMethod yX4_fails, Cond.selects RX4 yX4_fails yX4_fails, Cond.code yX4_fails cX4_fails 2 (some .int), Cond.methodLink RX4 80 yX4_readSecret, Cond.instanceMethod yX4_readSecret, Cond.selects RX4 yX4_readSecret yX4_readSecret, Cond.code yX4_readSecret cX4_readSecret 2 (some .boolean), Cond.methodLink RX4 101 yX4_isSign, Cond.instanceMethod yX4_isSign, Cond.selects RX4 yX4_isSign yX4_isSign, Cond.code yX4_isSign cX4_isSign 3 (some .boolean), Cond.methodLink RX4 105 yX4_readAnswer, Cond.instanceMethod yX4_readAnswer, Cond.selects RX4 yX4_readAnswer yX4_readAnswer, Cond.code yX4_readAnswer cX4_readAnswer 3 (some .boolean), Cond.methodLink RX4 108 yX4_digit, Cond.instanceMethod yX4_digit, Cond.selects RX4 yX4_digit yX4_digit, Cond.code yX4_digit cX4_digit 3 (some .int), Cond.methodLink RX4 112 yX4_readThePillars, Cond.instanceMethod yX4_readThePillars, Cond.selects RX4 yX4_readThePillars yX4_readThePillars]
def wsL_law_r9 : List Cond := [Cond.code yX4_readThePillars cX4_readThePillars 2 (some .boolean), Cond.methodLink RL 18 yX3_ofAnswer, Cond.instanceMethod yX3_ofAnswer, Cond.selects RX3 yX3_ofAnswer yX3_ofAnswer, Cond.code yX3_ofAnswer cX3_ofAnswer 3 (some .int), Cond.methodLink RX3 79 yX3_isAnswer, Cond.instanceMethod yX3_isAnswer, Cond.selects RX3 yX3_isAnswer yX3_isAnswer, Cond.code yX3_isAnswer cX3_isAnswer 2 (some .boolean), Cond.methodLink RX3 83 yX1_kindOf, Cond.instanceMethod yX1_kindOf, Cond.selects RX1 yX1_kindOf yX1_kindOf, Cond.code yX1_kindOf cX1_kindOf 2 (some .int), Cond.methodLink RX3 86 yX1_placeOf, Cond.instanceMethod yX1_placeOf, Cond.selects RX1 yX1_placeOf yX1_placeOf, Cond.code yX1_placeOf cX1_placeOf 2 (some .int), Cond.methodLink RL 22 yX4_ofAnswer, Cond.instanceMethod yX4_ofAnswer, Cond.selects RX4 yX4_ofAnswer yX4_ofAnswer, Cond.code yX4_ofAnswer cX4_ofAnswer 3 (some .int), Cond.methodLink RX4 115 yX4_isAnswer, Cond.instanceMethod yX4_isAnswer, Cond.selects RX4 yX4_isAnswer yX4_isAnswer]
def wsL_law_r10 : List Cond := [Cond.code yX4_isAnswer cX4_isAnswer 2 (some .boolean), Cond.methodLink RL 23 yX3_move, Cond.instanceMethod yX3_move, Cond.selects RX3 yX3_move yX3_move, Cond.code yX3_move cX3_move 4 (some .int), Cond.methodLink RX3 89 yX1_setPlace, Cond.instanceMethod yX1_setPlace, Cond.selects RX1 yX1_setPlace yX1_setPlace, Cond.code yX1_setPlace cX1_setPlace 3 none, Cond.methodLink RL 26 yX4_move, Cond.instanceMethod yX4_move, Cond.selects RX4 yX4_move yX4_move, Cond.code yX4_move cX4_move 4 (some .int), Cond.methodLink RL 27 yX3_grow, Cond.instanceMethod yX3_grow, Cond.selects RX3 yX3_grow yX3_grow, Cond.code yX3_grow cX3_grow 3 (some .int), Cond.methodLink RX3 93 yX3_noSecret, Cond.instanceMethod yX3_noSecret, Cond.selects RX3 yX3_noSecret yX3_noSecret, Cond.code yX3_noSecret cX3_noSecret 1 (some .boolean), Cond.methodLink RX3 97 yX1_growth, Cond.instanceMethod yX1_growth, Cond.selects RX1 yX1_growth yX1_growth]
def wsL_law_r11 : List Cond := [Cond.code yX1_growth cX1_growth 1 (some .int), Cond.methodLink RX3 100 yX1_setGrowth, Cond.instanceMethod yX1_setGrowth, Cond.selects RX1 yX1_setGrowth yX1_setGrowth, Cond.code yX1_setGrowth cX1_setGrowth 2 none, Cond.methodLink RL 31 yX4_grow, Cond.instanceMethod yX4_grow, Cond.selects RX4 yX4_grow yX4_grow, Cond.code yX4_grow cX4_grow 3 (some .int), Cond.methodLink RL 32 yX3_shown, Cond.instanceMethod yX3_shown, Cond.selects RX3 yX3_shown yX3_shown, Cond.code yX3_shown cX3_shown 3 (some .int), Cond.methodLink RX3 104 yX1_shownBy, Cond.instanceMethod yX1_shownBy, Cond.selects RX1 yX1_shownBy yX1_shownBy, Cond.code yX1_shownBy cX1_shownBy 4 (some .int), Cond.methodLink RX1 39 Lib.Math.abs.name, Cond.static Lib.Math.abs.name, Cond.initialized "java/lang/Math", Cond.code Lib.Math.abs.name Lib.Math.abs.code 1 (some .int), Cond.methodLink RL 35 yX4_shown, Cond.instanceMethod yX4_shown, Cond.selects RX4 yX4_shown yX4_shown]
def wsL_law_r12 : List Cond := [Cond.code yX4_shown cX4_shown 3 (some .int), Cond.methodLink RX4 118 yX4_shownBy, Cond.instanceMethod yX4_shownBy, Cond.selects RX4 yX4_shownBy yX4_shownBy, Cond.code yX4_shownBy cX4_shownBy 4 (some .int), Cond.methodLink RL 36 yX3_nights, Cond.instanceMethod yX3_nights, Cond.selects RX3 yX3_nights yX3_nights, Cond.code yX3_nights cX3_nights 10 (some .int), Cond.methodLink RX3 108 yX3_areAnswers, Cond.instanceMethod yX3_areAnswers, Cond.selects RX3 yX3_areAnswers yX3_areAnswers, Cond.code yX3_areAnswers cX3_areAnswers 5 (some .boolean), Cond.methodLink RX3 119 yX2_get, Cond.methodLink RX3 112 yX3_mayBe, Cond.instanceMethod yX3_mayBe, Cond.selects RX3 yX3_mayBe yX3_mayBe, Cond.code yX3_mayBe cX3_mayBe 7 (some .int), Cond.methodLink RX3 220 yX1_all, Cond.instanceMethod yX1_all, Cond.selects RX1 yX1_all yX1_all, Cond.code yX1_all cX1_all 1 (some .int), Cond.methodLink RX3 152 yX1_alike, Cond.instanceMethod yX1_alike]
def wsL_law_r13 : List Cond := [Cond.selects RX1 yX1_alike yX1_alike, Cond.code yX1_alike cX1_alike 6 (some .int), Cond.methodLink RX1 45 yX1_shownBy, Cond.methodLink RX3 116 yX3_boundOn, Cond.instanceMethod yX3_boundOn, Cond.selects RX3 yX3_boundOn yX3_boundOn, Cond.code yX3_boundOn cX3_boundOn 6 (some .int), Cond.methodLink RL 40 yX4_nights, Cond.instanceMethod yX4_nights, Cond.selects RX4 yX4_nights yX4_nights, Cond.code yX4_nights cX4_nights 10 (some .int), Cond.methodLink RX4 121 yX4_tellNights, Cond.instanceMethod yX4_tellNights, Cond.selects RX4 yX4_tellNights yX4_tellNights, Cond.code yX4_tellNights cX4_tellNights 10 (some .int), Cond.methodLink RX4 124 yX4_group, Cond.instanceMethod yX4_group, Cond.selects RX4 yX4_group yX4_group, Cond.code yX4_group cX4_group 6 (some .int), Cond.methodLink RL 41 yX3_worst, Cond.instanceMethod yX3_worst, Cond.selects RX3 yX3_worst yX3_worst, Cond.code yX3_worst cX3_worst 2 (some .int), Cond.methodLink RX3 122 yX3_isSetOf]
def wsL_law_r14 : List Cond := [Cond.static yX3_isSetOf, Cond.code yX3_isSetOf cX3_isSetOf 2 (some .boolean), Cond.methodLink RX3 125 yX3_planned, Cond.instanceMethod yX3_planned, Cond.selects RX3 yX3_planned yX3_planned, Cond.code yX3_planned cX3_planned 1 (some (.object "LieNights$Plan")), Cond.methodLink RX3 216 yX0_make, Cond.instanceMethod yX0_make, Cond.selects RX0 yX0_make yX0_make, Cond.code yX0_make cX0_make 4 none, Cond.fieldLink RX0 34 "LieNights$Plan" "answers" "I", Cond.methodLink RX0 30 yX1_answers, Cond.methodLink RX0 37 yX1_alike, Cond.methodLink RX0 44 yX1_all, Cond.methodLink RX0 47 yX0_tryAsking, Cond.instanceMethod yX0_tryAsking, Cond.selects RX0 yX0_tryAsking yX0_tryAsking, Cond.code yX0_tryAsking cX0_tryAsking 8 none, Cond.methodLink RX0 64 Lib.Math.max.name, Cond.static Lib.Math.max.name, Cond.code Lib.Math.max.name Lib.Math.max.code 2 (some .int), Cond.methodLink RX0 72 Lib.Math.min.name, Cond.static Lib.Math.min.name, Cond.code Lib.Math.min.name Lib.Math.min.code 2 (some .int)]
def wsL_law_r15 : List Cond := [Cond.methodLink RX0 51 yJ6_bitCount_0f7a4, Cond.static yJ6_bitCount_0f7a4, Cond.initialized RJ6, Cond.code yJ6_bitCount_0f7a4 cJ6_bitCount_0f7a4 1 (some .int), Cond.constant RJ6 265 (1431655765), Cond.constant RJ6 266 (858993459), Cond.constant RJ6 267 (252645135), Cond.static yX3_has, Cond.code yX3_has cX3_has 2 (some .boolean), Cond.methodLink RX0 61 yX0_worstOf, Cond.instanceMethod yX0_worstOf, Cond.selects RX0 yX0_worstOf yX0_worstOf, Cond.code yX0_worstOf cX0_worstOf 2 (some .int), Cond.methodLink RX0 69 yX0_nightsOf, Cond.instanceMethod yX0_nightsOf, Cond.selects RX0 yX0_nightsOf yX0_nightsOf, Cond.code yX0_nightsOf cX0_nightsOf 2 (some .int), Cond.methodLink RX3 129 yX0_worstOf, Cond.methodLink RL 44 yX4_worst, Cond.instanceMethod yX4_worst, Cond.selects RX4 yX4_worst yX4_worst, Cond.code yX4_worst cX4_worst 2 (some .int), Cond.methodLink RX4 137 yX4_isSet, Cond.instanceMethod yX4_isSet]
def wsL_law_r16 : List Cond := [Cond.selects RX4 yX4_isSet yX4_isSet, Cond.code yX4_isSet cX4_isSet 2 (some .boolean), Cond.methodLink RX4 140 yX4_findWorst, Cond.instanceMethod yX4_findWorst, Cond.selects RX4 yX4_findWorst yX4_findWorst, Cond.code yX4_findWorst cX4_findWorst 6 none, Cond.methodLink RX4 131 yX4_worstBy, Cond.instanceMethod yX4_worstBy, Cond.selects RX4 yX4_worstBy yX4_worstBy, Cond.code yX4_worstBy cX4_worstBy 6 (some .int), Cond.methodLink RX4 134 yX4_sumBy, Cond.instanceMethod yX4_sumBy, Cond.selects RX4 yX4_sumBy yX4_sumBy, Cond.code yX4_sumBy cX4_sumBy 6 (some .int), Cond.methodLink RX4 128 yX4_size, Cond.static yX4_size, Cond.code yX4_size cX4_size 3 (some .int), Cond.methodLink RL 45 yX3_ask, Cond.instanceMethod yX3_ask, Cond.selects RX3 yX3_ask yX3_ask, Cond.code yX3_ask cX3_ask 2 (some .int), Cond.methodLink RX3 132 yX0_askOf, Cond.instanceMethod yX0_askOf, Cond.selects RX0 yX0_askOf yX0_askOf]
def wsL_law_r17 : List Cond := [Cond.code yX0_askOf cX0_askOf 2 (some .int), Cond.methodLink RL 48 yX4_ask, Cond.instanceMethod yX4_ask, Cond.selects RX4 yX4_ask yX4_ask, Cond.code yX4_ask cX4_ask 2 (some .int), Cond.methodLink RX4 144 yX4_askOf, Cond.instanceMethod yX4_askOf, Cond.selects RX4 yX4_askOf yX4_askOf, Cond.code yX4_askOf cX4_askOf 3 (some .int), Cond.methodLink RL 49 yX3_mean, Cond.instanceMethod yX3_mean, Cond.selects RX3 yX3_mean yX3_mean, Cond.code yX3_mean cX3_mean 3 (some .long), Cond.constantLong RX3 135 (-9223372036854775808), Cond.methodLink RX3 137 yX0_nightsOf, Cond.methodLink RX3 140 yJ6_bitCount_0f7a4, Cond.methodLink RX3 145 yX3_shareNumber, Cond.static yX3_shareNumber, Cond.code yX3_shareNumber cX3_shareNumber 5 (some .long), Cond.methodLink RL 53 yX4_mean, Cond.instanceMethod yX4_mean, Cond.selects RX4 yX4_mean yX4_mean, Cond.code yX4_mean cX4_mean 3 (some .long), Cond.constantLong RX4 53 (-9223372036854775808)]
def wsL_law_r18 : List Cond := [Cond.methodLink RX4 147 yX4_inLeastTerms, Cond.static yX4_inLeastTerms, Cond.code yX4_inLeastTerms cX4_inLeastTerms 11 (some .long), Cond.methodLink RL 54 yX3_parts, Cond.instanceMethod yX3_parts, Cond.selects RX3 yX3_parts yX3_parts, Cond.code yX3_parts cX3_parts 6 (some .int), Cond.methodLink RX3 149 yX3_has, Cond.methodLink RL 57 yX4_parts, Cond.instanceMethod yX4_parts, Cond.selects RX4 yX4_parts yX4_parts, Cond.code yX4_parts cX4_parts 5 (some .int), Cond.methodLink RL 58 yX3_months, Cond.instanceMethod yX3_months, Cond.selects RX3 yX3_months yX3_months, Cond.code yX3_months cX3_months 4 (some .int), Cond.methodLink RX3 155 yX1_pillars, Cond.instanceMethod yX1_pillars, Cond.selects RX1 yX1_pillars yX1_pillars, Cond.code yX1_pillars cX1_pillars 1 (some .int), Cond.methodLink RX3 158 yX1_weightOf, Cond.instanceMethod yX1_weightOf, Cond.selects RX1 yX1_weightOf yX1_weightOf, Cond.code yX1_weightOf cX1_weightOf 2 (some .int)]
def wsL_law_r19 : List Cond := [Cond.methodLink RL 61 yX4_months, Cond.instanceMethod yX4_months, Cond.selects RX4 yX4_months yX4_months, Cond.code yX4_months cX4_months 4 (some .int), Cond.methodLink RL 62 yX3_down, Cond.instanceMethod yX3_down, Cond.selects RX3 yX3_down yX3_down, Cond.code yX3_down cX3_down 8 (some .int), Cond.methodLink RL 65 yX4_down, Cond.instanceMethod yX4_down, Cond.selects RX4 yX4_down yX4_down, Cond.code yX4_down cX4_down 7 (some .int), Cond.methodLink RL 66 yX3_reading, Cond.instanceMethod yX3_reading, Cond.selects RX3 yX3_reading yX3_reading, Cond.code yX3_reading cX3_reading 3 (some .int), Cond.methodLink RX3 164 yX3_write, Cond.methodLink RL 69 yX4_reading, Cond.instanceMethod yX4_reading, Cond.selects RX4 yX4_reading yX4_reading, Cond.code yX4_reading cX4_reading 3 (some .int), Cond.methodLink RL 70 yX3_back, Cond.instanceMethod yX3_back, Cond.selects RX3 yX3_back yX3_back]
def wsL_law_r20 : List Cond := [Cond.code yX3_back cX3_back 2 (some .int), Cond.methodLink RL 73 yX4_back, Cond.instanceMethod yX4_back, Cond.selects RX4 yX4_back yX4_back, Cond.code yX4_back cX4_back 2 (some .int), Cond.methodLink RL 74 yX3_left, Cond.instanceMethod yX3_left, Cond.selects RX3 yX3_left yX3_left, Cond.code yX3_left cX3_left 1 (some .int), Cond.methodLink RX3 168 yX3_truths, Cond.instanceMethod yX3_truths, Cond.selects RX3 yX3_truths yX3_truths, Cond.code yX3_truths cX3_truths 3 (some .int), Cond.methodLink RX3 223 yX3_areReadingsSo, Cond.instanceMethod yX3_areReadingsSo, Cond.selects RX3 yX3_areReadingsSo yX3_areReadingsSo, Cond.code yX3_areReadingsSo cX3_areReadingsSo 3 (some .boolean), Cond.methodLink RX3 226 yX3_at, Cond.methodLink RL 78 yX4_left, Cond.instanceMethod yX4_left, Cond.selects RX4 yX4_left yX4_left, Cond.code yX4_left cX4_left 1 (some .int), Cond.methodLink RX4 151 yX4_leftSet, Cond.instanceMethod yX4_leftSet]
def wsL_law_r21 : List Cond := [Cond.selects RX4 yX4_leftSet yX4_leftSet, Cond.code yX4_leftSet cX4_leftSet 3 (some .int), Cond.methodLink RL 79 yX3_kinds, Cond.instanceMethod yX3_kinds, Cond.selects RX3 yX3_kinds yX3_kinds, Cond.code yX3_kinds cX3_kinds 5 (some .int), Cond.methodLink RX3 171 yX1_setKind, Cond.instanceMethod yX1_setKind, Cond.selects RX1 yX1_setKind yX1_setKind, Cond.code yX1_setKind cX1_setKind 3 none, Cond.methodLink RL 82 yX4_kinds, Cond.instanceMethod yX4_kinds, Cond.selects RX4 yX4_kinds yX4_kinds, Cond.code yX4_kinds cX4_kinds 5 (some .int), Cond.methodLink RL 83 yX3_places, Cond.instanceMethod yX3_places, Cond.selects RX3 yX3_places yX3_places, Cond.code yX3_places cX3_places 5 (some .int), Cond.methodLink RL 86 yX4_places, Cond.instanceMethod yX4_places, Cond.selects RX4 yX4_places yX4_places, Cond.code yX4_places cX4_places 5 (some .int), Cond.methodLink RL 87 yX3_odds, Cond.instanceMethod yX3_odds]
def wsL_law_r22 : List Cond := [Cond.selects RX3 yX3_odds yX3_odds, Cond.code yX3_odds cX3_odds 6 (some .long), Cond.methodLink RX3 174 yX3_isBoundWithin, Cond.instanceMethod yX3_isBoundWithin, Cond.selects RX3 yX3_isBoundWithin yX3_isBoundWithin, Cond.code yX3_isBoundWithin cX3_isBoundWithin 7 (some .boolean), Cond.methodLink RL 90 yX4_odds, Cond.instanceMethod yX4_odds, Cond.selects RX4 yX4_odds yX4_odds, Cond.code yX4_odds cX4_odds 5 (some .long), Cond.methodLink RX4 155 yX4_isBound, Cond.instanceMethod yX4_isBound, Cond.selects RX4 yX4_isBound yX4_isBound, Cond.code yX4_isBound cX4_isBound 6 (some .boolean), Cond.methodLink RL 91 yX3_sheet, Cond.instanceMethod yX3_sheet, Cond.selects RX3 yX3_sheet yX3_sheet, Cond.code yX3_sheet cX3_sheet 5 (some .int), Cond.methodLink RX3 178 yX2_renew, Cond.instanceMethod yX2_renew, Cond.selects RX2 yX2_renew yX2_renew, Cond.code yX2_renew cX2_renew 4 none, Cond.methodLink RL 95 yX4_sheet, Cond.instanceMethod yX4_sheet]
def wsL_law_r23 : List Cond := [Cond.selects RX4 yX4_sheet yX4_sheet, Cond.code yX4_sheet cX4_sheet 5 (some .int), Cond.methodLink RL 96 yX3_lose, Cond.instanceMethod yX3_lose, Cond.selects RX3 yX3_lose yX3_lose, Cond.code yX3_lose cX3_lose 3 (some .int), Cond.methodLink RX3 181 yX2_isNothing, Cond.methodLink RX3 184 yX2_clear, Cond.instanceMethod yX2_clear, Cond.selects RX2 yX2_clear yX2_clear, Cond.code yX2_clear cX2_clear 1 none, Cond.methodLink RL 99 yX4_lose, Cond.instanceMethod yX4_lose, Cond.selects RX4 yX4_lose yX4_lose, Cond.code yX4_lose cX4_lose 3 (some .int), Cond.methodLink RL 100 yX3_put, Cond.instanceMethod yX3_put, Cond.selects RX3 yX3_put yX3_put, Cond.code yX3_put cX3_put 5 (some .int), Cond.methodLink RX3 187 yX2_set, Cond.instanceMethod yX2_set, Cond.selects RX2 yX2_set yX2_set, Cond.code yX2_set cX2_set 3 none, Cond.methodLink RX2 38 yX2_cut]
def wsL_law_r24 : List Cond := [Cond.instanceMethod yX2_cut, Cond.selects RX2 yX2_cut yX2_cut, Cond.code yX2_cut cX2_cut 2 (some .int), Cond.methodLink RL 103 yX4_put, Cond.instanceMethod yX4_put, Cond.selects RX4 yX4_put yX4_put, Cond.code yX4_put cX4_put 4 (some .int), Cond.methodLink RL 104 yX3_cell, Cond.instanceMethod yX3_cell, Cond.selects RX3 yX3_cell yX3_cell, Cond.code yX3_cell cX3_cell 6 (some .long), Cond.methodLink RL 108 yX4_cell, Cond.instanceMethod yX4_cell, Cond.selects RX4 yX4_cell yX4_cell, Cond.code yX4_cell cX4_cell 4 (some .long), Cond.methodLink RX4 158 yX4_lost, Cond.instanceMethod yX4_lost, Cond.selects RX4 yX4_lost yX4_lost, Cond.code yX4_lost cX4_lost 2 (some .long), Cond.methodLink RL 109 yX3_copy, Cond.instanceMethod yX3_copy, Cond.selects RX3 yX3_copy yX3_copy, Cond.code yX3_copy cX3_copy 8 (some .int), Cond.methodLink RX3 190 yX2_isLikeLane]
def wsL_law_r25 : List Cond := [Cond.instanceMethod yX2_isLikeLane, Cond.selects RX2 yX2_isLikeLane yX2_isLikeLane, Cond.code yX2_isLikeLane cX2_isLikeLane 2 (some .boolean), Cond.methodLink RX3 194 yX2_takeCells, Cond.instanceMethod yX2_takeCells, Cond.selects RX2 yX2_takeCells yX2_takeCells, Cond.code yX2_takeCells cX2_takeCells 6 none, Cond.methodLink RX2 42 yX2_get, Cond.methodLink RL 113 yX4_copy, Cond.instanceMethod yX4_copy, Cond.selects RX4 yX4_copy yX4_copy, Cond.code yX4_copy cX4_copy 10 (some .int), Cond.methodLink RL 114 yX3_tell, Cond.instanceMethod yX3_tell, Cond.selects RX3 yX3_tell yX3_tell, Cond.code yX3_tell cX3_tell 2 (some .int), Cond.methodLink RX3 198 yX3_tellSly, Cond.instanceMethod yX3_tellSly, Cond.selects RX3 yX3_tellSly yX3_tellSly, Cond.code yX3_tellSly cX3_tellSly 2 (some .int), Cond.methodLink RX3 230 yX3_leave, Cond.instanceMethod yX3_leave, Cond.selects RX3 yX3_leave yX3_leave, Cond.code yX3_leave cX3_leave 2 none]
def wsL_law_r26 : List Cond := [Cond.fieldLink RX3 213 "LieNights" "trace" "I", Cond.methodLink RX3 204 yX3_tellPlain, Cond.instanceMethod yX3_tellPlain, Cond.selects RX3 yX3_tellPlain yX3_tellPlain, Cond.code yX3_tellPlain cX3_tellPlain 2 (some .int), Cond.methodLink RX3 201 yX3_tellVain, Cond.instanceMethod yX3_tellVain, Cond.selects RX3 yX3_tellVain yX3_tellVain, Cond.code yX3_tellVain cX3_tellVain 3 (some .int), Cond.methodLink RL 117 yX4_tell, Cond.instanceMethod yX4_tell, Cond.selects RX4 yX4_tell yX4_tell, Cond.code yX4_tell cX4_tell 3 (some .int), Cond.methodLink RX4 165 yX4_begins, Cond.instanceMethod yX4_begins, Cond.selects RX4 yX4_begins yX4_begins, Cond.code yX4_begins cX4_begins 2 none, Cond.fieldLink RX4 162 "LieNightsModel" "trace" "I", Cond.methodLink RL 118 yX3_whisper, Cond.instanceMethod yX3_whisper, Cond.selects RX3 yX3_whisper yX3_whisper, Cond.code yX3_whisper cX3_whisper 2 (some .int), Cond.methodLink RX3 207 yX3_whisperVain, Cond.instanceMethod yX3_whisperVain]
def wsL_law_r27 : List Cond := [Cond.selects RX3 yX3_whisperVain yX3_whisperVain, Cond.code yX3_whisperVain cX3_whisperVain 1 (some .int), Cond.methodLink RX3 210 yX3_whisperLent, Cond.instanceMethod yX3_whisperLent, Cond.selects RX3 yX3_whisperLent yX3_whisperLent, Cond.code yX3_whisperLent cX3_whisperLent 2 (some .int), Cond.methodLink RL 121 yX4_whisper, Cond.instanceMethod yX4_whisper, Cond.selects RX4 yX4_whisper yX4_whisper, Cond.code yX4_whisper cX4_whisper 2 (some .int), Cond.methodLink RL 122 yX3_as, Cond.instanceMethod yX3_as, Cond.selects RX3 yX3_as yX3_as, Cond.code yX3_as cX3_as 3 (some .int), Cond.methodLink RL 125 yX4_as, Cond.instanceMethod yX4_as, Cond.selects RX4 yX4_as yX4_as, Cond.code yX4_as cX4_as 3 (some .int), Cond.methodLink RL 126 yX3_trace, Cond.instanceMethod yX3_trace, Cond.selects RX3 yX3_trace yX3_trace, Cond.code yX3_trace cX3_trace 1 (some .int), Cond.methodLink RL 129 yX4_trace, Cond.instanceMethod yX4_trace]
def wsL_law_r28 : List Cond := [Cond.selects RX4 yX4_trace yX4_trace, Cond.code yX4_trace cX4_trace 1 (some .int), Cond.methodLink RL 130 yX3_fault, Cond.instanceMethod yX3_fault, Cond.selects RX3 yX3_fault yX3_fault, Cond.code yX3_fault cX3_fault 1 (some .int), Cond.methodLink RL 133 yX4_fault, Cond.instanceMethod yX4_fault, Cond.selects RX4 yX4_fault yX4_fault, Cond.code yX4_fault cX4_fault 1 (some .int), Cond.methodLink RL 134 yX3_many, Cond.instanceMethod yX3_many, Cond.selects RX3 yX3_many yX3_many, Cond.code yX3_many cX3_many 2 (some .int), Cond.methodLink RL 137 yX4_many, Cond.instanceMethod yX4_many, Cond.selects RX4 yX4_many yX4_many, Cond.code yX4_many cX4_many 2 (some .int)]
def wsL_law : List Cond := (wsL_law_r1 ++ (wsL_law_r2 ++ (wsL_law_r3 ++ (wsL_law_r4 ++ (wsL_law_r5 ++ (wsL_law_r6 ++ (wsL_law_r7 ++ (wsL_law_r8 ++ (wsL_law_r9 ++ (wsL_law_r10 ++ (wsL_law_r11 ++ (wsL_law_r12 ++ (wsL_law_r13 ++ (wsL_law_r14 ++ (wsL_law_r15 ++ (wsL_law_r16 ++ (wsL_law_r17 ++ (wsL_law_r18 ++ (wsL_law_r19 ++ (wsL_law_r20 ++ (wsL_law_r21 ++ (wsL_law_r22 ++ (wsL_law_r23 ++ (wsL_law_r24 ++ (wsL_law_r25 ++ (wsL_law_r26 ++ (wsL_law_r27 ++ wsL_law_r28))))))))))))))))))))))))))) ++ wsX30 ++ wsX40 ++ wsX00 ++ wsX10 ++ wsX20 ++ ([] : List Cond)
theorem inlX0 : ∀ w ∈ wsX00, w ∈ wsL_law := fun _ h => List.mem_append_left _ (List.mem_append_left _ (List.mem_append_left _ (List.mem_append_right _ h)))
theorem inlX1 : ∀ w ∈ wsX10, w ∈ wsL_law := fun _ h => List.mem_append_left _ (List.mem_append_left _ (List.mem_append_right _ h))
theorem inlX2 : ∀ w ∈ wsX20, w ∈ wsL_law := fun _ h => List.mem_append_left _ (List.mem_append_right _ h)
theorem inlX3 : ∀ w ∈ wsX30, w ∈ wsL_law := fun _ h => List.mem_append_left _ (List.mem_append_left _ (List.mem_append_left _ (List.mem_append_left _ (List.mem_append_left _ (List.mem_append_right _ h)))))
theorem inlX4 : ∀ w ∈ wsX40, w ∈ wsL_law := fun _ h => List.mem_append_left _ (List.mem_append_left _ (List.mem_append_left _ (List.mem_append_left _ (List.mem_append_right _ h))))
set_option maxRecDepth 20000 in
theorem ggL_law_X3_init : GoodIn wsL_law wsX3_init := goodIn_r _ [8, 9, 10, 11, 12, 13, 14, 15, 16, 17, 18, 19, 20, 21, 22, 23, 24, 25, 26, 27, 28, 29, 30, 31, 32, 33, 34, 35, 36, 37, 38, 39, 40, 41, 42, 43, 44, 45, 46, 47, 666, 667, 668, 669, 670, 671, 672, 673, 674, 675, 699, 700, 701, 702, 703, 704, 705, 706, 707, 708, 709, 710, 711, 712] (by decide +kernel) (by decide +kernel)
set_option maxRecDepth 20000 in
theorem gL_law_X3_init : GoodIn wsL_law (wsX3_init) := ggL_law_X3_init
set_option maxRecDepth 20000 in
theorem ggL_law_X4_init : GoodIn wsL_law wsX4_init := goodIn_r _ [50, 51, 10, 11, 18, 52, 53, 54, 55, 56, 57, 58, 59, 60, 61, 62, 63, 64, 676, 677, 678, 679, 680, 681, 682, 683, 684, 685, 686, 687, 688, 689, 690, 691, 692, 693, 694, 695, 696, 697, 698] (by decide +kernel) (by decide +kernel)
set_option maxRecDepth 20000 in
theorem gL_law_X4_init : GoodIn wsL_law (wsX4_init) := ggL_law_X4_init
set_option maxRecDepth 20000 in
theorem ggL_law_X3_secret : GoodIn wsL_law wsX3_secret := goodIn_r _ [68, 27, 25, 24, 69, 70, 71, 2, 72, 13, 73, 74, 75, 76, 77, 78, 29, 79, 47, 80, 81, 82, 83, 84, 85, 86, 87, 88, 89, 90, 91, 92, 93, 94, 95, 23, 96, 97, 98, 99, 100, 101, 102, 46, 103, 104, 105, 106, 107, 108, 109, 110, 111, 112, 113, 114, 115, 40, 116, 117, 118, 119, 120, 121, 41, 122, 123, 124, 125, 126, 127, 128, 129, 130, 131, 132, 133, 42, 134, 135, 136, 137, 138, 26, 139, 140, 141, 142, 666, 667, 668, 669, 670, 671, 672, 673, 674, 675, 710, 711, 712, 704, 705, 706, 707, 708, 709] (by decide +kernel) (by decide +kernel)
set_option maxRecDepth 20000 in
theorem gL_law_X3_secret : GoodIn wsL_law (wsV RL 13 RX3 yX3_secret wsX3_secret) := goodIn_app (goodIn_of _ (by decide +kernel)) ggL_law_X3_secret
set_option maxRecDepth 20000 in
theorem ggL_law_X4_secret : GoodIn wsL_law wsX4_secret := goodIn_r _ [146, 147, 148, 149, 150, 55, 58, 56, 59, 151, 152, 153, 154, 57, 60, 155, 156, 157, 5, 158, 159, 160, 161, 162, 163, 164, 165, 166, 167, 168, 52, 53, 169, 170, 171, 172, 173, 174, 175, 176, 177, 178, 179, 180, 54, 181, 182, 183, 184, 185, 186, 187, 188, 189, 190, 191, 192, 676, 677, 678, 679, 680, 681, 682, 683, 684, 685, 686, 687, 688, 689, 690, 691, 692, 693, 694, 695, 696, 697, 698] (by decide +kernel) (by decide +kernel)
set_option maxRecDepth 20000 in
theorem gL_law_X4_secret : GoodIn wsL_law (wsV RL 17 RX4 yX4_secret wsX4_secret) := goodIn_app (goodIn_of _ (by decide +kernel)) ggL_law_X4_secret
set_option maxRecDepth 20000 in
theorem ggL_law_X3_ofAnswer : GoodIn wsL_law wsX3_ofAnswer := goodIn_r _ [196, 24, 197, 198, 199, 2, 200, 139, 140, 141, 23, 142, 97, 73, 74, 75, 201, 202, 203, 204, 40, 103, 104, 205, 206, 207, 208, 41, 666, 667, 668, 669, 670, 671, 672, 673, 674, 675, 704, 705, 706, 707, 708, 709] (by decide +kernel) (by decide +kernel)
set_option maxRecDepth 20000 in
theorem gL_law_X3_ofAnswer : GoodIn wsL_law (wsV RL 18 RX3 yX3_ofAnswer wsX3_ofAnswer) := goodIn_app (goodIn_of _ (by decide +kernel)) ggL_law_X3_ofAnswer
set_option maxRecDepth 20000 in
theorem ggL_law_X4_ofAnswer : GoodIn wsL_law wsX4_ofAnswer := goodIn_r _ [212, 55, 56, 213, 214, 215, 5, 216, 150, 676, 677, 678, 679, 680, 681, 682, 683, 684, 685, 686, 687, 688, 689, 690, 691, 692, 693, 694, 695, 696, 697, 698] (by decide +kernel) (by decide +kernel)
set_option maxRecDepth 20000 in
theorem gL_law_X4_ofAnswer : GoodIn wsL_law (wsV RL 22 RX4 yX4_ofAnswer wsX4_ofAnswer) := goodIn_app (goodIn_of _ (by decide +kernel)) ggL_law_X4_ofAnswer
set_option maxRecDepth 20000 in
theorem ggL_law_X3_move : GoodIn wsL_law wsX3_move := goodIn_r _ [220, 24, 26, 197, 198, 199, 2, 200, 139, 140, 141, 23, 142, 97, 73, 74, 75, 205, 206, 207, 208, 41, 103, 104, 221, 222, 223, 224, 116, 117, 666, 667, 668, 669, 670, 671, 672, 673, 674, 675, 704, 705, 706, 707, 708, 709] (by decide +kernel) (by decide +kernel)
set_option maxRecDepth 20000 in
theorem gL_law_X3_move : GoodIn wsL_law (wsV RL 23 RX3 yX3_move wsX3_move) := goodIn_app (goodIn_of _ (by decide +kernel)) ggL_law_X3_move
set_option maxRecDepth 20000 in
theorem ggL_law_X4_move : GoodIn wsL_law wsX4_move := goodIn_r _ [228, 56, 213, 214, 215, 5, 216, 150, 159, 160, 161, 676, 677, 678, 679, 680, 681, 682, 683, 684, 685, 686, 687, 688, 689, 690, 691, 692, 693, 694, 695, 696, 697, 698] (by decide +kernel) (by decide +kernel)
set_option maxRecDepth 20000 in
theorem gL_law_X4_move : GoodIn wsL_law (wsV RL 26 RX4 yX4_move wsX4_move) := goodIn_app (goodIn_of _ (by decide +kernel)) ggL_law_X4_move
set_option maxRecDepth 20000 in
theorem ggL_law_X3_grow : GoodIn wsL_law wsX3_grow := goodIn_r _ [232, 24, 73, 74, 2, 75, 233, 234, 235, 236, 139, 140, 141, 23, 142, 97, 237, 238, 239, 240, 129, 241, 242, 243, 244, 666, 667, 668, 669, 670, 671, 672, 673, 674, 675, 704, 705, 706, 707, 708, 709] (by decide +kernel) (by decide +kernel)
set_option maxRecDepth 20000 in
theorem gL_law_X3_grow : GoodIn wsL_law (wsV RL 27 RX3 yX3_grow wsX3_grow) := goodIn_app (goodIn_of _ (by decide +kernel)) ggL_law_X3_grow
set_option maxRecDepth 20000 in
theorem ggL_law_X4_grow : GoodIn wsL_law wsX4_grow := goodIn_r _ [248, 150, 152, 159, 160, 5, 161, 676, 677, 678, 679, 680, 681, 682, 683, 684, 685, 686, 687, 688, 689, 690, 691, 692, 693, 694, 695, 696, 697, 698] (by decide +kernel) (by decide +kernel)
set_option maxRecDepth 20000 in
theorem gL_law_X4_grow : GoodIn wsL_law (wsV RL 31 RX4 yX4_grow wsX4_grow) := goodIn_app (goodIn_of _ (by decide +kernel)) ggL_law_X4_grow
set_option maxRecDepth 20000 in
theorem ggL_law_X3_shown : GoodIn wsL_law wsX3_shown := goodIn_r _ [252, 24, 197, 198, 199, 2, 200, 139, 140, 141, 23, 142, 97, 253, 254, 255, 256, 41, 257, 258, 259, 260, 40, 103, 104, 666, 667, 668, 669, 670, 671, 672, 673, 674, 675, 704, 705, 706, 707, 708, 709] (by decide +kernel) (by decide +kernel)
set_option maxRecDepth 20000 in
theorem gL_law_X3_shown : GoodIn wsL_law (wsV RL 32 RX3 yX3_shown wsX3_shown) := goodIn_app (goodIn_of _ (by decide +kernel)) ggL_law_X3_shown
set_option maxRecDepth 20000 in
theorem ggL_law_X4_shown : GoodIn wsL_law wsX4_shown := goodIn_r _ [264, 213, 214, 215, 5, 216, 150, 265, 266, 267, 268, 56, 55, 676, 677, 678, 679, 680, 681, 682, 683, 684, 685, 686, 687, 688, 689, 690, 691, 692, 693, 694, 695, 696, 697, 698] (by decide +kernel) (by decide +kernel)
set_option maxRecDepth 20000 in
theorem gL_law_X4_shown : GoodIn wsL_law (wsV RL 35 RX4 yX4_shown wsX4_shown) := goodIn_app (goodIn_of _ (by decide +kernel)) ggL_law_X4_shown
set_option maxRecDepth 20000 in
theorem ggL_law_X3_nights : GoodIn wsL_law wsX3_nights := goodIn_r _ [272, 27, 24, 69, 70, 71, 2, 72, 13, 197, 198, 199, 200, 139, 140, 141, 23, 142, 97, 73, 74, 75, 76, 77, 78, 29, 79, 47, 80, 81, 82, 83, 84, 85, 86, 87, 88, 89, 90, 91, 92, 273, 274, 275, 276, 277, 100, 101, 102, 46, 103, 104, 278, 279, 280, 281, 282, 283, 284, 285, 286, 287, 288, 289, 290, 254, 255, 256, 41, 257, 258, 259, 260, 40, 291, 292, 293, 294, 253, 666, 667, 668, 669, 670, 671, 672, 673, 674, 675, 704, 705, 706, 707, 708, 709, 710, 711, 712] (by decide +kernel) (by decide +kernel)
set_option maxRecDepth 20000 in
theorem gL_law_X3_nights : GoodIn wsL_law (wsV RL 36 RX3 yX3_nights wsX3_nights) := goodIn_app (goodIn_of _ (by decide +kernel)) ggL_law_X3_nights
set_option maxRecDepth 20000 in
theorem ggL_law_X4_nights : GoodIn wsL_law wsX4_nights := goodIn_r _ [298, 147, 54, 213, 214, 215, 5, 216, 150, 156, 157, 158, 159, 160, 161, 162, 163, 164, 165, 166, 167, 168, 52, 53, 169, 170, 171, 172, 299, 300, 301, 302, 265, 266, 267, 268, 56, 55, 303, 304, 305, 306, 676, 677, 678, 679, 680, 681, 682, 683, 684, 685, 686, 687, 688, 689, 690, 691, 692, 693, 694, 695, 696, 697, 698] (by decide +kernel) (by decide +kernel)
set_option maxRecDepth 20000 in
theorem gL_law_X4_nights : GoodIn wsL_law (wsV RL 40 RX4 yX4_nights wsX4_nights) := goodIn_app (goodIn_of _ (by decide +kernel)) ggL_law_X4_nights
set_option maxRecDepth 20000 in
theorem ggL_law_X3_worst : GoodIn wsL_law wsX3_worst := goodIn_r _ [310, 24, 233, 234, 235, 2, 236, 139, 140, 141, 23, 142, 97, 311, 312, 313, 314, 315, 316, 317, 26, 17, 318, 319, 320, 16, 321, 322, 33, 34, 36, 323, 324, 287, 288, 289, 290, 254, 255, 256, 41, 257, 258, 259, 260, 40, 103, 104, 116, 117, 325, 283, 284, 285, 326, 327, 328, 329, 330, 331, 332, 35, 333, 334, 335, 336, 337, 338, 339, 340, 341, 342, 343, 344, 345, 346, 347, 348, 349, 350, 351, 352, 353, 666, 667, 668, 669, 670, 671, 672, 673, 674, 675, 704, 705, 706, 707, 708, 709, 699, 700, 701, 702, 703] (by decide +kernel) (by decide +kernel)
set_option maxRecDepth 20000 in
theorem gL_law_X3_worst : GoodIn wsL_law (wsV RL 41 RX3 yX3_worst wsX3_worst) := goodIn_app (goodIn_of _ (by decide +kernel)) ggL_law_X3_worst
set_option maxRecDepth 20000 in
theorem ggL_law_X4_worst : GoodIn wsL_law wsX4_worst := goodIn_r _ [357, 150, 61, 358, 359, 360, 5, 361, 362, 363, 364, 365, 62, 366, 367, 368, 369, 303, 304, 305, 306, 265, 266, 267, 268, 56, 55, 370, 371, 372, 373, 374, 375, 376, 676, 677, 678, 679, 680, 681, 682, 683, 684, 685, 686, 687, 688, 689, 690, 691, 692, 693, 694, 695, 696, 697, 698] (by decide +kernel) (by decide +kernel)
set_option maxRecDepth 20000 in
theorem gL_law_X4_worst : GoodIn wsL_law (wsV RL 44 RX4 yX4_worst wsX4_worst) := goodIn_app (goodIn_of _ (by decide +kernel)) ggL_law_X4_worst
set_option maxRecDepth 20000 in
theorem ggL_law_X3_ask : GoodIn wsL_law wsX3_ask := goodIn_r _ [380, 24, 233, 234, 235, 2, 236, 139, 140, 141, 23, 142, 97, 311, 312, 313, 314, 315, 316, 317, 26, 17, 318, 319, 320, 16, 321, 322, 33, 34, 36, 323, 324, 287, 288, 289, 290, 254, 255, 256, 41, 257, 258, 259, 260, 40, 103, 104, 116, 117, 325, 283, 284, 285, 326, 327, 328, 329, 330, 331, 332, 35, 333, 334, 335, 336, 337, 338, 339, 340, 341, 342, 343, 344, 345, 346, 347, 348, 349, 350, 351, 352, 381, 382, 383, 384, 666, 667, 668, 669, 670, 671, 672, 673, 674, 675, 704, 705, 706, 707, 708, 709, 699, 700, 701, 702, 703] (by decide +kernel) (by decide +kernel)
set_option maxRecDepth 20000 in
theorem gL_law_X3_ask : GoodIn wsL_law (wsV RL 45 RX3 yX3_ask wsX3_ask) := goodIn_app (goodIn_of _ (by decide +kernel)) ggL_law_X3_ask
set_option maxRecDepth 20000 in
theorem ggL_law_X4_ask : GoodIn wsL_law wsX4_ask := goodIn_r _ [388, 150, 358, 359, 360, 5, 361, 362, 363, 364, 365, 61, 62, 366, 367, 368, 369, 303, 304, 305, 306, 265, 266, 267, 268, 56, 55, 370, 371, 372, 373, 374, 375, 376, 389, 390, 391, 392, 676, 677, 678, 679, 680, 681, 682, 683, 684, 685, 686, 687, 688, 689, 690, 691, 692, 693, 694, 695, 696, 697, 698] (by decide +kernel) (by decide +kernel)
set_option maxRecDepth 20000 in
theorem gL_law_X4_ask : GoodIn wsL_law (wsV RL 48 RX4 yX4_ask wsX4_ask) := goodIn_app (goodIn_of _ (by decide +kernel)) ggL_law_X4_ask
set_option maxRecDepth 20000 in
theorem ggL_law_X3_mean : GoodIn wsL_law wsX3_mean := goodIn_r _ [396, 24, 397, 233, 234, 235, 2, 236, 139, 140, 141, 23, 142, 97, 311, 312, 313, 73, 74, 75, 314, 315, 316, 317, 26, 17, 318, 319, 320, 16, 321, 322, 33, 34, 36, 323, 324, 287, 288, 289, 290, 254, 255, 256, 41, 257, 258, 259, 260, 40, 103, 104, 116, 117, 325, 283, 284, 285, 326, 327, 328, 329, 330, 331, 332, 35, 333, 334, 335, 336, 337, 338, 339, 340, 341, 342, 343, 344, 345, 346, 347, 348, 349, 350, 351, 352, 398, 399, 400, 401, 402, 666, 667, 668, 669, 670, 671, 672, 673, 674, 675, 704, 705, 706, 707, 708, 709, 699, 700, 701, 702, 703] (by decide +kernel) (by decide +kernel)
set_option maxRecDepth 20000 in
theorem gL_law_X3_mean : GoodIn wsL_law (wsV RL 49 RX3 yX3_mean wsX3_mean) := goodIn_app (goodIn_of _ (by decide +kernel)) ggL_law_X3_mean
set_option maxRecDepth 20000 in
theorem ggL_law_X4_mean : GoodIn wsL_law wsX4_mean := goodIn_r _ [406, 150, 407, 62, 358, 359, 360, 5, 361, 159, 160, 161, 362, 363, 364, 365, 61, 366, 367, 368, 369, 303, 304, 305, 306, 265, 266, 267, 268, 56, 55, 370, 371, 372, 373, 374, 375, 376, 408, 409, 410, 676, 677, 678, 679, 680, 681, 682, 683, 684, 685, 686, 687, 688, 689, 690, 691, 692, 693, 694, 695, 696, 697, 698] (by decide +kernel) (by decide +kernel)
set_option maxRecDepth 20000 in
theorem gL_law_X4_mean : GoodIn wsL_law (wsV RL 53 RX4 yX4_mean wsX4_mean) := goodIn_app (goodIn_of _ (by decide +kernel)) ggL_law_X4_mean
set_option maxRecDepth 20000 in
theorem ggL_law_X3_parts : GoodIn wsL_law wsX3_parts := goodIn_r _ [414, 24, 197, 198, 199, 2, 200, 139, 140, 141, 23, 142, 97, 311, 312, 313, 415, 343, 344, 286, 287, 288, 289, 290, 254, 255, 256, 41, 257, 258, 259, 260, 40, 103, 104, 666, 667, 668, 669, 670, 671, 672, 673, 674, 675, 704, 705, 706, 707, 708, 709] (by decide +kernel) (by decide +kernel)
set_option maxRecDepth 20000 in
theorem gL_law_X3_parts : GoodIn wsL_law (wsV RL 54 RX3 yX3_parts wsX3_parts) := goodIn_app (goodIn_of _ (by decide +kernel)) ggL_law_X3_parts
set_option maxRecDepth 20000 in
theorem ggL_law_X4_parts : GoodIn wsL_law wsX4_parts := goodIn_r _ [419, 213, 214, 215, 5, 216, 150, 358, 359, 360, 361, 303, 304, 305, 306, 265, 266, 267, 268, 56, 55, 676, 677, 678, 679, 680, 681, 682, 683, 684, 685, 686, 687, 688, 689, 690, 691, 692, 693, 694, 695, 696, 697, 698] (by decide +kernel) (by decide +kernel)
set_option maxRecDepth 20000 in
theorem gL_law_X4_parts : GoodIn wsL_law (wsV RL 57 RX4 yX4_parts wsX4_parts) := goodIn_app (goodIn_of _ (by decide +kernel)) ggL_law_X4_parts
set_option maxRecDepth 20000 in
theorem ggL_law_X3_months : GoodIn wsL_law wsX3_months := goodIn_r _ [423, 24, 233, 234, 235, 2, 236, 139, 140, 141, 23, 142, 97, 424, 425, 426, 427, 98, 311, 312, 313, 415, 343, 344, 428, 429, 430, 431, 42, 103, 104, 237, 238, 239, 240, 129, 666, 667, 668, 669, 670, 671, 672, 673, 674, 675, 704, 705, 706, 707, 708, 709] (by decide +kernel) (by decide +kernel)
set_option maxRecDepth 20000 in
theorem gL_law_X3_months : GoodIn wsL_law (wsV RL 58 RX3 yX3_months wsX3_months) := goodIn_app (goodIn_of _ (by decide +kernel)) ggL_law_X3_months
set_option maxRecDepth 20000 in
theorem ggL_law_X4_months : GoodIn wsL_law wsX4_months := goodIn_r _ [435, 150, 154, 57, 152, 676, 677, 678, 679, 680, 681, 682, 683, 684, 685, 686, 687, 688, 689, 690, 691, 692, 693, 694, 695, 696, 697, 698] (by decide +kernel) (by decide +kernel)
set_option maxRecDepth 20000 in
theorem gL_law_X4_months : GoodIn wsL_law (wsV RL 61 RX4 yX4_months wsX4_months) := goodIn_app (goodIn_of _ (by decide +kernel)) ggL_law_X4_months
set_option maxRecDepth 20000 in
theorem ggL_law_X3_down : GoodIn wsL_law wsX3_down := goodIn_r _ [439, 24, 233, 234, 235, 2, 236, 139, 140, 141, 23, 142, 97, 73, 74, 75, 237, 238, 239, 240, 129, 424, 425, 426, 427, 98, 428, 429, 430, 431, 42, 103, 104, 666, 667, 668, 669, 670, 671, 672, 673, 674, 675, 704, 705, 706, 707, 708, 709] (by decide +kernel) (by decide +kernel)
set_option maxRecDepth 20000 in
theorem gL_law_X3_down : GoodIn wsL_law (wsV RL 62 RX3 yX3_down wsX3_down) := goodIn_app (goodIn_of _ (by decide +kernel)) ggL_law_X3_down
set_option maxRecDepth 20000 in
theorem ggL_law_X4_down : GoodIn wsL_law wsX4_down := goodIn_r _ [443, 150, 154, 57, 152, 159, 160, 5, 161, 676, 677, 678, 679, 680, 681, 682, 683, 684, 685, 686, 687, 688, 689, 690, 691, 692, 693, 694, 695, 696, 697, 698] (by decide +kernel) (by decide +kernel)
set_option maxRecDepth 20000 in
theorem gL_law_X4_down : GoodIn wsL_law (wsV RL 65 RX4 yX4_down wsX4_down) := goodIn_app (goodIn_of _ (by decide +kernel)) ggL_law_X4_down
set_option maxRecDepth 20000 in
theorem ggL_law_X3_reading : GoodIn wsL_law wsX3_reading := goodIn_r _ [447, 138, 19, 20, 197, 198, 199, 2, 200, 24, 139, 140, 141, 23, 142, 97, 73, 74, 75, 448, 116, 117, 666, 667, 668, 669, 670, 671, 672, 673, 674, 675, 704, 705, 706, 707, 708, 709] (by decide +kernel) (by decide +kernel)
set_option maxRecDepth 20000 in
theorem gL_law_X3_reading : GoodIn wsL_law (wsV RL 66 RX3 yX3_reading wsX3_reading) := goodIn_app (goodIn_of _ (by decide +kernel)) ggL_law_X3_reading
set_option maxRecDepth 20000 in
theorem ggL_law_X4_reading : GoodIn wsL_law wsX4_reading := goodIn_r _ [452, 155, 63, 64, 213, 214, 215, 5, 216, 150, 159, 160, 161, 676, 677, 678, 679, 680, 681, 682, 683, 684, 685, 686, 687, 688, 689, 690, 691, 692, 693, 694, 695, 696, 697, 698] (by decide +kernel) (by decide +kernel)
set_option maxRecDepth 20000 in
theorem gL_law_X4_reading : GoodIn wsL_law (wsV RL 69 RX4 yX4_reading wsX4_reading) := goodIn_app (goodIn_of _ (by decide +kernel)) ggL_law_X4_reading
set_option maxRecDepth 20000 in
theorem ggL_law_X3_back : GoodIn wsL_law wsX3_back := goodIn_r _ [456, 138, 73, 74, 2, 75, 666, 667, 668, 669, 670, 671, 672, 673, 674, 675] (by decide +kernel) (by decide +kernel)
set_option maxRecDepth 20000 in
theorem gL_law_X3_back : GoodIn wsL_law (wsV RL 70 RX3 yX3_back wsX3_back) := goodIn_app (goodIn_of _ (by decide +kernel)) ggL_law_X3_back
set_option maxRecDepth 20000 in
theorem ggL_law_X4_back : GoodIn wsL_law wsX4_back := goodIn_r _ [460, 155, 159, 160, 5, 161, 676, 677, 678, 679, 680, 681, 682, 683, 684, 685, 686, 687, 688, 689, 690, 691, 692, 693, 694, 695, 696, 697, 698] (by decide +kernel) (by decide +kernel)
set_option maxRecDepth 20000 in
theorem gL_law_X4_back : GoodIn wsL_law (wsV RL 73 RX4 yX4_back wsX4_back) := goodIn_app (goodIn_of _ (by decide +kernel)) ggL_law_X4_back
set_option maxRecDepth 20000 in
theorem ggL_law_X3_left : GoodIn wsL_law wsX3_left := goodIn_r _ [464, 233, 234, 235, 2, 236, 24, 139, 140, 141, 23, 142, 97, 465, 466, 467, 468, 469, 470, 471, 472, 138, 19, 20, 473, 103, 104, 253, 254, 255, 256, 41, 257, 258, 259, 260, 40, 666, 667, 668, 669, 670, 671, 672, 673, 674, 675, 704, 705, 706, 707, 708, 709] (by decide +kernel) (by decide +kernel)
set_option maxRecDepth 20000 in
theorem gL_law_X3_left : GoodIn wsL_law (wsV RL 74 RX3 yX3_left wsX3_left) := goodIn_app (goodIn_of _ (by decide +kernel)) ggL_law_X3_left
set_option maxRecDepth 20000 in
theorem ggL_law_X4_left : GoodIn wsL_law wsX4_left := goodIn_r _ [477, 150, 478, 479, 480, 5, 481, 155, 63, 64, 303, 304, 305, 306, 265, 266, 267, 268, 56, 55, 676, 677, 678, 679, 680, 681, 682, 683, 684, 685, 686, 687, 688, 689, 690, 691, 692, 693, 694, 695, 696, 697, 698] (by decide +kernel) (by decide +kernel)
set_option maxRecDepth 20000 in
theorem gL_law_X4_left : GoodIn wsL_law (wsV RL 78 RX4 yX4_left wsX4_left) := goodIn_app (goodIn_of _ (by decide +kernel)) ggL_law_X4_left
set_option maxRecDepth 20000 in
theorem ggL_law_X3_kinds : GoodIn wsL_law wsX3_kinds := goodIn_r _ [485, 24, 197, 198, 199, 2, 200, 139, 140, 141, 23, 142, 97, 201, 202, 203, 204, 40, 103, 104, 486, 487, 488, 489, 116, 117, 465, 466, 467, 468, 469, 470, 471, 472, 138, 19, 20, 473, 253, 254, 255, 256, 41, 257, 258, 259, 260, 666, 667, 668, 669, 670, 671, 672, 673, 674, 675, 704, 705, 706, 707, 708, 709] (by decide +kernel) (by decide +kernel)
set_option maxRecDepth 20000 in
theorem gL_law_X3_kinds : GoodIn wsL_law (wsV RL 79 RX3 yX3_kinds wsX3_kinds) := goodIn_app (goodIn_of _ (by decide +kernel)) ggL_law_X3_kinds
set_option maxRecDepth 20000 in
theorem ggL_law_X4_kinds : GoodIn wsL_law wsX4_kinds := goodIn_r _ [493, 55, 213, 214, 215, 5, 216, 150, 478, 479, 480, 481, 155, 63, 64, 303, 304, 305, 306, 265, 266, 267, 268, 56, 676, 677, 678, 679, 680, 681, 682, 683, 684, 685, 686, 687, 688, 689, 690, 691, 692, 693, 694, 695, 696, 697, 698] (by decide +kernel) (by decide +kernel)
set_option maxRecDepth 20000 in
theorem gL_law_X4_kinds : GoodIn wsL_law (wsV RL 82 RX4 yX4_kinds wsX4_kinds) := goodIn_app (goodIn_of _ (by decide +kernel)) ggL_law_X4_kinds
set_option maxRecDepth 20000 in
theorem ggL_law_X3_places : GoodIn wsL_law wsX3_places := goodIn_r _ [497, 24, 197, 198, 199, 2, 200, 139, 140, 141, 23, 142, 97, 205, 206, 207, 208, 41, 103, 104, 221, 222, 223, 224, 116, 117, 465, 466, 467, 468, 469, 470, 471, 472, 138, 19, 20, 473, 253, 254, 255, 256, 257, 258, 259, 260, 40, 666, 667, 668, 669, 670, 671, 672, 673, 674, 675, 704, 705, 706, 707, 708, 709] (by decide +kernel) (by decide +kernel)
set_option maxRecDepth 20000 in
theorem gL_law_X3_places : GoodIn wsL_law (wsV RL 83 RX3 yX3_places wsX3_places) := goodIn_app (goodIn_of _ (by decide +kernel)) ggL_law_X3_places
set_option maxRecDepth 20000 in
theorem ggL_law_X4_places : GoodIn wsL_law wsX4_places := goodIn_r _ [501, 56, 213, 214, 215, 5, 216, 150, 478, 479, 480, 481, 155, 63, 64, 303, 304, 305, 306, 265, 266, 267, 268, 55, 676, 677, 678, 679, 680, 681, 682, 683, 684, 685, 686, 687, 688, 689, 690, 691, 692, 693, 694, 695, 696, 697, 698] (by decide +kernel) (by decide +kernel)
set_option maxRecDepth 20000 in
theorem gL_law_X4_places : GoodIn wsL_law (wsV RL 86 RX4 yX4_places wsX4_places) := goodIn_app (goodIn_of _ (by decide +kernel)) ggL_law_X4_places
set_option maxRecDepth 20000 in
theorem ggL_law_X3_odds : GoodIn wsL_law wsX3_odds := goodIn_r _ [505, 397, 24, 233, 234, 235, 2, 236, 139, 140, 141, 23, 142, 97, 73, 74, 75, 314, 315, 316, 317, 26, 17, 318, 319, 320, 16, 321, 322, 33, 34, 36, 323, 324, 287, 288, 289, 290, 254, 255, 256, 41, 257, 258, 259, 260, 40, 103, 104, 116, 117, 325, 283, 284, 285, 326, 327, 328, 329, 330, 331, 332, 35, 333, 334, 335, 336, 337, 338, 339, 340, 341, 342, 343, 344, 345, 346, 347, 348, 349, 350, 351, 352, 506, 507, 508, 509, 282, 381, 382, 383, 384, 286, 400, 401, 402, 666, 667, 668, 669, 670, 671, 672, 673, 674, 675, 704, 705, 706, 707, 708, 709, 699, 700, 701, 702, 703] (by decide +kernel) (by decide +kernel)
set_option maxRecDepth 20000 in
theorem gL_law_X3_odds : GoodIn wsL_law (wsV RL 87 RX3 yX3_odds wsX3_odds) := goodIn_app (goodIn_of _ (by decide +kernel)) ggL_law_X3_odds
set_option maxRecDepth 20000 in
theorem ggL_law_X4_odds : GoodIn wsL_law wsX4_odds := goodIn_r _ [513, 150, 407, 159, 160, 5, 161, 362, 363, 364, 365, 61, 62, 366, 367, 368, 369, 303, 304, 305, 306, 265, 266, 267, 268, 56, 55, 370, 371, 372, 373, 374, 375, 376, 514, 515, 516, 517, 389, 390, 391, 392, 408, 409, 410, 676, 677, 678, 679, 680, 681, 682, 683, 684, 685, 686, 687, 688, 689, 690, 691, 692, 693, 694, 695, 696, 697, 698] (by decide +kernel) (by decide +kernel)
set_option maxRecDepth 20000 in
theorem gL_law_X4_odds : GoodIn wsL_law (wsV RL 90 RX4 yX4_odds wsX4_odds) := goodIn_app (goodIn_of _ (by decide +kernel)) ggL_law_X4_odds
set_option maxRecDepth 20000 in
theorem ggL_law_X3_sheet : GoodIn wsL_law wsX3_sheet := goodIn_r _ [521, 27, 69, 70, 71, 2, 72, 13, 73, 74, 75, 89, 90, 91, 92, 522, 523, 524, 29, 525, 47, 88, 46, 116, 117, 666, 667, 668, 669, 670, 671, 672, 673, 674, 675, 710, 711, 712] (by decide +kernel) (by decide +kernel)
set_option maxRecDepth 20000 in
theorem gL_law_X3_sheet : GoodIn wsL_law (wsV RL 91 RX3 yX3_sheet wsX3_sheet) := goodIn_app (goodIn_of _ (by decide +kernel)) ggL_law_X3_sheet
set_option maxRecDepth 20000 in
theorem ggL_law_X4_sheet : GoodIn wsL_law wsX4_sheet := goodIn_r _ [529, 147, 52, 53, 54, 156, 157, 5, 158, 159, 160, 161, 162, 163, 164, 169, 170, 171, 172, 676, 677, 678, 679, 680, 681, 682, 683, 684, 685, 686, 687, 688, 689, 690, 691, 692, 693, 694, 695, 696, 697, 698] (by decide +kernel) (by decide +kernel)
set_option maxRecDepth 20000 in
theorem gL_law_X4_sheet : GoodIn wsL_law (wsV RL 95 RX4 yX4_sheet wsX4_sheet) := goodIn_app (goodIn_of _ (by decide +kernel)) ggL_law_X4_sheet
set_option maxRecDepth 20000 in
theorem ggL_law_X3_lose : GoodIn wsL_law wsX3_lose := goodIn_r _ [533, 69, 70, 71, 2, 72, 13, 534, 81, 82, 29, 83, 47, 535, 536, 537, 538, 88, 666, 667, 668, 669, 670, 671, 672, 673, 674, 675, 710, 711, 712] (by decide +kernel) (by decide +kernel)
set_option maxRecDepth 20000 in
theorem gL_law_X3_lose : GoodIn wsL_law (wsV RL 96 RX3 yX3_lose wsX3_lose) := goodIn_app (goodIn_of _ (by decide +kernel)) ggL_law_X3_lose
set_option maxRecDepth 20000 in
theorem ggL_law_X4_lose : GoodIn wsL_law wsX4_lose := goodIn_r _ [542, 52, 156, 157, 5, 158, 159, 160, 161, 676, 677, 678, 679, 680, 681, 682, 683, 684, 685, 686, 687, 688, 689, 690, 691, 692, 693, 694, 695, 696, 697, 698] (by decide +kernel) (by decide +kernel)
set_option maxRecDepth 20000 in
theorem gL_law_X4_lose : GoodIn wsL_law (wsV RL 99 RX4 yX4_lose wsX4_lose) := goodIn_app (goodIn_of _ (by decide +kernel)) ggL_law_X4_lose
set_option maxRecDepth 20000 in
theorem ggL_law_X3_put : GoodIn wsL_law wsX3_put := goodIn_r _ [546, 27, 69, 70, 71, 2, 72, 13, 534, 81, 82, 29, 83, 47, 89, 90, 91, 92, 84, 85, 86, 87, 88, 74, 75, 547, 548, 549, 550, 46, 551, 552, 553, 554, 116, 117, 666, 667, 668, 669, 670, 671, 672, 673, 674, 675, 710, 711, 712] (by decide +kernel) (by decide +kernel)
set_option maxRecDepth 20000 in
theorem gL_law_X3_put : GoodIn wsL_law (wsV RL 100 RX3 yX3_put wsX3_put) := goodIn_app (goodIn_of _ (by decide +kernel)) ggL_law_X3_put
set_option maxRecDepth 20000 in
theorem ggL_law_X4_put : GoodIn wsL_law wsX4_put := goodIn_r _ [558, 147, 52, 53, 54, 156, 157, 5, 158, 159, 160, 161, 169, 170, 171, 172, 676, 677, 678, 679, 680, 681, 682, 683, 684, 685, 686, 687, 688, 689, 690, 691, 692, 693, 694, 695, 696, 697, 698] (by decide +kernel) (by decide +kernel)
set_option maxRecDepth 20000 in
theorem gL_law_X4_put : GoodIn wsL_law (wsV RL 103 RX4 yX4_put wsX4_put) := goodIn_app (goodIn_of _ (by decide +kernel)) ggL_law_X4_put
set_option maxRecDepth 20000 in
theorem ggL_law_X3_cell : GoodIn wsL_law wsX3_cell := goodIn_r _ [562, 27, 397, 69, 70, 71, 2, 72, 13, 73, 74, 75, 76, 77, 78, 29, 79, 47, 80, 81, 82, 83, 84, 85, 86, 87, 88, 277, 100, 101, 102, 46, 103, 104, 666, 667, 668, 669, 670, 671, 672, 673, 674, 675, 710, 711, 712] (by decide +kernel) (by decide +kernel)
set_option maxRecDepth 20000 in
theorem gL_law_X3_cell : GoodIn wsL_law (wsV RL 104 RX3 yX3_cell wsX3_cell) := goodIn_app (goodIn_of _ (by decide +kernel)) ggL_law_X3_cell
set_option maxRecDepth 20000 in
theorem ggL_law_X4_cell : GoodIn wsL_law wsX4_cell := goodIn_r _ [566, 147, 407, 52, 53, 54, 156, 157, 5, 158, 159, 160, 161, 162, 163, 164, 567, 568, 569, 570, 676, 677, 678, 679, 680, 681, 682, 683, 684, 685, 686, 687, 688, 689, 690, 691, 692, 693, 694, 695, 696, 697, 698] (by decide +kernel) (by decide +kernel)
set_option maxRecDepth 20000 in
theorem gL_law_X4_cell : GoodIn wsL_law (wsV RL 108 RX4 yX4_cell wsX4_cell) := goodIn_app (goodIn_of _ (by decide +kernel)) ggL_law_X4_cell
set_option maxRecDepth 20000 in
theorem ggL_law_X3_copy : GoodIn wsL_law wsX3_copy := goodIn_r _ [574, 27, 69, 70, 71, 2, 72, 13, 534, 81, 82, 29, 83, 47, 89, 90, 91, 92, 575, 576, 577, 578, 84, 85, 86, 87, 88, 74, 75, 579, 580, 581, 582, 46, 583, 100, 101, 102, 103, 104, 116, 117, 666, 667, 668, 669, 670, 671, 672, 673, 674, 675, 710, 711, 712] (by decide +kernel) (by decide +kernel)
set_option maxRecDepth 20000 in
theorem gL_law_X3_copy : GoodIn wsL_law (wsV RL 109 RX3 yX3_copy wsX3_copy) := goodIn_app (goodIn_of _ (by decide +kernel)) ggL_law_X3_copy
set_option maxRecDepth 20000 in
theorem ggL_law_X4_copy : GoodIn wsL_law wsX4_copy := goodIn_r _ [587, 147, 52, 53, 54, 156, 157, 5, 158, 159, 160, 161, 169, 170, 171, 172, 676, 677, 678, 679, 680, 681, 682, 683, 684, 685, 686, 687, 688, 689, 690, 691, 692, 693, 694, 695, 696, 697, 698] (by decide +kernel) (by decide +kernel)
set_option maxRecDepth 20000 in
theorem gL_law_X4_copy : GoodIn wsL_law (wsV RL 113 RX4 yX4_copy wsX4_copy) := goodIn_app (goodIn_of _ (by decide +kernel)) ggL_law_X4_copy
set_option maxRecDepth 20000 in
theorem ggL_law_X3_tell : GoodIn wsL_law wsX3_tell := goodIn_r _ [591, 24, 197, 198, 199, 2, 200, 139, 140, 141, 23, 142, 97, 201, 202, 203, 204, 40, 103, 104, 592, 593, 594, 595, 596, 597, 598, 599, 600, 601, 602, 603, 604, 205, 206, 207, 208, 41, 605, 606, 607, 608, 666, 667, 668, 669, 670, 671, 672, 673, 674, 675, 704, 705, 706, 707, 708, 709] (by decide +kernel) (by decide +kernel)
set_option maxRecDepth 20000 in
theorem gL_law_X3_tell : GoodIn wsL_law (wsV RL 114 RX3 yX3_tell wsX3_tell) := goodIn_app (goodIn_of _ (by decide +kernel)) ggL_law_X3_tell
set_option maxRecDepth 20000 in
theorem ggL_law_X4_tell : GoodIn wsL_law wsX4_tell := goodIn_r _ [612, 56, 55, 213, 214, 215, 5, 216, 150, 613, 614, 615, 616, 617, 676, 677, 678, 679, 680, 681, 682, 683, 684, 685, 686, 687, 688, 689, 690, 691, 692, 693, 694, 695, 696, 697, 698] (by decide +kernel) (by decide +kernel)
set_option maxRecDepth 20000 in
theorem gL_law_X4_tell : GoodIn wsL_law (wsV RL 117 RX4 yX4_tell wsX4_tell) := goodIn_app (goodIn_of _ (by decide +kernel)) ggL_law_X4_tell
set_option maxRecDepth 20000 in
theorem ggL_law_X3_whisper : GoodIn wsL_law wsX3_whisper := goodIn_r _ [621, 24, 197, 198, 199, 2, 200, 139, 140, 141, 23, 142, 97, 201, 202, 203, 204, 40, 103, 104, 622, 623, 624, 625, 596, 597, 598, 599, 600, 626, 627, 628, 629, 666, 667, 668, 669, 670, 671, 672, 673, 674, 675, 704, 705, 706, 707, 708, 709] (by decide +kernel) (by decide +kernel)
set_option maxRecDepth 20000 in
theorem gL_law_X3_whisper : GoodIn wsL_law (wsV RL 118 RX3 yX3_whisper wsX3_whisper) := goodIn_app (goodIn_of _ (by decide +kernel)) ggL_law_X3_whisper
set_option maxRecDepth 20000 in
theorem ggL_law_X4_whisper : GoodIn wsL_law wsX4_whisper := goodIn_r _ [633, 55, 213, 214, 215, 5, 216, 150, 613, 614, 615, 616, 617, 676, 677, 678, 679, 680, 681, 682, 683, 684, 685, 686, 687, 688, 689, 690, 691, 692, 693, 694, 695, 696, 697, 698] (by decide +kernel) (by decide +kernel)
set_option maxRecDepth 20000 in
theorem gL_law_X4_whisper : GoodIn wsL_law (wsV RL 121 RX4 yX4_whisper wsX4_whisper) := goodIn_app (goodIn_of _ (by decide +kernel)) ggL_law_X4_whisper
set_option maxRecDepth 20000 in
theorem ggL_law_X3_as : GoodIn wsL_law wsX3_as := goodIn_r _ [637, 27, 24, 197, 198, 199, 2, 200, 139, 140, 141, 23, 142, 97, 73, 74, 75, 201, 202, 203, 204, 40, 103, 104, 89, 90, 91, 92, 666, 667, 668, 669, 670, 671, 672, 673, 674, 675, 704, 705, 706, 707, 708, 709] (by decide +kernel) (by decide +kernel)
set_option maxRecDepth 20000 in
theorem gL_law_X3_as : GoodIn wsL_law (wsV RL 122 RX3 yX3_as wsX3_as) := goodIn_app (goodIn_of _ (by decide +kernel)) ggL_law_X3_as
set_option maxRecDepth 20000 in
theorem ggL_law_X4_as : GoodIn wsL_law wsX4_as := goodIn_r _ [641, 147, 55, 213, 214, 215, 5, 216, 150, 159, 160, 161, 169, 170, 171, 172, 676, 677, 678, 679, 680, 681, 682, 683, 684, 685, 686, 687, 688, 689, 690, 691, 692, 693, 694, 695, 696, 697, 698] (by decide +kernel) (by decide +kernel)
set_option maxRecDepth 20000 in
theorem gL_law_X4_as : GoodIn wsL_law (wsV RL 125 RX4 yX4_as wsX4_as) := goodIn_app (goodIn_of _ (by decide +kernel)) ggL_law_X4_as
set_option maxRecDepth 20000 in
theorem ggL_law_X3_trace : GoodIn wsL_law wsX3_trace := goodIn_r _ [645, 600, 666, 667, 668, 669, 670, 671, 672, 673, 674, 675] (by decide +kernel) (by decide +kernel)
set_option maxRecDepth 20000 in
theorem gL_law_X3_trace : GoodIn wsL_law (wsV RL 126 RX3 yX3_trace wsX3_trace) := goodIn_app (goodIn_of _ (by decide +kernel)) ggL_law_X3_trace
set_option maxRecDepth 20000 in
theorem ggL_law_X4_trace : GoodIn wsL_law wsX4_trace := goodIn_r _ [649, 617, 676, 677, 678, 679, 680, 681, 682, 683, 684, 685, 686, 687, 688, 689, 690, 691, 692, 693, 694, 695, 696, 697, 698] (by decide +kernel) (by decide +kernel)
set_option maxRecDepth 20000 in
theorem gL_law_X4_trace : GoodIn wsL_law (wsV RL 129 RX4 yX4_trace wsX4_trace) := goodIn_app (goodIn_of _ (by decide +kernel)) ggL_law_X4_trace
set_option maxRecDepth 20000 in
theorem ggL_law_X3_fault : GoodIn wsL_law wsX3_fault := goodIn_r _ [653, 27, 666, 667, 668, 669, 670, 671, 672, 673, 674, 675] (by decide +kernel) (by decide +kernel)
set_option maxRecDepth 20000 in
theorem gL_law_X3_fault : GoodIn wsL_law (wsV RL 130 RX3 yX3_fault wsX3_fault) := goodIn_app (goodIn_of _ (by decide +kernel)) ggL_law_X3_fault
set_option maxRecDepth 20000 in
theorem ggL_law_X4_fault : GoodIn wsL_law wsX4_fault := goodIn_r _ [657, 147, 676, 677, 678, 679, 680, 681, 682, 683, 684, 685, 686, 687, 688, 689, 690, 691, 692, 693, 694, 695, 696, 697, 698] (by decide +kernel) (by decide +kernel)
set_option maxRecDepth 20000 in
theorem gL_law_X4_fault : GoodIn wsL_law (wsV RL 133 RX4 yX4_fault wsX4_fault) := goodIn_app (goodIn_of _ (by decide +kernel)) ggL_law_X4_fault
set_option maxRecDepth 20000 in
theorem ggL_law_X3_many : GoodIn wsL_law wsX3_many := goodIn_r _ [661, 24, 138, 139, 140, 141, 23, 142, 97, 424, 425, 426, 427, 98, 237, 238, 239, 240, 129, 666, 667, 668, 669, 670, 671, 672, 673, 674, 675, 704, 705, 706, 707, 708, 709] (by decide +kernel) (by decide +kernel)
set_option maxRecDepth 20000 in
theorem gL_law_X3_many : GoodIn wsL_law (wsV RL 134 RX3 yX3_many wsX3_many) := goodIn_app (goodIn_of _ (by decide +kernel)) ggL_law_X3_many
set_option maxRecDepth 20000 in
theorem ggL_law_X4_many : GoodIn wsL_law wsX4_many := goodIn_r _ [665, 150, 154, 152, 155, 676, 677, 678, 679, 680, 681, 682, 683, 684, 685, 686, 687, 688, 689, 690, 691, 692, 693, 694, 695, 696, 697, 698] (by decide +kernel) (by decide +kernel)
set_option maxRecDepth 20000 in
theorem gL_law_X4_many : GoodIn wsL_law (wsV RL 137 RX4 yX4_many wsX4_many) := goodIn_app (goodIn_of _ (by decide +kernel)) ggL_law_X4_many
theorem dL_law_0 : decode cL_law 0 = .ok (.new 7, 3) := by decide +kernel
theorem dL_law_3 : decode cL_law 3 = .ok (.dup, 1) := by decide +kernel
theorem dL_law_4 : decode cL_law 4 = .ok (.invokespecial 9, 3) := by decide +kernel
theorem dL_law_7 : decode cL_law 7 = .ok (.astore_n 1, 1) := by decide +kernel
theorem dL_law_8 : decode cL_law 8 = .ok (.new 10, 3) := by decide +kernel
theorem dL_law_11 : decode cL_law 11 = .ok (.dup, 1) := by decide +kernel
theorem dL_law_12 : decode cL_law 12 = .ok (.invokespecial 12, 3) := by decide +kernel
theorem dL_law_15 : decode cL_law 15 = .ok (.astore_n 2, 1) := by decide +kernel
theorem dL_law_16 : decode cL_law 16 = .ok (.iconst 0, 1) := by decide +kernel
theorem dL_law_17 : decode cL_law 17 = .ok (.istore_n 3, 1) := by decide +kernel
theorem dL_law_18 : decode cL_law 18 = .ok (.iload_n 3, 1) := by decide +kernel
theorem dL_law_19 : decode cL_law 19 = .ok (.aload_n 0, 1) := by decide +kernel
theorem dL_law_20 : decode cL_law 20 = .ok (.arraylength, 1) := by decide +kernel
theorem dL_law_21 : decode cL_law 21 = .ok (.bipush 7, 2) := by decide +kernel
theorem dL_law_23 : decode cL_law 23 = .ok (.isub, 1) := by decide +kernel
theorem dL_law_24 : decode cL_law 24 = .ok (.if_icmp .gt 1048, 3) := by decide +kernel
theorem dL_law_27 : decode cL_law 27 = .ok (.aload_n 0, 1) := by decide +kernel
theorem dL_law_28 : decode cL_law 28 = .ok (.iload_n 3, 1) := by decide +kernel
theorem dL_law_29 : decode cL_law 29 = .ok (.iaload, 1) := by decide +kernel
theorem dL_law_30 : decode cL_law 30 = .ok (.bipush 31, 2) := by decide +kernel
theorem dL_law_32 : decode cL_law 32 = .ok (.iand, 1) := by decide +kernel
theorem dL_law_33 : decode cL_law 33 = .ok (.tableswitch 1033 0 28 #[131, 184, 217, 250, 273, 306, 381, 404, 427, 461, 494, 517, 540, 573, 596, 609, 632, 655, 689, 732, 755, 798, 842, 905, 928, 951, 984, 997, 1010], 131) := by decide +kernel
theorem dL_law_164 : decode cL_law 164 = .ok (.aload_n 1, 1) := by decide +kernel
theorem dL_law_165 : decode cL_law 165 = .ok (.aload_n 0, 1) := by decide +kernel
theorem dL_law_166 : decode cL_law 166 = .ok (.iload_n 3, 1) := by decide +kernel
theorem dL_law_167 : decode cL_law 167 = .ok (.iconst 1, 1) := by decide +kernel
theorem dL_law_168 : decode cL_law 168 = .ok (.iadd, 1) := by decide +kernel
theorem dL_law_169 : decode cL_law 169 = .ok (.iaload, 1) := by decide +kernel
theorem dL_law_170 : decode cL_law 170 = .ok (.aload_n 0, 1) := by decide +kernel
theorem dL_law_171 : decode cL_law 171 = .ok (.iload_n 3, 1) := by decide +kernel
theorem dL_law_172 : decode cL_law 172 = .ok (.iconst 2, 1) := by decide +kernel
theorem dL_law_173 : decode cL_law 173 = .ok (.iadd, 1) := by decide +kernel
theorem dL_law_174 : decode cL_law 174 = .ok (.iaload, 1) := by decide +kernel
theorem dL_law_175 : decode cL_law 175 = .ok (.aload_n 0, 1) := by decide +kernel
theorem dL_law_176 : decode cL_law 176 = .ok (.iload_n 3, 1) := by decide +kernel
theorem dL_law_177 : decode cL_law 177 = .ok (.iconst 3, 1) := by decide +kernel
theorem dL_law_178 : decode cL_law 178 = .ok (.iadd, 1) := by decide +kernel
theorem dL_law_179 : decode cL_law 179 = .ok (.iaload, 1) := by decide +kernel
theorem dL_law_180 : decode cL_law 180 = .ok (.aload_n 0, 1) := by decide +kernel
theorem dL_law_181 : decode cL_law 181 = .ok (.iload_n 3, 1) := by decide +kernel
theorem dL_law_182 : decode cL_law 182 = .ok (.iconst 4, 1) := by decide +kernel
theorem dL_law_183 : decode cL_law 183 = .ok (.iadd, 1) := by decide +kernel
theorem dL_law_184 : decode cL_law 184 = .ok (.iaload, 1) := by decide +kernel
theorem dL_law_185 : decode cL_law 185 = .ok (.invokevirtual 13, 3) := by decide +kernel
theorem dL_law_188 : decode cL_law 188 = .ok (.aload_n 2, 1) := by decide +kernel
theorem dL_law_189 : decode cL_law 189 = .ok (.aload_n 0, 1) := by decide +kernel
theorem dL_law_190 : decode cL_law 190 = .ok (.iload_n 3, 1) := by decide +kernel
theorem dL_law_191 : decode cL_law 191 = .ok (.iconst 1, 1) := by decide +kernel
theorem dL_law_192 : decode cL_law 192 = .ok (.iadd, 1) := by decide +kernel
theorem dL_law_193 : decode cL_law 193 = .ok (.iaload, 1) := by decide +kernel
theorem dL_law_194 : decode cL_law 194 = .ok (.aload_n 0, 1) := by decide +kernel
theorem dL_law_195 : decode cL_law 195 = .ok (.iload_n 3, 1) := by decide +kernel
theorem dL_law_196 : decode cL_law 196 = .ok (.iconst 2, 1) := by decide +kernel
theorem dL_law_197 : decode cL_law 197 = .ok (.iadd, 1) := by decide +kernel
theorem dL_law_198 : decode cL_law 198 = .ok (.iaload, 1) := by decide +kernel
theorem dL_law_199 : decode cL_law 199 = .ok (.aload_n 0, 1) := by decide +kernel
theorem dL_law_200 : decode cL_law 200 = .ok (.iload_n 3, 1) := by decide +kernel
theorem dL_law_201 : decode cL_law 201 = .ok (.iconst 3, 1) := by decide +kernel
theorem dL_law_202 : decode cL_law 202 = .ok (.iadd, 1) := by decide +kernel
theorem dL_law_203 : decode cL_law 203 = .ok (.iaload, 1) := by decide +kernel
theorem dL_law_204 : decode cL_law 204 = .ok (.aload_n 0, 1) := by decide +kernel
theorem dL_law_205 : decode cL_law 205 = .ok (.iload_n 3, 1) := by decide +kernel
theorem dL_law_206 : decode cL_law 206 = .ok (.iconst 4, 1) := by decide +kernel
theorem dL_law_207 : decode cL_law 207 = .ok (.iadd, 1) := by decide +kernel
theorem dL_law_208 : decode cL_law 208 = .ok (.iaload, 1) := by decide +kernel
theorem dL_law_209 : decode cL_law 209 = .ok (.invokevirtual 17, 3) := by decide +kernel
theorem dL_law_212 : decode cL_law 212 = .ok (.if_icmp .eq 854, 3) := by decide +kernel
theorem dL_law_215 : decode cL_law 215 = .ok (.iconst 0, 1) := by decide +kernel
theorem dL_law_216 : decode cL_law 216 = .ok (.ireturn, 1) := by decide +kernel
theorem dL_law_217 : decode cL_law 217 = .ok (.aload_n 1, 1) := by decide +kernel
theorem dL_law_218 : decode cL_law 218 = .ok (.aload_n 0, 1) := by decide +kernel
theorem dL_law_219 : decode cL_law 219 = .ok (.iload_n 3, 1) := by decide +kernel
theorem dL_law_220 : decode cL_law 220 = .ok (.iconst 1, 1) := by decide +kernel
theorem dL_law_221 : decode cL_law 221 = .ok (.iadd, 1) := by decide +kernel
theorem dL_law_222 : decode cL_law 222 = .ok (.iaload, 1) := by decide +kernel
theorem dL_law_223 : decode cL_law 223 = .ok (.aload_n 0, 1) := by decide +kernel
theorem dL_law_224 : decode cL_law 224 = .ok (.iload_n 3, 1) := by decide +kernel
theorem dL_law_225 : decode cL_law 225 = .ok (.iconst 2, 1) := by decide +kernel
theorem dL_law_226 : decode cL_law 226 = .ok (.iadd, 1) := by decide +kernel
theorem dL_law_227 : decode cL_law 227 = .ok (.iaload, 1) := by decide +kernel
theorem dL_law_228 : decode cL_law 228 = .ok (.invokevirtual 18, 3) := by decide +kernel
theorem dL_law_231 : decode cL_law 231 = .ok (.aload_n 2, 1) := by decide +kernel
theorem dL_law_232 : decode cL_law 232 = .ok (.aload_n 0, 1) := by decide +kernel
theorem dL_law_233 : decode cL_law 233 = .ok (.iload_n 3, 1) := by decide +kernel
theorem dL_law_234 : decode cL_law 234 = .ok (.iconst 1, 1) := by decide +kernel
theorem dL_law_235 : decode cL_law 235 = .ok (.iadd, 1) := by decide +kernel
theorem dL_law_236 : decode cL_law 236 = .ok (.iaload, 1) := by decide +kernel
theorem dL_law_237 : decode cL_law 237 = .ok (.aload_n 0, 1) := by decide +kernel
theorem dL_law_238 : decode cL_law 238 = .ok (.iload_n 3, 1) := by decide +kernel
theorem dL_law_239 : decode cL_law 239 = .ok (.iconst 2, 1) := by decide +kernel
theorem dL_law_240 : decode cL_law 240 = .ok (.iadd, 1) := by decide +kernel
theorem dL_law_241 : decode cL_law 241 = .ok (.iaload, 1) := by decide +kernel
theorem dL_law_242 : decode cL_law 242 = .ok (.invokevirtual 22, 3) := by decide +kernel
theorem dL_law_245 : decode cL_law 245 = .ok (.if_icmp .eq 821, 3) := by decide +kernel
theorem dL_law_248 : decode cL_law 248 = .ok (.iconst 0, 1) := by decide +kernel
theorem dL_law_249 : decode cL_law 249 = .ok (.ireturn, 1) := by decide +kernel
theorem dL_law_250 : decode cL_law 250 = .ok (.aload_n 1, 1) := by decide +kernel
theorem dL_law_251 : decode cL_law 251 = .ok (.aload_n 0, 1) := by decide +kernel
theorem dL_law_252 : decode cL_law 252 = .ok (.iload_n 3, 1) := by decide +kernel
theorem dL_law_253 : decode cL_law 253 = .ok (.iconst 1, 1) := by decide +kernel
theorem dL_law_254 : decode cL_law 254 = .ok (.iadd, 1) := by decide +kernel
theorem dL_law_255 : decode cL_law 255 = .ok (.iaload, 1) := by decide +kernel
theorem dL_law_256 : decode cL_law 256 = .ok (.aload_n 0, 1) := by decide +kernel
theorem dL_law_257 : decode cL_law 257 = .ok (.iload_n 3, 1) := by decide +kernel
theorem dL_law_258 : decode cL_law 258 = .ok (.iconst 2, 1) := by decide +kernel
theorem dL_law_259 : decode cL_law 259 = .ok (.iadd, 1) := by decide +kernel
theorem dL_law_260 : decode cL_law 260 = .ok (.iaload, 1) := by decide +kernel
theorem dL_law_261 : decode cL_law 261 = .ok (.invokevirtual 23, 3) := by decide +kernel
theorem dL_law_264 : decode cL_law 264 = .ok (.aload_n 2, 1) := by decide +kernel
theorem dL_law_265 : decode cL_law 265 = .ok (.aload_n 0, 1) := by decide +kernel
theorem dL_law_266 : decode cL_law 266 = .ok (.iload_n 3, 1) := by decide +kernel
theorem dL_law_267 : decode cL_law 267 = .ok (.iconst 1, 1) := by decide +kernel
theorem dL_law_268 : decode cL_law 268 = .ok (.iadd, 1) := by decide +kernel
theorem dL_law_269 : decode cL_law 269 = .ok (.iaload, 1) := by decide +kernel
theorem dL_law_270 : decode cL_law 270 = .ok (.aload_n 0, 1) := by decide +kernel
theorem dL_law_271 : decode cL_law 271 = .ok (.iload_n 3, 1) := by decide +kernel
theorem dL_law_272 : decode cL_law 272 = .ok (.iconst 2, 1) := by decide +kernel
theorem dL_law_273 : decode cL_law 273 = .ok (.iadd, 1) := by decide +kernel
theorem dL_law_274 : decode cL_law 274 = .ok (.iaload, 1) := by decide +kernel
theorem dL_law_275 : decode cL_law 275 = .ok (.invokevirtual 26, 3) := by decide +kernel
theorem dL_law_278 : decode cL_law 278 = .ok (.if_icmp .eq 788, 3) := by decide +kernel
theorem dL_law_281 : decode cL_law 281 = .ok (.iconst 0, 1) := by decide +kernel
theorem dL_law_282 : decode cL_law 282 = .ok (.ireturn, 1) := by decide +kernel
theorem dL_law_283 : decode cL_law 283 = .ok (.aload_n 1, 1) := by decide +kernel
theorem dL_law_284 : decode cL_law 284 = .ok (.aload_n 0, 1) := by decide +kernel
theorem dL_law_285 : decode cL_law 285 = .ok (.iload_n 3, 1) := by decide +kernel
theorem dL_law_286 : decode cL_law 286 = .ok (.iconst 1, 1) := by decide +kernel
theorem dL_law_287 : decode cL_law 287 = .ok (.iadd, 1) := by decide +kernel
theorem dL_law_288 : decode cL_law 288 = .ok (.iaload, 1) := by decide +kernel
theorem dL_law_289 : decode cL_law 289 = .ok (.invokevirtual 27, 3) := by decide +kernel
theorem dL_law_292 : decode cL_law 292 = .ok (.aload_n 2, 1) := by decide +kernel
theorem dL_law_293 : decode cL_law 293 = .ok (.aload_n 0, 1) := by decide +kernel
theorem dL_law_294 : decode cL_law 294 = .ok (.iload_n 3, 1) := by decide +kernel
theorem dL_law_295 : decode cL_law 295 = .ok (.iconst 1, 1) := by decide +kernel
theorem dL_law_296 : decode cL_law 296 = .ok (.iadd, 1) := by decide +kernel
theorem dL_law_297 : decode cL_law 297 = .ok (.iaload, 1) := by decide +kernel
theorem dL_law_298 : decode cL_law 298 = .ok (.invokevirtual 31, 3) := by decide +kernel
theorem dL_law_301 : decode cL_law 301 = .ok (.if_icmp .eq 765, 3) := by decide +kernel
theorem dL_law_304 : decode cL_law 304 = .ok (.iconst 0, 1) := by decide +kernel
theorem dL_law_305 : decode cL_law 305 = .ok (.ireturn, 1) := by decide +kernel
theorem dL_law_306 : decode cL_law 306 = .ok (.aload_n 1, 1) := by decide +kernel
theorem dL_law_307 : decode cL_law 307 = .ok (.aload_n 0, 1) := by decide +kernel
theorem dL_law_308 : decode cL_law 308 = .ok (.iload_n 3, 1) := by decide +kernel
theorem dL_law_309 : decode cL_law 309 = .ok (.iconst 1, 1) := by decide +kernel
theorem dL_law_310 : decode cL_law 310 = .ok (.iadd, 1) := by decide +kernel
theorem dL_law_311 : decode cL_law 311 = .ok (.iaload, 1) := by decide +kernel
theorem dL_law_312 : decode cL_law 312 = .ok (.aload_n 0, 1) := by decide +kernel
theorem dL_law_313 : decode cL_law 313 = .ok (.iload_n 3, 1) := by decide +kernel
theorem dL_law_314 : decode cL_law 314 = .ok (.iconst 2, 1) := by decide +kernel
theorem dL_law_315 : decode cL_law 315 = .ok (.iadd, 1) := by decide +kernel
theorem dL_law_316 : decode cL_law 316 = .ok (.iaload, 1) := by decide +kernel
theorem dL_law_317 : decode cL_law 317 = .ok (.invokevirtual 32, 3) := by decide +kernel
theorem dL_law_320 : decode cL_law 320 = .ok (.aload_n 2, 1) := by decide +kernel
theorem dL_law_321 : decode cL_law 321 = .ok (.aload_n 0, 1) := by decide +kernel
theorem dL_law_322 : decode cL_law 322 = .ok (.iload_n 3, 1) := by decide +kernel
theorem dL_law_323 : decode cL_law 323 = .ok (.iconst 1, 1) := by decide +kernel
theorem dL_law_324 : decode cL_law 324 = .ok (.iadd, 1) := by decide +kernel
theorem dL_law_325 : decode cL_law 325 = .ok (.iaload, 1) := by decide +kernel
theorem dL_law_326 : decode cL_law 326 = .ok (.aload_n 0, 1) := by decide +kernel
theorem dL_law_327 : decode cL_law 327 = .ok (.iload_n 3, 1) := by decide +kernel
theorem dL_law_328 : decode cL_law 328 = .ok (.iconst 2, 1) := by decide +kernel
theorem dL_law_329 : decode cL_law 329 = .ok (.iadd, 1) := by decide +kernel
theorem dL_law_330 : decode cL_law 330 = .ok (.iaload, 1) := by decide +kernel
theorem dL_law_331 : decode cL_law 331 = .ok (.invokevirtual 35, 3) := by decide +kernel
theorem dL_law_334 : decode cL_law 334 = .ok (.if_icmp .eq 732, 3) := by decide +kernel
theorem dL_law_337 : decode cL_law 337 = .ok (.iconst 0, 1) := by decide +kernel
theorem dL_law_338 : decode cL_law 338 = .ok (.ireturn, 1) := by decide +kernel
theorem dL_law_339 : decode cL_law 339 = .ok (.aload_n 1, 1) := by decide +kernel
theorem dL_law_340 : decode cL_law 340 = .ok (.aload_n 0, 1) := by decide +kernel
theorem dL_law_341 : decode cL_law 341 = .ok (.iload_n 3, 1) := by decide +kernel
theorem dL_law_342 : decode cL_law 342 = .ok (.iconst 1, 1) := by decide +kernel
theorem dL_law_343 : decode cL_law 343 = .ok (.iadd, 1) := by decide +kernel
theorem dL_law_344 : decode cL_law 344 = .ok (.iaload, 1) := by decide +kernel
theorem dL_law_345 : decode cL_law 345 = .ok (.aload_n 0, 1) := by decide +kernel
theorem dL_law_346 : decode cL_law 346 = .ok (.iload_n 3, 1) := by decide +kernel
theorem dL_law_347 : decode cL_law 347 = .ok (.iconst 2, 1) := by decide +kernel
theorem dL_law_348 : decode cL_law 348 = .ok (.iadd, 1) := by decide +kernel
theorem dL_law_349 : decode cL_law 349 = .ok (.iaload, 1) := by decide +kernel
theorem dL_law_350 : decode cL_law 350 = .ok (.aload_n 0, 1) := by decide +kernel
theorem dL_law_351 : decode cL_law 351 = .ok (.iload_n 3, 1) := by decide +kernel
theorem dL_law_352 : decode cL_law 352 = .ok (.iconst 3, 1) := by decide +kernel
theorem dL_law_353 : decode cL_law 353 = .ok (.iadd, 1) := by decide +kernel
theorem dL_law_354 : decode cL_law 354 = .ok (.iaload, 1) := by decide +kernel
theorem dL_law_355 : decode cL_law 355 = .ok (.aload_n 0, 1) := by decide +kernel
theorem dL_law_356 : decode cL_law 356 = .ok (.iload_n 3, 1) := by decide +kernel
theorem dL_law_357 : decode cL_law 357 = .ok (.iconst 4, 1) := by decide +kernel
theorem dL_law_358 : decode cL_law 358 = .ok (.iadd, 1) := by decide +kernel
theorem dL_law_359 : decode cL_law 359 = .ok (.iaload, 1) := by decide +kernel
theorem dL_law_360 : decode cL_law 360 = .ok (.aload_n 0, 1) := by decide +kernel
theorem dL_law_361 : decode cL_law 361 = .ok (.iload_n 3, 1) := by decide +kernel
theorem dL_law_362 : decode cL_law 362 = .ok (.iconst 5, 1) := by decide +kernel
theorem dL_law_363 : decode cL_law 363 = .ok (.iadd, 1) := by decide +kernel
theorem dL_law_364 : decode cL_law 364 = .ok (.iaload, 1) := by decide +kernel
theorem dL_law_365 : decode cL_law 365 = .ok (.aload_n 0, 1) := by decide +kernel
theorem dL_law_366 : decode cL_law 366 = .ok (.iload_n 3, 1) := by decide +kernel
theorem dL_law_367 : decode cL_law 367 = .ok (.bipush 6, 2) := by decide +kernel
theorem dL_law_369 : decode cL_law 369 = .ok (.iadd, 1) := by decide +kernel
theorem dL_law_370 : decode cL_law 370 = .ok (.iaload, 1) := by decide +kernel
theorem dL_law_371 : decode cL_law 371 = .ok (.invokevirtual 36, 3) := by decide +kernel
theorem dL_law_374 : decode cL_law 374 = .ok (.aload_n 2, 1) := by decide +kernel
theorem dL_law_375 : decode cL_law 375 = .ok (.aload_n 0, 1) := by decide +kernel
theorem dL_law_376 : decode cL_law 376 = .ok (.iload_n 3, 1) := by decide +kernel
theorem dL_law_377 : decode cL_law 377 = .ok (.iconst 1, 1) := by decide +kernel
theorem dL_law_378 : decode cL_law 378 = .ok (.iadd, 1) := by decide +kernel
theorem dL_law_379 : decode cL_law 379 = .ok (.iaload, 1) := by decide +kernel
theorem dL_law_380 : decode cL_law 380 = .ok (.aload_n 0, 1) := by decide +kernel
theorem dL_law_381 : decode cL_law 381 = .ok (.iload_n 3, 1) := by decide +kernel
theorem dL_law_382 : decode cL_law 382 = .ok (.iconst 2, 1) := by decide +kernel
theorem dL_law_383 : decode cL_law 383 = .ok (.iadd, 1) := by decide +kernel
theorem dL_law_384 : decode cL_law 384 = .ok (.iaload, 1) := by decide +kernel
theorem dL_law_385 : decode cL_law 385 = .ok (.aload_n 0, 1) := by decide +kernel
theorem dL_law_386 : decode cL_law 386 = .ok (.iload_n 3, 1) := by decide +kernel
theorem dL_law_387 : decode cL_law 387 = .ok (.iconst 3, 1) := by decide +kernel
theorem dL_law_388 : decode cL_law 388 = .ok (.iadd, 1) := by decide +kernel
theorem dL_law_389 : decode cL_law 389 = .ok (.iaload, 1) := by decide +kernel
theorem dL_law_390 : decode cL_law 390 = .ok (.aload_n 0, 1) := by decide +kernel
theorem dL_law_391 : decode cL_law 391 = .ok (.iload_n 3, 1) := by decide +kernel
theorem dL_law_392 : decode cL_law 392 = .ok (.iconst 4, 1) := by decide +kernel
theorem dL_law_393 : decode cL_law 393 = .ok (.iadd, 1) := by decide +kernel
theorem dL_law_394 : decode cL_law 394 = .ok (.iaload, 1) := by decide +kernel
theorem dL_law_395 : decode cL_law 395 = .ok (.aload_n 0, 1) := by decide +kernel
theorem dL_law_396 : decode cL_law 396 = .ok (.iload_n 3, 1) := by decide +kernel
theorem dL_law_397 : decode cL_law 397 = .ok (.iconst 5, 1) := by decide +kernel
theorem dL_law_398 : decode cL_law 398 = .ok (.iadd, 1) := by decide +kernel
theorem dL_law_399 : decode cL_law 399 = .ok (.iaload, 1) := by decide +kernel
theorem dL_law_400 : decode cL_law 400 = .ok (.aload_n 0, 1) := by decide +kernel
theorem dL_law_401 : decode cL_law 401 = .ok (.iload_n 3, 1) := by decide +kernel
theorem dL_law_402 : decode cL_law 402 = .ok (.bipush 6, 2) := by decide +kernel
theorem dL_law_404 : decode cL_law 404 = .ok (.iadd, 1) := by decide +kernel
theorem dL_law_405 : decode cL_law 405 = .ok (.iaload, 1) := by decide +kernel
theorem dL_law_406 : decode cL_law 406 = .ok (.invokevirtual 40, 3) := by decide +kernel
theorem dL_law_409 : decode cL_law 409 = .ok (.if_icmp .eq 657, 3) := by decide +kernel
theorem dL_law_412 : decode cL_law 412 = .ok (.iconst 0, 1) := by decide +kernel
theorem dL_law_413 : decode cL_law 413 = .ok (.ireturn, 1) := by decide +kernel
theorem dL_law_414 : decode cL_law 414 = .ok (.aload_n 1, 1) := by decide +kernel
theorem dL_law_415 : decode cL_law 415 = .ok (.aload_n 0, 1) := by decide +kernel
theorem dL_law_416 : decode cL_law 416 = .ok (.iload_n 3, 1) := by decide +kernel
theorem dL_law_417 : decode cL_law 417 = .ok (.iconst 1, 1) := by decide +kernel
theorem dL_law_418 : decode cL_law 418 = .ok (.iadd, 1) := by decide +kernel
theorem dL_law_419 : decode cL_law 419 = .ok (.iaload, 1) := by decide +kernel
theorem dL_law_420 : decode cL_law 420 = .ok (.invokevirtual 41, 3) := by decide +kernel
theorem dL_law_423 : decode cL_law 423 = .ok (.aload_n 2, 1) := by decide +kernel
theorem dL_law_424 : decode cL_law 424 = .ok (.aload_n 0, 1) := by decide +kernel
theorem dL_law_425 : decode cL_law 425 = .ok (.iload_n 3, 1) := by decide +kernel
theorem dL_law_426 : decode cL_law 426 = .ok (.iconst 1, 1) := by decide +kernel
theorem dL_law_427 : decode cL_law 427 = .ok (.iadd, 1) := by decide +kernel
theorem dL_law_428 : decode cL_law 428 = .ok (.iaload, 1) := by decide +kernel
theorem dL_law_429 : decode cL_law 429 = .ok (.invokevirtual 44, 3) := by decide +kernel
theorem dL_law_432 : decode cL_law 432 = .ok (.if_icmp .eq 634, 3) := by decide +kernel
theorem dL_law_435 : decode cL_law 435 = .ok (.iconst 0, 1) := by decide +kernel
theorem dL_law_436 : decode cL_law 436 = .ok (.ireturn, 1) := by decide +kernel
theorem dL_law_437 : decode cL_law 437 = .ok (.aload_n 1, 1) := by decide +kernel
theorem dL_law_438 : decode cL_law 438 = .ok (.aload_n 0, 1) := by decide +kernel
theorem dL_law_439 : decode cL_law 439 = .ok (.iload_n 3, 1) := by decide +kernel
theorem dL_law_440 : decode cL_law 440 = .ok (.iconst 1, 1) := by decide +kernel
theorem dL_law_441 : decode cL_law 441 = .ok (.iadd, 1) := by decide +kernel
theorem dL_law_442 : decode cL_law 442 = .ok (.iaload, 1) := by decide +kernel
theorem dL_law_443 : decode cL_law 443 = .ok (.invokevirtual 45, 3) := by decide +kernel
theorem dL_law_446 : decode cL_law 446 = .ok (.aload_n 2, 1) := by decide +kernel
theorem dL_law_447 : decode cL_law 447 = .ok (.aload_n 0, 1) := by decide +kernel
theorem dL_law_448 : decode cL_law 448 = .ok (.iload_n 3, 1) := by decide +kernel
theorem dL_law_449 : decode cL_law 449 = .ok (.iconst 1, 1) := by decide +kernel
theorem dL_law_450 : decode cL_law 450 = .ok (.iadd, 1) := by decide +kernel
theorem dL_law_451 : decode cL_law 451 = .ok (.iaload, 1) := by decide +kernel
theorem dL_law_452 : decode cL_law 452 = .ok (.invokevirtual 48, 3) := by decide +kernel
theorem dL_law_455 : decode cL_law 455 = .ok (.if_icmp .eq 611, 3) := by decide +kernel
theorem dL_law_458 : decode cL_law 458 = .ok (.iconst 0, 1) := by decide +kernel
theorem dL_law_459 : decode cL_law 459 = .ok (.ireturn, 1) := by decide +kernel
theorem dL_law_460 : decode cL_law 460 = .ok (.aload_n 1, 1) := by decide +kernel
theorem dL_law_461 : decode cL_law 461 = .ok (.aload_n 0, 1) := by decide +kernel
theorem dL_law_462 : decode cL_law 462 = .ok (.iload_n 3, 1) := by decide +kernel
theorem dL_law_463 : decode cL_law 463 = .ok (.iconst 1, 1) := by decide +kernel
theorem dL_law_464 : decode cL_law 464 = .ok (.iadd, 1) := by decide +kernel
theorem dL_law_465 : decode cL_law 465 = .ok (.iaload, 1) := by decide +kernel
theorem dL_law_466 : decode cL_law 466 = .ok (.aload_n 0, 1) := by decide +kernel
theorem dL_law_467 : decode cL_law 467 = .ok (.iload_n 3, 1) := by decide +kernel
theorem dL_law_468 : decode cL_law 468 = .ok (.iconst 2, 1) := by decide +kernel
theorem dL_law_469 : decode cL_law 469 = .ok (.iadd, 1) := by decide +kernel
theorem dL_law_470 : decode cL_law 470 = .ok (.iaload, 1) := by decide +kernel
theorem dL_law_471 : decode cL_law 471 = .ok (.invokevirtual 49, 3) := by decide +kernel
theorem dL_law_474 : decode cL_law 474 = .ok (.aload_n 2, 1) := by decide +kernel
theorem dL_law_475 : decode cL_law 475 = .ok (.aload_n 0, 1) := by decide +kernel
theorem dL_law_476 : decode cL_law 476 = .ok (.iload_n 3, 1) := by decide +kernel
theorem dL_law_477 : decode cL_law 477 = .ok (.iconst 1, 1) := by decide +kernel
theorem dL_law_478 : decode cL_law 478 = .ok (.iadd, 1) := by decide +kernel
theorem dL_law_479 : decode cL_law 479 = .ok (.iaload, 1) := by decide +kernel
theorem dL_law_480 : decode cL_law 480 = .ok (.aload_n 0, 1) := by decide +kernel
theorem dL_law_481 : decode cL_law 481 = .ok (.iload_n 3, 1) := by decide +kernel
theorem dL_law_482 : decode cL_law 482 = .ok (.iconst 2, 1) := by decide +kernel
theorem dL_law_483 : decode cL_law 483 = .ok (.iadd, 1) := by decide +kernel
theorem dL_law_484 : decode cL_law 484 = .ok (.iaload, 1) := by decide +kernel
theorem dL_law_485 : decode cL_law 485 = .ok (.invokevirtual 53, 3) := by decide +kernel
theorem dL_law_488 : decode cL_law 488 = .ok (.lcmp, 1) := by decide +kernel
theorem dL_law_489 : decode cL_law 489 = .ok (.ifCond .eq 577, 3) := by decide +kernel
theorem dL_law_492 : decode cL_law 492 = .ok (.iconst 0, 1) := by decide +kernel
theorem dL_law_493 : decode cL_law 493 = .ok (.ireturn, 1) := by decide +kernel
theorem dL_law_494 : decode cL_law 494 = .ok (.aload_n 1, 1) := by decide +kernel
theorem dL_law_495 : decode cL_law 495 = .ok (.aload_n 0, 1) := by decide +kernel
theorem dL_law_496 : decode cL_law 496 = .ok (.iload_n 3, 1) := by decide +kernel
theorem dL_law_497 : decode cL_law 497 = .ok (.iconst 1, 1) := by decide +kernel
theorem dL_law_498 : decode cL_law 498 = .ok (.iadd, 1) := by decide +kernel
theorem dL_law_499 : decode cL_law 499 = .ok (.iaload, 1) := by decide +kernel
theorem dL_law_500 : decode cL_law 500 = .ok (.aload_n 0, 1) := by decide +kernel
theorem dL_law_501 : decode cL_law 501 = .ok (.iload_n 3, 1) := by decide +kernel
theorem dL_law_502 : decode cL_law 502 = .ok (.iconst 2, 1) := by decide +kernel
theorem dL_law_503 : decode cL_law 503 = .ok (.iadd, 1) := by decide +kernel
theorem dL_law_504 : decode cL_law 504 = .ok (.iaload, 1) := by decide +kernel
theorem dL_law_505 : decode cL_law 505 = .ok (.invokevirtual 54, 3) := by decide +kernel
theorem dL_law_508 : decode cL_law 508 = .ok (.aload_n 2, 1) := by decide +kernel
theorem dL_law_509 : decode cL_law 509 = .ok (.aload_n 0, 1) := by decide +kernel
theorem dL_law_510 : decode cL_law 510 = .ok (.iload_n 3, 1) := by decide +kernel
theorem dL_law_511 : decode cL_law 511 = .ok (.iconst 1, 1) := by decide +kernel
theorem dL_law_512 : decode cL_law 512 = .ok (.iadd, 1) := by decide +kernel
theorem dL_law_513 : decode cL_law 513 = .ok (.iaload, 1) := by decide +kernel
theorem dL_law_514 : decode cL_law 514 = .ok (.aload_n 0, 1) := by decide +kernel
theorem dL_law_515 : decode cL_law 515 = .ok (.iload_n 3, 1) := by decide +kernel
theorem dL_law_516 : decode cL_law 516 = .ok (.iconst 2, 1) := by decide +kernel
theorem dL_law_517 : decode cL_law 517 = .ok (.iadd, 1) := by decide +kernel
theorem dL_law_518 : decode cL_law 518 = .ok (.iaload, 1) := by decide +kernel
theorem dL_law_519 : decode cL_law 519 = .ok (.invokevirtual 57, 3) := by decide +kernel
theorem dL_law_522 : decode cL_law 522 = .ok (.if_icmp .eq 544, 3) := by decide +kernel
theorem dL_law_525 : decode cL_law 525 = .ok (.iconst 0, 1) := by decide +kernel
theorem dL_law_526 : decode cL_law 526 = .ok (.ireturn, 1) := by decide +kernel
theorem dL_law_527 : decode cL_law 527 = .ok (.aload_n 1, 1) := by decide +kernel
theorem dL_law_528 : decode cL_law 528 = .ok (.aload_n 0, 1) := by decide +kernel
theorem dL_law_529 : decode cL_law 529 = .ok (.iload_n 3, 1) := by decide +kernel
theorem dL_law_530 : decode cL_law 530 = .ok (.iconst 1, 1) := by decide +kernel
theorem dL_law_531 : decode cL_law 531 = .ok (.iadd, 1) := by decide +kernel
theorem dL_law_532 : decode cL_law 532 = .ok (.iaload, 1) := by decide +kernel
theorem dL_law_533 : decode cL_law 533 = .ok (.invokevirtual 58, 3) := by decide +kernel
theorem dL_law_536 : decode cL_law 536 = .ok (.aload_n 2, 1) := by decide +kernel
theorem dL_law_537 : decode cL_law 537 = .ok (.aload_n 0, 1) := by decide +kernel
theorem dL_law_538 : decode cL_law 538 = .ok (.iload_n 3, 1) := by decide +kernel
theorem dL_law_539 : decode cL_law 539 = .ok (.iconst 1, 1) := by decide +kernel
theorem dL_law_540 : decode cL_law 540 = .ok (.iadd, 1) := by decide +kernel
theorem dL_law_541 : decode cL_law 541 = .ok (.iaload, 1) := by decide +kernel
theorem dL_law_542 : decode cL_law 542 = .ok (.invokevirtual 61, 3) := by decide +kernel
theorem dL_law_545 : decode cL_law 545 = .ok (.if_icmp .eq 521, 3) := by decide +kernel
theorem dL_law_548 : decode cL_law 548 = .ok (.iconst 0, 1) := by decide +kernel
theorem dL_law_549 : decode cL_law 549 = .ok (.ireturn, 1) := by decide +kernel
theorem dL_law_550 : decode cL_law 550 = .ok (.aload_n 1, 1) := by decide +kernel
theorem dL_law_551 : decode cL_law 551 = .ok (.aload_n 0, 1) := by decide +kernel
theorem dL_law_552 : decode cL_law 552 = .ok (.iload_n 3, 1) := by decide +kernel
theorem dL_law_553 : decode cL_law 553 = .ok (.iconst 1, 1) := by decide +kernel
theorem dL_law_554 : decode cL_law 554 = .ok (.iadd, 1) := by decide +kernel
theorem dL_law_555 : decode cL_law 555 = .ok (.iaload, 1) := by decide +kernel
theorem dL_law_556 : decode cL_law 556 = .ok (.invokevirtual 62, 3) := by decide +kernel
theorem dL_law_559 : decode cL_law 559 = .ok (.aload_n 2, 1) := by decide +kernel
theorem dL_law_560 : decode cL_law 560 = .ok (.aload_n 0, 1) := by decide +kernel
theorem dL_law_561 : decode cL_law 561 = .ok (.iload_n 3, 1) := by decide +kernel
theorem dL_law_562 : decode cL_law 562 = .ok (.iconst 1, 1) := by decide +kernel
theorem dL_law_563 : decode cL_law 563 = .ok (.iadd, 1) := by decide +kernel
theorem dL_law_564 : decode cL_law 564 = .ok (.iaload, 1) := by decide +kernel
theorem dL_law_565 : decode cL_law 565 = .ok (.invokevirtual 65, 3) := by decide +kernel
theorem dL_law_568 : decode cL_law 568 = .ok (.if_icmp .eq 498, 3) := by decide +kernel
theorem dL_law_571 : decode cL_law 571 = .ok (.iconst 0, 1) := by decide +kernel
theorem dL_law_572 : decode cL_law 572 = .ok (.ireturn, 1) := by decide +kernel
theorem dL_law_573 : decode cL_law 573 = .ok (.aload_n 1, 1) := by decide +kernel
theorem dL_law_574 : decode cL_law 574 = .ok (.aload_n 0, 1) := by decide +kernel
theorem dL_law_575 : decode cL_law 575 = .ok (.iload_n 3, 1) := by decide +kernel
theorem dL_law_576 : decode cL_law 576 = .ok (.iconst 1, 1) := by decide +kernel
theorem dL_law_577 : decode cL_law 577 = .ok (.iadd, 1) := by decide +kernel
theorem dL_law_578 : decode cL_law 578 = .ok (.iaload, 1) := by decide +kernel
theorem dL_law_579 : decode cL_law 579 = .ok (.aload_n 0, 1) := by decide +kernel
theorem dL_law_580 : decode cL_law 580 = .ok (.iload_n 3, 1) := by decide +kernel
theorem dL_law_581 : decode cL_law 581 = .ok (.iconst 2, 1) := by decide +kernel
theorem dL_law_582 : decode cL_law 582 = .ok (.iadd, 1) := by decide +kernel
theorem dL_law_583 : decode cL_law 583 = .ok (.iaload, 1) := by decide +kernel
theorem dL_law_584 : decode cL_law 584 = .ok (.invokevirtual 66, 3) := by decide +kernel
theorem dL_law_587 : decode cL_law 587 = .ok (.aload_n 2, 1) := by decide +kernel
theorem dL_law_588 : decode cL_law 588 = .ok (.aload_n 0, 1) := by decide +kernel
theorem dL_law_589 : decode cL_law 589 = .ok (.iload_n 3, 1) := by decide +kernel
theorem dL_law_590 : decode cL_law 590 = .ok (.iconst 1, 1) := by decide +kernel
theorem dL_law_591 : decode cL_law 591 = .ok (.iadd, 1) := by decide +kernel
theorem dL_law_592 : decode cL_law 592 = .ok (.iaload, 1) := by decide +kernel
theorem dL_law_593 : decode cL_law 593 = .ok (.aload_n 0, 1) := by decide +kernel
theorem dL_law_594 : decode cL_law 594 = .ok (.iload_n 3, 1) := by decide +kernel
theorem dL_law_595 : decode cL_law 595 = .ok (.iconst 2, 1) := by decide +kernel
theorem dL_law_596 : decode cL_law 596 = .ok (.iadd, 1) := by decide +kernel
theorem dL_law_597 : decode cL_law 597 = .ok (.iaload, 1) := by decide +kernel
theorem dL_law_598 : decode cL_law 598 = .ok (.invokevirtual 69, 3) := by decide +kernel
theorem dL_law_601 : decode cL_law 601 = .ok (.if_icmp .eq 465, 3) := by decide +kernel
theorem dL_law_604 : decode cL_law 604 = .ok (.iconst 0, 1) := by decide +kernel
theorem dL_law_605 : decode cL_law 605 = .ok (.ireturn, 1) := by decide +kernel
theorem dL_law_606 : decode cL_law 606 = .ok (.aload_n 1, 1) := by decide +kernel
theorem dL_law_607 : decode cL_law 607 = .ok (.aload_n 0, 1) := by decide +kernel
theorem dL_law_608 : decode cL_law 608 = .ok (.iload_n 3, 1) := by decide +kernel
theorem dL_law_609 : decode cL_law 609 = .ok (.iconst 1, 1) := by decide +kernel
theorem dL_law_610 : decode cL_law 610 = .ok (.iadd, 1) := by decide +kernel
theorem dL_law_611 : decode cL_law 611 = .ok (.iaload, 1) := by decide +kernel
theorem dL_law_612 : decode cL_law 612 = .ok (.invokevirtual 70, 3) := by decide +kernel
theorem dL_law_615 : decode cL_law 615 = .ok (.aload_n 2, 1) := by decide +kernel
theorem dL_law_616 : decode cL_law 616 = .ok (.aload_n 0, 1) := by decide +kernel
theorem dL_law_617 : decode cL_law 617 = .ok (.iload_n 3, 1) := by decide +kernel
theorem dL_law_618 : decode cL_law 618 = .ok (.iconst 1, 1) := by decide +kernel
theorem dL_law_619 : decode cL_law 619 = .ok (.iadd, 1) := by decide +kernel
theorem dL_law_620 : decode cL_law 620 = .ok (.iaload, 1) := by decide +kernel
theorem dL_law_621 : decode cL_law 621 = .ok (.invokevirtual 73, 3) := by decide +kernel
theorem dL_law_624 : decode cL_law 624 = .ok (.if_icmp .eq 442, 3) := by decide +kernel
theorem dL_law_627 : decode cL_law 627 = .ok (.iconst 0, 1) := by decide +kernel
theorem dL_law_628 : decode cL_law 628 = .ok (.ireturn, 1) := by decide +kernel
theorem dL_law_629 : decode cL_law 629 = .ok (.aload_n 1, 1) := by decide +kernel
theorem dL_law_630 : decode cL_law 630 = .ok (.invokevirtual 74, 3) := by decide +kernel
theorem dL_law_633 : decode cL_law 633 = .ok (.aload_n 2, 1) := by decide +kernel
theorem dL_law_634 : decode cL_law 634 = .ok (.invokevirtual 78, 3) := by decide +kernel
theorem dL_law_637 : decode cL_law 637 = .ok (.if_icmp .eq 429, 3) := by decide +kernel
theorem dL_law_640 : decode cL_law 640 = .ok (.iconst 0, 1) := by decide +kernel
theorem dL_law_641 : decode cL_law 641 = .ok (.ireturn, 1) := by decide +kernel
theorem dL_law_642 : decode cL_law 642 = .ok (.aload_n 1, 1) := by decide +kernel
theorem dL_law_643 : decode cL_law 643 = .ok (.aload_n 0, 1) := by decide +kernel
theorem dL_law_644 : decode cL_law 644 = .ok (.iload_n 3, 1) := by decide +kernel
theorem dL_law_645 : decode cL_law 645 = .ok (.iconst 1, 1) := by decide +kernel
theorem dL_law_646 : decode cL_law 646 = .ok (.iadd, 1) := by decide +kernel
theorem dL_law_647 : decode cL_law 647 = .ok (.iaload, 1) := by decide +kernel
theorem dL_law_648 : decode cL_law 648 = .ok (.invokevirtual 79, 3) := by decide +kernel
theorem dL_law_651 : decode cL_law 651 = .ok (.aload_n 2, 1) := by decide +kernel
theorem dL_law_652 : decode cL_law 652 = .ok (.aload_n 0, 1) := by decide +kernel
theorem dL_law_653 : decode cL_law 653 = .ok (.iload_n 3, 1) := by decide +kernel
theorem dL_law_654 : decode cL_law 654 = .ok (.iconst 1, 1) := by decide +kernel
theorem dL_law_655 : decode cL_law 655 = .ok (.iadd, 1) := by decide +kernel
theorem dL_law_656 : decode cL_law 656 = .ok (.iaload, 1) := by decide +kernel
theorem dL_law_657 : decode cL_law 657 = .ok (.invokevirtual 82, 3) := by decide +kernel
theorem dL_law_660 : decode cL_law 660 = .ok (.if_icmp .eq 406, 3) := by decide +kernel
theorem dL_law_663 : decode cL_law 663 = .ok (.iconst 0, 1) := by decide +kernel
theorem dL_law_664 : decode cL_law 664 = .ok (.ireturn, 1) := by decide +kernel
theorem dL_law_665 : decode cL_law 665 = .ok (.aload_n 1, 1) := by decide +kernel
theorem dL_law_666 : decode cL_law 666 = .ok (.aload_n 0, 1) := by decide +kernel
theorem dL_law_667 : decode cL_law 667 = .ok (.iload_n 3, 1) := by decide +kernel
theorem dL_law_668 : decode cL_law 668 = .ok (.iconst 1, 1) := by decide +kernel
theorem dL_law_669 : decode cL_law 669 = .ok (.iadd, 1) := by decide +kernel
theorem dL_law_670 : decode cL_law 670 = .ok (.iaload, 1) := by decide +kernel
theorem dL_law_671 : decode cL_law 671 = .ok (.invokevirtual 83, 3) := by decide +kernel
theorem dL_law_674 : decode cL_law 674 = .ok (.aload_n 2, 1) := by decide +kernel
theorem dL_law_675 : decode cL_law 675 = .ok (.aload_n 0, 1) := by decide +kernel
theorem dL_law_676 : decode cL_law 676 = .ok (.iload_n 3, 1) := by decide +kernel
theorem dL_law_677 : decode cL_law 677 = .ok (.iconst 1, 1) := by decide +kernel
theorem dL_law_678 : decode cL_law 678 = .ok (.iadd, 1) := by decide +kernel
theorem dL_law_679 : decode cL_law 679 = .ok (.iaload, 1) := by decide +kernel
theorem dL_law_680 : decode cL_law 680 = .ok (.invokevirtual 86, 3) := by decide +kernel
theorem dL_law_683 : decode cL_law 683 = .ok (.if_icmp .eq 383, 3) := by decide +kernel
theorem dL_law_686 : decode cL_law 686 = .ok (.iconst 0, 1) := by decide +kernel
theorem dL_law_687 : decode cL_law 687 = .ok (.ireturn, 1) := by decide +kernel
theorem dL_law_688 : decode cL_law 688 = .ok (.aload_n 1, 1) := by decide +kernel
theorem dL_law_689 : decode cL_law 689 = .ok (.aload_n 0, 1) := by decide +kernel
theorem dL_law_690 : decode cL_law 690 = .ok (.iload_n 3, 1) := by decide +kernel
theorem dL_law_691 : decode cL_law 691 = .ok (.iconst 1, 1) := by decide +kernel
theorem dL_law_692 : decode cL_law 692 = .ok (.iadd, 1) := by decide +kernel
theorem dL_law_693 : decode cL_law 693 = .ok (.iaload, 1) := by decide +kernel
theorem dL_law_694 : decode cL_law 694 = .ok (.aload_n 0, 1) := by decide +kernel
theorem dL_law_695 : decode cL_law 695 = .ok (.iload_n 3, 1) := by decide +kernel
theorem dL_law_696 : decode cL_law 696 = .ok (.iconst 2, 1) := by decide +kernel
theorem dL_law_697 : decode cL_law 697 = .ok (.iadd, 1) := by decide +kernel
theorem dL_law_698 : decode cL_law 698 = .ok (.iaload, 1) := by decide +kernel
theorem dL_law_699 : decode cL_law 699 = .ok (.invokevirtual 87, 3) := by decide +kernel
theorem dL_law_702 : decode cL_law 702 = .ok (.aload_n 2, 1) := by decide +kernel
theorem dL_law_703 : decode cL_law 703 = .ok (.aload_n 0, 1) := by decide +kernel
theorem dL_law_704 : decode cL_law 704 = .ok (.iload_n 3, 1) := by decide +kernel
theorem dL_law_705 : decode cL_law 705 = .ok (.iconst 1, 1) := by decide +kernel
theorem dL_law_706 : decode cL_law 706 = .ok (.iadd, 1) := by decide +kernel
theorem dL_law_707 : decode cL_law 707 = .ok (.iaload, 1) := by decide +kernel
theorem dL_law_708 : decode cL_law 708 = .ok (.aload_n 0, 1) := by decide +kernel
theorem dL_law_709 : decode cL_law 709 = .ok (.iload_n 3, 1) := by decide +kernel
theorem dL_law_710 : decode cL_law 710 = .ok (.iconst 2, 1) := by decide +kernel
theorem dL_law_711 : decode cL_law 711 = .ok (.iadd, 1) := by decide +kernel
theorem dL_law_712 : decode cL_law 712 = .ok (.iaload, 1) := by decide +kernel
theorem dL_law_713 : decode cL_law 713 = .ok (.invokevirtual 90, 3) := by decide +kernel
theorem dL_law_716 : decode cL_law 716 = .ok (.lcmp, 1) := by decide +kernel
theorem dL_law_717 : decode cL_law 717 = .ok (.ifCond .eq 349, 3) := by decide +kernel
theorem dL_law_720 : decode cL_law 720 = .ok (.iconst 0, 1) := by decide +kernel
theorem dL_law_721 : decode cL_law 721 = .ok (.ireturn, 1) := by decide +kernel
theorem dL_law_722 : decode cL_law 722 = .ok (.aload_n 1, 1) := by decide +kernel
theorem dL_law_723 : decode cL_law 723 = .ok (.aload_n 0, 1) := by decide +kernel
theorem dL_law_724 : decode cL_law 724 = .ok (.iload_n 3, 1) := by decide +kernel
theorem dL_law_725 : decode cL_law 725 = .ok (.iconst 1, 1) := by decide +kernel
theorem dL_law_726 : decode cL_law 726 = .ok (.iadd, 1) := by decide +kernel
theorem dL_law_727 : decode cL_law 727 = .ok (.iaload, 1) := by decide +kernel
theorem dL_law_728 : decode cL_law 728 = .ok (.aload_n 0, 1) := by decide +kernel
theorem dL_law_729 : decode cL_law 729 = .ok (.iload_n 3, 1) := by decide +kernel
theorem dL_law_730 : decode cL_law 730 = .ok (.iconst 2, 1) := by decide +kernel
theorem dL_law_731 : decode cL_law 731 = .ok (.iadd, 1) := by decide +kernel
theorem dL_law_732 : decode cL_law 732 = .ok (.iaload, 1) := by decide +kernel
theorem dL_law_733 : decode cL_law 733 = .ok (.aload_n 0, 1) := by decide +kernel
theorem dL_law_734 : decode cL_law 734 = .ok (.iload_n 3, 1) := by decide +kernel
theorem dL_law_735 : decode cL_law 735 = .ok (.iconst 3, 1) := by decide +kernel
theorem dL_law_736 : decode cL_law 736 = .ok (.iadd, 1) := by decide +kernel
theorem dL_law_737 : decode cL_law 737 = .ok (.iaload, 1) := by decide +kernel
theorem dL_law_738 : decode cL_law 738 = .ok (.invokevirtual 91, 3) := by decide +kernel
theorem dL_law_741 : decode cL_law 741 = .ok (.aload_n 2, 1) := by decide +kernel
theorem dL_law_742 : decode cL_law 742 = .ok (.aload_n 0, 1) := by decide +kernel
theorem dL_law_743 : decode cL_law 743 = .ok (.iload_n 3, 1) := by decide +kernel
theorem dL_law_744 : decode cL_law 744 = .ok (.iconst 1, 1) := by decide +kernel
theorem dL_law_745 : decode cL_law 745 = .ok (.iadd, 1) := by decide +kernel
theorem dL_law_746 : decode cL_law 746 = .ok (.iaload, 1) := by decide +kernel
theorem dL_law_747 : decode cL_law 747 = .ok (.aload_n 0, 1) := by decide +kernel
theorem dL_law_748 : decode cL_law 748 = .ok (.iload_n 3, 1) := by decide +kernel
theorem dL_law_749 : decode cL_law 749 = .ok (.iconst 2, 1) := by decide +kernel
theorem dL_law_750 : decode cL_law 750 = .ok (.iadd, 1) := by decide +kernel
theorem dL_law_751 : decode cL_law 751 = .ok (.iaload, 1) := by decide +kernel
theorem dL_law_752 : decode cL_law 752 = .ok (.aload_n 0, 1) := by decide +kernel
theorem dL_law_753 : decode cL_law 753 = .ok (.iload_n 3, 1) := by decide +kernel
theorem dL_law_754 : decode cL_law 754 = .ok (.iconst 3, 1) := by decide +kernel
theorem dL_law_755 : decode cL_law 755 = .ok (.iadd, 1) := by decide +kernel
theorem dL_law_756 : decode cL_law 756 = .ok (.iaload, 1) := by decide +kernel
theorem dL_law_757 : decode cL_law 757 = .ok (.invokevirtual 95, 3) := by decide +kernel
theorem dL_law_760 : decode cL_law 760 = .ok (.if_icmp .eq 306, 3) := by decide +kernel
theorem dL_law_763 : decode cL_law 763 = .ok (.iconst 0, 1) := by decide +kernel
theorem dL_law_764 : decode cL_law 764 = .ok (.ireturn, 1) := by decide +kernel
theorem dL_law_765 : decode cL_law 765 = .ok (.aload_n 1, 1) := by decide +kernel
theorem dL_law_766 : decode cL_law 766 = .ok (.aload_n 0, 1) := by decide +kernel
theorem dL_law_767 : decode cL_law 767 = .ok (.iload_n 3, 1) := by decide +kernel
theorem dL_law_768 : decode cL_law 768 = .ok (.iconst 1, 1) := by decide +kernel
theorem dL_law_769 : decode cL_law 769 = .ok (.iadd, 1) := by decide +kernel
theorem dL_law_770 : decode cL_law 770 = .ok (.iaload, 1) := by decide +kernel
theorem dL_law_771 : decode cL_law 771 = .ok (.invokevirtual 96, 3) := by decide +kernel
theorem dL_law_774 : decode cL_law 774 = .ok (.aload_n 2, 1) := by decide +kernel
theorem dL_law_775 : decode cL_law 775 = .ok (.aload_n 0, 1) := by decide +kernel
theorem dL_law_776 : decode cL_law 776 = .ok (.iload_n 3, 1) := by decide +kernel
theorem dL_law_777 : decode cL_law 777 = .ok (.iconst 1, 1) := by decide +kernel
theorem dL_law_778 : decode cL_law 778 = .ok (.iadd, 1) := by decide +kernel
theorem dL_law_779 : decode cL_law 779 = .ok (.iaload, 1) := by decide +kernel
theorem dL_law_780 : decode cL_law 780 = .ok (.invokevirtual 99, 3) := by decide +kernel
theorem dL_law_783 : decode cL_law 783 = .ok (.if_icmp .eq 283, 3) := by decide +kernel
theorem dL_law_786 : decode cL_law 786 = .ok (.iconst 0, 1) := by decide +kernel
theorem dL_law_787 : decode cL_law 787 = .ok (.ireturn, 1) := by decide +kernel
theorem dL_law_788 : decode cL_law 788 = .ok (.aload_n 1, 1) := by decide +kernel
theorem dL_law_789 : decode cL_law 789 = .ok (.aload_n 0, 1) := by decide +kernel
theorem dL_law_790 : decode cL_law 790 = .ok (.iload_n 3, 1) := by decide +kernel
theorem dL_law_791 : decode cL_law 791 = .ok (.iconst 1, 1) := by decide +kernel
theorem dL_law_792 : decode cL_law 792 = .ok (.iadd, 1) := by decide +kernel
theorem dL_law_793 : decode cL_law 793 = .ok (.iaload, 1) := by decide +kernel
theorem dL_law_794 : decode cL_law 794 = .ok (.aload_n 0, 1) := by decide +kernel
theorem dL_law_795 : decode cL_law 795 = .ok (.iload_n 3, 1) := by decide +kernel
theorem dL_law_796 : decode cL_law 796 = .ok (.iconst 2, 1) := by decide +kernel
theorem dL_law_797 : decode cL_law 797 = .ok (.iadd, 1) := by decide +kernel
theorem dL_law_798 : decode cL_law 798 = .ok (.iaload, 1) := by decide +kernel
theorem dL_law_799 : decode cL_law 799 = .ok (.aload_n 0, 1) := by decide +kernel
theorem dL_law_800 : decode cL_law 800 = .ok (.iload_n 3, 1) := by decide +kernel
theorem dL_law_801 : decode cL_law 801 = .ok (.iconst 3, 1) := by decide +kernel
theorem dL_law_802 : decode cL_law 802 = .ok (.iadd, 1) := by decide +kernel
theorem dL_law_803 : decode cL_law 803 = .ok (.iaload, 1) := by decide +kernel
theorem dL_law_804 : decode cL_law 804 = .ok (.invokevirtual 100, 3) := by decide +kernel
theorem dL_law_807 : decode cL_law 807 = .ok (.aload_n 2, 1) := by decide +kernel
theorem dL_law_808 : decode cL_law 808 = .ok (.aload_n 0, 1) := by decide +kernel
theorem dL_law_809 : decode cL_law 809 = .ok (.iload_n 3, 1) := by decide +kernel
theorem dL_law_810 : decode cL_law 810 = .ok (.iconst 1, 1) := by decide +kernel
theorem dL_law_811 : decode cL_law 811 = .ok (.iadd, 1) := by decide +kernel
theorem dL_law_812 : decode cL_law 812 = .ok (.iaload, 1) := by decide +kernel
theorem dL_law_813 : decode cL_law 813 = .ok (.aload_n 0, 1) := by decide +kernel
theorem dL_law_814 : decode cL_law 814 = .ok (.iload_n 3, 1) := by decide +kernel
theorem dL_law_815 : decode cL_law 815 = .ok (.iconst 2, 1) := by decide +kernel
theorem dL_law_816 : decode cL_law 816 = .ok (.iadd, 1) := by decide +kernel
theorem dL_law_817 : decode cL_law 817 = .ok (.iaload, 1) := by decide +kernel
theorem dL_law_818 : decode cL_law 818 = .ok (.aload_n 0, 1) := by decide +kernel
theorem dL_law_819 : decode cL_law 819 = .ok (.iload_n 3, 1) := by decide +kernel
theorem dL_law_820 : decode cL_law 820 = .ok (.iconst 3, 1) := by decide +kernel
theorem dL_law_821 : decode cL_law 821 = .ok (.iadd, 1) := by decide +kernel
theorem dL_law_822 : decode cL_law 822 = .ok (.iaload, 1) := by decide +kernel
theorem dL_law_823 : decode cL_law 823 = .ok (.invokevirtual 103, 3) := by decide +kernel
theorem dL_law_826 : decode cL_law 826 = .ok (.if_icmp .eq 240, 3) := by decide +kernel
theorem dL_law_829 : decode cL_law 829 = .ok (.iconst 0, 1) := by decide +kernel
theorem dL_law_830 : decode cL_law 830 = .ok (.ireturn, 1) := by decide +kernel
theorem dL_law_831 : decode cL_law 831 = .ok (.aload_n 1, 1) := by decide +kernel
theorem dL_law_832 : decode cL_law 832 = .ok (.aload_n 0, 1) := by decide +kernel
theorem dL_law_833 : decode cL_law 833 = .ok (.iload_n 3, 1) := by decide +kernel
theorem dL_law_834 : decode cL_law 834 = .ok (.iconst 1, 1) := by decide +kernel
theorem dL_law_835 : decode cL_law 835 = .ok (.iadd, 1) := by decide +kernel
theorem dL_law_836 : decode cL_law 836 = .ok (.iaload, 1) := by decide +kernel
theorem dL_law_837 : decode cL_law 837 = .ok (.aload_n 0, 1) := by decide +kernel
theorem dL_law_838 : decode cL_law 838 = .ok (.iload_n 3, 1) := by decide +kernel
theorem dL_law_839 : decode cL_law 839 = .ok (.iconst 2, 1) := by decide +kernel
theorem dL_law_840 : decode cL_law 840 = .ok (.iadd, 1) := by decide +kernel
theorem dL_law_841 : decode cL_law 841 = .ok (.iaload, 1) := by decide +kernel
theorem dL_law_842 : decode cL_law 842 = .ok (.aload_n 0, 1) := by decide +kernel
theorem dL_law_843 : decode cL_law 843 = .ok (.iload_n 3, 1) := by decide +kernel
theorem dL_law_844 : decode cL_law 844 = .ok (.iconst 3, 1) := by decide +kernel
theorem dL_law_845 : decode cL_law 845 = .ok (.iadd, 1) := by decide +kernel
theorem dL_law_846 : decode cL_law 846 = .ok (.iaload, 1) := by decide +kernel
theorem dL_law_847 : decode cL_law 847 = .ok (.invokevirtual 104, 3) := by decide +kernel
theorem dL_law_850 : decode cL_law 850 = .ok (.aload_n 2, 1) := by decide +kernel
theorem dL_law_851 : decode cL_law 851 = .ok (.aload_n 0, 1) := by decide +kernel
theorem dL_law_852 : decode cL_law 852 = .ok (.iload_n 3, 1) := by decide +kernel
theorem dL_law_853 : decode cL_law 853 = .ok (.iconst 1, 1) := by decide +kernel
theorem dL_law_854 : decode cL_law 854 = .ok (.iadd, 1) := by decide +kernel
theorem dL_law_855 : decode cL_law 855 = .ok (.iaload, 1) := by decide +kernel
theorem dL_law_856 : decode cL_law 856 = .ok (.aload_n 0, 1) := by decide +kernel
theorem dL_law_857 : decode cL_law 857 = .ok (.iload_n 3, 1) := by decide +kernel
theorem dL_law_858 : decode cL_law 858 = .ok (.iconst 2, 1) := by decide +kernel
theorem dL_law_859 : decode cL_law 859 = .ok (.iadd, 1) := by decide +kernel
theorem dL_law_860 : decode cL_law 860 = .ok (.iaload, 1) := by decide +kernel
theorem dL_law_861 : decode cL_law 861 = .ok (.aload_n 0, 1) := by decide +kernel
theorem dL_law_862 : decode cL_law 862 = .ok (.iload_n 3, 1) := by decide +kernel
theorem dL_law_863 : decode cL_law 863 = .ok (.iconst 3, 1) := by decide +kernel
theorem dL_law_864 : decode cL_law 864 = .ok (.iadd, 1) := by decide +kernel
theorem dL_law_865 : decode cL_law 865 = .ok (.iaload, 1) := by decide +kernel
theorem dL_law_866 : decode cL_law 866 = .ok (.invokevirtual 108, 3) := by decide +kernel
theorem dL_law_869 : decode cL_law 869 = .ok (.lcmp, 1) := by decide +kernel
theorem dL_law_870 : decode cL_law 870 = .ok (.ifCond .eq 196, 3) := by decide +kernel
theorem dL_law_873 : decode cL_law 873 = .ok (.iconst 0, 1) := by decide +kernel
theorem dL_law_874 : decode cL_law 874 = .ok (.ireturn, 1) := by decide +kernel
theorem dL_law_875 : decode cL_law 875 = .ok (.aload_n 1, 1) := by decide +kernel
theorem dL_law_876 : decode cL_law 876 = .ok (.aload_n 0, 1) := by decide +kernel
theorem dL_law_877 : decode cL_law 877 = .ok (.iload_n 3, 1) := by decide +kernel
theorem dL_law_878 : decode cL_law 878 = .ok (.iconst 1, 1) := by decide +kernel
theorem dL_law_879 : decode cL_law 879 = .ok (.iadd, 1) := by decide +kernel
theorem dL_law_880 : decode cL_law 880 = .ok (.iaload, 1) := by decide +kernel
theorem dL_law_881 : decode cL_law 881 = .ok (.aload_n 0, 1) := by decide +kernel
theorem dL_law_882 : decode cL_law 882 = .ok (.iload_n 3, 1) := by decide +kernel
theorem dL_law_883 : decode cL_law 883 = .ok (.iconst 2, 1) := by decide +kernel
theorem dL_law_884 : decode cL_law 884 = .ok (.iadd, 1) := by decide +kernel
theorem dL_law_885 : decode cL_law 885 = .ok (.iaload, 1) := by decide +kernel
theorem dL_law_886 : decode cL_law 886 = .ok (.aload_n 0, 1) := by decide +kernel
theorem dL_law_887 : decode cL_law 887 = .ok (.iload_n 3, 1) := by decide +kernel
theorem dL_law_888 : decode cL_law 888 = .ok (.iconst 3, 1) := by decide +kernel
theorem dL_law_889 : decode cL_law 889 = .ok (.iadd, 1) := by decide +kernel
theorem dL_law_890 : decode cL_law 890 = .ok (.iaload, 1) := by decide +kernel
theorem dL_law_891 : decode cL_law 891 = .ok (.aload_n 0, 1) := by decide +kernel
theorem dL_law_892 : decode cL_law 892 = .ok (.iload_n 3, 1) := by decide +kernel
theorem dL_law_893 : decode cL_law 893 = .ok (.iconst 4, 1) := by decide +kernel
theorem dL_law_894 : decode cL_law 894 = .ok (.iadd, 1) := by decide +kernel
theorem dL_law_895 : decode cL_law 895 = .ok (.iaload, 1) := by decide +kernel
theorem dL_law_896 : decode cL_law 896 = .ok (.aload_n 0, 1) := by decide +kernel
theorem dL_law_897 : decode cL_law 897 = .ok (.iload_n 3, 1) := by decide +kernel
theorem dL_law_898 : decode cL_law 898 = .ok (.iconst 5, 1) := by decide +kernel
theorem dL_law_899 : decode cL_law 899 = .ok (.iadd, 1) := by decide +kernel
theorem dL_law_900 : decode cL_law 900 = .ok (.iaload, 1) := by decide +kernel
theorem dL_law_901 : decode cL_law 901 = .ok (.invokevirtual 109, 3) := by decide +kernel
theorem dL_law_904 : decode cL_law 904 = .ok (.aload_n 2, 1) := by decide +kernel
theorem dL_law_905 : decode cL_law 905 = .ok (.aload_n 0, 1) := by decide +kernel
theorem dL_law_906 : decode cL_law 906 = .ok (.iload_n 3, 1) := by decide +kernel
theorem dL_law_907 : decode cL_law 907 = .ok (.iconst 1, 1) := by decide +kernel
theorem dL_law_908 : decode cL_law 908 = .ok (.iadd, 1) := by decide +kernel
theorem dL_law_909 : decode cL_law 909 = .ok (.iaload, 1) := by decide +kernel
theorem dL_law_910 : decode cL_law 910 = .ok (.aload_n 0, 1) := by decide +kernel
theorem dL_law_911 : decode cL_law 911 = .ok (.iload_n 3, 1) := by decide +kernel
theorem dL_law_912 : decode cL_law 912 = .ok (.iconst 2, 1) := by decide +kernel
theorem dL_law_913 : decode cL_law 913 = .ok (.iadd, 1) := by decide +kernel
theorem dL_law_914 : decode cL_law 914 = .ok (.iaload, 1) := by decide +kernel
theorem dL_law_915 : decode cL_law 915 = .ok (.aload_n 0, 1) := by decide +kernel
theorem dL_law_916 : decode cL_law 916 = .ok (.iload_n 3, 1) := by decide +kernel
theorem dL_law_917 : decode cL_law 917 = .ok (.iconst 3, 1) := by decide +kernel
theorem dL_law_918 : decode cL_law 918 = .ok (.iadd, 1) := by decide +kernel
theorem dL_law_919 : decode cL_law 919 = .ok (.iaload, 1) := by decide +kernel
theorem dL_law_920 : decode cL_law 920 = .ok (.aload_n 0, 1) := by decide +kernel
theorem dL_law_921 : decode cL_law 921 = .ok (.iload_n 3, 1) := by decide +kernel
theorem dL_law_922 : decode cL_law 922 = .ok (.iconst 4, 1) := by decide +kernel
theorem dL_law_923 : decode cL_law 923 = .ok (.iadd, 1) := by decide +kernel
theorem dL_law_924 : decode cL_law 924 = .ok (.iaload, 1) := by decide +kernel
theorem dL_law_925 : decode cL_law 925 = .ok (.aload_n 0, 1) := by decide +kernel
theorem dL_law_926 : decode cL_law 926 = .ok (.iload_n 3, 1) := by decide +kernel
theorem dL_law_927 : decode cL_law 927 = .ok (.iconst 5, 1) := by decide +kernel
theorem dL_law_928 : decode cL_law 928 = .ok (.iadd, 1) := by decide +kernel
theorem dL_law_929 : decode cL_law 929 = .ok (.iaload, 1) := by decide +kernel
theorem dL_law_930 : decode cL_law 930 = .ok (.invokevirtual 113, 3) := by decide +kernel
theorem dL_law_933 : decode cL_law 933 = .ok (.if_icmp .eq 133, 3) := by decide +kernel
theorem dL_law_936 : decode cL_law 936 = .ok (.iconst 0, 1) := by decide +kernel
theorem dL_law_937 : decode cL_law 937 = .ok (.ireturn, 1) := by decide +kernel
theorem dL_law_938 : decode cL_law 938 = .ok (.aload_n 1, 1) := by decide +kernel
theorem dL_law_939 : decode cL_law 939 = .ok (.aload_n 0, 1) := by decide +kernel
theorem dL_law_940 : decode cL_law 940 = .ok (.iload_n 3, 1) := by decide +kernel
theorem dL_law_941 : decode cL_law 941 = .ok (.iconst 1, 1) := by decide +kernel
theorem dL_law_942 : decode cL_law 942 = .ok (.iadd, 1) := by decide +kernel
theorem dL_law_943 : decode cL_law 943 = .ok (.iaload, 1) := by decide +kernel
theorem dL_law_944 : decode cL_law 944 = .ok (.invokevirtual 114, 3) := by decide +kernel
theorem dL_law_947 : decode cL_law 947 = .ok (.aload_n 2, 1) := by decide +kernel
theorem dL_law_948 : decode cL_law 948 = .ok (.aload_n 0, 1) := by decide +kernel
theorem dL_law_949 : decode cL_law 949 = .ok (.iload_n 3, 1) := by decide +kernel
theorem dL_law_950 : decode cL_law 950 = .ok (.iconst 1, 1) := by decide +kernel
theorem dL_law_951 : decode cL_law 951 = .ok (.iadd, 1) := by decide +kernel
theorem dL_law_952 : decode cL_law 952 = .ok (.iaload, 1) := by decide +kernel
theorem dL_law_953 : decode cL_law 953 = .ok (.invokevirtual 117, 3) := by decide +kernel
theorem dL_law_956 : decode cL_law 956 = .ok (.if_icmp .eq 110, 3) := by decide +kernel
theorem dL_law_959 : decode cL_law 959 = .ok (.iconst 0, 1) := by decide +kernel
theorem dL_law_960 : decode cL_law 960 = .ok (.ireturn, 1) := by decide +kernel
theorem dL_law_961 : decode cL_law 961 = .ok (.aload_n 1, 1) := by decide +kernel
theorem dL_law_962 : decode cL_law 962 = .ok (.aload_n 0, 1) := by decide +kernel
theorem dL_law_963 : decode cL_law 963 = .ok (.iload_n 3, 1) := by decide +kernel
theorem dL_law_964 : decode cL_law 964 = .ok (.iconst 1, 1) := by decide +kernel
theorem dL_law_965 : decode cL_law 965 = .ok (.iadd, 1) := by decide +kernel
theorem dL_law_966 : decode cL_law 966 = .ok (.iaload, 1) := by decide +kernel
theorem dL_law_967 : decode cL_law 967 = .ok (.invokevirtual 118, 3) := by decide +kernel
theorem dL_law_970 : decode cL_law 970 = .ok (.aload_n 2, 1) := by decide +kernel
theorem dL_law_971 : decode cL_law 971 = .ok (.aload_n 0, 1) := by decide +kernel
theorem dL_law_972 : decode cL_law 972 = .ok (.iload_n 3, 1) := by decide +kernel
theorem dL_law_973 : decode cL_law 973 = .ok (.iconst 1, 1) := by decide +kernel
theorem dL_law_974 : decode cL_law 974 = .ok (.iadd, 1) := by decide +kernel
theorem dL_law_975 : decode cL_law 975 = .ok (.iaload, 1) := by decide +kernel
theorem dL_law_976 : decode cL_law 976 = .ok (.invokevirtual 121, 3) := by decide +kernel
theorem dL_law_979 : decode cL_law 979 = .ok (.if_icmp .eq 87, 3) := by decide +kernel
theorem dL_law_982 : decode cL_law 982 = .ok (.iconst 0, 1) := by decide +kernel
theorem dL_law_983 : decode cL_law 983 = .ok (.ireturn, 1) := by decide +kernel
theorem dL_law_984 : decode cL_law 984 = .ok (.aload_n 1, 1) := by decide +kernel
theorem dL_law_985 : decode cL_law 985 = .ok (.aload_n 0, 1) := by decide +kernel
theorem dL_law_986 : decode cL_law 986 = .ok (.iload_n 3, 1) := by decide +kernel
theorem dL_law_987 : decode cL_law 987 = .ok (.iconst 1, 1) := by decide +kernel
theorem dL_law_988 : decode cL_law 988 = .ok (.iadd, 1) := by decide +kernel
theorem dL_law_989 : decode cL_law 989 = .ok (.iaload, 1) := by decide +kernel
theorem dL_law_990 : decode cL_law 990 = .ok (.aload_n 0, 1) := by decide +kernel
theorem dL_law_991 : decode cL_law 991 = .ok (.iload_n 3, 1) := by decide +kernel
theorem dL_law_992 : decode cL_law 992 = .ok (.iconst 2, 1) := by decide +kernel
theorem dL_law_993 : decode cL_law 993 = .ok (.iadd, 1) := by decide +kernel
theorem dL_law_994 : decode cL_law 994 = .ok (.iaload, 1) := by decide +kernel
theorem dL_law_995 : decode cL_law 995 = .ok (.invokevirtual 122, 3) := by decide +kernel
theorem dL_law_998 : decode cL_law 998 = .ok (.aload_n 2, 1) := by decide +kernel
theorem dL_law_999 : decode cL_law 999 = .ok (.aload_n 0, 1) := by decide +kernel
theorem dL_law_1000 : decode cL_law 1000 = .ok (.iload_n 3, 1) := by decide +kernel
theorem dL_law_1001 : decode cL_law 1001 = .ok (.iconst 1, 1) := by decide +kernel
theorem dL_law_1002 : decode cL_law 1002 = .ok (.iadd, 1) := by decide +kernel
theorem dL_law_1003 : decode cL_law 1003 = .ok (.iaload, 1) := by decide +kernel
theorem dL_law_1004 : decode cL_law 1004 = .ok (.aload_n 0, 1) := by decide +kernel
theorem dL_law_1005 : decode cL_law 1005 = .ok (.iload_n 3, 1) := by decide +kernel
theorem dL_law_1006 : decode cL_law 1006 = .ok (.iconst 2, 1) := by decide +kernel
theorem dL_law_1007 : decode cL_law 1007 = .ok (.iadd, 1) := by decide +kernel
theorem dL_law_1008 : decode cL_law 1008 = .ok (.iaload, 1) := by decide +kernel
theorem dL_law_1009 : decode cL_law 1009 = .ok (.invokevirtual 125, 3) := by decide +kernel
theorem dL_law_1012 : decode cL_law 1012 = .ok (.if_icmp .eq 54, 3) := by decide +kernel
theorem dL_law_1015 : decode cL_law 1015 = .ok (.iconst 0, 1) := by decide +kernel
theorem dL_law_1016 : decode cL_law 1016 = .ok (.ireturn, 1) := by decide +kernel
theorem dL_law_1017 : decode cL_law 1017 = .ok (.aload_n 1, 1) := by decide +kernel
theorem dL_law_1018 : decode cL_law 1018 = .ok (.invokevirtual 126, 3) := by decide +kernel
theorem dL_law_1021 : decode cL_law 1021 = .ok (.aload_n 2, 1) := by decide +kernel
theorem dL_law_1022 : decode cL_law 1022 = .ok (.invokevirtual 129, 3) := by decide +kernel
theorem dL_law_1025 : decode cL_law 1025 = .ok (.if_icmp .eq 41, 3) := by decide +kernel
theorem dL_law_1028 : decode cL_law 1028 = .ok (.iconst 0, 1) := by decide +kernel
theorem dL_law_1029 : decode cL_law 1029 = .ok (.ireturn, 1) := by decide +kernel
theorem dL_law_1030 : decode cL_law 1030 = .ok (.aload_n 1, 1) := by decide +kernel
theorem dL_law_1031 : decode cL_law 1031 = .ok (.invokevirtual 130, 3) := by decide +kernel
theorem dL_law_1034 : decode cL_law 1034 = .ok (.aload_n 2, 1) := by decide +kernel
theorem dL_law_1035 : decode cL_law 1035 = .ok (.invokevirtual 133, 3) := by decide +kernel
theorem dL_law_1038 : decode cL_law 1038 = .ok (.if_icmp .eq 28, 3) := by decide +kernel
theorem dL_law_1041 : decode cL_law 1041 = .ok (.iconst 0, 1) := by decide +kernel
theorem dL_law_1042 : decode cL_law 1042 = .ok (.ireturn, 1) := by decide +kernel
theorem dL_law_1043 : decode cL_law 1043 = .ok (.aload_n 1, 1) := by decide +kernel
theorem dL_law_1044 : decode cL_law 1044 = .ok (.aload_n 0, 1) := by decide +kernel
theorem dL_law_1045 : decode cL_law 1045 = .ok (.iload_n 3, 1) := by decide +kernel
theorem dL_law_1046 : decode cL_law 1046 = .ok (.iconst 1, 1) := by decide +kernel
theorem dL_law_1047 : decode cL_law 1047 = .ok (.iadd, 1) := by decide +kernel
theorem dL_law_1048 : decode cL_law 1048 = .ok (.iaload, 1) := by decide +kernel
theorem dL_law_1049 : decode cL_law 1049 = .ok (.invokevirtual 134, 3) := by decide +kernel
theorem dL_law_1052 : decode cL_law 1052 = .ok (.aload_n 2, 1) := by decide +kernel
theorem dL_law_1053 : decode cL_law 1053 = .ok (.aload_n 0, 1) := by decide +kernel
theorem dL_law_1054 : decode cL_law 1054 = .ok (.iload_n 3, 1) := by decide +kernel
theorem dL_law_1055 : decode cL_law 1055 = .ok (.iconst 1, 1) := by decide +kernel
theorem dL_law_1056 : decode cL_law 1056 = .ok (.iadd, 1) := by decide +kernel
theorem dL_law_1057 : decode cL_law 1057 = .ok (.iaload, 1) := by decide +kernel
theorem dL_law_1058 : decode cL_law 1058 = .ok (.invokevirtual 137, 3) := by decide +kernel
theorem dL_law_1061 : decode cL_law 1061 = .ok (.if_icmp .eq 5, 3) := by decide +kernel
theorem dL_law_1064 : decode cL_law 1064 = .ok (.iconst 0, 1) := by decide +kernel
theorem dL_law_1065 : decode cL_law 1065 = .ok (.ireturn, 1) := by decide +kernel
theorem dL_law_1066 : decode cL_law 1066 = .ok (.iinc 3 7, 3) := by decide +kernel
theorem dL_law_1069 : decode cL_law 1069 = .ok (.goto (-1051), 3) := by decide +kernel
theorem dL_law_1072 : decode cL_law 1072 = .ok (.iconst 1, 1) := by decide +kernel
theorem dL_law_1073 : decode cL_law 1073 = .ok (.ireturn, 1) := by decide +kernel
set_option maxRecDepth 100000 in
theorem in_wsL_law_r1 : ∀ w ∈ wsL_law_r1, w ∈ lw_tbl := (List.forall_mem_cons.mpr ⟨List.mem_of_getElem? (i := 53) rfl, (List.forall_mem_cons.mpr ⟨List.mem_of_getElem? (i := 54) rfl, (List.forall_mem_cons.mpr ⟨List.mem_of_getElem? (i := 46) rfl, (List.forall_mem_cons.mpr ⟨List.mem_of_getElem? (i := 535) rfl, (List.forall_mem_cons.mpr ⟨List.mem_of_getElem? (i := 536) rfl, (List.forall_mem_cons.mpr ⟨List.mem_of_getElem? (i := 50) rfl, (List.forall_mem_cons.mpr ⟨List.mem_of_getElem? (i := 55) rfl, (List.forall_mem_cons.mpr ⟨List.mem_of_getElem? (i := 56) rfl, (List.forall_mem_cons.mpr ⟨List.mem_of_getElem? (i := 57) rfl, (List.forall_mem_cons.mpr ⟨List.mem_of_getElem? (i := 58) rfl, (List.forall_mem_cons.mpr ⟨List.mem_of_getElem? (i := 59) rfl, (List.forall_mem_cons.mpr ⟨List.mem_of_getElem? (i := 60) rfl, (List.forall_mem_cons.mpr ⟨List.mem_of_getElem? (i := 61) rfl, (List.forall_mem_cons.mpr ⟨List.mem_of_getElem? (i := 126) rfl, (List.forall_mem_cons.mpr ⟨List.mem_of_getElem? (i := 63) rfl, (List.forall_mem_cons.mpr ⟨List.mem_of_getElem? (i := 64) rfl, (List.forall_mem_cons.mpr ⟨List.mem_of_getElem? (i := 47) rfl, (List.forall_mem_cons.mpr ⟨List.mem_of_getElem? (i := 127) rfl, (List.forall_mem_cons.mpr ⟨List.mem_of_getElem? (i := 85) rfl, (List.forall_mem_cons.mpr ⟨List.mem_of_getElem? (i := 128) rfl, (List.forall_mem_cons.mpr ⟨List.mem_of_getElem? (i := 129) rfl, (List.forall_mem_cons.mpr ⟨List.mem_of_getElem? (i := 86) rfl, (List.forall_mem_cons.mpr ⟨List.mem_of_getElem? (i := 87) rfl, (List.forall_mem_cons.mpr ⟨List.mem_of_getElem? (i := 48) rfl, (fun _ h => absurd h List.not_mem_nil)⟩)⟩)⟩)⟩)⟩)⟩)⟩)⟩)⟩)⟩)⟩)⟩)⟩)⟩)⟩)⟩)⟩)⟩)⟩)⟩)⟩)⟩)⟩)⟩)
set_option maxRecDepth 100000 in
theorem in_wsL_law_r2 : ∀ w ∈ wsL_law_r2, w ∈ lw_tbl := (List.forall_mem_cons.mpr ⟨List.mem_of_getElem? (i := 130) rfl, (List.forall_mem_cons.mpr ⟨List.mem_of_getElem? (i := 131) rfl, (List.forall_mem_cons.mpr ⟨List.mem_of_getElem? (i := 132) rfl, (List.forall_mem_cons.mpr ⟨List.mem_of_getElem? (i := 135) rfl, (List.forall_mem_cons.mpr ⟨List.mem_of_getElem? (i := 111) rfl, (List.forall_mem_cons.mpr ⟨List.mem_of_getElem? (i := 49) rfl, (List.forall_mem_cons.mpr ⟨List.mem_of_getElem? (i := 66) rfl, (List.forall_mem_cons.mpr ⟨List.mem_of_getElem? (i := 67) rfl, (List.forall_mem_cons.mpr ⟨List.mem_of_getElem? (i := 68) rfl, (List.forall_mem_cons.mpr ⟨List.mem_of_getElem? (i := 69) rfl, (List.forall_mem_cons.mpr ⟨List.mem_of_getElem? (i := 70) rfl, (List.forall_mem_cons.mpr ⟨List.mem_of_getElem? (i := 71) rfl, (List.forall_mem_cons.mpr ⟨List.mem_of_getElem? (i := 72) rfl, (List.forall_mem_cons.mpr ⟨List.mem_of_getElem? (i := 89) rfl, (List.forall_mem_cons.mpr ⟨List.mem_of_getElem? (i := 90) rfl, (List.forall_mem_cons.mpr ⟨List.mem_of_getElem? (i := 91) rfl, (List.forall_mem_cons.mpr ⟨List.mem_of_getElem? (i := 92) rfl, (List.forall_mem_cons.mpr ⟨List.mem_of_getElem? (i := 93) rfl, (List.forall_mem_cons.mpr ⟨List.mem_of_getElem? (i := 94) rfl, (List.forall_mem_cons.mpr ⟨List.mem_of_getElem? (i := 113) rfl, (List.forall_mem_cons.mpr ⟨List.mem_of_getElem? (i := 114) rfl, (List.forall_mem_cons.mpr ⟨List.mem_of_getElem? (i := 115) rfl, (List.forall_mem_cons.mpr ⟨List.mem_of_getElem? (i := 116) rfl, (List.forall_mem_cons.mpr ⟨List.mem_of_getElem? (i := 117) rfl, (fun _ h => absurd h List.not_mem_nil)⟩)⟩)⟩)⟩)⟩)⟩)⟩)⟩)⟩)⟩)⟩)⟩)⟩)⟩)⟩)⟩)⟩)⟩)⟩)⟩)⟩)⟩)⟩)⟩)
set_option maxRecDepth 100000 in
theorem in_wsL_law_r3 : ∀ w ∈ wsL_law_r3, w ∈ lw_tbl := (List.forall_mem_cons.mpr ⟨List.mem_of_getElem? (i := 537) rfl, (List.forall_mem_cons.mpr ⟨List.mem_of_getElem? (i := 538) rfl, (List.forall_mem_cons.mpr ⟨List.mem_of_getElem? (i := 539) rfl, (List.forall_mem_cons.mpr ⟨List.mem_of_getElem? (i := 540) rfl, (List.forall_mem_cons.mpr ⟨List.mem_of_getElem? (i := 543) rfl, (List.forall_mem_cons.mpr ⟨List.mem_of_getElem? (i := 544) rfl, (List.forall_mem_cons.mpr ⟨List.mem_of_getElem? (i := 545) rfl, (List.forall_mem_cons.mpr ⟨List.mem_of_getElem? (i := 549) rfl, (List.forall_mem_cons.mpr ⟨List.mem_of_getElem? (i := 550) rfl, (List.forall_mem_cons.mpr ⟨List.mem_of_getElem? (i := 551) rfl, (List.forall_mem_cons.mpr ⟨List.mem_of_getElem? (i := 556) rfl, (List.forall_mem_cons.mpr ⟨List.mem_of_getElem? (i := 557) rfl, (List.forall_mem_cons.mpr ⟨List.mem_of_getElem? (i := 558) rfl, (List.forall_mem_cons.mpr ⟨List.mem_of_getElem? (i := 559) rfl, (List.forall_mem_cons.mpr ⟨List.mem_of_getElem? (i := 560) rfl, (List.forall_mem_cons.mpr ⟨List.mem_of_getElem? (i := 562) rfl, (List.forall_mem_cons.mpr ⟨List.mem_of_getElem? (i := 563) rfl, (List.forall_mem_cons.mpr ⟨List.mem_of_getElem? (i := 157) rfl, (List.forall_mem_cons.mpr ⟨List.mem_of_getElem? (i := 158) rfl, (List.forall_mem_cons.mpr ⟨List.mem_of_getElem? (i := 159) rfl, (List.forall_mem_cons.mpr ⟨List.mem_of_getElem? (i := 160) rfl, (List.forall_mem_cons.mpr ⟨List.mem_of_getElem? (i := 161) rfl, (List.forall_mem_cons.mpr ⟨List.mem_of_getElem? (i := 163) rfl, (List.forall_mem_cons.mpr ⟨List.mem_of_getElem? (i := 0) rfl, (fun _ h => absurd h List.not_mem_nil)⟩)⟩)⟩)⟩)⟩)⟩)⟩)⟩)⟩)⟩)⟩)⟩)⟩)⟩)⟩)⟩)⟩)⟩)⟩)⟩)⟩)⟩)⟩)⟩)
set_option maxRecDepth 100000 in
theorem in_wsL_law_r4 : ∀ w ∈ wsL_law_r4, w ∈ lw_tbl := (List.forall_mem_cons.mpr ⟨List.mem_of_getElem? (i := 164) rfl, (List.forall_mem_cons.mpr ⟨List.mem_of_getElem? (i := 165) rfl, (List.forall_mem_cons.mpr ⟨List.mem_of_getElem? (i := 166) rfl, (List.forall_mem_cons.mpr ⟨List.mem_of_getElem? (i := 167) rfl, (List.forall_mem_cons.mpr ⟨List.mem_of_getElem? (i := 168) rfl, (List.forall_mem_cons.mpr ⟨List.mem_of_getElem? (i := 169) rfl, (List.forall_mem_cons.mpr ⟨List.mem_of_getElem? (i := 170) rfl, (List.forall_mem_cons.mpr ⟨List.mem_of_getElem? (i := 171) rfl, (List.forall_mem_cons.mpr ⟨List.mem_of_getElem? (i := 172) rfl, (List.forall_mem_cons.mpr ⟨List.mem_of_getElem? (i := 173) rfl, (List.forall_mem_cons.mpr ⟨List.mem_of_getElem? (i := 174) rfl, (List.forall_mem_cons.mpr ⟨List.mem_of_getElem? (i := 175) rfl, (List.forall_mem_cons.mpr ⟨List.mem_of_getElem? (i := 176) rfl, (List.forall_mem_cons.mpr ⟨List.mem_of_getElem? (i := 177) rfl, (List.forall_mem_cons.mpr ⟨List.mem_of_getElem? (i := 178) rfl, (List.forall_mem_cons.mpr ⟨List.mem_of_getElem? (i := 179) rfl, (List.forall_mem_cons.mpr ⟨List.mem_of_getElem? (i := 118) rfl, (List.forall_mem_cons.mpr ⟨List.mem_of_getElem? (i := 181) rfl, (List.forall_mem_cons.mpr ⟨List.mem_of_getElem? (i := 183) rfl, (List.forall_mem_cons.mpr ⟨List.mem_of_getElem? (i := 1) rfl, (List.forall_mem_cons.mpr ⟨List.mem_of_getElem? (i := 184) rfl, (List.forall_mem_cons.mpr ⟨List.mem_of_getElem? (i := 185) rfl, (List.forall_mem_cons.mpr ⟨List.mem_of_getElem? (i := 186) rfl, (List.forall_mem_cons.mpr ⟨List.mem_of_getElem? (i := 187) rfl, (fun _ h => absurd h List.not_mem_nil)⟩)⟩)⟩)⟩)⟩)⟩)⟩)⟩)⟩)⟩)⟩)⟩)⟩)⟩)⟩)⟩)⟩)⟩)⟩)⟩)⟩)⟩)⟩)⟩)
set_option maxRecDepth 100000 in
theorem in_wsL_law_r5 : ∀ w ∈ wsL_law_r5, w ∈ lw_tbl := (List.forall_mem_cons.mpr ⟨List.mem_of_getElem? (i := 188) rfl, (List.forall_mem_cons.mpr ⟨List.mem_of_getElem? (i := 95) rfl, (List.forall_mem_cons.mpr ⟨List.mem_of_getElem? (i := 96) rfl, (List.forall_mem_cons.mpr ⟨List.mem_of_getElem? (i := 189) rfl, (List.forall_mem_cons.mpr ⟨List.mem_of_getElem? (i := 190) rfl, (List.forall_mem_cons.mpr ⟨List.mem_of_getElem? (i := 191) rfl, (List.forall_mem_cons.mpr ⟨List.mem_of_getElem? (i := 192) rfl, (List.forall_mem_cons.mpr ⟨List.mem_of_getElem? (i := 194) rfl, (List.forall_mem_cons.mpr ⟨List.mem_of_getElem? (i := 195) rfl, (List.forall_mem_cons.mpr ⟨List.mem_of_getElem? (i := 196) rfl, (List.forall_mem_cons.mpr ⟨List.mem_of_getElem? (i := 198) rfl, (List.forall_mem_cons.mpr ⟨List.mem_of_getElem? (i := 2) rfl, (List.forall_mem_cons.mpr ⟨List.mem_of_getElem? (i := 199) rfl, (List.forall_mem_cons.mpr ⟨List.mem_of_getElem? (i := 200) rfl, (List.forall_mem_cons.mpr ⟨List.mem_of_getElem? (i := 201) rfl, (List.forall_mem_cons.mpr ⟨List.mem_of_getElem? (i := 202) rfl, (List.forall_mem_cons.mpr ⟨List.mem_of_getElem? (i := 203) rfl, (List.forall_mem_cons.mpr ⟨List.mem_of_getElem? (i := 205) rfl, (List.forall_mem_cons.mpr ⟨List.mem_of_getElem? (i := 3) rfl, (List.forall_mem_cons.mpr ⟨List.mem_of_getElem? (i := 206) rfl, (List.forall_mem_cons.mpr ⟨List.mem_of_getElem? (i := 208) rfl, (List.forall_mem_cons.mpr ⟨List.mem_of_getElem? (i := 209) rfl, (List.forall_mem_cons.mpr ⟨List.mem_of_getElem? (i := 210) rfl, (List.forall_mem_cons.mpr ⟨List.mem_of_getElem? (i := 212) rfl, (fun _ h => absurd h List.not_mem_nil)⟩)⟩)⟩)⟩)⟩)⟩)⟩)⟩)⟩)⟩)⟩)⟩)⟩)⟩)⟩)⟩)⟩)⟩)⟩)⟩)⟩)⟩)⟩)⟩)
set_option maxRecDepth 100000 in
theorem in_wsL_law_r6 : ∀ w ∈ wsL_law_r6, w ∈ lw_tbl := (List.forall_mem_cons.mpr ⟨List.mem_of_getElem? (i := 4) rfl, (List.forall_mem_cons.mpr ⟨List.mem_of_getElem? (i := 213) rfl, (List.forall_mem_cons.mpr ⟨List.mem_of_getElem? (i := 214) rfl, (List.forall_mem_cons.mpr ⟨List.mem_of_getElem? (i := 215) rfl, (List.forall_mem_cons.mpr ⟨List.mem_of_getElem? (i := 216) rfl, (List.forall_mem_cons.mpr ⟨List.mem_of_getElem? (i := 217) rfl, (List.forall_mem_cons.mpr ⟨List.mem_of_getElem? (i := 219) rfl, (List.forall_mem_cons.mpr ⟨List.mem_of_getElem? (i := 5) rfl, (List.forall_mem_cons.mpr ⟨List.mem_of_getElem? (i := 220) rfl, (List.forall_mem_cons.mpr ⟨List.mem_of_getElem? (i := 97) rfl, (List.forall_mem_cons.mpr ⟨List.mem_of_getElem? (i := 221) rfl, (List.forall_mem_cons.mpr ⟨List.mem_of_getElem? (i := 223) rfl, (List.forall_mem_cons.mpr ⟨List.mem_of_getElem? (i := 6) rfl, (List.forall_mem_cons.mpr ⟨List.mem_of_getElem? (i := 224) rfl, (List.forall_mem_cons.mpr ⟨List.mem_of_getElem? (i := 225) rfl, (List.forall_mem_cons.mpr ⟨List.mem_of_getElem? (i := 227) rfl, (List.forall_mem_cons.mpr ⟨List.mem_of_getElem? (i := 7) rfl, (List.forall_mem_cons.mpr ⟨List.mem_of_getElem? (i := 228) rfl, (List.forall_mem_cons.mpr ⟨List.mem_of_getElem? (i := 133) rfl, (List.forall_mem_cons.mpr ⟨List.mem_of_getElem? (i := 229) rfl, (List.forall_mem_cons.mpr ⟨List.mem_of_getElem? (i := 230) rfl, (List.forall_mem_cons.mpr ⟨List.mem_of_getElem? (i := 231) rfl, (List.forall_mem_cons.mpr ⟨List.mem_of_getElem? (i := 232) rfl, (List.forall_mem_cons.mpr ⟨List.mem_of_getElem? (i := 611) rfl, (fun _ h => absurd h List.not_mem_nil)⟩)⟩)⟩)⟩)⟩)⟩)⟩)⟩)⟩)⟩)⟩)⟩)⟩)⟩)⟩)⟩)⟩)⟩)⟩)⟩)⟩)⟩)⟩)⟩)
set_option maxRecDepth 100000 in
theorem in_wsL_law_r7 : ∀ w ∈ wsL_law_r7, w ∈ lw_tbl := (List.forall_mem_cons.mpr ⟨List.mem_of_getElem? (i := 612) rfl, (List.forall_mem_cons.mpr ⟨List.mem_of_getElem? (i := 613) rfl, (List.forall_mem_cons.mpr ⟨List.mem_of_getElem? (i := 614) rfl, (List.forall_mem_cons.mpr ⟨List.mem_of_getElem? (i := 541) rfl, (List.forall_mem_cons.mpr ⟨List.mem_of_getElem? (i := 552) rfl, (List.forall_mem_cons.mpr ⟨List.mem_of_getElem? (i := 553) rfl, (List.forall_mem_cons.mpr ⟨List.mem_of_getElem? (i := 546) rfl, (List.forall_mem_cons.mpr ⟨List.mem_of_getElem? (i := 555) rfl, (List.forall_mem_cons.mpr ⟨List.mem_of_getElem? (i := 548) rfl, (List.forall_mem_cons.mpr ⟨List.mem_of_getElem? (i := 554) rfl, (List.forall_mem_cons.mpr ⟨List.mem_of_getElem? (i := 547) rfl, (List.forall_mem_cons.mpr ⟨List.mem_of_getElem? (i := 561) rfl, (List.forall_mem_cons.mpr ⟨List.mem_of_getElem? (i := 615) rfl, (List.forall_mem_cons.mpr ⟨List.mem_of_getElem? (i := 616) rfl, (List.forall_mem_cons.mpr ⟨List.mem_of_getElem? (i := 617) rfl, (List.forall_mem_cons.mpr ⟨List.mem_of_getElem? (i := 618) rfl, (List.forall_mem_cons.mpr ⟨List.mem_of_getElem? (i := 619) rfl, (List.forall_mem_cons.mpr ⟨List.mem_of_getElem? (i := 620) rfl, (List.forall_mem_cons.mpr ⟨List.mem_of_getElem? (i := 621) rfl, (List.forall_mem_cons.mpr ⟨List.mem_of_getElem? (i := 622) rfl, (List.forall_mem_cons.mpr ⟨List.mem_of_getElem? (i := 623) rfl, (List.forall_mem_cons.mpr ⟨List.mem_of_getElem? (i := 624) rfl, (List.forall_mem_cons.mpr ⟨List.mem_of_getElem? (i := 626) rfl, (List.forall_mem_cons.mpr ⟨List.mem_of_getElem? (i := 25) rfl, (fun _ h => absurd h List.not_mem_nil)⟩)⟩)⟩)⟩)⟩)⟩)⟩)⟩)⟩)⟩)⟩)⟩)⟩)⟩)⟩)⟩)⟩)⟩)⟩)⟩)⟩)⟩)⟩)⟩)
set_option maxRecDepth 100000 in
theorem in_wsL_law_r8 : ∀ w ∈ wsL_law_r8, w ∈ lw_tbl := (List.forall_mem_cons.mpr ⟨List.mem_of_getElem? (i := 627) rfl, (List.forall_mem_cons.mpr ⟨List.mem_of_getElem? (i := 628) rfl, (List.forall_mem_cons.mpr ⟨List.mem_of_getElem? (i := 630) rfl, (List.forall_mem_cons.mpr ⟨List.mem_of_getElem? (i := 26) rfl, (List.forall_mem_cons.mpr ⟨List.mem_of_getElem? (i := 631) rfl, (List.forall_mem_cons.mpr ⟨List.mem_of_getElem? (i := 632) rfl, (List.forall_mem_cons.mpr ⟨List.mem_of_getElem? (i := 634) rfl, (List.forall_mem_cons.mpr ⟨List.mem_of_getElem? (i := 27) rfl, (List.forall_mem_cons.mpr ⟨List.mem_of_getElem? (i := 635) rfl, (List.forall_mem_cons.mpr ⟨List.mem_of_getElem? (i := 636) rfl, (List.forall_mem_cons.mpr ⟨List.mem_of_getElem? (i := 638) rfl, (List.forall_mem_cons.mpr ⟨List.mem_of_getElem? (i := 28) rfl, (List.forall_mem_cons.mpr ⟨List.mem_of_getElem? (i := 639) rfl, (List.forall_mem_cons.mpr ⟨List.mem_of_getElem? (i := 640) rfl, (List.forall_mem_cons.mpr ⟨List.mem_of_getElem? (i := 642) rfl, (List.forall_mem_cons.mpr ⟨List.mem_of_getElem? (i := 29) rfl, (List.forall_mem_cons.mpr ⟨List.mem_of_getElem? (i := 643) rfl, (List.forall_mem_cons.mpr ⟨List.mem_of_getElem? (i := 644) rfl, (List.forall_mem_cons.mpr ⟨List.mem_of_getElem? (i := 646) rfl, (List.forall_mem_cons.mpr ⟨List.mem_of_getElem? (i := 30) rfl, (List.forall_mem_cons.mpr ⟨List.mem_of_getElem? (i := 647) rfl, (List.forall_mem_cons.mpr ⟨List.mem_of_getElem? (i := 648) rfl, (List.forall_mem_cons.mpr ⟨List.mem_of_getElem? (i := 650) rfl, (List.forall_mem_cons.mpr ⟨List.mem_of_getElem? (i := 31) rfl, (fun _ h => absurd h List.not_mem_nil)⟩)⟩)⟩)⟩)⟩)⟩)⟩)⟩)⟩)⟩)⟩)⟩)⟩)⟩)⟩)⟩)⟩)⟩)⟩)⟩)⟩)⟩)⟩)⟩)
set_option maxRecDepth 100000 in
theorem in_wsL_law_r9 : ∀ w ∈ wsL_law_r9, w ∈ lw_tbl := (List.forall_mem_cons.mpr ⟨List.mem_of_getElem? (i := 651) rfl, (List.forall_mem_cons.mpr ⟨List.mem_of_getElem? (i := 233) rfl, (List.forall_mem_cons.mpr ⟨List.mem_of_getElem? (i := 234) rfl, (List.forall_mem_cons.mpr ⟨List.mem_of_getElem? (i := 235) rfl, (List.forall_mem_cons.mpr ⟨List.mem_of_getElem? (i := 236) rfl, (List.forall_mem_cons.mpr ⟨List.mem_of_getElem? (i := 237) rfl, (List.forall_mem_cons.mpr ⟨List.mem_of_getElem? (i := 239) rfl, (List.forall_mem_cons.mpr ⟨List.mem_of_getElem? (i := 8) rfl, (List.forall_mem_cons.mpr ⟨List.mem_of_getElem? (i := 240) rfl, (List.forall_mem_cons.mpr ⟨List.mem_of_getElem? (i := 241) rfl, (List.forall_mem_cons.mpr ⟨List.mem_of_getElem? (i := 242) rfl, (List.forall_mem_cons.mpr ⟨List.mem_of_getElem? (i := 243) rfl, (List.forall_mem_cons.mpr ⟨List.mem_of_getElem? (i := 244) rfl, (List.forall_mem_cons.mpr ⟨List.mem_of_getElem? (i := 246) rfl, (List.forall_mem_cons.mpr ⟨List.mem_of_getElem? (i := 247) rfl, (List.forall_mem_cons.mpr ⟨List.mem_of_getElem? (i := 248) rfl, (List.forall_mem_cons.mpr ⟨List.mem_of_getElem? (i := 249) rfl, (List.forall_mem_cons.mpr ⟨List.mem_of_getElem? (i := 652) rfl, (List.forall_mem_cons.mpr ⟨List.mem_of_getElem? (i := 653) rfl, (List.forall_mem_cons.mpr ⟨List.mem_of_getElem? (i := 654) rfl, (List.forall_mem_cons.mpr ⟨List.mem_of_getElem? (i := 655) rfl, (List.forall_mem_cons.mpr ⟨List.mem_of_getElem? (i := 656) rfl, (List.forall_mem_cons.mpr ⟨List.mem_of_getElem? (i := 658) rfl, (List.forall_mem_cons.mpr ⟨List.mem_of_getElem? (i := 32) rfl, (fun _ h => absurd h List.not_mem_nil)⟩)⟩)⟩)⟩)⟩)⟩)⟩)⟩)⟩)⟩)⟩)⟩)⟩)⟩)⟩)⟩)⟩)⟩)⟩)⟩)⟩)⟩)⟩)⟩)
set_option maxRecDepth 100000 in
theorem in_wsL_law_r10 : ∀ w ∈ wsL_law_r10, w ∈ lw_tbl := (List.forall_mem_cons.mpr ⟨List.mem_of_getElem? (i := 659) rfl, (List.forall_mem_cons.mpr ⟨List.mem_of_getElem? (i := 250) rfl, (List.forall_mem_cons.mpr ⟨List.mem_of_getElem? (i := 251) rfl, (List.forall_mem_cons.mpr ⟨List.mem_of_getElem? (i := 252) rfl, (List.forall_mem_cons.mpr ⟨List.mem_of_getElem? (i := 253) rfl, (List.forall_mem_cons.mpr ⟨List.mem_of_getElem? (i := 254) rfl, (List.forall_mem_cons.mpr ⟨List.mem_of_getElem? (i := 255) rfl, (List.forall_mem_cons.mpr ⟨List.mem_of_getElem? (i := 256) rfl, (List.forall_mem_cons.mpr ⟨List.mem_of_getElem? (i := 257) rfl, (List.forall_mem_cons.mpr ⟨List.mem_of_getElem? (i := 660) rfl, (List.forall_mem_cons.mpr ⟨List.mem_of_getElem? (i := 661) rfl, (List.forall_mem_cons.mpr ⟨List.mem_of_getElem? (i := 662) rfl, (List.forall_mem_cons.mpr ⟨List.mem_of_getElem? (i := 663) rfl, (List.forall_mem_cons.mpr ⟨List.mem_of_getElem? (i := 258) rfl, (List.forall_mem_cons.mpr ⟨List.mem_of_getElem? (i := 259) rfl, (List.forall_mem_cons.mpr ⟨List.mem_of_getElem? (i := 260) rfl, (List.forall_mem_cons.mpr ⟨List.mem_of_getElem? (i := 261) rfl, (List.forall_mem_cons.mpr ⟨List.mem_of_getElem? (i := 262) rfl, (List.forall_mem_cons.mpr ⟨List.mem_of_getElem? (i := 264) rfl, (List.forall_mem_cons.mpr ⟨List.mem_of_getElem? (i := 9) rfl, (List.forall_mem_cons.mpr ⟨List.mem_of_getElem? (i := 265) rfl, (List.forall_mem_cons.mpr ⟨List.mem_of_getElem? (i := 266) rfl, (List.forall_mem_cons.mpr ⟨List.mem_of_getElem? (i := 267) rfl, (List.forall_mem_cons.mpr ⟨List.mem_of_getElem? (i := 268) rfl, (fun _ h => absurd h List.not_mem_nil)⟩)⟩)⟩)⟩)⟩)⟩)⟩)⟩)⟩)⟩)⟩)⟩)⟩)⟩)⟩)⟩)⟩)⟩)⟩)⟩)⟩)⟩)⟩)⟩)
set_option maxRecDepth 100000 in
theorem in_wsL_law_r11 : ∀ w ∈ wsL_law_r11, w ∈ lw_tbl := (List.forall_mem_cons.mpr ⟨List.mem_of_getElem? (i := 269) rfl, (List.forall_mem_cons.mpr ⟨List.mem_of_getElem? (i := 270) rfl, (List.forall_mem_cons.mpr ⟨List.mem_of_getElem? (i := 271) rfl, (List.forall_mem_cons.mpr ⟨List.mem_of_getElem? (i := 272) rfl, (List.forall_mem_cons.mpr ⟨List.mem_of_getElem? (i := 273) rfl, (List.forall_mem_cons.mpr ⟨List.mem_of_getElem? (i := 664) rfl, (List.forall_mem_cons.mpr ⟨List.mem_of_getElem? (i := 665) rfl, (List.forall_mem_cons.mpr ⟨List.mem_of_getElem? (i := 666) rfl, (List.forall_mem_cons.mpr ⟨List.mem_of_getElem? (i := 667) rfl, (List.forall_mem_cons.mpr ⟨List.mem_of_getElem? (i := 274) rfl, (List.forall_mem_cons.mpr ⟨List.mem_of_getElem? (i := 275) rfl, (List.forall_mem_cons.mpr ⟨List.mem_of_getElem? (i := 276) rfl, (List.forall_mem_cons.mpr ⟨List.mem_of_getElem? (i := 277) rfl, (List.forall_mem_cons.mpr ⟨List.mem_of_getElem? (i := 278) rfl, (List.forall_mem_cons.mpr ⟨List.mem_of_getElem? (i := 279) rfl, (List.forall_mem_cons.mpr ⟨List.mem_of_getElem? (i := 280) rfl, (List.forall_mem_cons.mpr ⟨List.mem_of_getElem? (i := 281) rfl, (List.forall_mem_cons.mpr ⟨List.mem_of_getElem? (i := 282) rfl, (List.forall_mem_cons.mpr ⟨List.mem_of_getElem? (i := 283) rfl, (List.forall_mem_cons.mpr ⟨List.mem_of_getElem? (i := 51) rfl, (List.forall_mem_cons.mpr ⟨List.mem_of_getElem? (i := 284) rfl, (List.forall_mem_cons.mpr ⟨List.mem_of_getElem? (i := 668) rfl, (List.forall_mem_cons.mpr ⟨List.mem_of_getElem? (i := 669) rfl, (List.forall_mem_cons.mpr ⟨List.mem_of_getElem? (i := 670) rfl, (fun _ h => absurd h List.not_mem_nil)⟩)⟩)⟩)⟩)⟩)⟩)⟩)⟩)⟩)⟩)⟩)⟩)⟩)⟩)⟩)⟩)⟩)⟩)⟩)⟩)⟩)⟩)⟩)⟩)
set_option maxRecDepth 100000 in
theorem in_wsL_law_r12 : ∀ w ∈ wsL_law_r12, w ∈ lw_tbl := (List.forall_mem_cons.mpr ⟨List.mem_of_getElem? (i := 671) rfl, (List.forall_mem_cons.mpr ⟨List.mem_of_getElem? (i := 672) rfl, (List.forall_mem_cons.mpr ⟨List.mem_of_getElem? (i := 674) rfl, (List.forall_mem_cons.mpr ⟨List.mem_of_getElem? (i := 33) rfl, (List.forall_mem_cons.mpr ⟨List.mem_of_getElem? (i := 675) rfl, (List.forall_mem_cons.mpr ⟨List.mem_of_getElem? (i := 285) rfl, (List.forall_mem_cons.mpr ⟨List.mem_of_getElem? (i := 286) rfl, (List.forall_mem_cons.mpr ⟨List.mem_of_getElem? (i := 287) rfl, (List.forall_mem_cons.mpr ⟨List.mem_of_getElem? (i := 288) rfl, (List.forall_mem_cons.mpr ⟨List.mem_of_getElem? (i := 289) rfl, (List.forall_mem_cons.mpr ⟨List.mem_of_getElem? (i := 291) rfl, (List.forall_mem_cons.mpr ⟨List.mem_of_getElem? (i := 10) rfl, (List.forall_mem_cons.mpr ⟨List.mem_of_getElem? (i := 292) rfl, (List.forall_mem_cons.mpr ⟨List.mem_of_getElem? (i := 293) rfl, (List.forall_mem_cons.mpr ⟨List.mem_of_getElem? (i := 294) rfl, (List.forall_mem_cons.mpr ⟨List.mem_of_getElem? (i := 296) rfl, (List.forall_mem_cons.mpr ⟨List.mem_of_getElem? (i := 11) rfl, (List.forall_mem_cons.mpr ⟨List.mem_of_getElem? (i := 297) rfl, (List.forall_mem_cons.mpr ⟨List.mem_of_getElem? (i := 298) rfl, (List.forall_mem_cons.mpr ⟨List.mem_of_getElem? (i := 299) rfl, (List.forall_mem_cons.mpr ⟨List.mem_of_getElem? (i := 300) rfl, (List.forall_mem_cons.mpr ⟨List.mem_of_getElem? (i := 301) rfl, (List.forall_mem_cons.mpr ⟨List.mem_of_getElem? (i := 302) rfl, (List.forall_mem_cons.mpr ⟨List.mem_of_getElem? (i := 303) rfl, (fun _ h => absurd h List.not_mem_nil)⟩)⟩)⟩)⟩)⟩)⟩)⟩)⟩)⟩)⟩)⟩)⟩)⟩)⟩)⟩)⟩)⟩)⟩)⟩)⟩)⟩)⟩)⟩)⟩)
set_option maxRecDepth 100000 in
theorem in_wsL_law_r13 : ∀ w ∈ wsL_law_r13, w ∈ lw_tbl := (List.forall_mem_cons.mpr ⟨List.mem_of_getElem? (i := 304) rfl, (List.forall_mem_cons.mpr ⟨List.mem_of_getElem? (i := 305) rfl, (List.forall_mem_cons.mpr ⟨List.mem_of_getElem? (i := 306) rfl, (List.forall_mem_cons.mpr ⟨List.mem_of_getElem? (i := 307) rfl, (List.forall_mem_cons.mpr ⟨List.mem_of_getElem? (i := 309) rfl, (List.forall_mem_cons.mpr ⟨List.mem_of_getElem? (i := 12) rfl, (List.forall_mem_cons.mpr ⟨List.mem_of_getElem? (i := 310) rfl, (List.forall_mem_cons.mpr ⟨List.mem_of_getElem? (i := 676) rfl, (List.forall_mem_cons.mpr ⟨List.mem_of_getElem? (i := 677) rfl, (List.forall_mem_cons.mpr ⟨List.mem_of_getElem? (i := 678) rfl, (List.forall_mem_cons.mpr ⟨List.mem_of_getElem? (i := 679) rfl, (List.forall_mem_cons.mpr ⟨List.mem_of_getElem? (i := 680) rfl, (List.forall_mem_cons.mpr ⟨List.mem_of_getElem? (i := 682) rfl, (List.forall_mem_cons.mpr ⟨List.mem_of_getElem? (i := 34) rfl, (List.forall_mem_cons.mpr ⟨List.mem_of_getElem? (i := 683) rfl, (List.forall_mem_cons.mpr ⟨List.mem_of_getElem? (i := 684) rfl, (List.forall_mem_cons.mpr ⟨List.mem_of_getElem? (i := 686) rfl, (List.forall_mem_cons.mpr ⟨List.mem_of_getElem? (i := 35) rfl, (List.forall_mem_cons.mpr ⟨List.mem_of_getElem? (i := 687) rfl, (List.forall_mem_cons.mpr ⟨List.mem_of_getElem? (i := 311) rfl, (List.forall_mem_cons.mpr ⟨List.mem_of_getElem? (i := 312) rfl, (List.forall_mem_cons.mpr ⟨List.mem_of_getElem? (i := 313) rfl, (List.forall_mem_cons.mpr ⟨List.mem_of_getElem? (i := 314) rfl, (List.forall_mem_cons.mpr ⟨List.mem_of_getElem? (i := 315) rfl, (fun _ h => absurd h List.not_mem_nil)⟩)⟩)⟩)⟩)⟩)⟩)⟩)⟩)⟩)⟩)⟩)⟩)⟩)⟩)⟩)⟩)⟩)⟩)⟩)⟩)⟩)⟩)⟩)⟩)
set_option maxRecDepth 100000 in
theorem in_wsL_law_r14 : ∀ w ∈ wsL_law_r14, w ∈ lw_tbl := (List.forall_mem_cons.mpr ⟨List.mem_of_getElem? (i := 316) rfl, (List.forall_mem_cons.mpr ⟨List.mem_of_getElem? (i := 317) rfl, (List.forall_mem_cons.mpr ⟨List.mem_of_getElem? (i := 318) rfl, (List.forall_mem_cons.mpr ⟨List.mem_of_getElem? (i := 320) rfl, (List.forall_mem_cons.mpr ⟨List.mem_of_getElem? (i := 13) rfl, (List.forall_mem_cons.mpr ⟨List.mem_of_getElem? (i := 321) rfl, (List.forall_mem_cons.mpr ⟨List.mem_of_getElem? (i := 322) rfl, (List.forall_mem_cons.mpr ⟨List.mem_of_getElem? (i := 323) rfl, (List.forall_mem_cons.mpr ⟨List.mem_of_getElem? (i := 324) rfl, (List.forall_mem_cons.mpr ⟨List.mem_of_getElem? (i := 325) rfl, (List.forall_mem_cons.mpr ⟨List.mem_of_getElem? (i := 73) rfl, (List.forall_mem_cons.mpr ⟨List.mem_of_getElem? (i := 326) rfl, (List.forall_mem_cons.mpr ⟨List.mem_of_getElem? (i := 327) rfl, (List.forall_mem_cons.mpr ⟨List.mem_of_getElem? (i := 329) rfl, (List.forall_mem_cons.mpr ⟨List.mem_of_getElem? (i := 330) rfl, (List.forall_mem_cons.mpr ⟨List.mem_of_getElem? (i := 332) rfl, (List.forall_mem_cons.mpr ⟨List.mem_of_getElem? (i := 14) rfl, (List.forall_mem_cons.mpr ⟨List.mem_of_getElem? (i := 333) rfl, (List.forall_mem_cons.mpr ⟨List.mem_of_getElem? (i := 348) rfl, (List.forall_mem_cons.mpr ⟨List.mem_of_getElem? (i := 349) rfl, (List.forall_mem_cons.mpr ⟨List.mem_of_getElem? (i := 350) rfl, (List.forall_mem_cons.mpr ⟨List.mem_of_getElem? (i := 355) rfl, (List.forall_mem_cons.mpr ⟨List.mem_of_getElem? (i := 356) rfl, (List.forall_mem_cons.mpr ⟨List.mem_of_getElem? (i := 357) rfl, (fun _ h => absurd h List.not_mem_nil)⟩)⟩)⟩)⟩)⟩)⟩)⟩)⟩)⟩)⟩)⟩)⟩)⟩)⟩)⟩)⟩)⟩)⟩)⟩)⟩)⟩)⟩)⟩)⟩)
set_option maxRecDepth 100000 in
theorem in_wsL_law_r15 : ∀ w ∈ wsL_law_r15, w ∈ lw_tbl := (List.forall_mem_cons.mpr ⟨List.mem_of_getElem? (i := 334) rfl, (List.forall_mem_cons.mpr ⟨List.mem_of_getElem? (i := 335) rfl, (List.forall_mem_cons.mpr ⟨List.mem_of_getElem? (i := 52) rfl, (List.forall_mem_cons.mpr ⟨List.mem_of_getElem? (i := 336) rfl, (List.forall_mem_cons.mpr ⟨List.mem_of_getElem? (i := 337) rfl, (List.forall_mem_cons.mpr ⟨List.mem_of_getElem? (i := 338) rfl, (List.forall_mem_cons.mpr ⟨List.mem_of_getElem? (i := 339) rfl, (List.forall_mem_cons.mpr ⟨List.mem_of_getElem? (i := 341) rfl, (List.forall_mem_cons.mpr ⟨List.mem_of_getElem? (i := 342) rfl, (List.forall_mem_cons.mpr ⟨List.mem_of_getElem? (i := 344) rfl, (List.forall_mem_cons.mpr ⟨List.mem_of_getElem? (i := 345) rfl, (List.forall_mem_cons.mpr ⟨List.mem_of_getElem? (i := 346) rfl, (List.forall_mem_cons.mpr ⟨List.mem_of_getElem? (i := 347) rfl, (List.forall_mem_cons.mpr ⟨List.mem_of_getElem? (i := 351) rfl, (List.forall_mem_cons.mpr ⟨List.mem_of_getElem? (i := 352) rfl, (List.forall_mem_cons.mpr ⟨List.mem_of_getElem? (i := 353) rfl, (List.forall_mem_cons.mpr ⟨List.mem_of_getElem? (i := 354) rfl, (List.forall_mem_cons.mpr ⟨List.mem_of_getElem? (i := 358) rfl, (List.forall_mem_cons.mpr ⟨List.mem_of_getElem? (i := 688) rfl, (List.forall_mem_cons.mpr ⟨List.mem_of_getElem? (i := 689) rfl, (List.forall_mem_cons.mpr ⟨List.mem_of_getElem? (i := 690) rfl, (List.forall_mem_cons.mpr ⟨List.mem_of_getElem? (i := 691) rfl, (List.forall_mem_cons.mpr ⟨List.mem_of_getElem? (i := 692) rfl, (List.forall_mem_cons.mpr ⟨List.mem_of_getElem? (i := 694) rfl, (fun _ h => absurd h List.not_mem_nil)⟩)⟩)⟩)⟩)⟩)⟩)⟩)⟩)⟩)⟩)⟩)⟩)⟩)⟩)⟩)⟩)⟩)⟩)⟩)⟩)⟩)⟩)⟩)⟩)
set_option maxRecDepth 100000 in
theorem in_wsL_law_r16 : ∀ w ∈ wsL_law_r16, w ∈ lw_tbl := (List.forall_mem_cons.mpr ⟨List.mem_of_getElem? (i := 36) rfl, (List.forall_mem_cons.mpr ⟨List.mem_of_getElem? (i := 695) rfl, (List.forall_mem_cons.mpr ⟨List.mem_of_getElem? (i := 696) rfl, (List.forall_mem_cons.mpr ⟨List.mem_of_getElem? (i := 698) rfl, (List.forall_mem_cons.mpr ⟨List.mem_of_getElem? (i := 37) rfl, (List.forall_mem_cons.mpr ⟨List.mem_of_getElem? (i := 699) rfl, (List.forall_mem_cons.mpr ⟨List.mem_of_getElem? (i := 700) rfl, (List.forall_mem_cons.mpr ⟨List.mem_of_getElem? (i := 702) rfl, (List.forall_mem_cons.mpr ⟨List.mem_of_getElem? (i := 38) rfl, (List.forall_mem_cons.mpr ⟨List.mem_of_getElem? (i := 703) rfl, (List.forall_mem_cons.mpr ⟨List.mem_of_getElem? (i := 704) rfl, (List.forall_mem_cons.mpr ⟨List.mem_of_getElem? (i := 706) rfl, (List.forall_mem_cons.mpr ⟨List.mem_of_getElem? (i := 39) rfl, (List.forall_mem_cons.mpr ⟨List.mem_of_getElem? (i := 707) rfl, (List.forall_mem_cons.mpr ⟨List.mem_of_getElem? (i := 708) rfl, (List.forall_mem_cons.mpr ⟨List.mem_of_getElem? (i := 709) rfl, (List.forall_mem_cons.mpr ⟨List.mem_of_getElem? (i := 710) rfl, (List.forall_mem_cons.mpr ⟨List.mem_of_getElem? (i := 359) rfl, (List.forall_mem_cons.mpr ⟨List.mem_of_getElem? (i := 360) rfl, (List.forall_mem_cons.mpr ⟨List.mem_of_getElem? (i := 361) rfl, (List.forall_mem_cons.mpr ⟨List.mem_of_getElem? (i := 362) rfl, (List.forall_mem_cons.mpr ⟨List.mem_of_getElem? (i := 363) rfl, (List.forall_mem_cons.mpr ⟨List.mem_of_getElem? (i := 364) rfl, (List.forall_mem_cons.mpr ⟨List.mem_of_getElem? (i := 365) rfl, (fun _ h => absurd h List.not_mem_nil)⟩)⟩)⟩)⟩)⟩)⟩)⟩)⟩)⟩)⟩)⟩)⟩)⟩)⟩)⟩)⟩)⟩)⟩)⟩)⟩)⟩)⟩)⟩)⟩)
set_option maxRecDepth 100000 in
theorem in_wsL_law_r17 : ∀ w ∈ wsL_law_r17, w ∈ lw_tbl := (List.forall_mem_cons.mpr ⟨List.mem_of_getElem? (i := 366) rfl, (List.forall_mem_cons.mpr ⟨List.mem_of_getElem? (i := 711) rfl, (List.forall_mem_cons.mpr ⟨List.mem_of_getElem? (i := 712) rfl, (List.forall_mem_cons.mpr ⟨List.mem_of_getElem? (i := 713) rfl, (List.forall_mem_cons.mpr ⟨List.mem_of_getElem? (i := 714) rfl, (List.forall_mem_cons.mpr ⟨List.mem_of_getElem? (i := 715) rfl, (List.forall_mem_cons.mpr ⟨List.mem_of_getElem? (i := 717) rfl, (List.forall_mem_cons.mpr ⟨List.mem_of_getElem? (i := 40) rfl, (List.forall_mem_cons.mpr ⟨List.mem_of_getElem? (i := 718) rfl, (List.forall_mem_cons.mpr ⟨List.mem_of_getElem? (i := 367) rfl, (List.forall_mem_cons.mpr ⟨List.mem_of_getElem? (i := 368) rfl, (List.forall_mem_cons.mpr ⟨List.mem_of_getElem? (i := 369) rfl, (List.forall_mem_cons.mpr ⟨List.mem_of_getElem? (i := 370) rfl, (List.forall_mem_cons.mpr ⟨List.mem_of_getElem? (i := 371) rfl, (List.forall_mem_cons.mpr ⟨List.mem_of_getElem? (i := 372) rfl, (List.forall_mem_cons.mpr ⟨List.mem_of_getElem? (i := 373) rfl, (List.forall_mem_cons.mpr ⟨List.mem_of_getElem? (i := 374) rfl, (List.forall_mem_cons.mpr ⟨List.mem_of_getElem? (i := 375) rfl, (List.forall_mem_cons.mpr ⟨List.mem_of_getElem? (i := 376) rfl, (List.forall_mem_cons.mpr ⟨List.mem_of_getElem? (i := 719) rfl, (List.forall_mem_cons.mpr ⟨List.mem_of_getElem? (i := 720) rfl, (List.forall_mem_cons.mpr ⟨List.mem_of_getElem? (i := 721) rfl, (List.forall_mem_cons.mpr ⟨List.mem_of_getElem? (i := 722) rfl, (List.forall_mem_cons.mpr ⟨List.mem_of_getElem? (i := 723) rfl, (fun _ h => absurd h List.not_mem_nil)⟩)⟩)⟩)⟩)⟩)⟩)⟩)⟩)⟩)⟩)⟩)⟩)⟩)⟩)⟩)⟩)⟩)⟩)⟩)⟩)⟩)⟩)⟩)⟩)
set_option maxRecDepth 100000 in
theorem in_wsL_law_r18 : ∀ w ∈ wsL_law_r18, w ∈ lw_tbl := (List.forall_mem_cons.mpr ⟨List.mem_of_getElem? (i := 724) rfl, (List.forall_mem_cons.mpr ⟨List.mem_of_getElem? (i := 725) rfl, (List.forall_mem_cons.mpr ⟨List.mem_of_getElem? (i := 726) rfl, (List.forall_mem_cons.mpr ⟨List.mem_of_getElem? (i := 377) rfl, (List.forall_mem_cons.mpr ⟨List.mem_of_getElem? (i := 378) rfl, (List.forall_mem_cons.mpr ⟨List.mem_of_getElem? (i := 379) rfl, (List.forall_mem_cons.mpr ⟨List.mem_of_getElem? (i := 380) rfl, (List.forall_mem_cons.mpr ⟨List.mem_of_getElem? (i := 381) rfl, (List.forall_mem_cons.mpr ⟨List.mem_of_getElem? (i := 727) rfl, (List.forall_mem_cons.mpr ⟨List.mem_of_getElem? (i := 728) rfl, (List.forall_mem_cons.mpr ⟨List.mem_of_getElem? (i := 729) rfl, (List.forall_mem_cons.mpr ⟨List.mem_of_getElem? (i := 730) rfl, (List.forall_mem_cons.mpr ⟨List.mem_of_getElem? (i := 382) rfl, (List.forall_mem_cons.mpr ⟨List.mem_of_getElem? (i := 383) rfl, (List.forall_mem_cons.mpr ⟨List.mem_of_getElem? (i := 384) rfl, (List.forall_mem_cons.mpr ⟨List.mem_of_getElem? (i := 385) rfl, (List.forall_mem_cons.mpr ⟨List.mem_of_getElem? (i := 386) rfl, (List.forall_mem_cons.mpr ⟨List.mem_of_getElem? (i := 387) rfl, (List.forall_mem_cons.mpr ⟨List.mem_of_getElem? (i := 388) rfl, (List.forall_mem_cons.mpr ⟨List.mem_of_getElem? (i := 389) rfl, (List.forall_mem_cons.mpr ⟨List.mem_of_getElem? (i := 390) rfl, (List.forall_mem_cons.mpr ⟨List.mem_of_getElem? (i := 391) rfl, (List.forall_mem_cons.mpr ⟨List.mem_of_getElem? (i := 392) rfl, (List.forall_mem_cons.mpr ⟨List.mem_of_getElem? (i := 393) rfl, (fun _ h => absurd h List.not_mem_nil)⟩)⟩)⟩)⟩)⟩)⟩)⟩)⟩)⟩)⟩)⟩)⟩)⟩)⟩)⟩)⟩)⟩)⟩)⟩)⟩)⟩)⟩)⟩)⟩)
set_option maxRecDepth 100000 in
theorem in_wsL_law_r19 : ∀ w ∈ wsL_law_r19, w ∈ lw_tbl := (List.forall_mem_cons.mpr ⟨List.mem_of_getElem? (i := 731) rfl, (List.forall_mem_cons.mpr ⟨List.mem_of_getElem? (i := 732) rfl, (List.forall_mem_cons.mpr ⟨List.mem_of_getElem? (i := 733) rfl, (List.forall_mem_cons.mpr ⟨List.mem_of_getElem? (i := 734) rfl, (List.forall_mem_cons.mpr ⟨List.mem_of_getElem? (i := 394) rfl, (List.forall_mem_cons.mpr ⟨List.mem_of_getElem? (i := 395) rfl, (List.forall_mem_cons.mpr ⟨List.mem_of_getElem? (i := 396) rfl, (List.forall_mem_cons.mpr ⟨List.mem_of_getElem? (i := 397) rfl, (List.forall_mem_cons.mpr ⟨List.mem_of_getElem? (i := 735) rfl, (List.forall_mem_cons.mpr ⟨List.mem_of_getElem? (i := 736) rfl, (List.forall_mem_cons.mpr ⟨List.mem_of_getElem? (i := 737) rfl, (List.forall_mem_cons.mpr ⟨List.mem_of_getElem? (i := 738) rfl, (List.forall_mem_cons.mpr ⟨List.mem_of_getElem? (i := 398) rfl, (List.forall_mem_cons.mpr ⟨List.mem_of_getElem? (i := 399) rfl, (List.forall_mem_cons.mpr ⟨List.mem_of_getElem? (i := 400) rfl, (List.forall_mem_cons.mpr ⟨List.mem_of_getElem? (i := 401) rfl, (List.forall_mem_cons.mpr ⟨List.mem_of_getElem? (i := 402) rfl, (List.forall_mem_cons.mpr ⟨List.mem_of_getElem? (i := 739) rfl, (List.forall_mem_cons.mpr ⟨List.mem_of_getElem? (i := 740) rfl, (List.forall_mem_cons.mpr ⟨List.mem_of_getElem? (i := 741) rfl, (List.forall_mem_cons.mpr ⟨List.mem_of_getElem? (i := 742) rfl, (List.forall_mem_cons.mpr ⟨List.mem_of_getElem? (i := 403) rfl, (List.forall_mem_cons.mpr ⟨List.mem_of_getElem? (i := 404) rfl, (List.forall_mem_cons.mpr ⟨List.mem_of_getElem? (i := 405) rfl, (fun _ h => absurd h List.not_mem_nil)⟩)⟩)⟩)⟩)⟩)⟩)⟩)⟩)⟩)⟩)⟩)⟩)⟩)⟩)⟩)⟩)⟩)⟩)⟩)⟩)⟩)⟩)⟩)⟩)
set_option maxRecDepth 100000 in
theorem in_wsL_law_r20 : ∀ w ∈ wsL_law_r20, w ∈ lw_tbl := (List.forall_mem_cons.mpr ⟨List.mem_of_getElem? (i := 406) rfl, (List.forall_mem_cons.mpr ⟨List.mem_of_getElem? (i := 743) rfl, (List.forall_mem_cons.mpr ⟨List.mem_of_getElem? (i := 744) rfl, (List.forall_mem_cons.mpr ⟨List.mem_of_getElem? (i := 745) rfl, (List.forall_mem_cons.mpr ⟨List.mem_of_getElem? (i := 746) rfl, (List.forall_mem_cons.mpr ⟨List.mem_of_getElem? (i := 407) rfl, (List.forall_mem_cons.mpr ⟨List.mem_of_getElem? (i := 408) rfl, (List.forall_mem_cons.mpr ⟨List.mem_of_getElem? (i := 409) rfl, (List.forall_mem_cons.mpr ⟨List.mem_of_getElem? (i := 410) rfl, (List.forall_mem_cons.mpr ⟨List.mem_of_getElem? (i := 411) rfl, (List.forall_mem_cons.mpr ⟨List.mem_of_getElem? (i := 413) rfl, (List.forall_mem_cons.mpr ⟨List.mem_of_getElem? (i := 15) rfl, (List.forall_mem_cons.mpr ⟨List.mem_of_getElem? (i := 414) rfl, (List.forall_mem_cons.mpr ⟨List.mem_of_getElem? (i := 415) rfl, (List.forall_mem_cons.mpr ⟨List.mem_of_getElem? (i := 417) rfl, (List.forall_mem_cons.mpr ⟨List.mem_of_getElem? (i := 16) rfl, (List.forall_mem_cons.mpr ⟨List.mem_of_getElem? (i := 418) rfl, (List.forall_mem_cons.mpr ⟨List.mem_of_getElem? (i := 419) rfl, (List.forall_mem_cons.mpr ⟨List.mem_of_getElem? (i := 747) rfl, (List.forall_mem_cons.mpr ⟨List.mem_of_getElem? (i := 748) rfl, (List.forall_mem_cons.mpr ⟨List.mem_of_getElem? (i := 749) rfl, (List.forall_mem_cons.mpr ⟨List.mem_of_getElem? (i := 750) rfl, (List.forall_mem_cons.mpr ⟨List.mem_of_getElem? (i := 751) rfl, (List.forall_mem_cons.mpr ⟨List.mem_of_getElem? (i := 753) rfl, (fun _ h => absurd h List.not_mem_nil)⟩)⟩)⟩)⟩)⟩)⟩)⟩)⟩)⟩)⟩)⟩)⟩)⟩)⟩)⟩)⟩)⟩)⟩)⟩)⟩)⟩)⟩)⟩)⟩)
set_option maxRecDepth 100000 in
theorem in_wsL_law_r21 : ∀ w ∈ wsL_law_r21, w ∈ lw_tbl := (List.forall_mem_cons.mpr ⟨List.mem_of_getElem? (i := 41) rfl, (List.forall_mem_cons.mpr ⟨List.mem_of_getElem? (i := 754) rfl, (List.forall_mem_cons.mpr ⟨List.mem_of_getElem? (i := 420) rfl, (List.forall_mem_cons.mpr ⟨List.mem_of_getElem? (i := 421) rfl, (List.forall_mem_cons.mpr ⟨List.mem_of_getElem? (i := 422) rfl, (List.forall_mem_cons.mpr ⟨List.mem_of_getElem? (i := 423) rfl, (List.forall_mem_cons.mpr ⟨List.mem_of_getElem? (i := 424) rfl, (List.forall_mem_cons.mpr ⟨List.mem_of_getElem? (i := 425) rfl, (List.forall_mem_cons.mpr ⟨List.mem_of_getElem? (i := 426) rfl, (List.forall_mem_cons.mpr ⟨List.mem_of_getElem? (i := 427) rfl, (List.forall_mem_cons.mpr ⟨List.mem_of_getElem? (i := 755) rfl, (List.forall_mem_cons.mpr ⟨List.mem_of_getElem? (i := 756) rfl, (List.forall_mem_cons.mpr ⟨List.mem_of_getElem? (i := 757) rfl, (List.forall_mem_cons.mpr ⟨List.mem_of_getElem? (i := 758) rfl, (List.forall_mem_cons.mpr ⟨List.mem_of_getElem? (i := 428) rfl, (List.forall_mem_cons.mpr ⟨List.mem_of_getElem? (i := 429) rfl, (List.forall_mem_cons.mpr ⟨List.mem_of_getElem? (i := 430) rfl, (List.forall_mem_cons.mpr ⟨List.mem_of_getElem? (i := 431) rfl, (List.forall_mem_cons.mpr ⟨List.mem_of_getElem? (i := 759) rfl, (List.forall_mem_cons.mpr ⟨List.mem_of_getElem? (i := 760) rfl, (List.forall_mem_cons.mpr ⟨List.mem_of_getElem? (i := 761) rfl, (List.forall_mem_cons.mpr ⟨List.mem_of_getElem? (i := 762) rfl, (List.forall_mem_cons.mpr ⟨List.mem_of_getElem? (i := 432) rfl, (List.forall_mem_cons.mpr ⟨List.mem_of_getElem? (i := 433) rfl, (fun _ h => absurd h List.not_mem_nil)⟩)⟩)⟩)⟩)⟩)⟩)⟩)⟩)⟩)⟩)⟩)⟩)⟩)⟩)⟩)⟩)⟩)⟩)⟩)⟩)⟩)⟩)⟩)⟩)
set_option maxRecDepth 100000 in
theorem in_wsL_law_r22 : ∀ w ∈ wsL_law_r22, w ∈ lw_tbl := (List.forall_mem_cons.mpr ⟨List.mem_of_getElem? (i := 434) rfl, (List.forall_mem_cons.mpr ⟨List.mem_of_getElem? (i := 435) rfl, (List.forall_mem_cons.mpr ⟨List.mem_of_getElem? (i := 436) rfl, (List.forall_mem_cons.mpr ⟨List.mem_of_getElem? (i := 438) rfl, (List.forall_mem_cons.mpr ⟨List.mem_of_getElem? (i := 17) rfl, (List.forall_mem_cons.mpr ⟨List.mem_of_getElem? (i := 439) rfl, (List.forall_mem_cons.mpr ⟨List.mem_of_getElem? (i := 763) rfl, (List.forall_mem_cons.mpr ⟨List.mem_of_getElem? (i := 764) rfl, (List.forall_mem_cons.mpr ⟨List.mem_of_getElem? (i := 765) rfl, (List.forall_mem_cons.mpr ⟨List.mem_of_getElem? (i := 766) rfl, (List.forall_mem_cons.mpr ⟨List.mem_of_getElem? (i := 767) rfl, (List.forall_mem_cons.mpr ⟨List.mem_of_getElem? (i := 769) rfl, (List.forall_mem_cons.mpr ⟨List.mem_of_getElem? (i := 42) rfl, (List.forall_mem_cons.mpr ⟨List.mem_of_getElem? (i := 770) rfl, (List.forall_mem_cons.mpr ⟨List.mem_of_getElem? (i := 440) rfl, (List.forall_mem_cons.mpr ⟨List.mem_of_getElem? (i := 441) rfl, (List.forall_mem_cons.mpr ⟨List.mem_of_getElem? (i := 442) rfl, (List.forall_mem_cons.mpr ⟨List.mem_of_getElem? (i := 443) rfl, (List.forall_mem_cons.mpr ⟨List.mem_of_getElem? (i := 444) rfl, (List.forall_mem_cons.mpr ⟨List.mem_of_getElem? (i := 445) rfl, (List.forall_mem_cons.mpr ⟨List.mem_of_getElem? (i := 446) rfl, (List.forall_mem_cons.mpr ⟨List.mem_of_getElem? (i := 447) rfl, (List.forall_mem_cons.mpr ⟨List.mem_of_getElem? (i := 771) rfl, (List.forall_mem_cons.mpr ⟨List.mem_of_getElem? (i := 772) rfl, (fun _ h => absurd h List.not_mem_nil)⟩)⟩)⟩)⟩)⟩)⟩)⟩)⟩)⟩)⟩)⟩)⟩)⟩)⟩)⟩)⟩)⟩)⟩)⟩)⟩)⟩)⟩)⟩)⟩)
set_option maxRecDepth 100000 in
theorem in_wsL_law_r23 : ∀ w ∈ wsL_law_r23, w ∈ lw_tbl := (List.forall_mem_cons.mpr ⟨List.mem_of_getElem? (i := 773) rfl, (List.forall_mem_cons.mpr ⟨List.mem_of_getElem? (i := 774) rfl, (List.forall_mem_cons.mpr ⟨List.mem_of_getElem? (i := 449) rfl, (List.forall_mem_cons.mpr ⟨List.mem_of_getElem? (i := 450) rfl, (List.forall_mem_cons.mpr ⟨List.mem_of_getElem? (i := 451) rfl, (List.forall_mem_cons.mpr ⟨List.mem_of_getElem? (i := 452) rfl, (List.forall_mem_cons.mpr ⟨List.mem_of_getElem? (i := 453) rfl, (List.forall_mem_cons.mpr ⟨List.mem_of_getElem? (i := 454) rfl, (List.forall_mem_cons.mpr ⟨List.mem_of_getElem? (i := 455) rfl, (List.forall_mem_cons.mpr ⟨List.mem_of_getElem? (i := 456) rfl, (List.forall_mem_cons.mpr ⟨List.mem_of_getElem? (i := 457) rfl, (List.forall_mem_cons.mpr ⟨List.mem_of_getElem? (i := 775) rfl, (List.forall_mem_cons.mpr ⟨List.mem_of_getElem? (i := 776) rfl, (List.forall_mem_cons.mpr ⟨List.mem_of_getElem? (i := 777) rfl, (List.forall_mem_cons.mpr ⟨List.mem_of_getElem? (i := 778) rfl, (List.forall_mem_cons.mpr ⟨List.mem_of_getElem? (i := 458) rfl, (List.forall_mem_cons.mpr ⟨List.mem_of_getElem? (i := 459) rfl, (List.forall_mem_cons.mpr ⟨List.mem_of_getElem? (i := 460) rfl, (List.forall_mem_cons.mpr ⟨List.mem_of_getElem? (i := 461) rfl, (List.forall_mem_cons.mpr ⟨List.mem_of_getElem? (i := 462) rfl, (List.forall_mem_cons.mpr ⟨List.mem_of_getElem? (i := 463) rfl, (List.forall_mem_cons.mpr ⟨List.mem_of_getElem? (i := 464) rfl, (List.forall_mem_cons.mpr ⟨List.mem_of_getElem? (i := 465) rfl, (List.forall_mem_cons.mpr ⟨List.mem_of_getElem? (i := 466) rfl, (fun _ h => absurd h List.not_mem_nil)⟩)⟩)⟩)⟩)⟩)⟩)⟩)⟩)⟩)⟩)⟩)⟩)⟩)⟩)⟩)⟩)⟩)⟩)⟩)⟩)⟩)⟩)⟩)⟩)
set_option maxRecDepth 100000 in
theorem in_wsL_law_r24 : ∀ w ∈ wsL_law_r24, w ∈ lw_tbl := (List.forall_mem_cons.mpr ⟨List.mem_of_getElem? (i := 468) rfl, (List.forall_mem_cons.mpr ⟨List.mem_of_getElem? (i := 18) rfl, (List.forall_mem_cons.mpr ⟨List.mem_of_getElem? (i := 469) rfl, (List.forall_mem_cons.mpr ⟨List.mem_of_getElem? (i := 779) rfl, (List.forall_mem_cons.mpr ⟨List.mem_of_getElem? (i := 780) rfl, (List.forall_mem_cons.mpr ⟨List.mem_of_getElem? (i := 781) rfl, (List.forall_mem_cons.mpr ⟨List.mem_of_getElem? (i := 782) rfl, (List.forall_mem_cons.mpr ⟨List.mem_of_getElem? (i := 470) rfl, (List.forall_mem_cons.mpr ⟨List.mem_of_getElem? (i := 471) rfl, (List.forall_mem_cons.mpr ⟨List.mem_of_getElem? (i := 472) rfl, (List.forall_mem_cons.mpr ⟨List.mem_of_getElem? (i := 473) rfl, (List.forall_mem_cons.mpr ⟨List.mem_of_getElem? (i := 783) rfl, (List.forall_mem_cons.mpr ⟨List.mem_of_getElem? (i := 784) rfl, (List.forall_mem_cons.mpr ⟨List.mem_of_getElem? (i := 785) rfl, (List.forall_mem_cons.mpr ⟨List.mem_of_getElem? (i := 786) rfl, (List.forall_mem_cons.mpr ⟨List.mem_of_getElem? (i := 787) rfl, (List.forall_mem_cons.mpr ⟨List.mem_of_getElem? (i := 789) rfl, (List.forall_mem_cons.mpr ⟨List.mem_of_getElem? (i := 43) rfl, (List.forall_mem_cons.mpr ⟨List.mem_of_getElem? (i := 790) rfl, (List.forall_mem_cons.mpr ⟨List.mem_of_getElem? (i := 474) rfl, (List.forall_mem_cons.mpr ⟨List.mem_of_getElem? (i := 475) rfl, (List.forall_mem_cons.mpr ⟨List.mem_of_getElem? (i := 476) rfl, (List.forall_mem_cons.mpr ⟨List.mem_of_getElem? (i := 477) rfl, (List.forall_mem_cons.mpr ⟨List.mem_of_getElem? (i := 478) rfl, (fun _ h => absurd h List.not_mem_nil)⟩)⟩)⟩)⟩)⟩)⟩)⟩)⟩)⟩)⟩)⟩)⟩)⟩)⟩)⟩)⟩)⟩)⟩)⟩)⟩)⟩)⟩)⟩)⟩)
set_option maxRecDepth 100000 in
theorem in_wsL_law_r25 : ∀ w ∈ wsL_law_r25, w ∈ lw_tbl := (List.forall_mem_cons.mpr ⟨List.mem_of_getElem? (i := 479) rfl, (List.forall_mem_cons.mpr ⟨List.mem_of_getElem? (i := 480) rfl, (List.forall_mem_cons.mpr ⟨List.mem_of_getElem? (i := 481) rfl, (List.forall_mem_cons.mpr ⟨List.mem_of_getElem? (i := 482) rfl, (List.forall_mem_cons.mpr ⟨List.mem_of_getElem? (i := 483) rfl, (List.forall_mem_cons.mpr ⟨List.mem_of_getElem? (i := 484) rfl, (List.forall_mem_cons.mpr ⟨List.mem_of_getElem? (i := 485) rfl, (List.forall_mem_cons.mpr ⟨List.mem_of_getElem? (i := 486) rfl, (List.forall_mem_cons.mpr ⟨List.mem_of_getElem? (i := 791) rfl, (List.forall_mem_cons.mpr ⟨List.mem_of_getElem? (i := 792) rfl, (List.forall_mem_cons.mpr ⟨List.mem_of_getElem? (i := 793) rfl, (List.forall_mem_cons.mpr ⟨List.mem_of_getElem? (i := 794) rfl, (List.forall_mem_cons.mpr ⟨List.mem_of_getElem? (i := 487) rfl, (List.forall_mem_cons.mpr ⟨List.mem_of_getElem? (i := 488) rfl, (List.forall_mem_cons.mpr ⟨List.mem_of_getElem? (i := 489) rfl, (List.forall_mem_cons.mpr ⟨List.mem_of_getElem? (i := 490) rfl, (List.forall_mem_cons.mpr ⟨List.mem_of_getElem? (i := 491) rfl, (List.forall_mem_cons.mpr ⟨List.mem_of_getElem? (i := 493) rfl, (List.forall_mem_cons.mpr ⟨List.mem_of_getElem? (i := 19) rfl, (List.forall_mem_cons.mpr ⟨List.mem_of_getElem? (i := 494) rfl, (List.forall_mem_cons.mpr ⟨List.mem_of_getElem? (i := 495) rfl, (List.forall_mem_cons.mpr ⟨List.mem_of_getElem? (i := 497) rfl, (List.forall_mem_cons.mpr ⟨List.mem_of_getElem? (i := 20) rfl, (List.forall_mem_cons.mpr ⟨List.mem_of_getElem? (i := 498) rfl, (fun _ h => absurd h List.not_mem_nil)⟩)⟩)⟩)⟩)⟩)⟩)⟩)⟩)⟩)⟩)⟩)⟩)⟩)⟩)⟩)⟩)⟩)⟩)⟩)⟩)⟩)⟩)⟩)⟩)
set_option maxRecDepth 100000 in
theorem in_wsL_law_r26 : ∀ w ∈ wsL_law_r26, w ∈ lw_tbl := (List.forall_mem_cons.mpr ⟨List.mem_of_getElem? (i := 134) rfl, (List.forall_mem_cons.mpr ⟨List.mem_of_getElem? (i := 499) rfl, (List.forall_mem_cons.mpr ⟨List.mem_of_getElem? (i := 501) rfl, (List.forall_mem_cons.mpr ⟨List.mem_of_getElem? (i := 21) rfl, (List.forall_mem_cons.mpr ⟨List.mem_of_getElem? (i := 502) rfl, (List.forall_mem_cons.mpr ⟨List.mem_of_getElem? (i := 503) rfl, (List.forall_mem_cons.mpr ⟨List.mem_of_getElem? (i := 505) rfl, (List.forall_mem_cons.mpr ⟨List.mem_of_getElem? (i := 22) rfl, (List.forall_mem_cons.mpr ⟨List.mem_of_getElem? (i := 506) rfl, (List.forall_mem_cons.mpr ⟨List.mem_of_getElem? (i := 795) rfl, (List.forall_mem_cons.mpr ⟨List.mem_of_getElem? (i := 796) rfl, (List.forall_mem_cons.mpr ⟨List.mem_of_getElem? (i := 797) rfl, (List.forall_mem_cons.mpr ⟨List.mem_of_getElem? (i := 798) rfl, (List.forall_mem_cons.mpr ⟨List.mem_of_getElem? (i := 799) rfl, (List.forall_mem_cons.mpr ⟨List.mem_of_getElem? (i := 801) rfl, (List.forall_mem_cons.mpr ⟨List.mem_of_getElem? (i := 44) rfl, (List.forall_mem_cons.mpr ⟨List.mem_of_getElem? (i := 802) rfl, (List.forall_mem_cons.mpr ⟨List.mem_of_getElem? (i := 542) rfl, (List.forall_mem_cons.mpr ⟨List.mem_of_getElem? (i := 507) rfl, (List.forall_mem_cons.mpr ⟨List.mem_of_getElem? (i := 508) rfl, (List.forall_mem_cons.mpr ⟨List.mem_of_getElem? (i := 509) rfl, (List.forall_mem_cons.mpr ⟨List.mem_of_getElem? (i := 510) rfl, (List.forall_mem_cons.mpr ⟨List.mem_of_getElem? (i := 511) rfl, (List.forall_mem_cons.mpr ⟨List.mem_of_getElem? (i := 513) rfl, (fun _ h => absurd h List.not_mem_nil)⟩)⟩)⟩)⟩)⟩)⟩)⟩)⟩)⟩)⟩)⟩)⟩)⟩)⟩)⟩)⟩)⟩)⟩)⟩)⟩)⟩)⟩)⟩)⟩)
set_option maxRecDepth 100000 in
theorem in_wsL_law_r27 : ∀ w ∈ wsL_law_r27, w ∈ lw_tbl := (List.forall_mem_cons.mpr ⟨List.mem_of_getElem? (i := 23) rfl, (List.forall_mem_cons.mpr ⟨List.mem_of_getElem? (i := 514) rfl, (List.forall_mem_cons.mpr ⟨List.mem_of_getElem? (i := 515) rfl, (List.forall_mem_cons.mpr ⟨List.mem_of_getElem? (i := 517) rfl, (List.forall_mem_cons.mpr ⟨List.mem_of_getElem? (i := 24) rfl, (List.forall_mem_cons.mpr ⟨List.mem_of_getElem? (i := 518) rfl, (List.forall_mem_cons.mpr ⟨List.mem_of_getElem? (i := 803) rfl, (List.forall_mem_cons.mpr ⟨List.mem_of_getElem? (i := 804) rfl, (List.forall_mem_cons.mpr ⟨List.mem_of_getElem? (i := 805) rfl, (List.forall_mem_cons.mpr ⟨List.mem_of_getElem? (i := 806) rfl, (List.forall_mem_cons.mpr ⟨List.mem_of_getElem? (i := 519) rfl, (List.forall_mem_cons.mpr ⟨List.mem_of_getElem? (i := 520) rfl, (List.forall_mem_cons.mpr ⟨List.mem_of_getElem? (i := 521) rfl, (List.forall_mem_cons.mpr ⟨List.mem_of_getElem? (i := 522) rfl, (List.forall_mem_cons.mpr ⟨List.mem_of_getElem? (i := 807) rfl, (List.forall_mem_cons.mpr ⟨List.mem_of_getElem? (i := 808) rfl, (List.forall_mem_cons.mpr ⟨List.mem_of_getElem? (i := 809) rfl, (List.forall_mem_cons.mpr ⟨List.mem_of_getElem? (i := 810) rfl, (List.forall_mem_cons.mpr ⟨List.mem_of_getElem? (i := 523) rfl, (List.forall_mem_cons.mpr ⟨List.mem_of_getElem? (i := 524) rfl, (List.forall_mem_cons.mpr ⟨List.mem_of_getElem? (i := 525) rfl, (List.forall_mem_cons.mpr ⟨List.mem_of_getElem? (i := 526) rfl, (List.forall_mem_cons.mpr ⟨List.mem_of_getElem? (i := 811) rfl, (List.forall_mem_cons.mpr ⟨List.mem_of_getElem? (i := 812) rfl, (fun _ h => absurd h List.not_mem_nil)⟩)⟩)⟩)⟩)⟩)⟩)⟩)⟩)⟩)⟩)⟩)⟩)⟩)⟩)⟩)⟩)⟩)⟩)⟩)⟩)⟩)⟩)⟩)⟩)
set_option maxRecDepth 100000 in
theorem in_wsL_law_r28 : ∀ w ∈ wsL_law_r28, w ∈ lw_tbl := (List.forall_mem_cons.mpr ⟨List.mem_of_getElem? (i := 813) rfl, (List.forall_mem_cons.mpr ⟨List.mem_of_getElem? (i := 814) rfl, (List.forall_mem_cons.mpr ⟨List.mem_of_getElem? (i := 527) rfl, (List.forall_mem_cons.mpr ⟨List.mem_of_getElem? (i := 528) rfl, (List.forall_mem_cons.mpr ⟨List.mem_of_getElem? (i := 529) rfl, (List.forall_mem_cons.mpr ⟨List.mem_of_getElem? (i := 530) rfl, (List.forall_mem_cons.mpr ⟨List.mem_of_getElem? (i := 815) rfl, (List.forall_mem_cons.mpr ⟨List.mem_of_getElem? (i := 816) rfl, (List.forall_mem_cons.mpr ⟨List.mem_of_getElem? (i := 817) rfl, (List.forall_mem_cons.mpr ⟨List.mem_of_getElem? (i := 818) rfl, (List.forall_mem_cons.mpr ⟨List.mem_of_getElem? (i := 531) rfl, (List.forall_mem_cons.mpr ⟨List.mem_of_getElem? (i := 532) rfl, (List.forall_mem_cons.mpr ⟨List.mem_of_getElem? (i := 533) rfl, (List.forall_mem_cons.mpr ⟨List.mem_of_getElem? (i := 534) rfl, (List.forall_mem_cons.mpr ⟨List.mem_of_getElem? (i := 819) rfl, (List.forall_mem_cons.mpr ⟨List.mem_of_getElem? (i := 820) rfl, (List.forall_mem_cons.mpr ⟨List.mem_of_getElem? (i := 821) rfl, (List.forall_mem_cons.mpr ⟨List.mem_of_getElem? (i := 822) rfl, (fun _ h => absurd h List.not_mem_nil)⟩)⟩)⟩)⟩)⟩)⟩)⟩)⟩)⟩)⟩)⟩)⟩)⟩)⟩)⟩)⟩)⟩)⟩)
set_option maxRecDepth 100000 in
theorem inX0 : ∀ w ∈ wsX00, w ∈ lw_tbl := (List.forall_mem_cons.mpr ⟨List.mem_of_getElem? (i := 74) rfl, (List.forall_mem_cons.mpr ⟨List.mem_of_getElem? (i := 76) rfl, (List.forall_mem_cons.mpr ⟨List.mem_of_getElem? (i := 78) rfl, (List.forall_mem_cons.mpr ⟨List.mem_of_getElem? (i := 80) rfl, (List.forall_mem_cons.mpr ⟨List.mem_of_getElem? (i := 82) rfl, (fun _ h => absurd h List.not_mem_nil)⟩)⟩)⟩)⟩)⟩)
set_option maxRecDepth 100000 in
theorem inX1 : ∀ w ∈ wsX10, w ∈ lw_tbl := (List.forall_mem_cons.mpr ⟨List.mem_of_getElem? (i := 98) rfl, (List.forall_mem_cons.mpr ⟨List.mem_of_getElem? (i := 100) rfl, (List.forall_mem_cons.mpr ⟨List.mem_of_getElem? (i := 102) rfl, (List.forall_mem_cons.mpr ⟨List.mem_of_getElem? (i := 104) rfl, (List.forall_mem_cons.mpr ⟨List.mem_of_getElem? (i := 106) rfl, (List.forall_mem_cons.mpr ⟨List.mem_of_getElem? (i := 108) rfl, (fun _ h => absurd h List.not_mem_nil)⟩)⟩)⟩)⟩)⟩)⟩)
set_option maxRecDepth 100000 in
theorem inX2 : ∀ w ∈ wsX20, w ∈ lw_tbl := (List.forall_mem_cons.mpr ⟨List.mem_of_getElem? (i := 119) rfl, (List.forall_mem_cons.mpr ⟨List.mem_of_getElem? (i := 121) rfl, (List.forall_mem_cons.mpr ⟨List.mem_of_getElem? (i := 123) rfl, (fun _ h => absurd h List.not_mem_nil)⟩)⟩)⟩)
set_option maxRecDepth 100000 in
theorem inX3 : ∀ w ∈ wsX30, w ∈ lw_tbl := (List.forall_mem_cons.mpr ⟨List.mem_of_getElem? (i := 136) rfl, (List.forall_mem_cons.mpr ⟨List.mem_of_getElem? (i := 138) rfl, (List.forall_mem_cons.mpr ⟨List.mem_of_getElem? (i := 140) rfl, (List.forall_mem_cons.mpr ⟨List.mem_of_getElem? (i := 142) rfl, (List.forall_mem_cons.mpr ⟨List.mem_of_getElem? (i := 144) rfl, (List.forall_mem_cons.mpr ⟨List.mem_of_getElem? (i := 146) rfl, (List.forall_mem_cons.mpr ⟨List.mem_of_getElem? (i := 148) rfl, (List.forall_mem_cons.mpr ⟨List.mem_of_getElem? (i := 150) rfl, (List.forall_mem_cons.mpr ⟨List.mem_of_getElem? (i := 152) rfl, (List.forall_mem_cons.mpr ⟨List.mem_of_getElem? (i := 154) rfl, (fun _ h => absurd h List.not_mem_nil)⟩)⟩)⟩)⟩)⟩)⟩)⟩)⟩)⟩)⟩)
set_option maxRecDepth 100000 in
theorem inX4 : ∀ w ∈ wsX40, w ∈ lw_tbl := (List.forall_mem_cons.mpr ⟨List.mem_of_getElem? (i := 564) rfl, (List.forall_mem_cons.mpr ⟨List.mem_of_getElem? (i := 566) rfl, (List.forall_mem_cons.mpr ⟨List.mem_of_getElem? (i := 568) rfl, (List.forall_mem_cons.mpr ⟨List.mem_of_getElem? (i := 570) rfl, (List.forall_mem_cons.mpr ⟨List.mem_of_getElem? (i := 572) rfl, (List.forall_mem_cons.mpr ⟨List.mem_of_getElem? (i := 574) rfl, (List.forall_mem_cons.mpr ⟨List.mem_of_getElem? (i := 576) rfl, (List.forall_mem_cons.mpr ⟨List.mem_of_getElem? (i := 578) rfl, (List.forall_mem_cons.mpr ⟨List.mem_of_getElem? (i := 580) rfl, (List.forall_mem_cons.mpr ⟨List.mem_of_getElem? (i := 582) rfl, (List.forall_mem_cons.mpr ⟨List.mem_of_getElem? (i := 584) rfl, (List.forall_mem_cons.mpr ⟨List.mem_of_getElem? (i := 586) rfl, (List.forall_mem_cons.mpr ⟨List.mem_of_getElem? (i := 588) rfl, (List.forall_mem_cons.mpr ⟨List.mem_of_getElem? (i := 590) rfl, (List.forall_mem_cons.mpr ⟨List.mem_of_getElem? (i := 592) rfl, (List.forall_mem_cons.mpr ⟨List.mem_of_getElem? (i := 594) rfl, (List.forall_mem_cons.mpr ⟨List.mem_of_getElem? (i := 596) rfl, (List.forall_mem_cons.mpr ⟨List.mem_of_getElem? (i := 598) rfl, (List.forall_mem_cons.mpr ⟨List.mem_of_getElem? (i := 600) rfl, (List.forall_mem_cons.mpr ⟨List.mem_of_getElem? (i := 602) rfl, (List.forall_mem_cons.mpr ⟨List.mem_of_getElem? (i := 604) rfl, (List.forall_mem_cons.mpr ⟨List.mem_of_getElem? (i := 606) rfl, (List.forall_mem_cons.mpr ⟨List.mem_of_getElem? (i := 608) rfl, (fun _ h => absurd h List.not_mem_nil)⟩)⟩)⟩)⟩)⟩)⟩)⟩)⟩)⟩)⟩)⟩)⟩)⟩)⟩)⟩)⟩)⟩)⟩)⟩)⟩)⟩)⟩)⟩)
theorem wsL_law_in : ∀ w ∈ wsL_law, w ∈ lw_tbl := (List.forall_mem_append.mpr ⟨(List.forall_mem_append.mpr ⟨(List.forall_mem_append.mpr ⟨(List.forall_mem_append.mpr ⟨(List.forall_mem_append.mpr ⟨(List.forall_mem_append.mpr ⟨(List.forall_mem_append.mpr ⟨in_wsL_law_r1, (List.forall_mem_append.mpr ⟨in_wsL_law_r2, (List.forall_mem_append.mpr ⟨in_wsL_law_r3, (List.forall_mem_append.mpr ⟨in_wsL_law_r4, (List.forall_mem_append.mpr ⟨in_wsL_law_r5, (List.forall_mem_append.mpr ⟨in_wsL_law_r6, (List.forall_mem_append.mpr ⟨in_wsL_law_r7, (List.forall_mem_append.mpr ⟨in_wsL_law_r8, (List.forall_mem_append.mpr ⟨in_wsL_law_r9, (List.forall_mem_append.mpr ⟨in_wsL_law_r10, (List.forall_mem_append.mpr ⟨in_wsL_law_r11, (List.forall_mem_append.mpr ⟨in_wsL_law_r12, (List.forall_mem_append.mpr ⟨in_wsL_law_r13, (List.forall_mem_append.mpr ⟨in_wsL_law_r14, (List.forall_mem_append.mpr ⟨in_wsL_law_r15, (List.forall_mem_append.mpr ⟨in_wsL_law_r16, (List.forall_mem_append.mpr ⟨in_wsL_law_r17, (List.forall_mem_append.mpr ⟨in_wsL_law_r18, (List.forall_mem_append.mpr ⟨in_wsL_law_r19, (List.forall_mem_append.mpr ⟨in_wsL_law_r20, (List.forall_mem_append.mpr ⟨in_wsL_law_r21, (List.forall_mem_append.mpr ⟨in_wsL_law_r22, (List.forall_mem_append.mpr ⟨in_wsL_law_r23, (List.forall_mem_append.mpr ⟨in_wsL_law_r24, (List.forall_mem_append.mpr ⟨in_wsL_law_r25, (List.forall_mem_append.mpr ⟨in_wsL_law_r26, (List.forall_mem_append.mpr ⟨in_wsL_law_r27, in_wsL_law_r28⟩)⟩)⟩)⟩)⟩)⟩)⟩)⟩)⟩)⟩)⟩)⟩)⟩)⟩)⟩)⟩)⟩)⟩)⟩)⟩)⟩)⟩)⟩)⟩)⟩)⟩)⟩), inX3⟩), inX4⟩), inX0⟩), inX1⟩), inX2⟩), fun _ h => absurd h List.not_mem_nil⟩)
