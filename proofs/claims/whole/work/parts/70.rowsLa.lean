def wsL_law_r1 : List Cond := [Cond.classLink RL 7 RX2, Cond.instantiable RX2 8, Cond.initialized RX2, Cond.classLink RL 10 RX3, Cond.instantiable RX3 26, Cond.initialized RX3, Cond.methodLink RL 9 yX2_init, Cond.instanceMethod yX2_init, Cond.code yX2_init cX2_init 2 none, Cond.methodLink RX2 5 objectInit, Cond.instanceMethod objectInit, Cond.code objectInit ⟨#[0xb1]⟩ 1 none, Cond.classLink RX2 11 RX0, Cond.instantiable RX0 8, Cond.initialized RX0, Cond.fieldLink RX2 14 "TableWar" "cloth" "LTableWar$Cloth;", Cond.fieldLink RX2 18 "TableWar" "trial" "LTableWar$Cloth;", Cond.classLink RX2 21 RX1, Cond.fieldLink RX2 23 "TableWar" "sheets" "[LTableWar$Sheet;", Cond.instantiable RX1 3, Cond.initialized RX1, Cond.arrayClass .int, Cond.fieldLink RX2 28 "TableWar" "readCells" "[I", Cond.fieldLink RX2 32 "TableWar" "readHolders" "[I"]
def wsL_law_r2 : List Cond := [Cond.instanceMethod yX0_init, Cond.code yX0_init cX0_init 1 none, Cond.methodLink RX0 3 objectInit, Cond.fieldLink RX0 9 "TableWar$Cloth" "acresOf" "[I", Cond.fieldLink RX0 15 "TableWar$Cloth" "kind" "[I", Cond.fieldLink RX0 18 "TableWar$Cloth" "house" "[I", Cond.fieldLink RX0 21 "TableWar$Cloth" "place" "[I", Cond.fieldLink RX0 24 "TableWar$Cloth" "strength" "[I", Cond.instanceMethod yX1_init, Cond.code yX1_init cX1_init 1 none, Cond.methodLink RX1 3 objectInit, Cond.fieldLink RX1 11 "TableWar$Sheet" "row" "[I", Cond.fieldLink RX1 15 "TableWar$Sheet" "lane" "I", Cond.methodLink RL 12 yX3_init, Cond.instanceMethod yX3_init, Cond.code yX3_init cX3_init 2 none, Cond.methodLink RX3 1 objectInit, Cond.fieldLink RX3 7 "TableWarModel" "acresOf" "[I", Cond.fieldLink RX3 13 "TableWarModel" "kindOf" "[I", Cond.fieldLink RX3 16 "TableWarModel" "houseOf" "[I", Cond.fieldLink RX3 19 "TableWarModel" "spotOf" "[I", Cond.fieldLink RX3 22 "TableWarModel" "strengthOf" "[I", Cond.fieldLink RX3 25 "TableWarModel" "readAcres" "[I", Cond.fieldLink RX3 28 "TableWarModel" "readKind" "[I"]
def wsL_law_r3 : List Cond := [Cond.fieldLink RX3 31 "TableWarModel" "readHouse" "[I", Cond.fieldLink RX3 34 "TableWarModel" "readSpot" "[I", Cond.fieldLink RX3 37 "TableWarModel" "readStrength" "[I", Cond.fieldLink RX3 40 "TableWarModel" "spotKept" "[I", Cond.fieldLink RX3 43 "TableWarModel" "readingOf" "[I", Cond.fieldLink RX3 46 "TableWarModel" "readingBy" "[I", Cond.fieldLink RX3 49 "TableWarModel" "sheetSize" "[I", Cond.fieldLink RX3 52 "TableWarModel" "sheetLane" "[I", Cond.fieldLink RX3 55 "TableWarModel" "sheet" "[I", Cond.fieldLink RX3 58 "TableWarModel" "hands" "[I", Cond.methodLink RL 13 yX2_table, Cond.instanceMethod yX2_table, Cond.selects RX2 yX2_table yX2_table, Cond.code yX2_table cX2_table 8 (some .int), Cond.fieldLink RX2 35 "TableWar" "lastFault" "I", Cond.fieldLink RX2 62 "TableWar" "readings" "I", Cond.fieldLink RX2 65 "TableWar$Cloth" "things" "I", Cond.methodLink RX2 39 yX2_isSheet, Cond.static yX2_isSheet, Cond.code yX2_isSheet cX2_isSheet 1 (some .boolean), Cond.methodLink RX2 43 yX2_isLane, Cond.static yX2_isLane, Cond.code yX2_isLane cX2_isLane 1 (some .boolean), Cond.methodLink RX2 46 yX1_faultOfCells]
def wsL_law_r4 : List Cond := [Cond.instanceMethod yX1_faultOfCells, Cond.selects RX1 yX1_faultOfCells yX1_faultOfCells, Cond.code yX1_faultOfCells cX1_faultOfCells 4 (some .int), Cond.methodLink RX1 32 yX1_isNothing, Cond.instanceMethod yX1_isNothing, Cond.selects RX1 yX1_isNothing yX1_isNothing, Cond.code yX1_isNothing cX1_isNothing 1 (some .boolean), Cond.methodLink RX1 36 yX1_hasCells, Cond.instanceMethod yX1_hasCells, Cond.selects RX1 yX1_hasCells yX1_hasCells, Cond.code yX1_hasCells cX1_hasCells 3 (some .boolean), Cond.fieldLink RX1 19 "TableWar$Sheet" "size" "I", Cond.methodLink RX2 50 yX2_faulted, Cond.instanceMethod yX2_faulted, Cond.selects RX2 yX2_faulted yX2_faulted, Cond.code yX2_faulted cX2_faulted 2 (some .int), Cond.methodLink RX2 54 yX0_readText, Cond.instanceMethod yX0_readText, Cond.selects RX0 yX0_readText yX0_readText, Cond.code yX0_readText cX0_readText 6 (some .int), Cond.fieldLink RX0 40 "TableWar$Cloth" "eaten" "I", Cond.fieldLink RX0 33 "TableWar$Cloth" "cells" "I", Cond.fieldLink RX0 37 "TableWar$Cloth" "things" "I", Cond.methodLink RX0 53 Lib.Math.min.name]
def wsL_law_r5 : List Cond := [Cond.static Lib.Math.min.name, Cond.initialized "java/lang/Math", Cond.code Lib.Math.min.name Lib.Math.min.code 2 (some .int), Cond.methodLink RX0 43 yX1_at, Cond.instanceMethod yX1_at, Cond.selects RX1 yX1_at yX1_at, Cond.code yX1_at cX1_at 2 (some .int), Cond.methodLink RX0 49 yX0_isDigit, Cond.static yX0_isDigit, Cond.code yX0_isDigit cX0_isDigit 1 (some .boolean), Cond.methodLink RX0 59 yX0_readThing, Cond.instanceMethod yX0_readThing, Cond.selects RX0 yX0_readThing yX0_readThing, Cond.code yX0_readThing cX0_readThing 7 (some .int), Cond.methodLink RX0 63 yX0_kindOfLetter, Cond.static yX0_kindOfLetter, Cond.code yX0_kindOfLetter cX0_kindOfLetter 1 (some .int), Cond.methodLink RX0 66 yX0_boundOfPart, Cond.instanceMethod yX0_boundOfPart, Cond.selects RX0 yX0_boundOfPart yX0_boundOfPart, Cond.code yX0_boundOfPart cX0_boundOfPart 2 (some .int), Cond.methodLink RX0 69 yX0_setPart, Cond.instanceMethod yX0_setPart, Cond.selects RX0 yX0_setPart yX0_setPart]
def wsL_law_r6 : List Cond := [Cond.code yX0_setPart cX0_setPart 3 none, Cond.methodLink RX2 58 yX0_become, Cond.instanceMethod yX0_become, Cond.selects RX0 yX0_become yX0_become, Cond.code yX0_become cX0_become 2 none, Cond.methodLink RX0 27 arraycopyName, Cond.native arraycopyName, Cond.static arraycopyName, Cond.initialized "java/lang/System", Cond.methodLink RL 17 yX3_table, Cond.instanceMethod yX3_table, Cond.selects RX3 yX3_table yX3_table, Cond.code yX3_table cX3_table 7 (some .int), Cond.constantLong RX3 120 (2), Cond.fieldLink RX3 81 "TableWarModel" "readAt" "I", Cond.fieldLink RX3 88 "TableWarModel" "readSquares" "I", Cond.fieldLink RX3 75 "TableWarModel" "squares" "I", Cond.fieldLink RX3 95 "TableWarModel" "readThings" "I", Cond.fieldLink RX3 78 "TableWarModel" "things" "I", Cond.fieldLink RX3 129 "TableWarModel" "eaten" "I", Cond.fieldLink RX3 132 "TableWarModel" "readings" "I", Cond.methodLink RX3 113 yX3_noSheet, Cond.static yX3_noSheet, Cond.code yX3_noSheet cX3_noSheet 1 (some .boolean)]
def wsL_law_r7 : List Cond := [Cond.constantLong RX3 174 (3), Cond.methodLink RX3 71 yX3_in, Cond.static yX3_in, Cond.code yX3_in cX3_in 6 (some .boolean), Cond.methodLink RX3 117 yX3_refused, Cond.instanceMethod yX3_refused, Cond.selects RX3 yX3_refused yX3_refused, Cond.code yX3_refused cX3_refused 2 (some .int), Cond.fieldLink RX3 63 "TableWarModel" "fault" "I", Cond.methodLink RX3 122 yX3_cellsBarred, Cond.instanceMethod yX3_cellsBarred, Cond.selects RX3 yX3_cellsBarred yX3_cellsBarred, Cond.code yX3_cellsBarred cX3_cellsBarred 6 (some .int), Cond.methodLink RX3 105 yX3_failed, Cond.instanceMethod yX3_failed, Cond.selects RX3 yX3_failed yX3_failed, Cond.code yX3_failed cX3_failed 2 (some .int), Cond.methodLink RX3 109 yX3_isBeyond, Cond.static yX3_isBeyond, Cond.code yX3_isBeyond cX3_isBeyond 4 (some .boolean), Cond.methodLink RX3 126 yX3_readsTable, Cond.instanceMethod yX3_readsTable, Cond.selects RX3 yX3_readsTable yX3_readsTable, Cond.code yX3_readsTable cX3_readsTable 4 (some .boolean)]
def wsL_law_r8 : List Cond := [Cond.methodLink RX3 84 yX3_codeAt, Cond.instanceMethod yX3_codeAt, Cond.selects RX3 yX3_codeAt yX3_codeAt, Cond.code yX3_codeAt cX3_codeAt 3 (some .int), Cond.methodLink RX3 98 yX3_readsSquares, Cond.instanceMethod yX3_readsSquares, Cond.selects RX3 yX3_readsSquares yX3_readsSquares, Cond.code yX3_readsSquares cX3_readsSquares 5 (some .boolean), Cond.methodLink RX3 91 yX3_figure, Cond.instanceMethod yX3_figure, Cond.selects RX3 yX3_figure yX3_figure, Cond.code yX3_figure cX3_figure 6 (some .int), Cond.methodLink RX3 102 yX3_readsThing, Cond.instanceMethod yX3_readsThing, Cond.selects RX3 yX3_readsThing yX3_readsThing, Cond.code yX3_readsThing cX3_readsThing 7 (some .boolean), Cond.methodLink RL 18 yX2_ofThing, Cond.instanceMethod yX2_ofThing, Cond.selects RX2 yX2_ofThing yX2_ofThing, Cond.code yX2_ofThing cX2_ofThing 3 (some .int), Cond.fieldLink RX2 71 "TableWar$Cloth" "kind" "[I", Cond.fieldLink RX2 74 "TableWar$Cloth" "house" "[I", Cond.fieldLink RX2 80 "TableWar$Cloth" "strength" "[I", Cond.methodLink RX2 68 yX2_isThing]
def wsL_law_r9 : List Cond := [Cond.instanceMethod yX2_isThing, Cond.selects RX2 yX2_isThing yX2_isThing, Cond.code yX2_isThing cX2_isThing 2 (some .boolean), Cond.methodLink RX2 77 yX0_whereIs, Cond.instanceMethod yX0_whereIs, Cond.selects RX0 yX0_whereIs yX0_whereIs, Cond.code yX0_whereIs cX0_whereIs 2 (some .int), Cond.methodLink RX0 78 yX0_isEaten, Cond.instanceMethod yX0_isEaten, Cond.selects RX0 yX0_isEaten yX0_isEaten, Cond.code yX0_isEaten cX0_isEaten 2 (some .boolean), Cond.methodLink RX2 83 yX0_mightOf, Cond.instanceMethod yX0_mightOf, Cond.selects RX0 yX0_mightOf yX0_mightOf, Cond.code yX0_mightOf cX0_mightOf 2 (some .int), Cond.methodLink RL 22 yX3_ofThing, Cond.instanceMethod yX3_ofThing, Cond.selects RX3 yX3_ofThing yX3_ofThing, Cond.code yX3_ofThing cX3_ofThing 3 (some .int), Cond.methodLink RX3 138 yX3_noThing, Cond.instanceMethod yX3_noThing, Cond.selects RX3 yX3_noThing yX3_noThing, Cond.code yX3_noThing cX3_noThing 2 (some .boolean), Cond.methodLink RX3 135 yX3_isIn]
def wsL_law_r10 : List Cond := [Cond.static yX3_isIn, Cond.code yX3_isIn cX3_isIn 2 (some .boolean), Cond.methodLink RX3 141 yX3_mightOf, Cond.instanceMethod yX3_mightOf, Cond.selects RX3 yX3_mightOf yX3_mightOf, Cond.code yX3_mightOf cX3_mightOf 4 (some .int), Cond.methodLink RL 23 yX2_acres, Cond.instanceMethod yX2_acres, Cond.selects RX2 yX2_acres yX2_acres, Cond.code yX2_acres cX2_acres 2 (some .int), Cond.fieldLink RX2 89 "TableWar$Cloth" "acresOf" "[I", Cond.methodLink RX2 86 yX2_isCell, Cond.instanceMethod yX2_isCell, Cond.selects RX2 yX2_isCell yX2_isCell, Cond.code yX2_isCell cX2_isCell 2 (some .boolean), Cond.fieldLink RX2 164 "TableWar$Cloth" "cells" "I", Cond.methodLink RL 27 yX3_acres, Cond.instanceMethod yX3_acres, Cond.selects RX3 yX3_acres yX3_acres, Cond.code yX3_acres cX3_acres 2 (some .int), Cond.methodLink RX3 144 yX3_noSquare, Cond.instanceMethod yX3_noSquare, Cond.selects RX3 yX3_noSquare yX3_noSquare, Cond.code yX3_noSquare cX3_noSquare 2 (some .boolean)]
def wsL_law_r11 : List Cond := [Cond.methodLink RL 28 yX2_stain, Cond.instanceMethod yX2_stain, Cond.selects RX2 yX2_stain yX2_stain, Cond.code yX2_stain cX2_stain 3 (some .int), Cond.methodLink RX2 92 yX2_replaceDigit, Cond.static yX2_replaceDigit, Cond.code yX2_replaceDigit cX2_replaceDigit 4 (some .int), Cond.methodLink RL 31 yX3_stain, Cond.instanceMethod yX3_stain, Cond.selects RX3 yX3_stain yX3_stain, Cond.code yX3_stain cX3_stain 4 (some .int), Cond.constantLong RX3 147 (9), Cond.methodLink RL 32 yX2_arm, Cond.instanceMethod yX2_arm, Cond.selects RX2 yX2_arm yX2_arm, Cond.code yX2_arm cX2_arm 3 (some .int), Cond.methodLink RL 35 yX3_arm, Cond.instanceMethod yX3_arm, Cond.selects RX3 yX3_arm yX3_arm, Cond.code yX3_arm cX3_arm 4 (some .int), Cond.methodLink RL 36 yX2_might, Cond.instanceMethod yX2_might, Cond.selects RX2 yX2_might yX2_might, Cond.code yX2_might cX2_might 3 (some .int)]
def wsL_law_r12 : List Cond := [Cond.methodLink RX2 96 yX2_isHouse, Cond.static yX2_isHouse, Cond.code yX2_isHouse cX2_isHouse 1 (some .boolean), Cond.methodLink RX2 99 yX0_mightIn, Cond.instanceMethod yX0_mightIn, Cond.selects RX0 yX0_mightIn yX0_mightIn, Cond.code yX0_mightIn cX0_mightIn 5 (some .int), Cond.methodLink RX0 81 yX0_mightOf, Cond.methodLink RL 39 yX3_might, Cond.instanceMethod yX3_might, Cond.selects RX3 yX3_might yX3_might, Cond.code yX3_might cX3_might 3 (some .int), Cond.methodLink RX3 155 yX3_noHouse, Cond.static yX3_noHouse, Cond.code yX3_noHouse cX3_noHouse 1 (some .boolean), Cond.methodLink RX3 149 yX3_mightIn, Cond.instanceMethod yX3_mightIn, Cond.selects RX3 yX3_mightIn yX3_mightIn, Cond.code yX3_mightIn cX3_mightIn 5 (some .int), Cond.methodLink RL 40 yX2_holds, Cond.instanceMethod yX2_holds, Cond.selects RX2 yX2_holds yX2_holds, Cond.code yX2_holds cX2_holds 2 (some .int), Cond.methodLink RX2 103 yX0_holderOf]
def wsL_law_r13 : List Cond := [Cond.instanceMethod yX0_holderOf, Cond.selects RX0 yX0_holderOf yX0_holderOf, Cond.code yX0_holderOf cX0_holderOf 4 (some .int), Cond.methodLink RL 43 yX3_holds, Cond.instanceMethod yX3_holds, Cond.selects RX3 yX3_holds yX3_holds, Cond.code yX3_holds cX3_holds 2 (some .int), Cond.methodLink RX3 152 yX3_holder, Cond.instanceMethod yX3_holder, Cond.selects RX3 yX3_holder yX3_holder, Cond.code yX3_holder cX3_holder 4 (some .int), Cond.methodLink RL 44 yX2_land, Cond.instanceMethod yX2_land, Cond.selects RX2 yX2_land yX2_land, Cond.code yX2_land cX2_land 2 (some .int), Cond.methodLink RX2 106 yX2_hasTable, Cond.instanceMethod yX2_hasTable, Cond.selects RX2 yX2_hasTable yX2_hasTable, Cond.code yX2_hasTable cX2_hasTable 1 (some .boolean), Cond.methodLink RX2 110 yX0_landOf, Cond.instanceMethod yX0_landOf, Cond.selects RX0 yX0_landOf yX0_landOf, Cond.code yX0_landOf cX0_landOf 4 (some .int), Cond.methodLink RX0 84 yX0_holderOf]
def wsL_law_r14 : List Cond := [Cond.methodLink RL 47 yX3_land, Cond.instanceMethod yX3_land, Cond.selects RX3 yX3_land yX3_land, Cond.code yX3_land cX3_land 2 (some .int), Cond.methodLink RX3 158 yX3_landOf, Cond.instanceMethod yX3_landOf, Cond.selects RX3 yX3_landOf yX3_landOf, Cond.code yX3_landOf cX3_landOf 4 (some .int), Cond.methodLink RL 48 yX2_act, Cond.instanceMethod yX2_act, Cond.selects RX2 yX2_act yX2_act, Cond.code yX2_act cX2_act 3 (some .int), Cond.methodLink RX2 113 yX2_isAct, Cond.static yX2_isAct, Cond.code yX2_isAct cX2_isAct 1 (some .boolean), Cond.methodLink RX2 116 yX0_canDo, Cond.instanceMethod yX0_canDo, Cond.selects RX0 yX0_canDo yX0_canDo, Cond.code yX0_canDo cX0_canDo 3 (some .boolean), Cond.methodLink RX2 120 yX0_doAct, Cond.instanceMethod yX0_doAct, Cond.selects RX0 yX0_doAct yX0_doAct, Cond.code yX0_doAct cX0_doAct 3 none, Cond.methodLink RL 51 yX3_act]
def wsL_law_r15 : List Cond := [Cond.instanceMethod yX3_act, Cond.selects RX3 yX3_act yX3_act, Cond.code yX3_act cX3_act 3 (some .int), Cond.methodLink RX3 161 yX3_mayAct, Cond.instanceMethod yX3_mayAct, Cond.selects RX3 yX3_mayAct yX3_mayAct, Cond.code yX3_mayAct cX3_mayAct 3 (some .boolean), Cond.methodLink RX3 164 yX3_doAct, Cond.instanceMethod yX3_doAct, Cond.selects RX3 yX3_doAct yX3_doAct, Cond.code yX3_doAct cX3_doAct 3 none, Cond.methodLink RL 52 yX2_serve, Cond.instanceMethod yX2_serve, Cond.selects RX2 yX2_serve yX2_serve, Cond.code yX2_serve cX2_serve 2 (some .int), Cond.fieldLink RX2 128 "TableWar$Cloth" "eaten" "I", Cond.methodLink RX2 124 yX0_countEaten, Cond.instanceMethod yX0_countEaten, Cond.selects RX0 yX0_countEaten yX0_countEaten, Cond.code yX0_countEaten cX0_countEaten 1 (some .int), Cond.methodLink RX0 73 yJ6_bitCount_0f7a4, Cond.static yJ6_bitCount_0f7a4, Cond.initialized RJ6, Cond.code yJ6_bitCount_0f7a4 cJ6_bitCount_0f7a4 1 (some .int)]
def wsL_law_r16 : List Cond := [Cond.constant RJ6 265 (1431655765), Cond.constant RJ6 266 (858993459), Cond.constant RJ6 267 (252645135), Cond.methodLink RL 56 yX3_serve, Cond.instanceMethod yX3_serve, Cond.selects RX3 yX3_serve yX3_serve, Cond.code yX3_serve cX3_serve 2 (some .int), Cond.methodLink RX3 168 yX3_bits, Cond.static yX3_bits, Cond.code yX3_bits cX3_bits 3 (some .int), Cond.methodLink RL 57 yX2_dinner, Cond.instanceMethod yX2_dinner, Cond.selects RX2 yX2_dinner yX2_dinner, Cond.code yX2_dinner cX2_dinner 10 (some .int), Cond.methodLink RX2 131 yX2_isDinnerQuestion, Cond.static yX2_isDinnerQuestion, Cond.code yX2_isDinnerQuestion cX2_isDinnerQuestion 1 (some .boolean), Cond.methodLink RX2 134 yX2_refusalOfPairs, Cond.instanceMethod yX2_refusalOfPairs, Cond.selects RX2 yX2_refusalOfPairs yX2_refusalOfPairs, Cond.code yX2_refusalOfPairs cX2_refusalOfPairs 5 (some .int), Cond.methodLink RX2 187 yX1_at, Cond.methodLink RX2 137 yX0_playPairs, Cond.instanceMethod yX0_playPairs]
def wsL_law_r17 : List Cond := [Cond.selects RX0 yX0_playPairs yX0_playPairs, Cond.code yX0_playPairs cX0_playPairs 7 (some .int), Cond.methodLink RX0 87 yX0_canDo, Cond.methodLink RX0 91 yX0_doAct, Cond.methodLink RX2 140 yX2_answerOfDinner, Cond.instanceMethod yX2_answerOfDinner, Cond.selects RX2 yX2_answerOfDinner yX2_answerOfDinner, Cond.code yX2_answerOfDinner cX2_answerOfDinner 2 (some .int), Cond.methodLink RL 61 yX3_dinner, Cond.instanceMethod yX3_dinner, Cond.selects RX3 yX3_dinner yX3_dinner, Cond.code yX3_dinner cX3_dinner 11 (some .int), Cond.constantLong RX3 176 (10), Cond.constantLong RX3 178 (15), Cond.constantLong RX3 180 (20), Cond.constantLong RX3 182 (25), Cond.methodLink RX3 184 yX3_pairsBarred, Cond.instanceMethod yX3_pairsBarred, Cond.selects RX3 yX3_pairsBarred yX3_pairsBarred, Cond.code yX3_pairsBarred cX3_pairsBarred 4 (some .int), Cond.methodLink RX3 187 yX3_dinnerBy, Cond.instanceMethod yX3_dinnerBy, Cond.selects RX3 yX3_dinnerBy yX3_dinnerBy, Cond.code yX3_dinnerBy cX3_dinnerBy 5 (some .int)]
def wsL_law_r18 : List Cond := [Cond.methodLink RX3 171 yX3_goDinner, Cond.instanceMethod yX3_goDinner, Cond.selects RX3 yX3_goDinner yX3_goDinner, Cond.code yX3_goDinner cX3_goDinner 7 (some .int), Cond.methodLink RL 62 yX2_good, Cond.instanceMethod yX2_good, Cond.selects RX2 yX2_good yX2_good, Cond.code yX2_good cX2_good 4 (some .int), Cond.methodLink RX2 143 yX2_refusalOfMove, Cond.instanceMethod yX2_refusalOfMove, Cond.selects RX2 yX2_refusalOfMove yX2_refusalOfMove, Cond.code yX2_refusalOfMove cX2_refusalOfMove 3 (some .int), Cond.methodLink RX2 146 yX0_goodChoice, Cond.instanceMethod yX0_goodChoice, Cond.selects RX0 yX0_goodChoice yX0_goodChoice, Cond.code yX0_goodChoice cX0_goodChoice 4 (some .int), Cond.methodLink RX0 103 Lib.Math.max.name, Cond.static Lib.Math.max.name, Cond.code Lib.Math.max.name Lib.Math.max.code 2 (some .int), Cond.methodLink RX0 94 yX0_canMove, Cond.instanceMethod yX0_canMove, Cond.selects RX0 yX0_canMove yX0_canMove, Cond.code yX0_canMove cX0_canMove 3 (some .boolean), Cond.methodLink RX0 97 yX0_leadOf]
def wsL_law_r19 : List Cond := [Cond.instanceMethod yX0_leadOf, Cond.selects RX0 yX0_leadOf yX0_leadOf, Cond.code yX0_leadOf cX0_leadOf 5 (some .int), Cond.methodLink RX0 100 yX0_choiceOf, Cond.static yX0_choiceOf, Cond.code yX0_choiceOf cX0_choiceOf 2 (some .int), Cond.methodLink RX0 106 yX0_undoAct, Cond.instanceMethod yX0_undoAct, Cond.selects RX0 yX0_undoAct yX0_undoAct, Cond.code yX0_undoAct cX0_undoAct 3 none, Cond.methodLink RX2 149 yX2_partOfChoice, Cond.static yX2_partOfChoice, Cond.code yX2_partOfChoice cX2_partOfChoice 3 (some .int), Cond.methodLink RX2 218 yX0_moveOfChoice, Cond.static yX0_moveOfChoice, Cond.code yX0_moveOfChoice cX0_moveOfChoice 1 (some .int), Cond.methodLink RX2 221 yX0_leadOfChoice, Cond.static yX0_leadOfChoice, Cond.code yX0_leadOfChoice cX0_leadOfChoice 1 (some .int), Cond.methodLink RL 65 yX3_good, Cond.instanceMethod yX3_good, Cond.selects RX3 yX3_good yX3_good, Cond.code yX3_good cX3_good 5 (some .int), Cond.methodLink RX3 199 yX3_goodMove]
def wsL_law_r20 : List Cond := [Cond.instanceMethod yX3_goodMove, Cond.selects RX3 yX3_goodMove yX3_goodMove, Cond.code yX3_goodMove cX3_goodMove 6 (some .int), Cond.methodLink RX3 190 yX3_mayMove, Cond.instanceMethod yX3_mayMove, Cond.selects RX3 yX3_mayMove yX3_mayMove, Cond.code yX3_mayMove cX3_mayMove 3 (some .boolean), Cond.methodLink RX3 193 yX3_leadOf, Cond.instanceMethod yX3_leadOf, Cond.selects RX3 yX3_leadOf yX3_leadOf, Cond.code yX3_leadOf cX3_leadOf 2 (some .int), Cond.methodLink RX3 196 yX3_undoAct, Cond.instanceMethod yX3_undoAct, Cond.selects RX3 yX3_undoAct yX3_undoAct, Cond.code yX3_undoAct cX3_undoAct 3 none, Cond.methodLink RL 66 yX2_safe, Cond.instanceMethod yX2_safe, Cond.selects RX2 yX2_safe yX2_safe, Cond.code yX2_safe cX2_safe 4 (some .int), Cond.methodLink RX2 152 yX0_safeChoice, Cond.instanceMethod yX0_safeChoice, Cond.selects RX0 yX0_safeChoice yX0_safeChoice, Cond.code yX0_safeChoice cX0_safeChoice 6 (some .int), Cond.methodLink RX0 109 yX0_goodChoice]
def wsL_law_r21 : List Cond := [Cond.methodLink RX0 112 yX0_leadOfChoice, Cond.methodLink RL 69 yX3_safe, Cond.instanceMethod yX3_safe, Cond.selects RX3 yX3_safe yX3_safe, Cond.code yX3_safe cX3_safe 7 (some .int), Cond.methodLink RX3 202 yX3_leadBehindOther, Cond.instanceMethod yX3_leadBehindOther, Cond.selects RX3 yX3_leadBehindOther yX3_leadBehindOther, Cond.code yX3_leadBehindOther cX3_leadBehindOther 4 (some .int), Cond.methodLink RL 70 yX2_need, Cond.instanceMethod yX2_need, Cond.selects RX2 yX2_need yX2_need, Cond.code yX2_need cX2_need 3 (some .int), Cond.methodLink RX2 155 yX0_fewestSteps, Cond.instanceMethod yX0_fewestSteps, Cond.selects RX0 yX0_fewestSteps yX0_fewestSteps, Cond.code yX0_fewestSteps cX0_fewestSteps 9 (some .int), Cond.methodLink RX0 118 Lib.Math.abs.name, Cond.static Lib.Math.abs.name, Cond.code Lib.Math.abs.name Lib.Math.abs.code 1 (some .int), Cond.methodLink RX0 115 yX0_mightIn, Cond.methodLink RL 73 yX3_need, Cond.instanceMethod yX3_need, Cond.selects RX3 yX3_need yX3_need]
def wsL_law_r22 : List Cond := [Cond.code yX3_need cX3_need 10 (some .int), Cond.methodLink RL 74 yX2_reading, Cond.instanceMethod yX2_reading, Cond.selects RX2 yX2_reading yX2_reading, Cond.code yX2_reading cX2_reading 3 (some .int), Cond.methodLink RL 77 yX3_reading, Cond.instanceMethod yX3_reading, Cond.selects RX3 yX3_reading yX3_reading, Cond.code yX3_reading cX3_reading 3 (some .int), Cond.methodLink RL 78 yX2_back, Cond.instanceMethod yX2_back, Cond.selects RX2 yX2_back yX2_back, Cond.code yX2_back cX2_back 2 (some .int), Cond.methodLink RL 81 yX3_back, Cond.instanceMethod yX3_back, Cond.selects RX3 yX3_back yX3_back, Cond.code yX3_back cX3_back 2 (some .int), Cond.methodLink RL 82 yX2_strengths, Cond.instanceMethod yX2_strengths, Cond.selects RX2 yX2_strengths yX2_strengths, Cond.code yX2_strengths cX2_strengths 2 (some .int), Cond.methodLink RX2 158 yX2_valuesThatFit, Cond.instanceMethod yX2_valuesThatFit, Cond.selects RX2 yX2_valuesThatFit yX2_valuesThatFit]
def wsL_law_r23 : List Cond := [Cond.code yX2_valuesThatFit cX2_valuesThatFit 7 (some .int), Cond.methodLink RX2 224 yX2_readingsAreSo, Cond.instanceMethod yX2_readingsAreSo, Cond.selects RX2 yX2_readingsAreSo yX2_readingsAreSo, Cond.code yX2_readingsAreSo cX2_readingsAreSo 2 (some .boolean), Cond.methodLink RL 85 yX3_strengths, Cond.instanceMethod yX3_strengths, Cond.selects RX3 yX3_strengths yX3_strengths, Cond.code yX3_strengths cX3_strengths 5 (some .int), Cond.methodLink RX3 205 yX3_areSo, Cond.instanceMethod yX3_areSo, Cond.selects RX3 yX3_areSo yX3_areSo, Cond.code yX3_areSo cX3_areSo 3 (some .boolean), Cond.methodLink RL 86 yX2_kinds, Cond.instanceMethod yX2_kinds, Cond.selects RX2 yX2_kinds yX2_kinds, Cond.code yX2_kinds cX2_kinds 2 (some .int), Cond.methodLink RL 89 yX3_kinds, Cond.instanceMethod yX3_kinds, Cond.selects RX3 yX3_kinds yX3_kinds, Cond.code yX3_kinds cX3_kinds 5 (some .int), Cond.methodLink RL 90 yX2_spots, Cond.instanceMethod yX2_spots, Cond.selects RX2 yX2_spots yX2_spots]
def wsL_law_r24 : List Cond := [Cond.code yX2_spots cX2_spots 2 (some .int), Cond.fieldLink RX2 161 "TableWar$Cloth" "place" "[I", Cond.methodLink RL 93 yX3_spots, Cond.instanceMethod yX3_spots, Cond.selects RX3 yX3_spots yX3_spots, Cond.code yX3_spots cX3_spots 5 (some .int), Cond.methodLink RL 94 yX2_odds, Cond.instanceMethod yX2_odds, Cond.selects RX2 yX2_odds yX2_odds, Cond.code yX2_odds cX2_odds 6 (some .long), Cond.constantLong RX2 167 (-9223372036854775808), Cond.methodLink RX2 169 yX0_countSetsWithLead, Cond.instanceMethod yX0_countSetsWithLead, Cond.selects RX0 yX0_countSetsWithLead yX0_countSetsWithLead, Cond.code yX0_countSetsWithLead cX0_countSetsWithLead 5 (some .int), Cond.methodLink RL 98 yX3_odds, Cond.instanceMethod yX3_odds, Cond.selects RX3 yX3_odds yX3_odds, Cond.code yX3_odds cX3_odds 9 (some .long), Cond.methodLink RX3 67 yX3_lost, Cond.static yX3_lost, Cond.code yX3_lost cX3_lost 0 (some .long), Cond.constantLong RX3 61 (-9223372036854775808), Cond.methodLink RX3 209 yX3_share]
def wsL_law_r25 : List Cond := [Cond.static yX3_share, Cond.code yX3_share cX3_share 11 (some .long), Cond.methodLink RL 99 yX2_sheet, Cond.instanceMethod yX2_sheet, Cond.selects RX2 yX2_sheet yX2_sheet, Cond.code yX2_sheet cX2_sheet 4 (some .int), Cond.methodLink RX2 172 yX1_renew, Cond.instanceMethod yX1_renew, Cond.selects RX1 yX1_renew yX1_renew, Cond.code yX1_renew cX1_renew 3 none, Cond.methodLink RX1 22 yJ7_fill_53178, Cond.static yJ7_fill_53178, Cond.initialized RJ7, Cond.code yJ7_fill_53178 cJ7_fill_53178 4 none, Cond.methodLink RL 103 yX3_sheet, Cond.instanceMethod yX3_sheet, Cond.selects RX3 yX3_sheet yX3_sheet, Cond.code yX3_sheet cX3_sheet 5 (some .int), Cond.methodLink RL 104 yX2_lose, Cond.instanceMethod yX2_lose, Cond.selects RX2 yX2_lose yX2_lose, Cond.code yX2_lose cX2_lose 3 (some .int), Cond.methodLink RX2 175 yX1_isNothing, Cond.methodLink RX2 178 yX1_clear]
def wsL_law_r26 : List Cond := [Cond.instanceMethod yX1_clear, Cond.selects RX1 yX1_clear yX1_clear, Cond.code yX1_clear cX1_clear 1 none, Cond.methodLink RL 107 yX3_lose, Cond.instanceMethod yX3_lose, Cond.selects RX3 yX3_lose yX3_lose, Cond.code yX3_lose cX3_lose 3 (some .int), Cond.methodLink RL 108 yX2_put, Cond.instanceMethod yX2_put, Cond.selects RX2 yX2_put yX2_put, Cond.code yX2_put cX2_put 6 (some .int), Cond.fieldLink RX2 181 "TableWar$Sheet" "lane" "I", Cond.methodLink RX2 184 yX1_setAt, Cond.instanceMethod yX1_setAt, Cond.selects RX1 yX1_setAt yX1_setAt, Cond.code yX1_setAt cX1_setAt 3 none, Cond.methodLink RX1 28 yX1_cutToLane, Cond.instanceMethod yX1_cutToLane, Cond.selects RX1 yX1_cutToLane yX1_cutToLane, Cond.code yX1_cutToLane cX1_cutToLane 2 (some .int), Cond.methodLink RL 111 yX3_put, Cond.instanceMethod yX3_put, Cond.selects RX3 yX3_put yX3_put, Cond.code yX3_put cX3_put 4 (some .int)]
def wsL_law_r27 : List Cond := [Cond.methodLink RX3 213 yX3_noCell, Cond.instanceMethod yX3_noCell, Cond.selects RX3 yX3_noCell yX3_noCell, Cond.code yX3_noCell cX3_noCell 3 (some .int), Cond.methodLink RL 112 yX2_cell, Cond.instanceMethod yX2_cell, Cond.selects RX2 yX2_cell yX2_cell, Cond.code yX2_cell cX2_cell 4 (some .long), Cond.methodLink RL 116 yX3_cell, Cond.instanceMethod yX3_cell, Cond.selects RX3 yX3_cell yX3_cell, Cond.code yX3_cell cX3_cell 4 (some .long), Cond.methodLink RX3 216 yX3_failedLong, Cond.instanceMethod yX3_failedLong, Cond.selects RX3 yX3_failedLong yX3_failedLong, Cond.code yX3_failedLong cX3_failedLong 2 (some .long), Cond.methodLink RL 117 yX2_copy, Cond.instanceMethod yX2_copy, Cond.selects RX2 yX2_copy yX2_copy, Cond.code yX2_copy cX2_copy 8 (some .int), Cond.fieldLink RX2 193 "TableWar$Sheet" "row" "[I", Cond.methodLink RX2 196 arraycopyName, Cond.methodLink RX2 190 yX1_hasCells, Cond.methodLink RL 120 yX3_copy]
def wsL_law_r28 : List Cond := [Cond.instanceMethod yX3_copy, Cond.selects RX3 yX3_copy yX3_copy, Cond.code yX3_copy cX3_copy 7 (some .int), Cond.methodLink RL 121 yX2_tell, Cond.instanceMethod yX2_tell, Cond.selects RX2 yX2_tell yX2_tell, Cond.code yX2_tell cX2_tell 2 (some .int), Cond.methodLink RX2 202 yX2_gravyTells, Cond.instanceMethod yX2_gravyTells, Cond.selects RX2 yX2_gravyTells yX2_gravyTells, Cond.code yX2_gravyTells cX2_gravyTells 3 (some .int), Cond.methodLink RX2 211 yX2_leaveTrace, Cond.instanceMethod yX2_leaveTrace, Cond.selects RX2 yX2_leaveTrace yX2_leaveTrace, Cond.code yX2_leaveTrace cX2_leaveTrace 2 none, Cond.fieldLink RX2 215 "TableWar" "traced" "I", Cond.methodLink RX2 205 yX2_saltTells, Cond.instanceMethod yX2_saltTells, Cond.selects RX2 yX2_saltTells yX2_saltTells, Cond.code yX2_saltTells cX2_saltTells 2 (some .int), Cond.methodLink RX2 208 yX2_forkTells, Cond.instanceMethod yX2_forkTells, Cond.selects RX2 yX2_forkTells yX2_forkTells, Cond.code yX2_forkTells cX2_forkTells 2 (some .int)]
def wsL_law_r29 : List Cond := [Cond.methodLink RL 124 yX3_tell, Cond.instanceMethod yX3_tell, Cond.selects RX3 yX3_tell yX3_tell, Cond.code yX3_tell cX3_tell 4 (some .int), Cond.methodLink RX3 223 yX3_traced, Cond.instanceMethod yX3_traced, Cond.selects RX3 yX3_traced yX3_traced, Cond.code yX3_traced cX3_traced 2 none, Cond.fieldLink RX3 220 "TableWarModel" "traceNow" "I", Cond.methodLink RL 125 yX2_pass, Cond.instanceMethod yX2_pass, Cond.selects RX2 yX2_pass yX2_pass, Cond.code yX2_pass cX2_pass 2 (some .int), Cond.methodLink RL 128 yX3_pass, Cond.instanceMethod yX3_pass, Cond.selects RX3 yX3_pass yX3_pass, Cond.code yX3_pass cX3_pass 2 (some .int), Cond.methodLink RL 129 yX2_as, Cond.instanceMethod yX2_as, Cond.selects RX2 yX2_as yX2_as, Cond.code yX2_as cX2_as 3 (some .int), Cond.methodLink RL 132 yX3_as, Cond.instanceMethod yX3_as, Cond.selects RX3 yX3_as yX3_as]
def wsL_law_r30 : List Cond := [Cond.code yX3_as cX3_as 3 (some .int), Cond.methodLink RL 133 yX2_trace, Cond.instanceMethod yX2_trace, Cond.selects RX2 yX2_trace yX2_trace, Cond.code yX2_trace cX2_trace 1 (some .int), Cond.methodLink RL 136 yX3_trace, Cond.instanceMethod yX3_trace, Cond.selects RX3 yX3_trace yX3_trace, Cond.code yX3_trace cX3_trace 1 (some .int), Cond.methodLink RL 137 yX2_fault, Cond.instanceMethod yX2_fault, Cond.selects RX2 yX2_fault yX2_fault, Cond.code yX2_fault cX2_fault 1 (some .int), Cond.methodLink RL 140 yX3_fault, Cond.instanceMethod yX3_fault, Cond.selects RX3 yX3_fault yX3_fault, Cond.code yX3_fault cX3_fault 1 (some .int), Cond.methodLink RL 141 yX2_many, Cond.instanceMethod yX2_many, Cond.selects RX2 yX2_many yX2_many, Cond.code yX2_many cX2_many 2 (some .int), Cond.methodLink RL 144 yX3_many, Cond.instanceMethod yX3_many, Cond.selects RX3 yX3_many yX3_many]
def wsL_law_r31 : List Cond := [Cond.code yX3_many cX3_many 2 (some .int)]
def wsL_law : List Cond := (wsL_law_r1 ++ (wsL_law_r2 ++ (wsL_law_r3 ++ (wsL_law_r4 ++ (wsL_law_r5 ++ (wsL_law_r6 ++ (wsL_law_r7 ++ (wsL_law_r8 ++ (wsL_law_r9 ++ (wsL_law_r10 ++ (wsL_law_r11 ++ (wsL_law_r12 ++ (wsL_law_r13 ++ (wsL_law_r14 ++ (wsL_law_r15 ++ (wsL_law_r16 ++ (wsL_law_r17 ++ (wsL_law_r18 ++ (wsL_law_r19 ++ (wsL_law_r20 ++ (wsL_law_r21 ++ (wsL_law_r22 ++ (wsL_law_r23 ++ (wsL_law_r24 ++ (wsL_law_r25 ++ (wsL_law_r26 ++ (wsL_law_r27 ++ (wsL_law_r28 ++ (wsL_law_r29 ++ (wsL_law_r30 ++ wsL_law_r31)))))))))))))))))))))))))))))) ++ wsX20 ++ wsX30 ++ wsX00 ++ wsX10 ++ ([] : List Cond)
set_option maxRecDepth 20000 in
theorem wsL_law_in : ∀ w ∈ wsL_law, w ∈ lw_tbl := fun w h => (goodIn_p wsL_law [60, 63, 68, 109, 517, 151, 154, 157, 161, 165, 169, 173, 177, 187, 181, 184, 191, 194, 198, 202, 206, 601, 604, 608, 612, 617, 621, 624, 628, 632, 636, 640, 644, 213, 217, 221, 225, 229, 648, 652, 655, 659, 233, 237, 663, 667, 241, 244, 671, 248, 676, 252, 255, 259, 680, 683, 687, 264, 268, 691, 695, 272, 276, 280, 699, 703, 285, 288, 292, 296, 707, 711, 715, 300, 304, 307, 719, 722, 314, 317, 321, 326, 332, 726, 734, 738, 742, 336, 340, 344, 358, 348, 352, 355, 362, 365, 368, 371, 746, 750, 754, 758, 762, 375, 379, 766, 770, 385, 389, 393, 774, 397, 778, 401, 782, 405, 409, 413, 786, 790, 417, 794, 421, 798, 425, 430, 802, 805, 809, 434, 438, 441, 813, 445, 450, 817, 454, 458, 462, 821, 825, 466, 829, 833, 470, 837, 476, 480, 484, 488, 492, 841, 845, 496, 849, 500, 853, 504, 857, 508, 861, 512, 865] (by decide +kernel) (by decide +kernel) w h).1
theorem inlX0 : ∀ w ∈ wsX00, w ∈ wsL_law := fun _ h => List.mem_append_left _ (List.mem_append_left _ (List.mem_append_right _ h))
theorem inX0 : ∀ w ∈ wsX00, w ∈ lw_tbl := fun w h => wsL_law_in w (inlX0 w h)
theorem inlX1 : ∀ w ∈ wsX10, w ∈ wsL_law := fun _ h => List.mem_append_left _ (List.mem_append_right _ h)
theorem inX1 : ∀ w ∈ wsX10, w ∈ lw_tbl := fun w h => wsL_law_in w (inlX1 w h)
theorem inlX2 : ∀ w ∈ wsX20, w ∈ wsL_law := fun _ h => List.mem_append_left _ (List.mem_append_left _ (List.mem_append_left _ (List.mem_append_left _ (List.mem_append_right _ h))))
theorem inX2 : ∀ w ∈ wsX20, w ∈ lw_tbl := fun w h => wsL_law_in w (inlX2 w h)
theorem inlX3 : ∀ w ∈ wsX30, w ∈ wsL_law := fun _ h => List.mem_append_left _ (List.mem_append_left _ (List.mem_append_left _ (List.mem_append_right _ h)))
theorem inX3 : ∀ w ∈ wsX30, w ∈ lw_tbl := fun w h => wsL_law_in w (inlX3 w h)
theorem inJ6 : ∀ w ∈ wsJ60, w ∈ lw_tbl := by decide +kernel
theorem inJ9 : ∀ w ∈ wsJ90, w ∈ lw_tbl := by decide +kernel
theorem inJ10 : ∀ w ∈ wsJ100, w ∈ lw_tbl := by decide +kernel
theorem inJ7 : ∀ w ∈ wsJ70, w ∈ lw_tbl := by decide +kernel
set_option maxRecDepth 20000 in
theorem ggL_law_X2_init : GoodIn wsL_law wsX2_init := goodIn_r _ [8, 9, 10, 11, 12, 13, 14, 15, 16, 17, 18, 19, 20, 21, 22, 23, 24, 25, 26, 27, 28, 29, 30, 31, 32, 33, 34, 35, 36, 755, 756, 757, 758, 759, 760, 761, 762, 721, 722, 723, 724, 725, 726, 727, 728, 763, 764, 765] (by decide +kernel) (by decide +kernel)
set_option maxRecDepth 20000 in
theorem gL_law_X2_init : GoodIn wsL_law (wsX2_init) := ggL_law_X2_init
set_option maxRecDepth 20000 in
theorem ggL_law_X3_init : GoodIn wsL_law wsX3_init := goodIn_r _ [39, 40, 10, 11, 21, 41, 42, 43, 44, 45, 46, 47, 48, 49, 50, 51, 52, 53, 54, 55, 56, 57, 729, 730, 731, 732, 733, 734, 735, 736, 737, 738, 739, 740, 741, 742, 743, 744, 745, 746, 747, 748, 749, 750, 751, 752, 753, 754] (by decide +kernel) (by decide +kernel)
set_option maxRecDepth 20000 in
theorem gL_law_X3_init : GoodIn wsL_law (wsX3_init) := ggL_law_X3_init
set_option maxRecDepth 20000 in
theorem ggL_law_X2_table : GoodIn wsL_law wsX2_table := goodIn_r _ [61, 62, 18, 16, 15, 63, 64, 65, 66, 2, 67, 68, 69, 70, 71, 72, 73, 20, 74, 36, 75, 76, 77, 78, 79, 80, 81, 82, 83, 84, 85, 86, 87, 88, 89, 90, 14, 91, 92, 93, 94, 27, 95, 96, 97, 98, 99, 100, 101, 102, 35, 103, 104, 105, 106, 107, 108, 109, 110, 111, 112, 113, 114, 115, 116, 117, 118, 119, 120, 28, 29, 30, 31, 121, 122, 123, 124, 125, 126, 127, 128, 721, 722, 723, 724, 725, 726, 727, 728, 755, 756, 757, 758, 759, 760, 761, 762, 763, 764, 765] (by decide +kernel) (by decide +kernel)
set_option maxRecDepth 20000 in
theorem gL_law_X2_table : GoodIn wsL_law (wsV RL 13 RX2 yX2_table wsX2_table) := goodIn_app (goodIn_of _ (by decide +kernel)) ggL_law_X2_table
set_option maxRecDepth 20000 in
theorem ggL_law_X3_table : GoodIn wsL_law wsX3_table := goodIn_r _ [132, 133, 134, 135, 136, 137, 138, 41, 46, 42, 47, 43, 48, 44, 49, 45, 50, 139, 140, 141, 142, 5, 143, 144, 145, 146, 147, 148, 149, 150, 151, 152, 153, 154, 155, 156, 54, 55, 157, 158, 159, 160, 161, 162, 163, 164, 165, 166, 167, 168, 169, 170, 171, 56, 172, 173, 174, 175, 176, 177, 178, 179, 180, 181, 182, 183, 729, 730, 731, 732, 733, 734, 735, 736, 737, 738, 739, 740, 741, 742, 743, 744, 745, 746, 747, 748, 749, 750, 751, 752, 753, 754] (by decide +kernel) (by decide +kernel)
set_option maxRecDepth 20000 in
theorem gL_law_X3_table : GoodIn wsL_law (wsV RL 17 RX3 yX3_table wsX3_table) := goodIn_app (goodIn_of _ (by decide +kernel)) ggL_law_X3_table
set_option maxRecDepth 20000 in
theorem ggL_law_X2_ofThing : GoodIn wsL_law wsX2_ofThing := goodIn_r _ [187, 15, 188, 189, 190, 191, 192, 193, 2, 194, 64, 195, 196, 197, 14, 198, 30, 199, 200, 201, 202, 92, 203, 204, 205, 206, 28, 31, 721, 722, 723, 724, 725, 726, 727, 728, 755, 756, 757, 758, 759, 760, 761, 762] (by decide +kernel) (by decide +kernel)
set_option maxRecDepth 20000 in
theorem gL_law_X2_ofThing : GoodIn wsL_law (wsV RL 18 RX2 yX2_ofThing wsX2_ofThing) := goodIn_app (goodIn_of _ (by decide +kernel)) ggL_law_X2_ofThing
set_option maxRecDepth 20000 in
theorem ggL_law_X3_ofThing : GoodIn wsL_law wsX3_ofThing := goodIn_r _ [210, 42, 43, 139, 44, 45, 211, 212, 213, 5, 214, 138, 145, 146, 147, 215, 216, 217, 218, 219, 220, 221, 729, 730, 731, 732, 733, 734, 735, 736, 737, 738, 739, 740, 741, 742, 743, 744, 745, 746, 747, 748, 749, 750, 751, 752, 753, 754] (by decide +kernel) (by decide +kernel)
set_option maxRecDepth 20000 in
theorem gL_law_X3_ofThing : GoodIn wsL_law (wsV RL 22 RX3 yX3_ofThing wsX3_ofThing) := goodIn_app (goodIn_of _ (by decide +kernel)) ggL_law_X3_ofThing
set_option maxRecDepth 20000 in
theorem ggL_law_X2_acres : GoodIn wsL_law wsX2_acres := goodIn_r _ [225, 15, 226, 227, 228, 229, 2, 230, 231, 721, 722, 723, 724, 725, 726, 727, 728, 755, 756, 757, 758, 759, 760, 761, 762] (by decide +kernel) (by decide +kernel)
set_option maxRecDepth 20000 in
theorem gL_law_X2_acres : GoodIn wsL_law (wsV RL 23 RX2 yX2_acres wsX2_acres) := goodIn_app (goodIn_of _ (by decide +kernel)) ggL_law_X2_acres
set_option maxRecDepth 20000 in
theorem ggL_law_X3_acres : GoodIn wsL_law wsX3_acres := goodIn_r _ [235, 41, 236, 237, 238, 5, 239, 136, 145, 146, 147, 729, 730, 731, 732, 733, 734, 735, 736, 737, 738, 739, 740, 741, 742, 743, 744, 745, 746, 747, 748, 749, 750, 751, 752, 753, 754] (by decide +kernel) (by decide +kernel)
set_option maxRecDepth 20000 in
theorem gL_law_X3_acres : GoodIn wsL_law (wsV RL 27 RX3 yX3_acres wsX3_acres) := goodIn_app (goodIn_of _ (by decide +kernel)) ggL_law_X3_acres
set_option maxRecDepth 20000 in
theorem ggL_law_X2_stain : GoodIn wsL_law wsX2_stain := goodIn_r _ [243, 15, 226, 227, 228, 229, 2, 230, 231, 244, 245, 246, 721, 722, 723, 724, 725, 726, 727, 728, 755, 756, 757, 758, 759, 760, 761, 762] (by decide +kernel) (by decide +kernel)
set_option maxRecDepth 20000 in
theorem gL_law_X2_stain : GoodIn wsL_law (wsV RL 28 RX2 yX2_stain wsX2_stain) := goodIn_app (goodIn_of _ (by decide +kernel)) ggL_law_X2_stain
set_option maxRecDepth 20000 in
theorem ggL_law_X3_stain : GoodIn wsL_law wsX3_stain := goodIn_r _ [250, 251, 41, 236, 237, 238, 5, 239, 136, 145, 146, 147, 729, 730, 731, 732, 733, 734, 735, 736, 737, 738, 739, 740, 741, 742, 743, 744, 745, 746, 747, 748, 749, 750, 751, 752, 753, 754] (by decide +kernel) (by decide +kernel)
set_option maxRecDepth 20000 in
theorem gL_law_X3_stain : GoodIn wsL_law (wsV RL 31 RX3 yX3_stain wsX3_stain) := goodIn_app (goodIn_of _ (by decide +kernel)) ggL_law_X3_stain
set_option maxRecDepth 20000 in
theorem ggL_law_X2_arm : GoodIn wsL_law wsX2_arm := goodIn_r _ [255, 15, 190, 191, 192, 193, 2, 194, 64, 244, 245, 246, 721, 722, 723, 724, 725, 726, 727, 728, 755, 756, 757, 758, 759, 760, 761, 762] (by decide +kernel) (by decide +kernel)
set_option maxRecDepth 20000 in
theorem gL_law_X2_arm : GoodIn wsL_law (wsV RL 32 RX2 yX2_arm wsX2_arm) := goodIn_app (goodIn_of _ (by decide +kernel)) ggL_law_X2_arm
set_option maxRecDepth 20000 in
theorem ggL_law_X3_arm : GoodIn wsL_law wsX3_arm := goodIn_r _ [259, 251, 45, 211, 212, 213, 5, 214, 138, 145, 146, 147, 729, 730, 731, 732, 733, 734, 735, 736, 737, 738, 739, 740, 741, 742, 743, 744, 745, 746, 747, 748, 749, 750, 751, 752, 753, 754] (by decide +kernel) (by decide +kernel)
set_option maxRecDepth 20000 in
theorem gL_law_X3_arm : GoodIn wsL_law (wsV RL 35 RX3 yX3_arm wsX3_arm) := goodIn_app (goodIn_of _ (by decide +kernel)) ggL_law_X3_arm
set_option maxRecDepth 20000 in
theorem ggL_law_X2_might : GoodIn wsL_law wsX2_might := goodIn_r _ [263, 15, 264, 265, 2, 266, 227, 228, 229, 230, 231, 267, 268, 269, 14, 270, 94, 29, 30, 271, 204, 205, 206, 28, 31, 199, 200, 201, 202, 92, 721, 722, 723, 724, 725, 726, 727, 728, 755, 756, 757, 758, 759, 760, 761, 762] (by decide +kernel) (by decide +kernel)
set_option maxRecDepth 20000 in
theorem gL_law_X2_might : GoodIn wsL_law (wsV RL 36 RX2 yX2_might wsX2_might) := goodIn_app (goodIn_of _ (by decide +kernel)) ggL_law_X2_might
set_option maxRecDepth 20000 in
theorem ggL_law_X3_might : GoodIn wsL_law wsX3_might := goodIn_r _ [275, 276, 277, 5, 278, 145, 146, 147, 236, 237, 238, 239, 136, 279, 280, 281, 282, 138, 43, 44, 218, 219, 220, 221, 45, 42, 139, 215, 216, 217, 729, 730, 731, 732, 733, 734, 735, 736, 737, 738, 739, 740, 741, 742, 743, 744, 745, 746, 747, 748, 749, 750, 751, 752, 753, 754] (by decide +kernel) (by decide +kernel)
set_option maxRecDepth 20000 in
theorem gL_law_X3_might : GoodIn wsL_law (wsV RL 39 RX3 yX3_might wsX3_might) := goodIn_app (goodIn_of _ (by decide +kernel)) ggL_law_X3_might
set_option maxRecDepth 20000 in
theorem ggL_law_X2_holds : GoodIn wsL_law wsX2_holds := goodIn_r _ [286, 15, 227, 228, 229, 2, 230, 231, 287, 288, 289, 14, 290, 94, 30, 29, 271, 204, 205, 206, 28, 31, 199, 200, 201, 202, 92, 721, 722, 723, 724, 725, 726, 727, 728, 755, 756, 757, 758, 759, 760, 761, 762] (by decide +kernel) (by decide +kernel)
set_option maxRecDepth 20000 in
theorem gL_law_X2_holds : GoodIn wsL_law (wsV RL 40 RX2 yX2_holds wsX2_holds) := goodIn_app (goodIn_of _ (by decide +kernel)) ggL_law_X2_holds
set_option maxRecDepth 20000 in
theorem ggL_law_X3_holds : GoodIn wsL_law wsX3_holds := goodIn_r _ [294, 236, 237, 238, 5, 239, 136, 145, 146, 147, 295, 296, 297, 298, 279, 280, 281, 282, 138, 43, 44, 218, 219, 220, 221, 45, 42, 139, 215, 216, 217, 729, 730, 731, 732, 733, 734, 735, 736, 737, 738, 739, 740, 741, 742, 743, 744, 745, 746, 747, 748, 749, 750, 751, 752, 753, 754] (by decide +kernel) (by decide +kernel)
set_option maxRecDepth 20000 in
theorem gL_law_X3_holds : GoodIn wsL_law (wsV RL 43 RX3 yX3_holds wsX3_holds) := goodIn_app (goodIn_of _ (by decide +kernel)) ggL_law_X3_holds
set_option maxRecDepth 20000 in
theorem ggL_law_X2_land : GoodIn wsL_law wsX2_land := goodIn_r _ [302, 15, 264, 265, 2, 266, 303, 304, 305, 306, 64, 307, 308, 309, 14, 310, 93, 27, 311, 288, 289, 290, 94, 30, 29, 271, 204, 205, 206, 28, 31, 199, 200, 201, 202, 92, 721, 722, 723, 724, 725, 726, 727, 728, 755, 756, 757, 758, 759, 760, 761, 762] (by decide +kernel) (by decide +kernel)
set_option maxRecDepth 20000 in
theorem gL_law_X2_land : GoodIn wsL_law (wsV RL 44 RX2 yX2_land wsX2_land) := goodIn_app (goodIn_of _ (by decide +kernel)) ggL_law_X2_land
set_option maxRecDepth 20000 in
theorem ggL_law_X3_land : GoodIn wsL_law wsX3_land := goodIn_r _ [315, 138, 276, 277, 5, 278, 145, 146, 147, 316, 317, 318, 319, 136, 41, 295, 296, 297, 298, 279, 280, 281, 282, 43, 44, 218, 219, 220, 221, 45, 42, 139, 215, 216, 217, 729, 730, 731, 732, 733, 734, 735, 736, 737, 738, 739, 740, 741, 742, 743, 744, 745, 746, 747, 748, 749, 750, 751, 752, 753, 754] (by decide +kernel) (by decide +kernel)
set_option maxRecDepth 20000 in
theorem gL_law_X3_land : GoodIn wsL_law (wsV RL 47 RX3 yX3_land wsX3_land) := goodIn_app (goodIn_of _ (by decide +kernel)) ggL_law_X3_land
set_option maxRecDepth 20000 in
theorem ggL_law_X2_act : GoodIn wsL_law wsX2_act := goodIn_r _ [323, 15, 191, 192, 193, 2, 194, 64, 324, 325, 326, 327, 328, 329, 14, 330, 30, 93, 199, 200, 201, 202, 92, 331, 332, 333, 334, 195, 196, 197, 198, 721, 722, 723, 724, 725, 726, 727, 728, 755, 756, 757, 758, 759, 760, 761, 762] (by decide +kernel) (by decide +kernel)
set_option maxRecDepth 20000 in
theorem gL_law_X2_act : GoodIn wsL_law (wsV RL 48 RX2 yX2_act wsX2_act) := goodIn_app (goodIn_of _ (by decide +kernel)) ggL_law_X2_act
set_option maxRecDepth 20000 in
theorem ggL_law_X3_act : GoodIn wsL_law wsX3_act := goodIn_r _ [338, 133, 44, 211, 212, 213, 5, 214, 138, 145, 146, 147, 339, 340, 341, 342, 139, 136, 215, 216, 217, 343, 344, 345, 346, 729, 730, 731, 732, 733, 734, 735, 736, 737, 738, 739, 740, 741, 742, 743, 744, 745, 746, 747, 748, 749, 750, 751, 752, 753, 754] (by decide +kernel) (by decide +kernel)
set_option maxRecDepth 20000 in
theorem gL_law_X3_act : GoodIn wsL_law (wsV RL 51 RX3 yX3_act wsX3_act) := goodIn_app (goodIn_of _ (by decide +kernel)) ggL_law_X3_act
set_option maxRecDepth 20000 in
theorem ggL_law_X2_serve : GoodIn wsL_law wsX2_serve := goodIn_r _ [350, 15, 351, 303, 304, 305, 2, 306, 64, 352, 353, 354, 14, 355, 92, 356, 357, 358, 359, 360, 361, 362, 721, 722, 723, 724, 725, 726, 727, 728, 755, 756, 757, 758, 759, 760, 761, 762] (by decide +kernel) (by decide +kernel)
set_option maxRecDepth 20000 in
theorem gL_law_X2_serve : GoodIn wsL_law (wsV RL 52 RX2 yX2_serve wsX2_serve) := goodIn_app (goodIn_of _ (by decide +kernel)) ggL_law_X2_serve
set_option maxRecDepth 20000 in
theorem ggL_law_X3_serve : GoodIn wsL_law wsX3_serve := goodIn_r _ [366, 138, 139, 367, 368, 5, 369, 729, 730, 731, 732, 733, 734, 735, 736, 737, 738, 739, 740, 741, 742, 743, 744, 745, 746, 747, 748, 749, 750, 751, 752, 753, 754] (by decide +kernel) (by decide +kernel)
set_option maxRecDepth 20000 in
theorem gL_law_X3_serve : GoodIn wsL_law (wsV RL 56 RX3 yX3_serve wsX3_serve) := goodIn_app (goodIn_of _ (by decide +kernel)) ggL_law_X3_serve
set_option maxRecDepth 20000 in
theorem ggL_law_X2_dinner : GoodIn wsL_law wsX2_dinner := goodIn_r _ [373, 62, 18, 16, 15, 65, 66, 2, 67, 68, 69, 70, 374, 375, 376, 303, 304, 305, 306, 64, 71, 72, 73, 20, 74, 36, 75, 76, 77, 78, 79, 80, 81, 82, 83, 84, 85, 86, 87, 377, 378, 379, 380, 381, 100, 101, 102, 35, 191, 192, 193, 194, 324, 325, 326, 121, 122, 123, 14, 124, 27, 125, 126, 127, 128, 28, 29, 30, 31, 93, 94, 92, 382, 383, 384, 385, 99, 386, 328, 329, 330, 199, 200, 201, 202, 387, 332, 333, 334, 388, 389, 390, 391, 307, 308, 309, 310, 311, 288, 289, 290, 271, 204, 205, 206, 352, 353, 354, 355, 356, 357, 358, 359, 360, 361, 362, 195, 196, 197, 198, 227, 228, 229, 230, 231, 287, 721, 722, 723, 724, 725, 726, 727, 728, 755, 756, 757, 758, 759, 760, 761, 762, 763, 764, 765] (by decide +kernel) (by decide +kernel)
set_option maxRecDepth 20000 in
theorem gL_law_X2_dinner : GoodIn wsL_law (wsV RL 57 RX2 yX2_dinner wsX2_dinner) := goodIn_app (goodIn_of _ (by decide +kernel)) ggL_law_X2_dinner
set_option maxRecDepth 20000 in
theorem ggL_law_X3_dinner : GoodIn wsL_law wsX3_dinner := goodIn_r _ [395, 144, 396, 397, 398, 399, 133, 138, 139, 51, 44, 141, 142, 5, 143, 145, 146, 147, 148, 149, 150, 151, 152, 153, 154, 155, 156, 54, 55, 157, 158, 159, 160, 161, 162, 163, 400, 401, 402, 403, 56, 211, 212, 213, 214, 404, 405, 406, 407, 408, 409, 410, 411, 43, 339, 340, 341, 342, 136, 215, 216, 217, 343, 344, 345, 346, 236, 237, 238, 239, 295, 296, 297, 298, 279, 280, 281, 282, 218, 219, 220, 221, 45, 42, 316, 317, 318, 319, 41, 367, 368, 369, 729, 730, 731, 732, 733, 734, 735, 736, 737, 738, 739, 740, 741, 742, 743, 744, 745, 746, 747, 748, 749, 750, 751, 752, 753, 754] (by decide +kernel) (by decide +kernel)
set_option maxRecDepth 20000 in
theorem gL_law_X3_dinner : GoodIn wsL_law (wsV RL 61 RX3 yX3_dinner wsX3_dinner) := goodIn_app (goodIn_of _ (by decide +kernel)) ggL_law_X3_dinner
set_option maxRecDepth 20000 in
theorem ggL_law_X2_good : GoodIn wsL_law wsX2_good := goodIn_r _ [415, 15, 416, 417, 418, 2, 419, 264, 265, 266, 303, 304, 305, 306, 64, 420, 421, 422, 14, 423, 94, 424, 425, 97, 426, 427, 428, 429, 430, 29, 386, 328, 329, 330, 30, 93, 199, 200, 201, 202, 92, 387, 332, 333, 334, 431, 432, 433, 434, 27, 311, 288, 289, 290, 271, 204, 205, 206, 28, 31, 435, 436, 437, 438, 439, 440, 441, 442, 443, 444, 445, 446, 447, 448, 449, 450, 721, 722, 723, 724, 725, 726, 727, 728, 755, 756, 757, 758, 759, 760, 761, 762] (by decide +kernel) (by decide +kernel)
set_option maxRecDepth 20000 in
theorem gL_law_X2_good : GoodIn wsL_law (wsV RL 62 RX2 yX2_good wsX2_good) := goodIn_app (goodIn_of _ (by decide +kernel)) ggL_law_X2_good
set_option maxRecDepth 20000 in
theorem ggL_law_X3_good : GoodIn wsL_law wsX3_good := goodIn_r _ [454, 133, 138, 276, 277, 5, 278, 145, 146, 147, 455, 456, 457, 458, 459, 460, 461, 462, 43, 339, 340, 341, 342, 139, 44, 136, 215, 216, 217, 343, 344, 345, 346, 463, 464, 465, 466, 316, 317, 318, 319, 41, 295, 296, 297, 298, 279, 280, 281, 282, 218, 219, 220, 221, 45, 42, 467, 468, 469, 470, 729, 730, 731, 732, 733, 734, 735, 736, 737, 738, 739, 740, 741, 742, 743, 744, 745, 746, 747, 748, 749, 750, 751, 752, 753, 754] (by decide +kernel) (by decide +kernel)
set_option maxRecDepth 20000 in
theorem gL_law_X3_good : GoodIn wsL_law (wsV RL 65 RX3 yX3_good wsX3_good) := goodIn_app (goodIn_of _ (by decide +kernel)) ggL_law_X3_good
set_option maxRecDepth 20000 in
theorem ggL_law_X2_safe : GoodIn wsL_law wsX2_safe := goodIn_r _ [474, 15, 416, 417, 418, 2, 419, 264, 265, 266, 303, 304, 305, 306, 64, 475, 476, 477, 14, 478, 94, 424, 425, 97, 426, 427, 428, 429, 430, 29, 386, 328, 329, 330, 30, 93, 199, 200, 201, 202, 92, 387, 332, 333, 334, 479, 421, 422, 423, 431, 432, 433, 434, 27, 311, 288, 289, 290, 271, 204, 205, 206, 28, 31, 435, 436, 437, 438, 439, 440, 441, 480, 449, 450, 442, 443, 444, 445, 446, 447, 448, 721, 722, 723, 724, 725, 726, 727, 728, 755, 756, 757, 758, 759, 760, 761, 762] (by decide +kernel) (by decide +kernel)
set_option maxRecDepth 20000 in
theorem gL_law_X2_safe : GoodIn wsL_law (wsV RL 66 RX2 yX2_safe wsX2_safe) := goodIn_app (goodIn_of _ (by decide +kernel)) ggL_law_X2_safe
set_option maxRecDepth 20000 in
theorem ggL_law_X3_safe : GoodIn wsL_law wsX3_safe := goodIn_r _ [484, 133, 138, 276, 277, 5, 278, 145, 146, 147, 459, 460, 461, 462, 43, 339, 340, 341, 342, 139, 44, 136, 215, 216, 217, 343, 344, 345, 346, 485, 486, 487, 488, 455, 456, 457, 458, 463, 464, 465, 466, 316, 317, 318, 319, 41, 295, 296, 297, 298, 279, 280, 281, 282, 218, 219, 220, 221, 45, 42, 467, 468, 469, 470, 729, 730, 731, 732, 733, 734, 735, 736, 737, 738, 739, 740, 741, 742, 743, 744, 745, 746, 747, 748, 749, 750, 751, 752, 753, 754] (by decide +kernel) (by decide +kernel)
set_option maxRecDepth 20000 in
theorem gL_law_X3_safe : GoodIn wsL_law (wsV RL 69 RX3 yX3_safe wsX3_safe) := goodIn_app (goodIn_of _ (by decide +kernel)) ggL_law_X3_safe
set_option maxRecDepth 20000 in
theorem ggL_law_X2_need : GoodIn wsL_law wsX2_need := goodIn_r _ [492, 15, 264, 265, 2, 266, 227, 228, 229, 230, 231, 493, 494, 495, 14, 496, 94, 29, 30, 497, 498, 97, 499, 500, 268, 269, 270, 271, 204, 205, 206, 28, 31, 199, 200, 201, 202, 92, 721, 722, 723, 724, 725, 726, 727, 728, 755, 756, 757, 758, 759, 760, 761, 762] (by decide +kernel) (by decide +kernel)
set_option maxRecDepth 20000 in
theorem gL_law_X2_need : GoodIn wsL_law (wsV RL 70 RX2 yX2_need wsX2_need) := goodIn_app (goodIn_of _ (by decide +kernel)) ggL_law_X2_need
set_option maxRecDepth 20000 in
theorem ggL_law_X3_need : GoodIn wsL_law wsX3_need := goodIn_r _ [504, 138, 43, 44, 139, 276, 277, 5, 278, 145, 146, 147, 236, 237, 238, 239, 136, 279, 280, 281, 282, 218, 219, 220, 221, 45, 42, 215, 216, 217, 729, 730, 731, 732, 733, 734, 735, 736, 737, 738, 739, 740, 741, 742, 743, 744, 745, 746, 747, 748, 749, 750, 751, 752, 753, 754] (by decide +kernel) (by decide +kernel)
set_option maxRecDepth 20000 in
theorem gL_law_X3_need : GoodIn wsL_law (wsV RL 73 RX3 yX3_need wsX3_need) := goodIn_app (goodIn_of _ (by decide +kernel)) ggL_law_X3_need
set_option maxRecDepth 20000 in
theorem ggL_law_X2_reading : GoodIn wsL_law wsX2_reading := goodIn_r _ [508, 63, 22, 23, 227, 228, 229, 2, 230, 15, 231, 264, 265, 266, 721, 722, 723, 724, 725, 726, 727, 728, 755, 756, 757, 758, 759, 760, 761, 762] (by decide +kernel) (by decide +kernel)
set_option maxRecDepth 20000 in
theorem gL_law_X2_reading : GoodIn wsL_law (wsV RL 74 RX2 yX2_reading wsX2_reading) := goodIn_app (goodIn_of _ (by decide +kernel)) ggL_law_X2_reading
set_option maxRecDepth 20000 in
theorem ggL_law_X3_reading : GoodIn wsL_law wsX3_reading := goodIn_r _ [512, 140, 52, 53, 236, 237, 238, 5, 239, 136, 145, 146, 147, 276, 277, 278, 729, 730, 731, 732, 733, 734, 735, 736, 737, 738, 739, 740, 741, 742, 743, 744, 745, 746, 747, 748, 749, 750, 751, 752, 753, 754] (by decide +kernel) (by decide +kernel)
set_option maxRecDepth 20000 in
theorem gL_law_X3_reading : GoodIn wsL_law (wsV RL 77 RX3 yX3_reading wsX3_reading) := goodIn_app (goodIn_of _ (by decide +kernel)) ggL_law_X3_reading
set_option maxRecDepth 20000 in
theorem ggL_law_X2_back : GoodIn wsL_law wsX2_back := goodIn_r _ [516, 63, 721, 722, 723, 724, 725, 726, 727, 728] (by decide +kernel) (by decide +kernel)
set_option maxRecDepth 20000 in
theorem gL_law_X2_back : GoodIn wsL_law (wsV RL 78 RX2 yX2_back wsX2_back) := goodIn_app (goodIn_of _ (by decide +kernel)) ggL_law_X2_back
set_option maxRecDepth 20000 in
theorem ggL_law_X3_back : GoodIn wsL_law wsX3_back := goodIn_r _ [520, 140, 145, 146, 5, 147, 729, 730, 731, 732, 733, 734, 735, 736, 737, 738, 739, 740, 741, 742, 743, 744, 745, 746, 747, 748, 749, 750, 751, 752, 753, 754] (by decide +kernel) (by decide +kernel)
set_option maxRecDepth 20000 in
theorem gL_law_X3_back : GoodIn wsL_law (wsV RL 81 RX3 yX3_back wsX3_back) := goodIn_app (goodIn_of _ (by decide +kernel)) ggL_law_X3_back
set_option maxRecDepth 20000 in
theorem ggL_law_X2_strengths : GoodIn wsL_law wsX2_strengths := goodIn_r _ [524, 15, 190, 191, 192, 193, 2, 194, 64, 525, 526, 527, 528, 529, 530, 531, 532, 63, 22, 23, 287, 288, 289, 14, 290, 94, 30, 29, 271, 204, 205, 206, 28, 31, 199, 200, 201, 202, 92, 721, 722, 723, 724, 725, 726, 727, 728, 755, 756, 757, 758, 759, 760, 761, 762] (by decide +kernel) (by decide +kernel)
set_option maxRecDepth 20000 in
theorem gL_law_X2_strengths : GoodIn wsL_law (wsV RL 82 RX2 yX2_strengths wsX2_strengths) := goodIn_app (goodIn_of _ (by decide +kernel)) ggL_law_X2_strengths
set_option maxRecDepth 20000 in
theorem ggL_law_X3_strengths : GoodIn wsL_law wsX3_strengths := goodIn_r _ [536, 45, 211, 212, 213, 5, 214, 138, 145, 146, 147, 537, 538, 539, 540, 140, 52, 53, 295, 296, 297, 298, 279, 280, 281, 282, 43, 44, 218, 219, 220, 221, 42, 139, 215, 216, 217, 729, 730, 731, 732, 733, 734, 735, 736, 737, 738, 739, 740, 741, 742, 743, 744, 745, 746, 747, 748, 749, 750, 751, 752, 753, 754] (by decide +kernel) (by decide +kernel)
set_option maxRecDepth 20000 in
theorem gL_law_X3_strengths : GoodIn wsL_law (wsV RL 85 RX3 yX3_strengths wsX3_strengths) := goodIn_app (goodIn_of _ (by decide +kernel)) ggL_law_X3_strengths
set_option maxRecDepth 20000 in
theorem ggL_law_X2_kinds : GoodIn wsL_law wsX2_kinds := goodIn_r _ [544, 15, 188, 191, 192, 193, 2, 194, 64, 525, 526, 527, 528, 529, 530, 531, 532, 63, 22, 23, 287, 288, 289, 14, 290, 94, 30, 29, 271, 204, 205, 206, 28, 31, 199, 200, 201, 202, 92, 721, 722, 723, 724, 725, 726, 727, 728, 755, 756, 757, 758, 759, 760, 761, 762] (by decide +kernel) (by decide +kernel)
set_option maxRecDepth 20000 in
theorem gL_law_X2_kinds : GoodIn wsL_law (wsV RL 86 RX2 yX2_kinds wsX2_kinds) := goodIn_app (goodIn_of _ (by decide +kernel)) ggL_law_X2_kinds
set_option maxRecDepth 20000 in
theorem ggL_law_X3_kinds : GoodIn wsL_law wsX3_kinds := goodIn_r _ [548, 42, 211, 212, 213, 5, 214, 138, 145, 146, 147, 537, 538, 539, 540, 140, 52, 53, 295, 296, 297, 298, 279, 280, 281, 282, 43, 44, 218, 219, 220, 221, 45, 139, 215, 216, 217, 729, 730, 731, 732, 733, 734, 735, 736, 737, 738, 739, 740, 741, 742, 743, 744, 745, 746, 747, 748, 749, 750, 751, 752, 753, 754] (by decide +kernel) (by decide +kernel)
set_option maxRecDepth 20000 in
theorem gL_law_X3_kinds : GoodIn wsL_law (wsV RL 89 RX3 yX3_kinds wsX3_kinds) := goodIn_app (goodIn_of _ (by decide +kernel)) ggL_law_X3_kinds
set_option maxRecDepth 20000 in
theorem ggL_law_X2_spots : GoodIn wsL_law wsX2_spots := goodIn_r _ [552, 15, 553, 231, 191, 192, 193, 2, 194, 64, 525, 526, 527, 528, 529, 530, 531, 532, 63, 22, 23, 287, 288, 289, 14, 290, 94, 30, 29, 271, 204, 205, 206, 28, 31, 199, 200, 201, 202, 92, 721, 722, 723, 724, 725, 726, 727, 728, 755, 756, 757, 758, 759, 760, 761, 762] (by decide +kernel) (by decide +kernel)
set_option maxRecDepth 20000 in
theorem gL_law_X2_spots : GoodIn wsL_law (wsV RL 90 RX2 yX2_spots wsX2_spots) := goodIn_app (goodIn_of _ (by decide +kernel)) ggL_law_X2_spots
set_option maxRecDepth 20000 in
theorem ggL_law_X3_spots : GoodIn wsL_law wsX3_spots := goodIn_r _ [557, 44, 136, 211, 212, 213, 5, 214, 138, 145, 146, 147, 537, 538, 539, 540, 140, 52, 53, 295, 296, 297, 298, 279, 280, 281, 282, 43, 218, 219, 220, 221, 45, 42, 139, 215, 216, 217, 729, 730, 731, 732, 733, 734, 735, 736, 737, 738, 739, 740, 741, 742, 743, 744, 745, 746, 747, 748, 749, 750, 751, 752, 753, 754] (by decide +kernel) (by decide +kernel)
set_option maxRecDepth 20000 in
theorem gL_law_X3_spots : GoodIn wsL_law (wsV RL 93 RX3 yX3_spots wsX3_spots) := goodIn_app (goodIn_of _ (by decide +kernel)) ggL_law_X3_spots
set_option maxRecDepth 20000 in
theorem ggL_law_X2_odds : GoodIn wsL_law wsX2_odds := goodIn_r _ [561, 562, 15, 64, 264, 265, 2, 266, 303, 304, 305, 306, 563, 564, 565, 14, 566, 92, 94, 431, 432, 433, 434, 93, 27, 311, 288, 289, 290, 30, 29, 271, 204, 205, 206, 28, 31, 199, 200, 201, 202, 721, 722, 723, 724, 725, 726, 727, 728, 755, 756, 757, 758, 759, 760, 761, 762] (by decide +kernel) (by decide +kernel)
set_option maxRecDepth 20000 in
theorem gL_law_X2_odds : GoodIn wsL_law (wsV RL 94 RX2 yX2_odds wsX2_odds) := goodIn_app (goodIn_of _ (by decide +kernel)) ggL_law_X2_odds
set_option maxRecDepth 20000 in
theorem ggL_law_X3_odds : GoodIn wsL_law wsX3_odds := goodIn_r _ [570, 138, 139, 276, 277, 5, 278, 145, 146, 147, 571, 572, 573, 574, 316, 317, 318, 319, 136, 41, 295, 296, 297, 298, 279, 280, 281, 282, 43, 44, 218, 219, 220, 221, 45, 42, 215, 216, 217, 575, 576, 577, 729, 730, 731, 732, 733, 734, 735, 736, 737, 738, 739, 740, 741, 742, 743, 744, 745, 746, 747, 748, 749, 750, 751, 752, 753, 754] (by decide +kernel) (by decide +kernel)
set_option maxRecDepth 20000 in
theorem gL_law_X3_odds : GoodIn wsL_law (wsV RL 98 RX3 yX3_odds wsX3_odds) := goodIn_app (goodIn_of _ (by decide +kernel)) ggL_law_X3_odds
set_option maxRecDepth 20000 in
theorem ggL_law_X2_sheet : GoodIn wsL_law wsX2_sheet := goodIn_r _ [581, 62, 18, 65, 66, 2, 67, 68, 69, 70, 84, 85, 86, 87, 582, 583, 584, 20, 585, 36, 83, 35, 586, 587, 588, 589, 721, 722, 723, 724, 725, 726, 727, 728, 763, 764, 765] (by decide +kernel) (by decide +kernel)
set_option maxRecDepth 20000 in
theorem gL_law_X2_sheet : GoodIn wsL_law (wsV RL 99 RX2 yX2_sheet wsX2_sheet) := goodIn_app (goodIn_of _ (by decide +kernel)) ggL_law_X2_sheet
set_option maxRecDepth 20000 in
theorem ggL_law_X3_sheet : GoodIn wsL_law wsX3_sheet := goodIn_r _ [593, 133, 54, 55, 56, 141, 142, 5, 143, 144, 145, 146, 147, 148, 149, 150, 151, 152, 157, 158, 159, 160, 729, 730, 731, 732, 733, 734, 735, 736, 737, 738, 739, 740, 741, 742, 743, 744, 745, 746, 747, 748, 749, 750, 751, 752, 753, 754] (by decide +kernel) (by decide +kernel)
set_option maxRecDepth 20000 in
theorem gL_law_X3_sheet : GoodIn wsL_law (wsV RL 103 RX3 yX3_sheet wsX3_sheet) := goodIn_app (goodIn_of _ (by decide +kernel)) ggL_law_X3_sheet
set_option maxRecDepth 20000 in
theorem ggL_law_X2_lose : GoodIn wsL_law wsX2_lose := goodIn_r _ [597, 18, 65, 66, 2, 67, 598, 76, 77, 20, 78, 36, 599, 600, 601, 602, 83, 721, 722, 723, 724, 725, 726, 727, 728, 763, 764, 765] (by decide +kernel) (by decide +kernel)
set_option maxRecDepth 20000 in
theorem gL_law_X2_lose : GoodIn wsL_law (wsV RL 104 RX2 yX2_lose wsX2_lose) := goodIn_app (goodIn_of _ (by decide +kernel)) ggL_law_X2_lose
set_option maxRecDepth 20000 in
theorem ggL_law_X3_lose : GoodIn wsL_law wsX3_lose := goodIn_r _ [606, 54, 141, 142, 5, 143, 144, 145, 146, 147, 729, 730, 731, 732, 733, 734, 735, 736, 737, 738, 739, 740, 741, 742, 743, 744, 745, 746, 747, 748, 749, 750, 751, 752, 753, 754] (by decide +kernel) (by decide +kernel)
set_option maxRecDepth 20000 in
theorem gL_law_X3_lose : GoodIn wsL_law (wsV RL 107 RX3 yX3_lose wsX3_lose) := goodIn_app (goodIn_of _ (by decide +kernel)) ggL_law_X3_lose
set_option maxRecDepth 20000 in
theorem ggL_law_X2_put : GoodIn wsL_law wsX2_put := goodIn_r _ [610, 62, 18, 611, 65, 66, 2, 67, 71, 72, 73, 20, 74, 36, 75, 76, 77, 78, 79, 80, 81, 82, 83, 84, 85, 86, 87, 612, 613, 614, 615, 35, 616, 617, 618, 619, 721, 722, 723, 724, 725, 726, 727, 728, 763, 764, 765] (by decide +kernel) (by decide +kernel)
set_option maxRecDepth 20000 in
theorem gL_law_X2_put : GoodIn wsL_law (wsV RL 108 RX2 yX2_put wsX2_put) := goodIn_app (goodIn_of _ (by decide +kernel)) ggL_law_X2_put
set_option maxRecDepth 20000 in
theorem ggL_law_X3_put : GoodIn wsL_law wsX3_put := goodIn_r _ [623, 56, 55, 141, 142, 5, 143, 144, 145, 146, 147, 148, 149, 150, 151, 152, 624, 625, 626, 627, 54, 157, 158, 159, 160, 729, 730, 731, 732, 733, 734, 735, 736, 737, 738, 739, 740, 741, 742, 743, 744, 745, 746, 747, 748, 749, 750, 751, 752, 753, 754] (by decide +kernel) (by decide +kernel)
set_option maxRecDepth 20000 in
theorem gL_law_X3_put : GoodIn wsL_law (wsV RL 111 RX3 yX3_put wsX3_put) := goodIn_app (goodIn_of _ (by decide +kernel)) ggL_law_X3_put
set_option maxRecDepth 20000 in
theorem ggL_law_X2_cell : GoodIn wsL_law wsX2_cell := goodIn_r _ [631, 62, 562, 18, 65, 66, 2, 67, 68, 69, 70, 71, 72, 73, 20, 74, 36, 75, 76, 77, 78, 79, 80, 81, 82, 83, 381, 100, 101, 102, 35, 721, 722, 723, 724, 725, 726, 727, 728, 763, 764, 765] (by decide +kernel) (by decide +kernel)
set_option maxRecDepth 20000 in
theorem gL_law_X2_cell : GoodIn wsL_law (wsV RL 112 RX2 yX2_cell wsX2_cell) := goodIn_app (goodIn_of _ (by decide +kernel)) ggL_law_X2_cell
set_option maxRecDepth 20000 in
theorem ggL_law_X3_cell : GoodIn wsL_law wsX3_cell := goodIn_r _ [635, 152, 133, 54, 55, 56, 141, 142, 5, 143, 144, 145, 146, 147, 571, 572, 573, 574, 636, 637, 638, 639, 624, 625, 626, 627, 729, 730, 731, 732, 733, 734, 735, 736, 737, 738, 739, 740, 741, 742, 743, 744, 745, 746, 747, 748, 749, 750, 751, 752, 753, 754] (by decide +kernel) (by decide +kernel)
set_option maxRecDepth 20000 in
theorem gL_law_X3_cell : GoodIn wsL_law (wsV RL 116 RX3 yX3_cell wsX3_cell) := goodIn_app (goodIn_of _ (by decide +kernel)) ggL_law_X3_cell
set_option maxRecDepth 20000 in
theorem ggL_law_X2_copy : GoodIn wsL_law wsX2_copy := goodIn_r _ [643, 62, 18, 611, 644, 645, 126, 127, 128, 65, 66, 2, 67, 598, 76, 77, 20, 78, 36, 84, 85, 86, 87, 646, 80, 81, 82, 83, 721, 722, 723, 724, 725, 726, 727, 728, 763, 764, 765] (by decide +kernel) (by decide +kernel)
set_option maxRecDepth 20000 in
theorem gL_law_X2_copy : GoodIn wsL_law (wsV RL 117 RX2 yX2_copy wsX2_copy) := goodIn_app (goodIn_of _ (by decide +kernel)) ggL_law_X2_copy
set_option maxRecDepth 20000 in
theorem ggL_law_X3_copy : GoodIn wsL_law wsX3_copy := goodIn_r _ [650, 54, 55, 57, 56, 141, 142, 5, 143, 144, 145, 146, 147, 148, 149, 150, 151, 152, 157, 158, 159, 160, 161, 162, 163, 729, 730, 731, 732, 733, 734, 735, 736, 737, 738, 739, 740, 741, 742, 743, 744, 745, 746, 747, 748, 749, 750, 751, 752, 753, 754] (by decide +kernel) (by decide +kernel)
set_option maxRecDepth 20000 in
theorem gL_law_X3_copy : GoodIn wsL_law (wsV RL 120 RX3 yX3_copy wsX3_copy) := goodIn_app (goodIn_of _ (by decide +kernel)) ggL_law_X3_copy
set_option maxRecDepth 20000 in
theorem ggL_law_X2_tell : GoodIn wsL_law wsX2_tell := goodIn_r _ [654, 15, 188, 191, 192, 193, 2, 194, 64, 655, 656, 657, 658, 659, 660, 661, 662, 663, 664, 665, 666, 667, 668, 669, 670, 671, 190, 721, 722, 723, 724, 725, 726, 727, 728, 755, 756, 757, 758, 759, 760, 761, 762] (by decide +kernel) (by decide +kernel)
set_option maxRecDepth 20000 in
theorem gL_law_X2_tell : GoodIn wsL_law (wsV RL 121 RX2 yX2_tell wsX2_tell) := goodIn_app (goodIn_of _ (by decide +kernel)) ggL_law_X2_tell
set_option maxRecDepth 20000 in
theorem ggL_law_X3_tell : GoodIn wsL_law wsX3_tell := goodIn_r _ [675, 42, 45, 211, 212, 213, 5, 214, 138, 145, 146, 147, 676, 677, 678, 679, 680, 729, 730, 731, 732, 733, 734, 735, 736, 737, 738, 739, 740, 741, 742, 743, 744, 745, 746, 747, 748, 749, 750, 751, 752, 753, 754] (by decide +kernel) (by decide +kernel)
set_option maxRecDepth 20000 in
theorem gL_law_X3_tell : GoodIn wsL_law (wsV RL 124 RX3 yX3_tell wsX3_tell) := goodIn_app (goodIn_of _ (by decide +kernel)) ggL_law_X3_tell
set_option maxRecDepth 20000 in
theorem ggL_law_X2_pass : GoodIn wsL_law wsX2_pass := goodIn_r _ [684, 15, 188, 191, 192, 193, 2, 194, 64, 659, 660, 661, 662, 663, 721, 722, 723, 724, 725, 726, 727, 728, 755, 756, 757, 758, 759, 760, 761, 762] (by decide +kernel) (by decide +kernel)
set_option maxRecDepth 20000 in
theorem gL_law_X2_pass : GoodIn wsL_law (wsV RL 125 RX2 yX2_pass wsX2_pass) := goodIn_app (goodIn_of _ (by decide +kernel)) ggL_law_X2_pass
set_option maxRecDepth 20000 in
theorem ggL_law_X3_pass : GoodIn wsL_law wsX3_pass := goodIn_r _ [688, 42, 211, 212, 213, 5, 214, 138, 145, 146, 147, 676, 677, 678, 679, 680, 729, 730, 731, 732, 733, 734, 735, 736, 737, 738, 739, 740, 741, 742, 743, 744, 745, 746, 747, 748, 749, 750, 751, 752, 753, 754] (by decide +kernel) (by decide +kernel)
set_option maxRecDepth 20000 in
theorem gL_law_X3_pass : GoodIn wsL_law (wsV RL 128 RX3 yX3_pass wsX3_pass) := goodIn_app (goodIn_of _ (by decide +kernel)) ggL_law_X3_pass
set_option maxRecDepth 20000 in
theorem ggL_law_X2_as : GoodIn wsL_law wsX2_as := goodIn_r _ [692, 62, 15, 188, 191, 192, 193, 2, 194, 64, 84, 85, 86, 87, 721, 722, 723, 724, 725, 726, 727, 728, 755, 756, 757, 758, 759, 760, 761, 762] (by decide +kernel) (by decide +kernel)
set_option maxRecDepth 20000 in
theorem gL_law_X2_as : GoodIn wsL_law (wsV RL 129 RX2 yX2_as wsX2_as) := goodIn_app (goodIn_of _ (by decide +kernel)) ggL_law_X2_as
set_option maxRecDepth 20000 in
theorem ggL_law_X3_as : GoodIn wsL_law wsX3_as := goodIn_r _ [696, 133, 42, 211, 212, 213, 5, 214, 138, 145, 146, 147, 148, 149, 150, 151, 152, 157, 158, 159, 160, 729, 730, 731, 732, 733, 734, 735, 736, 737, 738, 739, 740, 741, 742, 743, 744, 745, 746, 747, 748, 749, 750, 751, 752, 753, 754] (by decide +kernel) (by decide +kernel)
set_option maxRecDepth 20000 in
theorem gL_law_X3_as : GoodIn wsL_law (wsV RL 132 RX3 yX3_as wsX3_as) := goodIn_app (goodIn_of _ (by decide +kernel)) ggL_law_X3_as
set_option maxRecDepth 20000 in
theorem ggL_law_X2_trace : GoodIn wsL_law wsX2_trace := goodIn_r _ [700, 663, 721, 722, 723, 724, 725, 726, 727, 728] (by decide +kernel) (by decide +kernel)
set_option maxRecDepth 20000 in
theorem gL_law_X2_trace : GoodIn wsL_law (wsV RL 133 RX2 yX2_trace wsX2_trace) := goodIn_app (goodIn_of _ (by decide +kernel)) ggL_law_X2_trace
set_option maxRecDepth 20000 in
theorem ggL_law_X3_trace : GoodIn wsL_law wsX3_trace := goodIn_r _ [704, 680, 729, 730, 731, 732, 733, 734, 735, 736, 737, 738, 739, 740, 741, 742, 743, 744, 745, 746, 747, 748, 749, 750, 751, 752, 753, 754] (by decide +kernel) (by decide +kernel)
set_option maxRecDepth 20000 in
theorem gL_law_X3_trace : GoodIn wsL_law (wsV RL 136 RX3 yX3_trace wsX3_trace) := goodIn_app (goodIn_of _ (by decide +kernel)) ggL_law_X3_trace
set_option maxRecDepth 20000 in
theorem ggL_law_X2_fault : GoodIn wsL_law wsX2_fault := goodIn_r _ [708, 62, 721, 722, 723, 724, 725, 726, 727, 728] (by decide +kernel) (by decide +kernel)
set_option maxRecDepth 20000 in
theorem gL_law_X2_fault : GoodIn wsL_law (wsV RL 137 RX2 yX2_fault wsX2_fault) := goodIn_app (goodIn_of _ (by decide +kernel)) ggL_law_X2_fault
set_option maxRecDepth 20000 in
theorem ggL_law_X3_fault : GoodIn wsL_law wsX3_fault := goodIn_r _ [712, 152, 729, 730, 731, 732, 733, 734, 735, 736, 737, 738, 739, 740, 741, 742, 743, 744, 745, 746, 747, 748, 749, 750, 751, 752, 753, 754] (by decide +kernel) (by decide +kernel)
set_option maxRecDepth 20000 in
theorem gL_law_X3_fault : GoodIn wsL_law (wsV RL 140 RX3 yX3_fault wsX3_fault) := goodIn_app (goodIn_of _ (by decide +kernel)) ggL_law_X3_fault
set_option maxRecDepth 20000 in
theorem ggL_law_X2_many : GoodIn wsL_law wsX2_many := goodIn_r _ [716, 15, 64, 231, 63, 352, 353, 354, 14, 355, 92, 356, 357, 358, 359, 360, 361, 362, 721, 722, 723, 724, 725, 726, 727, 728, 755, 756, 757, 758, 759, 760, 761, 762] (by decide +kernel) (by decide +kernel)
set_option maxRecDepth 20000 in
theorem gL_law_X2_many : GoodIn wsL_law (wsV RL 141 RX2 yX2_many wsX2_many) := goodIn_app (goodIn_of _ (by decide +kernel)) ggL_law_X2_many
set_option maxRecDepth 20000 in
theorem ggL_law_X3_many : GoodIn wsL_law wsX3_many := goodIn_r _ [720, 138, 136, 139, 140, 367, 368, 5, 369, 729, 730, 731, 732, 733, 734, 735, 736, 737, 738, 739, 740, 741, 742, 743, 744, 745, 746, 747, 748, 749, 750, 751, 752, 753, 754] (by decide +kernel) (by decide +kernel)
set_option maxRecDepth 20000 in
theorem gL_law_X3_many : GoodIn wsL_law (wsV RL 144 RX3 yX3_many wsX3_many) := goodIn_app (goodIn_of _ (by decide +kernel)) ggL_law_X3_many
theorem dL_law_0 : decode cL_law 0 = .ok (.new 7, 3) := by decide +kernel
theorem dL_law_3 : decode cL_law 3 = .ok (.dup, 1) := by decide +kernel
theorem dL_law_4 : decode cL_law 4 = .ok (.invokespecial 9, 3) := by decide +kernel
theorem dL_law_7 : decode cL_law 7 = .ok (.astore_n 1, 1) := by decide +kernel
theorem dL_law_8 : decode cL_law 8 = .ok (.new 10, 3) := by decide +kernel
theorem dL_law_11 : decode cL_law 11 = .ok (.dup, 1) := by decide +kernel
theorem dL_law_12 : decode cL_law 12 = .ok (.invokespecial 12, 3) := by decide +kernel
theorem dL_law_15 : decode cL_law 15 = .ok (.astore_n 2, 1) := by decide +kernel
theorem dL_law_16 : decode cL_law 16 = .ok (.iconst 0, 1) := by decide +kernel
theorem dL_law_17 : decode cL_law 17 = .ok (.istore_n 3, 1) := by decide +kernel
theorem dL_law_18 : decode cL_law 18 = .ok (.iload_n 3, 1) := by decide +kernel
theorem dL_law_19 : decode cL_law 19 = .ok (.aload_n 0, 1) := by decide +kernel
theorem dL_law_20 : decode cL_law 20 = .ok (.arraylength, 1) := by decide +kernel
theorem dL_law_21 : decode cL_law 21 = .ok (.bipush 6, 2) := by decide +kernel
theorem dL_law_23 : decode cL_law 23 = .ok (.isub, 1) := by decide +kernel
theorem dL_law_24 : decode cL_law 24 = .ok (.if_icmp .gt 1119, 3) := by decide +kernel
theorem dL_law_27 : decode cL_law 27 = .ok (.aload_n 0, 1) := by decide +kernel
theorem dL_law_28 : decode cL_law 28 = .ok (.iload_n 3, 1) := by decide +kernel
theorem dL_law_29 : decode cL_law 29 = .ok (.iaload, 1) := by decide +kernel
theorem dL_law_30 : decode cL_law 30 = .ok (.bipush 31, 2) := by decide +kernel
theorem dL_law_32 : decode cL_law 32 = .ok (.iand, 1) := by decide +kernel
theorem dL_law_33 : decode cL_law 33 = .ok (.tableswitch 1104 0 30 #[139, 192, 225, 248, 281, 314, 347, 370, 393, 426, 439, 502, 535, 568, 601, 634, 657, 680, 703, 726, 760, 803, 826, 869, 913, 976, 999, 1022, 1055, 1068, 1081], 139) := by decide +kernel
theorem dL_law_172 : decode cL_law 172 = .ok (.aload_n 1, 1) := by decide +kernel
theorem dL_law_173 : decode cL_law 173 = .ok (.aload_n 0, 1) := by decide +kernel
theorem dL_law_174 : decode cL_law 174 = .ok (.iload_n 3, 1) := by decide +kernel
theorem dL_law_175 : decode cL_law 175 = .ok (.iconst 1, 1) := by decide +kernel
theorem dL_law_176 : decode cL_law 176 = .ok (.iadd, 1) := by decide +kernel
theorem dL_law_177 : decode cL_law 177 = .ok (.iaload, 1) := by decide +kernel
theorem dL_law_178 : decode cL_law 178 = .ok (.aload_n 0, 1) := by decide +kernel
theorem dL_law_179 : decode cL_law 179 = .ok (.iload_n 3, 1) := by decide +kernel
theorem dL_law_180 : decode cL_law 180 = .ok (.iconst 2, 1) := by decide +kernel
theorem dL_law_181 : decode cL_law 181 = .ok (.iadd, 1) := by decide +kernel
theorem dL_law_182 : decode cL_law 182 = .ok (.iaload, 1) := by decide +kernel
theorem dL_law_183 : decode cL_law 183 = .ok (.aload_n 0, 1) := by decide +kernel
theorem dL_law_184 : decode cL_law 184 = .ok (.iload_n 3, 1) := by decide +kernel
theorem dL_law_185 : decode cL_law 185 = .ok (.iconst 3, 1) := by decide +kernel
theorem dL_law_186 : decode cL_law 186 = .ok (.iadd, 1) := by decide +kernel
theorem dL_law_187 : decode cL_law 187 = .ok (.iaload, 1) := by decide +kernel
theorem dL_law_188 : decode cL_law 188 = .ok (.aload_n 0, 1) := by decide +kernel
theorem dL_law_189 : decode cL_law 189 = .ok (.iload_n 3, 1) := by decide +kernel
theorem dL_law_190 : decode cL_law 190 = .ok (.iconst 4, 1) := by decide +kernel
theorem dL_law_191 : decode cL_law 191 = .ok (.iadd, 1) := by decide +kernel
theorem dL_law_192 : decode cL_law 192 = .ok (.iaload, 1) := by decide +kernel
theorem dL_law_193 : decode cL_law 193 = .ok (.invokevirtual 13, 3) := by decide +kernel
theorem dL_law_196 : decode cL_law 196 = .ok (.aload_n 2, 1) := by decide +kernel
theorem dL_law_197 : decode cL_law 197 = .ok (.aload_n 0, 1) := by decide +kernel
theorem dL_law_198 : decode cL_law 198 = .ok (.iload_n 3, 1) := by decide +kernel
theorem dL_law_199 : decode cL_law 199 = .ok (.iconst 1, 1) := by decide +kernel
theorem dL_law_200 : decode cL_law 200 = .ok (.iadd, 1) := by decide +kernel
theorem dL_law_201 : decode cL_law 201 = .ok (.iaload, 1) := by decide +kernel
theorem dL_law_202 : decode cL_law 202 = .ok (.aload_n 0, 1) := by decide +kernel
theorem dL_law_203 : decode cL_law 203 = .ok (.iload_n 3, 1) := by decide +kernel
theorem dL_law_204 : decode cL_law 204 = .ok (.iconst 2, 1) := by decide +kernel
theorem dL_law_205 : decode cL_law 205 = .ok (.iadd, 1) := by decide +kernel
theorem dL_law_206 : decode cL_law 206 = .ok (.iaload, 1) := by decide +kernel
theorem dL_law_207 : decode cL_law 207 = .ok (.aload_n 0, 1) := by decide +kernel
theorem dL_law_208 : decode cL_law 208 = .ok (.iload_n 3, 1) := by decide +kernel
theorem dL_law_209 : decode cL_law 209 = .ok (.iconst 3, 1) := by decide +kernel
theorem dL_law_210 : decode cL_law 210 = .ok (.iadd, 1) := by decide +kernel
theorem dL_law_211 : decode cL_law 211 = .ok (.iaload, 1) := by decide +kernel
theorem dL_law_212 : decode cL_law 212 = .ok (.aload_n 0, 1) := by decide +kernel
theorem dL_law_213 : decode cL_law 213 = .ok (.iload_n 3, 1) := by decide +kernel
theorem dL_law_214 : decode cL_law 214 = .ok (.iconst 4, 1) := by decide +kernel
theorem dL_law_215 : decode cL_law 215 = .ok (.iadd, 1) := by decide +kernel
theorem dL_law_216 : decode cL_law 216 = .ok (.iaload, 1) := by decide +kernel
theorem dL_law_217 : decode cL_law 217 = .ok (.invokevirtual 17, 3) := by decide +kernel
theorem dL_law_220 : decode cL_law 220 = .ok (.if_icmp .eq 917, 3) := by decide +kernel
theorem dL_law_223 : decode cL_law 223 = .ok (.iconst 0, 1) := by decide +kernel
theorem dL_law_224 : decode cL_law 224 = .ok (.ireturn, 1) := by decide +kernel
theorem dL_law_225 : decode cL_law 225 = .ok (.aload_n 1, 1) := by decide +kernel
theorem dL_law_226 : decode cL_law 226 = .ok (.aload_n 0, 1) := by decide +kernel
theorem dL_law_227 : decode cL_law 227 = .ok (.iload_n 3, 1) := by decide +kernel
theorem dL_law_228 : decode cL_law 228 = .ok (.iconst 1, 1) := by decide +kernel
theorem dL_law_229 : decode cL_law 229 = .ok (.iadd, 1) := by decide +kernel
theorem dL_law_230 : decode cL_law 230 = .ok (.iaload, 1) := by decide +kernel
theorem dL_law_231 : decode cL_law 231 = .ok (.aload_n 0, 1) := by decide +kernel
theorem dL_law_232 : decode cL_law 232 = .ok (.iload_n 3, 1) := by decide +kernel
theorem dL_law_233 : decode cL_law 233 = .ok (.iconst 2, 1) := by decide +kernel
theorem dL_law_234 : decode cL_law 234 = .ok (.iadd, 1) := by decide +kernel
theorem dL_law_235 : decode cL_law 235 = .ok (.iaload, 1) := by decide +kernel
theorem dL_law_236 : decode cL_law 236 = .ok (.invokevirtual 18, 3) := by decide +kernel
theorem dL_law_239 : decode cL_law 239 = .ok (.aload_n 2, 1) := by decide +kernel
theorem dL_law_240 : decode cL_law 240 = .ok (.aload_n 0, 1) := by decide +kernel
theorem dL_law_241 : decode cL_law 241 = .ok (.iload_n 3, 1) := by decide +kernel
theorem dL_law_242 : decode cL_law 242 = .ok (.iconst 1, 1) := by decide +kernel
theorem dL_law_243 : decode cL_law 243 = .ok (.iadd, 1) := by decide +kernel
theorem dL_law_244 : decode cL_law 244 = .ok (.iaload, 1) := by decide +kernel
theorem dL_law_245 : decode cL_law 245 = .ok (.aload_n 0, 1) := by decide +kernel
theorem dL_law_246 : decode cL_law 246 = .ok (.iload_n 3, 1) := by decide +kernel
theorem dL_law_247 : decode cL_law 247 = .ok (.iconst 2, 1) := by decide +kernel
theorem dL_law_248 : decode cL_law 248 = .ok (.iadd, 1) := by decide +kernel
theorem dL_law_249 : decode cL_law 249 = .ok (.iaload, 1) := by decide +kernel
theorem dL_law_250 : decode cL_law 250 = .ok (.invokevirtual 22, 3) := by decide +kernel
theorem dL_law_253 : decode cL_law 253 = .ok (.if_icmp .eq 884, 3) := by decide +kernel
theorem dL_law_256 : decode cL_law 256 = .ok (.iconst 0, 1) := by decide +kernel
theorem dL_law_257 : decode cL_law 257 = .ok (.ireturn, 1) := by decide +kernel
theorem dL_law_258 : decode cL_law 258 = .ok (.aload_n 1, 1) := by decide +kernel
theorem dL_law_259 : decode cL_law 259 = .ok (.aload_n 0, 1) := by decide +kernel
theorem dL_law_260 : decode cL_law 260 = .ok (.iload_n 3, 1) := by decide +kernel
theorem dL_law_261 : decode cL_law 261 = .ok (.iconst 1, 1) := by decide +kernel
theorem dL_law_262 : decode cL_law 262 = .ok (.iadd, 1) := by decide +kernel
theorem dL_law_263 : decode cL_law 263 = .ok (.iaload, 1) := by decide +kernel
theorem dL_law_264 : decode cL_law 264 = .ok (.invokevirtual 23, 3) := by decide +kernel
theorem dL_law_267 : decode cL_law 267 = .ok (.aload_n 2, 1) := by decide +kernel
theorem dL_law_268 : decode cL_law 268 = .ok (.aload_n 0, 1) := by decide +kernel
theorem dL_law_269 : decode cL_law 269 = .ok (.iload_n 3, 1) := by decide +kernel
theorem dL_law_270 : decode cL_law 270 = .ok (.iconst 1, 1) := by decide +kernel
theorem dL_law_271 : decode cL_law 271 = .ok (.iadd, 1) := by decide +kernel
theorem dL_law_272 : decode cL_law 272 = .ok (.iaload, 1) := by decide +kernel
theorem dL_law_273 : decode cL_law 273 = .ok (.invokevirtual 27, 3) := by decide +kernel
theorem dL_law_276 : decode cL_law 276 = .ok (.if_icmp .eq 861, 3) := by decide +kernel
theorem dL_law_279 : decode cL_law 279 = .ok (.iconst 0, 1) := by decide +kernel
theorem dL_law_280 : decode cL_law 280 = .ok (.ireturn, 1) := by decide +kernel
theorem dL_law_281 : decode cL_law 281 = .ok (.aload_n 1, 1) := by decide +kernel
theorem dL_law_282 : decode cL_law 282 = .ok (.aload_n 0, 1) := by decide +kernel
theorem dL_law_283 : decode cL_law 283 = .ok (.iload_n 3, 1) := by decide +kernel
theorem dL_law_284 : decode cL_law 284 = .ok (.iconst 1, 1) := by decide +kernel
theorem dL_law_285 : decode cL_law 285 = .ok (.iadd, 1) := by decide +kernel
theorem dL_law_286 : decode cL_law 286 = .ok (.iaload, 1) := by decide +kernel
theorem dL_law_287 : decode cL_law 287 = .ok (.aload_n 0, 1) := by decide +kernel
theorem dL_law_288 : decode cL_law 288 = .ok (.iload_n 3, 1) := by decide +kernel
theorem dL_law_289 : decode cL_law 289 = .ok (.iconst 2, 1) := by decide +kernel
theorem dL_law_290 : decode cL_law 290 = .ok (.iadd, 1) := by decide +kernel
theorem dL_law_291 : decode cL_law 291 = .ok (.iaload, 1) := by decide +kernel
theorem dL_law_292 : decode cL_law 292 = .ok (.invokevirtual 28, 3) := by decide +kernel
theorem dL_law_295 : decode cL_law 295 = .ok (.aload_n 2, 1) := by decide +kernel
theorem dL_law_296 : decode cL_law 296 = .ok (.aload_n 0, 1) := by decide +kernel
theorem dL_law_297 : decode cL_law 297 = .ok (.iload_n 3, 1) := by decide +kernel
theorem dL_law_298 : decode cL_law 298 = .ok (.iconst 1, 1) := by decide +kernel
theorem dL_law_299 : decode cL_law 299 = .ok (.iadd, 1) := by decide +kernel
theorem dL_law_300 : decode cL_law 300 = .ok (.iaload, 1) := by decide +kernel
theorem dL_law_301 : decode cL_law 301 = .ok (.aload_n 0, 1) := by decide +kernel
theorem dL_law_302 : decode cL_law 302 = .ok (.iload_n 3, 1) := by decide +kernel
theorem dL_law_303 : decode cL_law 303 = .ok (.iconst 2, 1) := by decide +kernel
theorem dL_law_304 : decode cL_law 304 = .ok (.iadd, 1) := by decide +kernel
theorem dL_law_305 : decode cL_law 305 = .ok (.iaload, 1) := by decide +kernel
theorem dL_law_306 : decode cL_law 306 = .ok (.invokevirtual 31, 3) := by decide +kernel
theorem dL_law_309 : decode cL_law 309 = .ok (.if_icmp .eq 828, 3) := by decide +kernel
theorem dL_law_312 : decode cL_law 312 = .ok (.iconst 0, 1) := by decide +kernel
theorem dL_law_313 : decode cL_law 313 = .ok (.ireturn, 1) := by decide +kernel
theorem dL_law_314 : decode cL_law 314 = .ok (.aload_n 1, 1) := by decide +kernel
theorem dL_law_315 : decode cL_law 315 = .ok (.aload_n 0, 1) := by decide +kernel
theorem dL_law_316 : decode cL_law 316 = .ok (.iload_n 3, 1) := by decide +kernel
theorem dL_law_317 : decode cL_law 317 = .ok (.iconst 1, 1) := by decide +kernel
theorem dL_law_318 : decode cL_law 318 = .ok (.iadd, 1) := by decide +kernel
theorem dL_law_319 : decode cL_law 319 = .ok (.iaload, 1) := by decide +kernel
theorem dL_law_320 : decode cL_law 320 = .ok (.aload_n 0, 1) := by decide +kernel
theorem dL_law_321 : decode cL_law 321 = .ok (.iload_n 3, 1) := by decide +kernel
theorem dL_law_322 : decode cL_law 322 = .ok (.iconst 2, 1) := by decide +kernel
theorem dL_law_323 : decode cL_law 323 = .ok (.iadd, 1) := by decide +kernel
theorem dL_law_324 : decode cL_law 324 = .ok (.iaload, 1) := by decide +kernel
theorem dL_law_325 : decode cL_law 325 = .ok (.invokevirtual 32, 3) := by decide +kernel
theorem dL_law_328 : decode cL_law 328 = .ok (.aload_n 2, 1) := by decide +kernel
theorem dL_law_329 : decode cL_law 329 = .ok (.aload_n 0, 1) := by decide +kernel
theorem dL_law_330 : decode cL_law 330 = .ok (.iload_n 3, 1) := by decide +kernel
theorem dL_law_331 : decode cL_law 331 = .ok (.iconst 1, 1) := by decide +kernel
theorem dL_law_332 : decode cL_law 332 = .ok (.iadd, 1) := by decide +kernel
theorem dL_law_333 : decode cL_law 333 = .ok (.iaload, 1) := by decide +kernel
theorem dL_law_334 : decode cL_law 334 = .ok (.aload_n 0, 1) := by decide +kernel
theorem dL_law_335 : decode cL_law 335 = .ok (.iload_n 3, 1) := by decide +kernel
theorem dL_law_336 : decode cL_law 336 = .ok (.iconst 2, 1) := by decide +kernel
theorem dL_law_337 : decode cL_law 337 = .ok (.iadd, 1) := by decide +kernel
theorem dL_law_338 : decode cL_law 338 = .ok (.iaload, 1) := by decide +kernel
theorem dL_law_339 : decode cL_law 339 = .ok (.invokevirtual 35, 3) := by decide +kernel
theorem dL_law_342 : decode cL_law 342 = .ok (.if_icmp .eq 795, 3) := by decide +kernel
theorem dL_law_345 : decode cL_law 345 = .ok (.iconst 0, 1) := by decide +kernel
theorem dL_law_346 : decode cL_law 346 = .ok (.ireturn, 1) := by decide +kernel
theorem dL_law_347 : decode cL_law 347 = .ok (.aload_n 1, 1) := by decide +kernel
theorem dL_law_348 : decode cL_law 348 = .ok (.aload_n 0, 1) := by decide +kernel
theorem dL_law_349 : decode cL_law 349 = .ok (.iload_n 3, 1) := by decide +kernel
theorem dL_law_350 : decode cL_law 350 = .ok (.iconst 1, 1) := by decide +kernel
theorem dL_law_351 : decode cL_law 351 = .ok (.iadd, 1) := by decide +kernel
theorem dL_law_352 : decode cL_law 352 = .ok (.iaload, 1) := by decide +kernel
theorem dL_law_353 : decode cL_law 353 = .ok (.aload_n 0, 1) := by decide +kernel
theorem dL_law_354 : decode cL_law 354 = .ok (.iload_n 3, 1) := by decide +kernel
theorem dL_law_355 : decode cL_law 355 = .ok (.iconst 2, 1) := by decide +kernel
theorem dL_law_356 : decode cL_law 356 = .ok (.iadd, 1) := by decide +kernel
theorem dL_law_357 : decode cL_law 357 = .ok (.iaload, 1) := by decide +kernel
theorem dL_law_358 : decode cL_law 358 = .ok (.invokevirtual 36, 3) := by decide +kernel
theorem dL_law_361 : decode cL_law 361 = .ok (.aload_n 2, 1) := by decide +kernel
theorem dL_law_362 : decode cL_law 362 = .ok (.aload_n 0, 1) := by decide +kernel
theorem dL_law_363 : decode cL_law 363 = .ok (.iload_n 3, 1) := by decide +kernel
theorem dL_law_364 : decode cL_law 364 = .ok (.iconst 1, 1) := by decide +kernel
theorem dL_law_365 : decode cL_law 365 = .ok (.iadd, 1) := by decide +kernel
theorem dL_law_366 : decode cL_law 366 = .ok (.iaload, 1) := by decide +kernel
theorem dL_law_367 : decode cL_law 367 = .ok (.aload_n 0, 1) := by decide +kernel
theorem dL_law_368 : decode cL_law 368 = .ok (.iload_n 3, 1) := by decide +kernel
theorem dL_law_369 : decode cL_law 369 = .ok (.iconst 2, 1) := by decide +kernel
theorem dL_law_370 : decode cL_law 370 = .ok (.iadd, 1) := by decide +kernel
theorem dL_law_371 : decode cL_law 371 = .ok (.iaload, 1) := by decide +kernel
theorem dL_law_372 : decode cL_law 372 = .ok (.invokevirtual 39, 3) := by decide +kernel
theorem dL_law_375 : decode cL_law 375 = .ok (.if_icmp .eq 762, 3) := by decide +kernel
theorem dL_law_378 : decode cL_law 378 = .ok (.iconst 0, 1) := by decide +kernel
theorem dL_law_379 : decode cL_law 379 = .ok (.ireturn, 1) := by decide +kernel
theorem dL_law_380 : decode cL_law 380 = .ok (.aload_n 1, 1) := by decide +kernel
theorem dL_law_381 : decode cL_law 381 = .ok (.aload_n 0, 1) := by decide +kernel
theorem dL_law_382 : decode cL_law 382 = .ok (.iload_n 3, 1) := by decide +kernel
theorem dL_law_383 : decode cL_law 383 = .ok (.iconst 1, 1) := by decide +kernel
theorem dL_law_384 : decode cL_law 384 = .ok (.iadd, 1) := by decide +kernel
theorem dL_law_385 : decode cL_law 385 = .ok (.iaload, 1) := by decide +kernel
theorem dL_law_386 : decode cL_law 386 = .ok (.invokevirtual 40, 3) := by decide +kernel
theorem dL_law_389 : decode cL_law 389 = .ok (.aload_n 2, 1) := by decide +kernel
theorem dL_law_390 : decode cL_law 390 = .ok (.aload_n 0, 1) := by decide +kernel
theorem dL_law_391 : decode cL_law 391 = .ok (.iload_n 3, 1) := by decide +kernel
theorem dL_law_392 : decode cL_law 392 = .ok (.iconst 1, 1) := by decide +kernel
theorem dL_law_393 : decode cL_law 393 = .ok (.iadd, 1) := by decide +kernel
theorem dL_law_394 : decode cL_law 394 = .ok (.iaload, 1) := by decide +kernel
theorem dL_law_395 : decode cL_law 395 = .ok (.invokevirtual 43, 3) := by decide +kernel
theorem dL_law_398 : decode cL_law 398 = .ok (.if_icmp .eq 739, 3) := by decide +kernel
theorem dL_law_401 : decode cL_law 401 = .ok (.iconst 0, 1) := by decide +kernel
theorem dL_law_402 : decode cL_law 402 = .ok (.ireturn, 1) := by decide +kernel
theorem dL_law_403 : decode cL_law 403 = .ok (.aload_n 1, 1) := by decide +kernel
theorem dL_law_404 : decode cL_law 404 = .ok (.aload_n 0, 1) := by decide +kernel
theorem dL_law_405 : decode cL_law 405 = .ok (.iload_n 3, 1) := by decide +kernel
theorem dL_law_406 : decode cL_law 406 = .ok (.iconst 1, 1) := by decide +kernel
theorem dL_law_407 : decode cL_law 407 = .ok (.iadd, 1) := by decide +kernel
theorem dL_law_408 : decode cL_law 408 = .ok (.iaload, 1) := by decide +kernel
theorem dL_law_409 : decode cL_law 409 = .ok (.invokevirtual 44, 3) := by decide +kernel
theorem dL_law_412 : decode cL_law 412 = .ok (.aload_n 2, 1) := by decide +kernel
theorem dL_law_413 : decode cL_law 413 = .ok (.aload_n 0, 1) := by decide +kernel
theorem dL_law_414 : decode cL_law 414 = .ok (.iload_n 3, 1) := by decide +kernel
theorem dL_law_415 : decode cL_law 415 = .ok (.iconst 1, 1) := by decide +kernel
theorem dL_law_416 : decode cL_law 416 = .ok (.iadd, 1) := by decide +kernel
theorem dL_law_417 : decode cL_law 417 = .ok (.iaload, 1) := by decide +kernel
theorem dL_law_418 : decode cL_law 418 = .ok (.invokevirtual 47, 3) := by decide +kernel
theorem dL_law_421 : decode cL_law 421 = .ok (.if_icmp .eq 716, 3) := by decide +kernel
theorem dL_law_424 : decode cL_law 424 = .ok (.iconst 0, 1) := by decide +kernel
theorem dL_law_425 : decode cL_law 425 = .ok (.ireturn, 1) := by decide +kernel
theorem dL_law_426 : decode cL_law 426 = .ok (.aload_n 1, 1) := by decide +kernel
theorem dL_law_427 : decode cL_law 427 = .ok (.aload_n 0, 1) := by decide +kernel
theorem dL_law_428 : decode cL_law 428 = .ok (.iload_n 3, 1) := by decide +kernel
theorem dL_law_429 : decode cL_law 429 = .ok (.iconst 1, 1) := by decide +kernel
theorem dL_law_430 : decode cL_law 430 = .ok (.iadd, 1) := by decide +kernel
theorem dL_law_431 : decode cL_law 431 = .ok (.iaload, 1) := by decide +kernel
theorem dL_law_432 : decode cL_law 432 = .ok (.aload_n 0, 1) := by decide +kernel
theorem dL_law_433 : decode cL_law 433 = .ok (.iload_n 3, 1) := by decide +kernel
theorem dL_law_434 : decode cL_law 434 = .ok (.iconst 2, 1) := by decide +kernel
theorem dL_law_435 : decode cL_law 435 = .ok (.iadd, 1) := by decide +kernel
theorem dL_law_436 : decode cL_law 436 = .ok (.iaload, 1) := by decide +kernel
theorem dL_law_437 : decode cL_law 437 = .ok (.invokevirtual 48, 3) := by decide +kernel
theorem dL_law_440 : decode cL_law 440 = .ok (.aload_n 2, 1) := by decide +kernel
theorem dL_law_441 : decode cL_law 441 = .ok (.aload_n 0, 1) := by decide +kernel
theorem dL_law_442 : decode cL_law 442 = .ok (.iload_n 3, 1) := by decide +kernel
theorem dL_law_443 : decode cL_law 443 = .ok (.iconst 1, 1) := by decide +kernel
theorem dL_law_444 : decode cL_law 444 = .ok (.iadd, 1) := by decide +kernel
theorem dL_law_445 : decode cL_law 445 = .ok (.iaload, 1) := by decide +kernel
theorem dL_law_446 : decode cL_law 446 = .ok (.aload_n 0, 1) := by decide +kernel
theorem dL_law_447 : decode cL_law 447 = .ok (.iload_n 3, 1) := by decide +kernel
theorem dL_law_448 : decode cL_law 448 = .ok (.iconst 2, 1) := by decide +kernel
theorem dL_law_449 : decode cL_law 449 = .ok (.iadd, 1) := by decide +kernel
theorem dL_law_450 : decode cL_law 450 = .ok (.iaload, 1) := by decide +kernel
theorem dL_law_451 : decode cL_law 451 = .ok (.invokevirtual 51, 3) := by decide +kernel
theorem dL_law_454 : decode cL_law 454 = .ok (.if_icmp .eq 683, 3) := by decide +kernel
theorem dL_law_457 : decode cL_law 457 = .ok (.iconst 0, 1) := by decide +kernel
theorem dL_law_458 : decode cL_law 458 = .ok (.ireturn, 1) := by decide +kernel
theorem dL_law_459 : decode cL_law 459 = .ok (.aload_n 1, 1) := by decide +kernel
theorem dL_law_460 : decode cL_law 460 = .ok (.invokevirtual 52, 3) := by decide +kernel
theorem dL_law_463 : decode cL_law 463 = .ok (.aload_n 2, 1) := by decide +kernel
theorem dL_law_464 : decode cL_law 464 = .ok (.invokevirtual 56, 3) := by decide +kernel
theorem dL_law_467 : decode cL_law 467 = .ok (.if_icmp .eq 670, 3) := by decide +kernel
theorem dL_law_470 : decode cL_law 470 = .ok (.iconst 0, 1) := by decide +kernel
theorem dL_law_471 : decode cL_law 471 = .ok (.ireturn, 1) := by decide +kernel
theorem dL_law_472 : decode cL_law 472 = .ok (.aload_n 1, 1) := by decide +kernel
theorem dL_law_473 : decode cL_law 473 = .ok (.aload_n 0, 1) := by decide +kernel
theorem dL_law_474 : decode cL_law 474 = .ok (.iload_n 3, 1) := by decide +kernel
theorem dL_law_475 : decode cL_law 475 = .ok (.iconst 1, 1) := by decide +kernel
theorem dL_law_476 : decode cL_law 476 = .ok (.iadd, 1) := by decide +kernel
theorem dL_law_477 : decode cL_law 477 = .ok (.iaload, 1) := by decide +kernel
theorem dL_law_478 : decode cL_law 478 = .ok (.aload_n 0, 1) := by decide +kernel
theorem dL_law_479 : decode cL_law 479 = .ok (.iload_n 3, 1) := by decide +kernel
theorem dL_law_480 : decode cL_law 480 = .ok (.iconst 2, 1) := by decide +kernel
theorem dL_law_481 : decode cL_law 481 = .ok (.iadd, 1) := by decide +kernel
theorem dL_law_482 : decode cL_law 482 = .ok (.iaload, 1) := by decide +kernel
theorem dL_law_483 : decode cL_law 483 = .ok (.aload_n 0, 1) := by decide +kernel
