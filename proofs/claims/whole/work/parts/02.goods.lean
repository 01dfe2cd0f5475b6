set_option maxRecDepth 20000 in
theorem ggX0_bestAhead_J6_bitCount_0f7a4 : GoodIn wsX0_bestAhead wsJ6_bitCount_0f7a4 := goodIn_r _ [7, 8, 9, 10] (by decide +kernel) (by decide +kernel)
set_option maxRecDepth 20000 in
theorem gX0_bestAhead_J6_bitCount_0f7a4 : GoodIn wsX0_bestAhead (va_wsS RX0 27 yJ6_bitCount_0f7a4 wsJ6_bitCount_0f7a4) := goodIn_app (goodIn_of _ (by decide +kernel)) ggX0_bestAhead_J6_bitCount_0f7a4
set_option maxRecDepth 20000 in
theorem ggX0_bestAhead_X0_gainBehind : GoodIn wsX0_bestAhead wsX0_gainBehind := goodIn_r _ [15, 1, 2, 3, 16, 17, 18, 19, 20, 21, 22, 23, 24, 25, 26, 27, 28, 29, 30, 31, 32, 33, 34, 35, 36, 37, 38, 5, 6, 7, 8, 9, 10, 39, 40, 41, 42, 43, 44, 45, 46, 47, 48, 49, 50, 51, 52, 53, 54, 55, 56, 57, 58, 59, 60] (by decide +kernel) (by decide +kernel)
set_option maxRecDepth 20000 in
theorem gX0_bestAhead_X0_gainBehind : GoodIn wsX0_bestAhead (wsV RX0 33 RX0 yX0_gainBehind wsX0_gainBehind) := goodIn_app (goodIn_of _ (by decide +kernel)) ggX0_bestAhead_X0_gainBehind
set_option maxRecDepth 20000 in
theorem ggX0_gainBehind_X9_has : GoodIn wsX0_gainBehind wsX9_has := goodIn_r _ [7, 8, 9, 6, 10] (by decide +kernel) (by decide +kernel)
set_option maxRecDepth 20000 in
theorem gX0_gainBehind_X9_has_n37 : GoodIn wsX0_gainBehind (wsX9_has) := ggX0_gainBehind_X9_has
set_option maxRecDepth 20000 in
theorem ggX0_gainBehind_X3_othersOf : GoodIn wsX0_gainBehind wsX3_othersOf := goodIn_r _ [15, 16, 17, 18, 6, 19, 20, 21, 22, 23, 24, 25, 9, 10, 26, 27, 28, 29, 30, 31, 32, 49, 50, 51, 52, 53, 54] (by decide +kernel) (by decide +kernel)
set_option maxRecDepth 20000 in
theorem gX0_gainBehind_X3_othersOf : GoodIn wsX0_gainBehind (wsV RX0 41 RX3 yX3_othersOf wsX3_othersOf) := goodIn_app (goodIn_of _ (by decide +kernel)) ggX0_gainBehind_X3_othersOf
set_option maxRecDepth 20000 in
theorem ggX0_gainBehind_X9_bit : GoodIn wsX0_gainBehind wsX9_bit := goodIn_r _ [10] (by decide +kernel) (by decide +kernel)
set_option maxRecDepth 20000 in
theorem gX0_gainBehind_X9_bit_n45 : GoodIn wsX0_gainBehind (wsX9_bit) := ggX0_gainBehind_X9_bit
set_option maxRecDepth 20000 in
theorem ggX0_gainBehind_X3_wants : GoodIn wsX0_gainBehind wsX3_wants := goodIn_r _ [36, 37, 12, 13, 14, 15, 16, 17, 18, 6, 19, 20, 21, 22, 23, 24, 25, 9, 10, 26, 27, 28, 29, 30, 31, 32, 38, 39, 40, 41, 42, 43, 49, 50, 51, 52, 53, 54] (by decide +kernel) (by decide +kernel)
set_option maxRecDepth 20000 in
theorem gX0_gainBehind_X3_wants : GoodIn wsX0_gainBehind (wsV RX0 51 RX3 yX3_wants wsX3_wants) := goodIn_app (goodIn_of _ (by decide +kernel)) ggX0_gainBehind_X3_wants
set_option maxRecDepth 20000 in
theorem ggX0_gainBehind_X3_valueTo : GoodIn wsX0_gainBehind wsX3_valueTo := goodIn_r _ [47, 37, 12, 13, 14, 15, 16, 17, 18, 6, 19, 20, 21, 22, 23, 24, 25, 9, 10, 26, 27, 28, 29, 30, 31, 32, 38, 39, 40, 41, 42, 43, 49, 50, 51, 52, 53, 54] (by decide +kernel) (by decide +kernel)
set_option maxRecDepth 20000 in
theorem gX0_gainBehind_X3_valueTo : GoodIn wsX0_gainBehind (wsV RX0 55 RX3 yX3_valueTo wsX3_valueTo) := goodIn_app (goodIn_of _ (by decide +kernel)) ggX0_gainBehind_X3_valueTo
set_option maxRecDepth 20000 in
theorem ggX0_leastBurnt_J6_bitCount_0f7a4 : GoodIn wsX0_leastBurnt wsJ6_bitCount_0f7a4 := goodIn_r _ [7, 8, 9, 10] (by decide +kernel) (by decide +kernel)
set_option maxRecDepth 20000 in
theorem gX0_leastBurnt_J6_bitCount_0f7a4 : GoodIn wsX0_leastBurnt (va_wsS RX0 27 yJ6_bitCount_0f7a4 wsJ6_bitCount_0f7a4) := goodIn_app (goodIn_of _ (by decide +kernel)) ggX0_leastBurnt_J6_bitCount_0f7a4
set_option maxRecDepth 20000 in
theorem ggX0_leastBurnt_X3_wants : GoodIn wsX0_leastBurnt wsX3_wants := goodIn_r _ [15, 16, 17, 18, 14, 19, 20, 21, 22, 23, 24, 25, 26, 27, 28, 29, 30, 31, 32, 33, 5, 6, 7, 8, 9, 10, 34, 35, 36, 37, 38, 39, 41, 42, 43, 44, 45, 46] (by decide +kernel) (by decide +kernel)
set_option maxRecDepth 20000 in
theorem gX0_leastBurnt_X3_wants : GoodIn wsX0_leastBurnt (wsV RX0 51 RX3 yX3_wants wsX3_wants) := goodIn_app (goodIn_of _ (by decide +kernel)) ggX0_leastBurnt_X3_wants
set_option maxRecDepth 20000 in
theorem ggX0_bestPair_X9_has : GoodIn wsX0_bestPair wsX9_has := goodIn_r _ [6, 7, 8, 5, 9] (by decide +kernel) (by decide +kernel)
set_option maxRecDepth 20000 in
theorem gX0_bestPair_X9_has_n37 : GoodIn wsX0_bestPair (wsX9_has) := ggX0_bestPair_X9_has
set_option maxRecDepth 20000 in
theorem ggX0_bestPair_X0_gainTogether : GoodIn wsX0_bestPair wsX0_gainTogether := goodIn_r _ [14, 1, 2, 15, 16, 17, 18, 19, 20, 21, 22, 23, 5, 24, 25, 26, 27, 28, 29, 30, 8, 9, 31, 32, 33, 34, 35, 36, 37, 38, 39, 40, 41, 42, 43, 44, 45, 46, 47, 48, 49, 50] (by decide +kernel) (by decide +kernel)
set_option maxRecDepth 20000 in
theorem gX0_bestPair_X0_gainTogether : GoodIn wsX0_bestPair (wsV RX0 58 RX0 yX0_gainTogether wsX0_gainTogether) := goodIn_app (goodIn_of _ (by decide +kernel)) ggX0_bestPair_X0_gainTogether
set_option maxRecDepth 20000 in
theorem ggX0_gainTogether_X3_othersOf : GoodIn wsX0_gainTogether wsX3_othersOf := goodIn_r _ [8, 9, 10, 11, 12, 13, 14, 15, 16, 17, 18, 19, 20, 21, 22, 23, 24, 25, 26, 27, 28, 36, 37, 38, 39, 40, 41] (by decide +kernel) (by decide +kernel)
set_option maxRecDepth 20000 in
theorem gX0_gainTogether_X3_othersOf : GoodIn wsX0_gainTogether (wsV RX0 41 RX3 yX3_othersOf wsX3_othersOf) := goodIn_app (goodIn_of _ (by decide +kernel)) ggX0_gainTogether_X3_othersOf
set_option maxRecDepth 20000 in
theorem ggX0_gainTogether_X3_valueWith : GoodIn wsX0_gainTogether wsX3_valueWith := goodIn_r _ [32, 10, 14, 15, 16, 17, 18, 19, 33, 12, 34, 36, 37, 38, 39, 40, 41] (by decide +kernel) (by decide +kernel)
set_option maxRecDepth 20000 in
theorem gX0_gainTogether_X3_valueWith : GoodIn wsX0_gainTogether (wsV RX0 61 RX3 yX3_valueWith wsX3_valueWith) := goodIn_app (goodIn_of _ (by decide +kernel)) ggX0_gainTogether_X3_valueWith
set_option maxRecDepth 20000 in
theorem ggX1_ownersBehind_X3_nextOwners : GoodIn wsX1_ownersBehind wsX3_nextOwners := goodIn_r _ [8, 9, 10, 11, 12, 13, 7, 14, 15, 16, 17, 18, 19, 20, 21, 22, 23, 24, 25, 26, 27, 28, 29, 30, 31, 32, 33, 34, 35, 36, 37, 38, 39, 40, 41, 42, 43, 44, 45, 46, 49, 50, 51, 52, 53, 54] (by decide +kernel) (by decide +kernel)
set_option maxRecDepth 20000 in
theorem gX1_ownersBehind_X3_nextOwners : GoodIn wsX1_ownersBehind (wsV RX1 31 RX3 yX3_nextOwners wsX3_nextOwners) := goodIn_app (goodIn_of _ (by decide +kernel)) ggX1_ownersBehind_X3_nextOwners
set_option maxRecDepth 20000 in
theorem ggX1_roundsToRest_X3_nextOwners : GoodIn wsX1_roundsToRest wsX3_nextOwners := goodIn_r _ [8, 9, 10, 11, 12, 13, 7, 14, 15, 16, 17, 18, 19, 20, 21, 22, 23, 24, 25, 26, 27, 28, 29, 30, 31, 32, 33, 34, 35, 36, 37, 38, 39, 40, 41, 42, 43, 44, 45, 46, 49, 50, 51, 52, 53, 54] (by decide +kernel) (by decide +kernel)
set_option maxRecDepth 20000 in
theorem gX1_roundsToRest_X3_nextOwners : GoodIn wsX1_roundsToRest (wsV RX1 31 RX3 yX3_nextOwners wsX3_nextOwners) := goodIn_app (goodIn_of _ (by decide +kernel)) ggX1_roundsToRest_X3_nextOwners
set_option maxRecDepth 20000 in
theorem ggX1_roundsOfSwing_X1_ownersBehind : GoodIn wsX1_roundsOfSwing wsX1_ownersBehind := goodIn_r _ [8, 1, 2, 3, 9, 10, 11, 12, 13, 14, 15, 16, 17, 18, 19, 20, 21, 22, 23, 24, 25, 26, 27, 28, 29, 30, 31, 32, 33, 34, 35, 36, 37, 38, 39, 40, 41, 42, 43, 44, 45, 46, 47, 48, 49, 50, 51, 52, 53, 54, 55, 56, 57, 58, 59] (by decide +kernel) (by decide +kernel)
set_option maxRecDepth 20000 in
theorem gX1_roundsOfSwing_X1_ownersBehind : GoodIn wsX1_roundsOfSwing (wsV RX1 35 RX1 yX1_ownersBehind wsX1_ownersBehind) := goodIn_app (goodIn_of _ (by decide +kernel)) ggX1_roundsOfSwing_X1_ownersBehind
set_option maxRecDepth 20000 in
theorem ggX1_roundsOfSwing_X3_nextOwners : GoodIn wsX1_roundsOfSwing wsX3_nextOwners := goodIn_r _ [13, 14, 15, 16, 17, 18, 12, 19, 20, 21, 22, 23, 24, 25, 26, 27, 28, 29, 30, 31, 32, 33, 34, 35, 36, 37, 38, 39, 40, 41, 42, 43, 44, 45, 46, 47, 48, 49, 50, 51, 54, 55, 56, 57, 58, 59] (by decide +kernel) (by decide +kernel)
set_option maxRecDepth 20000 in
theorem gX1_roundsOfSwing_X3_nextOwners : GoodIn wsX1_roundsOfSwing (wsV RX1 31 RX3 yX3_nextOwners wsX3_nextOwners) := goodIn_app (goodIn_of _ (by decide +kernel)) ggX1_roundsOfSwing_X3_nextOwners
set_option maxRecDepth 20000 in
theorem ggX1_restsWith_X3_changersBy : GoodIn wsX1_restsWith wsX3_changersBy := goodIn_r _ [8, 9, 10, 11, 12, 13, 7, 14, 15, 16, 17, 18, 19, 20, 21, 22, 23, 24, 25, 26, 27, 28, 29, 30, 31, 32, 33, 34, 35, 36, 37, 38, 39, 40, 41, 42, 43, 44, 45, 46, 49, 50, 51, 52, 53, 54] (by decide +kernel) (by decide +kernel)
set_option maxRecDepth 20000 in
theorem gX1_restsWith_X3_changersBy : GoodIn wsX1_restsWith (wsV RX1 39 RX3 yX3_changersBy wsX3_changersBy) := goodIn_app (goodIn_of _ (by decide +kernel)) ggX1_restsWith_X3_changersBy
set_option maxRecDepth 20000 in
theorem ggX1_countRests_X4_sets : GoodIn wsX1_countRests wsX4_sets := goodIn_r _ [7, 8, 61, 62, 63, 64] (by decide +kernel) (by decide +kernel)
set_option maxRecDepth 20000 in
theorem gX1_countRests_X4_sets : GoodIn wsX1_countRests (wsV RX1 43 RX4 yX4_sets wsX4_sets) := goodIn_app (goodIn_of _ (by decide +kernel)) ggX1_countRests_X4_sets
set_option maxRecDepth 20000 in
theorem ggX1_countRests_X1_restsWith : GoodIn wsX1_countRests wsX1_restsWith := goodIn_r _ [13, 1, 2, 14, 15, 16, 17, 18, 19, 20, 21, 22, 23, 24, 25, 26, 27, 28, 29, 30, 31, 32, 33, 34, 35, 36, 6, 37, 38, 39, 40, 41, 42, 43, 44, 45, 46, 47, 48, 49, 50, 51, 52, 53, 54, 55, 56, 57, 58, 59, 60, 61, 62, 63, 64] (by decide +kernel) (by decide +kernel)
set_option maxRecDepth 20000 in
theorem gX1_countRests_X1_restsWith : GoodIn wsX1_countRests (wsV RX1 47 RX1 yX1_restsWith wsX1_restsWith) := goodIn_app (goodIn_of _ (by decide +kernel)) ggX1_countRests_X1_restsWith
set_option maxRecDepth 20000 in
theorem ggX1_restAt_X4_sets : GoodIn wsX1_restAt wsX4_sets := goodIn_r _ [7, 8, 61, 62, 63, 64] (by decide +kernel) (by decide +kernel)
set_option maxRecDepth 20000 in
theorem gX1_restAt_X4_sets : GoodIn wsX1_restAt (wsV RX1 43 RX4 yX4_sets wsX4_sets) := goodIn_app (goodIn_of _ (by decide +kernel)) ggX1_restAt_X4_sets
set_option maxRecDepth 20000 in
theorem ggX1_restAt_X1_restsWith : GoodIn wsX1_restAt wsX1_restsWith := goodIn_r _ [13, 1, 2, 14, 15, 16, 17, 18, 19, 20, 21, 22, 23, 24, 25, 26, 27, 28, 29, 30, 31, 32, 33, 34, 35, 36, 6, 37, 38, 39, 40, 41, 42, 43, 44, 45, 46, 47, 48, 49, 50, 51, 52, 53, 54, 55, 56, 57, 58, 59, 60, 61, 62, 63, 64] (by decide +kernel) (by decide +kernel)
set_option maxRecDepth 20000 in
theorem gX1_restAt_X1_restsWith : GoodIn wsX1_restAt (wsV RX1 47 RX1 yX1_restsWith wsX1_restsWith) := goodIn_app (goodIn_of _ (by decide +kernel)) ggX1_restAt_X1_restsWith
set_option maxRecDepth 20000 in
theorem ggX1_leastPush_X1_restsWith : GoodIn wsX1_leastPush wsX1_restsWith := goodIn_r _ [8, 1, 2, 9, 10, 11, 12, 13, 14, 15, 16, 17, 18, 19, 20, 21, 22, 23, 24, 25, 26, 27, 28, 29, 30, 31, 32, 33, 34, 35, 36, 37, 38, 39, 40, 41, 42, 43, 44, 45, 46, 47, 48, 49, 50, 51, 52, 69, 70, 71, 72, 73, 74, 75, 76] (by decide +kernel) (by decide +kernel)
set_option maxRecDepth 20000 in
theorem gX1_leastPush_X1_restsWith : GoodIn wsX1_leastPush (wsV RX1 47 RX1 yX1_restsWith wsX1_restsWith) := goodIn_app (goodIn_of _ (by decide +kernel)) ggX1_leastPush_X1_restsWith
set_option maxRecDepth 20000 in
theorem ggX1_leastPush_X1_lookFarAhead : GoodIn wsX1_leastPush wsX1_lookFarAhead := goodIn_r _ [56, 1, 2, 9, 3, 57, 58, 59, 32, 60, 61, 62, 63, 64, 13, 65, 15, 16, 17, 18, 19, 20, 21, 22, 23, 24, 25, 26, 27, 28, 29, 30, 31, 33, 34, 35, 36, 37, 38, 39, 40, 41, 42, 43, 44, 45, 46, 47, 48, 49, 50, 51, 52, 66, 67, 69, 70, 71, 72, 73, 74, 75, 76] (by decide +kernel) (by decide +kernel)
set_option maxRecDepth 20000 in
theorem gX1_leastPush_X1_lookFarAhead : GoodIn wsX1_leastPush (wsV RX1 51 RX1 yX1_lookFarAhead wsX1_lookFarAhead) := goodIn_app (goodIn_of _ (by decide +kernel)) ggX1_leastPush_X1_lookFarAhead
set_option maxRecDepth 20000 in
theorem ggX1_leastPush_X4_sets : GoodIn wsX1_leastPush wsX4_sets := goodIn_r _ [60, 61, 73, 74, 75, 76] (by decide +kernel) (by decide +kernel)
set_option maxRecDepth 20000 in
theorem gX1_leastPush_X4_sets : GoodIn wsX1_leastPush (wsV RX1 43 RX4 yX4_sets wsX4_sets) := goodIn_app (goodIn_of _ (by decide +kernel)) ggX1_leastPush_X4_sets
set_option maxRecDepth 20000 in
theorem ggX1_leastPush_J6_bitCount_0f7a4 : GoodIn wsX1_leastPush wsJ6_bitCount_0f7a4 := goodIn_r _ [40, 41, 42, 43] (by decide +kernel) (by decide +kernel)
set_option maxRecDepth 20000 in
theorem gX1_leastPush_J6_bitCount_0f7a4 : GoodIn wsX1_leastPush (va_wsS RX1 55 yJ6_bitCount_0f7a4 wsJ6_bitCount_0f7a4) := goodIn_app (goodIn_of _ (by decide +kernel)) ggX1_leastPush_J6_bitCount_0f7a4
set_option maxRecDepth 20000 in
theorem ggX1_leastPush_X9_at : GoodIn wsX1_leastPush wsX9_at := goodIn_r _ [28] (by decide +kernel) (by decide +kernel)
set_option maxRecDepth 20000 in
theorem gX1_leastPush_X9_at_n61 : GoodIn wsX1_leastPush (wsX9_at) := ggX1_leastPush_X9_at
set_option maxRecDepth 20000 in
theorem ggX1_lookFarAhead_X4_sets : GoodIn wsX1_lookFarAhead wsX4_sets := goodIn_r _ [9, 10, 59, 60, 61, 62] (by decide +kernel) (by decide +kernel)
set_option maxRecDepth 20000 in
theorem gX1_lookFarAhead_X4_sets : GoodIn wsX1_lookFarAhead (wsV RX1 43 RX4 yX4_sets wsX4_sets) := goodIn_app (goodIn_of _ (by decide +kernel)) ggX1_lookFarAhead_X4_sets
set_option maxRecDepth 20000 in
theorem ggX1_lookFarAhead_X3_nextOwners : GoodIn wsX1_lookFarAhead wsX3_nextOwners := goodIn_r _ [15, 16, 17, 18, 19, 20, 14, 21, 22, 23, 24, 25, 26, 27, 28, 29, 30, 31, 32, 8, 33, 34, 35, 36, 37, 38, 39, 40, 41, 42, 43, 44, 45, 46, 47, 48, 49, 50, 51, 52, 57, 58, 59, 60, 61, 62] (by decide +kernel) (by decide +kernel)
set_option maxRecDepth 20000 in
theorem gX1_lookFarAhead_X3_nextOwners : GoodIn wsX1_lookFarAhead (wsV RX1 31 RX3 yX3_nextOwners wsX3_nextOwners) := goodIn_app (goodIn_of _ (by decide +kernel)) ggX1_lookFarAhead_X3_nextOwners
set_option maxRecDepth 20000 in
theorem ggX1_lookFarAhead_X9_put : GoodIn wsX1_lookFarAhead wsX9_put := goodIn_r _ [54] (by decide +kernel) (by decide +kernel)
set_option maxRecDepth 20000 in
theorem gX1_lookFarAhead_X9_put_n65 : GoodIn wsX1_lookFarAhead (wsX9_put) := ggX1_lookFarAhead_X9_put
set_option maxRecDepth 20000 in
theorem ggX1_lookFarAhead_X9_at : GoodIn wsX1_lookFarAhead wsX9_at := goodIn_r _ [29] (by decide +kernel) (by decide +kernel)
set_option maxRecDepth 20000 in
theorem gX1_lookFarAhead_X9_at_n61 : GoodIn wsX1_lookFarAhead (wsX9_at) := ggX1_lookFarAhead_X9_at
set_option maxRecDepth 20000 in
theorem ggX1_ownersBehindYear_X1_seasonOn : GoodIn wsX1_ownersBehindYear wsX1_seasonOn := goodIn_r _ [5, 6, 7, 8, 9] (by decide +kernel) (by decide +kernel)
set_option maxRecDepth 20000 in
theorem gX1_ownersBehindYear_X1_seasonOn : GoodIn wsX1_ownersBehindYear (va_wsS RX1 69 yX1_seasonOn wsX1_seasonOn) := goodIn_app (goodIn_of _ (by decide +kernel)) ggX1_ownersBehindYear_X1_seasonOn
set_option maxRecDepth 20000 in
theorem ggX1_ownersBehindYear_X3_nextOwners : GoodIn wsX1_ownersBehindYear wsX3_nextOwners := goodIn_r _ [14, 15, 16, 17, 18, 19, 13, 20, 21, 22, 23, 24, 25, 26, 27, 28, 29, 30, 31, 32, 33, 34, 35, 36, 37, 38, 39, 40, 41, 42, 43, 44, 45, 46, 47, 48, 49, 50, 51, 52, 56, 57, 58, 59, 60, 61] (by decide +kernel) (by decide +kernel)
set_option maxRecDepth 20000 in
theorem gX1_ownersBehindYear_X3_nextOwners : GoodIn wsX1_ownersBehindYear (wsV RX1 31 RX3 yX3_nextOwners wsX3_nextOwners) := goodIn_app (goodIn_of _ (by decide +kernel)) ggX1_ownersBehindYear_X3_nextOwners
set_option maxRecDepth 20000 in
theorem ggX1_ownersBehindYear_J6_bitCount_0f7a4 : GoodIn wsX1_ownersBehindYear wsJ6_bitCount_0f7a4 := goodIn_r _ [40, 41, 42, 43] (by decide +kernel) (by decide +kernel)
set_option maxRecDepth 20000 in
theorem gX1_ownersBehindYear_J6_bitCount_0f7a4 : GoodIn wsX1_ownersBehindYear (va_wsS RX1 55 yJ6_bitCount_0f7a4 wsJ6_bitCount_0f7a4) := goodIn_app (goodIn_of _ (by decide +kernel)) ggX1_ownersBehindYear_J6_bitCount_0f7a4
set_option maxRecDepth 20000 in
theorem ggX1_bestDay_X1_seasonOn : GoodIn wsX1_bestDay wsX1_seasonOn := goodIn_r _ [5, 6, 7, 8, 9] (by decide +kernel) (by decide +kernel)
set_option maxRecDepth 20000 in
theorem gX1_bestDay_X1_seasonOn : GoodIn wsX1_bestDay (va_wsS RX1 69 yX1_seasonOn wsX1_seasonOn) := goodIn_app (goodIn_of _ (by decide +kernel)) ggX1_bestDay_X1_seasonOn
set_option maxRecDepth 20000 in
theorem ggX1_bestDay_X3_nextOwners : GoodIn wsX1_bestDay wsX3_nextOwners := goodIn_r _ [14, 15, 16, 17, 18, 19, 13, 20, 21, 22, 23, 24, 25, 26, 27, 28, 29, 30, 31, 32, 33, 34, 35, 36, 37, 38, 39, 40, 41, 42, 43, 44, 45, 46, 47, 48, 49, 50, 51, 52, 56, 57, 58, 59, 60, 61] (by decide +kernel) (by decide +kernel)
set_option maxRecDepth 20000 in
theorem gX1_bestDay_X3_nextOwners : GoodIn wsX1_bestDay (wsV RX1 31 RX3 yX3_nextOwners wsX3_nextOwners) := goodIn_app (goodIn_of _ (by decide +kernel)) ggX1_bestDay_X3_nextOwners
set_option maxRecDepth 20000 in
theorem ggX1_bestDay_J6_bitCount_0f7a4 : GoodIn wsX1_bestDay wsJ6_bitCount_0f7a4 := goodIn_r _ [40, 41, 42, 43] (by decide +kernel) (by decide +kernel)
set_option maxRecDepth 20000 in
theorem gX1_bestDay_J6_bitCount_0f7a4 : GoodIn wsX1_bestDay (va_wsS RX1 55 yJ6_bitCount_0f7a4 wsJ6_bitCount_0f7a4) := goodIn_app (goodIn_of _ (by decide +kernel)) ggX1_bestDay_J6_bitCount_0f7a4
set_option maxRecDepth 20000 in
theorem ggX2_begin_X4_trait : GoodIn wsX2_begin wsX4_trait := goodIn_r _ [8, 9, 13, 14, 15, 16] (by decide +kernel) (by decide +kernel)
set_option maxRecDepth 20000 in
theorem gX2_begin_X4_trait : GoodIn wsX2_begin (wsV RX2 24 RX4 yX4_trait wsX4_trait) := goodIn_app (goodIn_of _ (by decide +kernel)) ggX2_begin_X4_trait
set_option maxRecDepth 20000 in
theorem ggX2_begin_X9_put : GoodIn wsX2_begin wsX9_put := goodIn_r _ [12] (by decide +kernel) (by decide +kernel)
set_option maxRecDepth 20000 in
theorem gX2_begin_X9_put_n28 : GoodIn wsX2_begin (wsX9_put) := ggX2_begin_X9_put
set_option maxRecDepth 20000 in
theorem ggX2_owns_X9_has : GoodIn wsX2_owns wsX9_has := goodIn_r _ [4, 5, 6, 3, 7] (by decide +kernel) (by decide +kernel)
set_option maxRecDepth 20000 in
theorem gX2_owns_X9_has_n32 : GoodIn wsX2_owns (wsX9_has) := ggX2_owns_X9_has
set_option maxRecDepth 20000 in
theorem ggX2_penniesOf_X9_at : GoodIn wsX2_penniesOf wsX9_at := goodIn_r _ [4] (by decide +kernel) (by decide +kernel)
set_option maxRecDepth 20000 in
theorem gX2_penniesOf_X9_at_n36 : GoodIn wsX2_penniesOf (wsX9_at) := ggX2_penniesOf_X9_at
set_option maxRecDepth 20000 in
theorem ggX2_earn_X9_at : GoodIn wsX2_earn wsX9_at := goodIn_r _ [4] (by decide +kernel) (by decide +kernel)
set_option maxRecDepth 20000 in
theorem gX2_earn_X9_at_n36 : GoodIn wsX2_earn (wsX9_at) := ggX2_earn_X9_at
set_option maxRecDepth 20000 in
theorem ggX2_earn_X9_put : GoodIn wsX2_earn wsX9_put := goodIn_r _ [6] (by decide +kernel) (by decide +kernel)
set_option maxRecDepth 20000 in
theorem gX2_earn_X9_put_n28 : GoodIn wsX2_earn (wsX9_put) := ggX2_earn_X9_put
set_option maxRecDepth 20000 in
theorem ggX3_init_X4_init : GoodIn wsX3_init wsX4_init := goodIn_r _ [11, 12, 2, 3, 8, 13, 14, 15, 16, 17, 18, 19, 20] (by decide +kernel) (by decide +kernel)
set_option maxRecDepth 20000 in
theorem gX3_init_X4_init_n11 : GoodIn wsX3_init (wsX4_init) := ggX3_init_X4_init
set_option maxRecDepth 20000 in
theorem ggX3_open_X4_copy : GoodIn wsX3_open wsX4_copy := goodIn_r _ [8, 9, 10, 11, 12, 13, 14, 15, 16, 17, 26, 27, 28, 29] (by decide +kernel) (by decide +kernel)
set_option maxRecDepth 20000 in
theorem gX3_open_X4_copy : GoodIn wsX3_open (wsV RX3 22 RX4 yX4_copy wsX4_copy) := goodIn_app (goodIn_of _ (by decide +kernel)) ggX3_open_X4_copy
set_option maxRecDepth 20000 in
theorem ggX3_open_X4_trait : GoodIn wsX3_open wsX4_trait := goodIn_r _ [21, 9, 26, 27, 28, 29] (by decide +kernel) (by decide +kernel)
set_option maxRecDepth 20000 in
theorem gX3_open_X4_trait : GoodIn wsX3_open (wsV RX3 30 RX4 yX4_trait wsX4_trait) := goodIn_app (goodIn_of _ (by decide +kernel)) ggX3_open_X4_trait
set_option maxRecDepth 20000 in
theorem ggX3_open_X9_bit : GoodIn wsX3_open wsX9_bit := goodIn_r _ [23] (by decide +kernel) (by decide +kernel)
set_option maxRecDepth 20000 in
theorem gX3_open_X9_bit_n34 : GoodIn wsX3_open (wsX9_bit) := ggX3_open_X9_bit
set_option maxRecDepth 20000 in
theorem ggX3_open_X9_at : GoodIn wsX3_open wsX9_at := goodIn_r _ [15] (by decide +kernel) (by decide +kernel)
set_option maxRecDepth 20000 in
theorem gX3_open_X9_at_n38 : GoodIn wsX3_open (wsX9_at) := ggX3_open_X9_at
set_option maxRecDepth 20000 in
theorem ggX3_open_X9_put : GoodIn wsX3_open wsX9_put := goodIn_r _ [17] (by decide +kernel) (by decide +kernel)
set_option maxRecDepth 20000 in
theorem gX3_open_X9_put_n42 : GoodIn wsX3_open (wsX9_put) := ggX3_open_X9_put
set_option maxRecDepth 20000 in
theorem ggX3_othersOf_X9_at : GoodIn wsX3_othersOf wsX9_at := goodIn_r _ [5] (by decide +kernel) (by decide +kernel)
set_option maxRecDepth 20000 in
theorem gX3_othersOf_X9_at_n38 : GoodIn wsX3_othersOf (wsX9_at) := ggX3_othersOf_X9_at
set_option maxRecDepth 20000 in
theorem ggX3_othersOf_X4_trait : GoodIn wsX3_othersOf wsX4_trait := goodIn_r _ [10, 11, 23, 24, 25, 26] (by decide +kernel) (by decide +kernel)
set_option maxRecDepth 20000 in
theorem gX3_othersOf_X4_trait : GoodIn wsX3_othersOf (wsV RX3 30 RX4 yX4_trait wsX4_trait) := goodIn_app (goodIn_of _ (by decide +kernel)) ggX3_othersOf_X4_trait
set_option maxRecDepth 20000 in
theorem ggX3_othersOf_X9_bit : GoodIn wsX3_othersOf wsX9_bit := goodIn_r _ [13] (by decide +kernel) (by decide +kernel)
set_option maxRecDepth 20000 in
theorem gX3_othersOf_X9_bit_n34 : GoodIn wsX3_othersOf (wsX9_bit) := ggX3_othersOf_X9_bit
set_option maxRecDepth 20000 in
theorem ggX3_othersOf_J6_bitCount_0f7a4 : GoodIn wsX3_othersOf wsJ6_bitCount_0f7a4 := goodIn_r _ [17, 18, 19, 20] (by decide +kernel) (by decide +kernel)
set_option maxRecDepth 20000 in
theorem gX3_othersOf_J6_bitCount_0f7a4 : GoodIn wsX3_othersOf (va_wsS RX3 46 yJ6_bitCount_0f7a4 wsJ6_bitCount_0f7a4) := goodIn_app (goodIn_of _ (by decide +kernel)) ggX3_othersOf_J6_bitCount_0f7a4
set_option maxRecDepth 20000 in
theorem ggX3_valueTo_X3_othersOf : GoodIn wsX3_valueTo wsX3_othersOf := goodIn_r _ [5, 6, 7, 8, 9, 10, 11, 12, 13, 14, 15, 16, 17, 18, 19, 20, 21, 22, 23, 24, 25, 32, 33, 34, 35, 36, 37] (by decide +kernel) (by decide +kernel)
set_option maxRecDepth 20000 in
theorem gX3_valueTo_X3_othersOf : GoodIn wsX3_valueTo (wsV RX3 51 RX3 yX3_othersOf wsX3_othersOf) := goodIn_app (goodIn_of _ (by decide +kernel)) ggX3_valueTo_X3_othersOf
set_option maxRecDepth 20000 in
theorem ggX3_valueTo_X3_valueWith : GoodIn wsX3_valueTo wsX3_valueWith := goodIn_r _ [29, 7, 11, 12, 13, 14, 15, 16, 30, 9, 31, 32, 33, 34, 35, 36, 37] (by decide +kernel) (by decide +kernel)
set_option maxRecDepth 20000 in
theorem gX3_valueTo_X3_valueWith : GoodIn wsX3_valueTo (wsV RX3 54 RX3 yX3_valueWith wsX3_valueWith) := goodIn_app (goodIn_of _ (by decide +kernel)) ggX3_valueTo_X3_valueWith
set_option maxRecDepth 20000 in
theorem ggX3_valueWith_X4_trait : GoodIn wsX3_valueWith wsX4_trait := goodIn_r _ [6, 7, 13, 14, 15, 16] (by decide +kernel) (by decide +kernel)
set_option maxRecDepth 20000 in
theorem gX3_valueWith_X4_trait : GoodIn wsX3_valueWith (wsV RX3 30 RX4 yX4_trait wsX4_trait) := goodIn_app (goodIn_of _ (by decide +kernel)) ggX3_valueWith_X4_trait
set_option maxRecDepth 20000 in
theorem ggX3_valueWith_X9_valueOf : GoodIn wsX3_valueWith wsX9_valueOf := goodIn_r _ [10] (by decide +kernel) (by decide +kernel)
set_option maxRecDepth 20000 in
theorem gX3_valueWith_X9_valueOf_n58 : GoodIn wsX3_valueWith (wsX9_valueOf) := ggX3_valueWith_X9_valueOf
set_option maxRecDepth 20000 in
theorem ggX3_wants_X3_othersOf : GoodIn wsX3_wants wsX3_othersOf := goodIn_r _ [5, 6, 7, 8, 9, 10, 11, 12, 13, 14, 15, 16, 17, 18, 19, 20, 21, 22, 23, 24, 25, 32, 33, 34, 35, 36, 37] (by decide +kernel) (by decide +kernel)
set_option maxRecDepth 20000 in
theorem gX3_wants_X3_othersOf : GoodIn wsX3_wants (wsV RX3 51 RX3 yX3_othersOf wsX3_othersOf) := goodIn_app (goodIn_of _ (by decide +kernel)) ggX3_wants_X3_othersOf
set_option maxRecDepth 20000 in
theorem ggX3_wants_X3_valueWith : GoodIn wsX3_wants wsX3_valueWith := goodIn_r _ [29, 7, 11, 12, 13, 14, 15, 16, 30, 9, 31, 32, 33, 34, 35, 36, 37] (by decide +kernel) (by decide +kernel)
set_option maxRecDepth 20000 in
theorem gX3_wants_X3_valueWith : GoodIn wsX3_wants (wsV RX3 54 RX3 yX3_valueWith wsX3_valueWith) := goodIn_app (goodIn_of _ (by decide +kernel)) ggX3_wants_X3_valueWith
set_option maxRecDepth 20000 in
theorem ggX3_changes_X3_othersOf : GoodIn wsX3_changes wsX3_othersOf := goodIn_r _ [5, 6, 7, 8, 9, 10, 11, 12, 13, 14, 15, 16, 17, 18, 19, 20, 21, 22, 23, 24, 25, 35, 36, 37, 38, 39, 40] (by decide +kernel) (by decide +kernel)
set_option maxRecDepth 20000 in
theorem gX3_changes_X3_othersOf : GoodIn wsX3_changes (wsV RX3 51 RX3 yX3_othersOf wsX3_othersOf) := goodIn_app (goodIn_of _ (by decide +kernel)) ggX3_changes_X3_othersOf
set_option maxRecDepth 20000 in
theorem ggX3_changes_X3_valueWith : GoodIn wsX3_changes wsX3_valueWith := goodIn_r _ [29, 7, 11, 12, 13, 14, 15, 16, 30, 9, 31, 35, 36, 37, 38, 39, 40] (by decide +kernel) (by decide +kernel)
set_option maxRecDepth 20000 in
theorem gX3_changes_X3_valueWith : GoodIn wsX3_changes (wsV RX3 54 RX3 yX3_valueWith wsX3_valueWith) := goodIn_app (goodIn_of _ (by decide +kernel)) ggX3_changes_X3_valueWith
set_option maxRecDepth 20000 in
theorem ggX3_changes_X9_has : GoodIn wsX3_changes wsX9_has := goodIn_r _ [33, 34, 17, 9, 18] (by decide +kernel) (by decide +kernel)
set_option maxRecDepth 20000 in
theorem gX3_changes_X9_has_n62 : GoodIn wsX3_changes (wsX9_has) := ggX3_changes_X9_has
set_option maxRecDepth 20000 in
theorem ggX3_changersBy_X3_changes : GoodIn wsX3_changersBy wsX3_changes := goodIn_r _ [7, 8, 9, 10, 6, 11, 12, 1, 13, 14, 15, 16, 17, 18, 19, 20, 21, 22, 23, 24, 25, 26, 27, 28, 29, 30, 31, 32, 33, 34, 35, 36, 37, 38, 39, 40, 41, 42, 43, 44, 45] (by decide +kernel) (by decide +kernel)
set_option maxRecDepth 20000 in
theorem gX3_changersBy_X3_changes : GoodIn wsX3_changersBy (wsV RX3 66 RX3 yX3_changes wsX3_changes) := goodIn_app (goodIn_of _ (by decide +kernel)) ggX3_changersBy_X3_changes
set_option maxRecDepth 20000 in
theorem ggX3_changersBy_X9_bit : GoodIn wsX3_changersBy wsX9_bit := goodIn_r _ [23] (by decide +kernel) (by decide +kernel)
set_option maxRecDepth 20000 in
theorem gX3_changersBy_X9_bit_n34 : GoodIn wsX3_changersBy (wsX9_bit) := ggX3_changersBy_X9_bit
set_option maxRecDepth 20000 in
theorem ggX3_nextOwners_X3_changes : GoodIn wsX3_nextOwners wsX3_changes := goodIn_r _ [7, 8, 9, 10, 6, 11, 12, 1, 13, 14, 15, 16, 17, 18, 19, 20, 21, 22, 23, 24, 25, 26, 27, 28, 29, 30, 31, 32, 33, 34, 35, 36, 37, 38, 39, 40, 41, 42, 43, 44, 45] (by decide +kernel) (by decide +kernel)
set_option maxRecDepth 20000 in
theorem gX3_nextOwners_X3_changes : GoodIn wsX3_nextOwners (wsV RX3 66 RX3 yX3_changes wsX3_changes) := goodIn_app (goodIn_of _ (by decide +kernel)) ggX3_nextOwners_X3_changes
set_option maxRecDepth 20000 in
theorem ggX3_nextOwners_X9_bit : GoodIn wsX3_nextOwners wsX9_bit := goodIn_r _ [23] (by decide +kernel) (by decide +kernel)
set_option maxRecDepth 20000 in
theorem gX3_nextOwners_X9_bit_n34 : GoodIn wsX3_nextOwners (wsX9_bit) := ggX3_nextOwners_X9_bit
set_option maxRecDepth 20000 in
theorem ggX4_add_X9_put : GoodIn wsX4_add wsX9_put := goodIn_r _ [5] (by decide +kernel) (by decide +kernel)
set_option maxRecDepth 20000 in
theorem gX4_add_X9_put_n25 : GoodIn wsX4_add (wsX9_put) := ggX4_add_X9_put
set_option maxRecDepth 20000 in
theorem ggX4_giveOne_X9_bit : GoodIn wsX4_giveOne wsX9_bit := goodIn_r _ [5] (by decide +kernel) (by decide +kernel)
set_option maxRecDepth 20000 in
theorem gX4_giveOne_X9_bit_n29 : GoodIn wsX4_giveOne (wsX9_bit) := ggX4_giveOne_X9_bit
set_option maxRecDepth 20000 in
theorem ggX4_copy_X9_at : GoodIn wsX4_copy wsX9_at := goodIn_r _ [7] (by decide +kernel) (by decide +kernel)
set_option maxRecDepth 20000 in
theorem gX4_copy_X9_at_n33 : GoodIn wsX4_copy (wsX9_at) := ggX4_copy_X9_at
set_option maxRecDepth 20000 in
theorem ggX4_copy_X9_put : GoodIn wsX4_copy wsX9_put := goodIn_r _ [9] (by decide +kernel) (by decide +kernel)
set_option maxRecDepth 20000 in
theorem gX4_copy_X9_put_n25 : GoodIn wsX4_copy (wsX9_put) := ggX4_copy_X9_put
set_option maxRecDepth 20000 in
theorem ggX5_push_X2_penniesOf : GoodIn wsX5_push wsX2_penniesOf := goodIn_r _ [9, 10, 11, 12, 13, 19, 20] (by decide +kernel) (by decide +kernel)
set_option maxRecDepth 20000 in
theorem gX5_push_X2_penniesOf : GoodIn wsX5_push (wsV RX5 22 RX2 yX2_penniesOf wsX2_penniesOf) := goodIn_app (goodIn_of _ (by decide +kernel)) ggX5_push_X2_penniesOf
set_option maxRecDepth 20000 in
theorem ggX5_push_X9_put : GoodIn wsX5_push wsX9_put := goodIn_r _ [15] (by decide +kernel) (by decide +kernel)
set_option maxRecDepth 20000 in
theorem gX5_push_X9_put_n28 : GoodIn wsX5_push (wsX9_put) := ggX5_push_X9_put
set_option maxRecDepth 20000 in
theorem ggX5_pushOverOldest_X9_at : GoodIn wsX5_pushOverOldest wsX9_at := goodIn_r _ [6] (by decide +kernel) (by decide +kernel)
set_option maxRecDepth 20000 in
theorem gX5_pushOverOldest_X9_at_n35 : GoodIn wsX5_pushOverOldest (wsX9_at) := ggX5_pushOverOldest_X9_at
set_option maxRecDepth 20000 in
theorem ggX5_pushOverOldest_X9_put : GoodIn wsX5_pushOverOldest wsX9_put := goodIn_r _ [8] (by decide +kernel) (by decide +kernel)
set_option maxRecDepth 20000 in
theorem gX5_pushOverOldest_X9_put_n28 : GoodIn wsX5_pushOverOldest (wsX9_put) := ggX5_pushOverOldest_X9_put
set_option maxRecDepth 20000 in
theorem ggX5_pushOverOldest_X5_push : GoodIn wsX5_pushOverOldest wsX5_push := goodIn_r _ [13, 1, 2, 3, 14, 15, 16, 17, 18, 19, 20, 4, 5, 6, 7, 8, 21, 22, 23, 24, 25] (by decide +kernel) (by decide +kernel)
set_option maxRecDepth 20000 in
theorem gX5_pushOverOldest_X5_push : GoodIn wsX5_pushOverOldest (wsV RX5 39 RX5 yX5_push wsX5_push) := goodIn_app (goodIn_of _ (by decide +kernel)) ggX5_pushOverOldest_X5_push
set_option maxRecDepth 20000 in
theorem ggX5_popInto_X9_at : GoodIn wsX5_popInto wsX9_at := goodIn_r _ [7] (by decide +kernel) (by decide +kernel)
set_option maxRecDepth 20000 in
theorem gX5_popInto_X9_at_n35 : GoodIn wsX5_popInto (wsX9_at) := ggX5_popInto_X9_at
set_option maxRecDepth 20000 in
theorem ggX5_popInto_X9_put : GoodIn wsX5_popInto wsX9_put := goodIn_r _ [9] (by decide +kernel) (by decide +kernel)
set_option maxRecDepth 20000 in
theorem gX5_popInto_X9_put_n28 : GoodIn wsX5_popInto (wsX9_put) := ggX5_popInto_X9_put
set_option maxRecDepth 20000 in
theorem ggX6_readAll_X4_clear : GoodIn wsX6_readAll wsX4_clear := goodIn_r _ [7, 8, 9, 10, 59, 60, 61, 62] (by decide +kernel) (by decide +kernel)
set_option maxRecDepth 20000 in
theorem gX6_readAll_X4_clear : GoodIn wsX6_readAll (wsV RX6 19 RX4 yX4_clear wsX4_clear) := goodIn_app (goodIn_of _ (by decide +kernel)) ggX6_readAll_X4_clear
set_option maxRecDepth 20000 in
theorem ggX6_readAll_X6_readItem : GoodIn wsX6_readAll wsX6_readItem := goodIn_r _ [15, 1, 16, 17, 18, 19, 20, 21, 22, 23, 24, 25, 26, 14, 27, 28, 29, 30, 31, 32, 33, 34, 35, 36, 37, 38, 39, 40, 41, 42, 6, 43, 8, 44, 45, 46, 47, 48, 9, 49, 50, 51, 52, 53, 54, 10, 55, 56, 57, 58, 59, 60, 61, 62] (by decide +kernel) (by decide +kernel)
set_option maxRecDepth 20000 in
theorem gX6_readAll_X6_readItem : GoodIn wsX6_readAll (wsV RX6 29 RX6 yX6_readItem wsX6_readItem) := goodIn_app (goodIn_of _ (by decide +kernel)) ggX6_readAll_X6_readItem
set_option maxRecDepth 20000 in
theorem ggX6_readItem_X8_byteAt : GoodIn wsX6_readItem wsX8_byteAt := goodIn_r _ [7, 8, 9, 48, 49] (by decide +kernel) (by decide +kernel)
set_option maxRecDepth 20000 in
theorem gX6_readItem_X8_byteAt : GoodIn wsX6_readItem (wsV RX6 33 RX8 yX8_byteAt wsX8_byteAt) := goodIn_app (goodIn_of _ (by decide +kernel)) ggX6_readItem_X8_byteAt
set_option maxRecDepth 20000 in
theorem ggX6_readItem_X6_readNumbers : GoodIn wsX6_readItem wsX6_readNumbers := goodIn_r _ [14, 1, 2, 15, 16, 17, 13, 18, 3, 4, 5, 6, 7, 8, 9, 19, 20, 21, 22, 23, 24, 46, 47, 48, 49] (by decide +kernel) (by decide +kernel)
set_option maxRecDepth 20000 in
theorem gX6_readItem_X6_readNumbers : GoodIn wsX6_readItem (wsV RX6 37 RX6 yX6_readNumbers wsX6_readNumbers) := goodIn_app (goodIn_of _ (by decide +kernel)) ggX6_readItem_X6_readNumbers
set_option maxRecDepth 20000 in
theorem ggX6_readItem_X9_at : GoodIn wsX6_readItem wsX9_at := goodIn_r _ [26] (by decide +kernel) (by decide +kernel)
set_option maxRecDepth 20000 in
theorem gX6_readItem_X9_at_n41 : GoodIn wsX6_readItem (wsX9_at) := ggX6_readItem_X9_at
set_option maxRecDepth 20000 in
theorem ggX6_readItem_X4_add : GoodIn wsX6_readItem wsX4_add := goodIn_r _ [31, 32, 33, 22, 23, 24, 50, 51, 52, 53] (by decide +kernel) (by decide +kernel)
set_option maxRecDepth 20000 in
theorem gX6_readItem_X4_add : GoodIn wsX6_readItem (wsV RX6 45 RX4 yX4_add wsX4_add) := goodIn_app (goodIn_of _ (by decide +kernel)) ggX6_readItem_X4_add
set_option maxRecDepth 20000 in
theorem ggX6_readItem_X4_giveOne : GoodIn wsX6_readItem wsX4_giveOne := goodIn_r _ [37, 32, 38, 39, 23, 40, 50, 51, 52, 53] (by decide +kernel) (by decide +kernel)
set_option maxRecDepth 20000 in
theorem gX6_readItem_X4_giveOne : GoodIn wsX6_readItem (wsV RX6 49 RX4 yX4_giveOne wsX4_giveOne) := goodIn_app (goodIn_of _ (by decide +kernel)) ggX6_readItem_X4_giveOne
set_option maxRecDepth 20000 in
theorem ggX6_readItem_X4_setSeason : GoodIn wsX6_readItem wsX4_setSeason := goodIn_r _ [44, 45, 50, 51, 52, 53] (by decide +kernel) (by decide +kernel)
set_option maxRecDepth 20000 in
theorem gX6_readItem_X4_setSeason : GoodIn wsX6_readItem (wsV RX6 53 RX4 yX4_setSeason wsX4_setSeason) := goodIn_app (goodIn_of _ (by decide +kernel)) ggX6_readItem_X4_setSeason
set_option maxRecDepth 20000 in
theorem ggX6_readNumbers_X6_readNumber : GoodIn wsX6_readNumbers wsX6_readNumber := goodIn_r _ [7, 1, 8, 9, 10, 11, 12, 13, 14, 15, 16, 6, 17, 21, 22, 23, 24] (by decide +kernel) (by decide +kernel)
set_option maxRecDepth 20000 in
theorem gX6_readNumbers_X6_readNumber : GoodIn wsX6_readNumbers (wsV RX6 56 RX6 yX6_readNumber wsX6_readNumber) := goodIn_app (goodIn_of _ (by decide +kernel)) ggX6_readNumbers_X6_readNumber
set_option maxRecDepth 20000 in
theorem ggX6_readNumbers_X8_byteAt : GoodIn wsX6_readNumbers wsX8_byteAt := goodIn_r _ [12, 13, 14, 23, 24] (by decide +kernel) (by decide +kernel)
set_option maxRecDepth 20000 in
theorem gX6_readNumbers_X8_byteAt : GoodIn wsX6_readNumbers (wsV RX6 33 RX8 yX8_byteAt wsX8_byteAt) := goodIn_app (goodIn_of _ (by decide +kernel)) ggX6_readNumbers_X8_byteAt
set_option maxRecDepth 20000 in
theorem ggX6_readNumbers_X9_put : GoodIn wsX6_readNumbers wsX9_put := goodIn_r _ [20] (by decide +kernel) (by decide +kernel)
set_option maxRecDepth 20000 in
theorem gX6_readNumbers_X9_put_n60 : GoodIn wsX6_readNumbers (wsX9_put) := ggX6_readNumbers_X9_put
set_option maxRecDepth 20000 in
theorem ggX6_readNumber_X8_byteAt : GoodIn wsX6_readNumber wsX8_byteAt := goodIn_r _ [6, 7, 8, 15, 16] (by decide +kernel) (by decide +kernel)
set_option maxRecDepth 20000 in
theorem gX6_readNumber_X8_byteAt : GoodIn wsX6_readNumber (wsV RX6 33 RX8 yX8_byteAt wsX8_byteAt) := goodIn_app (goodIn_of _ (by decide +kernel)) ggX6_readNumber_X8_byteAt
set_option maxRecDepth 20000 in
theorem ggX6_readNumber_X6_figure : GoodIn wsX6_readNumber wsX6_figure := goodIn_r _ [12] (by decide +kernel) (by decide +kernel)
set_option maxRecDepth 20000 in
theorem gX6_readNumber_X6_figure : GoodIn wsX6_readNumber (va_wsS RX6 64 yX6_figure wsX6_figure) := goodIn_app (goodIn_of _ (by decide +kernel)) ggX6_readNumber_X6_figure
set_option maxRecDepth 20000 in
theorem ggX7_add_X9_put : GoodIn wsX7_add wsX9_put := goodIn_r _ [7] (by decide +kernel) (by decide +kernel)
set_option maxRecDepth 20000 in
theorem gX7_add_X9_put_n26 : GoodIn wsX7_add (wsX9_put) := ggX7_add_X9_put
set_option maxRecDepth 20000 in
theorem ggX7_fit_X9_at : GoodIn wsX7_fit wsX9_at := goodIn_r _ [7] (by decide +kernel) (by decide +kernel)
set_option maxRecDepth 20000 in
theorem gX7_fit_X9_at_n30 : GoodIn wsX7_fit (wsX9_at) := ggX7_fit_X9_at
set_option maxRecDepth 20000 in
theorem ggX7_fit_X4_trait : GoodIn wsX7_fit wsX4_trait := goodIn_r _ [12, 13, 20, 21, 22, 23] (by decide +kernel) (by decide +kernel)
set_option maxRecDepth 20000 in
theorem gX7_fit_X4_trait : GoodIn wsX7_fit (wsV RX7 34 RX4 yX4_trait wsX4_trait) := goodIn_app (goodIn_of _ (by decide +kernel)) ggX7_fit_X4_trait
set_option maxRecDepth 20000 in
theorem ggX7_fit_X9_valueOf : GoodIn wsX7_fit wsX9_valueOf := goodIn_r _ [15] (by decide +kernel) (by decide +kernel)
set_option maxRecDepth 20000 in
theorem gX7_fit_X9_valueOf_n40 : GoodIn wsX7_fit (wsX9_valueOf) := ggX7_fit_X9_valueOf
set_option maxRecDepth 20000 in
theorem ggX9_init_X8_init : GoodIn wsX9_init wsX8_init := goodIn_r _ [42, 43, 2, 3, 44, 45, 46, 134, 135] (by decide +kernel) (by decide +kernel)
set_option maxRecDepth 20000 in
theorem gX9_init_X8_init_n9 : GoodIn wsX9_init (wsX8_init) := ggX9_init_X8_init
set_option maxRecDepth 20000 in
theorem ggX9_init_X6_init : GoodIn wsX9_init wsX6_init := goodIn_r _ [48, 49, 2, 3, 50, 51, 52, 146, 147] (by decide +kernel) (by decide +kernel)
set_option maxRecDepth 20000 in
theorem gX9_init_X6_init_n18 : GoodIn wsX9_init (wsX6_init) := ggX9_init_X6_init
set_option maxRecDepth 20000 in
theorem ggX9_init_X4_init : GoodIn wsX9_init wsX4_init := goodIn_r _ [54, 55, 2, 3, 50, 56, 57, 58, 59, 148, 149, 150, 151] (by decide +kernel) (by decide +kernel)
set_option maxRecDepth 20000 in
theorem gX9_init_X4_init_n25 : GoodIn wsX9_init (wsX4_init) := ggX9_init_X4_init
set_option maxRecDepth 20000 in
theorem ggX9_init_X3_init : GoodIn wsX9_init wsX3_init := goodIn_r _ [61, 62, 2, 3, 63, 13, 14, 64, 50, 65, 53, 54, 55, 56, 57, 58, 59, 148, 149, 150, 151, 152, 153] (by decide +kernel) (by decide +kernel)
set_option maxRecDepth 20000 in
theorem gX9_init_X3_init_n32 : GoodIn wsX9_init (wsX3_init) := ggX9_init_X3_init
set_option maxRecDepth 20000 in
theorem ggX9_init_X1_init : GoodIn wsX9_init wsX1_init := goodIn_r _ [68, 69, 2, 3, 50, 70, 71, 154, 155] (by decide +kernel) (by decide +kernel)
set_option maxRecDepth 20000 in
theorem gX9_init_X1_init : GoodIn wsX9_init (wsX1_init) := ggX9_init_X1_init
set_option maxRecDepth 20000 in
theorem ggX9_init_X0_init : GoodIn wsX9_init wsX0_init := goodIn_r _ [74, 75, 2, 3, 76, 156] (by decide +kernel) (by decide +kernel)
set_option maxRecDepth 20000 in
theorem gX9_init_X0_init : GoodIn wsX9_init (wsX0_init) := ggX9_init_X0_init
set_option maxRecDepth 20000 in
theorem ggX9_init_X2_init : GoodIn wsX9_init wsX2_init := goodIn_r _ [78, 79, 2, 3, 50, 80, 81, 157, 158] (by decide +kernel) (by decide +kernel)
set_option maxRecDepth 20000 in
theorem gX9_init_X2_init_n55 : GoodIn wsX9_init (wsX2_init) := ggX9_init_X2_init
set_option maxRecDepth 20000 in
theorem ggX9_init_X5_init : GoodIn wsX9_init wsX5_init := goodIn_r _ [84, 85, 2, 3, 86, 87, 50, 88, 159, 160, 161] (by decide +kernel) (by decide +kernel)
set_option maxRecDepth 20000 in
theorem gX9_init_X5_init : GoodIn wsX9_init (wsX5_init) := ggX9_init_X5_init
set_option maxRecDepth 20000 in
theorem ggX9_init_X7_init : GoodIn wsX9_init wsX7_init := goodIn_r _ [90, 91, 2, 3, 50, 92, 93, 94, 95, 96, 162, 163, 164, 165] (by decide +kernel) (by decide +kernel)
set_option maxRecDepth 20000 in
theorem gX9_init_X7_init_n74 : GoodIn wsX9_init (wsX7_init) := ggX9_init_X7_init
set_option maxRecDepth 20000 in
theorem ggX9_init_X4_add : GoodIn wsX9_init wsX4_add := goodIn_r _ [100, 57, 56, 101, 102, 103, 148, 149, 150, 151] (by decide +kernel) (by decide +kernel)
set_option maxRecDepth 20000 in
theorem gX9_init_X4_add : GoodIn wsX9_init (wsV RX9 79 RX4 yX4_add wsX4_add) := goodIn_app (goodIn_of _ (by decide +kernel)) ggX9_init_X4_add
set_option maxRecDepth 20000 in
theorem ggX9_init_X9_settle : GoodIn wsX9_init wsX9_settle := goodIn_r _ [107, 19, 15, 31, 108, 35, 109, 36, 40, 110, 111, 112, 113, 18, 114, 64, 115, 65, 116, 117, 118, 14, 119, 56, 57, 58, 59, 120, 102, 121, 101, 103, 122, 123, 124, 125, 126, 127, 128, 129, 130, 30, 131, 132, 81, 80, 133, 136, 137, 138, 139, 140, 141, 142, 143, 144, 145, 152, 153, 159, 160, 161, 162, 163, 164, 165, 148, 149, 150, 151, 157, 158] (by decide +kernel) (by decide +kernel)
set_option maxRecDepth 20000 in
theorem gX9_init_X9_settle : GoodIn wsX9_init (wsV RX9 83 RX9 yX9_settle wsX9_settle) := goodIn_app (goodIn_of _ (by decide +kernel)) ggX9_init_X9_settle
set_option maxRecDepth 20000 in
theorem ggX9_write_X8_hasRoomFor : GoodIn wsX9_write wsX8_hasRoomFor := goodIn_r _ [7, 8, 24, 25] (by decide +kernel) (by decide +kernel)
set_option maxRecDepth 20000 in
theorem gX9_write_X8_hasRoomFor : GoodIn wsX9_write (wsV RX9 86 RX8 yX8_hasRoomFor wsX8_hasRoomFor) := goodIn_app (goodIn_of _ (by decide +kernel)) ggX9_write_X8_hasRoomFor
set_option maxRecDepth 20000 in
theorem ggX9_write_X8_append : GoodIn wsX9_write wsX8_append := goodIn_r _ [12, 8, 13, 24, 25] (by decide +kernel) (by decide +kernel)
set_option maxRecDepth 20000 in
theorem gX9_write_X8_append : GoodIn wsX9_write (wsV RX9 90 RX8 yX8_append wsX8_append) := goodIn_app (goodIn_of _ (by decide +kernel)) ggX9_write_X8_append
set_option maxRecDepth 20000 in
theorem ggX9_wipe_X8_empty : GoodIn wsX9_wipe wsX8_empty := goodIn_r _ [6, 7, 18, 19] (by decide +kernel) (by decide +kernel)
set_option maxRecDepth 20000 in
theorem gX9_wipe_X8_empty : GoodIn wsX9_wipe (wsV RX9 97 RX8 yX8_empty wsX8_empty) := goodIn_app (goodIn_of _ (by decide +kernel)) ggX9_wipe_X8_empty
set_option maxRecDepth 20000 in
theorem ggX9_fault_X6_readAll : GoodIn wsX9_fault wsX6_readAll := goodIn_r _ [8, 9, 10, 11, 12, 13, 14, 15, 16, 17, 18, 19, 20, 21, 7, 22, 23, 24, 25, 26, 27, 28, 29, 30, 31, 32, 33, 34, 35, 36, 37, 38, 39, 40, 41, 42, 43, 44, 45, 46, 47, 48, 49, 50, 51, 52, 53, 54, 55, 56, 57, 58, 59, 60, 61, 72, 73, 74, 75, 76, 77, 78, 79] (by decide +kernel) (by decide +kernel)
set_option maxRecDepth 20000 in
theorem gX9_fault_X6_readAll : GoodIn wsX9_fault (wsV RX9 101 RX6 yX6_readAll wsX6_readAll) := goodIn_app (goodIn_of _ (by decide +kernel)) ggX9_fault_X6_readAll
set_option maxRecDepth 20000 in
theorem ggX9_lay_X6_readAll : GoodIn wsX9_lay wsX6_readAll := goodIn_r _ [11, 12, 13, 14, 15, 16, 17, 18, 19, 20, 21, 22, 23, 24, 10, 25, 26, 27, 28, 29, 30, 31, 32, 33, 34, 35, 36, 37, 38, 39, 40, 41, 42, 43, 44, 45, 46, 47, 48, 49, 50, 51, 52, 53, 54, 55, 56, 57, 58, 59, 60, 61, 62, 63, 64, 116, 117, 118, 119, 110, 111, 112, 113] (by decide +kernel) (by decide +kernel)
set_option maxRecDepth 20000 in
theorem gX9_lay_X6_readAll : GoodIn wsX9_lay (wsV RX9 101 RX6 yX6_readAll wsX6_readAll) := goodIn_app (goodIn_of _ (by decide +kernel)) ggX9_lay_X6_readAll
set_option maxRecDepth 20000 in
theorem ggX9_lay_X9_settle : GoodIn wsX9_lay wsX9_settle := goodIn_r _ [68, 5, 3, 69, 6, 70, 71, 72, 73, 74, 75, 76, 77, 78, 79, 80, 81, 82, 83, 84, 85, 17, 86, 54, 19, 20, 21, 48, 46, 49, 45, 47, 87, 88, 89, 90, 59, 60, 91, 92, 93, 94, 95, 96, 97, 98, 99, 100, 101, 102, 103, 104, 105, 106, 107, 108, 109, 114, 115, 120, 121, 122, 123, 124, 125, 126, 110, 111, 112, 113, 127, 128] (by decide +kernel) (by decide +kernel)
set_option maxRecDepth 20000 in
theorem gX9_lay_X9_settle : GoodIn wsX9_lay (wsV RX9 83 RX9 yX9_settle wsX9_settle) := goodIn_app (goodIn_of _ (by decide +kernel)) ggX9_lay_X9_settle
set_option maxRecDepth 20000 in
theorem ggX9_person_X9_isPerson : GoodIn wsX9_person wsX9_isPerson := goodIn_r _ [8, 2, 3, 9, 34, 35, 36, 37, 38, 39, 40, 41, 42, 43, 44, 45, 46, 47, 48, 49] (by decide +kernel) (by decide +kernel)
set_option maxRecDepth 20000 in
theorem gX9_person_X9_isPerson : GoodIn wsX9_person (wsV RX9 111 RX9 yX9_isPerson wsX9_isPerson) := goodIn_app (goodIn_of _ (by decide +kernel)) ggX9_person_X9_isPerson
set_option maxRecDepth 20000 in
theorem ggX9_person_X2_penniesOf : GoodIn wsX9_person wsX2_penniesOf := goodIn_r _ [14, 15, 16, 7, 17, 50, 51] (by decide +kernel) (by decide +kernel)
set_option maxRecDepth 20000 in
theorem gX9_person_X2_penniesOf : GoodIn wsX9_person (wsV RX9 114 RX2 yX2_penniesOf wsX2_penniesOf) := goodIn_app (goodIn_of _ (by decide +kernel)) ggX9_person_X2_penniesOf
set_option maxRecDepth 20000 in
theorem ggX9_person_X2_owns : GoodIn wsX9_person wsX2_owns := goodIn_r _ [21, 22, 23, 7, 24, 25, 26, 27, 50, 51] (by decide +kernel) (by decide +kernel)
set_option maxRecDepth 20000 in
theorem gX9_person_X2_owns : GoodIn wsX9_person (wsV RX9 118 RX2 yX2_owns wsX2_owns) := goodIn_app (goodIn_of _ (by decide +kernel)) ggX9_person_X2_owns
set_option maxRecDepth 20000 in
theorem ggX9_person_X4_trait : GoodIn wsX9_person wsX4_trait := goodIn_r _ [32, 33, 46, 47, 48, 49] (by decide +kernel) (by decide +kernel)
set_option maxRecDepth 20000 in
theorem gX9_person_X4_trait : GoodIn wsX9_person (wsV RX9 121 RX4 yX4_trait wsX4_trait) := goodIn_app (goodIn_of _ (by decide +kernel)) ggX9_person_X4_trait
set_option maxRecDepth 20000 in
theorem ggX9_worth_X9_isPerson : GoodIn wsX9_worth wsX9_isPerson := goodIn_r _ [6, 1, 7, 8, 57, 58, 59, 60, 61, 62, 63, 64, 65, 66, 67, 68, 69, 70, 71, 72] (by decide +kernel) (by decide +kernel)
set_option maxRecDepth 20000 in
theorem gX9_worth_X9_isPerson : GoodIn wsX9_worth (wsV RX9 111 RX9 yX9_isPerson wsX9_isPerson) := goodIn_app (goodIn_of _ (by decide +kernel)) ggX9_worth_X9_isPerson
set_option maxRecDepth 20000 in
theorem ggX9_worth_X9_isSet : GoodIn wsX9_worth wsX9_isSet := goodIn_r _ [12, 1, 7, 13, 14, 15, 16, 17, 18, 57, 58, 59, 60, 61, 62, 63, 64, 65, 66, 67, 68, 69, 70, 71, 72] (by decide +kernel) (by decide +kernel)
set_option maxRecDepth 20000 in
theorem gX9_worth_X9_isSet : GoodIn wsX9_worth (wsV RX9 125 RX9 yX9_isSet wsX9_isSet) := goodIn_app (goodIn_of _ (by decide +kernel)) ggX9_worth_X9_isSet
set_option maxRecDepth 20000 in
theorem ggX9_worth_X9_season : GoodIn wsX9_worth wsX9_season := goodIn_r _ [22, 1, 7, 23, 57, 58, 59, 60, 61, 62, 63, 64, 65, 66, 67, 68, 69, 70, 71, 72] (by decide +kernel) (by decide +kernel)
set_option maxRecDepth 20000 in
theorem gX9_worth_X9_season : GoodIn wsX9_worth (wsV RX9 128 RX9 yX9_season wsX9_season) := goodIn_app (goodIn_of _ (by decide +kernel)) ggX9_worth_X9_season
set_option maxRecDepth 20000 in
theorem ggX9_worth_X3_valueTo : GoodIn wsX9_worth wsX3_valueTo := goodIn_r _ [28, 29, 30, 31, 27, 32, 33, 34, 35, 5, 36, 37, 38, 39, 16, 40, 41, 42, 43, 44, 45, 46, 47, 48, 49, 50, 51, 52, 53, 54, 55, 56, 67, 68, 69, 70, 71, 72] (by decide +kernel) (by decide +kernel)
set_option maxRecDepth 20000 in
theorem gX9_worth_X3_valueTo : GoodIn wsX9_worth (wsV RX9 131 RX3 yX3_valueTo wsX3_valueTo) := goodIn_app (goodIn_of _ (by decide +kernel)) ggX9_worth_X3_valueTo
set_option maxRecDepth 20000 in
theorem ggX9_buy_X9_isSet : GoodIn wsX9_buy wsX9_isSet := goodIn_r _ [11, 4, 5, 12, 13, 14, 15, 16, 17, 75, 76, 77, 78, 79, 80, 81, 82, 83, 84, 87, 88, 89, 90, 91, 92] (by decide +kernel) (by decide +kernel)
set_option maxRecDepth 20000 in
theorem gX9_buy_X9_isSet : GoodIn wsX9_buy (wsV RX9 125 RX9 yX9_isSet wsX9_isSet) := goodIn_app (goodIn_of _ (by decide +kernel)) ggX9_buy_X9_isSet
set_option maxRecDepth 20000 in
theorem ggX9_buy_X9_canPay : GoodIn wsX9_buy wsX9_canPay := goodIn_r _ [21, 4, 5, 6, 1, 2, 22, 23, 10, 24, 25, 26, 27, 28, 29, 30, 31, 32, 33, 34, 35, 36, 37, 38, 39, 40, 41, 42, 43, 44, 45, 15, 46, 47, 48, 49, 50, 51, 52, 53, 54, 75, 76, 77, 78, 79, 80, 81, 82, 83, 84, 87, 88, 89, 90, 91, 92, 85, 86] (by decide +kernel) (by decide +kernel)
set_option maxRecDepth 20000 in
theorem gX9_buy_X9_canPay : GoodIn wsX9_buy (wsV RX9 138 RX9 yX9_canPay wsX9_canPay) := goodIn_app (goodIn_of _ (by decide +kernel)) ggX9_buy_X9_canPay
set_option maxRecDepth 20000 in
theorem ggX9_buy_X5_pushOverOldest : GoodIn wsX9_buy wsX5_pushOverOldest := goodIn_r _ [59, 60, 61, 62, 34, 10, 35, 63, 64, 65, 66, 67, 58, 68, 69, 70, 29, 30, 31, 32, 33, 93, 94, 95, 85, 86] (by decide +kernel) (by decide +kernel)
set_option maxRecDepth 20000 in
theorem gX9_buy_X5_pushOverOldest : GoodIn wsX9_buy (wsV RX9 141 RX5 yX5_pushOverOldest wsX5_pushOverOldest) := goodIn_app (goodIn_of _ (by decide +kernel)) ggX9_buy_X5_pushOverOldest
set_option maxRecDepth 20000 in
theorem ggX9_buy_X9_has : GoodIn wsX9_buy wsX9_has := goodIn_r _ [24, 25, 26, 10, 27] (by decide +kernel) (by decide +kernel)
set_option maxRecDepth 20000 in
theorem gX9_buy_X9_has : GoodIn wsX9_buy (va_wsS RX9 145 yX9_has wsX9_has) := goodIn_app (goodIn_of _ (by decide +kernel)) ggX9_buy_X9_has
set_option maxRecDepth 20000 in
theorem ggX9_buy_X3_othersOf : GoodIn wsX9_buy wsX3_othersOf := goodIn_r _ [40, 41, 42, 34, 10, 35, 43, 44, 45, 15, 46, 47, 26, 27, 48, 49, 50, 51, 52, 53, 54, 87, 88, 89, 90, 91, 92] (by decide +kernel) (by decide +kernel)
set_option maxRecDepth 20000 in
theorem gX9_buy_X3_othersOf : GoodIn wsX9_buy (wsV RX9 149 RX3 yX3_othersOf wsX3_othersOf) := goodIn_app (goodIn_of _ (by decide +kernel)) ggX9_buy_X3_othersOf
set_option maxRecDepth 20000 in
theorem ggX9_buy_X2_earn : GoodIn wsX9_buy wsX2_earn := goodIn_r _ [74, 33, 34, 10, 35, 63, 64, 85, 86] (by decide +kernel) (by decide +kernel)
set_option maxRecDepth 20000 in
theorem gX9_buy_X2_earn : GoodIn wsX9_buy (wsV RX9 152 RX2 yX2_earn wsX2_earn) := goodIn_app (goodIn_of _ (by decide +kernel)) ggX9_buy_X2_earn
set_option maxRecDepth 20000 in
theorem ggX9_toss_X9_isPerson : GoodIn wsX9_toss wsX9_isPerson := goodIn_r _ [8, 9, 10, 11, 52, 53, 54, 55, 56, 57, 58, 59, 60, 61, 64, 65, 66, 67, 68, 69] (by decide +kernel) (by decide +kernel)
set_option maxRecDepth 20000 in
theorem gX9_toss_X9_isPerson : GoodIn wsX9_toss (wsV RX9 111 RX9 yX9_isPerson wsX9_isPerson) := goodIn_app (goodIn_of _ (by decide +kernel)) ggX9_toss_X9_isPerson
set_option maxRecDepth 20000 in
theorem ggX9_toss_X2_owns : GoodIn wsX9_toss wsX2_owns := goodIn_r _ [16, 17, 18, 7, 19, 20, 21, 22, 62, 63] (by decide +kernel) (by decide +kernel)
set_option maxRecDepth 20000 in
theorem gX9_toss_X2_owns : GoodIn wsX9_toss (wsV RX9 118 RX2 yX2_owns wsX2_owns) := goodIn_app (goodIn_of _ (by decide +kernel)) ggX9_toss_X2_owns
set_option maxRecDepth 20000 in
theorem ggX9_toss_X5_pushOverOldest : GoodIn wsX9_toss wsX5_pushOverOldest := goodIn_r _ [27, 28, 29, 30, 31, 7, 32, 33, 34, 35, 36, 37, 26, 38, 39, 40, 41, 42, 15, 43, 44, 70, 71, 72, 62, 63] (by decide +kernel) (by decide +kernel)
set_option maxRecDepth 20000 in
theorem gX9_toss_X5_pushOverOldest : GoodIn wsX9_toss (wsV RX9 141 RX5 yX5_pushOverOldest wsX5_pushOverOldest) := goodIn_app (goodIn_of _ (by decide +kernel)) ggX9_toss_X5_pushOverOldest
set_option maxRecDepth 20000 in
theorem ggX9_toss_X9_bit : GoodIn wsX9_toss wsX9_bit := goodIn_r _ [22] (by decide +kernel) (by decide +kernel)
set_option maxRecDepth 20000 in
theorem gX9_toss_X9_bit : GoodIn wsX9_toss (va_wsS RX9 156 yX9_bit wsX9_bit) := goodIn_app (goodIn_of _ (by decide +kernel)) ggX9_toss_X9_bit
set_option maxRecDepth 20000 in
theorem ggX9_toss_J6_bitCount_0f7a4 : GoodIn wsX9_toss wsJ6_bitCount_0f7a4 := goodIn_r _ [48, 49, 50, 51] (by decide +kernel) (by decide +kernel)
set_option maxRecDepth 20000 in
theorem gX9_toss_J6_bitCount_0f7a4 : GoodIn wsX9_toss (va_wsS RX9 159 yJ6_bitCount_0f7a4 wsJ6_bitCount_0f7a4) := goodIn_app (goodIn_of _ (by decide +kernel)) ggX9_toss_J6_bitCount_0f7a4
set_option maxRecDepth 20000 in
theorem ggX9_sell_X9_isPerson : GoodIn wsX9_sell wsX9_isPerson := goodIn_r _ [9, 3, 10, 11, 70, 71, 72, 73, 74, 75, 76, 77, 78, 79, 82, 83, 84, 85, 86, 87] (by decide +kernel) (by decide +kernel)
set_option maxRecDepth 20000 in
theorem gX9_sell_X9_isPerson : GoodIn wsX9_sell (wsV RX9 111 RX9 yX9_isPerson wsX9_isPerson) := goodIn_app (goodIn_of _ (by decide +kernel)) ggX9_sell_X9_isPerson
set_option maxRecDepth 20000 in
theorem ggX9_sell_X2_owns : GoodIn wsX9_sell wsX2_owns := goodIn_r _ [16, 17, 18, 8, 19, 20, 21, 22, 80, 81] (by decide +kernel) (by decide +kernel)
set_option maxRecDepth 20000 in
theorem gX9_sell_X2_owns : GoodIn wsX9_sell (wsV RX9 118 RX2 yX2_owns wsX2_owns) := goodIn_app (goodIn_of _ (by decide +kernel)) ggX9_sell_X2_owns
set_option maxRecDepth 20000 in
theorem ggX9_sell_X9_bit : GoodIn wsX9_sell wsX9_bit := goodIn_r _ [22] (by decide +kernel) (by decide +kernel)
set_option maxRecDepth 20000 in
theorem gX9_sell_X9_bit : GoodIn wsX9_sell (va_wsS RX9 156 yX9_bit wsX9_bit) := goodIn_app (goodIn_of _ (by decide +kernel)) ggX9_sell_X9_bit
set_option maxRecDepth 20000 in
theorem ggX9_sell_X3_othersOf : GoodIn wsX9_sell wsX3_othersOf := goodIn_r _ [27, 28, 29, 30, 8, 31, 32, 33, 34, 35, 36, 37, 21, 22, 38, 39, 40, 41, 42, 43, 44, 82, 83, 84, 85, 86, 87] (by decide +kernel) (by decide +kernel)
set_option maxRecDepth 20000 in
theorem gX9_sell_X3_othersOf : GoodIn wsX9_sell (wsV RX9 149 RX3 yX3_othersOf wsX3_othersOf) := goodIn_app (goodIn_of _ (by decide +kernel)) ggX9_sell_X3_othersOf
set_option maxRecDepth 20000 in
theorem ggX9_sell_X2_penniesOf : GoodIn wsX9_sell wsX2_penniesOf := goodIn_r _ [48, 49, 30, 8, 31, 80, 81] (by decide +kernel) (by decide +kernel)
set_option maxRecDepth 20000 in
theorem gX9_sell_X2_penniesOf : GoodIn wsX9_sell (wsV RX9 114 RX2 yX2_penniesOf wsX2_penniesOf) := goodIn_app (goodIn_of _ (by decide +kernel)) ggX9_sell_X2_penniesOf
set_option maxRecDepth 20000 in
theorem ggX9_sell_X5_pushOverOldest : GoodIn wsX9_sell wsX5_pushOverOldest := goodIn_r _ [54, 55, 56, 57, 30, 8, 31, 58, 59, 60, 61, 62, 53, 63, 64, 65, 46, 47, 15, 48, 49, 88, 89, 90, 80, 81] (by decide +kernel) (by decide +kernel)
set_option maxRecDepth 20000 in
theorem gX9_sell_X5_pushOverOldest : GoodIn wsX9_sell (wsV RX9 141 RX5 yX5_pushOverOldest wsX5_pushOverOldest) := goodIn_app (goodIn_of _ (by decide +kernel)) ggX9_sell_X5_pushOverOldest
set_option maxRecDepth 20000 in
theorem ggX9_sell_X2_earn : GoodIn wsX9_sell wsX2_earn := goodIn_r _ [69, 49, 30, 8, 31, 58, 59, 80, 81] (by decide +kernel) (by decide +kernel)
set_option maxRecDepth 20000 in
theorem gX9_sell_X2_earn : GoodIn wsX9_sell (wsV RX9 152 RX2 yX2_earn wsX2_earn) := goodIn_app (goodIn_of _ (by decide +kernel)) ggX9_sell_X2_earn
set_option maxRecDepth 20000 in
theorem ggX9_undo_X5_popInto : GoodIn wsX9_undo wsX5_popInto := goodIn_r _ [8, 9, 10, 11, 12, 13, 14, 15, 16, 17, 28, 29, 30, 31, 32] (by decide +kernel) (by decide +kernel)
set_option maxRecDepth 20000 in
theorem gX9_undo_X5_popInto : GoodIn wsX9_undo (wsV RX9 165 RX5 yX5_popInto wsX5_popInto) := goodIn_app (goodIn_of _ (by decide +kernel)) ggX9_undo_X5_popInto
set_option maxRecDepth 20000 in
theorem ggX9_price_X9_isPerson : GoodIn wsX9_price wsX9_isPerson := goodIn_r _ [8, 2, 9, 10, 44, 45, 46, 47, 48, 49, 50, 51, 52, 53, 56, 57, 58, 59, 60, 61] (by decide +kernel) (by decide +kernel)
set_option maxRecDepth 20000 in
theorem gX9_price_X9_isPerson : GoodIn wsX9_price (wsV RX9 111 RX9 yX9_isPerson wsX9_isPerson) := goodIn_app (goodIn_of _ (by decide +kernel)) ggX9_price_X9_isPerson
set_option maxRecDepth 20000 in
theorem ggX9_price_X2_owns : GoodIn wsX9_price wsX2_owns := goodIn_r _ [15, 16, 17, 7, 18, 19, 20, 21, 54, 55] (by decide +kernel) (by decide +kernel)
set_option maxRecDepth 20000 in
theorem gX9_price_X2_owns : GoodIn wsX9_price (wsV RX9 118 RX2 yX2_owns wsX2_owns) := goodIn_app (goodIn_of _ (by decide +kernel)) ggX9_price_X2_owns
set_option maxRecDepth 20000 in
theorem ggX9_price_X3_othersOf : GoodIn wsX9_price wsX3_othersOf := goodIn_r _ [26, 27, 28, 29, 7, 30, 31, 32, 33, 34, 35, 36, 20, 21, 37, 38, 39, 40, 41, 42, 43, 56, 57, 58, 59, 60, 61] (by decide +kernel) (by decide +kernel)
set_option maxRecDepth 20000 in
theorem gX9_price_X3_othersOf : GoodIn wsX9_price (wsV RX9 149 RX3 yX3_othersOf wsX3_othersOf) := goodIn_app (goodIn_of _ (by decide +kernel)) ggX9_price_X3_othersOf
set_option maxRecDepth 20000 in
theorem ggX9_would_X9_isEither : GoodIn wsX9_would wsX9_isEither := goodIn_r _ [7] (by decide +kernel) (by decide +kernel)
set_option maxRecDepth 20000 in
theorem gX9_would_X9_isEither : GoodIn wsX9_would (va_wsS RX9 168 yX9_isEither wsX9_isEither) := goodIn_app (goodIn_of _ (by decide +kernel)) ggX9_would_X9_isEither
set_option maxRecDepth 20000 in
theorem ggX9_would_X9_season : GoodIn wsX9_would wsX9_season := goodIn_r _ [11, 1, 12, 13, 56, 57, 58, 59, 60, 61, 62, 63, 64, 65, 68, 69, 70, 71, 72, 73] (by decide +kernel) (by decide +kernel)
set_option maxRecDepth 20000 in
theorem gX9_would_X9_season : GoodIn wsX9_would (wsV RX9 128 RX9 yX9_season wsX9_season) := goodIn_app (goodIn_of _ (by decide +kernel)) ggX9_would_X9_season
set_option maxRecDepth 20000 in
theorem ggX9_would_X3_changersBy : GoodIn wsX9_would wsX3_changersBy := goodIn_r _ [18, 19, 20, 21, 22, 23, 17, 24, 25, 26, 27, 28, 29, 30, 6, 31, 32, 33, 34, 35, 36, 37, 38, 39, 40, 41, 42, 43, 44, 45, 46, 47, 48, 49, 50, 51, 52, 53, 54, 55, 68, 69, 70, 71, 72, 73] (by decide +kernel) (by decide +kernel)
set_option maxRecDepth 20000 in
theorem gX9_would_X3_changersBy : GoodIn wsX9_would (wsV RX9 171 RX3 yX3_changersBy wsX3_changersBy) := goodIn_app (goodIn_of _ (by decide +kernel)) ggX9_would_X3_changersBy
set_option maxRecDepth 20000 in
theorem ggX9_behind_X1_ownersBehind : GoodIn wsX9_behind wsX1_ownersBehind := goodIn_r _ [8, 9, 10, 11, 12, 13, 14, 15, 16, 17, 18, 19, 20, 21, 22, 23, 24, 25, 26, 27, 28, 29, 30, 31, 32, 33, 34, 35, 36, 37, 38, 39, 40, 41, 42, 43, 44, 45, 46, 47, 48, 49, 50, 51, 52, 53, 54, 67, 68, 69, 70, 71, 72, 73, 74] (by decide +kernel) (by decide +kernel)
set_option maxRecDepth 20000 in
theorem gX9_behind_X1_ownersBehind : GoodIn wsX9_behind (wsV RX9 174 RX1 yX1_ownersBehind wsX1_ownersBehind) := goodIn_app (goodIn_of _ (by decide +kernel)) ggX9_behind_X1_ownersBehind
set_option maxRecDepth 20000 in
theorem ggX9_rest_X9_isEither : GoodIn wsX9_rest wsX9_isEither := goodIn_r _ [7] (by decide +kernel) (by decide +kernel)
set_option maxRecDepth 20000 in
theorem gX9_rest_X9_isEither : GoodIn wsX9_rest (va_wsS RX9 168 yX9_isEither wsX9_isEither) := goodIn_app (goodIn_of _ (by decide +kernel)) ggX9_rest_X9_isEither
set_option maxRecDepth 20000 in
theorem ggX9_rest_X1_roundsToRest : GoodIn wsX9_rest wsX1_roundsToRest := goodIn_r _ [12, 13, 14, 15, 16, 17, 18, 19, 20, 21, 22, 23, 24, 25, 26, 27, 28, 29, 30, 31, 32, 6, 33, 34, 35, 36, 37, 38, 39, 40, 41, 42, 43, 44, 45, 46, 47, 48, 49, 50, 51, 52, 53, 54, 55, 56, 57, 78, 79, 80, 81, 82, 83, 84, 85] (by decide +kernel) (by decide +kernel)
set_option maxRecDepth 20000 in
theorem gX9_rest_X1_roundsToRest : GoodIn wsX9_rest (wsV RX9 178 RX1 yX1_roundsToRest wsX1_roundsToRest) := goodIn_app (goodIn_of _ (by decide +kernel)) ggX9_rest_X1_roundsToRest
set_option maxRecDepth 20000 in
theorem ggX9_rest_X1_roundsOfSwing : GoodIn wsX9_rest wsX1_roundsOfSwing := goodIn_r _ [61, 13, 14, 15, 62, 63, 64, 11, 65, 16, 17, 18, 19, 20, 21, 22, 23, 24, 25, 26, 27, 28, 29, 30, 31, 32, 6, 33, 34, 35, 36, 37, 38, 39, 40, 41, 42, 43, 44, 45, 46, 47, 48, 49, 50, 51, 52, 53, 54, 55, 56, 57, 78, 79, 80, 81, 82, 83, 84, 85] (by decide +kernel) (by decide +kernel)
set_option maxRecDepth 20000 in
theorem gX9_rest_X1_roundsOfSwing : GoodIn wsX9_rest (wsV RX9 182 RX1 yX1_roundsOfSwing wsX1_roundsOfSwing) := goodIn_app (goodIn_of _ (by decide +kernel)) ggX9_rest_X1_roundsOfSwing
set_option maxRecDepth 20000 in
theorem ggX9_rests_X1_countRests : GoodIn wsX9_rests wsX1_countRests := goodIn_r _ [6, 7, 8, 9, 10, 11, 12, 13, 14, 15, 16, 17, 5, 18, 19, 20, 21, 22, 23, 24, 25, 26, 27, 28, 29, 30, 31, 32, 33, 34, 35, 36, 37, 38, 39, 40, 41, 42, 43, 44, 45, 46, 47, 48, 49, 50, 51, 52, 53, 54, 55, 56, 57, 58, 59, 60, 61, 76, 77, 78, 79, 80, 81, 82, 83] (by decide +kernel) (by decide +kernel)
set_option maxRecDepth 20000 in
theorem gX9_rests_X1_countRests : GoodIn wsX9_rests (wsV RX9 185 RX1 yX1_countRests wsX1_countRests) := goodIn_app (goodIn_of _ (by decide +kernel)) ggX9_rests_X1_countRests
set_option maxRecDepth 20000 in
theorem ggX9_rests_X1_restAt : GoodIn wsX9_rests wsX1_restAt := goodIn_r _ [65, 7, 8, 9, 10, 11, 12, 13, 14, 15, 16, 17, 5, 18, 19, 20, 21, 22, 23, 24, 25, 26, 27, 28, 29, 30, 31, 32, 33, 34, 35, 36, 37, 38, 39, 40, 41, 42, 43, 44, 45, 46, 47, 48, 49, 50, 51, 52, 53, 54, 55, 56, 57, 58, 59, 60, 61, 76, 77, 78, 79, 80, 81, 82, 83] (by decide +kernel) (by decide +kernel)
set_option maxRecDepth 20000 in
theorem gX9_rests_X1_restAt : GoodIn wsX9_rests (wsV RX9 188 RX1 yX1_restAt wsX1_restAt) := goodIn_app (goodIn_of _ (by decide +kernel)) ggX9_rests_X1_restAt
set_option maxRecDepth 20000 in
theorem ggX9_tip_X9_isSet : GoodIn wsX9_tip wsX9_isSet := goodIn_r _ [8, 9, 10, 11, 12, 13, 14, 15, 16, 87, 88, 89, 90, 91, 92, 93, 94, 95, 96, 99, 100, 101, 102, 103, 104] (by decide +kernel) (by decide +kernel)
set_option maxRecDepth 20000 in
theorem gX9_tip_X9_isSet : GoodIn wsX9_tip (wsV RX9 125 RX9 yX9_isSet wsX9_isSet) := goodIn_app (goodIn_of _ (by decide +kernel)) ggX9_tip_X9_isSet
set_option maxRecDepth 20000 in
theorem ggX9_tip_X9_isEither : GoodIn wsX9_tip wsX9_isEither := goodIn_r _ [19] (by decide +kernel) (by decide +kernel)
set_option maxRecDepth 20000 in
theorem gX9_tip_X9_isEither : GoodIn wsX9_tip (va_wsS RX9 168 yX9_isEither wsX9_isEither) := goodIn_app (goodIn_of _ (by decide +kernel)) ggX9_tip_X9_isEither
set_option maxRecDepth 20000 in
theorem ggX9_tip_X1_leastPush : GoodIn wsX9_tip wsX1_leastPush := goodIn_r _ [24, 25, 26, 27, 28, 29, 30, 23, 31, 32, 33, 34, 35, 36, 37, 38, 39, 40, 41, 42, 43, 44, 45, 46, 47, 48, 49, 7, 50, 51, 52, 53, 14, 54, 55, 56, 57, 58, 59, 60, 61, 62, 63, 64, 65, 66, 67, 68, 69, 70, 71, 72, 73, 74, 75, 76, 77, 78, 12, 13, 15, 16, 79, 80, 81, 82, 83, 84, 85, 105, 106, 99, 100, 101, 102, 103, 104] (by decide +kernel) (by decide +kernel)
set_option maxRecDepth 20000 in
theorem gX9_tip_X1_leastPush : GoodIn wsX9_tip (wsV RX9 191 RX1 yX1_leastPush wsX1_leastPush) := goodIn_app (goodIn_of _ (by decide +kernel)) ggX9_tip_X1_leastPush
set_option maxRecDepth 20000 in
theorem ggX9_tip_J6_bitCount_0f7a4 : GoodIn wsX9_tip wsJ6_bitCount_0f7a4 := goodIn_r _ [61, 62, 63, 64] (by decide +kernel) (by decide +kernel)
set_option maxRecDepth 20000 in
theorem gX9_tip_J6_bitCount_0f7a4 : GoodIn wsX9_tip (va_wsS RX9 159 yJ6_bitCount_0f7a4 wsJ6_bitCount_0f7a4) := goodIn_app (goodIn_of _ (by decide +kernel)) ggX9_tip_J6_bitCount_0f7a4
set_option maxRecDepth 20000 in
theorem ggX9_place_X9_isPerson : GoodIn wsX9_place wsX9_isPerson := goodIn_r _ [8, 9, 10, 11, 78, 79, 80, 81, 82, 83, 84, 85, 86, 87, 90, 91, 92, 93, 94, 95] (by decide +kernel) (by decide +kernel)
set_option maxRecDepth 20000 in
theorem gX9_place_X9_isPerson : GoodIn wsX9_place (wsV RX9 111 RX9 yX9_isPerson wsX9_isPerson) := goodIn_app (goodIn_of _ (by decide +kernel)) ggX9_place_X9_isPerson
set_option maxRecDepth 20000 in
theorem ggX9_place_X9_isEither : GoodIn wsX9_place wsX9_isEither := goodIn_r _ [14] (by decide +kernel) (by decide +kernel)
set_option maxRecDepth 20000 in
theorem gX9_place_X9_isEither : GoodIn wsX9_place (va_wsS RX9 168 yX9_isEither wsX9_isEither) := goodIn_app (goodIn_of _ (by decide +kernel)) ggX9_place_X9_isEither
set_option maxRecDepth 20000 in
theorem ggX9_place_X2_owns : GoodIn wsX9_place wsX2_owns := goodIn_r _ [19, 20, 21, 7, 22, 23, 24, 25, 88, 89] (by decide +kernel) (by decide +kernel)
set_option maxRecDepth 20000 in
theorem gX9_place_X2_owns : GoodIn wsX9_place (wsV RX9 118 RX2 yX2_owns wsX2_owns) := goodIn_app (goodIn_of _ (by decide +kernel)) ggX9_place_X2_owns
set_option maxRecDepth 20000 in
theorem ggX9_place_X0_bestAhead : GoodIn wsX9_place wsX0_bestAhead := goodIn_r _ [30, 31, 32, 33, 34, 35, 36, 37, 38, 39, 40, 41, 42, 43, 29, 44, 45, 21, 7, 22, 23, 24, 25, 46, 47, 48, 49, 50, 51, 52, 53, 54, 55, 56, 57, 58, 59, 60, 61, 62, 63, 64, 65, 66, 67, 68, 69, 70, 71, 72, 73, 74, 75, 76, 96, 90, 91, 92, 93, 94, 95] (by decide +kernel) (by decide +kernel)
set_option maxRecDepth 20000 in
theorem gX9_place_X0_bestAhead : GoodIn wsX9_place (wsV RX9 194 RX0 yX0_bestAhead wsX0_bestAhead) := goodIn_app (goodIn_of _ (by decide +kernel)) ggX9_place_X0_bestAhead
set_option maxRecDepth 20000 in
theorem ggX9_place_X0_gainBehind : GoodIn wsX9_place wsX0_gainBehind := goodIn_r _ [44, 31, 32, 33, 45, 21, 7, 22, 23, 24, 25, 46, 47, 48, 49, 50, 51, 52, 53, 54, 55, 56, 57, 58, 59, 60, 61, 35, 36, 37, 38, 39, 40, 62, 63, 64, 65, 66, 67, 68, 69, 70, 71, 72, 73, 74, 75, 76, 96, 90, 91, 92, 93, 94, 95] (by decide +kernel) (by decide +kernel)
set_option maxRecDepth 20000 in
theorem gX9_place_X0_gainBehind : GoodIn wsX9_place (wsV RX9 197 RX0 yX0_gainBehind wsX0_gainBehind) := goodIn_app (goodIn_of _ (by decide +kernel)) ggX9_place_X0_gainBehind
set_option maxRecDepth 20000 in
theorem ggX9_burn_X9_isPerson : GoodIn wsX9_burn wsX9_isPerson := goodIn_r _ [8, 9, 10, 11, 64, 65, 66, 67, 68, 69, 70, 71, 72, 73, 76, 77, 78, 79, 80, 81] (by decide +kernel) (by decide +kernel)
set_option maxRecDepth 20000 in
theorem gX9_burn_X9_isPerson : GoodIn wsX9_burn (wsV RX9 111 RX9 yX9_isPerson wsX9_isPerson) := goodIn_app (goodIn_of _ (by decide +kernel)) ggX9_burn_X9_isPerson
set_option maxRecDepth 20000 in
theorem ggX9_burn_X2_owns : GoodIn wsX9_burn wsX2_owns := goodIn_r _ [16, 17, 18, 7, 19, 20, 21, 22, 74, 75] (by decide +kernel) (by decide +kernel)
set_option maxRecDepth 20000 in
theorem gX9_burn_X2_owns : GoodIn wsX9_burn (wsV RX9 118 RX2 yX2_owns wsX2_owns) := goodIn_app (goodIn_of _ (by decide +kernel)) ggX9_burn_X2_owns
set_option maxRecDepth 20000 in
theorem ggX9_burn_X0_leastBurnt : GoodIn wsX9_burn wsX0_leastBurnt := goodIn_r _ [27, 28, 29, 30, 31, 32, 33, 34, 35, 36, 37, 38, 39, 40, 41, 42, 43, 44, 45, 46, 47, 48, 49, 7, 50, 51, 52, 53, 54, 55, 56, 21, 22, 57, 58, 59, 60, 61, 62, 63, 82, 76, 77, 78, 79, 80, 81] (by decide +kernel) (by decide +kernel)
set_option maxRecDepth 20000 in
theorem gX9_burn_X0_leastBurnt : GoodIn wsX9_burn (wsV RX9 200 RX0 yX0_leastBurnt wsX0_leastBurnt) := goodIn_app (goodIn_of _ (by decide +kernel)) ggX9_burn_X0_leastBurnt
set_option maxRecDepth 20000 in
theorem ggX9_share_X0_bestPair : GoodIn wsX9_share wsX0_bestPair := goodIn_r _ [8, 9, 10, 11, 12, 13, 14, 15, 16, 17, 18, 19, 20, 7, 21, 22, 23, 24, 25, 26, 27, 28, 29, 30, 31, 32, 33, 34, 35, 36, 37, 38, 39, 40, 41, 42, 43, 44, 45, 46, 47, 48, 49, 50, 63, 64, 65, 66, 67, 68, 69] (by decide +kernel) (by decide +kernel)
set_option maxRecDepth 20000 in
theorem gX9_share_X0_bestPair : GoodIn wsX9_share (wsV RX9 203 RX0 yX0_bestPair wsX0_bestPair) := goodIn_app (goodIn_of _ (by decide +kernel)) ggX9_share_X0_bestPair
set_option maxRecDepth 20000 in
theorem ggX9_seen_X9_isPerson : GoodIn wsX9_seen wsX9_isPerson := goodIn_r _ [7, 8, 9, 10, 22, 23, 24, 25, 26, 27, 28, 29, 30, 31, 36, 37, 38, 39, 40, 41] (by decide +kernel) (by decide +kernel)
set_option maxRecDepth 20000 in
theorem gX9_seen_X9_isPerson : GoodIn wsX9_seen (wsV RX9 111 RX9 yX9_isPerson wsX9_isPerson) := goodIn_app (goodIn_of _ (by decide +kernel)) ggX9_seen_X9_isPerson
set_option maxRecDepth 20000 in
theorem ggX9_seen_X7_add : GoodIn wsX9_seen wsX7_add := goodIn_r _ [15, 16, 17, 18, 19, 20, 6, 21, 32, 33, 34, 35] (by decide +kernel) (by decide +kernel)
set_option maxRecDepth 20000 in
theorem gX9_seen_X7_add : GoodIn wsX9_seen (wsV RX9 207 RX7 yX7_add wsX7_add) := goodIn_app (goodIn_of _ (by decide +kernel)) ggX9_seen_X7_add
set_option maxRecDepth 20000 in
theorem ggX9_likes_X9_isPerson : GoodIn wsX9_likes wsX9_isPerson := goodIn_r _ [8, 2, 3, 9, 32, 33, 34, 35, 36, 37, 38, 39, 40, 41, 42, 43, 44, 45, 46, 47] (by decide +kernel) (by decide +kernel)
set_option maxRecDepth 20000 in
theorem gX9_likes_X9_isPerson : GoodIn wsX9_likes (wsV RX9 111 RX9 yX9_isPerson wsX9_isPerson) := goodIn_app (goodIn_of _ (by decide +kernel)) ggX9_likes_X9_isPerson
set_option maxRecDepth 20000 in
theorem ggX9_likes_X9_isEither : GoodIn wsX9_likes wsX9_isEither := goodIn_r _ [12] (by decide +kernel) (by decide +kernel)
set_option maxRecDepth 20000 in
theorem gX9_likes_X9_isEither : GoodIn wsX9_likes (va_wsS RX9 168 yX9_isEither wsX9_isEither) := goodIn_app (goodIn_of _ (by decide +kernel)) ggX9_likes_X9_isEither
set_option maxRecDepth 20000 in
theorem ggX9_likes_X7_fit : GoodIn wsX9_likes wsX7_fit := goodIn_r _ [17, 18, 19, 20, 21, 22, 7, 23, 24, 25, 26, 27, 28, 29, 30, 31, 48, 49, 50, 51, 44, 45, 46, 47] (by decide +kernel) (by decide +kernel)
set_option maxRecDepth 20000 in
theorem gX9_likes_X7_fit : GoodIn wsX9_likes (wsV RX9 210 RX7 yX7_fit wsX7_fit) := goodIn_app (goodIn_of _ (by decide +kernel)) ggX9_likes_X7_fit
set_option maxRecDepth 20000 in
theorem ggX9_year_X9_isEither : GoodIn wsX9_year wsX9_isEither := goodIn_r _ [7] (by decide +kernel) (by decide +kernel)
set_option maxRecDepth 20000 in
theorem gX9_year_X9_isEither : GoodIn wsX9_year (va_wsS RX9 168 yX9_isEither wsX9_isEither) := goodIn_app (goodIn_of _ (by decide +kernel)) ggX9_year_X9_isEither
set_option maxRecDepth 20000 in
theorem ggX9_year_X1_ownersBehindYear : GoodIn wsX9_year wsX1_ownersBehindYear := goodIn_r _ [12, 13, 14, 15, 11, 16, 17, 18, 19, 20, 21, 22, 23, 24, 25, 26, 27, 28, 29, 30, 31, 32, 33, 34, 35, 36, 37, 6, 38, 39, 40, 41, 42, 43, 44, 45, 46, 47, 48, 49, 50, 51, 52, 53, 54, 55, 56, 57, 58, 59, 60, 61, 62, 63, 80, 81, 82, 83, 84, 85, 86, 87] (by decide +kernel) (by decide +kernel)
set_option maxRecDepth 20000 in
theorem gX9_year_X1_ownersBehindYear : GoodIn wsX9_year (wsV RX9 214 RX1 yX1_ownersBehindYear wsX1_ownersBehindYear) := goodIn_app (goodIn_of _ (by decide +kernel)) ggX9_year_X1_ownersBehindYear
set_option maxRecDepth 20000 in
theorem ggX9_year_X1_bestDay : GoodIn wsX9_year wsX1_bestDay := goodIn_r _ [67, 13, 14, 15, 11, 16, 17, 18, 19, 20, 21, 22, 23, 24, 25, 26, 27, 28, 29, 30, 31, 32, 33, 34, 35, 36, 37, 6, 38, 39, 40, 41, 42, 43, 44, 45, 46, 47, 48, 49, 50, 51, 52, 53, 54, 55, 56, 57, 58, 59, 60, 61, 62, 63, 80, 81, 82, 83, 84, 85, 86, 87] (by decide +kernel) (by decide +kernel)
set_option maxRecDepth 20000 in
theorem gX9_year_X1_bestDay : GoodIn wsX9_year (wsV RX9 217 RX1 yX1_bestDay wsX1_bestDay) := goodIn_app (goodIn_of _ (by decide +kernel)) ggX9_year_X1_bestDay
set_option maxRecDepth 20000 in
theorem ggX9_keep_X5_push : GoodIn wsX9_keep wsX5_push := goodIn_r _ [8, 9, 10, 11, 12, 13, 14, 15, 16, 17, 18, 19, 20, 21, 22, 23, 34, 35, 36, 37, 38] (by decide +kernel) (by decide +kernel)
set_option maxRecDepth 20000 in
theorem gX9_keep_X5_push : GoodIn wsX9_keep (wsV RX9 220 RX5 yX5_push wsX5_push) := goodIn_app (goodIn_of _ (by decide +kernel)) ggX9_keep_X5_push
set_option maxRecDepth 20000 in
theorem ggX9_back_X5_popInto : GoodIn wsX9_back wsX5_popInto := goodIn_r _ [9, 10, 11, 12, 13, 14, 15, 16, 17, 18, 29, 30, 31, 32, 33] (by decide +kernel) (by decide +kernel)
set_option maxRecDepth 20000 in
theorem gX9_back_X5_popInto : GoodIn wsX9_back (wsV RX9 165 RX5 yX5_popInto wsX5_popInto) := goodIn_app (goodIn_of _ (by decide +kernel)) ggX9_back_X5_popInto
set_option maxRecDepth 20000 in
theorem ggX9_count_X9_season : GoodIn wsX9_count wsX9_season := goodIn_r _ [17, 1, 2, 18, 19, 20, 21, 22, 23, 24, 25, 26, 27, 28, 29, 30, 31, 32, 33, 34] (by decide +kernel) (by decide +kernel)
set_option maxRecDepth 20000 in
theorem gX9_count_X9_season : GoodIn wsX9_count (wsV RX9 128 RX9 yX9_season wsX9_season) := goodIn_app (goodIn_of _ (by decide +kernel)) ggX9_count_X9_season
set_option maxRecDepth 20000 in
theorem ggX9_settle_X3_open : GoodIn wsX9_settle wsX3_open := goodIn_r _ [14, 15, 16, 17, 18, 19, 20, 21, 22, 23, 24, 25, 26, 27, 28, 29, 30, 31, 32, 33, 34, 35, 36, 37, 57, 58, 66, 67, 68, 69] (by decide +kernel) (by decide +kernel)
set_option maxRecDepth 20000 in
theorem gX9_settle_X3_open : GoodIn wsX9_settle (wsV RX9 223 RX3 yX3_open wsX3_open) := goodIn_app (goodIn_of _ (by decide +kernel)) ggX9_settle_X3_open
set_option maxRecDepth 20000 in
theorem ggX9_settle_X2_begin : GoodIn wsX9_settle wsX2_begin := goodIn_r _ [42, 43, 44, 45, 46, 33, 34, 21, 35, 23, 30, 28, 31, 66, 67, 68, 69, 70, 71] (by decide +kernel) (by decide +kernel)
set_option maxRecDepth 20000 in
theorem gX9_settle_X2_begin : GoodIn wsX9_settle (wsV RX9 227 RX2 yX2_begin wsX2_begin) := goodIn_app (goodIn_of _ (by decide +kernel)) ggX9_settle_X2_begin
set_option maxRecDepth 20000 in
theorem ggX9_isSet_X4_sets : GoodIn wsX9_isSet wsX4_sets := goodIn_r _ [7, 8, 21, 22, 23, 24] (by decide +kernel) (by decide +kernel)
set_option maxRecDepth 20000 in
theorem gX9_isSet_X4_sets : GoodIn wsX9_isSet (wsV RX9 230 RX4 yX4_sets wsX4_sets) := goodIn_app (goodIn_of _ (by decide +kernel)) ggX9_isSet_X4_sets
set_option maxRecDepth 20000 in
theorem ggX9_canPay_X9_has : GoodIn wsX9_canPay wsX9_has := goodIn_r _ [9, 10, 11, 8, 12] (by decide +kernel) (by decide +kernel)
set_option maxRecDepth 20000 in
theorem gX9_canPay_X9_has : GoodIn wsX9_canPay (va_wsS RX9 145 yX9_has wsX9_has) := goodIn_app (goodIn_of _ (by decide +kernel)) ggX9_canPay_X9_has
set_option maxRecDepth 20000 in
theorem ggX9_canPay_X2_penniesOf : GoodIn wsX9_canPay wsX2_penniesOf := goodIn_r _ [17, 18, 19, 8, 20, 57, 58] (by decide +kernel) (by decide +kernel)
set_option maxRecDepth 20000 in
theorem gX9_canPay_X2_penniesOf : GoodIn wsX9_canPay (wsV RX9 114 RX2 yX2_penniesOf wsX2_penniesOf) := goodIn_app (goodIn_of _ (by decide +kernel)) ggX9_canPay_X2_penniesOf
set_option maxRecDepth 20000 in
theorem ggX9_canPay_X3_othersOf : GoodIn wsX9_canPay wsX3_othersOf := goodIn_r _ [25, 26, 27, 19, 8, 20, 28, 29, 30, 31, 32, 33, 11, 12, 34, 35, 36, 37, 38, 39, 40, 51, 52, 53, 54, 55, 56] (by decide +kernel) (by decide +kernel)
set_option maxRecDepth 20000 in
theorem gX9_canPay_X3_othersOf : GoodIn wsX9_canPay (wsV RX9 149 RX3 yX3_othersOf wsX3_othersOf) := goodIn_app (goodIn_of _ (by decide +kernel)) ggX9_canPay_X3_othersOf
set_option maxRecDepth 20000 in
theorem ggX9_has_X9_bit : GoodIn wsX9_has wsX9_bit := goodIn_r _ [4] (by decide +kernel) (by decide +kernel)
set_option maxRecDepth 20000 in
theorem gX9_has_X9_bit : GoodIn wsX9_has (va_wsS RX9 156 yX9_bit wsX9_bit) := goodIn_app (goodIn_of _ (by decide +kernel)) ggX9_has_X9_bit
set_option maxRecDepth 20000 in
theorem ggX10_isPerson_X10_in : GoodIn wsX10_isPerson wsX10_in := goodIn_r _ [5] (by decide +kernel) (by decide +kernel)
set_option maxRecDepth 20000 in
theorem gX10_isPerson_X10_in : GoodIn wsX10_isPerson (va_wsS RX10 57 yX10_in wsX10_in) := goodIn_app (goodIn_of _ (by decide +kernel)) ggX10_isPerson_X10_in
set_option maxRecDepth 20000 in
theorem ggX10_write_X10_in : GoodIn wsX10_write wsX10_in := goodIn_r _ [8] (by decide +kernel) (by decide +kernel)
set_option maxRecDepth 20000 in
theorem gX10_write_X10_in : GoodIn wsX10_write (va_wsS RX10 57 yX10_in wsX10_in) := goodIn_app (goodIn_of _ (by decide +kernel)) ggX10_write_X10_in
set_option maxRecDepth 20000 in
theorem ggX10_isFigure_X10_in : GoodIn wsX10_isFigure wsX10_in := goodIn_r _ [8] (by decide +kernel) (by decide +kernel)
set_option maxRecDepth 20000 in
theorem gX10_isFigure_X10_in : GoodIn wsX10_isFigure (va_wsS RX10 57 yX10_in wsX10_in) := goodIn_app (goodIn_of _ (by decide +kernel)) ggX10_isFigure_X10_in
set_option maxRecDepth 20000 in
theorem ggX10_number_X10_isFigure : GoodIn wsX10_number wsX10_isFigure := goodIn_r _ [8, 3, 2, 9, 10, 11, 12, 7, 13, 14, 15, 16, 17, 18, 19, 20, 21, 22, 23, 24, 25, 26, 27, 28, 29, 30, 31, 32, 33, 34, 35, 36, 37] (by decide +kernel) (by decide +kernel)
set_option maxRecDepth 20000 in
theorem gX10_number_X10_isFigure : GoodIn wsX10_number (wsV RX10 75 RX10 yX10_isFigure wsX10_isFigure) := goodIn_app (goodIn_of _ (by decide +kernel)) ggX10_number_X10_isFigure
set_option maxRecDepth 20000 in
theorem ggX10_takesPerson_X10_mostOf : GoodIn wsX10_takesPerson wsX10_mostOf := goodIn_r _ [6] (by decide +kernel) (by decide +kernel)
set_option maxRecDepth 20000 in
theorem gX10_takesPerson_X10_mostOf : GoodIn wsX10_takesPerson (va_wsS RX10 82 yX10_mostOf wsX10_mostOf) := goodIn_app (goodIn_of _ (by decide +kernel)) ggX10_takesPerson_X10_mostOf
set_option maxRecDepth 20000 in
theorem ggX10_takesPerson_X10_number : GoodIn wsX10_takesPerson wsX10_number := goodIn_r _ [10, 11, 12, 13, 14, 15, 16, 5, 17, 18, 19, 20, 21, 22, 23, 24, 25, 26, 27, 28, 29, 30, 31, 32, 33, 34, 35, 36, 37, 38, 39, 40, 41, 42, 43, 44, 45, 46] (by decide +kernel) (by decide +kernel)
set_option maxRecDepth 20000 in
theorem gX10_takesPerson_X10_number : GoodIn wsX10_takesPerson (wsV RX10 86 RX10 yX10_number wsX10_number) := goodIn_app (goodIn_of _ (by decide +kernel)) ggX10_takesPerson_X10_number
set_option maxRecDepth 20000 in
theorem ggX10_takesItem_X10_takesPerson : GoodIn wsX10_takesItem wsX10_takesPerson := goodIn_r _ [10, 3, 11, 12, 13, 9, 14, 15, 16, 17, 18, 2, 1, 19, 20, 21, 22, 23, 24, 25, 26, 27, 28, 29, 30, 31, 32, 33, 34, 35, 36, 37, 38, 39, 40, 41, 42, 43, 44, 45, 46, 47, 48, 49, 50, 51, 52] (by decide +kernel) (by decide +kernel)
set_option maxRecDepth 20000 in
theorem gX10_takesItem_X10_takesPerson : GoodIn wsX10_takesItem (wsV RX10 90 RX10 yX10_takesPerson wsX10_takesPerson) := goodIn_app (goodIn_of _ (by decide +kernel)) ggX10_takesItem_X10_takesPerson
set_option maxRecDepth 20000 in
theorem ggX10_takesItem_X10_number : GoodIn wsX10_takesItem wsX10_number := goodIn_r _ [18, 2, 1, 19, 20, 21, 22, 9, 23, 24, 25, 26, 27, 28, 29, 30, 31, 32, 33, 34, 35, 36, 37, 38, 39, 40, 41, 42, 43, 44, 45, 46, 47, 48, 49, 50, 51, 52] (by decide +kernel) (by decide +kernel)
set_option maxRecDepth 20000 in
theorem gX10_takesItem_X10_number : GoodIn wsX10_takesItem (wsV RX10 86 RX10 yX10_number wsX10_number) := goodIn_app (goodIn_of _ (by decide +kernel)) ggX10_takesItem_X10_number
set_option maxRecDepth 20000 in
theorem ggX10_fault_X10_takesItem : GoodIn wsX10_fault wsX10_takesItem := goodIn_r _ [10, 11, 1, 2, 3, 4, 12, 13, 14, 9, 15, 16, 17, 18, 19, 20, 21, 22, 23, 5, 24, 25, 26, 27, 28, 29, 30, 31, 32, 33, 34, 35, 36, 37, 38, 39, 40, 41, 42, 43, 44, 45, 46, 47, 48, 49, 50, 51, 52, 53, 54, 55, 56] (by decide +kernel) (by decide +kernel)
set_option maxRecDepth 20000 in
theorem gX10_fault_X10_takesItem : GoodIn wsX10_fault (wsV RX10 100 RX10 yX10_takesItem wsX10_takesItem) := goodIn_app (goodIn_of _ (by decide +kernel)) ggX10_fault_X10_takesItem
set_option maxRecDepth 20000 in
theorem ggX10_lay_X10_fault : GoodIn wsX10_lay wsX10_fault := goodIn_r _ [20, 21, 1, 9, 11, 22, 23, 24, 25, 19, 26, 27, 28, 29, 30, 31, 4, 32, 33, 34, 35, 36, 37, 38, 39, 40, 41, 42, 43, 44, 45, 46, 47, 48, 49, 50, 51, 52, 53, 54, 55, 56, 57, 58, 59, 60, 61, 62, 63, 64, 65, 66, 67, 68, 69, 70, 71] (by decide +kernel) (by decide +kernel)
set_option maxRecDepth 20000 in
theorem gX10_lay_X10_fault : GoodIn wsX10_lay (wsV RX10 103 RX10 yX10_fault wsX10_fault) := goodIn_app (goodIn_of _ (by decide +kernel)) ggX10_lay_X10_fault
set_option maxRecDepth 20000 in
theorem ggX10_person_X10_isPerson : GoodIn wsX10_person wsX10_isPerson := goodIn_r _ [12, 13, 14, 15, 11, 16, 20, 21, 22, 23, 24, 25, 26, 27, 28, 29, 30, 31, 32, 33, 34, 35, 36, 37, 38, 39, 40, 41, 42, 43] (by decide +kernel) (by decide +kernel)
set_option maxRecDepth 20000 in
theorem gX10_person_X10_isPerson : GoodIn wsX10_person (wsV RX10 119 RX10 yX10_isPerson wsX10_isPerson) := goodIn_app (goodIn_of _ (by decide +kernel)) ggX10_person_X10_isPerson
set_option maxRecDepth 20000 in
theorem ggX10_person_X10_in : GoodIn wsX10_person wsX10_in := goodIn_r _ [16] (by decide +kernel) (by decide +kernel)
set_option maxRecDepth 20000 in
theorem gX10_person_X10_in : GoodIn wsX10_person (va_wsS RX10 57 yX10_in wsX10_in) := goodIn_app (goodIn_of _ (by decide +kernel)) ggX10_person_X10_in
set_option maxRecDepth 20000 in
theorem ggX10_person_X10_has : GoodIn wsX10_person wsX10_has := goodIn_r _ [19] (by decide +kernel) (by decide +kernel)
set_option maxRecDepth 20000 in
theorem gX10_person_X10_has : GoodIn wsX10_person (va_wsS RX10 124 yX10_has wsX10_has) := goodIn_app (goodIn_of _ (by decide +kernel)) ggX10_person_X10_has
set_option maxRecDepth 20000 in
theorem ggX10_othersThan_X10_has : GoodIn wsX10_othersThan wsX10_has := goodIn_r _ [6] (by decide +kernel) (by decide +kernel)
set_option maxRecDepth 20000 in
theorem gX10_othersThan_X10_has : GoodIn wsX10_othersThan (va_wsS RX10 124 yX10_has wsX10_has) := goodIn_app (goodIn_of _ (by decide +kernel)) ggX10_othersThan_X10_has
set_option maxRecDepth 20000 in
theorem ggX10_othersThan_X10_bits : GoodIn wsX10_othersThan wsX10_bits := goodIn_r _ [9] (by decide +kernel) (by decide +kernel)
set_option maxRecDepth 20000 in
theorem gX10_othersThan_X10_bits : GoodIn wsX10_othersThan (va_wsS RX10 128 yX10_bits wsX10_bits) := goodIn_app (goodIn_of _ (by decide +kernel)) ggX10_othersThan_X10_bits
set_option maxRecDepth 20000 in
theorem ggX10_others_X10_othersThan : GoodIn wsX10_others wsX10_othersThan := goodIn_r _ [6, 7, 1, 8, 9, 5, 10, 11, 12, 13, 14, 15, 16, 17, 18, 19, 20, 21, 22, 23, 24, 25, 26, 27, 28, 29, 30, 31, 32, 33, 34, 35, 36, 37] (by decide +kernel) (by decide +kernel)
set_option maxRecDepth 20000 in
theorem gX10_others_X10_othersThan : GoodIn wsX10_others (wsV RX10 131 RX10 yX10_othersThan wsX10_othersThan) := goodIn_app (goodIn_of _ (by decide +kernel)) ggX10_others_X10_othersThan
set_option maxRecDepth 20000 in
theorem ggX10_worthOf_X10_others : GoodIn wsX10_worthOf wsX10_others := goodIn_r _ [9, 10, 11, 12, 13, 8, 14, 15, 16, 17, 18, 19, 20, 21, 25, 26, 27, 28, 29, 30, 31, 32, 33, 34, 35, 36, 37, 38, 39, 40, 41, 42, 43, 44, 45, 46, 47, 48] (by decide +kernel) (by decide +kernel)
set_option maxRecDepth 20000 in
theorem gX10_worthOf_X10_others : GoodIn wsX10_worthOf (wsV RX10 134 RX10 yX10_others wsX10_others) := goodIn_app (goodIn_of _ (by decide +kernel)) ggX10_worthOf_X10_others
set_option maxRecDepth 20000 in
theorem ggX10_worthOf_X10_worthBy : GoodIn wsX10_worthOf wsX10_worthBy := goodIn_r _ [24] (by decide +kernel) (by decide +kernel)
set_option maxRecDepth 20000 in
theorem gX10_worthOf_X10_worthBy : GoodIn wsX10_worthOf (va_wsS RX10 137 yX10_worthBy wsX10_worthBy) := goodIn_app (goodIn_of _ (by decide +kernel)) ggX10_worthOf_X10_worthBy
set_option maxRecDepth 20000 in
theorem ggX10_worth_X10_isPerson : GoodIn wsX10_worth wsX10_isPerson := goodIn_r _ [5, 6, 7, 8, 4, 9, 40, 41, 42, 43, 44, 45, 46, 47, 48, 49, 50, 51, 52, 53, 54, 55, 56, 57, 58, 59, 60, 61, 62, 63] (by decide +kernel) (by decide +kernel)
set_option maxRecDepth 20000 in
theorem gX10_worth_X10_isPerson : GoodIn wsX10_worth (wsV RX10 119 RX10 yX10_isPerson wsX10_isPerson) := goodIn_app (goodIn_of _ (by decide +kernel)) ggX10_worth_X10_isPerson
set_option maxRecDepth 20000 in
theorem ggX10_worth_X10_all : GoodIn wsX10_worth wsX10_all := goodIn_r _ [13, 6, 40, 41, 42, 43, 44, 45, 46, 47, 48, 49, 50, 51, 52, 53, 54, 55, 56, 57, 58, 59, 60, 61, 62, 63] (by decide +kernel) (by decide +kernel)
set_option maxRecDepth 20000 in
theorem gX10_worth_X10_all : GoodIn wsX10_worth (wsV RX10 141 RX10 yX10_all wsX10_all) := goodIn_app (goodIn_of _ (by decide +kernel)) ggX10_worth_X10_all
set_option maxRecDepth 20000 in
theorem ggX10_worth_X10_in : GoodIn wsX10_worth wsX10_in := goodIn_r _ [9] (by decide +kernel) (by decide +kernel)
set_option maxRecDepth 20000 in
theorem gX10_worth_X10_in : GoodIn wsX10_worth (va_wsS RX10 57 yX10_in wsX10_in) := goodIn_app (goodIn_of _ (by decide +kernel)) ggX10_worth_X10_in
set_option maxRecDepth 20000 in
theorem ggX10_worth_X10_worthOf : GoodIn wsX10_worth wsX10_worthOf := goodIn_r _ [17, 18, 19, 20, 21, 22, 23, 24, 4, 25, 26, 27, 28, 29, 30, 6, 31, 32, 33, 34, 35, 36, 37, 38, 39, 40, 41, 42, 43, 44, 45, 46, 47, 48, 49, 50, 51, 52, 53, 54, 55, 56, 57, 58, 59, 60, 61, 62, 63] (by decide +kernel) (by decide +kernel)
set_option maxRecDepth 20000 in
theorem gX10_worth_X10_worthOf : GoodIn wsX10_worth (wsV RX10 144 RX10 yX10_worthOf wsX10_worthOf) := goodIn_app (goodIn_of _ (by decide +kernel)) ggX10_worth_X10_worthOf
set_option maxRecDepth 20000 in
theorem ggX10_buy_X10_all : GoodIn wsX10_buy wsX10_all := goodIn_r _ [8, 2, 33, 34, 35, 36, 37, 38, 39, 40, 41, 42, 43, 44, 45, 46, 47, 48, 49, 50, 51, 52, 53, 54, 55, 56] (by decide +kernel) (by decide +kernel)
set_option maxRecDepth 20000 in
theorem gX10_buy_X10_all : GoodIn wsX10_buy (wsV RX10 141 RX10 yX10_all wsX10_all) := goodIn_app (goodIn_of _ (by decide +kernel)) ggX10_buy_X10_all
set_option maxRecDepth 20000 in
theorem ggX10_buy_X10_in : GoodIn wsX10_buy wsX10_in := goodIn_r _ [11] (by decide +kernel) (by decide +kernel)
set_option maxRecDepth 20000 in
theorem gX10_buy_X10_in : GoodIn wsX10_buy (va_wsS RX10 57 yX10_in wsX10_in) := goodIn_app (goodIn_of _ (by decide +kernel)) ggX10_buy_X10_in
set_option maxRecDepth 20000 in
theorem ggX10_buy_X10_has : GoodIn wsX10_buy wsX10_has := goodIn_r _ [14] (by decide +kernel) (by decide +kernel)
set_option maxRecDepth 20000 in
theorem gX10_buy_X10_has : GoodIn wsX10_buy (va_wsS RX10 124 yX10_has wsX10_has) := goodIn_app (goodIn_of _ (by decide +kernel)) ggX10_buy_X10_has
set_option maxRecDepth 20000 in
theorem ggX10_buy_X10_others : GoodIn wsX10_buy wsX10_others := goodIn_r _ [18, 19, 20, 21, 22, 7, 23, 2, 12, 13, 14, 24, 25, 26, 33, 34, 35, 36, 37, 38, 39, 40, 41, 42, 43, 44, 45, 46, 47, 48, 49, 50, 51, 52, 53, 54, 55, 56] (by decide +kernel) (by decide +kernel)
set_option maxRecDepth 20000 in
theorem gX10_buy_X10_others : GoodIn wsX10_buy (wsV RX10 134 RX10 yX10_others wsX10_others) := goodIn_app (goodIn_of _ (by decide +kernel)) ggX10_buy_X10_others
set_option maxRecDepth 20000 in
theorem ggX10_buy_X10_remember : GoodIn wsX10_buy wsX10_remember := goodIn_r _ [30, 31, 32, 1, 3, 33, 34, 35, 36, 37, 38, 39, 40, 41, 42, 43, 44, 45, 46, 47, 48, 49, 50, 51, 52, 53, 54, 55, 56] (by decide +kernel) (by decide +kernel)
set_option maxRecDepth 20000 in
theorem gX10_buy_X10_remember : GoodIn wsX10_buy (wsV RX10 147 RX10 yX10_remember wsX10_remember) := goodIn_app (goodIn_of _ (by decide +kernel)) ggX10_buy_X10_remember
set_option maxRecDepth 20000 in
theorem ggX10_toss_X10_isPerson : GoodIn wsX10_toss wsX10_isPerson := goodIn_r _ [6, 7, 8, 9, 5, 10, 24, 25, 26, 27, 28, 29, 30, 31, 32, 33, 34, 35, 36, 37, 38, 39, 40, 41, 42, 43, 44, 45, 46, 47] (by decide +kernel) (by decide +kernel)
set_option maxRecDepth 20000 in
theorem gX10_toss_X10_isPerson : GoodIn wsX10_toss (wsV RX10 119 RX10 yX10_isPerson wsX10_isPerson) := goodIn_app (goodIn_of _ (by decide +kernel)) ggX10_toss_X10_isPerson
set_option maxRecDepth 20000 in
theorem ggX10_toss_X10_has : GoodIn wsX10_toss wsX10_has := goodIn_r _ [13] (by decide +kernel) (by decide +kernel)
set_option maxRecDepth 20000 in
theorem gX10_toss_X10_has : GoodIn wsX10_toss (va_wsS RX10 124 yX10_has wsX10_has) := goodIn_app (goodIn_of _ (by decide +kernel)) ggX10_toss_X10_has
set_option maxRecDepth 20000 in
theorem ggX10_toss_X10_remember : GoodIn wsX10_toss wsX10_remember := goodIn_r _ [17, 18, 19, 1, 20, 24, 25, 26, 27, 28, 29, 30, 31, 32, 33, 34, 35, 36, 37, 38, 39, 40, 41, 42, 43, 44, 45, 46, 47] (by decide +kernel) (by decide +kernel)
set_option maxRecDepth 20000 in
theorem gX10_toss_X10_remember : GoodIn wsX10_toss (wsV RX10 147 RX10 yX10_remember wsX10_remember) := goodIn_app (goodIn_of _ (by decide +kernel)) ggX10_toss_X10_remember
set_option maxRecDepth 20000 in
theorem ggX10_toss_X10_bits : GoodIn wsX10_toss wsX10_bits := goodIn_r _ [23] (by decide +kernel) (by decide +kernel)
set_option maxRecDepth 20000 in
theorem gX10_toss_X10_bits : GoodIn wsX10_toss (va_wsS RX10 128 yX10_bits wsX10_bits) := goodIn_app (goodIn_of _ (by decide +kernel)) ggX10_toss_X10_bits
set_option maxRecDepth 20000 in
theorem ggX10_sell_X10_isPerson : GoodIn wsX10_sell wsX10_isPerson := goodIn_r _ [7, 8, 9, 10, 6, 11, 33, 34, 35, 36, 37, 38, 39, 40, 41, 42, 43, 44, 45, 46, 47, 48, 49, 50, 51, 52, 53, 54, 55, 56] (by decide +kernel) (by decide +kernel)
set_option maxRecDepth 20000 in
theorem gX10_sell_X10_isPerson : GoodIn wsX10_sell (wsV RX10 119 RX10 yX10_isPerson wsX10_isPerson) := goodIn_app (goodIn_of _ (by decide +kernel)) ggX10_sell_X10_isPerson
set_option maxRecDepth 20000 in
theorem ggX10_sell_X10_others : GoodIn wsX10_sell wsX10_others := goodIn_r _ [15, 16, 17, 18, 19, 6, 20, 8, 21, 22, 23, 24, 25, 26, 33, 34, 35, 36, 37, 38, 39, 40, 41, 42, 43, 44, 45, 46, 47, 48, 49, 50, 51, 52, 53, 54, 55, 56] (by decide +kernel) (by decide +kernel)
set_option maxRecDepth 20000 in
theorem gX10_sell_X10_others : GoodIn wsX10_sell (wsV RX10 134 RX10 yX10_others wsX10_others) := goodIn_app (goodIn_of _ (by decide +kernel)) ggX10_sell_X10_others
set_option maxRecDepth 20000 in
theorem ggX10_sell_X10_has : GoodIn wsX10_sell wsX10_has := goodIn_r _ [23] (by decide +kernel) (by decide +kernel)
set_option maxRecDepth 20000 in
theorem gX10_sell_X10_has : GoodIn wsX10_sell (va_wsS RX10 124 yX10_has wsX10_has) := goodIn_app (goodIn_of _ (by decide +kernel)) ggX10_sell_X10_has
set_option maxRecDepth 20000 in
theorem ggX10_sell_X10_remember : GoodIn wsX10_sell wsX10_remember := goodIn_r _ [30, 31, 32, 1, 2, 33, 34, 35, 36, 37, 38, 39, 40, 41, 42, 43, 44, 45, 46, 47, 48, 49, 50, 51, 52, 53, 54, 55, 56] (by decide +kernel) (by decide +kernel)
set_option maxRecDepth 20000 in
theorem gX10_sell_X10_remember : GoodIn wsX10_sell (wsV RX10 147 RX10 yX10_remember wsX10_remember) := goodIn_app (goodIn_of _ (by decide +kernel)) ggX10_sell_X10_remember
set_option maxRecDepth 20000 in
theorem ggX10_price_X10_isPerson : GoodIn wsX10_price wsX10_isPerson := goodIn_r _ [6, 7, 8, 9, 5, 10, 26, 27, 28, 29, 30, 31, 32, 33, 34, 35, 36, 37, 38, 39, 40, 41, 42, 43, 44, 45, 46, 47, 48, 49] (by decide +kernel) (by decide +kernel)
set_option maxRecDepth 20000 in
theorem gX10_price_X10_isPerson : GoodIn wsX10_price (wsV RX10 119 RX10 yX10_isPerson wsX10_isPerson) := goodIn_app (goodIn_of _ (by decide +kernel)) ggX10_price_X10_isPerson
set_option maxRecDepth 20000 in
theorem ggX10_price_X10_has : GoodIn wsX10_price wsX10_has := goodIn_r _ [13] (by decide +kernel) (by decide +kernel)
set_option maxRecDepth 20000 in
theorem gX10_price_X10_has : GoodIn wsX10_price (va_wsS RX10 124 yX10_has wsX10_has) := goodIn_app (goodIn_of _ (by decide +kernel)) ggX10_price_X10_has
set_option maxRecDepth 20000 in
theorem ggX10_price_X10_others : GoodIn wsX10_price wsX10_others := goodIn_r _ [17, 18, 19, 20, 21, 5, 22, 7, 11, 12, 13, 23, 24, 25, 26, 27, 28, 29, 30, 31, 32, 33, 34, 35, 36, 37, 38, 39, 40, 41, 42, 43, 44, 45, 46, 47, 48, 49] (by decide +kernel) (by decide +kernel)
set_option maxRecDepth 20000 in
theorem gX10_price_X10_others : GoodIn wsX10_price (wsV RX10 134 RX10 yX10_others wsX10_others) := goodIn_app (goodIn_of _ (by decide +kernel)) ggX10_price_X10_others
set_option maxRecDepth 20000 in
theorem ggX10_wouldBuy_X10_has : GoodIn wsX10_wouldBuy wsX10_has := goodIn_r _ [4] (by decide +kernel) (by decide +kernel)
set_option maxRecDepth 20000 in
theorem gX10_wouldBuy_X10_has : GoodIn wsX10_wouldBuy (va_wsS RX10 124 yX10_has wsX10_has) := goodIn_app (goodIn_of _ (by decide +kernel)) ggX10_wouldBuy_X10_has
set_option maxRecDepth 20000 in
theorem ggX10_wouldBuy_X10_worthOf : GoodIn wsX10_wouldBuy wsX10_worthOf := goodIn_r _ [8, 9, 10, 11, 12, 13, 14, 15, 3, 16, 17, 18, 19, 20, 21, 22, 1, 2, 4, 23, 24, 25, 26, 27, 28, 29, 30, 31, 32, 33, 34, 35, 36, 37, 38, 39, 40, 41, 42, 43, 44, 45, 46, 47, 48, 49, 50, 51, 52] (by decide +kernel) (by decide +kernel)
set_option maxRecDepth 20000 in
theorem gX10_wouldBuy_X10_worthOf : GoodIn wsX10_wouldBuy (wsV RX10 144 RX10 yX10_worthOf wsX10_worthOf) := goodIn_app (goodIn_of _ (by decide +kernel)) ggX10_wouldBuy_X10_worthOf
set_option maxRecDepth 20000 in
theorem ggX10_wouldBuy_X10_others : GoodIn wsX10_wouldBuy wsX10_others := goodIn_r _ [16, 17, 18, 19, 20, 3, 21, 22, 1, 2, 4, 23, 24, 25, 29, 30, 31, 32, 33, 34, 35, 36, 37, 38, 39, 40, 41, 42, 43, 44, 45, 46, 47, 48, 49, 50, 51, 52] (by decide +kernel) (by decide +kernel)
set_option maxRecDepth 20000 in
theorem gX10_wouldBuy_X10_others : GoodIn wsX10_wouldBuy (wsV RX10 134 RX10 yX10_others wsX10_others) := goodIn_app (goodIn_of _ (by decide +kernel)) ggX10_wouldBuy_X10_others
set_option maxRecDepth 20000 in
theorem ggX10_wouldThrow_X10_has : GoodIn wsX10_wouldThrow wsX10_has := goodIn_r _ [4] (by decide +kernel) (by decide +kernel)
set_option maxRecDepth 20000 in
theorem gX10_wouldThrow_X10_has : GoodIn wsX10_wouldThrow (va_wsS RX10 124 yX10_has wsX10_has) := goodIn_app (goodIn_of _ (by decide +kernel)) ggX10_wouldThrow_X10_has
set_option maxRecDepth 20000 in
theorem ggX10_wouldThrow_X10_worthOf : GoodIn wsX10_wouldThrow wsX10_worthOf := goodIn_r _ [8, 9, 10, 11, 12, 13, 14, 15, 3, 16, 17, 18, 19, 20, 21, 22, 1, 2, 4, 23, 24, 25, 26, 27, 28, 29, 30, 31, 32, 33, 34, 35, 36, 37, 38, 39, 40, 41, 42, 43, 44, 45, 46, 47, 48, 49, 50, 51, 52] (by decide +kernel) (by decide +kernel)
set_option maxRecDepth 20000 in
theorem gX10_wouldThrow_X10_worthOf : GoodIn wsX10_wouldThrow (wsV RX10 144 RX10 yX10_worthOf wsX10_worthOf) := goodIn_app (goodIn_of _ (by decide +kernel)) ggX10_wouldThrow_X10_worthOf
set_option maxRecDepth 20000 in
theorem ggX10_would_X10_in : GoodIn wsX10_would wsX10_in := goodIn_r _ [6] (by decide +kernel) (by decide +kernel)
set_option maxRecDepth 20000 in
theorem gX10_would_X10_in : GoodIn wsX10_would (va_wsS RX10 57 yX10_in wsX10_in) := goodIn_app (goodIn_of _ (by decide +kernel)) ggX10_would_X10_in
set_option maxRecDepth 20000 in
theorem ggX10_would_X10_wouldBuy : GoodIn wsX10_would wsX10_wouldBuy := goodIn_r _ [10, 11, 12, 5, 13, 14, 15, 16, 17, 18, 19, 20, 21, 22, 23, 24, 25, 26, 27, 28, 29, 30, 1, 31, 32, 33, 34, 35, 36, 41, 42, 43, 44, 45, 46, 47, 48, 49, 50, 51, 52, 53, 54, 55, 56, 57, 58, 59, 60, 61, 62, 63, 64] (by decide +kernel) (by decide +kernel)
set_option maxRecDepth 20000 in
theorem gX10_would_X10_wouldBuy : GoodIn wsX10_would (wsV RX10 150 RX10 yX10_wouldBuy wsX10_wouldBuy) := goodIn_app (goodIn_of _ (by decide +kernel)) ggX10_would_X10_wouldBuy
set_option maxRecDepth 20000 in
theorem ggX10_would_X10_wouldThrow : GoodIn wsX10_would wsX10_wouldThrow := goodIn_r _ [40, 11, 12, 5, 13, 14, 15, 16, 17, 18, 19, 20, 21, 22, 23, 24, 25, 26, 27, 28, 29, 30, 1, 31, 32, 33, 34, 35, 36, 41, 42, 43, 44, 45, 46, 47, 48, 49, 50, 51, 52, 53, 54, 55, 56, 57, 58, 59, 60, 61, 62, 63, 64] (by decide +kernel) (by decide +kernel)
set_option maxRecDepth 20000 in
theorem gX10_would_X10_wouldThrow : GoodIn wsX10_would (wsV RX10 153 RX10 yX10_wouldThrow wsX10_wouldThrow) := goodIn_app (goodIn_of _ (by decide +kernel)) ggX10_would_X10_wouldThrow
set_option maxRecDepth 20000 in
theorem ggX10_round_X10_wouldBuy : GoodIn wsX10_round wsX10_wouldBuy := goodIn_r _ [6, 7, 8, 5, 9, 10, 11, 12, 13, 14, 15, 16, 17, 18, 19, 20, 21, 22, 23, 24, 25, 26, 1, 27, 28, 29, 30, 31, 32, 37, 38, 39, 40, 41, 42, 43, 44, 45, 46, 47, 48, 49, 50, 51, 52, 53, 54, 55, 56, 57, 58, 59, 60] (by decide +kernel) (by decide +kernel)
set_option maxRecDepth 20000 in
theorem gX10_round_X10_wouldBuy : GoodIn wsX10_round (wsV RX10 150 RX10 yX10_wouldBuy wsX10_wouldBuy) := goodIn_app (goodIn_of _ (by decide +kernel)) ggX10_round_X10_wouldBuy
set_option maxRecDepth 20000 in
theorem ggX10_round_X10_wouldThrow : GoodIn wsX10_round wsX10_wouldThrow := goodIn_r _ [36, 7, 8, 5, 9, 10, 11, 12, 13, 14, 15, 16, 17, 18, 19, 20, 21, 22, 23, 24, 25, 26, 1, 27, 28, 29, 30, 31, 32, 37, 38, 39, 40, 41, 42, 43, 44, 45, 46, 47, 48, 49, 50, 51, 52, 53, 54, 55, 56, 57, 58, 59, 60] (by decide +kernel) (by decide +kernel)
set_option maxRecDepth 20000 in
theorem gX10_round_X10_wouldThrow : GoodIn wsX10_round (wsV RX10 153 RX10 yX10_wouldThrow wsX10_wouldThrow) := goodIn_app (goodIn_of _ (by decide +kernel)) ggX10_round_X10_wouldThrow
set_option maxRecDepth 20000 in
theorem ggX10_tells_X10_all : GoodIn wsX10_tells wsX10_all := goodIn_r _ [6, 7, 46, 47, 48, 49, 50, 51, 52, 53, 54, 55, 56, 57, 58, 59, 60, 61, 62, 63, 64, 65, 66, 67, 68, 69] (by decide +kernel) (by decide +kernel)
set_option maxRecDepth 20000 in
theorem gX10_tells_X10_all : GoodIn wsX10_tells (wsV RX10 141 RX10 yX10_all wsX10_all) := goodIn_app (goodIn_of _ (by decide +kernel)) ggX10_tells_X10_all
set_option maxRecDepth 20000 in
theorem ggX10_tells_X10_round : GoodIn wsX10_tells wsX10_round := goodIn_r _ [11, 7, 12, 13, 14, 5, 15, 16, 17, 18, 19, 20, 21, 22, 23, 24, 25, 26, 27, 28, 29, 30, 31, 32, 33, 34, 35, 36, 37, 38, 39, 40, 41, 42, 43, 44, 45, 46, 47, 48, 49, 50, 51, 52, 53, 54, 55, 56, 57, 58, 59, 60, 61, 62, 63, 64, 65, 66, 67, 68, 69] (by decide +kernel) (by decide +kernel)
set_option maxRecDepth 20000 in
theorem gX10_tells_X10_round : GoodIn wsX10_tells (wsV RX10 156 RX10 yX10_round wsX10_round) := goodIn_app (goodIn_of _ (by decide +kernel)) ggX10_tells_X10_round
set_option maxRecDepth 20000 in
theorem ggX10_behind_X10_in : GoodIn wsX10_behind wsX10_in := goodIn_r _ [6] (by decide +kernel) (by decide +kernel)
set_option maxRecDepth 20000 in
theorem gX10_behind_X10_in : GoodIn wsX10_behind (va_wsS RX10 57 yX10_in wsX10_in) := goodIn_app (goodIn_of _ (by decide +kernel)) ggX10_behind_X10_in
set_option maxRecDepth 20000 in
theorem ggX10_behind_X10_round : GoodIn wsX10_behind wsX10_round := goodIn_r _ [10, 11, 12, 13, 14, 5, 15, 16, 17, 18, 19, 20, 21, 22, 23, 24, 25, 26, 27, 28, 29, 30, 31, 32, 33, 34, 35, 36, 37, 38, 39, 40, 41, 42, 43, 44, 45, 46, 47, 48, 49, 50, 51, 52, 53, 54, 55, 56, 57, 58, 59, 60, 61, 62, 63, 64, 65, 66, 67, 68, 69] (by decide +kernel) (by decide +kernel)
set_option maxRecDepth 20000 in
theorem gX10_behind_X10_round : GoodIn wsX10_behind (wsV RX10 156 RX10 yX10_round wsX10_round) := goodIn_app (goodIn_of _ (by decide +kernel)) ggX10_behind_X10_round
set_option maxRecDepth 20000 in
theorem ggX10_rest_X10_in : GoodIn wsX10_rest wsX10_in := goodIn_r _ [6] (by decide +kernel) (by decide +kernel)
set_option maxRecDepth 20000 in
theorem gX10_rest_X10_in : GoodIn wsX10_rest (va_wsS RX10 57 yX10_in wsX10_in) := goodIn_app (goodIn_of _ (by decide +kernel)) ggX10_rest_X10_in
set_option maxRecDepth 20000 in
theorem ggX10_rest_X10_tells : GoodIn wsX10_rest wsX10_tells := goodIn_r _ [10, 2, 11, 12, 13, 5, 14, 15, 16, 17, 18, 19, 20, 21, 22, 23, 24, 25, 26, 27, 28, 29, 30, 31, 32, 33, 34, 35, 36, 37, 38, 39, 40, 41, 42, 43, 44, 45, 46, 47, 48, 49, 50, 51, 52, 53, 54, 55, 56, 57, 58, 59, 60, 61, 62, 63, 64, 65, 66, 67, 68, 69, 70, 71, 72, 73, 74, 75, 76, 77] (by decide +kernel) (by decide +kernel)
set_option maxRecDepth 20000 in
theorem gX10_rest_X10_tells : GoodIn wsX10_rest (wsV RX10 162 RX10 yX10_tells wsX10_tells) := goodIn_app (goodIn_of _ (by decide +kernel)) ggX10_rest_X10_tells
set_option maxRecDepth 20000 in
theorem ggX10_rests_X10_tells : GoodIn wsX10_rests wsX10_tells := goodIn_r _ [6, 1, 7, 8, 9, 5, 10, 11, 12, 13, 14, 15, 16, 17, 18, 19, 20, 21, 22, 23, 24, 25, 26, 27, 28, 29, 30, 31, 32, 33, 34, 35, 36, 37, 38, 39, 40, 41, 42, 43, 44, 45, 46, 47, 48, 49, 50, 51, 52, 53, 54, 55, 56, 57, 58, 59, 60, 61, 62, 63, 64, 65, 66, 67, 68, 69, 70, 71, 72, 73] (by decide +kernel) (by decide +kernel)
set_option maxRecDepth 20000 in
theorem gX10_rests_X10_tells : GoodIn wsX10_rests (wsV RX10 162 RX10 yX10_tells wsX10_tells) := goodIn_app (goodIn_of _ (by decide +kernel)) ggX10_rests_X10_tells
set_option maxRecDepth 20000 in
theorem ggX10_rests_X10_all : GoodIn wsX10_rests wsX10_all := goodIn_r _ [10, 11, 50, 51, 52, 53, 54, 55, 56, 57, 58, 59, 60, 61, 62, 63, 64, 65, 66, 67, 68, 69, 70, 71, 72, 73] (by decide +kernel) (by decide +kernel)
set_option maxRecDepth 20000 in
theorem gX10_rests_X10_all : GoodIn wsX10_rests (wsV RX10 141 RX10 yX10_all wsX10_all) := goodIn_app (goodIn_of _ (by decide +kernel)) ggX10_rests_X10_all
set_option maxRecDepth 20000 in
theorem ggX10_tip_X10_all : GoodIn wsX10_tip wsX10_all := goodIn_r _ [7, 8, 54, 55, 56, 57, 58, 59, 60, 61, 62, 63, 64, 65, 66, 67, 68, 69, 70, 71, 72, 73, 74, 75, 76, 77] (by decide +kernel) (by decide +kernel)
set_option maxRecDepth 20000 in
theorem gX10_tip_X10_all : GoodIn wsX10_tip (wsV RX10 141 RX10 yX10_all wsX10_all) := goodIn_app (goodIn_of _ (by decide +kernel)) ggX10_tip_X10_all
set_option maxRecDepth 20000 in
theorem ggX10_tip_X10_in : GoodIn wsX10_tip wsX10_in := goodIn_r _ [11] (by decide +kernel) (by decide +kernel)
set_option maxRecDepth 20000 in
theorem gX10_tip_X10_in : GoodIn wsX10_tip (va_wsS RX10 57 yX10_in wsX10_in) := goodIn_app (goodIn_of _ (by decide +kernel)) ggX10_tip_X10_in
set_option maxRecDepth 20000 in
theorem ggX10_tip_X10_tells : GoodIn wsX10_tip wsX10_tells := goodIn_r _ [15, 2, 3, 4, 5, 6, 7, 8, 16, 17, 18, 19, 20, 21, 22, 23, 24, 25, 26, 27, 28, 29, 30, 31, 32, 33, 34, 35, 36, 37, 38, 39, 40, 41, 42, 43, 44, 45, 46, 47, 48, 49, 50, 51, 52, 53, 54, 55, 56, 57, 58, 59, 60, 61, 62, 63, 64, 65, 66, 67, 68, 69, 70, 71, 72, 73, 74, 75, 76, 77] (by decide +kernel) (by decide +kernel)
set_option maxRecDepth 20000 in
theorem gX10_tip_X10_tells : GoodIn wsX10_tip (wsV RX10 162 RX10 yX10_tells wsX10_tells) := goodIn_app (goodIn_of _ (by decide +kernel)) ggX10_tip_X10_tells
set_option maxRecDepth 20000 in
theorem ggX10_tip_X10_bits : GoodIn wsX10_tip wsX10_bits := goodIn_r _ [46] (by decide +kernel) (by decide +kernel)
set_option maxRecDepth 20000 in
theorem gX10_tip_X10_bits : GoodIn wsX10_tip (va_wsS RX10 128 yX10_bits wsX10_bits) := goodIn_app (goodIn_of _ (by decide +kernel)) ggX10_tip_X10_bits
set_option maxRecDepth 20000 in
theorem ggX10_place_X10_isPerson : GoodIn wsX10_place wsX10_isPerson := goodIn_r _ [7, 2, 8, 9, 6, 10, 41, 42, 43, 44, 45, 46, 47, 48, 49, 50, 51, 52, 53, 54, 55, 56, 57, 58, 59, 60, 61, 62, 63, 64] (by decide +kernel) (by decide +kernel)
set_option maxRecDepth 20000 in
theorem gX10_place_X10_isPerson : GoodIn wsX10_place (wsV RX10 119 RX10 yX10_isPerson wsX10_isPerson) := goodIn_app (goodIn_of _ (by decide +kernel)) ggX10_place_X10_isPerson
set_option maxRecDepth 20000 in
theorem ggX10_place_X10_in : GoodIn wsX10_place wsX10_in := goodIn_r _ [10] (by decide +kernel) (by decide +kernel)
set_option maxRecDepth 20000 in
theorem gX10_place_X10_in : GoodIn wsX10_place (va_wsS RX10 57 yX10_in wsX10_in) := goodIn_app (goodIn_of _ (by decide +kernel)) ggX10_place_X10_in
set_option maxRecDepth 20000 in
theorem ggX10_place_X10_has : GoodIn wsX10_place wsX10_has := goodIn_r _ [13] (by decide +kernel) (by decide +kernel)
set_option maxRecDepth 20000 in
theorem gX10_place_X10_has : GoodIn wsX10_place (va_wsS RX10 124 yX10_has wsX10_has) := goodIn_app (goodIn_of _ (by decide +kernel)) ggX10_place_X10_has
set_option maxRecDepth 20000 in
theorem ggX10_place_X10_bits : GoodIn wsX10_place wsX10_bits := goodIn_r _ [16] (by decide +kernel) (by decide +kernel)
set_option maxRecDepth 20000 in
theorem gX10_place_X10_bits : GoodIn wsX10_place (va_wsS RX10 128 yX10_bits wsX10_bits) := goodIn_app (goodIn_of _ (by decide +kernel)) ggX10_place_X10_bits
set_option maxRecDepth 20000 in
theorem ggX10_place_X10_others : GoodIn wsX10_place wsX10_others := goodIn_r _ [20, 21, 22, 23, 24, 6, 25, 2, 11, 12, 13, 14, 15, 16, 41, 42, 43, 44, 45, 46, 47, 48, 49, 50, 51, 52, 53, 54, 55, 56, 57, 58, 59, 60, 61, 62, 63, 64] (by decide +kernel) (by decide +kernel)
set_option maxRecDepth 20000 in
theorem gX10_place_X10_others : GoodIn wsX10_place (wsV RX10 134 RX10 yX10_others wsX10_others) := goodIn_app (goodIn_of _ (by decide +kernel)) ggX10_place_X10_others
set_option maxRecDepth 20000 in
theorem ggX10_place_X10_wouldBuy : GoodIn wsX10_place wsX10_wouldBuy := goodIn_r _ [29, 11, 12, 6, 13, 30, 31, 32, 33, 34, 35, 36, 37, 17, 18, 19, 20, 21, 22, 23, 24, 25, 2, 14, 15, 16, 38, 39, 40, 41, 42, 43, 44, 45, 46, 47, 48, 49, 50, 51, 52, 53, 54, 55, 56, 57, 58, 59, 60, 61, 62, 63, 64] (by decide +kernel) (by decide +kernel)
set_option maxRecDepth 20000 in
theorem gX10_place_X10_wouldBuy : GoodIn wsX10_place (wsV RX10 150 RX10 yX10_wouldBuy wsX10_wouldBuy) := goodIn_app (goodIn_of _ (by decide +kernel)) ggX10_place_X10_wouldBuy
set_option maxRecDepth 20000 in
theorem ggX10_place_X10_worthOf : GoodIn wsX10_place wsX10_worthOf := goodIn_r _ [33, 34, 35, 36, 37, 17, 18, 19, 6, 20, 21, 22, 23, 24, 25, 2, 11, 12, 13, 14, 15, 16, 38, 39, 40, 41, 42, 43, 44, 45, 46, 47, 48, 49, 50, 51, 52, 53, 54, 55, 56, 57, 58, 59, 60, 61, 62, 63, 64] (by decide +kernel) (by decide +kernel)
set_option maxRecDepth 20000 in
theorem gX10_place_X10_worthOf : GoodIn wsX10_place (wsV RX10 144 RX10 yX10_worthOf wsX10_worthOf) := goodIn_app (goodIn_of _ (by decide +kernel)) ggX10_place_X10_worthOf
set_option maxRecDepth 20000 in
theorem ggX10_burn_X10_isPerson : GoodIn wsX10_burn wsX10_isPerson := goodIn_r _ [6, 7, 8, 9, 5, 10, 45, 46, 47, 48, 49, 50, 51, 52, 53, 54, 55, 56, 57, 58, 59, 60, 61, 62, 63, 64, 65, 66, 67, 68] (by decide +kernel) (by decide +kernel)
set_option maxRecDepth 20000 in
theorem gX10_burn_X10_isPerson : GoodIn wsX10_burn (wsV RX10 119 RX10 yX10_isPerson wsX10_isPerson) := goodIn_app (goodIn_of _ (by decide +kernel)) ggX10_burn_X10_isPerson
set_option maxRecDepth 20000 in
theorem ggX10_burn_X10_has : GoodIn wsX10_burn wsX10_has := goodIn_r _ [13] (by decide +kernel) (by decide +kernel)
set_option maxRecDepth 20000 in
theorem gX10_burn_X10_has : GoodIn wsX10_burn (va_wsS RX10 124 yX10_has wsX10_has) := goodIn_app (goodIn_of _ (by decide +kernel)) ggX10_burn_X10_has
set_option maxRecDepth 20000 in
theorem ggX10_burn_X10_all : GoodIn wsX10_burn wsX10_all := goodIn_r _ [17, 7, 45, 46, 47, 48, 49, 50, 51, 52, 53, 54, 55, 56, 57, 58, 59, 60, 61, 62, 63, 64, 65, 66, 67, 68] (by decide +kernel) (by decide +kernel)
set_option maxRecDepth 20000 in
theorem gX10_burn_X10_all : GoodIn wsX10_burn (wsV RX10 141 RX10 yX10_all wsX10_all) := goodIn_app (goodIn_of _ (by decide +kernel)) ggX10_burn_X10_all
set_option maxRecDepth 20000 in
theorem ggX10_burn_X10_wouldBuy : GoodIn wsX10_burn wsX10_wouldBuy := goodIn_r _ [21, 11, 12, 5, 13, 22, 23, 24, 25, 26, 27, 28, 29, 30, 31, 32, 33, 34, 35, 36, 37, 38, 7, 39, 40, 41, 42, 43, 44, 45, 46, 47, 48, 49, 50, 51, 52, 53, 54, 55, 56, 57, 58, 59, 60, 61, 62, 63, 64, 65, 66, 67, 68] (by decide +kernel) (by decide +kernel)
set_option maxRecDepth 20000 in
theorem gX10_burn_X10_wouldBuy : GoodIn wsX10_burn (wsV RX10 150 RX10 yX10_wouldBuy wsX10_wouldBuy) := goodIn_app (goodIn_of _ (by decide +kernel)) ggX10_burn_X10_wouldBuy
set_option maxRecDepth 20000 in
theorem ggX10_burn_X10_bits : GoodIn wsX10_burn wsX10_bits := goodIn_r _ [41] (by decide +kernel) (by decide +kernel)
set_option maxRecDepth 20000 in
theorem gX10_burn_X10_bits : GoodIn wsX10_burn (va_wsS RX10 128 yX10_bits wsX10_bits) := goodIn_app (goodIn_of _ (by decide +kernel)) ggX10_burn_X10_bits
set_option maxRecDepth 20000 in
theorem ggX10_share_X10_has : GoodIn wsX10_share wsX10_has := goodIn_r _ [10] (by decide +kernel) (by decide +kernel)
set_option maxRecDepth 20000 in
theorem gX10_share_X10_has : GoodIn wsX10_share (va_wsS RX10 124 yX10_has wsX10_has) := goodIn_app (goodIn_of _ (by decide +kernel)) ggX10_share_X10_has
set_option maxRecDepth 20000 in
theorem ggX10_share_X10_others : GoodIn wsX10_share wsX10_others := goodIn_r _ [14, 15, 16, 17, 18, 9, 19, 1, 7, 8, 10, 20, 21, 22, 30, 31, 32, 33, 34, 35, 36, 37, 38, 39, 40, 41, 42, 43, 44, 45, 46, 47, 48, 49, 50, 51, 52, 53] (by decide +kernel) (by decide +kernel)
set_option maxRecDepth 20000 in
theorem gX10_share_X10_others : GoodIn wsX10_share (wsV RX10 134 RX10 yX10_others wsX10_others) := goodIn_app (goodIn_of _ (by decide +kernel)) ggX10_share_X10_others
set_option maxRecDepth 20000 in
theorem ggX10_share_X10_worthOf : GoodIn wsX10_share wsX10_worthOf := goodIn_r _ [26, 3, 4, 5, 6, 11, 12, 13, 9, 14, 15, 16, 17, 18, 19, 1, 7, 8, 10, 20, 21, 22, 27, 28, 29, 30, 31, 32, 33, 34, 35, 36, 37, 38, 39, 40, 41, 42, 43, 44, 45, 46, 47, 48, 49, 50, 51, 52, 53] (by decide +kernel) (by decide +kernel)
set_option maxRecDepth 20000 in
theorem gX10_share_X10_worthOf : GoodIn wsX10_share (wsV RX10 144 RX10 yX10_worthOf wsX10_worthOf) := goodIn_app (goodIn_of _ (by decide +kernel)) ggX10_share_X10_worthOf
set_option maxRecDepth 20000 in
theorem ggX10_share_X10_worthBy : GoodIn wsX10_share wsX10_worthBy := goodIn_r _ [29] (by decide +kernel) (by decide +kernel)
set_option maxRecDepth 20000 in
theorem gX10_share_X10_worthBy : GoodIn wsX10_share (va_wsS RX10 137 yX10_worthBy wsX10_worthBy) := goodIn_app (goodIn_of _ (by decide +kernel)) ggX10_share_X10_worthBy
set_option maxRecDepth 20000 in
theorem ggX10_seen_X10_isPerson : GoodIn wsX10_seen wsX10_isPerson := goodIn_r _ [10, 11, 12, 13, 9, 14, 15, 16, 17, 18, 19, 20, 21, 22, 23, 24, 25, 26, 27, 28, 29, 30, 31, 32, 33, 34, 35, 36, 37, 38] (by decide +kernel) (by decide +kernel)
set_option maxRecDepth 20000 in
theorem gX10_seen_X10_isPerson : GoodIn wsX10_seen (wsV RX10 119 RX10 yX10_isPerson wsX10_isPerson) := goodIn_app (goodIn_of _ (by decide +kernel)) ggX10_seen_X10_isPerson
set_option maxRecDepth 20000 in
theorem ggX10_seen_X10_in : GoodIn wsX10_seen wsX10_in := goodIn_r _ [14] (by decide +kernel) (by decide +kernel)
set_option maxRecDepth 20000 in
theorem gX10_seen_X10_in : GoodIn wsX10_seen (va_wsS RX10 57 yX10_in wsX10_in) := goodIn_app (goodIn_of _ (by decide +kernel)) ggX10_seen_X10_in
set_option maxRecDepth 20000 in
theorem ggX10_likes_X10_isPerson : GoodIn wsX10_likes wsX10_isPerson := goodIn_r _ [11, 12, 13, 14, 10, 15, 19, 20, 21, 22, 23, 24, 25, 26, 27, 28, 29, 30, 31, 32, 33, 34, 35, 36, 37, 38, 39, 40, 41, 42] (by decide +kernel) (by decide +kernel)
set_option maxRecDepth 20000 in
theorem gX10_likes_X10_isPerson : GoodIn wsX10_likes (wsV RX10 119 RX10 yX10_isPerson wsX10_isPerson) := goodIn_app (goodIn_of _ (by decide +kernel)) ggX10_likes_X10_isPerson
set_option maxRecDepth 20000 in
theorem ggX10_likes_X10_in : GoodIn wsX10_likes wsX10_in := goodIn_r _ [15] (by decide +kernel) (by decide +kernel)
set_option maxRecDepth 20000 in
theorem gX10_likes_X10_in : GoodIn wsX10_likes (va_wsS RX10 57 yX10_in wsX10_in) := goodIn_app (goodIn_of _ (by decide +kernel)) ggX10_likes_X10_in
set_option maxRecDepth 20000 in
theorem ggX10_likes_X10_worthBy : GoodIn wsX10_likes wsX10_worthBy := goodIn_r _ [18] (by decide +kernel) (by decide +kernel)
set_option maxRecDepth 20000 in
theorem gX10_likes_X10_worthBy : GoodIn wsX10_likes (va_wsS RX10 137 yX10_worthBy wsX10_worthBy) := goodIn_app (goodIn_of _ (by decide +kernel)) ggX10_likes_X10_worthBy
set_option maxRecDepth 20000 in
theorem ggX10_year_X10_in : GoodIn wsX10_year wsX10_in := goodIn_r _ [11] (by decide +kernel) (by decide +kernel)
set_option maxRecDepth 20000 in
theorem gX10_year_X10_in : GoodIn wsX10_year (va_wsS RX10 57 yX10_in wsX10_in) := goodIn_app (goodIn_of _ (by decide +kernel)) ggX10_year_X10_in
set_option maxRecDepth 20000 in
theorem ggX10_year_X10_round : GoodIn wsX10_year wsX10_round := goodIn_r _ [15, 16, 17, 18, 19, 10, 20, 21, 22, 23, 24, 25, 26, 27, 28, 29, 3, 30, 31, 32, 33, 34, 35, 36, 37, 38, 39, 40, 41, 42, 43, 44, 45, 46, 47, 48, 49, 50, 51, 52, 53, 54, 55, 56, 57, 58, 59, 60, 61, 62, 63, 64, 65, 66, 67, 68, 69, 70, 71, 72, 73] (by decide +kernel) (by decide +kernel)
set_option maxRecDepth 20000 in
theorem gX10_year_X10_round : GoodIn wsX10_year (wsV RX10 156 RX10 yX10_round wsX10_round) := goodIn_app (goodIn_of _ (by decide +kernel)) ggX10_year_X10_round
set_option maxRecDepth 20000 in
theorem ggX10_year_X10_bits : GoodIn wsX10_year wsX10_bits := goodIn_r _ [42] (by decide +kernel) (by decide +kernel)
set_option maxRecDepth 20000 in
theorem gX10_year_X10_bits : GoodIn wsX10_year (va_wsS RX10 128 yX10_bits wsX10_bits) := goodIn_app (goodIn_of _ (by decide +kernel)) ggX10_year_X10_bits
