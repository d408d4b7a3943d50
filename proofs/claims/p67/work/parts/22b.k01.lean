set_option maxRecDepth 100000 in
theorem ok_X4_isQuietBy : (tX4_isQuietBy).all (eok mth mX4_isQuietBy) = true := ewk0_ok (by decide +kernel)
theorem cw_X4_isQuietBy : (wdq 5 93 (.code mX4_isQuietBy.1 mX4_isQuietBy.2.1 mX4_isQuietBy.2.2.1 mX4_isQuietBy.2.2.2.1) && plainName mX4_isQuietBy.1.cls) = true := by decide +kernel
set_option maxRecDepth 100000 in
theorem ok_X4_deadCouple : (tX4_deadCouple).all (eok mth mX4_deadCouple) = true := ewk0_ok (by decide +kernel)
theorem cw_X4_deadCouple : (wdq 5 109 (.code mX4_deadCouple.1 mX4_deadCouple.2.1 mX4_deadCouple.2.2.1 mX4_deadCouple.2.2.2.1) && plainName mX4_deadCouple.1.cls) = true := by decide +kernel
set_option maxRecDepth 100000 in
theorem ok_X4_longestRow : (tX4_longestRow).all (eok mth mX4_longestRow) = true := ewk0_ok (by decide +kernel)
theorem cw_X4_longestRow : (wdq 5 148 (.code mX4_longestRow.1 mX4_longestRow.2.1 mX4_longestRow.2.2.1 mX4_longestRow.2.2.2.1) && plainName mX4_longestRow.1.cls) = true := by decide +kernel
set_option maxRecDepth 100000 in
theorem ok_X4_lastsOf : (tX4_lastsOf).all (eok mth mX4_lastsOf) = true := ewk0_ok (by decide +kernel)
theorem cw_X4_lastsOf : (wdq 5 156 (.code mX4_lastsOf.1 mX4_lastsOf.2.1 mX4_lastsOf.2.2.1 mX4_lastsOf.2.2.2.1) && plainName mX4_lastsOf.1.cls) = true := by decide +kernel
set_option maxRecDepth 100000 in
theorem ok_X4_bestThreshold : (tX4_bestThreshold).all (eok mth mX4_bestThreshold) = true := ewk0_ok (by decide +kernel)
theorem cw_X4_bestThreshold : (wdq 5 175 (.code mX4_bestThreshold.1 mX4_bestThreshold.2.1 mX4_bestThreshold.2.2.1 mX4_bestThreshold.2.2.2.1) && plainName mX4_bestThreshold.1.cls) = true := by decide +kernel
set_option maxRecDepth 100000 in
theorem ok_X4_ghostsKeptOff : (tX4_ghostsKeptOff).all (eok mth mX4_ghostsKeptOff) = true := ewk0_ok (by decide +kernel)
theorem cw_X4_ghostsKeptOff : (wdq 5 179 (.code mX4_ghostsKeptOff.1 mX4_ghostsKeptOff.2.1 mX4_ghostsKeptOff.2.2.1 mX4_ghostsKeptOff.2.2.2.1) && plainName mX4_ghostsKeptOff.1.cls) = true := by decide +kernel
set_option maxRecDepth 100000 in
theorem ok_X4_reachesSome : (tX4_reachesSome).all (eok mth mX4_reachesSome) = true := ewk0_ok (by decide +kernel)
theorem cw_X4_reachesSome : (wdq 5 184 (.code mX4_reachesSome.1 mX4_reachesSome.2.1 mX4_reachesSome.2.2.1 mX4_reachesSome.2.2.2.1) && plainName mX4_reachesSome.1.cls) = true := by decide +kernel
set_option maxRecDepth 100000 in
theorem ok_X5_init : (tX5_init).all (eok mth mX5_init) = true := ewk0_ok (by decide +kernel)
theorem cw_X5_init : (wdq 0 145 (.code mX5_init.1 mX5_init.2.1 mX5_init.2.2.1 mX5_init.2.2.2.1) && plainName mX5_init.1.cls) = true := by decide +kernel
set_option maxRecDepth 100000 in
theorem ok_X5_clear : (tX5_clear).all (eok mth mX5_clear) = true := ewk0_ok (by decide +kernel)
theorem cw_X5_clear : (wdq 2 115 (.code mX5_clear.1 mX5_clear.2.1 mX5_clear.2.2.1 mX5_clear.2.2.2.1) && plainName mX5_clear.1.cls) = true := by decide +kernel
set_option maxRecDepth 100000 in
theorem ok_X5_copyFrom : (tX5_copyFrom).all (eok mth mX5_copyFrom) = true := ewk0_ok (by decide +kernel)
theorem cw_X5_copyFrom : (wdq 3 50 (.code mX5_copyFrom.1 mX5_copyFrom.2.1 mX5_copyFrom.2.2.1 mX5_copyFrom.2.2.2.1) && plainName mX5_copyFrom.1.cls) = true := by decide +kernel
set_option maxRecDepth 100000 in
theorem ok_X5_hang : (tX5_hang).all (eok mth mX5_hang) = true := ewk0_ok (by decide +kernel)
theorem cw_X5_hang : (wdq 2 220 (.code mX5_hang.1 mX5_hang.2.1 mX5_hang.2.2.1 mX5_hang.2.2.2.1) && plainName mX5_hang.1.cls) = true := by decide +kernel
set_option maxRecDepth 100000 in
theorem ok_X5_strew : (tX5_strew).all (eok mth mX5_strew) = true := ewk0_ok (by decide +kernel)
theorem cw_X5_strew : (wdq 4 72 (.code mX5_strew.1 mX5_strew.2.1 mX5_strew.2.2.1 mX5_strew.2.2.2.1) && plainName mX5_strew.1.cls) = true := by decide +kernel
set_option maxRecDepth 100000 in
theorem ok_X5_couples : (tX5_couples).all (eok mth mX5_couples) = true := ewk0_ok (by decide +kernel)
theorem cw_X5_couples : (wdq 3 156 (.code mX5_couples.1 mX5_couples.2.1 mX5_couples.2.2.1 mX5_couples.2.2.2.1) && plainName mX5_couples.1.cls) = true := by decide +kernel
set_option maxRecDepth 100000 in
theorem ok_X5_around : (tX5_around).all (eok mth mX5_around) = true := ewk0_ok (by decide +kernel)
theorem cw_X5_around : (wdq 3 34 (.code mX5_around.1 mX5_around.2.1 mX5_around.2.2.1 mX5_around.2.2.2.1) && plainName mX5_around.1.cls) = true := by decide +kernel
set_option maxRecDepth 100000 in
theorem ok_X5_spread : (tX5_spread).all (eok mth mX5_spread) = true := ewk0_ok (by decide +kernel)
theorem cw_X5_spread : (wdq 4 186 (.code mX5_spread.1 mX5_spread.2.1 mX5_spread.2.2.1 mX5_spread.2.2.2.1) && plainName mX5_spread.1.cls) = true := by decide +kernel
set_option maxRecDepth 100000 in
theorem ok_X5_survey : (tX5_survey).all (eok mth mX5_survey) = true := ewk0_ok (by decide +kernel)
theorem cw_X5_survey : (wdq 3 23 (.code mX5_survey.1 mX5_survey.2.1 mX5_survey.2.2.1 mX5_survey.2.2.2.1) && plainName mX5_survey.1.cls) = true := by decide +kernel
set_option maxRecDepth 100000 in
theorem ok_X5_measureFrom : (tX5_measureFrom).all (eok mth mX5_measureFrom) = true := ewk0_ok (by decide +kernel)
theorem cw_X5_measureFrom : (wdq 3 27 (.code mX5_measureFrom.1 mX5_measureFrom.2.1 mX5_measureFrom.2.2.1 mX5_measureFrom.2.2.2.1) && plainName mX5_measureFrom.1.cls) = true := by decide +kernel
set_option maxRecDepth 100000 in
theorem ok_X5_leastNext : (tX5_leastNext).all (eok mth mX5_leastNext) = true := ewk0_ok (by decide +kernel)
theorem cw_X5_leastNext : (wdq 3 38 (.code mX5_leastNext.1 mX5_leastNext.2.1 mX5_leastNext.2.2.1 mX5_leastNext.2.2.2.1) && plainName mX5_leastNext.1.cls) = true := by decide +kernel
set_option maxRecDepth 100000 in
theorem ok_X5_distance : (tX5_distance).all (eok mth mX5_distance) = true := ewk0_ok (by decide +kernel)
theorem cw_X5_distance : (wdq 3 42 (.code mX5_distance.1 mX5_distance.2.1 mX5_distance.2.2.1 mX5_distance.2.2.2.1) && plainName mX5_distance.1.cls) = true := by decide +kernel
set_option maxRecDepth 100000 in
theorem ok_X5_nextHouse : (tX5_nextHouse).all (eok mth mX5_nextHouse) = true := ewk0_ok (by decide +kernel)
theorem cw_X5_nextHouse : (wdq 4 18 (.code mX5_nextHouse.1 mX5_nextHouse.2.1 mX5_nextHouse.2.2.1 mX5_nextHouse.2.2.2.1) && plainName mX5_nextHouse.1.cls) = true := by decide +kernel
set_option maxRecDepth 100000 in
theorem ok_X5_straits : (tX5_straits).all (eok mth mX5_straits) = true := ewk0_ok (by decide +kernel)
theorem cw_X5_straits : (wdq 4 182 (.code mX5_straits.1 mX5_straits.2.1 mX5_straits.2.2.1 mX5_straits.2.2.2.1) && plainName mX5_straits.1.cls) = true := by decide +kernel
set_option maxRecDepth 100000 in
theorem ok_X5_shortestWays : (tX5_shortestWays).all (eok mth mX5_shortestWays) = true := ewk0_ok (by decide +kernel)
theorem cw_X5_shortestWays : (wdq 5 2 (.code mX5_shortestWays.1 mX5_shortestWays.2.1 mX5_shortestWays.2.2.1 mX5_shortestWays.2.2.2.1) && plainName mX5_shortestWays.1.cls) = true := by decide +kernel
set_option maxRecDepth 100000 in
theorem ok_X5_waysInto : (tX5_waysInto).all (eok mth mX5_waysInto) = true := ewk0_ok (by decide +kernel)
theorem cw_X5_waysInto : (wdq 5 6 (.code mX5_waysInto.1 mX5_waysInto.2.1 mX5_waysInto.2.2.1 mX5_waysInto.2.2.2.1) && plainName mX5_waysInto.1.cls) = true := by decide +kernel
set_option maxRecDepth 100000 in
theorem ok_X6_init : (tX6_init).all (eok mth mX6_init) = true := ewk0_ok (by decide +kernel)
theorem cw_X6_init : (wdq 1 119 (.code mX6_init.1 mX6_init.2.1 mX6_init.2.2.1 mX6_init.2.2.2.1) && plainName mX6_init.1.cls) = true := by decide +kernel
set_option maxRecDepth 100000 in
theorem ok_X6_after : (tX6_after).all (eok mth mX6_after) = true := ewk0_ok (by decide +kernel)
theorem cw_X6_after : (wdq 4 120 (.code mX6_after.1 mX6_after.2.1 mX6_after.2.2.1 mX6_after.2.2.2.1) && plainName mX6_after.1.cls) = true := by decide +kernel
set_option maxRecDepth 100000 in
theorem ok_X6_nightsToRest : (tX6_nightsToRest).all (eok mth mX6_nightsToRest) = true := ewk0_ok (by decide +kernel)
theorem cw_X6_nightsToRest : (wdq 4 134 (.code mX6_nightsToRest.1 mX6_nightsToRest.2.1 mX6_nightsToRest.2.2.1 mX6_nightsToRest.2.2.2.1) && plainName mX6_nightsToRest.1.cls) = true := by decide +kernel
set_option maxRecDepth 100000 in
theorem ok_X6_nightsToQuiet : (tX6_nightsToQuiet).all (eok mth mX6_nightsToQuiet) = true := ewk0_ok (by decide +kernel)
theorem cw_X6_nightsToQuiet : (wdq 4 143 (.code mX6_nightsToQuiet.1 mX6_nightsToQuiet.2.1 mX6_nightsToQuiet.2.2.1 mX6_nightsToQuiet.2.2.2.1) && plainName mX6_nightsToQuiet.1.cls) = true := by decide +kernel
set_option maxRecDepth 100000 in
theorem ok_X6_nightsToLabour : (tX6_nightsToLabour).all (eok mth mX6_nightsToLabour) = true := ewk0_ok (by decide +kernel)
theorem cw_X6_nightsToLabour : (wdq 4 156 (.code mX6_nightsToLabour.1 mX6_nightsToLabour.2.1 mX6_nightsToLabour.2.2.1 mX6_nightsToLabour.2.2.2.1) && plainName mX6_nightsToLabour.1.cls) = true := by decide +kernel
set_option maxRecDepth 100000 in
theorem ok_X6_nightsToMeeting : (tX6_nightsToMeeting).all (eok mth mX6_nightsToMeeting) = true := ewk0_ok (by decide +kernel)
theorem cw_X6_nightsToMeeting : (wdq 4 208 (.code mX6_nightsToMeeting.1 mX6_nightsToMeeting.2.1 mX6_nightsToMeeting.2.2.1 mX6_nightsToMeeting.2.2.2.1) && plainName mX6_nightsToMeeting.1.cls) = true := by decide +kernel
set_option maxRecDepth 100000 in
theorem ok_X6_ghostsSeen : (tX6_ghostsSeen).all (eok mth mX6_ghostsSeen) = true := ewk0_ok (by decide +kernel)
theorem cw_X6_ghostsSeen : (wdq 4 164 (.code mX6_ghostsSeen.1 mX6_ghostsSeen.2.1 mX6_ghostsSeen.2.2.1 mX6_ghostsSeen.2.2.2.1) && plainName mX6_ghostsSeen.1.cls) = true := by decide +kernel
set_option maxRecDepth 100000 in
theorem ok_X6_nightsSpent : (tX6_nightsSpent).all (eok mth mX6_nightsSpent) = true := ewk0_ok (by decide +kernel)
theorem cw_X6_nightsSpent : (wdq 4 174 (.code mX6_nightsSpent.1 mX6_nightsSpent.2.1 mX6_nightsSpent.2.2.1 mX6_nightsSpent.2.2.2.1) && plainName mX6_nightsSpent.1.cls) = true := by decide +kernel
set_option maxRecDepth 100000 in
theorem ok_X6_housesSeen : (tX6_housesSeen).all (eok mth mX6_housesSeen) = true := ewk0_ok (by decide +kernel)
theorem cw_X6_housesSeen : (wdq 4 199 (.code mX6_housesSeen.1 mX6_housesSeen.2.1 mX6_housesSeen.2.2.1 mX6_housesSeen.2.2.2.1) && plainName mX6_housesSeen.1.cls) = true := by decide +kernel
set_option maxRecDepth 100000 in
theorem ok_X6_fullestHouse : (tX6_fullestHouse).all (eok mth mX6_fullestHouse) = true := ewk0_ok (by decide +kernel)
theorem cw_X6_fullestHouse : (wdq 4 216 (.code mX6_fullestHouse.1 mX6_fullestHouse.2.1 mX6_fullestHouse.2.2.1 mX6_fullestHouse.2.2.2.1) && plainName mX6_fullestHouse.1.cls) = true := by decide +kernel
set_option maxRecDepth 100000 in
theorem ok_X6_countVisits : (tX6_countVisits).all (eok mth mX6_countVisits) = true := ewk0_ok (by decide +kernel)
theorem cw_X6_countVisits : (wdq 4 221 (.code mX6_countVisits.1 mX6_countVisits.2.1 mX6_countVisits.2.2.1 mX6_countVisits.2.2.2.1) && plainName mX6_countVisits.1.cls) = true := by decide +kernel
set_option maxRecDepth 100000 in
theorem ok_X7_init : (tX7_init).all (eok mth mX7_init) = true := ewk0_ok (by decide +kernel)
theorem cw_X7_init : (wdq 1 41 (.code mX7_init.1 mX7_init.2.1 mX7_init.2.2.1 mX7_init.2.2.2.1) && plainName mX7_init.1.cls) = true := by decide +kernel
set_option maxRecDepth 100000 in
theorem ok_X7_clear : (tX7_clear).all (eok mth mX7_clear) = true := ewk0_ok (by decide +kernel)
theorem cw_X7_clear : (wdq 3 61 (.code mX7_clear.1 mX7_clear.2.1 mX7_clear.2.2.1 mX7_clear.2.2.2.1) && plainName mX7_clear.1.cls) = true := by decide +kernel
set_option maxRecDepth 100000 in
theorem ok_X7_copyFrom : (tX7_copyFrom).all (eok mth mX7_copyFrom) = true := ewk0_ok (by decide +kernel)
theorem cw_X7_copyFrom : (wdq 3 143 (.code mX7_copyFrom.1 mX7_copyFrom.2.1 mX7_copyFrom.2.2.1 mX7_copyFrom.2.2.2.1) && plainName mX7_copyFrom.1.cls) = true := by decide +kernel
set_option maxRecDepth 100000 in
theorem ok_X7_add : (tX7_add).all (eok mth mX7_add) = true := ewk0_ok (by decide +kernel)
theorem cw_X7_add : (wdq 3 86 (.code mX7_add.1 mX7_add.2.1 mX7_add.2.2.1 mX7_add.2.2.2.1) && plainName mX7_add.1.cls) = true := by decide +kernel
set_option maxRecDepth 100000 in
theorem ok_X8_init : (tX8_init).all (eok mth mX8_init) = true := ewk0_ok (by decide +kernel)
theorem cw_X8_init : (wdq 1 97 (.code mX8_init.1 mX8_init.2.1 mX8_init.2.2.1 mX8_init.2.2.2.1) && plainName mX8_init.1.cls) = true := by decide +kernel
set_option maxRecDepth 100000 in
theorem ok_X8_readAll : (tX8_readAll).all (eok mth mX8_readAll) = true := ewk0_ok (by decide +kernel)
theorem cw_X8_readAll : (wdq 3 73 (.code mX8_readAll.1 mX8_readAll.2.1 mX8_readAll.2.2.1 mX8_readAll.2.2.2.1) && plainName mX8_readAll.1.cls) = true := by decide +kernel
set_option maxRecDepth 100000 in
theorem ok_X8_readEnd : (tX8_readEnd).all (eok mth mX8_readEnd) = true := ewk0_ok (by decide +kernel)
theorem cw_X8_readEnd : (wdq 3 81 (.code mX8_readEnd.1 mX8_readEnd.2.1 mX8_readEnd.2.2.1 mX8_readEnd.2.2.2.1) && plainName mX8_readEnd.1.cls) = true := by decide +kernel
set_option maxRecDepth 100000 in
theorem ok_X8_readStep : (tX8_readStep).all (eok mth mX8_readStep) = true := ewk0_ok (by decide +kernel)
theorem cw_X8_readStep : (wdq 3 92 (.code mX8_readStep.1 mX8_readStep.2.1 mX8_readStep.2.2.1 mX8_readStep.2.2.2.1) && plainName mX8_readStep.1.cls) = true := by decide +kernel
set_option maxRecDepth 100000 in
theorem ok_X8_isStep : (tX8_isStep).all (eok mth mX8_isStep) = true := ewk0_ok (by decide +kernel)
theorem cw_X8_isStep : (wdq 3 95 (.code mX8_isStep.1 mX8_isStep.2.1 mX8_isStep.2.2.1 mX8_isStep.2.2.2.1) && plainName mX8_isStep.1.cls) = true := by decide +kernel
set_option maxRecDepth 100000 in
theorem ok_X8_readRest : (tX8_readRest).all (eok mth mX8_readRest) = true := ewk0_ok (by decide +kernel)
theorem cw_X8_readRest : (wdq 3 123 (.code mX8_readRest.1 mX8_readRest.2.1 mX8_readRest.2.2.1 mX8_readRest.2.2.2.1) && plainName mX8_readRest.1.cls) = true := by decide +kernel
set_option maxRecDepth 100000 in
theorem ok_X8_readCount : (tX8_readCount).all (eok mth mX8_readCount) = true := ewk0_ok (by decide +kernel)
theorem cw_X8_readCount : (wdq 3 127 (.code mX8_readCount.1 mX8_readCount.2.1 mX8_readCount.2.2.1 mX8_readCount.2.2.2.1) && plainName mX8_readCount.1.cls) = true := by decide +kernel
set_option maxRecDepth 100000 in
theorem ok_X8_readPersonStep : (tX8_readPersonStep).all (eok mth mX8_readPersonStep) = true := ewk0_ok (by decide +kernel)
theorem cw_X8_readPersonStep : (wdq 3 113 (.code mX8_readPersonStep.1 mX8_readPersonStep.2.1 mX8_readPersonStep.2.2.1 mX8_readPersonStep.2.2.2.1) && plainName mX8_readPersonStep.1.cls) = true := by decide +kernel
set_option maxRecDepth 100000 in
theorem ok_X8_readHouseStep : (tX8_readHouseStep).all (eok mth mX8_readHouseStep) = true := ewk0_ok (by decide +kernel)
theorem cw_X8_readHouseStep : (wdq 3 131 (.code mX8_readHouseStep.1 mX8_readHouseStep.2.1 mX8_readHouseStep.2.2.1 mX8_readHouseStep.2.2.2.1) && plainName mX8_readHouseStep.1.cls) = true := by decide +kernel
set_option maxRecDepth 100000 in
theorem ok_X8_readForgive : (tX8_readForgive).all (eok mth mX8_readForgive) = true := ewk0_ok (by decide +kernel)
theorem cw_X8_readForgive : (wdq 3 135 (.code mX8_readForgive.1 mX8_readForgive.2.1 mX8_readForgive.2.2.1 mX8_readForgive.2.2.2.1) && plainName mX8_readForgive.1.cls) = true := by decide +kernel
set_option maxRecDepth 100000 in
theorem ok_X8_readForge : (tX8_readForge).all (eok mth mX8_readForge) = true := ewk0_ok (by decide +kernel)
theorem cw_X8_readForge : (wdq 3 139 (.code mX8_readForge.1 mX8_readForge.2.1 mX8_readForge.2.2.1 mX8_readForge.2.2.2.1) && plainName mX8_readForge.1.cls) = true := by decide +kernel
set_option maxRecDepth 100000 in
theorem ok_X8_readTest : (tX8_readTest).all (eok mth mX8_readTest) = true := ewk0_ok (by decide +kernel)
theorem cw_X8_readTest : (wdq 3 99 (.code mX8_readTest.1 mX8_readTest.2.1 mX8_readTest.2.2.1 mX8_readTest.2.2.2.1) && plainName mX8_readTest.1.cls) = true := by decide +kernel
set_option maxRecDepth 100000 in
theorem ok_X8_readLabourTest : (tX8_readLabourTest).all (eok mth mX8_readLabourTest) = true := ewk0_ok (by decide +kernel)
theorem cw_X8_readLabourTest : (wdq 3 103 (.code mX8_readLabourTest.1 mX8_readLabourTest.2.1 mX8_readLabourTest.2.2.1 mX8_readLabourTest.2.2.2.1) && plainName mX8_readLabourTest.1.cls) = true := by decide +kernel
set_option maxRecDepth 100000 in
theorem ok_X8_readAtTest : (tX8_readAtTest).all (eok mth mX8_readAtTest) = true := ewk0_ok (by decide +kernel)
theorem cw_X8_readAtTest : (wdq 3 118 (.code mX8_readAtTest.1 mX8_readAtTest.2.1 mX8_readAtTest.2.2.1 mX8_readAtTest.2.2.2.1) && plainName mX8_readAtTest.1.cls) = true := by decide +kernel
set_option maxRecDepth 100000 in
theorem ok_X9_init : (tX9_init).all (eok mth mX9_init) = true := ewk0_ok (by decide +kernel)
theorem cw_X9_init : (wdq 0 36 (.code mX9_init.1 mX9_init.2.1 mX9_init.2.2.1 mX9_init.2.2.2.1) && plainName mX9_init.1.cls) = true := by decide +kernel
set_option maxRecDepth 100000 in
theorem ok_X9_put : (tX9_put).all (eok mth mX9_put) = true := ewk0_ok (by decide +kernel)
theorem cw_X9_put : (wdq 2 99 (.code mX9_put.1 mX9_put.2.1 mX9_put.2.2.1 mX9_put.2.2.2.1) && plainName mX9_put.1.cls) = true := by decide +kernel
set_option maxRecDepth 100000 in
theorem ok_X9_begin : (tX9_begin).all (eok mth mX9_begin) = true := ewk0_ok (by decide +kernel)
theorem cw_X9_begin : (wdq 2 128 (.code mX9_begin.1 mX9_begin.2.1 mX9_begin.2.2.1 mX9_begin.2.2.2.1) && plainName mX9_begin.1.cls) = true := by decide +kernel
set_option maxRecDepth 100000 in
theorem ok_X9_advance : (tX9_advance).all (eok mth mX9_advance) = true := ewk0_ok (by decide +kernel)
theorem cw_X9_advance : (wdq 2 135 (.code mX9_advance.1 mX9_advance.2.1 mX9_advance.2.2.1 mX9_advance.2.2.2.1) && plainName mX9_advance.1.cls) = true := by decide +kernel
set_option maxRecDepth 100000 in
theorem ok_X9_scanWord : (tX9_scanWord).all (eok mth mX9_scanWord) = true := ewk0_ok (by decide +kernel)
theorem cw_X9_scanWord : (wdq 2 145 (.code mX9_scanWord.1 mX9_scanWord.2.1 mX9_scanWord.2.2.1 mX9_scanWord.2.2.2.1) && plainName mX9_scanWord.1.cls) = true := by decide +kernel
set_option maxRecDepth 100000 in
theorem ok_X9_scanNumber : (tX9_scanNumber).all (eok mth mX9_scanNumber) = true := ewk0_ok (by decide +kernel)
theorem cw_X9_scanNumber : (wdq 2 152 (.code mX9_scanNumber.1 mX9_scanNumber.2.1 mX9_scanNumber.2.2.1 mX9_scanNumber.2.2.2.1) && plainName mX9_scanNumber.1.cls) = true := by decide +kernel
set_option maxRecDepth 100000 in
theorem ok_X9_isBlank : (tX9_isBlank).all (eok mth mX9_isBlank) = true := ewk0_ok (by decide +kernel)
theorem cw_X9_isBlank : (wdq 2 138 (.code mX9_isBlank.1 mX9_isBlank.2.1 mX9_isBlank.2.2.1 mX9_isBlank.2.2.2.1) && plainName mX9_isBlank.1.cls) = true := by decide +kernel
set_option maxRecDepth 100000 in
theorem ok_X9_isLetter : (tX9_isLetter).all (eok mth mX9_isLetter) = true := ewk0_ok (by decide +kernel)
theorem cw_X9_isLetter : (wdq 2 141 (.code mX9_isLetter.1 mX9_isLetter.2.1 mX9_isLetter.2.2.1 mX9_isLetter.2.2.2.1) && plainName mX9_isLetter.1.cls) = true := by decide +kernel
