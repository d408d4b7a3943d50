set_option maxRecDepth 100000 in
theorem ok_X0_init : (tX0_init).all (eok mth mX0_init) = true := by decide +kernel
theorem cw_X0_init : (wdq 0 178 (.code mX0_init.1 mX0_init.2.1 mX0_init.2.2.1 mX0_init.2.2.2.1) && plainName mX0_init.1.cls) = true := by decide +kernel
set_option maxRecDepth 100000 in
theorem ok_X0_clear : (tX0_clear).all (eok mth mX0_clear) = true := by decide +kernel
theorem cw_X0_clear : (wdq 2 122 (.code mX0_clear.1 mX0_clear.2.1 mX0_clear.2.2.1 mX0_clear.2.2.2.1) && plainName mX0_clear.1.cls) = true := by decide +kernel
set_option maxRecDepth 100000 in
theorem ok_X0_copyFrom : (tX0_copyFrom).all (eok mth mX0_copyFrom) = true := by decide +kernel
theorem cw_X0_copyFrom : (wdq 3 55 (.code mX0_copyFrom.1 mX0_copyFrom.2.1 mX0_copyFrom.2.2.1 mX0_copyFrom.2.2.2.1) && plainName mX0_copyFrom.1.cls) = true := by decide +kernel
set_option maxRecDepth 100000 in
theorem ok_X0_of : (tX0_of).all (eok mth mX0_of) = true := by decide +kernel
theorem cw_X0_of : (wdq 3 194 (.code mX0_of.1 mX0_of.2.1 mX0_of.2.2.1 mX0_of.2.2.2.1) && plainName mX0_of.1.cls) = true := by decide +kernel
set_option maxRecDepth 100000 in
theorem ok_X0_sorrow : (tX0_sorrow).all (eok mth mX0_sorrow) = true := by decide +kernel
theorem cw_X0_sorrow : (wdq 3 166 (.code mX0_sorrow.1 mX0_sorrow.2.1 mX0_sorrow.2.2.1 mX0_sorrow.2.2.2.1) && plainName mX0_sorrow.1.cls) = true := by decide +kernel
set_option maxRecDepth 100000 in
theorem ok_X0_debtorsOf : (tX0_debtorsOf).all (eok mth mX0_debtorsOf) = true := by decide +kernel
theorem cw_X0_debtorsOf : (wdq 5 152 (.code mX0_debtorsOf.1 mX0_debtorsOf.2.1 mX0_debtorsOf.2.2.1 mX0_debtorsOf.2.2.2.1) && plainName mX0_debtorsOf.1.cls) = true := by decide +kernel
set_option maxRecDepth 100000 in
theorem ok_X1_init : (tX1_init).all (eok mth mX1_init) = true := by decide +kernel
theorem cw_X1_init : (wdq 0 139 (.code mX1_init.1 mX1_init.2.1 mX1_init.2.2.1 mX1_init.2.2.2.1) && plainName mX1_init.1.cls) = true := by decide +kernel
set_option maxRecDepth 100000 in
theorem ok_X1_clear : (tX1_clear).all (eok mth mX1_clear) = true := by decide +kernel
theorem cw_X1_clear : (wdq 2 111 (.code mX1_clear.1 mX1_clear.2.1 mX1_clear.2.2.1 mX1_clear.2.2.2.1) && plainName mX1_clear.1.cls) = true := by decide +kernel
set_option maxRecDepth 100000 in
theorem ok_X1_copyFrom : (tX1_copyFrom).all (eok mth mX1_copyFrom) = true := by decide +kernel
theorem cw_X1_copyFrom : (wdq 3 46 (.code mX1_copyFrom.1 mX1_copyFrom.2.1 mX1_copyFrom.2.2.1 mX1_copyFrom.2.2.2.1) && plainName mX1_copyFrom.1.cls) = true := by decide +kernel
set_option maxRecDepth 100000 in
theorem ok_X1_ghosts : (tX1_ghosts).all (eok mth mX1_ghosts) = true := by decide +kernel
theorem cw_X1_ghosts : (wdq 3 170 (.code mX1_ghosts.1 mX1_ghosts.2.1 mX1_ghosts.2.2.1 mX1_ghosts.2.2.2.1) && plainName mX1_ghosts.1.cls) = true := by decide +kernel
set_option maxRecDepth 100000 in
theorem ok_X1_ghostHouses : (tX1_ghostHouses).all (eok mth mX1_ghostHouses) = true := by decide +kernel
theorem cw_X1_ghostHouses : (wdq 4 147 (.code mX1_ghostHouses.1 mX1_ghostHouses.2.1 mX1_ghostHouses.2.2.1 mX1_ghostHouses.2.2.2.1) && plainName mX1_ghostHouses.1.cls) = true := by decide +kernel
set_option maxRecDepth 100000 in
theorem ok_X1_passNights : (tX1_passNights).all (eok mth mX1_passNights) = true := by decide +kernel
theorem cw_X1_passNights : (wdq 3 239 (.code mX1_passNights.1 mX1_passNights.2.1 mX1_passNights.2.2.1 mX1_passNights.2.2.2.1) && plainName mX1_passNights.1.cls) = true := by decide +kernel
set_option maxRecDepth 100000 in
theorem ok_X2_init : (tX2_init).all (eok mth mX2_init) = true := by decide +kernel
theorem cw_X2_init : (wdq 1 84 (.code mX2_init.1 mX2_init.2.1 mX2_init.2.2.1 mX2_init.2.2.2.1) && plainName mX2_init.1.cls) = true := by decide +kernel
set_option maxRecDepth 100000 in
theorem ok_X2_readAll : (tX2_readAll).all (eok mth mX2_readAll) = true := by decide +kernel
theorem cw_X2_readAll : (wdq 2 107 (.code mX2_readAll.1 mX2_readAll.2.1 mX2_readAll.2.2.1 mX2_readAll.2.2.2.1) && plainName mX2_readAll.1.cls) = true := by decide +kernel
set_option maxRecDepth 100000 in
theorem ok_X3_init : (tX3_init).all (eok mth mX3_init) = true := by decide +kernel
theorem cw_X3_init : (wdq 1 152 (.code mX3_init.1 mX3_init.2.1 mX3_init.2.2.1 mX3_init.2.2.2.1) && plainName mX3_init.1.cls) = true := by decide +kernel
set_option maxRecDepth 100000 in
theorem ok_X4_init : (tX4_init).all (eok mth mX4_init) = true := by decide +kernel
theorem cw_X4_init : (wdq 1 134 (.code mX4_init.1 mX4_init.2.1 mX4_init.2.2.1 mX4_init.2.2.2.1) && plainName mX4_init.1.cls) = true := by decide +kernel
set_option maxRecDepth 100000 in
theorem ok_X4_bestDeath : (tX4_bestDeath).all (eok mth mX4_bestDeath) = true := by decide +kernel
theorem cw_X4_bestDeath : (wdq 5 30 (.code mX4_bestDeath.1 mX4_bestDeath.2.1 mX4_bestDeath.2.2.1 mX4_bestDeath.2.2.2.1) && plainName mX4_bestDeath.1.cls) = true := by decide +kernel
set_option maxRecDepth 100000 in
theorem ok_X4_bestKeeper : (tX4_bestKeeper).all (eok mth mX4_bestKeeper) = true := by decide +kernel
theorem cw_X4_bestKeeper : (wdq 5 40 (.code mX4_bestKeeper.1 mX4_bestKeeper.2.1 mX4_bestKeeper.2.2.1 mX4_bestKeeper.2.2.2.1) && plainName mX4_bestKeeper.1.cls) = true := by decide +kernel
set_option maxRecDepth 100000 in
theorem ok_X4_deadCouple : (tX4_deadCouple).all (eok mth mX4_deadCouple) = true := by decide +kernel
theorem cw_X4_deadCouple : (wdq 5 109 (.code mX4_deadCouple.1 mX4_deadCouple.2.1 mX4_deadCouple.2.2.1 mX4_deadCouple.2.2.2.1) && plainName mX4_deadCouple.1.cls) = true := by decide +kernel
set_option maxRecDepth 100000 in
theorem ok_X4_longestRow : (tX4_longestRow).all (eok mth mX4_longestRow) = true := by decide +kernel
theorem cw_X4_longestRow : (wdq 5 148 (.code mX4_longestRow.1 mX4_longestRow.2.1 mX4_longestRow.2.2.1 mX4_longestRow.2.2.2.1) && plainName mX4_longestRow.1.cls) = true := by decide +kernel
set_option maxRecDepth 100000 in
theorem ok_X4_bestThreshold : (tX4_bestThreshold).all (eok mth mX4_bestThreshold) = true := by decide +kernel
theorem cw_X4_bestThreshold : (wdq 5 175 (.code mX4_bestThreshold.1 mX4_bestThreshold.2.1 mX4_bestThreshold.2.2.1 mX4_bestThreshold.2.2.2.1) && plainName mX4_bestThreshold.1.cls) = true := by decide +kernel
set_option maxRecDepth 100000 in
theorem ok_X5_init : (tX5_init).all (eok mth mX5_init) = true := by decide +kernel
theorem cw_X5_init : (wdq 0 145 (.code mX5_init.1 mX5_init.2.1 mX5_init.2.2.1 mX5_init.2.2.2.1) && plainName mX5_init.1.cls) = true := by decide +kernel
set_option maxRecDepth 100000 in
theorem ok_X5_clear : (tX5_clear).all (eok mth mX5_clear) = true := by decide +kernel
theorem cw_X5_clear : (wdq 2 115 (.code mX5_clear.1 mX5_clear.2.1 mX5_clear.2.2.1 mX5_clear.2.2.2.1) && plainName mX5_clear.1.cls) = true := by decide +kernel
set_option maxRecDepth 100000 in
theorem ok_X5_copyFrom : (tX5_copyFrom).all (eok mth mX5_copyFrom) = true := by decide +kernel
theorem cw_X5_copyFrom : (wdq 3 50 (.code mX5_copyFrom.1 mX5_copyFrom.2.1 mX5_copyFrom.2.2.1 mX5_copyFrom.2.2.2.1) && plainName mX5_copyFrom.1.cls) = true := by decide +kernel
set_option maxRecDepth 100000 in
theorem ok_X5_couples : (tX5_couples).all (eok mth mX5_couples) = true := by decide +kernel
theorem cw_X5_couples : (wdq 3 156 (.code mX5_couples.1 mX5_couples.2.1 mX5_couples.2.2.1 mX5_couples.2.2.2.1) && plainName mX5_couples.1.cls) = true := by decide +kernel
set_option maxRecDepth 100000 in
theorem ok_X5_around : (tX5_around).all (eok mth mX5_around) = true := by decide +kernel
theorem cw_X5_around : (wdq 3 34 (.code mX5_around.1 mX5_around.2.1 mX5_around.2.2.1 mX5_around.2.2.2.1) && plainName mX5_around.1.cls) = true := by decide +kernel
set_option maxRecDepth 100000 in
theorem ok_X5_spread : (tX5_spread).all (eok mth mX5_spread) = true := by decide +kernel
theorem cw_X5_spread : (wdq 4 186 (.code mX5_spread.1 mX5_spread.2.1 mX5_spread.2.2.1 mX5_spread.2.2.2.1) && plainName mX5_spread.1.cls) = true := by decide +kernel
set_option maxRecDepth 100000 in
theorem ok_X5_survey : (tX5_survey).all (eok mth mX5_survey) = true := by decide +kernel
theorem cw_X5_survey : (wdq 3 23 (.code mX5_survey.1 mX5_survey.2.1 mX5_survey.2.2.1 mX5_survey.2.2.2.1) && plainName mX5_survey.1.cls) = true := by decide +kernel
set_option maxRecDepth 100000 in
theorem ok_X6_init : (tX6_init).all (eok mth mX6_init) = true := by decide +kernel
theorem cw_X6_init : (wdq 1 119 (.code mX6_init.1 mX6_init.2.1 mX6_init.2.2.1 mX6_init.2.2.2.1) && plainName mX6_init.1.cls) = true := by decide +kernel
set_option maxRecDepth 100000 in
theorem ok_X6_fullestHouse : (tX6_fullestHouse).all (eok mth mX6_fullestHouse) = true := by decide +kernel
theorem cw_X6_fullestHouse : (wdq 4 216 (.code mX6_fullestHouse.1 mX6_fullestHouse.2.1 mX6_fullestHouse.2.2.1 mX6_fullestHouse.2.2.2.1) && plainName mX6_fullestHouse.1.cls) = true := by decide +kernel
set_option maxRecDepth 100000 in
theorem ok_X6_countVisits : (tX6_countVisits).all (eok mth mX6_countVisits) = true := by decide +kernel
theorem cw_X6_countVisits : (wdq 4 221 (.code mX6_countVisits.1 mX6_countVisits.2.1 mX6_countVisits.2.2.1 mX6_countVisits.2.2.2.1) && plainName mX6_countVisits.1.cls) = true := by decide +kernel
set_option maxRecDepth 100000 in
theorem ok_X7_init : (tX7_init).all (eok mth mX7_init) = true := by decide +kernel
theorem cw_X7_init : (wdq 1 41 (.code mX7_init.1 mX7_init.2.1 mX7_init.2.2.1 mX7_init.2.2.2.1) && plainName mX7_init.1.cls) = true := by decide +kernel
set_option maxRecDepth 100000 in
theorem ok_X7_clear : (tX7_clear).all (eok mth mX7_clear) = true := by decide +kernel
theorem cw_X7_clear : (wdq 3 61 (.code mX7_clear.1 mX7_clear.2.1 mX7_clear.2.2.1 mX7_clear.2.2.2.1) && plainName mX7_clear.1.cls) = true := by decide +kernel
set_option maxRecDepth 100000 in
theorem ok_X7_copyFrom : (tX7_copyFrom).all (eok mth mX7_copyFrom) = true := by decide +kernel
theorem cw_X7_copyFrom : (wdq 3 143 (.code mX7_copyFrom.1 mX7_copyFrom.2.1 mX7_copyFrom.2.2.1 mX7_copyFrom.2.2.2.1) && plainName mX7_copyFrom.1.cls) = true := by decide +kernel
set_option maxRecDepth 100000 in
theorem ok_X8_init : (tX8_init).all (eok mth mX8_init) = true := by decide +kernel
theorem cw_X8_init : (wdq 1 97 (.code mX8_init.1 mX8_init.2.1 mX8_init.2.2.1 mX8_init.2.2.2.1) && plainName mX8_init.1.cls) = true := by decide +kernel
set_option maxRecDepth 100000 in
theorem ok_X8_readAll : (tX8_readAll).all (eok mth mX8_readAll) = true := by decide +kernel
theorem cw_X8_readAll : (wdq 3 73 (.code mX8_readAll.1 mX8_readAll.2.1 mX8_readAll.2.2.1 mX8_readAll.2.2.2.1) && plainName mX8_readAll.1.cls) = true := by decide +kernel
set_option maxRecDepth 100000 in
theorem ok_X9_init : (tX9_init).all (eok mth mX9_init) = true := by decide +kernel
theorem cw_X9_init : (wdq 0 36 (.code mX9_init.1 mX9_init.2.1 mX9_init.2.2.1 mX9_init.2.2.2.1) && plainName mX9_init.1.cls) = true := by decide +kernel
set_option maxRecDepth 100000 in
theorem ok_X9_put : (tX9_put).all (eok mth mX9_put) = true := by decide +kernel
theorem cw_X9_put : (wdq 2 99 (.code mX9_put.1 mX9_put.2.1 mX9_put.2.2.1 mX9_put.2.2.2.1) && plainName mX9_put.1.cls) = true := by decide +kernel
set_option maxRecDepth 100000 in
theorem ok_X9_begin : (tX9_begin).all (eok mth mX9_begin) = true := by decide +kernel
theorem cw_X9_begin : (wdq 2 128 (.code mX9_begin.1 mX9_begin.2.1 mX9_begin.2.2.1 mX9_begin.2.2.2.1) && plainName mX9_begin.1.cls) = true := by decide +kernel
set_option maxRecDepth 100000 in
theorem ok_X9_advance : (tX9_advance).all (eok mth mX9_advance) = true := by decide +kernel
theorem cw_X9_advance : (wdq 2 135 (.code mX9_advance.1 mX9_advance.2.1 mX9_advance.2.2.1 mX9_advance.2.2.2.1) && plainName mX9_advance.1.cls) = true := by decide +kernel
set_option maxRecDepth 100000 in
theorem ok_X9_goesOn : (tX9_goesOn).all (eok mth mX9_goesOn) = true := by decide +kernel
theorem cw_X9_goesOn : (wdq 2 159 (.code mX9_goesOn.1 mX9_goesOn.2.1 mX9_goesOn.2.2.1 mX9_goesOn.2.2.2.1) && plainName mX9_goesOn.1.cls) = true := by decide +kernel
set_option maxRecDepth 100000 in
theorem ok_X10_init : (tX10_init).all (eok mth mX10_init) = true := by decide +kernel
theorem cw_X10_init : (wdq 1 194 (.code mX10_init.1 mX10_init.2.1 mX10_init.2.2.1 mX10_init.2.2.2.1) && plainName mX10_init.1.cls) = true := by decide +kernel
set_option maxRecDepth 100000 in
theorem ok_X10_lay : (tX10_lay).all (eok mth mX10_lay) = true := by decide +kernel
theorem cw_X10_lay : (wdq 2 53 (.code mX10_lay.1 mX10_lay.2.1 mX10_lay.2.2.1 mX10_lay.2.2.2.1) && plainName mX10_lay.1.cls) = true := by decide +kernel
set_option maxRecDepth 100000 in
theorem ok_X11_init : (tX11_init).all (eok mth mX11_init) = true := by decide +kernel
theorem cw_X11_init : (wdq 0 26 (.code mX11_init.1 mX11_init.2.1 mX11_init.2.2.1 mX11_init.2.2.2.1) && plainName mX11_init.1.cls) = true := by decide +kernel
set_option maxRecDepth 100000 in
theorem ok_X11_status : (tX11_status).all (eok mth mX11_status) = true := by decide +kernel
theorem cw_X11_status : (wdq 2 30 (.code mX11_status.1 mX11_status.2.1 mX11_status.2.2.1 mX11_status.2.2.2.1) && plainName mX11_status.1.cls) = true := by decide +kernel
set_option maxRecDepth 100000 in
theorem ok_X11_top : (tX11_top).all (eok mth mX11_top) = true := by decide +kernel
theorem cw_X11_top : (wdq 2 34 (.code mX11_top.1 mX11_top.2.1 mX11_top.2.2.1 mX11_top.2.2.2.1) && plainName mX11_top.1.cls) = true := by decide +kernel
set_option maxRecDepth 100000 in
theorem ok_X11_bottom : (tX11_bottom).all (eok mth mX11_bottom) = true := by decide +kernel
theorem cw_X11_bottom : (wdq 2 38 (.code mX11_bottom.1 mX11_bottom.2.1 mX11_bottom.2.2.1 mX11_bottom.2.2.2.1) && plainName mX11_bottom.1.cls) = true := by decide +kernel
set_option maxRecDepth 100000 in
theorem ok_X11_tray : (tX11_tray).all (eok mth mX11_tray) = true := by decide +kernel
theorem cw_X11_tray : (wdq 2 42 (.code mX11_tray.1 mX11_tray.2.1 mX11_tray.2.2.1 mX11_tray.2.2.2.1) && plainName mX11_tray.1.cls) = true := by decide +kernel
set_option maxRecDepth 100000 in
theorem ok_X11_write : (tX11_write).all (eok mth mX11_write) = true := by decide +kernel
theorem cw_X11_write : (wdq 2 64 (.code mX11_write.1 mX11_write.2.1 mX11_write.2.2.1 mX11_write.2.2.2.1) && plainName mX11_write.1.cls) = true := by decide +kernel
set_option maxRecDepth 100000 in
theorem ok_X11_read : (tX11_read).all (eok mth mX11_read) = true := by decide +kernel
theorem cw_X11_read : (wdq 2 80 (.code mX11_read.1 mX11_read.2.1 mX11_read.2.2.1 mX11_read.2.2.2.1) && plainName mX11_read.1.cls) = true := by decide +kernel
set_option maxRecDepth 100000 in
theorem ok_X11_pour : (tX11_pour).all (eok mth mX11_pour) = true := by decide +kernel
theorem cw_X11_pour : (wdq 2 88 (.code mX11_pour.1 mX11_pour.2.1 mX11_pour.2.2.1 mX11_pour.2.2.2.1) && plainName mX11_pour.1.cls) = true := by decide +kernel
set_option maxRecDepth 100000 in
theorem ok_X11_feed : (tX11_feed).all (eok mth mX11_feed) = true := by decide +kernel
theorem cw_X11_feed : (wdq 2 95 (.code mX11_feed.1 mX11_feed.2.1 mX11_feed.2.2.1 mX11_feed.2.2.2.1) && plainName mX11_feed.1.cls) = true := by decide +kernel
set_option maxRecDepth 100000 in
theorem ok_X11_land : (tX11_land).all (eok mth mX11_land) = true := by decide +kernel
theorem cw_X11_land : (wdq 2 103 (.code mX11_land.1 mX11_land.2.1 mX11_land.2.2.1 mX11_land.2.2.2.1) && plainName mX11_land.1.cls) = true := by decide +kernel
set_option maxRecDepth 100000 in
theorem ok_X11_tales : (tX11_tales).all (eok mth mX11_tales) = true := by decide +kernel
theorem cw_X11_tales : (wdq 3 69 (.code mX11_tales.1 mX11_tales.2.1 mX11_tales.2.2.1 mX11_tales.2.2.2.1) && plainName mX11_tales.1.cls) = true := by decide +kernel
set_option maxRecDepth 100000 in
theorem ok_X11_fault : (tX11_fault).all (eok mth mX11_fault) = true := by decide +kernel
theorem cw_X11_fault : (wdq 3 148 (.code mX11_fault.1 mX11_fault.2.1 mX11_fault.2.2.1 mX11_fault.2.2.2.1) && plainName mX11_fault.1.cls) = true := by decide +kernel
set_option maxRecDepth 100000 in
theorem ok_X11_told : (tX11_told).all (eok mth mX11_told) = true := by decide +kernel
theorem cw_X11_told : (wdq 3 152 (.code mX11_told.1 mX11_told.2.1 mX11_told.2.2.1 mX11_told.2.2.2.1) && plainName mX11_told.1.cls) = true := by decide +kernel
set_option maxRecDepth 100000 in
theorem ok_X11_person : (tX11_person).all (eok mth mX11_person) = true := by decide +kernel
theorem cw_X11_person : (wdq 3 179 (.code mX11_person.1 mX11_person.2.1 mX11_person.2.2.1 mX11_person.2.2.2.1) && plainName mX11_person.1.cls) = true := by decide +kernel
set_option maxRecDepth 100000 in
theorem ok_X11_owed : (tX11_owed).all (eok mth mX11_owed) = true := by decide +kernel
theorem cw_X11_owed : (wdq 3 198 (.code mX11_owed.1 mX11_owed.2.1 mX11_owed.2.2.1 mX11_owed.2.2.2.1) && plainName mX11_owed.1.cls) = true := by decide +kernel
set_option maxRecDepth 100000 in
theorem ok_X11_heir : (tX11_heir).all (eok mth mX11_heir) = true := by decide +kernel
theorem cw_X11_heir : (wdq 3 207 (.code mX11_heir.1 mX11_heir.2.1 mX11_heir.2.2.1 mX11_heir.2.2.2.1) && plainName mX11_heir.1.cls) = true := by decide +kernel
set_option maxRecDepth 100000 in
theorem ok_X11_door : (tX11_door).all (eok mth mX11_door) = true := by decide +kernel
theorem cw_X11_door : (wdq 3 211 (.code mX11_door.1 mX11_door.2.1 mX11_door.2.2.1 mX11_door.2.2.2.1) && plainName mX11_door.1.cls) = true := by decide +kernel
set_option maxRecDepth 100000 in
theorem ok_X11_labour : (tX11_labour).all (eok mth mX11_labour) = true := by decide +kernel
theorem cw_X11_labour : (wdq 3 223 (.code mX11_labour.1 mX11_labour.2.1 mX11_labour.2.2.1 mX11_labour.2.2.2.1) && plainName mX11_labour.1.cls) = true := by decide +kernel
set_option maxRecDepth 100000 in
theorem ok_X11_within : (tX11_within).all (eok mth mX11_within) = true := by decide +kernel
theorem cw_X11_within : (wdq 3 227 (.code mX11_within.1 mX11_within.2.1 mX11_within.2.2.1 mX11_within.2.2.2.1) && plainName mX11_within.1.cls) = true := by decide +kernel
set_option maxRecDepth 100000 in
theorem ok_X11_night : (tX11_night).all (eok mth mX11_night) = true := by decide +kernel
theorem cw_X11_night : (wdq 3 235 (.code mX11_night.1 mX11_night.2.1 mX11_night.2.2.1 mX11_night.2.2.2.1) && plainName mX11_night.1.cls) = true := by decide +kernel
set_option maxRecDepth 100000 in
theorem ok_X11_die : (tX11_die).all (eok mth mX11_die) = true := by decide +kernel
theorem cw_X11_die : (wdq 4 22 (.code mX11_die.1 mX11_die.2.1 mX11_die.2.2.1 mX11_die.2.2.2.1) && plainName mX11_die.1.cls) = true := by decide +kernel
set_option maxRecDepth 100000 in
theorem ok_X11_forgive : (tX11_forgive).all (eok mth mX11_forgive) = true := by decide +kernel
theorem cw_X11_forgive : (wdq 4 48 (.code mX11_forgive.1 mX11_forgive.2.1 mX11_forgive.2.2.1 mX11_forgive.2.2.2.1) && plainName mX11_forgive.1.cls) = true := by decide +kernel
set_option maxRecDepth 100000 in
theorem ok_X11_forge : (tX11_forge).all (eok mth mX11_forge) = true := by decide +kernel
theorem cw_X11_forge : (wdq 4 60 (.code mX11_forge.1 mX11_forge.2.1 mX11_forge.2.2.1 mX11_forge.2.2.2.1) && plainName mX11_forge.1.cls) = true := by decide +kernel
set_option maxRecDepth 100000 in
theorem ok_X11_salt : (tX11_salt).all (eok mth mX11_salt) = true := by decide +kernel
theorem cw_X11_salt : (wdq 4 68 (.code mX11_salt.1 mX11_salt.2.1 mX11_salt.2.2.1 mX11_salt.2.2.2.1) && plainName mX11_salt.1.cls) = true := by decide +kernel
set_option maxRecDepth 100000 in
theorem ok_X11_keep : (tX11_keep).all (eok mth mX11_keep) = true := by decide +kernel
theorem cw_X11_keep : (wdq 4 77 (.code mX11_keep.1 mX11_keep.2.1 mX11_keep.2.2.1 mX11_keep.2.2.2.1) && plainName mX11_keep.1.cls) = true := by decide +kernel
set_option maxRecDepth 100000 in
theorem ok_X11_wall : (tX11_wall).all (eok mth mX11_wall) = true := by decide +kernel
theorem cw_X11_wall : (wdq 4 82 (.code mX11_wall.1 mX11_wall.2.1 mX11_wall.2.2.1 mX11_wall.2.2.2.1) && plainName mX11_wall.1.cls) = true := by decide +kernel
set_option maxRecDepth 100000 in
theorem ok_X11_move : (tX11_move).all (eok mth mX11_move) = true := by decide +kernel
theorem cw_X11_move : (wdq 4 88 (.code mX11_move.1 mX11_move.2.1 mX11_move.2.2.1 mX11_move.2.2.2.1) && plainName mX11_move.1.cls) = true := by decide +kernel
set_option maxRecDepth 100000 in
theorem ok_X11_way : (tX11_way).all (eok mth mX11_way) = true := by decide +kernel
theorem cw_X11_way : (wdq 4 93 (.code mX11_way.1 mX11_way.2.1 mX11_way.2.2.1 mX11_way.2.2.2.1) && plainName mX11_way.1.cls) = true := by decide +kernel
set_option maxRecDepth 100000 in
theorem ok_X11_aim : (tX11_aim).all (eok mth mX11_aim) = true := by decide +kernel
theorem cw_X11_aim : (wdq 4 102 (.code mX11_aim.1 mX11_aim.2.1 mX11_aim.2.2.1 mX11_aim.2.2.2.1) && plainName mX11_aim.1.cls) = true := by decide +kernel
set_option maxRecDepth 100000 in
theorem ok_X11_step : (tX11_step).all (eok mth mX11_step) = true := by decide +kernel
theorem cw_X11_step : (wdq 4 108 (.code mX11_step.1 mX11_step.2.1 mX11_step.2.2.1 mX11_step.2.2.2.1) && plainName mX11_step.1.cls) = true := by decide +kernel
set_option maxRecDepth 100000 in
theorem ok_X11_walks : (tX11_walks).all (eok mth mX11_walks) = true := by decide +kernel
theorem cw_X11_walks : (wdq 4 116 (.code mX11_walks.1 mX11_walks.2.1 mX11_walks.2.2.1 mX11_walks.2.2.2.1) && plainName mX11_walks.1.cls) = true := by decide +kernel
set_option maxRecDepth 100000 in
theorem ok_X11_later : (tX11_later).all (eok mth mX11_later) = true := by decide +kernel
theorem cw_X11_later : (wdq 4 126 (.code mX11_later.1 mX11_later.2.1 mX11_later.2.2.1 mX11_later.2.2.2.1) && plainName mX11_later.1.cls) = true := by decide +kernel
set_option maxRecDepth 100000 in
theorem ok_X11_rest : (tX11_rest).all (eok mth mX11_rest) = true := by decide +kernel
theorem cw_X11_rest : (wdq 4 130 (.code mX11_rest.1 mX11_rest.2.1 mX11_rest.2.2.1 mX11_rest.2.2.2.1) && plainName mX11_rest.1.cls) = true := by decide +kernel
set_option maxRecDepth 100000 in
theorem ok_X11_quiet : (tX11_quiet).all (eok mth mX11_quiet) = true := by decide +kernel
theorem cw_X11_quiet : (wdq 4 139 (.code mX11_quiet.1 mX11_quiet.2.1 mX11_quiet.2.2.1 mX11_quiet.2.2.2.1) && plainName mX11_quiet.1.cls) = true := by decide +kernel
set_option maxRecDepth 100000 in
theorem ok_X11_harvest : (tX11_harvest).all (eok mth mX11_harvest) = true := by decide +kernel
theorem cw_X11_harvest : (wdq 4 152 (.code mX11_harvest.1 mX11_harvest.2.1 mX11_harvest.2.2.1 mX11_harvest.2.2.2.1) && plainName mX11_harvest.1.cls) = true := by decide +kernel
set_option maxRecDepth 100000 in
theorem ok_X11_visitors : (tX11_visitors).all (eok mth mX11_visitors) = true := by decide +kernel
theorem cw_X11_visitors : (wdq 4 160 (.code mX11_visitors.1 mX11_visitors.2.1 mX11_visitors.2.2.1 mX11_visitors.2.2.2.1) && plainName mX11_visitors.1.cls) = true := by decide +kernel
set_option maxRecDepth 100000 in
theorem ok_X11_stays : (tX11_stays).all (eok mth mX11_stays) = true := by decide +kernel
theorem cw_X11_stays : (wdq 4 170 (.code mX11_stays.1 mX11_stays.2.1 mX11_stays.2.2.1 mX11_stays.2.2.2.1) && plainName mX11_stays.1.cls) = true := by decide +kernel
set_option maxRecDepth 100000 in
theorem ok_X11_must : (tX11_must).all (eok mth mX11_must) = true := by decide +kernel
theorem cw_X11_must : (wdq 4 178 (.code mX11_must.1 mX11_must.2.1 mX11_must.2.2.1 mX11_must.2.2.2.1) && plainName mX11_must.1.cls) = true := by decide +kernel
set_option maxRecDepth 100000 in
theorem ok_X11_reach : (tX11_reach).all (eok mth mX11_reach) = true := by decide +kernel
theorem cw_X11_reach : (wdq 4 190 (.code mX11_reach.1 mX11_reach.2.1 mX11_reach.2.2.1 mX11_reach.2.2.2.1) && plainName mX11_reach.1.cls) = true := by decide +kernel
set_option maxRecDepth 100000 in
theorem ok_X11_tours : (tX11_tours).all (eok mth mX11_tours) = true := by decide +kernel
theorem cw_X11_tours : (wdq 4 195 (.code mX11_tours.1 mX11_tours.2.1 mX11_tours.2.2.1 mX11_tours.2.2.2.1) && plainName mX11_tours.1.cls) = true := by decide +kernel
set_option maxRecDepth 100000 in
theorem ok_X11_meets : (tX11_meets).all (eok mth mX11_meets) = true := by decide +kernel
theorem cw_X11_meets : (wdq 4 204 (.code mX11_meets.1 mX11_meets.2.1 mX11_meets.2.2.1 mX11_meets.2.2.2.1) && plainName mX11_meets.1.cls) = true := by decide +kernel
set_option maxRecDepth 100000 in
theorem ok_X11_crowd : (tX11_crowd).all (eok mth mX11_crowd) = true := by decide +kernel
theorem cw_X11_crowd : (wdq 4 212 (.code mX11_crowd.1 mX11_crowd.2.1 mX11_crowd.2.2.1 mX11_crowd.2.2.2.1) && plainName mX11_crowd.1.cls) = true := by decide +kernel
set_option maxRecDepth 100000 in
theorem ok_X11_busiest : (tX11_busiest).all (eok mth mX11_busiest) = true := by decide +kernel
theorem cw_X11_busiest : (wdq 4 225 (.code mX11_busiest.1 mX11_busiest.2.1 mX11_busiest.2.2.1 mX11_busiest.2.2.2.1) && plainName mX11_busiest.1.cls) = true := by decide +kernel
set_option maxRecDepth 100000 in
theorem ok_X11_exposed : (tX11_exposed).all (eok mth mX11_exposed) = true := by decide +kernel
theorem cw_X11_exposed : (wdq 4 229 (.code mX11_exposed.1 mX11_exposed.2.1 mX11_exposed.2.2.1 mX11_exposed.2.2.2.1) && plainName mX11_exposed.1.cls) = true := by decide +kernel
set_option maxRecDepth 100000 in
theorem ok_X11_wells : (tX11_wells).all (eok mth mX11_wells) = true := by decide +kernel
theorem cw_X11_wells : (wdq 4 234 (.code mX11_wells.1 mX11_wells.2.1 mX11_wells.2.2.1 mX11_wells.2.2.2.1) && plainName mX11_wells.1.cls) = true := by decide +kernel
set_option maxRecDepth 100000 in
theorem ok_X11_ways : (tX11_ways).all (eok mth mX11_ways) = true := by decide +kernel
theorem cw_X11_ways : (wdq 4 238 (.code mX11_ways.1 mX11_ways.2.1 mX11_ways.2.2.1 mX11_ways.2.2.2.1) && plainName mX11_ways.1.cls) = true := by decide +kernel
set_option maxRecDepth 100000 in
theorem ok_X11_heirs : (tX11_heirs).all (eok mth mX11_heirs) = true := by decide +kernel
theorem cw_X11_heirs : (wdq 5 10 (.code mX11_heirs.1 mX11_heirs.2.1 mX11_heirs.2.2.1 mX11_heirs.2.2.2.1) && plainName mX11_heirs.1.cls) = true := by decide +kernel
set_option maxRecDepth 100000 in
theorem ok_X11_loss : (tX11_loss).all (eok mth mX11_loss) = true := by decide +kernel
theorem cw_X11_loss : (wdq 5 15 (.code mX11_loss.1 mX11_loss.2.1 mX11_loss.2.2.1 mX11_loss.2.2.2.1) && plainName mX11_loss.1.cls) = true := by decide +kernel
set_option maxRecDepth 100000 in
theorem ok_X11_saint : (tX11_saint).all (eok mth mX11_saint) = true := by decide +kernel
theorem cw_X11_saint : (wdq 5 26 (.code mX11_saint.1 mX11_saint.2.1 mX11_saint.2.2.1 mX11_saint.2.2.2.1) && plainName mX11_saint.1.cls) = true := by decide +kernel
set_option maxRecDepth 100000 in
theorem ok_X11_keeper : (tX11_keeper).all (eok mth mX11_keeper) = true := by decide +kernel
theorem cw_X11_keeper : (wdq 5 36 (.code mX11_keeper.1 mX11_keeper.2.1 mX11_keeper.2.2.1 mX11_keeper.2.2.2.1) && plainName mX11_keeper.1.cls) = true := by decide +kernel
set_option maxRecDepth 100000 in
theorem ok_X11_lonely : (tX11_lonely).all (eok mth mX11_lonely) = true := by decide +kernel
theorem cw_X11_lonely : (wdq 5 50 (.code mX11_lonely.1 mX11_lonely.2.1 mX11_lonely.2.2.1 mX11_lonely.2.2.2.1) && plainName mX11_lonely.1.cls) = true := by decide +kernel
set_option maxRecDepth 100000 in
theorem ok_X11_due : (tX11_due).all (eok mth mX11_due) = true := by decide +kernel
theorem cw_X11_due : (wdq 5 54 (.code mX11_due.1 mX11_due.2.1 mX11_due.2.2.1 mX11_due.2.2.2.1) && plainName mX11_due.1.cls) = true := by decide +kernel
set_option maxRecDepth 100000 in
theorem ok_X11_net : (tX11_net).all (eok mth mX11_net) = true := by decide +kernel
theorem cw_X11_net : (wdq 5 58 (.code mX11_net.1 mX11_net.2.1 mX11_net.2.2.1 mX11_net.2.2.2.1) && plainName mX11_net.1.cls) = true := by decide +kernel
set_option maxRecDepth 100000 in
theorem ok_X11_wedding : (tX11_wedding).all (eok mth mX11_wedding) = true := by decide +kernel
theorem cw_X11_wedding : (wdq 5 62 (.code mX11_wedding.1 mX11_wedding.2.1 mX11_wedding.2.2.1 mX11_wedding.2.2.2.1) && plainName mX11_wedding.1.cls) = true := by decide +kernel
set_option maxRecDepth 100000 in
theorem ok_X11_weddingSet : (tX11_weddingSet).all (eok mth mX11_weddingSet) = true := by decide +kernel
theorem cw_X11_weddingSet : (wdq 5 77 (.code mX11_weddingSet.1 mX11_weddingSet.2.1 mX11_weddingSet.2.2.1 mX11_weddingSet.2.2.2.1) && plainName mX11_weddingSet.1.cls) = true := by decide +kernel
set_option maxRecDepth 100000 in
theorem ok_X11_pardon : (tX11_pardon).all (eok mth mX11_pardon) = true := by decide +kernel
theorem cw_X11_pardon : (wdq 5 81 (.code mX11_pardon.1 mX11_pardon.2.1 mX11_pardon.2.2.1 mX11_pardon.2.2.2.1) && plainName mX11_pardon.1.cls) = true := by decide +kernel
set_option maxRecDepth 100000 in
theorem ok_X11_pardonSet : (tX11_pardonSet).all (eok mth mX11_pardonSet) = true := by decide +kernel
theorem cw_X11_pardonSet : (wdq 5 101 (.code mX11_pardonSet.1 mX11_pardonSet.2.1 mX11_pardonSet.2.2.1 mX11_pardonSet.2.2.2.1) && plainName mX11_pardonSet.1.cls) = true := by decide +kernel
set_option maxRecDepth 100000 in
theorem ok_X11_pair : (tX11_pair).all (eok mth mX11_pair) = true := by decide +kernel
theorem cw_X11_pair : (wdq 5 105 (.code mX11_pair.1 mX11_pair.2.1 mX11_pair.2.2.1 mX11_pair.2.2.2.1) && plainName mX11_pair.1.cls) = true := by decide +kernel
set_option maxRecDepth 100000 in
theorem ok_X11_share : (tX11_share).all (eok mth mX11_share) = true := by decide +kernel
theorem cw_X11_share : (wdq 5 118 (.code mX11_share.1 mX11_share.2.1 mX11_share.2.2.1 mX11_share.2.2.2.1) && plainName mX11_share.1.cls) = true := by decide +kernel
set_option maxRecDepth 100000 in
theorem ok_X11_gracious : (tX11_gracious).all (eok mth mX11_gracious) = true := by decide +kernel
theorem cw_X11_gracious : (wdq 5 123 (.code mX11_gracious.1 mX11_gracious.2.1 mX11_gracious.2.2.1 mX11_gracious.2.2.2.1) && plainName mX11_gracious.1.cls) = true := by decide +kernel
set_option maxRecDepth 100000 in
theorem ok_X11_deepest : (tX11_deepest).all (eok mth mX11_deepest) = true := by decide +kernel
theorem cw_X11_deepest : (wdq 5 127 (.code mX11_deepest.1 mX11_deepest.2.1 mX11_deepest.2.2.1 mX11_deepest.2.2.2.1) && plainName mX11_deepest.1.cls) = true := by decide +kernel
set_option maxRecDepth 100000 in
theorem ok_X11_weight : (tX11_weight).all (eok mth mX11_weight) = true := by decide +kernel
theorem cw_X11_weight : (wdq 5 131 (.code mX11_weight.1 mX11_weight.2.1 mX11_weight.2.2.1 mX11_weight.2.2.2.1) && plainName mX11_weight.1.cls) = true := by decide +kernel
set_option maxRecDepth 100000 in
theorem ok_X11_mutual : (tX11_mutual).all (eok mth mX11_mutual) = true := by decide +kernel
theorem cw_X11_mutual : (wdq 5 139 (.code mX11_mutual.1 mX11_mutual.2.1 mX11_mutual.2.2.1 mX11_mutual.2.2.2.1) && plainName mX11_mutual.1.cls) = true := by decide +kernel
set_option maxRecDepth 100000 in
theorem ok_X11_chain : (tX11_chain).all (eok mth mX11_chain) = true := by decide +kernel
theorem cw_X11_chain : (wdq 5 144 (.code mX11_chain.1 mX11_chain.2.1 mX11_chain.2.2.1 mX11_chain.2.2.2.1) && plainName mX11_chain.1.cls) = true := by decide +kernel
set_option maxRecDepth 100000 in
theorem ok_X11_circle : (tX11_circle).all (eok mth mX11_circle) = true := by decide +kernel
theorem cw_X11_circle : (wdq 5 160 (.code mX11_circle.1 mX11_circle.2.1 mX11_circle.2.2.1 mX11_circle.2.2.2.1) && plainName mX11_circle.1.cls) = true := by decide +kernel
set_option maxRecDepth 100000 in
theorem ok_X11_bestSalt : (tX11_bestSalt).all (eok mth mX11_bestSalt) = true := by decide +kernel
theorem cw_X11_bestSalt : (wdq 5 171 (.code mX11_bestSalt.1 mX11_bestSalt.2.1 mX11_bestSalt.2.2.1 mX11_bestSalt.2.2.2.1) && plainName mX11_bestSalt.1.cls) = true := by decide +kernel
set_option maxRecDepth 100000 in
theorem ok_X11_live : (tX11_live).all (eok mth mX11_live) = true := by decide +kernel
theorem cw_X11_live : (wdq 5 188 (.code mX11_live.1 mX11_live.2.1 mX11_live.2.2.1 mX11_live.2.2.2.1) && plainName mX11_live.1.cls) = true := by decide +kernel
set_option maxRecDepth 100000 in
theorem ok_X11_lived : (tX11_lived).all (eok mth mX11_lived) = true := by decide +kernel
theorem cw_X11_lived : (wdq 5 228 (.code mX11_lived.1 mX11_lived.2.1 mX11_lived.2.2.1 mX11_lived.2.2.2.1) && plainName mX11_lived.1.cls) = true := by decide +kernel
set_option maxRecDepth 100000 in
theorem ok_X11_mean : (tX11_mean).all (eok mth mX11_mean) = true := by decide +kernel
theorem cw_X11_mean : (wdq 5 232 (.code mX11_mean.1 mX11_mean.2.1 mX11_mean.2.2.1 mX11_mean.2.2.2.1) && plainName mX11_mean.1.cls) = true := by decide +kernel
set_option maxRecDepth 100000 in
theorem ok_X11_mark : (tX11_mark).all (eok mth mX11_mark) = true := by decide +kernel
theorem cw_X11_mark : (wdq 5 236 (.code mX11_mark.1 mX11_mark.2.1 mX11_mark.2.2.1 mX11_mark.2.2.2.1) && plainName mX11_mark.1.cls) = true := by decide +kernel
set_option maxRecDepth 100000 in
theorem ok_X11_undo : (tX11_undo).all (eok mth mX11_undo) = true := by decide +kernel
theorem cw_X11_undo : (wdq 6 0 (.code mX11_undo.1 mX11_undo.2.1 mX11_undo.2.2.1 mX11_undo.2.2.2.1) && plainName mX11_undo.1.cls) = true := by decide +kernel
set_option maxRecDepth 100000 in
theorem ok_X11_answer : (tX11_answer).all (eok mth mX11_answer) = true := by decide +kernel
theorem cw_X11_answer : (wdq 3 65 (.code mX11_answer.1 mX11_answer.2.1 mX11_answer.2.2.1 mX11_answer.2.2.2.1) && plainName mX11_answer.1.cls) = true := by decide +kernel
set_option maxRecDepth 100000 in
theorem ok_X11_answerOrNone : (tX11_answerOrNone).all (eok mth mX11_answerOrNone) = true := by decide +kernel
theorem cw_X11_answerOrNone : (wdq 4 98 (.code mX11_answerOrNone.1 mX11_answerOrNone.2.1 mX11_answerOrNone.2.2.1 mX11_answerOrNone.2.2.2.1) && plainName mX11_answerOrNone.1.cls) = true := by decide +kernel
set_option maxRecDepth 100000 in
theorem ok_X11_refuse : (tX11_refuse).all (eok mth mX11_refuse) = true := by decide +kernel
theorem cw_X11_refuse : (wdq 2 84 (.code mX11_refuse.1 mX11_refuse.2.1 mX11_refuse.2.2.1 mX11_refuse.2.2.2.1) && plainName mX11_refuse.1.cls) = true := by decide +kernel
set_option maxRecDepth 100000 in
theorem ok_X11_grant : (tX11_grant).all (eok mth mX11_grant) = true := by decide +kernel
theorem cw_X11_grant : (wdq 2 60 (.code mX11_grant.1 mX11_grant.2.1 mX11_grant.2.2.1 mX11_grant.2.2.2.1) && plainName mX11_grant.1.cls) = true := by decide +kernel
set_option maxRecDepth 100000 in
theorem ok_X11_deny : (tX11_deny).all (eok mth mX11_deny) = true := by decide +kernel
theorem cw_X11_deny : (wdq 2 49 (.code mX11_deny.1 mX11_deny.2.1 mX11_deny.2.2.1 mX11_deny.2.2.2.1) && plainName mX11_deny.1.cls) = true := by decide +kernel
set_option maxRecDepth 100000 in
theorem ok_X11_isHouse : (tX11_isHouse).all (eok mth mX11_isHouse) = true := by decide +kernel
theorem cw_X11_isHouse : (wdq 3 219 (.code mX11_isHouse.1 mX11_isHouse.2.1 mX11_isHouse.2.2.1 mX11_isHouse.2.2.2.1) && plainName mX11_isHouse.1.cls) = true := by decide +kernel
set_option maxRecDepth 100000 in
theorem ok_X11_isPerson : (tX11_isPerson).all (eok mth mX11_isPerson) = true := by decide +kernel
theorem cw_X11_isPerson : (wdq 3 183 (.code mX11_isPerson.1 mX11_isPerson.2.1 mX11_isPerson.2.2.1 mX11_isPerson.2.2.2.1) && plainName mX11_isPerson.1.cls) = true := by decide +kernel
set_option maxRecDepth 100000 in
theorem ok_X11_areTwoHouses : (tX11_areTwoHouses).all (eok mth mX11_areTwoHouses) = true := by decide +kernel
theorem cw_X11_areTwoHouses : (wdq 3 215 (.code mX11_areTwoHouses.1 mX11_areTwoHouses.2.1 mX11_areTwoHouses.2.2.1 mX11_areTwoHouses.2.2.2.1) && plainName mX11_areTwoHouses.1.cls) = true := by decide +kernel
set_option maxRecDepth 100000 in
theorem ok_X11_areTwoPersons : (tX11_areTwoPersons).all (eok mth mX11_areTwoPersons) = true := by decide +kernel
theorem cw_X11_areTwoPersons : (wdq 3 202 (.code mX11_areTwoPersons.1 mX11_areTwoPersons.2.1 mX11_areTwoPersons.2.2.1 mX11_areTwoPersons.2.2.2.1) && plainName mX11_areTwoPersons.1.cls) = true := by decide +kernel
set_option maxRecDepth 100000 in
theorem ok_X11_isWithin : (tX11_isWithin).all (eok mth mX11_isWithin) = true := by decide +kernel
theorem cw_X11_isWithin : (wdq 2 45 (.code mX11_isWithin.1 mX11_isWithin.2.1 mX11_isWithin.2.2.1 mX11_isWithin.2.2.2.1) && plainName mX11_isWithin.1.cls) = true := by decide +kernel
set_option maxRecDepth 100000 in
theorem ok_X11_troubleAt : (tX11_troubleAt).all (eok mth mX11_troubleAt) = true := by decide +kernel
theorem cw_X11_troubleAt : (wdq 2 68 (.code mX11_troubleAt.1 mX11_troubleAt.2.1 mX11_troubleAt.2.2.1 mX11_troubleAt.2.2.2.1) && plainName mX11_troubleAt.1.cls) = true := by decide +kernel
set_option maxRecDepth 100000 in
theorem ok_X12_init : (tX12_init).all (eok mth mX12_init) = true := by decide +kernel
theorem cw_X12_init : (wdq 6 5 (.code mX12_init.1 mX12_init.2.1 mX12_init.2.2.1 mX12_init.2.2.2.1) && plainName mX12_init.1.cls) = true := by decide +kernel
set_option maxRecDepth 100000 in
theorem ok_X12_plain : (tX12_plain).all (eok mth mX12_plain) = true := by decide +kernel
theorem cw_X12_plain : (wdq 6 10 (.code mX12_plain.1 mX12_plain.2.1 mX12_plain.2.2.1 mX12_plain.2.2.2.1) && plainName mX12_plain.1.cls) = true := by decide +kernel
set_option maxRecDepth 100000 in
theorem ok_X12_status : (tX12_status).all (eok mth mX12_status) = true := by decide +kernel
theorem cw_X12_status : (wdq 6 117 (.code mX12_status.1 mX12_status.2.1 mX12_status.2.2.1 mX12_status.2.2.2.1) && plainName mX12_status.1.cls) = true := by decide +kernel
set_option maxRecDepth 100000 in
theorem ok_X12_top : (tX12_top).all (eok mth mX12_top) = true := by decide +kernel
theorem cw_X12_top : (wdq 6 121 (.code mX12_top.1 mX12_top.2.1 mX12_top.2.2.1 mX12_top.2.2.2.1) && plainName mX12_top.1.cls) = true := by decide +kernel
set_option maxRecDepth 100000 in
theorem ok_X12_bottom : (tX12_bottom).all (eok mth mX12_bottom) = true := by decide +kernel
theorem cw_X12_bottom : (wdq 6 125 (.code mX12_bottom.1 mX12_bottom.2.1 mX12_bottom.2.2.1 mX12_bottom.2.2.2.1) && plainName mX12_bottom.1.cls) = true := by decide +kernel
set_option maxRecDepth 100000 in
theorem ok_X12_is : (tX12_is).all (eok mth mX12_is) = true := by decide +kernel
theorem cw_X12_is : (wdq 6 136 (.code mX12_is.1 mX12_is.2.1 mX12_is.2.2.1 mX12_is.2.2.2.1) && plainName mX12_is.1.cls) = true := by decide +kernel
set_option maxRecDepth 100000 in
theorem ok_X12_refuse : (tX12_refuse).all (eok mth mX12_refuse) = true := by decide +kernel
theorem cw_X12_refuse : (wdq 6 196 (.code mX12_refuse.1 mX12_refuse.2.1 mX12_refuse.2.2.1 mX12_refuse.2.2.2.1) && plainName mX12_refuse.1.cls) = true := by decide +kernel
set_option maxRecDepth 100000 in
theorem ok_X12_gives : (tX12_gives).all (eok mth mX12_gives) = true := by decide +kernel
theorem cw_X12_gives : (wdq 7 43 (.code mX12_gives.1 mX12_gives.2.1 mX12_gives.2.2.1 mX12_gives.2.2.2.1) && plainName mX12_gives.1.cls) = true := by decide +kernel
set_option maxRecDepth 100000 in
theorem ok_X12_orNone : (tX12_orNone).all (eok mth mX12_orNone) = true := by decide +kernel
theorem cw_X12_orNone : (wdq 8 25 (.code mX12_orNone.1 mX12_orNone.2.1 mX12_orNone.2.2.1 mX12_orNone.2.2.2.1) && plainName mX12_orNone.1.cls) = true := by decide +kernel
set_option maxRecDepth 100000 in
theorem ok_X12_isTray : (tX12_isTray).all (eok mth mX12_isTray) = true := by decide +kernel
theorem cw_X12_isTray : (wdq 6 132 (.code mX12_isTray.1 mX12_isTray.2.1 mX12_isTray.2.2.1 mX12_isTray.2.2.2.1) && plainName mX12_isTray.1.cls) = true := by decide +kernel
set_option maxRecDepth 100000 in
theorem ok_X12_tray : (tX12_tray).all (eok mth mX12_tray) = true := by decide +kernel
theorem cw_X12_tray : (wdq 6 129 (.code mX12_tray.1 mX12_tray.2.1 mX12_tray.2.2.1 mX12_tray.2.2.2.1) && plainName mX12_tray.1.cls) = true := by decide +kernel
set_option maxRecDepth 100000 in
theorem ok_X12_wrongPlace : (tX12_wrongPlace).all (eok mth mX12_wrongPlace) = true := by decide +kernel
theorem cw_X12_wrongPlace : (wdq 6 144 (.code mX12_wrongPlace.1 mX12_wrongPlace.2.1 mX12_wrongPlace.2.2.1 mX12_wrongPlace.2.2.2.1) && plainName mX12_wrongPlace.1.cls) = true := by decide +kernel
set_option maxRecDepth 100000 in
theorem ok_X12_write : (tX12_write).all (eok mth mX12_write) = true := by decide +kernel
theorem cw_X12_write : (wdq 6 140 (.code mX12_write.1 mX12_write.2.1 mX12_write.2.2.1 mX12_write.2.2.2.1) && plainName mX12_write.1.cls) = true := by decide +kernel
set_option maxRecDepth 100000 in
theorem ok_X12_read : (tX12_read).all (eok mth mX12_read) = true := by decide +kernel
theorem cw_X12_read : (wdq 6 151 (.code mX12_read.1 mX12_read.2.1 mX12_read.2.2.1 mX12_read.2.2.2.1) && plainName mX12_read.1.cls) = true := by decide +kernel
set_option maxRecDepth 100000 in
theorem ok_X12_pour : (tX12_pour).all (eok mth mX12_pour) = true := by decide +kernel
theorem cw_X12_pour : (wdq 6 156 (.code mX12_pour.1 mX12_pour.2.1 mX12_pour.2.2.1 mX12_pour.2.2.2.1) && plainName mX12_pour.1.cls) = true := by decide +kernel
set_option maxRecDepth 100000 in
theorem ok_X12_isFrom : (tX12_isFrom).all (eok mth mX12_isFrom) = true := by decide +kernel
theorem cw_X12_isFrom : (wdq 7 172 (.code mX12_isFrom.1 mX12_isFrom.2.1 mX12_isFrom.2.2.1 mX12_isFrom.2.2.2.1) && plainName mX12_isFrom.1.cls) = true := by decide +kernel
set_option maxRecDepth 100000 in
theorem ok_X12_feed : (tX12_feed).all (eok mth mX12_feed) = true := by decide +kernel
theorem cw_X12_feed : (wdq 6 160 (.code mX12_feed.1 mX12_feed.2.1 mX12_feed.2.2.1 mX12_feed.2.2.2.1) && plainName mX12_feed.1.cls) = true := by decide +kernel
set_option maxRecDepth 100000 in
theorem ok_X12_four : (tX12_four).all (eok mth mX12_four) = true := by decide +kernel
theorem cw_X12_four : (wdq 6 164 (.code mX12_four.1 mX12_four.2.1 mX12_four.2.2.1 mX12_four.2.2.2.1) && plainName mX12_four.1.cls) = true := by decide +kernel
set_option maxRecDepth 100000 in
theorem ok_X12_byteAt : (tX12_byteAt).all (eok mth mX12_byteAt) = true := by decide +kernel
theorem cw_X12_byteAt : (wdq 6 184 (.code mX12_byteAt.1 mX12_byteAt.2.1 mX12_byteAt.2.2.1 mX12_byteAt.2.2.2.1) && plainName mX12_byteAt.1.cls) = true := by decide +kernel
set_option maxRecDepth 100000 in
theorem ok_X12_ahead : (tX12_ahead).all (eok mth mX12_ahead) = true := by decide +kernel
theorem cw_X12_ahead : (wdq 6 180 (.code mX12_ahead.1 mX12_ahead.2.1 mX12_ahead.2.2.1 mX12_ahead.2.2.2.1) && plainName mX12_ahead.1.cls) = true := by decide +kernel
set_option maxRecDepth 100000 in
theorem ok_X12_begins : (tX12_begins).all (eok mth mX12_begins) = true := by decide +kernel
theorem cw_X12_begins : (wdq 6 176 (.code mX12_begins.1 mX12_begins.2.1 mX12_begins.2.2.1 mX12_begins.2.2.2.1) && plainName mX12_begins.1.cls) = true := by decide +kernel
set_option maxRecDepth 100000 in
theorem ok_X12_fault : (tX12_fault).all (eok mth mX12_fault) = true := by decide +kernel
theorem cw_X12_fault : (wdq 6 168 (.code mX12_fault.1 mX12_fault.2.1 mX12_fault.2.2.1 mX12_fault.2.2.2.1) && plainName mX12_fault.1.cls) = true := by decide +kernel
set_option maxRecDepth 100000 in
theorem ok_X12_taken : (tX12_taken).all (eok mth mX12_taken) = true := by decide +kernel
theorem cw_X12_taken : (wdq 7 39 (.code mX12_taken.1 mX12_taken.2.1 mX12_taken.2.2.1 mX12_taken.2.2.2.1) && plainName mX12_taken.1.cls) = true := by decide +kernel
set_option maxRecDepth 100000 in
theorem ok_X12_land : (tX12_land).all (eok mth mX12_land) = true := by decide +kernel
theorem cw_X12_land : (wdq 6 172 (.code mX12_land.1 mX12_land.2.1 mX12_land.2.2.1 mX12_land.2.2.2.1) && plainName mX12_land.1.cls) = true := by decide +kernel
set_option maxRecDepth 100000 in
theorem ok_X12_tales : (tX12_tales).all (eok mth mX12_tales) = true := by decide +kernel
theorem cw_X12_tales : (wdq 7 47 (.code mX12_tales.1 mX12_tales.2.1 mX12_tales.2.2.1 mX12_tales.2.2.2.1) && plainName mX12_tales.1.cls) = true := by decide +kernel
set_option maxRecDepth 100000 in
theorem ok_X12_isHouse : (tX12_isHouse).all (eok mth mX12_isHouse) = true := by decide +kernel
theorem cw_X12_isHouse : (wdq 7 140 (.code mX12_isHouse.1 mX12_isHouse.2.1 mX12_isHouse.2.2.1 mX12_isHouse.2.2.2.1) && plainName mX12_isHouse.1.cls) = true := by decide +kernel
set_option maxRecDepth 100000 in
theorem ok_X12_isPerson : (tX12_isPerson).all (eok mth mX12_isPerson) = true := by decide +kernel
theorem cw_X12_isPerson : (wdq 7 116 (.code mX12_isPerson.1 mX12_isPerson.2.1 mX12_isPerson.2.2.1 mX12_isPerson.2.2.2.1) && plainName mX12_isPerson.1.cls) = true := by decide +kernel
set_option maxRecDepth 100000 in
theorem ok_X12_areTwo : (tX12_areTwo).all (eok mth mX12_areTwo) = true := by decide +kernel
theorem cw_X12_areTwo : (wdq 7 128 (.code mX12_areTwo.1 mX12_areTwo.2.1 mX12_areTwo.2.2.1 mX12_areTwo.2.2.2.1) && plainName mX12_areTwo.1.cls) = true := by decide +kernel
set_option maxRecDepth 100000 in
theorem ok_X12_sorrow : (tX12_sorrow).all (eok mth mX12_sorrow) = true := by decide +kernel
theorem cw_X12_sorrow : (wdq 7 81 (.code mX12_sorrow.1 mX12_sorrow.2.1 mX12_sorrow.2.2.1 mX12_sorrow.2.2.2.1) && plainName mX12_sorrow.1.cls) = true := by decide +kernel
set_option maxRecDepth 100000 in
theorem ok_X12_setOf : (tX12_setOf).all (eok mth mX12_setOf) = true := by decide +kernel
theorem cw_X12_setOf : (wdq 7 97 (.code mX12_setOf.1 mX12_setOf.2.1 mX12_setOf.2.2.1 mX12_setOf.2.2.2.1) && plainName mX12_setOf.1.cls) = true := by decide +kernel
set_option maxRecDepth 100000 in
theorem ok_X12_told : (tX12_told).all (eok mth mX12_told) = true := by decide +kernel
theorem cw_X12_told : (wdq 7 71 (.code mX12_told.1 mX12_told.2.1 mX12_told.2.2.1 mX12_told.2.2.2.1) && plainName mX12_told.1.cls) = true := by decide +kernel
set_option maxRecDepth 100000 in
theorem ok_X12_person : (tX12_person).all (eok mth mX12_person) = true := by decide +kernel
theorem cw_X12_person : (wdq 7 112 (.code mX12_person.1 mX12_person.2.1 mX12_person.2.2.1 mX12_person.2.2.2.1) && plainName mX12_person.1.cls) = true := by decide +kernel
set_option maxRecDepth 100000 in
theorem ok_X12_owed : (tX12_owed).all (eok mth mX12_owed) = true := by decide +kernel
theorem cw_X12_owed : (wdq 7 124 (.code mX12_owed.1 mX12_owed.2.1 mX12_owed.2.2.1 mX12_owed.2.2.2.1) && plainName mX12_owed.1.cls) = true := by decide +kernel
set_option maxRecDepth 100000 in
theorem ok_X12_heir : (tX12_heir).all (eok mth mX12_heir) = true := by decide +kernel
theorem cw_X12_heir : (wdq 7 132 (.code mX12_heir.1 mX12_heir.2.1 mX12_heir.2.2.1 mX12_heir.2.2.2.1) && plainName mX12_heir.1.cls) = true := by decide +kernel
set_option maxRecDepth 100000 in
theorem ok_X12_door : (tX12_door).all (eok mth mX12_door) = true := by decide +kernel
theorem cw_X12_door : (wdq 7 136 (.code mX12_door.1 mX12_door.2.1 mX12_door.2.2.1 mX12_door.2.2.2.1) && plainName mX12_door.1.cls) = true := by decide +kernel
set_option maxRecDepth 100000 in
theorem ok_X12_labour : (tX12_labour).all (eok mth mX12_labour) = true := by decide +kernel
theorem cw_X12_labour : (wdq 7 152 (.code mX12_labour.1 mX12_labour.2.1 mX12_labour.2.2.1 mX12_labour.2.2.2.1) && plainName mX12_labour.1.cls) = true := by decide +kernel
set_option maxRecDepth 100000 in
theorem ok_X12_within : (tX12_within).all (eok mth mX12_within) = true := by decide +kernel
theorem cw_X12_within : (wdq 7 156 (.code mX12_within.1 mX12_within.2.1 mX12_within.2.2.1 mX12_within.2.2.2.1) && plainName mX12_within.1.cls) = true := by decide +kernel
set_option maxRecDepth 100000 in
theorem ok_X12_night0 : (tX12_night0).all (eok mth mX12_night0) = true := by decide +kernel
theorem cw_X12_night0 : (wdq 7 176 (.code mX12_night0.1 mX12_night0.2.1 mX12_night0.2.2.1 mX12_night0.2.2.2.1) && plainName mX12_night0.1.cls) = true := by decide +kernel
set_option maxRecDepth 100000 in
theorem ok_X12_night : (tX12_night).all (eok mth mX12_night) = true := by decide +kernel
theorem cw_X12_night : (wdq 7 168 (.code mX12_night.1 mX12_night.2.1 mX12_night.2.2.1 mX12_night.2.2.2.1) && plainName mX12_night.1.cls) = true := by decide +kernel
set_option maxRecDepth 100000 in
theorem ok_X12_die : (tX12_die).all (eok mth mX12_die) = true := by decide +kernel
theorem cw_X12_die : (wdq 7 201 (.code mX12_die.1 mX12_die.2.1 mX12_die.2.2.1 mX12_die.2.2.2.1) && plainName mX12_die.1.cls) = true := by decide +kernel
set_option maxRecDepth 100000 in
theorem ok_X12_forgive : (tX12_forgive).all (eok mth mX12_forgive) = true := by decide +kernel
theorem cw_X12_forgive : (wdq 7 221 (.code mX12_forgive.1 mX12_forgive.2.1 mX12_forgive.2.2.1 mX12_forgive.2.2.2.1) && plainName mX12_forgive.1.cls) = true := by decide +kernel
set_option maxRecDepth 100000 in
theorem ok_X12_forge : (tX12_forge).all (eok mth mX12_forge) = true := by decide +kernel
theorem cw_X12_forge : (wdq 7 229 (.code mX12_forge.1 mX12_forge.2.1 mX12_forge.2.2.1 mX12_forge.2.2.2.1) && plainName mX12_forge.1.cls) = true := by decide +kernel
set_option maxRecDepth 100000 in
theorem ok_X12_salt : (tX12_salt).all (eok mth mX12_salt) = true := by decide +kernel
theorem cw_X12_salt : (wdq 7 237 (.code mX12_salt.1 mX12_salt.2.1 mX12_salt.2.2.1 mX12_salt.2.2.2.1) && plainName mX12_salt.1.cls) = true := by decide +kernel
set_option maxRecDepth 100000 in
theorem ok_X12_keep : (tX12_keep).all (eok mth mX12_keep) = true := by decide +kernel
theorem cw_X12_keep : (wdq 8 5 (.code mX12_keep.1 mX12_keep.2.1 mX12_keep.2.2.1 mX12_keep.2.2.2.1) && plainName mX12_keep.1.cls) = true := by decide +kernel
set_option maxRecDepth 100000 in
theorem ok_X12_wall : (tX12_wall).all (eok mth mX12_wall) = true := by decide +kernel
theorem cw_X12_wall : (wdq 8 9 (.code mX12_wall.1 mX12_wall.2.1 mX12_wall.2.2.1 mX12_wall.2.2.2.1) && plainName mX12_wall.1.cls) = true := by decide +kernel
set_option maxRecDepth 100000 in
theorem ok_X12_move : (tX12_move).all (eok mth mX12_move) = true := by decide +kernel
theorem cw_X12_move : (wdq 8 13 (.code mX12_move.1 mX12_move.2.1 mX12_move.2.2.1 mX12_move.2.2.2.1) && plainName mX12_move.1.cls) = true := by decide +kernel
set_option maxRecDepth 100000 in
theorem ok_X12_way : (tX12_way).all (eok mth mX12_way) = true := by decide +kernel
theorem cw_X12_way : (wdq 8 17 (.code mX12_way.1 mX12_way.2.1 mX12_way.2.2.1 mX12_way.2.2.2.1) && plainName mX12_way.1.cls) = true := by decide +kernel
set_option maxRecDepth 100000 in
theorem ok_X12_aim : (tX12_aim).all (eok mth mX12_aim) = true := by decide +kernel
theorem cw_X12_aim : (wdq 8 21 (.code mX12_aim.1 mX12_aim.2.1 mX12_aim.2.2.1 mX12_aim.2.2.2.1) && plainName mX12_aim.1.cls) = true := by decide +kernel
set_option maxRecDepth 100000 in
theorem ok_X12_step : (tX12_step).all (eok mth mX12_step) = true := by decide +kernel
theorem cw_X12_step : (wdq 8 29 (.code mX12_step.1 mX12_step.2.1 mX12_step.2.2.1 mX12_step.2.2.2.1) && plainName mX12_step.1.cls) = true := by decide +kernel
set_option maxRecDepth 100000 in
theorem ok_X12_keeps : (tX12_keeps).all (eok mth mX12_keeps) = true := by decide +kernel
theorem cw_X12_keeps : (wdq 8 46 (.code mX12_keeps.1 mX12_keeps.2.1 mX12_keeps.2.2.1 mX12_keeps.2.2.2.1) && plainName mX12_keeps.1.cls) = true := by decide +kernel
set_option maxRecDepth 100000 in
theorem ok_X12_restores : (tX12_restores).all (eok mth mX12_restores) = true := by decide +kernel
theorem cw_X12_restores : (wdq 8 54 (.code mX12_restores.1 mX12_restores.2.1 mX12_restores.2.2.1 mX12_restores.2.2.2.1) && plainName mX12_restores.1.cls) = true := by decide +kernel
set_option maxRecDepth 100000 in
theorem ok_X12_walks : (tX12_walks).all (eok mth mX12_walks) = true := by decide +kernel
theorem cw_X12_walks : (wdq 8 37 (.code mX12_walks.1 mX12_walks.2.1 mX12_walks.2.2.1 mX12_walks.2.2.2.1) && plainName mX12_walks.1.cls) = true := by decide +kernel
set_option maxRecDepth 100000 in
theorem ok_X12_later : (tX12_later).all (eok mth mX12_later) = true := by decide +kernel
theorem cw_X12_later : (wdq 8 58 (.code mX12_later.1 mX12_later.2.1 mX12_later.2.2.1 mX12_later.2.2.2.1) && plainName mX12_later.1.cls) = true := by decide +kernel
set_option maxRecDepth 100000 in
theorem ok_X12_rest : (tX12_rest).all (eok mth mX12_rest) = true := by decide +kernel
theorem cw_X12_rest : (wdq 8 62 (.code mX12_rest.1 mX12_rest.2.1 mX12_rest.2.2.1 mX12_rest.2.2.2.1) && plainName mX12_rest.1.cls) = true := by decide +kernel
set_option maxRecDepth 100000 in
theorem ok_X12_quiet : (tX12_quiet).all (eok mth mX12_quiet) = true := by decide +kernel
theorem cw_X12_quiet : (wdq 8 74 (.code mX12_quiet.1 mX12_quiet.2.1 mX12_quiet.2.2.1 mX12_quiet.2.2.2.1) && plainName mX12_quiet.1.cls) = true := by decide +kernel
set_option maxRecDepth 100000 in
theorem ok_X12_harvest : (tX12_harvest).all (eok mth mX12_harvest) = true := by decide +kernel
theorem cw_X12_harvest : (wdq 8 78 (.code mX12_harvest.1 mX12_harvest.2.1 mX12_harvest.2.2.1 mX12_harvest.2.2.2.1) && plainName mX12_harvest.1.cls) = true := by decide +kernel
set_option maxRecDepth 100000 in
theorem ok_X12_visitors : (tX12_visitors).all (eok mth mX12_visitors) = true := by decide +kernel
theorem cw_X12_visitors : (wdq 8 83 (.code mX12_visitors.1 mX12_visitors.2.1 mX12_visitors.2.2.1 mX12_visitors.2.2.2.1) && plainName mX12_visitors.1.cls) = true := by decide +kernel
set_option maxRecDepth 100000 in
theorem ok_X12_stays : (tX12_stays).all (eok mth mX12_stays) = true := by decide +kernel
theorem cw_X12_stays : (wdq 8 87 (.code mX12_stays.1 mX12_stays.2.1 mX12_stays.2.2.1 mX12_stays.2.2.2.1) && plainName mX12_stays.1.cls) = true := by decide +kernel
set_option maxRecDepth 100000 in
theorem ok_X12_must : (tX12_must).all (eok mth mX12_must) = true := by decide +kernel
theorem cw_X12_must : (wdq 8 91 (.code mX12_must.1 mX12_must.2.1 mX12_must.2.2.1 mX12_must.2.2.2.1) && plainName mX12_must.1.cls) = true := by decide +kernel
set_option maxRecDepth 100000 in
theorem ok_X12_reach : (tX12_reach).all (eok mth mX12_reach) = true := by decide +kernel
theorem cw_X12_reach : (wdq 8 95 (.code mX12_reach.1 mX12_reach.2.1 mX12_reach.2.2.1 mX12_reach.2.2.2.1) && plainName mX12_reach.1.cls) = true := by decide +kernel
set_option maxRecDepth 100000 in
theorem ok_X12_tours : (tX12_tours).all (eok mth mX12_tours) = true := by decide +kernel
theorem cw_X12_tours : (wdq 8 99 (.code mX12_tours.1 mX12_tours.2.1 mX12_tours.2.2.1 mX12_tours.2.2.2.1) && plainName mX12_tours.1.cls) = true := by decide +kernel
set_option maxRecDepth 100000 in
theorem ok_X12_meets : (tX12_meets).all (eok mth mX12_meets) = true := by decide +kernel
theorem cw_X12_meets : (wdq 8 103 (.code mX12_meets.1 mX12_meets.2.1 mX12_meets.2.2.1 mX12_meets.2.2.2.1) && plainName mX12_meets.1.cls) = true := by decide +kernel
set_option maxRecDepth 100000 in
theorem ok_X12_mostOf : (tX12_mostOf).all (eok mth mX12_mostOf) = true := by decide +kernel
theorem cw_X12_mostOf : (wdq 8 119 (.code mX12_mostOf.1 mX12_mostOf.2.1 mX12_mostOf.2.2.1 mX12_mostOf.2.2.2.1) && plainName mX12_mostOf.1.cls) = true := by decide +kernel
set_option maxRecDepth 100000 in
theorem ok_X12_counts : (tX12_counts).all (eok mth mX12_counts) = true := by decide +kernel
theorem cw_X12_counts : (wdq 8 115 (.code mX12_counts.1 mX12_counts.2.1 mX12_counts.2.2.1 mX12_counts.2.2.2.1) && plainName mX12_counts.1.cls) = true := by decide +kernel
set_option maxRecDepth 100000 in
theorem ok_X12_clears : (tX12_clears).all (eok mth mX12_clears) = true := by decide +kernel
theorem cw_X12_clears : (wdq 8 111 (.code mX12_clears.1 mX12_clears.2.1 mX12_clears.2.2.1 mX12_clears.2.2.2.1) && plainName mX12_clears.1.cls) = true := by decide +kernel
set_option maxRecDepth 100000 in
theorem ok_X12_crowd : (tX12_crowd).all (eok mth mX12_crowd) = true := by decide +kernel
theorem cw_X12_crowd : (wdq 8 107 (.code mX12_crowd.1 mX12_crowd.2.1 mX12_crowd.2.2.1 mX12_crowd.2.2.2.1) && plainName mX12_crowd.1.cls) = true := by decide +kernel
set_option maxRecDepth 100000 in
theorem ok_X12_busiest : (tX12_busiest).all (eok mth mX12_busiest) = true := by decide +kernel
theorem cw_X12_busiest : (wdq 8 123 (.code mX12_busiest.1 mX12_busiest.2.1 mX12_busiest.2.2.1 mX12_busiest.2.2.2.1) && plainName mX12_busiest.1.cls) = true := by decide +kernel
set_option maxRecDepth 100000 in
theorem ok_X12_exposed : (tX12_exposed).all (eok mth mX12_exposed) = true := by decide +kernel
theorem cw_X12_exposed : (wdq 8 127 (.code mX12_exposed.1 mX12_exposed.2.1 mX12_exposed.2.2.1 mX12_exposed.2.2.2.1) && plainName mX12_exposed.1.cls) = true := by decide +kernel
set_option maxRecDepth 100000 in
theorem ok_X12_wells : (tX12_wells).all (eok mth mX12_wells) = true := by decide +kernel
theorem cw_X12_wells : (wdq 8 131 (.code mX12_wells.1 mX12_wells.2.1 mX12_wells.2.2.1 mX12_wells.2.2.2.1) && plainName mX12_wells.1.cls) = true := by decide +kernel
set_option maxRecDepth 100000 in
theorem ok_X12_ways : (tX12_ways).all (eok mth mX12_ways) = true := by decide +kernel
theorem cw_X12_ways : (wdq 8 135 (.code mX12_ways.1 mX12_ways.2.1 mX12_ways.2.2.1 mX12_ways.2.2.2.1) && plainName mX12_ways.1.cls) = true := by decide +kernel
set_option maxRecDepth 100000 in
theorem ok_X12_heirs : (tX12_heirs).all (eok mth mX12_heirs) = true := by decide +kernel
theorem cw_X12_heirs : (wdq 8 139 (.code mX12_heirs.1 mX12_heirs.2.1 mX12_heirs.2.2.1 mX12_heirs.2.2.2.1) && plainName mX12_heirs.1.cls) = true := by decide +kernel
set_option maxRecDepth 100000 in
theorem ok_X12_loss : (tX12_loss).all (eok mth mX12_loss) = true := by decide +kernel
theorem cw_X12_loss : (wdq 8 143 (.code mX12_loss.1 mX12_loss.2.1 mX12_loss.2.2.1 mX12_loss.2.2.2.1) && plainName mX12_loss.1.cls) = true := by decide +kernel
set_option maxRecDepth 100000 in
theorem ok_X12_saint : (tX12_saint).all (eok mth mX12_saint) = true := by decide +kernel
theorem cw_X12_saint : (wdq 8 151 (.code mX12_saint.1 mX12_saint.2.1 mX12_saint.2.2.1 mX12_saint.2.2.2.1) && plainName mX12_saint.1.cls) = true := by decide +kernel
set_option maxRecDepth 100000 in
theorem ok_X12_keeper : (tX12_keeper).all (eok mth mX12_keeper) = true := by decide +kernel
theorem cw_X12_keeper : (wdq 8 155 (.code mX12_keeper.1 mX12_keeper.2.1 mX12_keeper.2.2.1 mX12_keeper.2.2.2.1) && plainName mX12_keeper.1.cls) = true := by decide +kernel
set_option maxRecDepth 100000 in
theorem ok_X12_lonely : (tX12_lonely).all (eok mth mX12_lonely) = true := by decide +kernel
theorem cw_X12_lonely : (wdq 8 163 (.code mX12_lonely.1 mX12_lonely.2.1 mX12_lonely.2.2.1 mX12_lonely.2.2.2.1) && plainName mX12_lonely.1.cls) = true := by decide +kernel
set_option maxRecDepth 100000 in
theorem ok_X12_due : (tX12_due).all (eok mth mX12_due) = true := by decide +kernel
theorem cw_X12_due : (wdq 8 167 (.code mX12_due.1 mX12_due.2.1 mX12_due.2.2.1 mX12_due.2.2.2.1) && plainName mX12_due.1.cls) = true := by decide +kernel
set_option maxRecDepth 100000 in
theorem ok_X12_net : (tX12_net).all (eok mth mX12_net) = true := by decide +kernel
theorem cw_X12_net : (wdq 8 171 (.code mX12_net.1 mX12_net.2.1 mX12_net.2.2.1 mX12_net.2.2.2.1) && plainName mX12_net.1.cls) = true := by decide +kernel
set_option maxRecDepth 100000 in
theorem ok_X12_wedding : (tX12_wedding).all (eok mth mX12_wedding) = true := by decide +kernel
theorem cw_X12_wedding : (wdq 8 175 (.code mX12_wedding.1 mX12_wedding.2.1 mX12_wedding.2.2.1 mX12_wedding.2.2.2.1) && plainName mX12_wedding.1.cls) = true := by decide +kernel
set_option maxRecDepth 100000 in
theorem ok_X12_weddingSet : (tX12_weddingSet).all (eok mth mX12_weddingSet) = true := by decide +kernel
theorem cw_X12_weddingSet : (wdq 8 187 (.code mX12_weddingSet.1 mX12_weddingSet.2.1 mX12_weddingSet.2.2.1 mX12_weddingSet.2.2.2.1) && plainName mX12_weddingSet.1.cls) = true := by decide +kernel
set_option maxRecDepth 100000 in
theorem ok_X12_isPardon : (tX12_isPardon).all (eok mth mX12_isPardon) = true := by decide +kernel
theorem cw_X12_isPardon : (wdq 8 195 (.code mX12_isPardon.1 mX12_isPardon.2.1 mX12_isPardon.2.2.1 mX12_isPardon.2.2.2.1) && plainName mX12_isPardon.1.cls) = true := by decide +kernel
set_option maxRecDepth 100000 in
theorem ok_X12_pardon : (tX12_pardon).all (eok mth mX12_pardon) = true := by decide +kernel
theorem cw_X12_pardon : (wdq 8 191 (.code mX12_pardon.1 mX12_pardon.2.1 mX12_pardon.2.2.1 mX12_pardon.2.2.2.1) && plainName mX12_pardon.1.cls) = true := by decide +kernel
set_option maxRecDepth 100000 in
theorem ok_X12_pardonSet : (tX12_pardonSet).all (eok mth mX12_pardonSet) = true := by decide +kernel
theorem cw_X12_pardonSet : (wdq 8 204 (.code mX12_pardonSet.1 mX12_pardonSet.2.1 mX12_pardonSet.2.2.1 mX12_pardonSet.2.2.2.1) && plainName mX12_pardonSet.1.cls) = true := by decide +kernel
set_option maxRecDepth 100000 in
theorem ok_X12_pair : (tX12_pair).all (eok mth mX12_pair) = true := by decide +kernel
theorem cw_X12_pair : (wdq 8 208 (.code mX12_pair.1 mX12_pair.2.1 mX12_pair.2.2.1 mX12_pair.2.2.2.1) && plainName mX12_pair.1.cls) = true := by decide +kernel
set_option maxRecDepth 100000 in
theorem ok_X12_share : (tX12_share).all (eok mth mX12_share) = true := by decide +kernel
theorem cw_X12_share : (wdq 8 216 (.code mX12_share.1 mX12_share.2.1 mX12_share.2.2.1 mX12_share.2.2.2.1) && plainName mX12_share.1.cls) = true := by decide +kernel
set_option maxRecDepth 100000 in
theorem ok_X12_gracious : (tX12_gracious).all (eok mth mX12_gracious) = true := by decide +kernel
theorem cw_X12_gracious : (wdq 8 220 (.code mX12_gracious.1 mX12_gracious.2.1 mX12_gracious.2.2.1 mX12_gracious.2.2.2.1) && plainName mX12_gracious.1.cls) = true := by decide +kernel
set_option maxRecDepth 100000 in
theorem ok_X12_deepest : (tX12_deepest).all (eok mth mX12_deepest) = true := by decide +kernel
theorem cw_X12_deepest : (wdq 8 224 (.code mX12_deepest.1 mX12_deepest.2.1 mX12_deepest.2.2.1 mX12_deepest.2.2.2.1) && plainName mX12_deepest.1.cls) = true := by decide +kernel
set_option maxRecDepth 100000 in
theorem ok_X12_weight : (tX12_weight).all (eok mth mX12_weight) = true := by decide +kernel
theorem cw_X12_weight : (wdq 8 228 (.code mX12_weight.1 mX12_weight.2.1 mX12_weight.2.2.1 mX12_weight.2.2.2.1) && plainName mX12_weight.1.cls) = true := by decide +kernel
set_option maxRecDepth 100000 in
theorem ok_X12_mutual : (tX12_mutual).all (eok mth mX12_mutual) = true := by decide +kernel
theorem cw_X12_mutual : (wdq 8 236 (.code mX12_mutual.1 mX12_mutual.2.1 mX12_mutual.2.2.1 mX12_mutual.2.2.2.1) && plainName mX12_mutual.1.cls) = true := by decide +kernel
set_option maxRecDepth 100000 in
theorem ok_X12_chain : (tX12_chain).all (eok mth mX12_chain) = true := by decide +kernel
theorem cw_X12_chain : (wdq 9 0 (.code mX12_chain.1 mX12_chain.2.1 mX12_chain.2.2.1 mX12_chain.2.2.2.1) && plainName mX12_chain.1.cls) = true := by decide +kernel
set_option maxRecDepth 100000 in
theorem ok_X12_circle : (tX12_circle).all (eok mth mX12_circle) = true := by decide +kernel
theorem cw_X12_circle : (wdq 9 7 (.code mX12_circle.1 mX12_circle.2.1 mX12_circle.2.2.1 mX12_circle.2.2.2.1) && plainName mX12_circle.1.cls) = true := by decide +kernel
set_option maxRecDepth 100000 in
theorem ok_X12_bestSalt : (tX12_bestSalt).all (eok mth mX12_bestSalt) = true := by decide +kernel
theorem cw_X12_bestSalt : (wdq 9 11 (.code mX12_bestSalt.1 mX12_bestSalt.2.1 mX12_bestSalt.2.2.1 mX12_bestSalt.2.2.2.1) && plainName mX12_bestSalt.1.cls) = true := by decide +kernel
set_option maxRecDepth 100000 in
theorem ok_X12_live : (tX12_live).all (eok mth mX12_live) = true := by decide +kernel
theorem cw_X12_live : (wdq 9 15 (.code mX12_live.1 mX12_live.2.1 mX12_live.2.2.1 mX12_live.2.2.2.1) && plainName mX12_live.1.cls) = true := by decide +kernel
set_option maxRecDepth 100000 in
theorem ok_X12_lived : (tX12_lived).all (eok mth mX12_lived) = true := by decide +kernel
theorem cw_X12_lived : (wdq 9 52 (.code mX12_lived.1 mX12_lived.2.1 mX12_lived.2.2.1 mX12_lived.2.2.2.1) && plainName mX12_lived.1.cls) = true := by decide +kernel
set_option maxRecDepth 100000 in
theorem ok_X12_mean : (tX12_mean).all (eok mth mX12_mean) = true := by decide +kernel
theorem cw_X12_mean : (wdq 9 56 (.code mX12_mean.1 mX12_mean.2.1 mX12_mean.2.2.1 mX12_mean.2.2.2.1) && plainName mX12_mean.1.cls) = true := by decide +kernel
set_option maxRecDepth 100000 in
theorem ok_X12_copies : (tX12_copies).all (eok mth mX12_copies) = true := by decide +kernel
theorem cw_X12_copies : (wdq 9 64 (.code mX12_copies.1 mX12_copies.2.1 mX12_copies.2.2.1 mX12_copies.2.2.2.1) && plainName mX12_copies.1.cls) = true := by decide +kernel
set_option maxRecDepth 100000 in
theorem ok_X12_mark : (tX12_mark).all (eok mth mX12_mark) = true := by decide +kernel
theorem cw_X12_mark : (wdq 9 60 (.code mX12_mark.1 mX12_mark.2.1 mX12_mark.2.2.1 mX12_mark.2.2.2.1) && plainName mX12_mark.1.cls) = true := by decide +kernel
set_option maxRecDepth 100000 in
theorem ok_X12_undo : (tX12_undo).all (eok mth mX12_undo) = true := by decide +kernel
theorem cw_X12_undo : (wdq 9 68 (.code mX12_undo.1 mX12_undo.2.1 mX12_undo.2.2.1 mX12_undo.2.2.2.1) && plainName mX12_undo.1.cls) = true := by decide +kernel
set_option maxRecDepth 100000 in
theorem ok_J0_length_8abf5 : (tJ0_length_8abf5).all (eok mth mJ0_length_8abf5) = true := by decide +kernel
theorem cw_J0_length_8abf5 : (wdq 0 42 (.code mJ0_length_8abf5.1 mJ0_length_8abf5.2.1 mJ0_length_8abf5.2.2.1 mJ0_length_8abf5.2.2.2.1) && plainName mJ0_length_8abf5.1.cls) = true := by decide +kernel
set_option maxRecDepth 100000 in
theorem ok_J0_charAt_5068e : (tJ0_charAt_5068e).all (eok mth mJ0_charAt_5068e) = true := by decide +kernel
theorem cw_J0_charAt_5068e : (wdq 0 52 (.code mJ0_charAt_5068e.1 mJ0_charAt_5068e.2.1 mJ0_charAt_5068e.2.2.1 mJ0_charAt_5068e.2.2.2.1) && plainName mJ0_charAt_5068e.1.cls) = true := by decide +kernel
set_option maxRecDepth 100000 in
theorem ok_J0_coder_7d493 : (tJ0_coder_7d493).all (eok mth mJ0_coder_7d493) = true := by decide +kernel
theorem cw_J0_coder_7d493 : (wdq 0 46 (.code mJ0_coder_7d493.1 mJ0_coder_7d493.2.1 mJ0_coder_7d493.2.2.1 mJ0_coder_7d493.2.2.2.1) && plainName mJ0_coder_7d493.1.cls) = true := by decide +kernel
set_option maxRecDepth 100000 in
theorem ok_J0_isLatin1_aae02 : (tJ0_isLatin1_aae02).all (eok mth mJ0_isLatin1_aae02) = true := by decide +kernel
theorem cw_J0_isLatin1_aae02 : (wdq 0 56 (.code mJ0_isLatin1_aae02.1 mJ0_isLatin1_aae02.2.1 mJ0_isLatin1_aae02.2.2.1 mJ0_isLatin1_aae02.2.2.2.1) && plainName mJ0_isLatin1_aae02.1.cls) = true := by decide +kernel
set_option maxRecDepth 100000 in
theorem ok_J0_checkIndex_df160 : (tJ0_checkIndex_df160).all (eok mth mJ0_checkIndex_df160) = true := by decide +kernel
theorem cw_J0_checkIndex_df160 : (wdq 0 62 (.code mJ0_checkIndex_df160.1 mJ0_checkIndex_df160.2.1 mJ0_checkIndex_df160.2.2.1 mJ0_checkIndex_df160.2.2.2.1) && plainName mJ0_checkIndex_df160.1.cls) = true := by decide +kernel
set_option maxRecDepth 100000 in
theorem ok_J1_charAt_3b067 : (tJ1_charAt_3b067).all (eok mth mJ1_charAt_3b067) = true := by decide +kernel
theorem cw_J1_charAt_3b067 : (wdq 0 59 (.code mJ1_charAt_3b067.1 mJ1_charAt_3b067.2.1 mJ1_charAt_3b067.2.2.1 mJ1_charAt_3b067.2.2.2.1) && plainName mJ1_charAt_3b067.1.cls) = true := by decide +kernel
set_option maxRecDepth 100000 in
theorem ok_J7_fill_d0a16 : (tJ7_fill_d0a16).all (eok mth mJ7_fill_d0a16) = true := by decide +kernel
theorem cw_J7_fill_d0a16 : (wdq 2 56 (.code mJ7_fill_d0a16.1 mJ7_fill_d0a16.2.1 mJ7_fill_d0a16.2.2.1 mJ7_fill_d0a16.2.2.2.1) && plainName mJ7_fill_d0a16.1.cls) = true := by decide +kernel
set_option maxRecDepth 100000 in
theorem ok_J7_fill_53178 : (tJ7_fill_53178).all (eok mth mJ7_fill_53178) = true := by decide +kernel
theorem cw_J7_fill_53178 : (wdq 2 118 (.code mJ7_fill_53178.1 mJ7_fill_53178.2.1 mJ7_fill_53178.2.2.1 mJ7_fill_53178.2.2.2.1) && plainName mJ7_fill_53178.1.cls) = true := by decide +kernel
set_option maxRecDepth 100000 in
theorem ok_J3_checkIndex_8e157 : (tJ3_checkIndex_8e157).all (eok mth mJ3_checkIndex_8e157) = true := by decide +kernel
theorem cw_J3_checkIndex_8e157 : (wdq 0 67 (.code mJ3_checkIndex_8e157.1 mJ3_checkIndex_8e157.2.1 mJ3_checkIndex_8e157.2.2.1 mJ3_checkIndex_8e157.2.2.2.1) && plainName mJ3_checkIndex_8e157.1.cls) = true := by decide +kernel
