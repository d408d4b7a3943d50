set_option maxRecDepth 100000 in
theorem ok_X9_isDigit : (tX9_isDigit).all (eok mth mX9_isDigit) = true := ewk0_ok (by decide +kernel)
theorem cw_X9_isDigit : (wdq 2 148 (.code mX9_isDigit.1 mX9_isDigit.2.1 mX9_isDigit.2.2.1 mX9_isDigit.2.2.2.1) && plainName mX9_isDigit.1.cls) = true := by decide +kernel
set_option maxRecDepth 100000 in
theorem ok_X9_isSign : (tX9_isSign).all (eok mth mX9_isSign) = true := ewk0_ok (by decide +kernel)
theorem cw_X9_isSign : (wdq 2 155 (.code mX9_isSign.1 mX9_isSign.2.1 mX9_isSign.2.2.1 mX9_isSign.2.2.2.1) && plainName mX9_isSign.1.cls) = true := by decide +kernel
set_option maxRecDepth 100000 in
theorem ok_X9_goesOn : (tX9_goesOn).all (eok mth mX9_goesOn) = true := ewk0_ok (by decide +kernel)
theorem cw_X9_goesOn : (wdq 2 159 (.code mX9_goesOn.1 mX9_goesOn.2.1 mX9_goesOn.2.2.1 mX9_goesOn.2.2.2.1) && plainName mX9_goesOn.1.cls) = true := by decide +kernel
set_option maxRecDepth 100000 in
theorem ok_X9_fail : (tX9_fail).all (eok mth mX9_fail) = true := ewk0_ok (by decide +kernel)
theorem cw_X9_fail : (wdq 2 175 (.code mX9_fail.1 mX9_fail.2.1 mX9_fail.2.2.1 mX9_fail.2.2.2.1) && plainName mX9_fail.1.cls) = true := by decide +kernel
set_option maxRecDepth 100000 in
theorem ok_X9_isWord : (tX9_isWord).all (eok mth mX9_isWord) = true := ewk0_ok (by decide +kernel)
theorem cw_X9_isWord : (wdq 2 167 (.code mX9_isWord.1 mX9_isWord.2.1 mX9_isWord.2.2.1 mX9_isWord.2.2.2.1) && plainName mX9_isWord.1.cls) = true := by decide +kernel
set_option maxRecDepth 100000 in
theorem ok_X9_isName : (tX9_isName).all (eok mth mX9_isName) = true := ewk0_ok (by decide +kernel)
theorem cw_X9_isName : (wdq 2 184 (.code mX9_isName.1 mX9_isName.2.1 mX9_isName.2.2.1 mX9_isName.2.2.2.1) && plainName mX9_isName.1.cls) = true := by decide +kernel
set_option maxRecDepth 100000 in
theorem ok_X9_takeWord : (tX9_takeWord).all (eok mth mX9_takeWord) = true := ewk0_ok (by decide +kernel)
theorem cw_X9_takeWord : (wdq 2 228 (.code mX9_takeWord.1 mX9_takeWord.2.1 mX9_takeWord.2.2.1 mX9_takeWord.2.2.2.1) && plainName mX9_takeWord.1.cls) = true := by decide +kernel
set_option maxRecDepth 100000 in
theorem ok_X9_takeSemicolon : (tX9_takeSemicolon).all (eok mth mX9_takeSemicolon) = true := ewk0_ok (by decide +kernel)
theorem cw_X9_takeSemicolon : (wdq 2 200 (.code mX9_takeSemicolon.1 mX9_takeSemicolon.2.1 mX9_takeSemicolon.2.2.1 mX9_takeSemicolon.2.2.2.1) && plainName mX9_takeSemicolon.1.cls) = true := by decide +kernel
set_option maxRecDepth 100000 in
theorem ok_X9_takeCompare : (tX9_takeCompare).all (eok mth mX9_takeCompare) = true := ewk0_ok (by decide +kernel)
theorem cw_X9_takeCompare : (wdq 3 108 (.code mX9_takeCompare.1 mX9_takeCompare.2.1 mX9_takeCompare.2.2.1 mX9_takeCompare.2.2.2.1) && plainName mX9_takeCompare.1.cls) = true := by decide +kernel
set_option maxRecDepth 100000 in
theorem ok_X9_takeNumber : (tX9_takeNumber).all (eok mth mX9_takeNumber) = true := ewk0_ok (by decide +kernel)
theorem cw_X9_takeNumber : (wdq 3 11 (.code mX9_takeNumber.1 mX9_takeNumber.2.1 mX9_takeNumber.2.2.1 mX9_takeNumber.2.2.2.1) && plainName mX9_takeNumber.1.cls) = true := by decide +kernel
set_option maxRecDepth 100000 in
theorem ok_X9_houseHere : (tX9_houseHere).all (eok mth mX9_houseHere) = true := ewk0_ok (by decide +kernel)
theorem cw_X9_houseHere : (wdq 2 213 (.code mX9_houseHere.1 mX9_houseHere.2.1 mX9_houseHere.2.2.1 mX9_houseHere.2.2.2.1) && plainName mX9_houseHere.1.cls) = true := by decide +kernel
set_option maxRecDepth 100000 in
theorem ok_X9_personHere : (tX9_personHere).all (eok mth mX9_personHere) = true := ewk0_ok (by decide +kernel)
theorem cw_X9_personHere : (wdq 3 1 (.code mX9_personHere.1 mX9_personHere.2.1 mX9_personHere.2.2.1 mX9_personHere.2.2.2.1) && plainName mX9_personHere.1.cls) = true := by decide +kernel
set_option maxRecDepth 100000 in
theorem ok_X9_takeHouse : (tX9_takeHouse).all (eok mth mX9_takeHouse) = true := ewk0_ok (by decide +kernel)
theorem cw_X9_takeHouse : (wdq 2 209 (.code mX9_takeHouse.1 mX9_takeHouse.2.1 mX9_takeHouse.2.2.1 mX9_takeHouse.2.2.2.1) && plainName mX9_takeHouse.1.cls) = true := by decide +kernel
set_option maxRecDepth 100000 in
theorem ok_X9_takePerson : (tX9_takePerson).all (eok mth mX9_takePerson) = true := ewk0_ok (by decide +kernel)
theorem cw_X9_takePerson : (wdq 2 237 (.code mX9_takePerson.1 mX9_takePerson.2.1 mX9_takePerson.2.2.1 mX9_takePerson.2.2.2.1) && plainName mX9_takePerson.1.cls) = true := by decide +kernel
set_option maxRecDepth 100000 in
theorem ok_X10_init : (tX10_init).all (eok mth mX10_init) = true := ewk0_ok (by decide +kernel)
theorem cw_X10_init : (wdq 1 194 (.code mX10_init.1 mX10_init.2.1 mX10_init.2.2.1 mX10_init.2.2.2.1) && plainName mX10_init.1.cls) = true := by decide +kernel
set_option maxRecDepth 100000 in
theorem ok_X10_lay : (tX10_lay).all (eok mth mX10_lay) = true := ewk0_ok (by decide +kernel)
theorem cw_X10_lay : (wdq 2 53 (.code mX10_lay.1 mX10_lay.2.1 mX10_lay.2.2.1 mX10_lay.2.2.2.1) && plainName mX10_lay.1.cls) = true := by decide +kernel
set_option maxRecDepth 100000 in
theorem ok_X10_holds : (tX10_holds).all (eok mth mX10_holds) = true := ewk0_ok (by decide +kernel)
theorem cw_X10_holds : (wdq 2 72 (.code mX10_holds.1 mX10_holds.2.1 mX10_holds.2.2.1 mX10_holds.2.2.2.1) && plainName mX10_holds.1.cls) = true := by decide +kernel
set_option maxRecDepth 100000 in
theorem ok_X10_put : (tX10_put).all (eok mth mX10_put) = true := ewk0_ok (by decide +kernel)
theorem cw_X10_put : (wdq 2 76 (.code mX10_put.1 mX10_put.2.1 mX10_put.2.2.1 mX10_put.2.2.2.1) && plainName mX10_put.1.cls) = true := by decide +kernel
set_option maxRecDepth 100000 in
theorem ok_X11_init : (tX11_init).all (eok mth mX11_init) = true := ewk0_ok (by decide +kernel)
theorem cw_X11_init : (wdq 0 26 (.code mX11_init.1 mX11_init.2.1 mX11_init.2.2.1 mX11_init.2.2.2.1) && plainName mX11_init.1.cls) = true := by decide +kernel
set_option maxRecDepth 100000 in
theorem ok_X11_status : (tX11_status).all (eok mth mX11_status) = true := ewk0_ok (by decide +kernel)
theorem cw_X11_status : (wdq 2 30 (.code mX11_status.1 mX11_status.2.1 mX11_status.2.2.1 mX11_status.2.2.2.1) && plainName mX11_status.1.cls) = true := by decide +kernel
set_option maxRecDepth 100000 in
theorem ok_X11_top : (tX11_top).all (eok mth mX11_top) = true := ewk0_ok (by decide +kernel)
theorem cw_X11_top : (wdq 2 34 (.code mX11_top.1 mX11_top.2.1 mX11_top.2.2.1 mX11_top.2.2.2.1) && plainName mX11_top.1.cls) = true := by decide +kernel
set_option maxRecDepth 100000 in
theorem ok_X11_bottom : (tX11_bottom).all (eok mth mX11_bottom) = true := ewk0_ok (by decide +kernel)
theorem cw_X11_bottom : (wdq 2 38 (.code mX11_bottom.1 mX11_bottom.2.1 mX11_bottom.2.2.1 mX11_bottom.2.2.2.1) && plainName mX11_bottom.1.cls) = true := by decide +kernel
set_option maxRecDepth 100000 in
theorem ok_X11_tray : (tX11_tray).all (eok mth mX11_tray) = true := ewk0_ok (by decide +kernel)
theorem cw_X11_tray : (wdq 2 42 (.code mX11_tray.1 mX11_tray.2.1 mX11_tray.2.2.1 mX11_tray.2.2.2.1) && plainName mX11_tray.1.cls) = true := by decide +kernel
set_option maxRecDepth 100000 in
theorem ok_X11_write : (tX11_write).all (eok mth mX11_write) = true := ewk0_ok (by decide +kernel)
theorem cw_X11_write : (wdq 2 64 (.code mX11_write.1 mX11_write.2.1 mX11_write.2.2.1 mX11_write.2.2.2.1) && plainName mX11_write.1.cls) = true := by decide +kernel
set_option maxRecDepth 100000 in
theorem ok_X11_read : (tX11_read).all (eok mth mX11_read) = true := ewk0_ok (by decide +kernel)
theorem cw_X11_read : (wdq 2 80 (.code mX11_read.1 mX11_read.2.1 mX11_read.2.2.1 mX11_read.2.2.2.1) && plainName mX11_read.1.cls) = true := by decide +kernel
set_option maxRecDepth 100000 in
theorem ok_X11_pour : (tX11_pour).all (eok mth mX11_pour) = true := ewk0_ok (by decide +kernel)
theorem cw_X11_pour : (wdq 2 88 (.code mX11_pour.1 mX11_pour.2.1 mX11_pour.2.2.1 mX11_pour.2.2.2.1) && plainName mX11_pour.1.cls) = true := by decide +kernel
set_option maxRecDepth 100000 in
theorem ok_X11_feed : (tX11_feed).all (eok mth mX11_feed) = true := ewk0_ok (by decide +kernel)
theorem cw_X11_feed : (wdq 2 95 (.code mX11_feed.1 mX11_feed.2.1 mX11_feed.2.2.1 mX11_feed.2.2.2.1) && plainName mX11_feed.1.cls) = true := by decide +kernel
set_option maxRecDepth 100000 in
theorem ok_X11_land : (tX11_land).all (eok mth mX11_land) = true := ewk0_ok (by decide +kernel)
theorem cw_X11_land : (wdq 2 103 (.code mX11_land.1 mX11_land.2.1 mX11_land.2.2.1 mX11_land.2.2.2.1) && plainName mX11_land.1.cls) = true := by decide +kernel
set_option maxRecDepth 100000 in
theorem ok_X11_tales : (tX11_tales).all (eok mth mX11_tales) = true := ewk0_ok (by decide +kernel)
theorem cw_X11_tales : (wdq 3 69 (.code mX11_tales.1 mX11_tales.2.1 mX11_tales.2.2.1 mX11_tales.2.2.2.1) && plainName mX11_tales.1.cls) = true := by decide +kernel
set_option maxRecDepth 100000 in
theorem ok_X11_fault : (tX11_fault).all (eok mth mX11_fault) = true := ewk0_ok (by decide +kernel)
theorem cw_X11_fault : (wdq 3 148 (.code mX11_fault.1 mX11_fault.2.1 mX11_fault.2.2.1 mX11_fault.2.2.2.1) && plainName mX11_fault.1.cls) = true := by decide +kernel
set_option maxRecDepth 100000 in
theorem ok_X11_told : (tX11_told).all (eok mth mX11_told) = true := ewk0_ok (by decide +kernel)
theorem cw_X11_told : (wdq 3 152 (.code mX11_told.1 mX11_told.2.1 mX11_told.2.2.1 mX11_told.2.2.2.1) && plainName mX11_told.1.cls) = true := by decide +kernel
set_option maxRecDepth 100000 in
theorem ok_X11_person : (tX11_person).all (eok mth mX11_person) = true := ewk0_ok (by decide +kernel)
theorem cw_X11_person : (wdq 3 179 (.code mX11_person.1 mX11_person.2.1 mX11_person.2.2.1 mX11_person.2.2.2.1) && plainName mX11_person.1.cls) = true := by decide +kernel
set_option maxRecDepth 100000 in
theorem ok_X11_owed : (tX11_owed).all (eok mth mX11_owed) = true := ewk0_ok (by decide +kernel)
theorem cw_X11_owed : (wdq 3 198 (.code mX11_owed.1 mX11_owed.2.1 mX11_owed.2.2.1 mX11_owed.2.2.2.1) && plainName mX11_owed.1.cls) = true := by decide +kernel
set_option maxRecDepth 100000 in
theorem ok_X11_heir : (tX11_heir).all (eok mth mX11_heir) = true := ewk0_ok (by decide +kernel)
theorem cw_X11_heir : (wdq 3 207 (.code mX11_heir.1 mX11_heir.2.1 mX11_heir.2.2.1 mX11_heir.2.2.2.1) && plainName mX11_heir.1.cls) = true := by decide +kernel
set_option maxRecDepth 100000 in
theorem ok_X11_door : (tX11_door).all (eok mth mX11_door) = true := ewk0_ok (by decide +kernel)
theorem cw_X11_door : (wdq 3 211 (.code mX11_door.1 mX11_door.2.1 mX11_door.2.2.1 mX11_door.2.2.2.1) && plainName mX11_door.1.cls) = true := by decide +kernel
set_option maxRecDepth 100000 in
theorem ok_X11_labour : (tX11_labour).all (eok mth mX11_labour) = true := ewk0_ok (by decide +kernel)
theorem cw_X11_labour : (wdq 3 223 (.code mX11_labour.1 mX11_labour.2.1 mX11_labour.2.2.1 mX11_labour.2.2.2.1) && plainName mX11_labour.1.cls) = true := by decide +kernel
set_option maxRecDepth 100000 in
theorem ok_X11_within : (tX11_within).all (eok mth mX11_within) = true := ewk0_ok (by decide +kernel)
theorem cw_X11_within : (wdq 3 227 (.code mX11_within.1 mX11_within.2.1 mX11_within.2.2.1 mX11_within.2.2.2.1) && plainName mX11_within.1.cls) = true := by decide +kernel
set_option maxRecDepth 100000 in
theorem ok_X11_night : (tX11_night).all (eok mth mX11_night) = true := ewk0_ok (by decide +kernel)
theorem cw_X11_night : (wdq 3 235 (.code mX11_night.1 mX11_night.2.1 mX11_night.2.2.1 mX11_night.2.2.2.1) && plainName mX11_night.1.cls) = true := by decide +kernel
set_option maxRecDepth 100000 in
theorem ok_X11_die : (tX11_die).all (eok mth mX11_die) = true := ewk0_ok (by decide +kernel)
theorem cw_X11_die : (wdq 4 22 (.code mX11_die.1 mX11_die.2.1 mX11_die.2.2.1 mX11_die.2.2.2.1) && plainName mX11_die.1.cls) = true := by decide +kernel
set_option maxRecDepth 100000 in
theorem ok_X11_forgive : (tX11_forgive).all (eok mth mX11_forgive) = true := ewk0_ok (by decide +kernel)
theorem cw_X11_forgive : (wdq 4 48 (.code mX11_forgive.1 mX11_forgive.2.1 mX11_forgive.2.2.1 mX11_forgive.2.2.2.1) && plainName mX11_forgive.1.cls) = true := by decide +kernel
set_option maxRecDepth 100000 in
theorem ok_X11_forge : (tX11_forge).all (eok mth mX11_forge) = true := ewk0_ok (by decide +kernel)
theorem cw_X11_forge : (wdq 4 60 (.code mX11_forge.1 mX11_forge.2.1 mX11_forge.2.2.1 mX11_forge.2.2.2.1) && plainName mX11_forge.1.cls) = true := by decide +kernel
set_option maxRecDepth 100000 in
theorem ok_X11_salt : (tX11_salt).all (eok mth mX11_salt) = true := ewk0_ok (by decide +kernel)
theorem cw_X11_salt : (wdq 4 68 (.code mX11_salt.1 mX11_salt.2.1 mX11_salt.2.2.1 mX11_salt.2.2.2.1) && plainName mX11_salt.1.cls) = true := by decide +kernel
set_option maxRecDepth 100000 in
theorem ok_X11_keep : (tX11_keep).all (eok mth mX11_keep) = true := ewk0_ok (by decide +kernel)
theorem cw_X11_keep : (wdq 4 77 (.code mX11_keep.1 mX11_keep.2.1 mX11_keep.2.2.1 mX11_keep.2.2.2.1) && plainName mX11_keep.1.cls) = true := by decide +kernel
set_option maxRecDepth 100000 in
theorem ok_X11_wall : (tX11_wall).all (eok mth mX11_wall) = true := ewk0_ok (by decide +kernel)
theorem cw_X11_wall : (wdq 4 82 (.code mX11_wall.1 mX11_wall.2.1 mX11_wall.2.2.1 mX11_wall.2.2.2.1) && plainName mX11_wall.1.cls) = true := by decide +kernel
set_option maxRecDepth 100000 in
theorem ok_X11_move : (tX11_move).all (eok mth mX11_move) = true := ewk0_ok (by decide +kernel)
theorem cw_X11_move : (wdq 4 88 (.code mX11_move.1 mX11_move.2.1 mX11_move.2.2.1 mX11_move.2.2.2.1) && plainName mX11_move.1.cls) = true := by decide +kernel
set_option maxRecDepth 100000 in
theorem ok_X11_way : (tX11_way).all (eok mth mX11_way) = true := ewk0_ok (by decide +kernel)
theorem cw_X11_way : (wdq 4 93 (.code mX11_way.1 mX11_way.2.1 mX11_way.2.2.1 mX11_way.2.2.2.1) && plainName mX11_way.1.cls) = true := by decide +kernel
set_option maxRecDepth 100000 in
theorem ok_X11_aim : (tX11_aim).all (eok mth mX11_aim) = true := ewk0_ok (by decide +kernel)
theorem cw_X11_aim : (wdq 4 102 (.code mX11_aim.1 mX11_aim.2.1 mX11_aim.2.2.1 mX11_aim.2.2.2.1) && plainName mX11_aim.1.cls) = true := by decide +kernel
set_option maxRecDepth 100000 in
theorem ok_X11_step : (tX11_step).all (eok mth mX11_step) = true := ewk0_ok (by decide +kernel)
theorem cw_X11_step : (wdq 4 108 (.code mX11_step.1 mX11_step.2.1 mX11_step.2.2.1 mX11_step.2.2.2.1) && plainName mX11_step.1.cls) = true := by decide +kernel
set_option maxRecDepth 100000 in
theorem ok_X11_walks : (tX11_walks).all (eok mth mX11_walks) = true := ewk0_ok (by decide +kernel)
theorem cw_X11_walks : (wdq 4 116 (.code mX11_walks.1 mX11_walks.2.1 mX11_walks.2.2.1 mX11_walks.2.2.2.1) && plainName mX11_walks.1.cls) = true := by decide +kernel
set_option maxRecDepth 100000 in
theorem ok_X11_later : (tX11_later).all (eok mth mX11_later) = true := ewk0_ok (by decide +kernel)
theorem cw_X11_later : (wdq 4 126 (.code mX11_later.1 mX11_later.2.1 mX11_later.2.2.1 mX11_later.2.2.2.1) && plainName mX11_later.1.cls) = true := by decide +kernel
set_option maxRecDepth 100000 in
theorem ok_X11_rest : (tX11_rest).all (eok mth mX11_rest) = true := ewk0_ok (by decide +kernel)
theorem cw_X11_rest : (wdq 4 130 (.code mX11_rest.1 mX11_rest.2.1 mX11_rest.2.2.1 mX11_rest.2.2.2.1) && plainName mX11_rest.1.cls) = true := by decide +kernel
set_option maxRecDepth 100000 in
theorem ok_X11_quiet : (tX11_quiet).all (eok mth mX11_quiet) = true := ewk0_ok (by decide +kernel)
theorem cw_X11_quiet : (wdq 4 139 (.code mX11_quiet.1 mX11_quiet.2.1 mX11_quiet.2.2.1 mX11_quiet.2.2.2.1) && plainName mX11_quiet.1.cls) = true := by decide +kernel
set_option maxRecDepth 100000 in
theorem ok_X11_harvest : (tX11_harvest).all (eok mth mX11_harvest) = true := ewk0_ok (by decide +kernel)
theorem cw_X11_harvest : (wdq 4 152 (.code mX11_harvest.1 mX11_harvest.2.1 mX11_harvest.2.2.1 mX11_harvest.2.2.2.1) && plainName mX11_harvest.1.cls) = true := by decide +kernel
set_option maxRecDepth 100000 in
theorem ok_X11_visitors : (tX11_visitors).all (eok mth mX11_visitors) = true := ewk0_ok (by decide +kernel)
theorem cw_X11_visitors : (wdq 4 160 (.code mX11_visitors.1 mX11_visitors.2.1 mX11_visitors.2.2.1 mX11_visitors.2.2.2.1) && plainName mX11_visitors.1.cls) = true := by decide +kernel
set_option maxRecDepth 100000 in
theorem ok_X11_stays : (tX11_stays).all (eok mth mX11_stays) = true := ewk0_ok (by decide +kernel)
theorem cw_X11_stays : (wdq 4 170 (.code mX11_stays.1 mX11_stays.2.1 mX11_stays.2.2.1 mX11_stays.2.2.2.1) && plainName mX11_stays.1.cls) = true := by decide +kernel
set_option maxRecDepth 100000 in
theorem ok_X11_must : (tX11_must).all (eok mth mX11_must) = true := ewk0_ok (by decide +kernel)
theorem cw_X11_must : (wdq 4 178 (.code mX11_must.1 mX11_must.2.1 mX11_must.2.2.1 mX11_must.2.2.2.1) && plainName mX11_must.1.cls) = true := by decide +kernel
set_option maxRecDepth 100000 in
theorem ok_X11_reach : (tX11_reach).all (eok mth mX11_reach) = true := ewk0_ok (by decide +kernel)
theorem cw_X11_reach : (wdq 4 190 (.code mX11_reach.1 mX11_reach.2.1 mX11_reach.2.2.1 mX11_reach.2.2.2.1) && plainName mX11_reach.1.cls) = true := by decide +kernel
set_option maxRecDepth 100000 in
theorem ok_X11_tours : (tX11_tours).all (eok mth mX11_tours) = true := ewk0_ok (by decide +kernel)
theorem cw_X11_tours : (wdq 4 195 (.code mX11_tours.1 mX11_tours.2.1 mX11_tours.2.2.1 mX11_tours.2.2.2.1) && plainName mX11_tours.1.cls) = true := by decide +kernel
set_option maxRecDepth 100000 in
theorem ok_X11_meets : (tX11_meets).all (eok mth mX11_meets) = true := ewk0_ok (by decide +kernel)
theorem cw_X11_meets : (wdq 4 204 (.code mX11_meets.1 mX11_meets.2.1 mX11_meets.2.2.1 mX11_meets.2.2.2.1) && plainName mX11_meets.1.cls) = true := by decide +kernel
set_option maxRecDepth 100000 in
theorem ok_X11_crowd : (tX11_crowd).all (eok mth mX11_crowd) = true := ewk0_ok (by decide +kernel)
theorem cw_X11_crowd : (wdq 4 212 (.code mX11_crowd.1 mX11_crowd.2.1 mX11_crowd.2.2.1 mX11_crowd.2.2.2.1) && plainName mX11_crowd.1.cls) = true := by decide +kernel
