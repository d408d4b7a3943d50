set_option maxRecDepth 100000 in
theorem ok_X9_isDigit : (tX9_isDigit).all (eok mth mX9_isDigit) = true := ewk0_ok (by decide +kernel)
theorem cw_X9_isDigit : (wdq 2 148 (.code mX9_isDigit.1 mX9_isDigit.2.1 mX9_isDigit.2.2.1 mX9_isDigit.2.2.2.1) && plainName mX9_isDigit.1.cls) = true := cwq_ok (by decide +kernel)
set_option maxRecDepth 100000 in
theorem ok_X9_isSign : (tX9_isSign).all (eok mth mX9_isSign) = true := ewk0_ok (by decide +kernel)
theorem cw_X9_isSign : (wdq 2 155 (.code mX9_isSign.1 mX9_isSign.2.1 mX9_isSign.2.2.1 mX9_isSign.2.2.2.1) && plainName mX9_isSign.1.cls) = true := cwq_ok (by decide +kernel)
set_option maxRecDepth 100000 in
theorem ok_X9_goesOn : (tX9_goesOn).all (eok mth mX9_goesOn) = true := ewk0_ok (by decide +kernel)
theorem cw_X9_goesOn : (wdq 2 159 (.code mX9_goesOn.1 mX9_goesOn.2.1 mX9_goesOn.2.2.1 mX9_goesOn.2.2.2.1) && plainName mX9_goesOn.1.cls) = true := cwq_ok (by decide +kernel)
set_option maxRecDepth 100000 in
theorem ok_X9_fail : (tX9_fail).all (eok mth mX9_fail) = true := ewk0_ok (by decide +kernel)
theorem cw_X9_fail : (wdq 2 175 (.code mX9_fail.1 mX9_fail.2.1 mX9_fail.2.2.1 mX9_fail.2.2.2.1) && plainName mX9_fail.1.cls) = true := cwq_ok (by decide +kernel)
set_option maxRecDepth 100000 in
theorem ok_X9_isWord : (tX9_isWord).all (eok mth mX9_isWord) = true := ewk0_ok (by decide +kernel)
theorem cw_X9_isWord : (wdq 2 167 (.code mX9_isWord.1 mX9_isWord.2.1 mX9_isWord.2.2.1 mX9_isWord.2.2.2.1) && plainName mX9_isWord.1.cls) = true := cwq_ok (by decide +kernel)
set_option maxRecDepth 100000 in
theorem ok_X9_isName : (tX9_isName).all (eok mth mX9_isName) = true := ewk0_ok (by decide +kernel)
theorem cw_X9_isName : (wdq 2 184 (.code mX9_isName.1 mX9_isName.2.1 mX9_isName.2.2.1 mX9_isName.2.2.2.1) && plainName mX9_isName.1.cls) = true := cwq_ok (by decide +kernel)
set_option maxRecDepth 100000 in
theorem ok_X9_takeWord : (tX9_takeWord).all (eok mth mX9_takeWord) = true := ewk0_ok (by decide +kernel)
theorem cw_X9_takeWord : (wdq 2 228 (.code mX9_takeWord.1 mX9_takeWord.2.1 mX9_takeWord.2.2.1 mX9_takeWord.2.2.2.1) && plainName mX9_takeWord.1.cls) = true := cwq_ok (by decide +kernel)
set_option maxRecDepth 100000 in
theorem ok_X9_takeSemicolon : (tX9_takeSemicolon).all (eok mth mX9_takeSemicolon) = true := ewk0_ok (by decide +kernel)
theorem cw_X9_takeSemicolon : (wdq 2 200 (.code mX9_takeSemicolon.1 mX9_takeSemicolon.2.1 mX9_takeSemicolon.2.2.1 mX9_takeSemicolon.2.2.2.1) && plainName mX9_takeSemicolon.1.cls) = true := cwq_ok (by decide +kernel)
set_option maxRecDepth 100000 in
theorem ok_X9_takeCompare : (tX9_takeCompare).all (eok mth mX9_takeCompare) = true := ewk0_ok (by decide +kernel)
theorem cw_X9_takeCompare : (wdq 3 108 (.code mX9_takeCompare.1 mX9_takeCompare.2.1 mX9_takeCompare.2.2.1 mX9_takeCompare.2.2.2.1) && plainName mX9_takeCompare.1.cls) = true := cwq_ok (by decide +kernel)
set_option maxRecDepth 100000 in
theorem ok_X9_takeNumber : (tX9_takeNumber).all (eok mth mX9_takeNumber) = true := ewk0_ok (by decide +kernel)
theorem cw_X9_takeNumber : (wdq 3 11 (.code mX9_takeNumber.1 mX9_takeNumber.2.1 mX9_takeNumber.2.2.1 mX9_takeNumber.2.2.2.1) && plainName mX9_takeNumber.1.cls) = true := cwq_ok (by decide +kernel)
set_option maxRecDepth 100000 in
theorem ok_X9_houseHere : (tX9_houseHere).all (eok mth mX9_houseHere) = true := ewk0_ok (by decide +kernel)
theorem cw_X9_houseHere : (wdq 2 213 (.code mX9_houseHere.1 mX9_houseHere.2.1 mX9_houseHere.2.2.1 mX9_houseHere.2.2.2.1) && plainName mX9_houseHere.1.cls) = true := cwq_ok (by decide +kernel)
set_option maxRecDepth 100000 in
theorem ok_X9_personHere : (tX9_personHere).all (eok mth mX9_personHere) = true := ewk0_ok (by decide +kernel)
theorem cw_X9_personHere : (wdq 3 1 (.code mX9_personHere.1 mX9_personHere.2.1 mX9_personHere.2.2.1 mX9_personHere.2.2.2.1) && plainName mX9_personHere.1.cls) = true := cwq_ok (by decide +kernel)
set_option maxRecDepth 100000 in
theorem ok_X9_takeHouse : (tX9_takeHouse).all (eok mth mX9_takeHouse) = true := ewk0_ok (by decide +kernel)
theorem cw_X9_takeHouse : (wdq 2 209 (.code mX9_takeHouse.1 mX9_takeHouse.2.1 mX9_takeHouse.2.2.1 mX9_takeHouse.2.2.2.1) && plainName mX9_takeHouse.1.cls) = true := cwq_ok (by decide +kernel)
set_option maxRecDepth 100000 in
theorem ok_X9_takePerson : (tX9_takePerson).all (eok mth mX9_takePerson) = true := ewk0_ok (by decide +kernel)
theorem cw_X9_takePerson : (wdq 2 237 (.code mX9_takePerson.1 mX9_takePerson.2.1 mX9_takePerson.2.2.1 mX9_takePerson.2.2.2.1) && plainName mX9_takePerson.1.cls) = true := cwq_ok (by decide +kernel)
set_option maxRecDepth 100000 in
theorem ok_X10_init : (tX10_init).all (eok mth mX10_init) = true := ewk0_ok (by decide +kernel)
theorem cw_X10_init : (wdq 1 194 (.code mX10_init.1 mX10_init.2.1 mX10_init.2.2.1 mX10_init.2.2.2.1) && plainName mX10_init.1.cls) = true := cwq_ok (by decide +kernel)
set_option maxRecDepth 100000 in
theorem ok_X10_lay : (tX10_lay).all (eok mth mX10_lay) = true := ewk0_ok (by decide +kernel)
theorem cw_X10_lay : (wdq 2 53 (.code mX10_lay.1 mX10_lay.2.1 mX10_lay.2.2.1 mX10_lay.2.2.2.1) && plainName mX10_lay.1.cls) = true := cwq_ok (by decide +kernel)
set_option maxRecDepth 100000 in
theorem ok_X10_holds : (tX10_holds).all (eok mth mX10_holds) = true := ewk0_ok (by decide +kernel)
theorem cw_X10_holds : (wdq 2 72 (.code mX10_holds.1 mX10_holds.2.1 mX10_holds.2.2.1 mX10_holds.2.2.2.1) && plainName mX10_holds.1.cls) = true := cwq_ok (by decide +kernel)
set_option maxRecDepth 100000 in
theorem ok_X10_put : (tX10_put).all (eok mth mX10_put) = true := ewk0_ok (by decide +kernel)
theorem cw_X10_put : (wdq 2 76 (.code mX10_put.1 mX10_put.2.1 mX10_put.2.2.1 mX10_put.2.2.2.1) && plainName mX10_put.1.cls) = true := cwq_ok (by decide +kernel)
set_option maxRecDepth 100000 in
theorem ok_X11_init : (tX11_init).all (eok mth mX11_init) = true := ewk0_ok (by decide +kernel)
theorem cw_X11_init : (wdq 0 26 (.code mX11_init.1 mX11_init.2.1 mX11_init.2.2.1 mX11_init.2.2.2.1) && plainName mX11_init.1.cls) = true := cwq_ok (by decide +kernel)
set_option maxRecDepth 100000 in
theorem ok_X11_status : (tX11_status).all (eok mth mX11_status) = true := ewk0_ok (by decide +kernel)
theorem cw_X11_status : (wdq 2 30 (.code mX11_status.1 mX11_status.2.1 mX11_status.2.2.1 mX11_status.2.2.2.1) && plainName mX11_status.1.cls) = true := cwq_ok (by decide +kernel)
set_option maxRecDepth 100000 in
theorem ok_X11_top : (tX11_top).all (eok mth mX11_top) = true := ewk0_ok (by decide +kernel)
theorem cw_X11_top : (wdq 2 34 (.code mX11_top.1 mX11_top.2.1 mX11_top.2.2.1 mX11_top.2.2.2.1) && plainName mX11_top.1.cls) = true := cwq_ok (by decide +kernel)
set_option maxRecDepth 100000 in
theorem ok_X11_bottom : (tX11_bottom).all (eok mth mX11_bottom) = true := ewk0_ok (by decide +kernel)
theorem cw_X11_bottom : (wdq 2 38 (.code mX11_bottom.1 mX11_bottom.2.1 mX11_bottom.2.2.1 mX11_bottom.2.2.2.1) && plainName mX11_bottom.1.cls) = true := cwq_ok (by decide +kernel)
set_option maxRecDepth 100000 in
theorem ok_X11_tray : (tX11_tray).all (eok mth mX11_tray) = true := ewk0_ok (by decide +kernel)
theorem cw_X11_tray : (wdq 2 42 (.code mX11_tray.1 mX11_tray.2.1 mX11_tray.2.2.1 mX11_tray.2.2.2.1) && plainName mX11_tray.1.cls) = true := cwq_ok (by decide +kernel)
set_option maxRecDepth 100000 in
theorem ok_X11_write : (tX11_write).all (eok mth mX11_write) = true := ewk0_ok (by decide +kernel)
theorem cw_X11_write : (wdq 2 64 (.code mX11_write.1 mX11_write.2.1 mX11_write.2.2.1 mX11_write.2.2.2.1) && plainName mX11_write.1.cls) = true := cwq_ok (by decide +kernel)
set_option maxRecDepth 100000 in
theorem ok_X11_read : (tX11_read).all (eok mth mX11_read) = true := ewk0_ok (by decide +kernel)
theorem cw_X11_read : (wdq 2 80 (.code mX11_read.1 mX11_read.2.1 mX11_read.2.2.1 mX11_read.2.2.2.1) && plainName mX11_read.1.cls) = true := cwq_ok (by decide +kernel)
set_option maxRecDepth 100000 in
theorem ok_X11_pour : (tX11_pour).all (eok mth mX11_pour) = true := ewk0_ok (by decide +kernel)
theorem cw_X11_pour : (wdq 2 88 (.code mX11_pour.1 mX11_pour.2.1 mX11_pour.2.2.1 mX11_pour.2.2.2.1) && plainName mX11_pour.1.cls) = true := cwq_ok (by decide +kernel)
set_option maxRecDepth 100000 in
theorem ok_X11_feed : (tX11_feed).all (eok mth mX11_feed) = true := ewk0_ok (by decide +kernel)
theorem cw_X11_feed : (wdq 2 95 (.code mX11_feed.1 mX11_feed.2.1 mX11_feed.2.2.1 mX11_feed.2.2.2.1) && plainName mX11_feed.1.cls) = true := cwq_ok (by decide +kernel)
set_option maxRecDepth 100000 in
theorem ok_X11_land : (tX11_land).all (eok mth mX11_land) = true := ewk0_ok (by decide +kernel)
theorem cw_X11_land : (wdq 2 103 (.code mX11_land.1 mX11_land.2.1 mX11_land.2.2.1 mX11_land.2.2.2.1) && plainName mX11_land.1.cls) = true := cwq_ok (by decide +kernel)
set_option maxRecDepth 100000 in
theorem ok_X11_tales : (tX11_tales).all (eok mth mX11_tales) = true := ewk0_ok (by decide +kernel)
theorem cw_X11_tales : (wdq 3 69 (.code mX11_tales.1 mX11_tales.2.1 mX11_tales.2.2.1 mX11_tales.2.2.2.1) && plainName mX11_tales.1.cls) = true := cwq_ok (by decide +kernel)
set_option maxRecDepth 100000 in
theorem ok_X11_fault : (tX11_fault).all (eok mth mX11_fault) = true := ewk0_ok (by decide +kernel)
theorem cw_X11_fault : (wdq 3 148 (.code mX11_fault.1 mX11_fault.2.1 mX11_fault.2.2.1 mX11_fault.2.2.2.1) && plainName mX11_fault.1.cls) = true := cwq_ok (by decide +kernel)
set_option maxRecDepth 100000 in
theorem ok_X11_told : (tX11_told).all (eok mth mX11_told) = true := ewk0_ok (by decide +kernel)
theorem cw_X11_told : (wdq 3 152 (.code mX11_told.1 mX11_told.2.1 mX11_told.2.2.1 mX11_told.2.2.2.1) && plainName mX11_told.1.cls) = true := cwq_ok (by decide +kernel)
set_option maxRecDepth 100000 in
theorem ok_X11_person : (tX11_person).all (eok mth mX11_person) = true := ewk0_ok (by decide +kernel)
theorem cw_X11_person : (wdq 3 179 (.code mX11_person.1 mX11_person.2.1 mX11_person.2.2.1 mX11_person.2.2.2.1) && plainName mX11_person.1.cls) = true := cwq_ok (by decide +kernel)
set_option maxRecDepth 100000 in
theorem ok_X11_owed : (tX11_owed).all (eok mth mX11_owed) = true := ewk0_ok (by decide +kernel)
theorem cw_X11_owed : (wdq 3 198 (.code mX11_owed.1 mX11_owed.2.1 mX11_owed.2.2.1 mX11_owed.2.2.2.1) && plainName mX11_owed.1.cls) = true := cwq_ok (by decide +kernel)
set_option maxRecDepth 100000 in
theorem ok_X11_heir : (tX11_heir).all (eok mth mX11_heir) = true := ewk0_ok (by decide +kernel)
theorem cw_X11_heir : (wdq 3 207 (.code mX11_heir.1 mX11_heir.2.1 mX11_heir.2.2.1 mX11_heir.2.2.2.1) && plainName mX11_heir.1.cls) = true := cwq_ok (by decide +kernel)
set_option maxRecDepth 100000 in
theorem ok_X11_door : (tX11_door).all (eok mth mX11_door) = true := ewk0_ok (by decide +kernel)
theorem cw_X11_door : (wdq 3 211 (.code mX11_door.1 mX11_door.2.1 mX11_door.2.2.1 mX11_door.2.2.2.1) && plainName mX11_door.1.cls) = true := cwq_ok (by decide +kernel)
set_option maxRecDepth 100000 in
theorem ok_X11_labour : (tX11_labour).all (eok mth mX11_labour) = true := ewk0_ok (by decide +kernel)
theorem cw_X11_labour : (wdq 3 223 (.code mX11_labour.1 mX11_labour.2.1 mX11_labour.2.2.1 mX11_labour.2.2.2.1) && plainName mX11_labour.1.cls) = true := cwq_ok (by decide +kernel)
set_option maxRecDepth 100000 in
theorem ok_X11_within : (tX11_within).all (eok mth mX11_within) = true := ewk0_ok (by decide +kernel)
theorem cw_X11_within : (wdq 3 227 (.code mX11_within.1 mX11_within.2.1 mX11_within.2.2.1 mX11_within.2.2.2.1) && plainName mX11_within.1.cls) = true := cwq_ok (by decide +kernel)
set_option maxRecDepth 100000 in
theorem ok_X11_night : (tX11_night).all (eok mth mX11_night) = true := ewk0_ok (by decide +kernel)
theorem cw_X11_night : (wdq 3 235 (.code mX11_night.1 mX11_night.2.1 mX11_night.2.2.1 mX11_night.2.2.2.1) && plainName mX11_night.1.cls) = true := cwq_ok (by decide +kernel)
set_option maxRecDepth 100000 in
theorem ok_X11_die : (tX11_die).all (eok mth mX11_die) = true := ewk0_ok (by decide +kernel)
theorem cw_X11_die : (wdq 4 22 (.code mX11_die.1 mX11_die.2.1 mX11_die.2.2.1 mX11_die.2.2.2.1) && plainName mX11_die.1.cls) = true := cwq_ok (by decide +kernel)
set_option maxRecDepth 100000 in
theorem ok_X11_forgive : (tX11_forgive).all (eok mth mX11_forgive) = true := ewk0_ok (by decide +kernel)
theorem cw_X11_forgive : (wdq 4 48 (.code mX11_forgive.1 mX11_forgive.2.1 mX11_forgive.2.2.1 mX11_forgive.2.2.2.1) && plainName mX11_forgive.1.cls) = true := cwq_ok (by decide +kernel)
set_option maxRecDepth 100000 in
theorem ok_X11_forge : (tX11_forge).all (eok mth mX11_forge) = true := ewk0_ok (by decide +kernel)
theorem cw_X11_forge : (wdq 4 60 (.code mX11_forge.1 mX11_forge.2.1 mX11_forge.2.2.1 mX11_forge.2.2.2.1) && plainName mX11_forge.1.cls) = true := cwq_ok (by decide +kernel)
set_option maxRecDepth 100000 in
theorem ok_X11_salt : (tX11_salt).all (eok mth mX11_salt) = true := ewk0_ok (by decide +kernel)
theorem cw_X11_salt : (wdq 4 68 (.code mX11_salt.1 mX11_salt.2.1 mX11_salt.2.2.1 mX11_salt.2.2.2.1) && plainName mX11_salt.1.cls) = true := cwq_ok (by decide +kernel)
set_option maxRecDepth 100000 in
theorem ok_X11_keep : (tX11_keep).all (eok mth mX11_keep) = true := ewk0_ok (by decide +kernel)
theorem cw_X11_keep : (wdq 4 77 (.code mX11_keep.1 mX11_keep.2.1 mX11_keep.2.2.1 mX11_keep.2.2.2.1) && plainName mX11_keep.1.cls) = true := cwq_ok (by decide +kernel)
set_option maxRecDepth 100000 in
theorem ok_X11_wall : (tX11_wall).all (eok mth mX11_wall) = true := ewk0_ok (by decide +kernel)
theorem cw_X11_wall : (wdq 4 82 (.code mX11_wall.1 mX11_wall.2.1 mX11_wall.2.2.1 mX11_wall.2.2.2.1) && plainName mX11_wall.1.cls) = true := cwq_ok (by decide +kernel)
set_option maxRecDepth 100000 in
theorem ok_X11_move : (tX11_move).all (eok mth mX11_move) = true := ewk0_ok (by decide +kernel)
theorem cw_X11_move : (wdq 4 88 (.code mX11_move.1 mX11_move.2.1 mX11_move.2.2.1 mX11_move.2.2.2.1) && plainName mX11_move.1.cls) = true := cwq_ok (by decide +kernel)
set_option maxRecDepth 100000 in
theorem ok_X11_way : (tX11_way).all (eok mth mX11_way) = true := ewk0_ok (by decide +kernel)
theorem cw_X11_way : (wdq 4 93 (.code mX11_way.1 mX11_way.2.1 mX11_way.2.2.1 mX11_way.2.2.2.1) && plainName mX11_way.1.cls) = true := cwq_ok (by decide +kernel)
set_option maxRecDepth 100000 in
theorem ok_X11_aim : (tX11_aim).all (eok mth mX11_aim) = true := ewk0_ok (by decide +kernel)
theorem cw_X11_aim : (wdq 4 102 (.code mX11_aim.1 mX11_aim.2.1 mX11_aim.2.2.1 mX11_aim.2.2.2.1) && plainName mX11_aim.1.cls) = true := cwq_ok (by decide +kernel)
set_option maxRecDepth 100000 in
theorem ok_X11_step : (tX11_step).all (eok mth mX11_step) = true := ewk0_ok (by decide +kernel)
theorem cw_X11_step : (wdq 4 108 (.code mX11_step.1 mX11_step.2.1 mX11_step.2.2.1 mX11_step.2.2.2.1) && plainName mX11_step.1.cls) = true := cwq_ok (by decide +kernel)
set_option maxRecDepth 100000 in
theorem ok_X11_walks : (tX11_walks).all (eok mth mX11_walks) = true := ewk0_ok (by decide +kernel)
theorem cw_X11_walks : (wdq 4 116 (.code mX11_walks.1 mX11_walks.2.1 mX11_walks.2.2.1 mX11_walks.2.2.2.1) && plainName mX11_walks.1.cls) = true := cwq_ok (by decide +kernel)
set_option maxRecDepth 100000 in
theorem ok_X11_later : (tX11_later).all (eok mth mX11_later) = true := ewk0_ok (by decide +kernel)
theorem cw_X11_later : (wdq 4 126 (.code mX11_later.1 mX11_later.2.1 mX11_later.2.2.1 mX11_later.2.2.2.1) && plainName mX11_later.1.cls) = true := cwq_ok (by decide +kernel)
set_option maxRecDepth 100000 in
theorem ok_X11_rest : (tX11_rest).all (eok mth mX11_rest) = true := ewk0_ok (by decide +kernel)
theorem cw_X11_rest : (wdq 4 130 (.code mX11_rest.1 mX11_rest.2.1 mX11_rest.2.2.1 mX11_rest.2.2.2.1) && plainName mX11_rest.1.cls) = true := cwq_ok (by decide +kernel)
set_option maxRecDepth 100000 in
theorem ok_X11_quiet : (tX11_quiet).all (eok mth mX11_quiet) = true := ewk0_ok (by decide +kernel)
theorem cw_X11_quiet : (wdq 4 139 (.code mX11_quiet.1 mX11_quiet.2.1 mX11_quiet.2.2.1 mX11_quiet.2.2.2.1) && plainName mX11_quiet.1.cls) = true := cwq_ok (by decide +kernel)
set_option maxRecDepth 100000 in
theorem ok_X11_harvest : (tX11_harvest).all (eok mth mX11_harvest) = true := ewk0_ok (by decide +kernel)
theorem cw_X11_harvest : (wdq 4 152 (.code mX11_harvest.1 mX11_harvest.2.1 mX11_harvest.2.2.1 mX11_harvest.2.2.2.1) && plainName mX11_harvest.1.cls) = true := cwq_ok (by decide +kernel)
set_option maxRecDepth 100000 in
theorem ok_X11_visitors : (tX11_visitors).all (eok mth mX11_visitors) = true := ewk0_ok (by decide +kernel)
theorem cw_X11_visitors : (wdq 4 160 (.code mX11_visitors.1 mX11_visitors.2.1 mX11_visitors.2.2.1 mX11_visitors.2.2.2.1) && plainName mX11_visitors.1.cls) = true := cwq_ok (by decide +kernel)
set_option maxRecDepth 100000 in
theorem ok_X11_stays : (tX11_stays).all (eok mth mX11_stays) = true := ewk0_ok (by decide +kernel)
theorem cw_X11_stays : (wdq 4 170 (.code mX11_stays.1 mX11_stays.2.1 mX11_stays.2.2.1 mX11_stays.2.2.2.1) && plainName mX11_stays.1.cls) = true := cwq_ok (by decide +kernel)
set_option maxRecDepth 100000 in
theorem ok_X11_must : (tX11_must).all (eok mth mX11_must) = true := ewk0_ok (by decide +kernel)
theorem cw_X11_must : (wdq 4 178 (.code mX11_must.1 mX11_must.2.1 mX11_must.2.2.1 mX11_must.2.2.2.1) && plainName mX11_must.1.cls) = true := cwq_ok (by decide +kernel)
set_option maxRecDepth 100000 in
theorem ok_X11_reach : (tX11_reach).all (eok mth mX11_reach) = true := ewk0_ok (by decide +kernel)
theorem cw_X11_reach : (wdq 4 190 (.code mX11_reach.1 mX11_reach.2.1 mX11_reach.2.2.1 mX11_reach.2.2.2.1) && plainName mX11_reach.1.cls) = true := cwq_ok (by decide +kernel)
set_option maxRecDepth 100000 in
theorem ok_X11_tours : (tX11_tours).all (eok mth mX11_tours) = true := ewk0_ok (by decide +kernel)
theorem cw_X11_tours : (wdq 4 195 (.code mX11_tours.1 mX11_tours.2.1 mX11_tours.2.2.1 mX11_tours.2.2.2.1) && plainName mX11_tours.1.cls) = true := cwq_ok (by decide +kernel)
set_option maxRecDepth 100000 in
theorem ok_X11_meets : (tX11_meets).all (eok mth mX11_meets) = true := ewk0_ok (by decide +kernel)
theorem cw_X11_meets : (wdq 4 204 (.code mX11_meets.1 mX11_meets.2.1 mX11_meets.2.2.1 mX11_meets.2.2.2.1) && plainName mX11_meets.1.cls) = true := cwq_ok (by decide +kernel)
set_option maxRecDepth 100000 in
theorem ok_X11_crowd : (tX11_crowd).all (eok mth mX11_crowd) = true := ewk0_ok (by decide +kernel)
theorem cw_X11_crowd : (wdq 4 212 (.code mX11_crowd.1 mX11_crowd.2.1 mX11_crowd.2.2.1 mX11_crowd.2.2.2.1) && plainName mX11_crowd.1.cls) = true := cwq_ok (by decide +kernel)
set_option maxRecDepth 100000 in
theorem ok_X11_busiest : (tX11_busiest).all (eok mth mX11_busiest) = true := ewk0_ok (by decide +kernel)
theorem cw_X11_busiest : (wdq 4 225 (.code mX11_busiest.1 mX11_busiest.2.1 mX11_busiest.2.2.1 mX11_busiest.2.2.2.1) && plainName mX11_busiest.1.cls) = true := cwq_ok (by decide +kernel)
set_option maxRecDepth 100000 in
theorem ok_X11_exposed : (tX11_exposed).all (eok mth mX11_exposed) = true := ewk0_ok (by decide +kernel)
theorem cw_X11_exposed : (wdq 4 229 (.code mX11_exposed.1 mX11_exposed.2.1 mX11_exposed.2.2.1 mX11_exposed.2.2.2.1) && plainName mX11_exposed.1.cls) = true := cwq_ok (by decide +kernel)
set_option maxRecDepth 100000 in
theorem ok_X11_wells : (tX11_wells).all (eok mth mX11_wells) = true := ewk0_ok (by decide +kernel)
theorem cw_X11_wells : (wdq 4 234 (.code mX11_wells.1 mX11_wells.2.1 mX11_wells.2.2.1 mX11_wells.2.2.2.1) && plainName mX11_wells.1.cls) = true := cwq_ok (by decide +kernel)
set_option maxRecDepth 100000 in
theorem ok_X11_ways : (tX11_ways).all (eok mth mX11_ways) = true := ewk0_ok (by decide +kernel)
theorem cw_X11_ways : (wdq 4 238 (.code mX11_ways.1 mX11_ways.2.1 mX11_ways.2.2.1 mX11_ways.2.2.2.1) && plainName mX11_ways.1.cls) = true := cwq_ok (by decide +kernel)
set_option maxRecDepth 100000 in
theorem ok_X11_heirs : (tX11_heirs).all (eok mth mX11_heirs) = true := ewk0_ok (by decide +kernel)
theorem cw_X11_heirs : (wdq 5 10 (.code mX11_heirs.1 mX11_heirs.2.1 mX11_heirs.2.2.1 mX11_heirs.2.2.2.1) && plainName mX11_heirs.1.cls) = true := cwq_ok (by decide +kernel)
set_option maxRecDepth 100000 in
theorem ok_X11_loss : (tX11_loss).all (eok mth mX11_loss) = true := ewk0_ok (by decide +kernel)
theorem cw_X11_loss : (wdq 5 15 (.code mX11_loss.1 mX11_loss.2.1 mX11_loss.2.2.1 mX11_loss.2.2.2.1) && plainName mX11_loss.1.cls) = true := cwq_ok (by decide +kernel)
set_option maxRecDepth 100000 in
theorem ok_X11_saint : (tX11_saint).all (eok mth mX11_saint) = true := ewk0_ok (by decide +kernel)
theorem cw_X11_saint : (wdq 5 26 (.code mX11_saint.1 mX11_saint.2.1 mX11_saint.2.2.1 mX11_saint.2.2.2.1) && plainName mX11_saint.1.cls) = true := cwq_ok (by decide +kernel)
set_option maxRecDepth 100000 in
theorem ok_X11_keeper : (tX11_keeper).all (eok mth mX11_keeper) = true := ewk0_ok (by decide +kernel)
theorem cw_X11_keeper : (wdq 5 36 (.code mX11_keeper.1 mX11_keeper.2.1 mX11_keeper.2.2.1 mX11_keeper.2.2.2.1) && plainName mX11_keeper.1.cls) = true := cwq_ok (by decide +kernel)
set_option maxRecDepth 100000 in
theorem ok_X11_lonely : (tX11_lonely).all (eok mth mX11_lonely) = true := ewk0_ok (by decide +kernel)
theorem cw_X11_lonely : (wdq 5 50 (.code mX11_lonely.1 mX11_lonely.2.1 mX11_lonely.2.2.1 mX11_lonely.2.2.2.1) && plainName mX11_lonely.1.cls) = true := cwq_ok (by decide +kernel)
set_option maxRecDepth 100000 in
theorem ok_X11_due : (tX11_due).all (eok mth mX11_due) = true := ewk0_ok (by decide +kernel)
theorem cw_X11_due : (wdq 5 54 (.code mX11_due.1 mX11_due.2.1 mX11_due.2.2.1 mX11_due.2.2.2.1) && plainName mX11_due.1.cls) = true := cwq_ok (by decide +kernel)
set_option maxRecDepth 100000 in
theorem ok_X11_net : (tX11_net).all (eok mth mX11_net) = true := ewk0_ok (by decide +kernel)
theorem cw_X11_net : (wdq 5 58 (.code mX11_net.1 mX11_net.2.1 mX11_net.2.2.1 mX11_net.2.2.2.1) && plainName mX11_net.1.cls) = true := cwq_ok (by decide +kernel)
set_option maxRecDepth 100000 in
theorem ok_X11_wedding : (tX11_wedding).all (eok mth mX11_wedding) = true := ewk0_ok (by decide +kernel)
theorem cw_X11_wedding : (wdq 5 62 (.code mX11_wedding.1 mX11_wedding.2.1 mX11_wedding.2.2.1 mX11_wedding.2.2.2.1) && plainName mX11_wedding.1.cls) = true := cwq_ok (by decide +kernel)
set_option maxRecDepth 100000 in
theorem ok_X11_weddingSet : (tX11_weddingSet).all (eok mth mX11_weddingSet) = true := ewk0_ok (by decide +kernel)
theorem cw_X11_weddingSet : (wdq 5 77 (.code mX11_weddingSet.1 mX11_weddingSet.2.1 mX11_weddingSet.2.2.1 mX11_weddingSet.2.2.2.1) && plainName mX11_weddingSet.1.cls) = true := cwq_ok (by decide +kernel)
set_option maxRecDepth 100000 in
theorem ok_X11_pardon : (tX11_pardon).all (eok mth mX11_pardon) = true := ewk0_ok (by decide +kernel)
theorem cw_X11_pardon : (wdq 5 81 (.code mX11_pardon.1 mX11_pardon.2.1 mX11_pardon.2.2.1 mX11_pardon.2.2.2.1) && plainName mX11_pardon.1.cls) = true := cwq_ok (by decide +kernel)
set_option maxRecDepth 100000 in
theorem ok_X11_pardonSet : (tX11_pardonSet).all (eok mth mX11_pardonSet) = true := ewk0_ok (by decide +kernel)
theorem cw_X11_pardonSet : (wdq 5 101 (.code mX11_pardonSet.1 mX11_pardonSet.2.1 mX11_pardonSet.2.2.1 mX11_pardonSet.2.2.2.1) && plainName mX11_pardonSet.1.cls) = true := cwq_ok (by decide +kernel)
set_option maxRecDepth 100000 in
theorem ok_X11_pair : (tX11_pair).all (eok mth mX11_pair) = true := ewk0_ok (by decide +kernel)
theorem cw_X11_pair : (wdq 5 105 (.code mX11_pair.1 mX11_pair.2.1 mX11_pair.2.2.1 mX11_pair.2.2.2.1) && plainName mX11_pair.1.cls) = true := cwq_ok (by decide +kernel)
set_option maxRecDepth 100000 in
theorem ok_X11_share : (tX11_share).all (eok mth mX11_share) = true := ewk0_ok (by decide +kernel)
theorem cw_X11_share : (wdq 5 118 (.code mX11_share.1 mX11_share.2.1 mX11_share.2.2.1 mX11_share.2.2.2.1) && plainName mX11_share.1.cls) = true := cwq_ok (by decide +kernel)
set_option maxRecDepth 100000 in
theorem ok_X11_gracious : (tX11_gracious).all (eok mth mX11_gracious) = true := ewk0_ok (by decide +kernel)
theorem cw_X11_gracious : (wdq 5 123 (.code mX11_gracious.1 mX11_gracious.2.1 mX11_gracious.2.2.1 mX11_gracious.2.2.2.1) && plainName mX11_gracious.1.cls) = true := cwq_ok (by decide +kernel)
set_option maxRecDepth 100000 in
theorem ok_X11_deepest : (tX11_deepest).all (eok mth mX11_deepest) = true := ewk0_ok (by decide +kernel)
theorem cw_X11_deepest : (wdq 5 127 (.code mX11_deepest.1 mX11_deepest.2.1 mX11_deepest.2.2.1 mX11_deepest.2.2.2.1) && plainName mX11_deepest.1.cls) = true := cwq_ok (by decide +kernel)
set_option maxRecDepth 100000 in
theorem ok_X11_weight : (tX11_weight).all (eok mth mX11_weight) = true := ewk0_ok (by decide +kernel)
theorem cw_X11_weight : (wdq 5 131 (.code mX11_weight.1 mX11_weight.2.1 mX11_weight.2.2.1 mX11_weight.2.2.2.1) && plainName mX11_weight.1.cls) = true := cwq_ok (by decide +kernel)
set_option maxRecDepth 100000 in
theorem ok_X11_mutual : (tX11_mutual).all (eok mth mX11_mutual) = true := ewk0_ok (by decide +kernel)
theorem cw_X11_mutual : (wdq 5 139 (.code mX11_mutual.1 mX11_mutual.2.1 mX11_mutual.2.2.1 mX11_mutual.2.2.2.1) && plainName mX11_mutual.1.cls) = true := cwq_ok (by decide +kernel)
set_option maxRecDepth 100000 in
theorem ok_X11_chain : (tX11_chain).all (eok mth mX11_chain) = true := ewk0_ok (by decide +kernel)
theorem cw_X11_chain : (wdq 5 144 (.code mX11_chain.1 mX11_chain.2.1 mX11_chain.2.2.1 mX11_chain.2.2.2.1) && plainName mX11_chain.1.cls) = true := cwq_ok (by decide +kernel)
set_option maxRecDepth 100000 in
theorem ok_X11_circle : (tX11_circle).all (eok mth mX11_circle) = true := ewk0_ok (by decide +kernel)
theorem cw_X11_circle : (wdq 5 160 (.code mX11_circle.1 mX11_circle.2.1 mX11_circle.2.2.1 mX11_circle.2.2.2.1) && plainName mX11_circle.1.cls) = true := cwq_ok (by decide +kernel)
set_option maxRecDepth 100000 in
theorem ok_X11_bestSalt : (tX11_bestSalt).all (eok mth mX11_bestSalt) = true := ewk0_ok (by decide +kernel)
theorem cw_X11_bestSalt : (wdq 5 171 (.code mX11_bestSalt.1 mX11_bestSalt.2.1 mX11_bestSalt.2.2.1 mX11_bestSalt.2.2.2.1) && plainName mX11_bestSalt.1.cls) = true := cwq_ok (by decide +kernel)
set_option maxRecDepth 100000 in
theorem ok_X11_live : (tX11_live).all (eok mth mX11_live) = true := ewk0_ok (by decide +kernel)
theorem cw_X11_live : (wdq 5 188 (.code mX11_live.1 mX11_live.2.1 mX11_live.2.2.1 mX11_live.2.2.2.1) && plainName mX11_live.1.cls) = true := cwq_ok (by decide +kernel)
set_option maxRecDepth 100000 in
theorem ok_X11_lived : (tX11_lived).all (eok mth mX11_lived) = true := ewk0_ok (by decide +kernel)
theorem cw_X11_lived : (wdq 5 228 (.code mX11_lived.1 mX11_lived.2.1 mX11_lived.2.2.1 mX11_lived.2.2.2.1) && plainName mX11_lived.1.cls) = true := cwq_ok (by decide +kernel)
set_option maxRecDepth 100000 in
theorem ok_X11_mean : (tX11_mean).all (eok mth mX11_mean) = true := ewk0_ok (by decide +kernel)
theorem cw_X11_mean : (wdq 5 232 (.code mX11_mean.1 mX11_mean.2.1 mX11_mean.2.2.1 mX11_mean.2.2.2.1) && plainName mX11_mean.1.cls) = true := cwq_ok (by decide +kernel)
set_option maxRecDepth 100000 in
theorem ok_X11_mark : (tX11_mark).all (eok mth mX11_mark) = true := ewk0_ok (by decide +kernel)
theorem cw_X11_mark : (wdq 5 236 (.code mX11_mark.1 mX11_mark.2.1 mX11_mark.2.2.1 mX11_mark.2.2.2.1) && plainName mX11_mark.1.cls) = true := cwq_ok (by decide +kernel)
set_option maxRecDepth 100000 in
theorem ok_X11_undo : (tX11_undo).all (eok mth mX11_undo) = true := ewk0_ok (by decide +kernel)
theorem cw_X11_undo : (wdq 6 0 (.code mX11_undo.1 mX11_undo.2.1 mX11_undo.2.2.1 mX11_undo.2.2.2.1) && plainName mX11_undo.1.cls) = true := cwq_ok (by decide +kernel)
set_option maxRecDepth 100000 in
theorem ok_X11_answer : (tX11_answer).all (eok mth mX11_answer) = true := ewk0_ok (by decide +kernel)
theorem cw_X11_answer : (wdq 3 65 (.code mX11_answer.1 mX11_answer.2.1 mX11_answer.2.2.1 mX11_answer.2.2.2.1) && plainName mX11_answer.1.cls) = true := cwq_ok (by decide +kernel)
set_option maxRecDepth 100000 in
theorem ok_X11_answerOrNone : (tX11_answerOrNone).all (eok mth mX11_answerOrNone) = true := ewk0_ok (by decide +kernel)
theorem cw_X11_answerOrNone : (wdq 4 98 (.code mX11_answerOrNone.1 mX11_answerOrNone.2.1 mX11_answerOrNone.2.2.1 mX11_answerOrNone.2.2.2.1) && plainName mX11_answerOrNone.1.cls) = true := cwq_ok (by decide +kernel)
set_option maxRecDepth 100000 in
theorem ok_X11_answerSize : (tX11_answerSize).all (eok mth mX11_answerSize) = true := ewk0_ok (by decide +kernel)
theorem cw_X11_answerSize : (wdq 5 73 (.code mX11_answerSize.1 mX11_answerSize.2.1 mX11_answerSize.2.2.1 mX11_answerSize.2.2.2.1) && plainName mX11_answerSize.1.cls) = true := cwq_ok (by decide +kernel)
set_option maxRecDepth 100000 in
theorem ok_X11_refuse : (tX11_refuse).all (eok mth mX11_refuse) = true := ewk0_ok (by decide +kernel)
theorem cw_X11_refuse : (wdq 2 84 (.code mX11_refuse.1 mX11_refuse.2.1 mX11_refuse.2.2.1 mX11_refuse.2.2.2.1) && plainName mX11_refuse.1.cls) = true := cwq_ok (by decide +kernel)
set_option maxRecDepth 100000 in
theorem ok_X11_grant : (tX11_grant).all (eok mth mX11_grant) = true := ewk0_ok (by decide +kernel)
theorem cw_X11_grant : (wdq 2 60 (.code mX11_grant.1 mX11_grant.2.1 mX11_grant.2.2.1 mX11_grant.2.2.2.1) && plainName mX11_grant.1.cls) = true := cwq_ok (by decide +kernel)
set_option maxRecDepth 100000 in
theorem ok_X11_deny : (tX11_deny).all (eok mth mX11_deny) = true := ewk0_ok (by decide +kernel)
theorem cw_X11_deny : (wdq 2 49 (.code mX11_deny.1 mX11_deny.2.1 mX11_deny.2.2.1 mX11_deny.2.2.2.1) && plainName mX11_deny.1.cls) = true := cwq_ok (by decide +kernel)
set_option maxRecDepth 100000 in
theorem ok_X11_isHouse : (tX11_isHouse).all (eok mth mX11_isHouse) = true := ewk0_ok (by decide +kernel)
theorem cw_X11_isHouse : (wdq 3 219 (.code mX11_isHouse.1 mX11_isHouse.2.1 mX11_isHouse.2.2.1 mX11_isHouse.2.2.2.1) && plainName mX11_isHouse.1.cls) = true := cwq_ok (by decide +kernel)
set_option maxRecDepth 100000 in
theorem ok_X11_isPerson : (tX11_isPerson).all (eok mth mX11_isPerson) = true := ewk0_ok (by decide +kernel)
theorem cw_X11_isPerson : (wdq 3 183 (.code mX11_isPerson.1 mX11_isPerson.2.1 mX11_isPerson.2.2.1 mX11_isPerson.2.2.2.1) && plainName mX11_isPerson.1.cls) = true := cwq_ok (by decide +kernel)
set_option maxRecDepth 100000 in
theorem ok_X11_areTwoHouses : (tX11_areTwoHouses).all (eok mth mX11_areTwoHouses) = true := ewk0_ok (by decide +kernel)
theorem cw_X11_areTwoHouses : (wdq 3 215 (.code mX11_areTwoHouses.1 mX11_areTwoHouses.2.1 mX11_areTwoHouses.2.2.1 mX11_areTwoHouses.2.2.2.1) && plainName mX11_areTwoHouses.1.cls) = true := cwq_ok (by decide +kernel)
set_option maxRecDepth 100000 in
theorem ok_X11_areTwoPersons : (tX11_areTwoPersons).all (eok mth mX11_areTwoPersons) = true := ewk0_ok (by decide +kernel)
theorem cw_X11_areTwoPersons : (wdq 3 202 (.code mX11_areTwoPersons.1 mX11_areTwoPersons.2.1 mX11_areTwoPersons.2.2.1 mX11_areTwoPersons.2.2.2.1) && plainName mX11_areTwoPersons.1.cls) = true := cwq_ok (by decide +kernel)
set_option maxRecDepth 100000 in
theorem ok_X11_isWithin : (tX11_isWithin).all (eok mth mX11_isWithin) = true := ewk0_ok (by decide +kernel)
theorem cw_X11_isWithin : (wdq 2 45 (.code mX11_isWithin.1 mX11_isWithin.2.1 mX11_isWithin.2.2.1 mX11_isWithin.2.2.2.1) && plainName mX11_isWithin.1.cls) = true := cwq_ok (by decide +kernel)
set_option maxRecDepth 100000 in
theorem ok_X11_has : (tX11_has).all (eok mth mX11_has) = true := ewk0_ok (by decide +kernel)
theorem cw_X11_has : (wdq 3 30 (.code mX11_has.1 mX11_has.2.1 mX11_has.2.2.1 mX11_has.2.2.2.1) && plainName mX11_has.1.cls) = true := cwq_ok (by decide +kernel)
set_option maxRecDepth 100000 in
theorem ok_X11_bit : (tX11_bit).all (eok mth mX11_bit) = true := ewk0_ok (by decide +kernel)
theorem cw_X11_bit : (wdq 3 186 (.code mX11_bit.1 mX11_bit.2.1 mX11_bit.2.2.1 mX11_bit.2.2.2.1) && plainName mX11_bit.1.cls) = true := cwq_ok (by decide +kernel)
set_option maxRecDepth 100000 in
theorem ok_X11_troubleAt : (tX11_troubleAt).all (eok mth mX11_troubleAt) = true := ewk0_ok (by decide +kernel)
theorem cw_X11_troubleAt : (wdq 2 68 (.code mX11_troubleAt.1 mX11_troubleAt.2.1 mX11_troubleAt.2.2.1 mX11_troubleAt.2.2.2.1) && plainName mX11_troubleAt.1.cls) = true := cwq_ok (by decide +kernel)
set_option maxRecDepth 100000 in
theorem ok_X11_tellFraction : (tX11_tellFraction).all (eok mth mX11_tellFraction) = true := ewk0_ok (by decide +kernel)
theorem cw_X11_tellFraction : (wdq 5 135 (.code mX11_tellFraction.1 mX11_tellFraction.2.1 mX11_tellFraction.2.2.1 mX11_tellFraction.2.2.2.1) && plainName mX11_tellFraction.1.cls) = true := cwq_ok (by decide +kernel)
set_option maxRecDepth 100000 in
theorem ok_X12_init : (tX12_init).all (eok mth mX12_init) = true := ewk0_ok (by decide +kernel)
theorem cw_X12_init : (wdq 6 5 (.code mX12_init.1 mX12_init.2.1 mX12_init.2.2.1 mX12_init.2.2.2.1) && plainName mX12_init.1.cls) = true := cwq_ok (by decide +kernel)
set_option maxRecDepth 100000 in
theorem ok_X12_plain : (tX12_plain).all (eok mth mX12_plain) = true := ewk0_ok (by decide +kernel)
theorem cw_X12_plain : (wdq 6 10 (.code mX12_plain.1 mX12_plain.2.1 mX12_plain.2.2.1 mX12_plain.2.2.2.1) && plainName mX12_plain.1.cls) = true := cwq_ok (by decide +kernel)
set_option maxRecDepth 100000 in
theorem ok_X12_status : (tX12_status).all (eok mth mX12_status) = true := ewk0_ok (by decide +kernel)
theorem cw_X12_status : (wdq 6 117 (.code mX12_status.1 mX12_status.2.1 mX12_status.2.2.1 mX12_status.2.2.2.1) && plainName mX12_status.1.cls) = true := cwq_ok (by decide +kernel)
set_option maxRecDepth 100000 in
theorem ok_X12_top : (tX12_top).all (eok mth mX12_top) = true := ewk0_ok (by decide +kernel)
theorem cw_X12_top : (wdq 6 121 (.code mX12_top.1 mX12_top.2.1 mX12_top.2.2.1 mX12_top.2.2.2.1) && plainName mX12_top.1.cls) = true := cwq_ok (by decide +kernel)
set_option maxRecDepth 100000 in
theorem ok_X12_bottom : (tX12_bottom).all (eok mth mX12_bottom) = true := ewk0_ok (by decide +kernel)
theorem cw_X12_bottom : (wdq 6 125 (.code mX12_bottom.1 mX12_bottom.2.1 mX12_bottom.2.2.1 mX12_bottom.2.2.2.1) && plainName mX12_bottom.1.cls) = true := cwq_ok (by decide +kernel)
set_option maxRecDepth 100000 in
theorem ok_X12_is : (tX12_is).all (eok mth mX12_is) = true := ewk0_ok (by decide +kernel)
theorem cw_X12_is : (wdq 6 136 (.code mX12_is.1 mX12_is.2.1 mX12_is.2.2.1 mX12_is.2.2.2.1) && plainName mX12_is.1.cls) = true := cwq_ok (by decide +kernel)
set_option maxRecDepth 100000 in
theorem ok_X12_refuse : (tX12_refuse).all (eok mth mX12_refuse) = true := ewk0_ok (by decide +kernel)
theorem cw_X12_refuse : (wdq 6 196 (.code mX12_refuse.1 mX12_refuse.2.1 mX12_refuse.2.2.1 mX12_refuse.2.2.2.1) && plainName mX12_refuse.1.cls) = true := cwq_ok (by decide +kernel)
set_option maxRecDepth 100000 in
theorem ok_X12_gives : (tX12_gives).all (eok mth mX12_gives) = true := ewk0_ok (by decide +kernel)
theorem cw_X12_gives : (wdq 7 43 (.code mX12_gives.1 mX12_gives.2.1 mX12_gives.2.2.1 mX12_gives.2.2.2.1) && plainName mX12_gives.1.cls) = true := cwq_ok (by decide +kernel)
set_option maxRecDepth 100000 in
theorem ok_X12_orNone : (tX12_orNone).all (eok mth mX12_orNone) = true := ewk0_ok (by decide +kernel)
theorem cw_X12_orNone : (wdq 8 25 (.code mX12_orNone.1 mX12_orNone.2.1 mX12_orNone.2.2.1 mX12_orNone.2.2.2.1) && plainName mX12_orNone.1.cls) = true := cwq_ok (by decide +kernel)
set_option maxRecDepth 100000 in
theorem ok_X12_tellsBy : (tX12_tellsBy).all (eok mth mX12_tellsBy) = true := ewk0_ok (by decide +kernel)
theorem cw_X12_tellsBy : (wdq 8 232 (.code mX12_tellsBy.1 mX12_tellsBy.2.1 mX12_tellsBy.2.2.1 mX12_tellsBy.2.2.2.1) && plainName mX12_tellsBy.1.cls) = true := cwq_ok (by decide +kernel)
set_option maxRecDepth 100000 in
theorem ok_X12_isTray : (tX12_isTray).all (eok mth mX12_isTray) = true := ewk0_ok (by decide +kernel)
theorem cw_X12_isTray : (wdq 6 132 (.code mX12_isTray.1 mX12_isTray.2.1 mX12_isTray.2.2.1 mX12_isTray.2.2.2.1) && plainName mX12_isTray.1.cls) = true := cwq_ok (by decide +kernel)
set_option maxRecDepth 100000 in
theorem ok_X12_cut : (tX12_cut).all (eok mth mX12_cut) = true := ewk0_ok (by decide +kernel)
theorem cw_X12_cut : (wdq 6 147 (.code mX12_cut.1 mX12_cut.2.1 mX12_cut.2.2.1 mX12_cut.2.2.2.1) && plainName mX12_cut.1.cls) = true := cwq_ok (by decide +kernel)
set_option maxRecDepth 100000 in
theorem ok_X12_tray : (tX12_tray).all (eok mth mX12_tray) = true := ewk0_ok (by decide +kernel)
theorem cw_X12_tray : (wdq 6 129 (.code mX12_tray.1 mX12_tray.2.1 mX12_tray.2.2.1 mX12_tray.2.2.2.1) && plainName mX12_tray.1.cls) = true := cwq_ok (by decide +kernel)
set_option maxRecDepth 100000 in
theorem ok_X12_wrongPlace : (tX12_wrongPlace).all (eok mth mX12_wrongPlace) = true := ewk0_ok (by decide +kernel)
theorem cw_X12_wrongPlace : (wdq 6 144 (.code mX12_wrongPlace.1 mX12_wrongPlace.2.1 mX12_wrongPlace.2.2.1 mX12_wrongPlace.2.2.2.1) && plainName mX12_wrongPlace.1.cls) = true := cwq_ok (by decide +kernel)
set_option maxRecDepth 100000 in
theorem ok_X12_write : (tX12_write).all (eok mth mX12_write) = true := ewk0_ok (by decide +kernel)
theorem cw_X12_write : (wdq 6 140 (.code mX12_write.1 mX12_write.2.1 mX12_write.2.2.1 mX12_write.2.2.2.1) && plainName mX12_write.1.cls) = true := cwq_ok (by decide +kernel)
set_option maxRecDepth 100000 in
theorem ok_X12_read : (tX12_read).all (eok mth mX12_read) = true := ewk0_ok (by decide +kernel)
theorem cw_X12_read : (wdq 6 151 (.code mX12_read.1 mX12_read.2.1 mX12_read.2.2.1 mX12_read.2.2.2.1) && plainName mX12_read.1.cls) = true := cwq_ok (by decide +kernel)
