set_option maxRecDepth 100000 in
theorem ok_X0_init : (tX0_init).all (eok mth mX0_init) = true := ewk0_ok (by decide +kernel)
theorem cw_X0_init : (wdq 0 178 (.code mX0_init.1 mX0_init.2.1 mX0_init.2.2.1 mX0_init.2.2.2.1) && plainName mX0_init.1.cls) = true := by decide +kernel
set_option maxRecDepth 100000 in
theorem ok_X0_clear : (tX0_clear).all (eok mth mX0_clear) = true := ewk0_ok (by decide +kernel)
theorem cw_X0_clear : (wdq 2 122 (.code mX0_clear.1 mX0_clear.2.1 mX0_clear.2.2.1 mX0_clear.2.2.2.1) && plainName mX0_clear.1.cls) = true := by decide +kernel
set_option maxRecDepth 100000 in
theorem ok_X0_copyFrom : (tX0_copyFrom).all (eok mth mX0_copyFrom) = true := ewk0_ok (by decide +kernel)
theorem cw_X0_copyFrom : (wdq 3 55 (.code mX0_copyFrom.1 mX0_copyFrom.2.1 mX0_copyFrom.2.2.1 mX0_copyFrom.2.2.2.1) && plainName mX0_copyFrom.1.cls) = true := by decide +kernel
set_option maxRecDepth 100000 in
theorem ok_X0_of : (tX0_of).all (eok mth mX0_of) = true := ewk0_ok (by decide +kernel)
theorem cw_X0_of : (wdq 3 194 (.code mX0_of.1 mX0_of.2.1 mX0_of.2.2.1 mX0_of.2.2.2.1) && plainName mX0_of.1.cls) = true := by decide +kernel
set_option maxRecDepth 100000 in
theorem ok_X0_put : (tX0_put).all (eok mth mX0_put) = true := ewk0_ok (by decide +kernel)
theorem cw_X0_put : (wdq 3 15 (.code mX0_put.1 mX0_put.2.1 mX0_put.2.2.1 mX0_put.2.2.2.1) && plainName mX0_put.1.cls) = true := by decide +kernel
set_option maxRecDepth 100000 in
theorem ok_X0_add : (tX0_add).all (eok mth mX0_add) = true := ewk0_ok (by decide +kernel)
theorem cw_X0_add : (wdq 4 43 (.code mX0_add.1 mX0_add.2.1 mX0_add.2.2.1 mX0_add.2.2.2.1) && plainName mX0_add.1.cls) = true := by decide +kernel
set_option maxRecDepth 100000 in
theorem ok_X0_claimOf : (tX0_claimOf).all (eok mth mX0_claimOf) = true := ewk0_ok (by decide +kernel)
theorem cw_X0_claimOf : (wdq 3 190 (.code mX0_claimOf.1 mX0_claimOf.2.1 mX0_claimOf.2.2.1 mX0_claimOf.2.2.2.1) && plainName mX0_claimOf.1.cls) = true := by decide +kernel
set_option maxRecDepth 100000 in
theorem ok_X0_sorrow : (tX0_sorrow).all (eok mth mX0_sorrow) = true := ewk0_ok (by decide +kernel)
theorem cw_X0_sorrow : (wdq 3 166 (.code mX0_sorrow.1 mX0_sorrow.2.1 mX0_sorrow.2.2.1 mX0_sorrow.2.2.2.1) && plainName mX0_sorrow.1.cls) = true := by decide +kernel
set_option maxRecDepth 100000 in
theorem ok_X0_isMutual : (tX0_isMutual).all (eok mth mX0_isMutual) = true := ewk0_ok (by decide +kernel)
theorem cw_X0_isMutual : (wdq 5 114 (.code mX0_isMutual.1 mX0_isMutual.2.1 mX0_isMutual.2.2.1 mX0_isMutual.2.2.2.1) && plainName mX0_isMutual.1.cls) = true := by decide +kernel
set_option maxRecDepth 100000 in
theorem ok_X0_creditors : (tX0_creditors).all (eok mth mX0_creditors) = true := ewk0_ok (by decide +kernel)
theorem cw_X0_creditors : (wdq 5 89 (.code mX0_creditors.1 mX0_creditors.2.1 mX0_creditors.2.2.1 mX0_creditors.2.2.2.1) && plainName mX0_creditors.1.cls) = true := by decide +kernel
set_option maxRecDepth 100000 in
theorem ok_X0_debtorsOf : (tX0_debtorsOf).all (eok mth mX0_debtorsOf) = true := ewk0_ok (by decide +kernel)
theorem cw_X0_debtorsOf : (wdq 5 152 (.code mX0_debtorsOf.1 mX0_debtorsOf.2.1 mX0_debtorsOf.2.2.1 mX0_debtorsOf.2.2.2.1) && plainName mX0_debtorsOf.1.cls) = true := by decide +kernel
set_option maxRecDepth 100000 in
theorem ok_X0_creditorsOfAll : (tX0_creditorsOfAll).all (eok mth mX0_creditorsOfAll) = true := ewk0_ok (by decide +kernel)
theorem cw_X0_creditorsOfAll : (wdq 5 165 (.code mX0_creditorsOfAll.1 mX0_creditorsOfAll.2.1 mX0_creditorsOfAll.2.2.1 mX0_creditorsOfAll.2.2.2.1) && plainName mX0_creditorsOfAll.1.cls) = true := by decide +kernel
set_option maxRecDepth 100000 in
theorem ok_X1_init : (tX1_init).all (eok mth mX1_init) = true := ewk0_ok (by decide +kernel)
theorem cw_X1_init : (wdq 0 139 (.code mX1_init.1 mX1_init.2.1 mX1_init.2.2.1 mX1_init.2.2.2.1) && plainName mX1_init.1.cls) = true := by decide +kernel
set_option maxRecDepth 100000 in
theorem ok_X1_clear : (tX1_clear).all (eok mth mX1_clear) = true := ewk0_ok (by decide +kernel)
theorem cw_X1_clear : (wdq 2 111 (.code mX1_clear.1 mX1_clear.2.1 mX1_clear.2.2.1 mX1_clear.2.2.2.1) && plainName mX1_clear.1.cls) = true := by decide +kernel
set_option maxRecDepth 100000 in
theorem ok_X1_copyFrom : (tX1_copyFrom).all (eok mth mX1_copyFrom) = true := ewk0_ok (by decide +kernel)
theorem cw_X1_copyFrom : (wdq 3 46 (.code mX1_copyFrom.1 mX1_copyFrom.2.1 mX1_copyFrom.2.2.1 mX1_copyFrom.2.2.2.1) && plainName mX1_copyFrom.1.cls) = true := by decide +kernel
set_option maxRecDepth 100000 in
theorem ok_X1_houseNamed : (tX1_houseNamed).all (eok mth mX1_houseNamed) = true := ewk0_ok (by decide +kernel)
theorem cw_X1_houseNamed : (wdq 2 188 (.code mX1_houseNamed.1 mX1_houseNamed.2.1 mX1_houseNamed.2.2.1 mX1_houseNamed.2.2.2.1) && plainName mX1_houseNamed.1.cls) = true := by decide +kernel
set_option maxRecDepth 100000 in
theorem ok_X1_personNamed : (tX1_personNamed).all (eok mth mX1_personNamed) = true := ewk0_ok (by decide +kernel)
theorem cw_X1_personNamed : (wdq 2 192 (.code mX1_personNamed.1 mX1_personNamed.2.1 mX1_personNamed.2.2.1 mX1_personNamed.2.2.2.1) && plainName mX1_personNamed.1.cls) = true := by decide +kernel
set_option maxRecDepth 100000 in
theorem ok_X1_isDead : (tX1_isDead).all (eok mth mX1_isDead) = true := ewk0_ok (by decide +kernel)
theorem cw_X1_isDead : (wdq 4 56 (.code mX1_isDead.1 mX1_isDead.2.1 mX1_isDead.2.2.1 mX1_isDead.2.2.2.1) && plainName mX1_isDead.1.cls) = true := by decide +kernel
set_option maxRecDepth 100000 in
theorem ok_X1_isGhost : (tX1_isGhost).all (eok mth mX1_isGhost) = true := ewk0_ok (by decide +kernel)
theorem cw_X1_isGhost : (wdq 3 174 (.code mX1_isGhost.1 mX1_isGhost.2.1 mX1_isGhost.2.2.1 mX1_isGhost.2.2.2.1) && plainName mX1_isGhost.1.cls) = true := by decide +kernel
set_option maxRecDepth 100000 in
theorem ok_X1_ghosts : (tX1_ghosts).all (eok mth mX1_ghosts) = true := ewk0_ok (by decide +kernel)
theorem cw_X1_ghosts : (wdq 3 170 (.code mX1_ghosts.1 mX1_ghosts.2.1 mX1_ghosts.2.2.1 mX1_ghosts.2.2.2.1) && plainName mX1_ghosts.1.cls) = true := by decide +kernel
set_option maxRecDepth 100000 in
theorem ok_X1_ghostHouses : (tX1_ghostHouses).all (eok mth mX1_ghostHouses) = true := ewk0_ok (by decide +kernel)
theorem cw_X1_ghostHouses : (wdq 4 147 (.code mX1_ghostHouses.1 mX1_ghostHouses.2.1 mX1_ghostHouses.2.2.1 mX1_ghostHouses.2.2.2.1) && plainName mX1_ghostHouses.1.cls) = true := by decide +kernel
set_option maxRecDepth 100000 in
theorem ok_X1_inHouse : (tX1_inHouse).all (eok mth mX1_inHouse) = true := ewk0_ok (by decide +kernel)
theorem cw_X1_inHouse : (wdq 3 231 (.code mX1_inHouse.1 mX1_inHouse.2.1 mX1_inHouse.2.2.1 mX1_inHouse.2.2.2.1) && plainName mX1_inHouse.1.cls) = true := by decide +kernel
set_option maxRecDepth 100000 in
theorem ok_X1_aimOf : (tX1_aimOf).all (eok mth mX1_aimOf) = true := ewk0_ok (by decide +kernel)
theorem cw_X1_aimOf : (wdq 4 7 (.code mX1_aimOf.1 mX1_aimOf.2.1 mX1_aimOf.2.2.1 mX1_aimOf.2.2.2.1) && plainName mX1_aimOf.1.cls) = true := by decide +kernel
set_option maxRecDepth 100000 in
theorem ok_X1_nextStop : (tX1_nextStop).all (eok mth mX1_nextStop) = true := ewk0_ok (by decide +kernel)
theorem cw_X1_nextStop : (wdq 4 112 (.code mX1_nextStop.1 mX1_nextStop.2.1 mX1_nextStop.2.2.1 mX1_nextStop.2.2.2.1) && plainName mX1_nextStop.1.cls) = true := by decide +kernel
set_option maxRecDepth 100000 in
theorem ok_X1_passNights : (tX1_passNights).all (eok mth mX1_passNights) = true := ewk0_ok (by decide +kernel)
theorem cw_X1_passNights : (wdq 3 239 (.code mX1_passNights.1 mX1_passNights.2.1 mX1_passNights.2.2.1 mX1_passNights.2.2.2.1) && plainName mX1_passNights.1.cls) = true := by decide +kernel
set_option maxRecDepth 100000 in
theorem ok_X1_haunt : (tX1_haunt).all (eok mth mX1_haunt) = true := ewk0_ok (by decide +kernel)
theorem cw_X1_haunt : (wdq 4 3 (.code mX1_haunt.1 mX1_haunt.2.1 mX1_haunt.2.2.1 mX1_haunt.2.2.2.1) && plainName mX1_haunt.1.cls) = true := by decide +kernel
set_option maxRecDepth 100000 in
theorem ok_X1_saySorry : (tX1_saySorry).all (eok mth mX1_saySorry) = true := ewk0_ok (by decide +kernel)
theorem cw_X1_saySorry : (wdq 4 13 (.code mX1_saySorry.1 mX1_saySorry.2.1 mX1_saySorry.2.2.1 mX1_saySorry.2.2.2.1) && plainName mX1_saySorry.1.cls) = true := by decide +kernel
set_option maxRecDepth 100000 in
theorem ok_X1_heirSet : (tX1_heirSet).all (eok mth mX1_heirSet) = true := ewk0_ok (by decide +kernel)
theorem cw_X1_heirSet : (wdq 4 34 (.code mX1_heirSet.1 mX1_heirSet.2.1 mX1_heirSet.2.2.1 mX1_heirSet.2.2.2.1) && plainName mX1_heirSet.1.cls) = true := by decide +kernel
set_option maxRecDepth 100000 in
theorem ok_X1_shareOf : (tX1_shareOf).all (eok mth mX1_shareOf) = true := ewk0_ok (by decide +kernel)
theorem cw_X1_shareOf : (wdq 4 38 (.code mX1_shareOf.1 mX1_shareOf.2.1 mX1_shareOf.2.2.1 mX1_shareOf.2.2.2.1) && plainName mX1_shareOf.1.cls) = true := by decide +kernel
set_option maxRecDepth 100000 in
theorem ok_X1_bury : (tX1_bury).all (eok mth mX1_bury) = true := ewk0_ok (by decide +kernel)
theorem cw_X1_bury : (wdq 4 26 (.code mX1_bury.1 mX1_bury.2.1 mX1_bury.2.2.1 mX1_bury.2.2.2.1) && plainName mX1_bury.1.cls) = true := by decide +kernel
set_option maxRecDepth 100000 in
theorem ok_X1_passOn : (tX1_passOn).all (eok mth mX1_passOn) = true := ewk0_ok (by decide +kernel)
theorem cw_X1_passOn : (wdq 4 30 (.code mX1_passOn.1 mX1_passOn.2.1 mX1_passOn.2.2.1 mX1_passOn.2.2.2.1) && plainName mX1_passOn.1.cls) = true := by decide +kernel
set_option maxRecDepth 100000 in
theorem ok_X1_remit : (tX1_remit).all (eok mth mX1_remit) = true := ewk0_ok (by decide +kernel)
theorem cw_X1_remit : (wdq 4 52 (.code mX1_remit.1 mX1_remit.2.1 mX1_remit.2.2.1 mX1_remit.2.2.2.1) && plainName mX1_remit.1.cls) = true := by decide +kernel
set_option maxRecDepth 100000 in
theorem ok_X1_remitAll : (tX1_remitAll).all (eok mth mX1_remitAll) = true := ewk0_ok (by decide +kernel)
theorem cw_X1_remitAll : (wdq 5 97 (.code mX1_remitAll.1 mX1_remitAll.2.1 mX1_remitAll.2.2.1 mX1_remitAll.2.2.2.1) && plainName mX1_remitAll.1.cls) = true := by decide +kernel
set_option maxRecDepth 100000 in
theorem ok_X1_slander : (tX1_slander).all (eok mth mX1_slander) = true := ewk0_ok (by decide +kernel)
theorem cw_X1_slander : (wdq 4 64 (.code mX1_slander.1 mX1_slander.2.1 mX1_slander.2.2.1 mX1_slander.2.2.2.1) && plainName mX1_slander.1.cls) = true := by decide +kernel
set_option maxRecDepth 100000 in
theorem ok_X2_init : (tX2_init).all (eok mth mX2_init) = true := ewk0_ok (by decide +kernel)
theorem cw_X2_init : (wdq 1 84 (.code mX2_init.1 mX2_init.2.1 mX2_init.2.2.1 mX2_init.2.2.2.1) && plainName mX2_init.1.cls) = true := by decide +kernel
set_option maxRecDepth 100000 in
theorem ok_X2_readAll : (tX2_readAll).all (eok mth mX2_readAll) = true := ewk0_ok (by decide +kernel)
theorem cw_X2_readAll : (wdq 2 107 (.code mX2_readAll.1 mX2_readAll.2.1 mX2_readAll.2.2.1 mX2_readAll.2.2.2.1) && plainName mX2_readAll.1.cls) = true := by decide +kernel
set_option maxRecDepth 100000 in
theorem ok_X2_readPart : (tX2_readPart).all (eok mth mX2_readPart) = true := ewk0_ok (by decide +kernel)
theorem cw_X2_readPart : (wdq 2 163 (.code mX2_readPart.1 mX2_readPart.2.1 mX2_readPart.2.2.1 mX2_readPart.2.2.2.1) && plainName mX2_readPart.1.cls) = true := by decide +kernel
set_option maxRecDepth 100000 in
theorem ok_X2_isNewName : (tX2_isNewName).all (eok mth mX2_isNewName) = true := ewk0_ok (by decide +kernel)
theorem cw_X2_isNewName : (wdq 2 180 (.code mX2_isNewName.1 mX2_isNewName.2.1 mX2_isNewName.2.2.1 mX2_isNewName.2.2.2.1) && plainName mX2_isNewName.1.cls) = true := by decide +kernel
set_option maxRecDepth 100000 in
theorem ok_X2_takeIf : (tX2_takeIf).all (eok mth mX2_takeIf) = true := ewk0_ok (by decide +kernel)
theorem cw_X2_takeIf : (wdq 2 196 (.code mX2_takeIf.1 mX2_takeIf.2.1 mX2_takeIf.2.2.1 mX2_takeIf.2.2.2.1) && plainName mX2_takeIf.1.cls) = true := by decide +kernel
set_option maxRecDepth 100000 in
theorem ok_X2_readHouse : (tX2_readHouse).all (eok mth mX2_readHouse) = true := ewk0_ok (by decide +kernel)
theorem cw_X2_readHouse : (wdq 2 171 (.code mX2_readHouse.1 mX2_readHouse.2.1 mX2_readHouse.2.2.1 mX2_readHouse.2.2.2.1) && plainName mX2_readHouse.1.cls) = true := by decide +kernel
set_option maxRecDepth 100000 in
theorem ok_X2_readDoor : (tX2_readDoor).all (eok mth mX2_readDoor) = true := ewk0_ok (by decide +kernel)
theorem cw_X2_readDoor : (wdq 2 205 (.code mX2_readDoor.1 mX2_readDoor.2.1 mX2_readDoor.2.2.1 mX2_readDoor.2.2.2.1) && plainName mX2_readDoor.1.cls) = true := by decide +kernel
set_option maxRecDepth 100000 in
theorem ok_X2_readPerson : (tX2_readPerson).all (eok mth mX2_readPerson) = true := ewk0_ok (by decide +kernel)
theorem cw_X2_readPerson : (wdq 2 224 (.code mX2_readPerson.1 mX2_readPerson.2.1 mX2_readPerson.2.2.1 mX2_readPerson.2.2.2.1) && plainName mX2_readPerson.1.cls) = true := by decide +kernel
set_option maxRecDepth 100000 in
theorem ok_X2_readOwes : (tX2_readOwes).all (eok mth mX2_readOwes) = true := ewk0_ok (by decide +kernel)
theorem cw_X2_readOwes : (wdq 2 233 (.code mX2_readOwes.1 mX2_readOwes.2.1 mX2_readOwes.2.2.1 mX2_readOwes.2.2.2.1) && plainName mX2_readOwes.1.cls) = true := by decide +kernel
set_option maxRecDepth 100000 in
theorem ok_X2_readHeir : (tX2_readHeir).all (eok mth mX2_readHeir) = true := ewk0_ok (by decide +kernel)
theorem cw_X2_readHeir : (wdq 3 19 (.code mX2_readHeir.1 mX2_readHeir.2.1 mX2_readHeir.2.2.1 mX2_readHeir.2.2.2.1) && plainName mX2_readHeir.1.cls) = true := by decide +kernel
set_option maxRecDepth 100000 in
theorem ok_X2_otherPerson : (tX2_otherPerson).all (eok mth mX2_otherPerson) = true := ewk0_ok (by decide +kernel)
theorem cw_X2_otherPerson : (wdq 3 6 (.code mX2_otherPerson.1 mX2_otherPerson.2.1 mX2_otherPerson.2.2.1 mX2_otherPerson.2.2.2.1) && plainName mX2_otherPerson.1.cls) = true := by decide +kernel
set_option maxRecDepth 100000 in
theorem ok_X3_init : (tX3_init).all (eok mth mX3_init) = true := ewk0_ok (by decide +kernel)
theorem cw_X3_init : (wdq 1 152 (.code mX3_init.1 mX3_init.2.1 mX3_init.2.2.1 mX3_init.2.2.2.1) && plainName mX3_init.1.cls) = true := by decide +kernel
set_option maxRecDepth 100000 in
theorem ok_X3_run : (tX3_run).all (eok mth mX3_run) = true := ewk0_ok (by decide +kernel)
theorem cw_X3_run : (wdq 5 192 (.code mX3_run.1 mX3_run.2.1 mX3_run.2.2.1 mX3_run.2.2.2.1) && plainName mX3_run.1.cls) = true := by decide +kernel
set_option maxRecDepth 100000 in
theorem ok_X3_begin : (tX3_begin).all (eok mth mX3_begin) = true := ewk0_ok (by decide +kernel)
theorem cw_X3_begin : (wdq 5 196 (.code mX3_begin.1 mX3_begin.2.1 mX3_begin.2.2.1 mX3_begin.2.2.2.1) && plainName mX3_begin.1.cls) = true := by decide +kernel
set_option maxRecDepth 100000 in
theorem ok_X3_placeBehind : (tX3_placeBehind).all (eok mth mX3_placeBehind) = true := ewk0_ok (by decide +kernel)
theorem cw_X3_placeBehind : (wdq 5 202 (.code mX3_placeBehind.1 mX3_placeBehind.2.1 mX3_placeBehind.2.2.1 mX3_placeBehind.2.2.2.1) && plainName mX3_placeBehind.1.cls) = true := by decide +kernel
set_option maxRecDepth 100000 in
theorem ok_X3_holds : (tX3_holds).all (eok mth mX3_holds) = true := ewk0_ok (by decide +kernel)
theorem cw_X3_holds : (wdq 5 205 (.code mX3_holds.1 mX3_holds.2.1 mX3_holds.2.2.1 mX3_holds.2.2.2.1) && plainName mX3_holds.1.cls) = true := by decide +kernel
set_option maxRecDepth 100000 in
theorem ok_X3_compares : (tX3_compares).all (eok mth mX3_compares) = true := ewk0_ok (by decide +kernel)
theorem cw_X3_compares : (wdq 5 209 (.code mX3_compares.1 mX3_compares.2.1 mX3_compares.2.2.1 mX3_compares.2.2.2.1) && plainName mX3_compares.1.cls) = true := by decide +kernel
set_option maxRecDepth 100000 in
theorem ok_X3_isDone : (tX3_isDone).all (eok mth mX3_isDone) = true := ewk0_ok (by decide +kernel)
theorem cw_X3_isDone : (wdq 5 213 (.code mX3_isDone.1 mX3_isDone.2.1 mX3_isDone.2.2.1 mX3_isDone.2.2.2.1) && plainName mX3_isDone.1.cls) = true := by decide +kernel
set_option maxRecDepth 100000 in
theorem ok_X3_drawLiving : (tX3_drawLiving).all (eok mth mX3_drawLiving) = true := ewk0_ok (by decide +kernel)
theorem cw_X3_drawLiving : (wdq 5 222 (.code mX3_drawLiving.1 mX3_drawLiving.2.1 mX3_drawLiving.2.2.1 mX3_drawLiving.2.2.2.1) && plainName mX3_drawLiving.1.cls) = true := by decide +kernel
set_option maxRecDepth 100000 in
theorem ok_X4_init : (tX4_init).all (eok mth mX4_init) = true := ewk0_ok (by decide +kernel)
theorem cw_X4_init : (wdq 1 134 (.code mX4_init.1 mX4_init.2.1 mX4_init.2.2.1 mX4_init.2.2.2.1) && plainName mX4_init.1.cls) = true := by decide +kernel
set_option maxRecDepth 100000 in
theorem ok_X4_sorrowWithout : (tX4_sorrowWithout).all (eok mth mX4_sorrowWithout) = true := ewk0_ok (by decide +kernel)
theorem cw_X4_sorrowWithout : (wdq 5 19 (.code mX4_sorrowWithout.1 mX4_sorrowWithout.2.1 mX4_sorrowWithout.2.2.1 mX4_sorrowWithout.2.2.2.1) && plainName mX4_sorrowWithout.1.cls) = true := by decide +kernel
set_option maxRecDepth 100000 in
theorem ok_X4_bestDeath : (tX4_bestDeath).all (eok mth mX4_bestDeath) = true := ewk0_ok (by decide +kernel)
theorem cw_X4_bestDeath : (wdq 5 30 (.code mX4_bestDeath.1 mX4_bestDeath.2.1 mX4_bestDeath.2.2.1 mX4_bestDeath.2.2.2.1) && plainName mX4_bestDeath.1.cls) = true := by decide +kernel
set_option maxRecDepth 100000 in
theorem ok_X4_bestKeeper : (tX4_bestKeeper).all (eok mth mX4_bestKeeper) = true := ewk0_ok (by decide +kernel)
theorem cw_X4_bestKeeper : (wdq 5 40 (.code mX4_bestKeeper.1 mX4_bestKeeper.2.1 mX4_bestKeeper.2.2.1 mX4_bestKeeper.2.2.2.1) && plainName mX4_bestKeeper.1.cls) = true := by decide +kernel
set_option maxRecDepth 100000 in
theorem ok_X4_labourWithKeeper : (tX4_labourWithKeeper).all (eok mth mX4_labourWithKeeper) = true := ewk0_ok (by decide +kernel)
theorem cw_X4_labourWithKeeper : (wdq 5 45 (.code mX4_labourWithKeeper.1 mX4_labourWithKeeper.2.1 mX4_labourWithKeeper.2.2.1 mX4_labourWithKeeper.2.2.2.1) && plainName mX4_labourWithKeeper.1.cls) = true := by decide +kernel
set_option maxRecDepth 100000 in
theorem ok_X4_leastSalt : (tX4_leastSalt).all (eok mth mX4_leastSalt) = true := ewk0_ok (by decide +kernel)
theorem cw_X4_leastSalt : (wdq 5 66 (.code mX4_leastSalt.1 mX4_leastSalt.2.1 mX4_leastSalt.2.2.1 mX4_leastSalt.2.2.2.1) && plainName mX4_leastSalt.1.cls) = true := by decide +kernel
set_option maxRecDepth 100000 in
theorem ok_X4_leastPardon : (tX4_leastPardon).all (eok mth mX4_leastPardon) = true := ewk0_ok (by decide +kernel)
theorem cw_X4_leastPardon : (wdq 5 85 (.code mX4_leastPardon.1 mX4_leastPardon.2.1 mX4_leastPardon.2.2.1 mX4_leastPardon.2.2.2.1) && plainName mX4_leastPardon.1.cls) = true := by decide +kernel
