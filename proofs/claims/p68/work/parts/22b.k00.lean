set_option maxRecDepth 100000 in
theorem ok_X0_init : (tX0_init).all (eok mth mX0_init) = true := ewk0_ok (by decide +kernel)
theorem cw_X0_init : (wdq 0 178 (.code mX0_init.1 mX0_init.2.1 mX0_init.2.2.1 mX0_init.2.2.2.1) && plainName mX0_init.1.cls) = true := cwq_ok (by decide +kernel)
set_option maxRecDepth 100000 in
theorem ok_X0_clear : (tX0_clear).all (eok mth mX0_clear) = true := ewk0_ok (by decide +kernel)
theorem cw_X0_clear : (wdq 2 122 (.code mX0_clear.1 mX0_clear.2.1 mX0_clear.2.2.1 mX0_clear.2.2.2.1) && plainName mX0_clear.1.cls) = true := cwq_ok (by decide +kernel)
set_option maxRecDepth 100000 in
theorem ok_X0_copyFrom : (tX0_copyFrom).all (eok mth mX0_copyFrom) = true := ewk0_ok (by decide +kernel)
theorem cw_X0_copyFrom : (wdq 3 55 (.code mX0_copyFrom.1 mX0_copyFrom.2.1 mX0_copyFrom.2.2.1 mX0_copyFrom.2.2.2.1) && plainName mX0_copyFrom.1.cls) = true := cwq_ok (by decide +kernel)
set_option maxRecDepth 100000 in
theorem ok_X0_of : (tX0_of).all (eok mth mX0_of) = true := ewk0_ok (by decide +kernel)
theorem cw_X0_of : (wdq 3 194 (.code mX0_of.1 mX0_of.2.1 mX0_of.2.2.1 mX0_of.2.2.2.1) && plainName mX0_of.1.cls) = true := cwq_ok (by decide +kernel)
set_option maxRecDepth 100000 in
theorem ok_X0_put : (tX0_put).all (eok mth mX0_put) = true := ewk0_ok (by decide +kernel)
theorem cw_X0_put : (wdq 3 15 (.code mX0_put.1 mX0_put.2.1 mX0_put.2.2.1 mX0_put.2.2.2.1) && plainName mX0_put.1.cls) = true := cwq_ok (by decide +kernel)
set_option maxRecDepth 100000 in
theorem ok_X0_add : (tX0_add).all (eok mth mX0_add) = true := ewk0_ok (by decide +kernel)
theorem cw_X0_add : (wdq 4 43 (.code mX0_add.1 mX0_add.2.1 mX0_add.2.2.1 mX0_add.2.2.2.1) && plainName mX0_add.1.cls) = true := cwq_ok (by decide +kernel)
set_option maxRecDepth 100000 in
theorem ok_X0_claimOf : (tX0_claimOf).all (eok mth mX0_claimOf) = true := ewk0_ok (by decide +kernel)
theorem cw_X0_claimOf : (wdq 3 190 (.code mX0_claimOf.1 mX0_claimOf.2.1 mX0_claimOf.2.2.1 mX0_claimOf.2.2.2.1) && plainName mX0_claimOf.1.cls) = true := cwq_ok (by decide +kernel)
set_option maxRecDepth 100000 in
theorem ok_X0_sorrow : (tX0_sorrow).all (eok mth mX0_sorrow) = true := ewk0_ok (by decide +kernel)
theorem cw_X0_sorrow : (wdq 3 166 (.code mX0_sorrow.1 mX0_sorrow.2.1 mX0_sorrow.2.2.1 mX0_sorrow.2.2.2.1) && plainName mX0_sorrow.1.cls) = true := cwq_ok (by decide +kernel)
set_option maxRecDepth 100000 in
theorem ok_X0_isMutual : (tX0_isMutual).all (eok mth mX0_isMutual) = true := ewk0_ok (by decide +kernel)
theorem cw_X0_isMutual : (wdq 5 114 (.code mX0_isMutual.1 mX0_isMutual.2.1 mX0_isMutual.2.2.1 mX0_isMutual.2.2.2.1) && plainName mX0_isMutual.1.cls) = true := cwq_ok (by decide +kernel)
set_option maxRecDepth 100000 in
theorem ok_X0_creditors : (tX0_creditors).all (eok mth mX0_creditors) = true := ewk0_ok (by decide +kernel)
theorem cw_X0_creditors : (wdq 5 89 (.code mX0_creditors.1 mX0_creditors.2.1 mX0_creditors.2.2.1 mX0_creditors.2.2.2.1) && plainName mX0_creditors.1.cls) = true := cwq_ok (by decide +kernel)
set_option maxRecDepth 100000 in
theorem ok_X0_debtorsOf : (tX0_debtorsOf).all (eok mth mX0_debtorsOf) = true := ewk0_ok (by decide +kernel)
theorem cw_X0_debtorsOf : (wdq 5 152 (.code mX0_debtorsOf.1 mX0_debtorsOf.2.1 mX0_debtorsOf.2.2.1 mX0_debtorsOf.2.2.2.1) && plainName mX0_debtorsOf.1.cls) = true := cwq_ok (by decide +kernel)
set_option maxRecDepth 100000 in
theorem ok_X0_creditorsOfAll : (tX0_creditorsOfAll).all (eok mth mX0_creditorsOfAll) = true := ewk0_ok (by decide +kernel)
theorem cw_X0_creditorsOfAll : (wdq 5 165 (.code mX0_creditorsOfAll.1 mX0_creditorsOfAll.2.1 mX0_creditorsOfAll.2.2.1 mX0_creditorsOfAll.2.2.2.1) && plainName mX0_creditorsOfAll.1.cls) = true := cwq_ok (by decide +kernel)
set_option maxRecDepth 100000 in
theorem ok_X1_init : (tX1_init).all (eok mth mX1_init) = true := ewk0_ok (by decide +kernel)
theorem cw_X1_init : (wdq 0 139 (.code mX1_init.1 mX1_init.2.1 mX1_init.2.2.1 mX1_init.2.2.2.1) && plainName mX1_init.1.cls) = true := cwq_ok (by decide +kernel)
set_option maxRecDepth 100000 in
theorem ok_X1_clear : (tX1_clear).all (eok mth mX1_clear) = true := ewk0_ok (by decide +kernel)
theorem cw_X1_clear : (wdq 2 111 (.code mX1_clear.1 mX1_clear.2.1 mX1_clear.2.2.1 mX1_clear.2.2.2.1) && plainName mX1_clear.1.cls) = true := cwq_ok (by decide +kernel)
set_option maxRecDepth 100000 in
theorem ok_X1_copyFrom : (tX1_copyFrom).all (eok mth mX1_copyFrom) = true := ewk0_ok (by decide +kernel)
theorem cw_X1_copyFrom : (wdq 3 46 (.code mX1_copyFrom.1 mX1_copyFrom.2.1 mX1_copyFrom.2.2.1 mX1_copyFrom.2.2.2.1) && plainName mX1_copyFrom.1.cls) = true := cwq_ok (by decide +kernel)
set_option maxRecDepth 100000 in
theorem ok_X1_houseNamed : (tX1_houseNamed).all (eok mth mX1_houseNamed) = true := ewk0_ok (by decide +kernel)
theorem cw_X1_houseNamed : (wdq 2 188 (.code mX1_houseNamed.1 mX1_houseNamed.2.1 mX1_houseNamed.2.2.1 mX1_houseNamed.2.2.2.1) && plainName mX1_houseNamed.1.cls) = true := cwq_ok (by decide +kernel)
set_option maxRecDepth 100000 in
theorem ok_X1_personNamed : (tX1_personNamed).all (eok mth mX1_personNamed) = true := ewk0_ok (by decide +kernel)
theorem cw_X1_personNamed : (wdq 2 192 (.code mX1_personNamed.1 mX1_personNamed.2.1 mX1_personNamed.2.2.1 mX1_personNamed.2.2.2.1) && plainName mX1_personNamed.1.cls) = true := cwq_ok (by decide +kernel)
set_option maxRecDepth 100000 in
theorem ok_X1_isDead : (tX1_isDead).all (eok mth mX1_isDead) = true := ewk0_ok (by decide +kernel)
theorem cw_X1_isDead : (wdq 4 56 (.code mX1_isDead.1 mX1_isDead.2.1 mX1_isDead.2.2.1 mX1_isDead.2.2.2.1) && plainName mX1_isDead.1.cls) = true := cwq_ok (by decide +kernel)
set_option maxRecDepth 100000 in
theorem ok_X1_isGhost : (tX1_isGhost).all (eok mth mX1_isGhost) = true := ewk0_ok (by decide +kernel)
theorem cw_X1_isGhost : (wdq 3 174 (.code mX1_isGhost.1 mX1_isGhost.2.1 mX1_isGhost.2.2.1 mX1_isGhost.2.2.2.1) && plainName mX1_isGhost.1.cls) = true := cwq_ok (by decide +kernel)
set_option maxRecDepth 100000 in
theorem ok_X1_ghosts : (tX1_ghosts).all (eok mth mX1_ghosts) = true := ewk0_ok (by decide +kernel)
theorem cw_X1_ghosts : (wdq 3 170 (.code mX1_ghosts.1 mX1_ghosts.2.1 mX1_ghosts.2.2.1 mX1_ghosts.2.2.2.1) && plainName mX1_ghosts.1.cls) = true := cwq_ok (by decide +kernel)
set_option maxRecDepth 100000 in
theorem ok_X1_ghostHouses : (tX1_ghostHouses).all (eok mth mX1_ghostHouses) = true := ewk0_ok (by decide +kernel)
theorem cw_X1_ghostHouses : (wdq 4 147 (.code mX1_ghostHouses.1 mX1_ghostHouses.2.1 mX1_ghostHouses.2.2.1 mX1_ghostHouses.2.2.2.1) && plainName mX1_ghostHouses.1.cls) = true := cwq_ok (by decide +kernel)
set_option maxRecDepth 100000 in
theorem ok_X1_inHouse : (tX1_inHouse).all (eok mth mX1_inHouse) = true := ewk0_ok (by decide +kernel)
theorem cw_X1_inHouse : (wdq 3 231 (.code mX1_inHouse.1 mX1_inHouse.2.1 mX1_inHouse.2.2.1 mX1_inHouse.2.2.2.1) && plainName mX1_inHouse.1.cls) = true := cwq_ok (by decide +kernel)
set_option maxRecDepth 100000 in
theorem ok_X1_aimOf : (tX1_aimOf).all (eok mth mX1_aimOf) = true := ewk0_ok (by decide +kernel)
theorem cw_X1_aimOf : (wdq 4 7 (.code mX1_aimOf.1 mX1_aimOf.2.1 mX1_aimOf.2.2.1 mX1_aimOf.2.2.2.1) && plainName mX1_aimOf.1.cls) = true := cwq_ok (by decide +kernel)
set_option maxRecDepth 100000 in
theorem ok_X1_nextStop : (tX1_nextStop).all (eok mth mX1_nextStop) = true := ewk0_ok (by decide +kernel)
theorem cw_X1_nextStop : (wdq 4 112 (.code mX1_nextStop.1 mX1_nextStop.2.1 mX1_nextStop.2.2.1 mX1_nextStop.2.2.2.1) && plainName mX1_nextStop.1.cls) = true := cwq_ok (by decide +kernel)
set_option maxRecDepth 100000 in
theorem ok_X1_passNights : (tX1_passNights).all (eok mth mX1_passNights) = true := ewk0_ok (by decide +kernel)
theorem cw_X1_passNights : (wdq 3 239 (.code mX1_passNights.1 mX1_passNights.2.1 mX1_passNights.2.2.1 mX1_passNights.2.2.2.1) && plainName mX1_passNights.1.cls) = true := cwq_ok (by decide +kernel)
set_option maxRecDepth 100000 in
theorem ok_X1_haunt : (tX1_haunt).all (eok mth mX1_haunt) = true := ewk0_ok (by decide +kernel)
theorem cw_X1_haunt : (wdq 4 3 (.code mX1_haunt.1 mX1_haunt.2.1 mX1_haunt.2.2.1 mX1_haunt.2.2.2.1) && plainName mX1_haunt.1.cls) = true := cwq_ok (by decide +kernel)
set_option maxRecDepth 100000 in
theorem ok_X1_saySorry : (tX1_saySorry).all (eok mth mX1_saySorry) = true := ewk0_ok (by decide +kernel)
theorem cw_X1_saySorry : (wdq 4 13 (.code mX1_saySorry.1 mX1_saySorry.2.1 mX1_saySorry.2.2.1 mX1_saySorry.2.2.2.1) && plainName mX1_saySorry.1.cls) = true := cwq_ok (by decide +kernel)
set_option maxRecDepth 100000 in
theorem ok_X1_heirSet : (tX1_heirSet).all (eok mth mX1_heirSet) = true := ewk0_ok (by decide +kernel)
theorem cw_X1_heirSet : (wdq 4 34 (.code mX1_heirSet.1 mX1_heirSet.2.1 mX1_heirSet.2.2.1 mX1_heirSet.2.2.2.1) && plainName mX1_heirSet.1.cls) = true := cwq_ok (by decide +kernel)
set_option maxRecDepth 100000 in
theorem ok_X1_shareOf : (tX1_shareOf).all (eok mth mX1_shareOf) = true := ewk0_ok (by decide +kernel)
theorem cw_X1_shareOf : (wdq 4 38 (.code mX1_shareOf.1 mX1_shareOf.2.1 mX1_shareOf.2.2.1 mX1_shareOf.2.2.2.1) && plainName mX1_shareOf.1.cls) = true := cwq_ok (by decide +kernel)
set_option maxRecDepth 100000 in
theorem ok_X1_bury : (tX1_bury).all (eok mth mX1_bury) = true := ewk0_ok (by decide +kernel)
theorem cw_X1_bury : (wdq 4 26 (.code mX1_bury.1 mX1_bury.2.1 mX1_bury.2.2.1 mX1_bury.2.2.2.1) && plainName mX1_bury.1.cls) = true := cwq_ok (by decide +kernel)
set_option maxRecDepth 100000 in
theorem ok_X1_passOn : (tX1_passOn).all (eok mth mX1_passOn) = true := ewk0_ok (by decide +kernel)
theorem cw_X1_passOn : (wdq 4 30 (.code mX1_passOn.1 mX1_passOn.2.1 mX1_passOn.2.2.1 mX1_passOn.2.2.2.1) && plainName mX1_passOn.1.cls) = true := cwq_ok (by decide +kernel)
set_option maxRecDepth 100000 in
theorem ok_X1_remit : (tX1_remit).all (eok mth mX1_remit) = true := ewk0_ok (by decide +kernel)
theorem cw_X1_remit : (wdq 4 52 (.code mX1_remit.1 mX1_remit.2.1 mX1_remit.2.2.1 mX1_remit.2.2.2.1) && plainName mX1_remit.1.cls) = true := cwq_ok (by decide +kernel)
set_option maxRecDepth 100000 in
theorem ok_X1_remitAll : (tX1_remitAll).all (eok mth mX1_remitAll) = true := ewk0_ok (by decide +kernel)
theorem cw_X1_remitAll : (wdq 5 97 (.code mX1_remitAll.1 mX1_remitAll.2.1 mX1_remitAll.2.2.1 mX1_remitAll.2.2.2.1) && plainName mX1_remitAll.1.cls) = true := cwq_ok (by decide +kernel)
set_option maxRecDepth 100000 in
theorem ok_X1_slander : (tX1_slander).all (eok mth mX1_slander) = true := ewk0_ok (by decide +kernel)
theorem cw_X1_slander : (wdq 4 64 (.code mX1_slander.1 mX1_slander.2.1 mX1_slander.2.2.1 mX1_slander.2.2.2.1) && plainName mX1_slander.1.cls) = true := cwq_ok (by decide +kernel)
set_option maxRecDepth 100000 in
theorem ok_X2_init : (tX2_init).all (eok mth mX2_init) = true := ewk0_ok (by decide +kernel)
theorem cw_X2_init : (wdq 1 84 (.code mX2_init.1 mX2_init.2.1 mX2_init.2.2.1 mX2_init.2.2.2.1) && plainName mX2_init.1.cls) = true := cwq_ok (by decide +kernel)
set_option maxRecDepth 100000 in
theorem ok_X2_readAll : (tX2_readAll).all (eok mth mX2_readAll) = true := ewk0_ok (by decide +kernel)
theorem cw_X2_readAll : (wdq 2 107 (.code mX2_readAll.1 mX2_readAll.2.1 mX2_readAll.2.2.1 mX2_readAll.2.2.2.1) && plainName mX2_readAll.1.cls) = true := cwq_ok (by decide +kernel)
set_option maxRecDepth 100000 in
theorem ok_X2_readPart : (tX2_readPart).all (eok mth mX2_readPart) = true := ewk0_ok (by decide +kernel)
theorem cw_X2_readPart : (wdq 2 163 (.code mX2_readPart.1 mX2_readPart.2.1 mX2_readPart.2.2.1 mX2_readPart.2.2.2.1) && plainName mX2_readPart.1.cls) = true := cwq_ok (by decide +kernel)
set_option maxRecDepth 100000 in
theorem ok_X2_isNewName : (tX2_isNewName).all (eok mth mX2_isNewName) = true := ewk0_ok (by decide +kernel)
theorem cw_X2_isNewName : (wdq 2 180 (.code mX2_isNewName.1 mX2_isNewName.2.1 mX2_isNewName.2.2.1 mX2_isNewName.2.2.2.1) && plainName mX2_isNewName.1.cls) = true := cwq_ok (by decide +kernel)
set_option maxRecDepth 100000 in
theorem ok_X2_takeIf : (tX2_takeIf).all (eok mth mX2_takeIf) = true := ewk0_ok (by decide +kernel)
theorem cw_X2_takeIf : (wdq 2 196 (.code mX2_takeIf.1 mX2_takeIf.2.1 mX2_takeIf.2.2.1 mX2_takeIf.2.2.2.1) && plainName mX2_takeIf.1.cls) = true := cwq_ok (by decide +kernel)
set_option maxRecDepth 100000 in
theorem ok_X2_readHouse : (tX2_readHouse).all (eok mth mX2_readHouse) = true := ewk0_ok (by decide +kernel)
theorem cw_X2_readHouse : (wdq 2 171 (.code mX2_readHouse.1 mX2_readHouse.2.1 mX2_readHouse.2.2.1 mX2_readHouse.2.2.2.1) && plainName mX2_readHouse.1.cls) = true := cwq_ok (by decide +kernel)
set_option maxRecDepth 100000 in
theorem ok_X2_readDoor : (tX2_readDoor).all (eok mth mX2_readDoor) = true := ewk0_ok (by decide +kernel)
theorem cw_X2_readDoor : (wdq 2 205 (.code mX2_readDoor.1 mX2_readDoor.2.1 mX2_readDoor.2.2.1 mX2_readDoor.2.2.2.1) && plainName mX2_readDoor.1.cls) = true := cwq_ok (by decide +kernel)
set_option maxRecDepth 100000 in
theorem ok_X2_readPerson : (tX2_readPerson).all (eok mth mX2_readPerson) = true := ewk0_ok (by decide +kernel)
theorem cw_X2_readPerson : (wdq 2 224 (.code mX2_readPerson.1 mX2_readPerson.2.1 mX2_readPerson.2.2.1 mX2_readPerson.2.2.2.1) && plainName mX2_readPerson.1.cls) = true := cwq_ok (by decide +kernel)
set_option maxRecDepth 100000 in
theorem ok_X2_readOwes : (tX2_readOwes).all (eok mth mX2_readOwes) = true := ewk0_ok (by decide +kernel)
theorem cw_X2_readOwes : (wdq 2 233 (.code mX2_readOwes.1 mX2_readOwes.2.1 mX2_readOwes.2.2.1 mX2_readOwes.2.2.2.1) && plainName mX2_readOwes.1.cls) = true := cwq_ok (by decide +kernel)
set_option maxRecDepth 100000 in
theorem ok_X2_readHeir : (tX2_readHeir).all (eok mth mX2_readHeir) = true := ewk0_ok (by decide +kernel)
theorem cw_X2_readHeir : (wdq 3 19 (.code mX2_readHeir.1 mX2_readHeir.2.1 mX2_readHeir.2.2.1 mX2_readHeir.2.2.2.1) && plainName mX2_readHeir.1.cls) = true := cwq_ok (by decide +kernel)
set_option maxRecDepth 100000 in
theorem ok_X2_otherPerson : (tX2_otherPerson).all (eok mth mX2_otherPerson) = true := ewk0_ok (by decide +kernel)
theorem cw_X2_otherPerson : (wdq 3 6 (.code mX2_otherPerson.1 mX2_otherPerson.2.1 mX2_otherPerson.2.2.1 mX2_otherPerson.2.2.2.1) && plainName mX2_otherPerson.1.cls) = true := cwq_ok (by decide +kernel)
set_option maxRecDepth 100000 in
theorem ok_X3_init : (tX3_init).all (eok mth mX3_init) = true := ewk0_ok (by decide +kernel)
theorem cw_X3_init : (wdq 1 152 (.code mX3_init.1 mX3_init.2.1 mX3_init.2.2.1 mX3_init.2.2.2.1) && plainName mX3_init.1.cls) = true := cwq_ok (by decide +kernel)
set_option maxRecDepth 100000 in
theorem ok_X3_run : (tX3_run).all (eok mth mX3_run) = true := ewk0_ok (by decide +kernel)
theorem cw_X3_run : (wdq 5 192 (.code mX3_run.1 mX3_run.2.1 mX3_run.2.2.1 mX3_run.2.2.2.1) && plainName mX3_run.1.cls) = true := cwq_ok (by decide +kernel)
set_option maxRecDepth 100000 in
theorem ok_X3_begin : (tX3_begin).all (eok mth mX3_begin) = true := ewk0_ok (by decide +kernel)
theorem cw_X3_begin : (wdq 5 196 (.code mX3_begin.1 mX3_begin.2.1 mX3_begin.2.2.1 mX3_begin.2.2.2.1) && plainName mX3_begin.1.cls) = true := cwq_ok (by decide +kernel)
set_option maxRecDepth 100000 in
theorem ok_X3_placeBehind : (tX3_placeBehind).all (eok mth mX3_placeBehind) = true := ewk0_ok (by decide +kernel)
theorem cw_X3_placeBehind : (wdq 5 202 (.code mX3_placeBehind.1 mX3_placeBehind.2.1 mX3_placeBehind.2.2.1 mX3_placeBehind.2.2.2.1) && plainName mX3_placeBehind.1.cls) = true := cwq_ok (by decide +kernel)
set_option maxRecDepth 100000 in
theorem ok_X3_holds : (tX3_holds).all (eok mth mX3_holds) = true := ewk0_ok (by decide +kernel)
theorem cw_X3_holds : (wdq 5 205 (.code mX3_holds.1 mX3_holds.2.1 mX3_holds.2.2.1 mX3_holds.2.2.2.1) && plainName mX3_holds.1.cls) = true := cwq_ok (by decide +kernel)
set_option maxRecDepth 100000 in
theorem ok_X3_compares : (tX3_compares).all (eok mth mX3_compares) = true := ewk0_ok (by decide +kernel)
theorem cw_X3_compares : (wdq 5 209 (.code mX3_compares.1 mX3_compares.2.1 mX3_compares.2.2.1 mX3_compares.2.2.2.1) && plainName mX3_compares.1.cls) = true := cwq_ok (by decide +kernel)
set_option maxRecDepth 100000 in
theorem ok_X3_isDone : (tX3_isDone).all (eok mth mX3_isDone) = true := ewk0_ok (by decide +kernel)
theorem cw_X3_isDone : (wdq 5 213 (.code mX3_isDone.1 mX3_isDone.2.1 mX3_isDone.2.2.1 mX3_isDone.2.2.2.1) && plainName mX3_isDone.1.cls) = true := cwq_ok (by decide +kernel)
set_option maxRecDepth 100000 in
theorem ok_X3_drawLiving : (tX3_drawLiving).all (eok mth mX3_drawLiving) = true := ewk0_ok (by decide +kernel)
theorem cw_X3_drawLiving : (wdq 5 222 (.code mX3_drawLiving.1 mX3_drawLiving.2.1 mX3_drawLiving.2.2.1 mX3_drawLiving.2.2.2.1) && plainName mX3_drawLiving.1.cls) = true := cwq_ok (by decide +kernel)
set_option maxRecDepth 100000 in
theorem ok_X4_init : (tX4_init).all (eok mth mX4_init) = true := ewk0_ok (by decide +kernel)
theorem cw_X4_init : (wdq 1 134 (.code mX4_init.1 mX4_init.2.1 mX4_init.2.2.1 mX4_init.2.2.2.1) && plainName mX4_init.1.cls) = true := cwq_ok (by decide +kernel)
set_option maxRecDepth 100000 in
theorem ok_X4_sorrowWithout : (tX4_sorrowWithout).all (eok mth mX4_sorrowWithout) = true := ewk0_ok (by decide +kernel)
theorem cw_X4_sorrowWithout : (wdq 5 19 (.code mX4_sorrowWithout.1 mX4_sorrowWithout.2.1 mX4_sorrowWithout.2.2.1 mX4_sorrowWithout.2.2.2.1) && plainName mX4_sorrowWithout.1.cls) = true := cwq_ok (by decide +kernel)
set_option maxRecDepth 100000 in
theorem ok_X4_bestDeath : (tX4_bestDeath).all (eok mth mX4_bestDeath) = true := ewk0_ok (by decide +kernel)
theorem cw_X4_bestDeath : (wdq 5 30 (.code mX4_bestDeath.1 mX4_bestDeath.2.1 mX4_bestDeath.2.2.1 mX4_bestDeath.2.2.2.1) && plainName mX4_bestDeath.1.cls) = true := cwq_ok (by decide +kernel)
set_option maxRecDepth 100000 in
theorem ok_X4_bestKeeper : (tX4_bestKeeper).all (eok mth mX4_bestKeeper) = true := ewk0_ok (by decide +kernel)
theorem cw_X4_bestKeeper : (wdq 5 40 (.code mX4_bestKeeper.1 mX4_bestKeeper.2.1 mX4_bestKeeper.2.2.1 mX4_bestKeeper.2.2.2.1) && plainName mX4_bestKeeper.1.cls) = true := cwq_ok (by decide +kernel)
set_option maxRecDepth 100000 in
theorem ok_X4_labourWithKeeper : (tX4_labourWithKeeper).all (eok mth mX4_labourWithKeeper) = true := ewk0_ok (by decide +kernel)
theorem cw_X4_labourWithKeeper : (wdq 5 45 (.code mX4_labourWithKeeper.1 mX4_labourWithKeeper.2.1 mX4_labourWithKeeper.2.2.1 mX4_labourWithKeeper.2.2.2.1) && plainName mX4_labourWithKeeper.1.cls) = true := cwq_ok (by decide +kernel)
set_option maxRecDepth 100000 in
theorem ok_X4_leastSalt : (tX4_leastSalt).all (eok mth mX4_leastSalt) = true := ewk0_ok (by decide +kernel)
theorem cw_X4_leastSalt : (wdq 5 66 (.code mX4_leastSalt.1 mX4_leastSalt.2.1 mX4_leastSalt.2.2.1 mX4_leastSalt.2.2.2.1) && plainName mX4_leastSalt.1.cls) = true := cwq_ok (by decide +kernel)
set_option maxRecDepth 100000 in
theorem ok_X4_leastPardon : (tX4_leastPardon).all (eok mth mX4_leastPardon) = true := ewk0_ok (by decide +kernel)
theorem cw_X4_leastPardon : (wdq 5 85 (.code mX4_leastPardon.1 mX4_leastPardon.2.1 mX4_leastPardon.2.2.1 mX4_leastPardon.2.2.2.1) && plainName mX4_leastPardon.1.cls) = true := cwq_ok (by decide +kernel)
set_option maxRecDepth 100000 in
theorem ok_X4_isQuietBy : (tX4_isQuietBy).all (eok mth mX4_isQuietBy) = true := ewk0_ok (by decide +kernel)
theorem cw_X4_isQuietBy : (wdq 5 93 (.code mX4_isQuietBy.1 mX4_isQuietBy.2.1 mX4_isQuietBy.2.2.1 mX4_isQuietBy.2.2.2.1) && plainName mX4_isQuietBy.1.cls) = true := cwq_ok (by decide +kernel)
set_option maxRecDepth 100000 in
theorem ok_X4_deadCouple : (tX4_deadCouple).all (eok mth mX4_deadCouple) = true := ewk0_ok (by decide +kernel)
theorem cw_X4_deadCouple : (wdq 5 109 (.code mX4_deadCouple.1 mX4_deadCouple.2.1 mX4_deadCouple.2.2.1 mX4_deadCouple.2.2.2.1) && plainName mX4_deadCouple.1.cls) = true := cwq_ok (by decide +kernel)
set_option maxRecDepth 100000 in
theorem ok_X4_longestRow : (tX4_longestRow).all (eok mth mX4_longestRow) = true := ewk0_ok (by decide +kernel)
theorem cw_X4_longestRow : (wdq 5 148 (.code mX4_longestRow.1 mX4_longestRow.2.1 mX4_longestRow.2.2.1 mX4_longestRow.2.2.2.1) && plainName mX4_longestRow.1.cls) = true := cwq_ok (by decide +kernel)
set_option maxRecDepth 100000 in
theorem ok_X4_lastsOf : (tX4_lastsOf).all (eok mth mX4_lastsOf) = true := ewk0_ok (by decide +kernel)
theorem cw_X4_lastsOf : (wdq 5 156 (.code mX4_lastsOf.1 mX4_lastsOf.2.1 mX4_lastsOf.2.2.1 mX4_lastsOf.2.2.2.1) && plainName mX4_lastsOf.1.cls) = true := cwq_ok (by decide +kernel)
set_option maxRecDepth 100000 in
theorem ok_X4_bestThreshold : (tX4_bestThreshold).all (eok mth mX4_bestThreshold) = true := ewk0_ok (by decide +kernel)
theorem cw_X4_bestThreshold : (wdq 5 175 (.code mX4_bestThreshold.1 mX4_bestThreshold.2.1 mX4_bestThreshold.2.2.1 mX4_bestThreshold.2.2.2.1) && plainName mX4_bestThreshold.1.cls) = true := cwq_ok (by decide +kernel)
set_option maxRecDepth 100000 in
theorem ok_X4_ghostsKeptOff : (tX4_ghostsKeptOff).all (eok mth mX4_ghostsKeptOff) = true := ewk0_ok (by decide +kernel)
theorem cw_X4_ghostsKeptOff : (wdq 5 179 (.code mX4_ghostsKeptOff.1 mX4_ghostsKeptOff.2.1 mX4_ghostsKeptOff.2.2.1 mX4_ghostsKeptOff.2.2.2.1) && plainName mX4_ghostsKeptOff.1.cls) = true := cwq_ok (by decide +kernel)
set_option maxRecDepth 100000 in
theorem ok_X4_reachesSome : (tX4_reachesSome).all (eok mth mX4_reachesSome) = true := ewk0_ok (by decide +kernel)
theorem cw_X4_reachesSome : (wdq 5 184 (.code mX4_reachesSome.1 mX4_reachesSome.2.1 mX4_reachesSome.2.2.1 mX4_reachesSome.2.2.2.1) && plainName mX4_reachesSome.1.cls) = true := cwq_ok (by decide +kernel)
set_option maxRecDepth 100000 in
theorem ok_X5_init : (tX5_init).all (eok mth mX5_init) = true := ewk0_ok (by decide +kernel)
theorem cw_X5_init : (wdq 0 145 (.code mX5_init.1 mX5_init.2.1 mX5_init.2.2.1 mX5_init.2.2.2.1) && plainName mX5_init.1.cls) = true := cwq_ok (by decide +kernel)
set_option maxRecDepth 100000 in
theorem ok_X5_clear : (tX5_clear).all (eok mth mX5_clear) = true := ewk0_ok (by decide +kernel)
theorem cw_X5_clear : (wdq 2 115 (.code mX5_clear.1 mX5_clear.2.1 mX5_clear.2.2.1 mX5_clear.2.2.2.1) && plainName mX5_clear.1.cls) = true := cwq_ok (by decide +kernel)
set_option maxRecDepth 100000 in
theorem ok_X5_copyFrom : (tX5_copyFrom).all (eok mth mX5_copyFrom) = true := ewk0_ok (by decide +kernel)
theorem cw_X5_copyFrom : (wdq 3 50 (.code mX5_copyFrom.1 mX5_copyFrom.2.1 mX5_copyFrom.2.2.1 mX5_copyFrom.2.2.2.1) && plainName mX5_copyFrom.1.cls) = true := cwq_ok (by decide +kernel)
set_option maxRecDepth 100000 in
theorem ok_X5_hang : (tX5_hang).all (eok mth mX5_hang) = true := ewk0_ok (by decide +kernel)
theorem cw_X5_hang : (wdq 2 220 (.code mX5_hang.1 mX5_hang.2.1 mX5_hang.2.2.1 mX5_hang.2.2.2.1) && plainName mX5_hang.1.cls) = true := cwq_ok (by decide +kernel)
set_option maxRecDepth 100000 in
theorem ok_X5_strew : (tX5_strew).all (eok mth mX5_strew) = true := ewk0_ok (by decide +kernel)
theorem cw_X5_strew : (wdq 4 72 (.code mX5_strew.1 mX5_strew.2.1 mX5_strew.2.2.1 mX5_strew.2.2.2.1) && plainName mX5_strew.1.cls) = true := cwq_ok (by decide +kernel)
set_option maxRecDepth 100000 in
theorem ok_X5_couples : (tX5_couples).all (eok mth mX5_couples) = true := ewk0_ok (by decide +kernel)
theorem cw_X5_couples : (wdq 3 156 (.code mX5_couples.1 mX5_couples.2.1 mX5_couples.2.2.1 mX5_couples.2.2.2.1) && plainName mX5_couples.1.cls) = true := cwq_ok (by decide +kernel)
set_option maxRecDepth 100000 in
theorem ok_X5_around : (tX5_around).all (eok mth mX5_around) = true := ewk0_ok (by decide +kernel)
theorem cw_X5_around : (wdq 3 34 (.code mX5_around.1 mX5_around.2.1 mX5_around.2.2.1 mX5_around.2.2.2.1) && plainName mX5_around.1.cls) = true := cwq_ok (by decide +kernel)
set_option maxRecDepth 100000 in
theorem ok_X5_spread : (tX5_spread).all (eok mth mX5_spread) = true := ewk0_ok (by decide +kernel)
theorem cw_X5_spread : (wdq 4 186 (.code mX5_spread.1 mX5_spread.2.1 mX5_spread.2.2.1 mX5_spread.2.2.2.1) && plainName mX5_spread.1.cls) = true := cwq_ok (by decide +kernel)
set_option maxRecDepth 100000 in
theorem ok_X5_survey : (tX5_survey).all (eok mth mX5_survey) = true := ewk0_ok (by decide +kernel)
theorem cw_X5_survey : (wdq 3 23 (.code mX5_survey.1 mX5_survey.2.1 mX5_survey.2.2.1 mX5_survey.2.2.2.1) && plainName mX5_survey.1.cls) = true := cwq_ok (by decide +kernel)
set_option maxRecDepth 100000 in
theorem ok_X5_measureFrom : (tX5_measureFrom).all (eok mth mX5_measureFrom) = true := ewk0_ok (by decide +kernel)
theorem cw_X5_measureFrom : (wdq 3 27 (.code mX5_measureFrom.1 mX5_measureFrom.2.1 mX5_measureFrom.2.2.1 mX5_measureFrom.2.2.2.1) && plainName mX5_measureFrom.1.cls) = true := cwq_ok (by decide +kernel)
set_option maxRecDepth 100000 in
theorem ok_X5_leastNext : (tX5_leastNext).all (eok mth mX5_leastNext) = true := ewk0_ok (by decide +kernel)
theorem cw_X5_leastNext : (wdq 3 38 (.code mX5_leastNext.1 mX5_leastNext.2.1 mX5_leastNext.2.2.1 mX5_leastNext.2.2.2.1) && plainName mX5_leastNext.1.cls) = true := cwq_ok (by decide +kernel)
set_option maxRecDepth 100000 in
theorem ok_X5_distance : (tX5_distance).all (eok mth mX5_distance) = true := ewk0_ok (by decide +kernel)
theorem cw_X5_distance : (wdq 3 42 (.code mX5_distance.1 mX5_distance.2.1 mX5_distance.2.2.1 mX5_distance.2.2.2.1) && plainName mX5_distance.1.cls) = true := cwq_ok (by decide +kernel)
set_option maxRecDepth 100000 in
theorem ok_X5_nextHouse : (tX5_nextHouse).all (eok mth mX5_nextHouse) = true := ewk0_ok (by decide +kernel)
theorem cw_X5_nextHouse : (wdq 4 18 (.code mX5_nextHouse.1 mX5_nextHouse.2.1 mX5_nextHouse.2.2.1 mX5_nextHouse.2.2.2.1) && plainName mX5_nextHouse.1.cls) = true := cwq_ok (by decide +kernel)
set_option maxRecDepth 100000 in
theorem ok_X5_straits : (tX5_straits).all (eok mth mX5_straits) = true := ewk0_ok (by decide +kernel)
theorem cw_X5_straits : (wdq 4 182 (.code mX5_straits.1 mX5_straits.2.1 mX5_straits.2.2.1 mX5_straits.2.2.2.1) && plainName mX5_straits.1.cls) = true := cwq_ok (by decide +kernel)
set_option maxRecDepth 100000 in
theorem ok_X5_shortestWays : (tX5_shortestWays).all (eok mth mX5_shortestWays) = true := ewk0_ok (by decide +kernel)
theorem cw_X5_shortestWays : (wdq 5 2 (.code mX5_shortestWays.1 mX5_shortestWays.2.1 mX5_shortestWays.2.2.1 mX5_shortestWays.2.2.2.1) && plainName mX5_shortestWays.1.cls) = true := cwq_ok (by decide +kernel)
set_option maxRecDepth 100000 in
theorem ok_X5_waysInto : (tX5_waysInto).all (eok mth mX5_waysInto) = true := ewk0_ok (by decide +kernel)
theorem cw_X5_waysInto : (wdq 5 6 (.code mX5_waysInto.1 mX5_waysInto.2.1 mX5_waysInto.2.2.1 mX5_waysInto.2.2.2.1) && plainName mX5_waysInto.1.cls) = true := cwq_ok (by decide +kernel)
set_option maxRecDepth 100000 in
theorem ok_X6_init : (tX6_init).all (eok mth mX6_init) = true := ewk0_ok (by decide +kernel)
theorem cw_X6_init : (wdq 1 119 (.code mX6_init.1 mX6_init.2.1 mX6_init.2.2.1 mX6_init.2.2.2.1) && plainName mX6_init.1.cls) = true := cwq_ok (by decide +kernel)
set_option maxRecDepth 100000 in
theorem ok_X6_after : (tX6_after).all (eok mth mX6_after) = true := ewk0_ok (by decide +kernel)
theorem cw_X6_after : (wdq 4 120 (.code mX6_after.1 mX6_after.2.1 mX6_after.2.2.1 mX6_after.2.2.2.1) && plainName mX6_after.1.cls) = true := cwq_ok (by decide +kernel)
set_option maxRecDepth 100000 in
theorem ok_X6_nightsToRest : (tX6_nightsToRest).all (eok mth mX6_nightsToRest) = true := ewk0_ok (by decide +kernel)
theorem cw_X6_nightsToRest : (wdq 4 134 (.code mX6_nightsToRest.1 mX6_nightsToRest.2.1 mX6_nightsToRest.2.2.1 mX6_nightsToRest.2.2.2.1) && plainName mX6_nightsToRest.1.cls) = true := cwq_ok (by decide +kernel)
set_option maxRecDepth 100000 in
theorem ok_X6_nightsToQuiet : (tX6_nightsToQuiet).all (eok mth mX6_nightsToQuiet) = true := ewk0_ok (by decide +kernel)
theorem cw_X6_nightsToQuiet : (wdq 4 143 (.code mX6_nightsToQuiet.1 mX6_nightsToQuiet.2.1 mX6_nightsToQuiet.2.2.1 mX6_nightsToQuiet.2.2.2.1) && plainName mX6_nightsToQuiet.1.cls) = true := cwq_ok (by decide +kernel)
set_option maxRecDepth 100000 in
theorem ok_X6_nightsToLabour : (tX6_nightsToLabour).all (eok mth mX6_nightsToLabour) = true := ewk0_ok (by decide +kernel)
theorem cw_X6_nightsToLabour : (wdq 4 156 (.code mX6_nightsToLabour.1 mX6_nightsToLabour.2.1 mX6_nightsToLabour.2.2.1 mX6_nightsToLabour.2.2.2.1) && plainName mX6_nightsToLabour.1.cls) = true := cwq_ok (by decide +kernel)
set_option maxRecDepth 100000 in
theorem ok_X6_nightsToMeeting : (tX6_nightsToMeeting).all (eok mth mX6_nightsToMeeting) = true := ewk0_ok (by decide +kernel)
theorem cw_X6_nightsToMeeting : (wdq 4 208 (.code mX6_nightsToMeeting.1 mX6_nightsToMeeting.2.1 mX6_nightsToMeeting.2.2.1 mX6_nightsToMeeting.2.2.2.1) && plainName mX6_nightsToMeeting.1.cls) = true := cwq_ok (by decide +kernel)
set_option maxRecDepth 100000 in
theorem ok_X6_ghostsSeen : (tX6_ghostsSeen).all (eok mth mX6_ghostsSeen) = true := ewk0_ok (by decide +kernel)
theorem cw_X6_ghostsSeen : (wdq 4 164 (.code mX6_ghostsSeen.1 mX6_ghostsSeen.2.1 mX6_ghostsSeen.2.2.1 mX6_ghostsSeen.2.2.2.1) && plainName mX6_ghostsSeen.1.cls) = true := cwq_ok (by decide +kernel)
set_option maxRecDepth 100000 in
theorem ok_X6_nightsSpent : (tX6_nightsSpent).all (eok mth mX6_nightsSpent) = true := ewk0_ok (by decide +kernel)
theorem cw_X6_nightsSpent : (wdq 4 174 (.code mX6_nightsSpent.1 mX6_nightsSpent.2.1 mX6_nightsSpent.2.2.1 mX6_nightsSpent.2.2.2.1) && plainName mX6_nightsSpent.1.cls) = true := cwq_ok (by decide +kernel)
set_option maxRecDepth 100000 in
theorem ok_X6_housesSeen : (tX6_housesSeen).all (eok mth mX6_housesSeen) = true := ewk0_ok (by decide +kernel)
theorem cw_X6_housesSeen : (wdq 4 199 (.code mX6_housesSeen.1 mX6_housesSeen.2.1 mX6_housesSeen.2.2.1 mX6_housesSeen.2.2.2.1) && plainName mX6_housesSeen.1.cls) = true := cwq_ok (by decide +kernel)
set_option maxRecDepth 100000 in
theorem ok_X6_fullestHouse : (tX6_fullestHouse).all (eok mth mX6_fullestHouse) = true := ewk0_ok (by decide +kernel)
theorem cw_X6_fullestHouse : (wdq 4 216 (.code mX6_fullestHouse.1 mX6_fullestHouse.2.1 mX6_fullestHouse.2.2.1 mX6_fullestHouse.2.2.2.1) && plainName mX6_fullestHouse.1.cls) = true := cwq_ok (by decide +kernel)
set_option maxRecDepth 100000 in
theorem ok_X6_countVisits : (tX6_countVisits).all (eok mth mX6_countVisits) = true := ewk0_ok (by decide +kernel)
theorem cw_X6_countVisits : (wdq 4 221 (.code mX6_countVisits.1 mX6_countVisits.2.1 mX6_countVisits.2.2.1 mX6_countVisits.2.2.2.1) && plainName mX6_countVisits.1.cls) = true := cwq_ok (by decide +kernel)
set_option maxRecDepth 100000 in
theorem ok_X7_init : (tX7_init).all (eok mth mX7_init) = true := ewk0_ok (by decide +kernel)
theorem cw_X7_init : (wdq 1 41 (.code mX7_init.1 mX7_init.2.1 mX7_init.2.2.1 mX7_init.2.2.2.1) && plainName mX7_init.1.cls) = true := cwq_ok (by decide +kernel)
set_option maxRecDepth 100000 in
theorem ok_X7_clear : (tX7_clear).all (eok mth mX7_clear) = true := ewk0_ok (by decide +kernel)
theorem cw_X7_clear : (wdq 3 61 (.code mX7_clear.1 mX7_clear.2.1 mX7_clear.2.2.1 mX7_clear.2.2.2.1) && plainName mX7_clear.1.cls) = true := cwq_ok (by decide +kernel)
set_option maxRecDepth 100000 in
theorem ok_X7_copyFrom : (tX7_copyFrom).all (eok mth mX7_copyFrom) = true := ewk0_ok (by decide +kernel)
theorem cw_X7_copyFrom : (wdq 3 143 (.code mX7_copyFrom.1 mX7_copyFrom.2.1 mX7_copyFrom.2.2.1 mX7_copyFrom.2.2.2.1) && plainName mX7_copyFrom.1.cls) = true := cwq_ok (by decide +kernel)
set_option maxRecDepth 100000 in
theorem ok_X7_add : (tX7_add).all (eok mth mX7_add) = true := ewk0_ok (by decide +kernel)
theorem cw_X7_add : (wdq 3 86 (.code mX7_add.1 mX7_add.2.1 mX7_add.2.2.1 mX7_add.2.2.2.1) && plainName mX7_add.1.cls) = true := cwq_ok (by decide +kernel)
set_option maxRecDepth 100000 in
theorem ok_X8_init : (tX8_init).all (eok mth mX8_init) = true := ewk0_ok (by decide +kernel)
theorem cw_X8_init : (wdq 1 97 (.code mX8_init.1 mX8_init.2.1 mX8_init.2.2.1 mX8_init.2.2.2.1) && plainName mX8_init.1.cls) = true := cwq_ok (by decide +kernel)
set_option maxRecDepth 100000 in
theorem ok_X8_readAll : (tX8_readAll).all (eok mth mX8_readAll) = true := ewk0_ok (by decide +kernel)
theorem cw_X8_readAll : (wdq 3 73 (.code mX8_readAll.1 mX8_readAll.2.1 mX8_readAll.2.2.1 mX8_readAll.2.2.2.1) && plainName mX8_readAll.1.cls) = true := cwq_ok (by decide +kernel)
set_option maxRecDepth 100000 in
theorem ok_X8_readEnd : (tX8_readEnd).all (eok mth mX8_readEnd) = true := ewk0_ok (by decide +kernel)
theorem cw_X8_readEnd : (wdq 3 81 (.code mX8_readEnd.1 mX8_readEnd.2.1 mX8_readEnd.2.2.1 mX8_readEnd.2.2.2.1) && plainName mX8_readEnd.1.cls) = true := cwq_ok (by decide +kernel)
set_option maxRecDepth 100000 in
theorem ok_X8_readStep : (tX8_readStep).all (eok mth mX8_readStep) = true := ewk0_ok (by decide +kernel)
theorem cw_X8_readStep : (wdq 3 92 (.code mX8_readStep.1 mX8_readStep.2.1 mX8_readStep.2.2.1 mX8_readStep.2.2.2.1) && plainName mX8_readStep.1.cls) = true := cwq_ok (by decide +kernel)
set_option maxRecDepth 100000 in
theorem ok_X8_isStep : (tX8_isStep).all (eok mth mX8_isStep) = true := ewk0_ok (by decide +kernel)
theorem cw_X8_isStep : (wdq 3 95 (.code mX8_isStep.1 mX8_isStep.2.1 mX8_isStep.2.2.1 mX8_isStep.2.2.2.1) && plainName mX8_isStep.1.cls) = true := cwq_ok (by decide +kernel)
set_option maxRecDepth 100000 in
theorem ok_X8_readRest : (tX8_readRest).all (eok mth mX8_readRest) = true := ewk0_ok (by decide +kernel)
theorem cw_X8_readRest : (wdq 3 123 (.code mX8_readRest.1 mX8_readRest.2.1 mX8_readRest.2.2.1 mX8_readRest.2.2.2.1) && plainName mX8_readRest.1.cls) = true := cwq_ok (by decide +kernel)
set_option maxRecDepth 100000 in
theorem ok_X8_readCount : (tX8_readCount).all (eok mth mX8_readCount) = true := ewk0_ok (by decide +kernel)
theorem cw_X8_readCount : (wdq 3 127 (.code mX8_readCount.1 mX8_readCount.2.1 mX8_readCount.2.2.1 mX8_readCount.2.2.2.1) && plainName mX8_readCount.1.cls) = true := cwq_ok (by decide +kernel)
set_option maxRecDepth 100000 in
theorem ok_X8_readPersonStep : (tX8_readPersonStep).all (eok mth mX8_readPersonStep) = true := ewk0_ok (by decide +kernel)
theorem cw_X8_readPersonStep : (wdq 3 113 (.code mX8_readPersonStep.1 mX8_readPersonStep.2.1 mX8_readPersonStep.2.2.1 mX8_readPersonStep.2.2.2.1) && plainName mX8_readPersonStep.1.cls) = true := cwq_ok (by decide +kernel)
set_option maxRecDepth 100000 in
theorem ok_X8_readHouseStep : (tX8_readHouseStep).all (eok mth mX8_readHouseStep) = true := ewk0_ok (by decide +kernel)
theorem cw_X8_readHouseStep : (wdq 3 131 (.code mX8_readHouseStep.1 mX8_readHouseStep.2.1 mX8_readHouseStep.2.2.1 mX8_readHouseStep.2.2.2.1) && plainName mX8_readHouseStep.1.cls) = true := cwq_ok (by decide +kernel)
set_option maxRecDepth 100000 in
theorem ok_X8_readForgive : (tX8_readForgive).all (eok mth mX8_readForgive) = true := ewk0_ok (by decide +kernel)
theorem cw_X8_readForgive : (wdq 3 135 (.code mX8_readForgive.1 mX8_readForgive.2.1 mX8_readForgive.2.2.1 mX8_readForgive.2.2.2.1) && plainName mX8_readForgive.1.cls) = true := cwq_ok (by decide +kernel)
set_option maxRecDepth 100000 in
theorem ok_X8_readForge : (tX8_readForge).all (eok mth mX8_readForge) = true := ewk0_ok (by decide +kernel)
theorem cw_X8_readForge : (wdq 3 139 (.code mX8_readForge.1 mX8_readForge.2.1 mX8_readForge.2.2.1 mX8_readForge.2.2.2.1) && plainName mX8_readForge.1.cls) = true := cwq_ok (by decide +kernel)
set_option maxRecDepth 100000 in
theorem ok_X8_readTest : (tX8_readTest).all (eok mth mX8_readTest) = true := ewk0_ok (by decide +kernel)
theorem cw_X8_readTest : (wdq 3 99 (.code mX8_readTest.1 mX8_readTest.2.1 mX8_readTest.2.2.1 mX8_readTest.2.2.2.1) && plainName mX8_readTest.1.cls) = true := cwq_ok (by decide +kernel)
set_option maxRecDepth 100000 in
theorem ok_X8_readLabourTest : (tX8_readLabourTest).all (eok mth mX8_readLabourTest) = true := ewk0_ok (by decide +kernel)
theorem cw_X8_readLabourTest : (wdq 3 103 (.code mX8_readLabourTest.1 mX8_readLabourTest.2.1 mX8_readLabourTest.2.2.1 mX8_readLabourTest.2.2.2.1) && plainName mX8_readLabourTest.1.cls) = true := cwq_ok (by decide +kernel)
set_option maxRecDepth 100000 in
theorem ok_X8_readAtTest : (tX8_readAtTest).all (eok mth mX8_readAtTest) = true := ewk0_ok (by decide +kernel)
theorem cw_X8_readAtTest : (wdq 3 118 (.code mX8_readAtTest.1 mX8_readAtTest.2.1 mX8_readAtTest.2.2.1 mX8_readAtTest.2.2.2.1) && plainName mX8_readAtTest.1.cls) = true := cwq_ok (by decide +kernel)
set_option maxRecDepth 100000 in
theorem ok_X9_init : (tX9_init).all (eok mth mX9_init) = true := ewk0_ok (by decide +kernel)
theorem cw_X9_init : (wdq 0 36 (.code mX9_init.1 mX9_init.2.1 mX9_init.2.2.1 mX9_init.2.2.2.1) && plainName mX9_init.1.cls) = true := cwq_ok (by decide +kernel)
set_option maxRecDepth 100000 in
theorem ok_X9_put : (tX9_put).all (eok mth mX9_put) = true := ewk0_ok (by decide +kernel)
theorem cw_X9_put : (wdq 2 99 (.code mX9_put.1 mX9_put.2.1 mX9_put.2.2.1 mX9_put.2.2.2.1) && plainName mX9_put.1.cls) = true := cwq_ok (by decide +kernel)
set_option maxRecDepth 100000 in
theorem ok_X9_begin : (tX9_begin).all (eok mth mX9_begin) = true := ewk0_ok (by decide +kernel)
theorem cw_X9_begin : (wdq 2 128 (.code mX9_begin.1 mX9_begin.2.1 mX9_begin.2.2.1 mX9_begin.2.2.2.1) && plainName mX9_begin.1.cls) = true := cwq_ok (by decide +kernel)
set_option maxRecDepth 100000 in
theorem ok_X9_advance : (tX9_advance).all (eok mth mX9_advance) = true := ewk0_ok (by decide +kernel)
theorem cw_X9_advance : (wdq 2 135 (.code mX9_advance.1 mX9_advance.2.1 mX9_advance.2.2.1 mX9_advance.2.2.2.1) && plainName mX9_advance.1.cls) = true := cwq_ok (by decide +kernel)
set_option maxRecDepth 100000 in
theorem ok_X9_scanWord : (tX9_scanWord).all (eok mth mX9_scanWord) = true := ewk0_ok (by decide +kernel)
theorem cw_X9_scanWord : (wdq 2 145 (.code mX9_scanWord.1 mX9_scanWord.2.1 mX9_scanWord.2.2.1 mX9_scanWord.2.2.2.1) && plainName mX9_scanWord.1.cls) = true := cwq_ok (by decide +kernel)
set_option maxRecDepth 100000 in
theorem ok_X9_scanNumber : (tX9_scanNumber).all (eok mth mX9_scanNumber) = true := ewk0_ok (by decide +kernel)
theorem cw_X9_scanNumber : (wdq 2 152 (.code mX9_scanNumber.1 mX9_scanNumber.2.1 mX9_scanNumber.2.2.1 mX9_scanNumber.2.2.2.1) && plainName mX9_scanNumber.1.cls) = true := cwq_ok (by decide +kernel)
set_option maxRecDepth 100000 in
theorem ok_X9_isBlank : (tX9_isBlank).all (eok mth mX9_isBlank) = true := ewk0_ok (by decide +kernel)
theorem cw_X9_isBlank : (wdq 2 138 (.code mX9_isBlank.1 mX9_isBlank.2.1 mX9_isBlank.2.2.1 mX9_isBlank.2.2.2.1) && plainName mX9_isBlank.1.cls) = true := cwq_ok (by decide +kernel)
set_option maxRecDepth 100000 in
theorem ok_X9_isLetter : (tX9_isLetter).all (eok mth mX9_isLetter) = true := ewk0_ok (by decide +kernel)
theorem cw_X9_isLetter : (wdq 2 141 (.code mX9_isLetter.1 mX9_isLetter.2.1 mX9_isLetter.2.2.1 mX9_isLetter.2.2.2.1) && plainName mX9_isLetter.1.cls) = true := cwq_ok (by decide +kernel)
