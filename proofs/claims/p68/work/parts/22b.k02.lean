set_option maxRecDepth 100000 in
theorem ok_X12_pour : (tX12_pour).all (eok mth mX12_pour) = true := ewk0_ok (by decide +kernel)
theorem cw_X12_pour : (wdq 6 156 (.code mX12_pour.1 mX12_pour.2.1 mX12_pour.2.2.1 mX12_pour.2.2.2.1) && plainName mX12_pour.1.cls) = true := cwq_ok (by decide +kernel)
set_option maxRecDepth 100000 in
theorem ok_X12_isFrom : (tX12_isFrom).all (eok mth mX12_isFrom) = true := ewk0_ok (by decide +kernel)
theorem cw_X12_isFrom : (wdq 7 172 (.code mX12_isFrom.1 mX12_isFrom.2.1 mX12_isFrom.2.2.1 mX12_isFrom.2.2.2.1) && plainName mX12_isFrom.1.cls) = true := cwq_ok (by decide +kernel)
set_option maxRecDepth 100000 in
theorem ok_X12_feed : (tX12_feed).all (eok mth mX12_feed) = true := ewk0_ok (by decide +kernel)
theorem cw_X12_feed : (wdq 6 160 (.code mX12_feed.1 mX12_feed.2.1 mX12_feed.2.2.1 mX12_feed.2.2.2.1) && plainName mX12_feed.1.cls) = true := cwq_ok (by decide +kernel)
set_option maxRecDepth 100000 in
theorem ok_X12_four : (tX12_four).all (eok mth mX12_four) = true := ewk0_ok (by decide +kernel)
theorem cw_X12_four : (wdq 6 164 (.code mX12_four.1 mX12_four.2.1 mX12_four.2.2.1 mX12_four.2.2.2.1) && plainName mX12_four.1.cls) = true := cwq_ok (by decide +kernel)
set_option maxRecDepth 100000 in
theorem ok_X12_byteAt : (tX12_byteAt).all (eok mth mX12_byteAt) = true := ewk0_ok (by decide +kernel)
theorem cw_X12_byteAt : (wdq 6 184 (.code mX12_byteAt.1 mX12_byteAt.2.1 mX12_byteAt.2.2.1 mX12_byteAt.2.2.2.1) && plainName mX12_byteAt.1.cls) = true := cwq_ok (by decide +kernel)
set_option maxRecDepth 100000 in
theorem ok_X12_isSmall : (tX12_isSmall).all (eok mth mX12_isSmall) = true := ewk0_ok (by decide +kernel)
theorem cw_X12_isSmall : (wdq 6 187 (.code mX12_isSmall.1 mX12_isSmall.2.1 mX12_isSmall.2.2.1 mX12_isSmall.2.2.2.1) && plainName mX12_isSmall.1.cls) = true := cwq_ok (by decide +kernel)
set_option maxRecDepth 100000 in
theorem ok_X12_isDigit : (tX12_isDigit).all (eok mth mX12_isDigit) = true := ewk0_ok (by decide +kernel)
theorem cw_X12_isDigit : (wdq 6 190 (.code mX12_isDigit.1 mX12_isDigit.2.1 mX12_isDigit.2.2.1 mX12_isDigit.2.2.2.1) && plainName mX12_isDigit.1.cls) = true := cwq_ok (by decide +kernel)
set_option maxRecDepth 100000 in
theorem ok_X12_ahead : (tX12_ahead).all (eok mth mX12_ahead) = true := ewk0_ok (by decide +kernel)
theorem cw_X12_ahead : (wdq 6 180 (.code mX12_ahead.1 mX12_ahead.2.1 mX12_ahead.2.2.1 mX12_ahead.2.2.2.1) && plainName mX12_ahead.1.cls) = true := cwq_ok (by decide +kernel)
set_option maxRecDepth 100000 in
theorem ok_X12_isSign : (tX12_isSign).all (eok mth mX12_isSign) = true := ewk0_ok (by decide +kernel)
theorem cw_X12_isSign : (wdq 7 35 (.code mX12_isSign.1 mX12_isSign.2.1 mX12_isSign.2.2.1 mX12_isSign.2.2.2.1) && plainName mX12_isSign.1.cls) = true := cwq_ok (by decide +kernel)
set_option maxRecDepth 100000 in
theorem ok_X12_inWords : (tX12_inWords).all (eok mth mX12_inWords) = true := ewk0_ok (by decide +kernel)
theorem cw_X12_inWords : (wdq 6 205 (.code mX12_inWords.1 mX12_inWords.2.1 mX12_inWords.2.2.1 mX12_inWords.2.2.2.1) && plainName mX12_inWords.1.cls) = true := cwq_ok (by decide +kernel)
set_option maxRecDepth 100000 in
theorem ok_X12_fails : (tX12_fails).all (eok mth mX12_fails) = true := ewk0_ok (by decide +kernel)
theorem cw_X12_fails : (wdq 6 219 (.code mX12_fails.1 mX12_fails.2.1 mX12_fails.2.2.1 mX12_fails.2.2.2.1) && plainName mX12_fails.1.cls) = true := cwq_ok (by decide +kernel)
set_option maxRecDepth 100000 in
theorem ok_X12_begins : (tX12_begins).all (eok mth mX12_begins) = true := ewk0_ok (by decide +kernel)
theorem cw_X12_begins : (wdq 6 176 (.code mX12_begins.1 mX12_begins.2.1 mX12_begins.2.2.1 mX12_begins.2.2.2.1) && plainName mX12_begins.1.cls) = true := cwq_ok (by decide +kernel)
set_option maxRecDepth 100000 in
theorem ok_X12_wantSign : (tX12_wantSign).all (eok mth mX12_wantSign) = true := ewk0_ok (by decide +kernel)
theorem cw_X12_wantSign : (wdq 7 31 (.code mX12_wantSign.1 mX12_wantSign.2.1 mX12_wantSign.2.2.1 mX12_wantSign.2.2.2.1) && plainName mX12_wantSign.1.cls) = true := cwq_ok (by decide +kernel)
set_option maxRecDepth 100000 in
theorem ok_X12_wantWord : (tX12_wantWord).all (eok mth mX12_wantWord) = true := ewk0_ok (by decide +kernel)
theorem cw_X12_wantWord : (wdq 7 15 (.code mX12_wantWord.1 mX12_wantWord.2.1 mX12_wantWord.2.2.1 mX12_wantWord.2.2.2.1) && plainName mX12_wantWord.1.cls) = true := cwq_ok (by decide +kernel)
set_option maxRecDepth 100000 in
theorem ok_X12_number : (tX12_number).all (eok mth mX12_number) = true := ewk0_ok (by decide +kernel)
theorem cw_X12_number : (wdq 7 23 (.code mX12_number.1 mX12_number.2.1 mX12_number.2.2.1 mX12_number.2.2.2.1) && plainName mX12_number.1.cls) = true := cwq_ok (by decide +kernel)
set_option maxRecDepth 100000 in
theorem ok_X12_isName : (tX12_isName).all (eok mth mX12_isName) = true := ewk0_ok (by decide +kernel)
theorem cw_X12_isName : (wdq 6 223 (.code mX12_isName.1 mX12_isName.2.1 mX12_isName.2.2.1 mX12_isName.2.2.2.1) && plainName mX12_isName.1.cls) = true := cwq_ok (by decide +kernel)
set_option maxRecDepth 100000 in
theorem ok_X12_nameHere : (tX12_nameHere).all (eok mth mX12_nameHere) = true := ewk0_ok (by decide +kernel)
theorem cw_X12_nameHere : (wdq 6 231 (.code mX12_nameHere.1 mX12_nameHere.2.1 mX12_nameHere.2.2.1 mX12_nameHere.2.2.2.1) && plainName mX12_nameHere.1.cls) = true := cwq_ok (by decide +kernel)
set_option maxRecDepth 100000 in
theorem ok_X12_findHere : (tX12_findHere).all (eok mth mX12_findHere) = true := ewk0_ok (by decide +kernel)
theorem cw_X12_findHere : (wdq 6 227 (.code mX12_findHere.1 mX12_findHere.2.1 mX12_findHere.2.2.1 mX12_findHere.2.2.2.1) && plainName mX12_findHere.1.cls) = true := cwq_ok (by decide +kernel)
set_option maxRecDepth 100000 in
theorem ok_X12_fault : (tX12_fault).all (eok mth mX12_fault) = true := ewk0_ok (by decide +kernel)
theorem cw_X12_fault : (wdq 6 168 (.code mX12_fault.1 mX12_fault.2.1 mX12_fault.2.2.1 mX12_fault.2.2.2.1) && plainName mX12_fault.1.cls) = true := cwq_ok (by decide +kernel)
set_option maxRecDepth 100000 in
theorem ok_X12_taken : (tX12_taken).all (eok mth mX12_taken) = true := ewk0_ok (by decide +kernel)
theorem cw_X12_taken : (wdq 7 39 (.code mX12_taken.1 mX12_taken.2.1 mX12_taken.2.2.1 mX12_taken.2.2.2.1) && plainName mX12_taken.1.cls) = true := cwq_ok (by decide +kernel)
set_option maxRecDepth 100000 in
theorem ok_X12_isThere : (tX12_isThere).all (eok mth mX12_isThere) = true := ewk0_ok (by decide +kernel)
theorem cw_X12_isThere : (wdq 6 235 (.code mX12_isThere.1 mX12_isThere.2.1 mX12_isThere.2.2.1 mX12_isThere.2.2.2.1) && plainName mX12_isThere.1.cls) = true := cwq_ok (by decide +kernel)
set_option maxRecDepth 100000 in
theorem ok_X12_newOne : (tX12_newOne).all (eok mth mX12_newOne) = true := ewk0_ok (by decide +kernel)
theorem cw_X12_newOne : (wdq 6 215 (.code mX12_newOne.1 mX12_newOne.2.1 mX12_newOne.2.2.1 mX12_newOne.2.2.2.1) && plainName mX12_newOne.1.cls) = true := cwq_ok (by decide +kernel)
set_option maxRecDepth 100000 in
theorem ok_X12_oldOne : (tX12_oldOne).all (eok mth mX12_oldOne) = true := ewk0_ok (by decide +kernel)
theorem cw_X12_oldOne : (wdq 7 7 (.code mX12_oldOne.1 mX12_oldOne.2.1 mX12_oldOne.2.2.1 mX12_oldOne.2.2.2.1) && plainName mX12_oldOne.1.cls) = true := cwq_ok (by decide +kernel)
set_option maxRecDepth 100000 in
theorem ok_X12_aHouse : (tX12_aHouse).all (eok mth mX12_aHouse) = true := ewk0_ok (by decide +kernel)
theorem cw_X12_aHouse : (wdq 6 211 (.code mX12_aHouse.1 mX12_aHouse.2.1 mX12_aHouse.2.2.1 mX12_aHouse.2.2.2.1) && plainName mX12_aHouse.1.cls) = true := cwq_ok (by decide +kernel)
set_option maxRecDepth 100000 in
theorem ok_X12_twoTo : (tX12_twoTo).all (eok mth mX12_twoTo) = true := ewk0_ok (by decide +kernel)
theorem cw_X12_twoTo : (wdq 7 3 (.code mX12_twoTo.1 mX12_twoTo.2.1 mX12_twoTo.2.2.1 mX12_twoTo.2.2.2.1) && plainName mX12_twoTo.1.cls) = true := cwq_ok (by decide +kernel)
set_option maxRecDepth 100000 in
theorem ok_X12_aDoor : (tX12_aDoor).all (eok mth mX12_aDoor) = true := ewk0_ok (by decide +kernel)
theorem cw_X12_aDoor : (wdq 6 239 (.code mX12_aDoor.1 mX12_aDoor.2.1 mX12_aDoor.2.2.1 mX12_aDoor.2.2.2.1) && plainName mX12_aDoor.1.cls) = true := cwq_ok (by decide +kernel)
set_option maxRecDepth 100000 in
theorem ok_X12_aPerson : (tX12_aPerson).all (eok mth mX12_aPerson) = true := ewk0_ok (by decide +kernel)
theorem cw_X12_aPerson : (wdq 7 11 (.code mX12_aPerson.1 mX12_aPerson.2.1 mX12_aPerson.2.2.1 mX12_aPerson.2.2.2.1) && plainName mX12_aPerson.1.cls) = true := cwq_ok (by decide +kernel)
set_option maxRecDepth 100000 in
theorem ok_X12_aDebt : (tX12_aDebt).all (eok mth mX12_aDebt) = true := ewk0_ok (by decide +kernel)
theorem cw_X12_aDebt : (wdq 7 19 (.code mX12_aDebt.1 mX12_aDebt.2.1 mX12_aDebt.2.2.1 mX12_aDebt.2.2.2.1) && plainName mX12_aDebt.1.cls) = true := cwq_ok (by decide +kernel)
set_option maxRecDepth 100000 in
theorem ok_X12_anHeir : (tX12_anHeir).all (eok mth mX12_anHeir) = true := ewk0_ok (by decide +kernel)
theorem cw_X12_anHeir : (wdq 7 27 (.code mX12_anHeir.1 mX12_anHeir.2.1 mX12_anHeir.2.2.1 mX12_anHeir.2.2.2.1) && plainName mX12_anHeir.1.cls) = true := cwq_ok (by decide +kernel)
set_option maxRecDepth 100000 in
theorem ok_X12_landPart : (tX12_landPart).all (eok mth mX12_landPart) = true := ewk0_ok (by decide +kernel)
theorem cw_X12_landPart : (wdq 6 200 (.code mX12_landPart.1 mX12_landPart.2.1 mX12_landPart.2.2.1 mX12_landPart.2.2.2.1) && plainName mX12_landPart.1.cls) = true := cwq_ok (by decide +kernel)
set_option maxRecDepth 100000 in
theorem ok_X12_land : (tX12_land).all (eok mth mX12_land) = true := ewk0_ok (by decide +kernel)
theorem cw_X12_land : (wdq 6 172 (.code mX12_land.1 mX12_land.2.1 mX12_land.2.2.1 mX12_land.2.2.2.1) && plainName mX12_land.1.cls) = true := cwq_ok (by decide +kernel)
set_option maxRecDepth 100000 in
theorem ok_X12_houseTo : (tX12_houseTo).all (eok mth mX12_houseTo) = true := ewk0_ok (by decide +kernel)
theorem cw_X12_houseTo : (wdq 7 63 (.code mX12_houseTo.1 mX12_houseTo.2.1 mX12_houseTo.2.2.1 mX12_houseTo.2.2.2.1) && plainName mX12_houseTo.1.cls) = true := cwq_ok (by decide +kernel)
set_option maxRecDepth 100000 in
theorem ok_X12_personTo : (tX12_personTo).all (eok mth mX12_personTo) = true := ewk0_ok (by decide +kernel)
theorem cw_X12_personTo : (wdq 7 59 (.code mX12_personTo.1 mX12_personTo.2.1 mX12_personTo.2.2.1 mX12_personTo.2.2.2.1) && plainName mX12_personTo.1.cls) = true := cwq_ok (by decide +kernel)
set_option maxRecDepth 100000 in
theorem ok_X12_test : (tX12_test).all (eok mth mX12_test) = true := ewk0_ok (by decide +kernel)
theorem cw_X12_test : (wdq 7 67 (.code mX12_test.1 mX12_test.2.1 mX12_test.2.2.1 mX12_test.2.2.2.1) && plainName mX12_test.1.cls) = true := cwq_ok (by decide +kernel)
set_option maxRecDepth 100000 in
theorem ok_X12_taleOrder : (tX12_taleOrder).all (eok mth mX12_taleOrder) = true := ewk0_ok (by decide +kernel)
theorem cw_X12_taleOrder : (wdq 7 55 (.code mX12_taleOrder.1 mX12_taleOrder.2.1 mX12_taleOrder.2.2.1 mX12_taleOrder.2.2.2.1) && plainName mX12_taleOrder.1.cls) = true := cwq_ok (by decide +kernel)
set_option maxRecDepth 100000 in
theorem ok_X12_taleStep : (tX12_taleStep).all (eok mth mX12_taleStep) = true := ewk0_ok (by decide +kernel)
theorem cw_X12_taleStep : (wdq 7 51 (.code mX12_taleStep.1 mX12_taleStep.2.1 mX12_taleStep.2.2.1 mX12_taleStep.2.2.2.1) && plainName mX12_taleStep.1.cls) = true := cwq_ok (by decide +kernel)
set_option maxRecDepth 100000 in
theorem ok_X12_tales : (tX12_tales).all (eok mth mX12_tales) = true := ewk0_ok (by decide +kernel)
theorem cw_X12_tales : (wdq 7 47 (.code mX12_tales.1 mX12_tales.2.1 mX12_tales.2.2.1 mX12_tales.2.2.2.1) && plainName mX12_tales.1.cls) = true := cwq_ok (by decide +kernel)
set_option maxRecDepth 100000 in
theorem ok_X12_houseRow : (tX12_houseRow).all (eok mth mX12_houseRow) = true := ewk0_ok (by decide +kernel)
theorem cw_X12_houseRow : (wdq 7 74 (.code mX12_houseRow.1 mX12_houseRow.2.1 mX12_houseRow.2.2.1 mX12_houseRow.2.2.2.1) && plainName mX12_houseRow.1.cls) = true := cwq_ok (by decide +kernel)
set_option maxRecDepth 100000 in
theorem ok_X12_personRow : (tX12_personRow).all (eok mth mX12_personRow) = true := ewk0_ok (by decide +kernel)
theorem cw_X12_personRow : (wdq 7 104 (.code mX12_personRow.1 mX12_personRow.2.1 mX12_personRow.2.2.1 mX12_personRow.2.2.2.1) && plainName mX12_personRow.1.cls) = true := cwq_ok (by decide +kernel)
set_option maxRecDepth 100000 in
theorem ok_X12_isHouse : (tX12_isHouse).all (eok mth mX12_isHouse) = true := ewk0_ok (by decide +kernel)
theorem cw_X12_isHouse : (wdq 7 140 (.code mX12_isHouse.1 mX12_isHouse.2.1 mX12_isHouse.2.2.1 mX12_isHouse.2.2.2.1) && plainName mX12_isHouse.1.cls) = true := cwq_ok (by decide +kernel)
set_option maxRecDepth 100000 in
theorem ok_X12_isPerson : (tX12_isPerson).all (eok mth mX12_isPerson) = true := ewk0_ok (by decide +kernel)
theorem cw_X12_isPerson : (wdq 7 116 (.code mX12_isPerson.1 mX12_isPerson.2.1 mX12_isPerson.2.2.1 mX12_isPerson.2.2.2.1) && plainName mX12_isPerson.1.cls) = true := cwq_ok (by decide +kernel)
set_option maxRecDepth 100000 in
theorem ok_X12_areTwo : (tX12_areTwo).all (eok mth mX12_areTwo) = true := ewk0_ok (by decide +kernel)
theorem cw_X12_areTwo : (wdq 7 128 (.code mX12_areTwo.1 mX12_areTwo.2.1 mX12_areTwo.2.2.1 mX12_areTwo.2.2.2.1) && plainName mX12_areTwo.1.cls) = true := cwq_ok (by decide +kernel)
set_option maxRecDepth 100000 in
theorem ok_X12_isIn : (tX12_isIn).all (eok mth mX12_isIn) = true := ewk0_ok (by decide +kernel)
theorem cw_X12_isIn : (wdq 7 148 (.code mX12_isIn.1 mX12_isIn.2.1 mX12_isIn.2.2.1 mX12_isIn.2.2.2.1) && plainName mX12_isIn.1.cls) = true := cwq_ok (by decide +kernel)
set_option maxRecDepth 100000 in
theorem ok_X12_bits : (tX12_bits).all (eok mth mX12_bits) = true := ewk0_ok (by decide +kernel)
theorem cw_X12_bits : (wdq 7 77 (.code mX12_bits.1 mX12_bits.2.1 mX12_bits.2.2.1 mX12_bits.2.2.2.1) && plainName mX12_bits.1.cls) = true := cwq_ok (by decide +kernel)
set_option maxRecDepth 100000 in
theorem ok_X12_isSalt : (tX12_isSalt).all (eok mth mX12_isSalt) = true := ewk0_ok (by decide +kernel)
theorem cw_X12_isSalt : (wdq 7 93 (.code mX12_isSalt.1 mX12_isSalt.2.1 mX12_isSalt.2.2.1 mX12_isSalt.2.2.2.1) && plainName mX12_isSalt.1.cls) = true := cwq_ok (by decide +kernel)
set_option maxRecDepth 100000 in
theorem ok_X12_isDead : (tX12_isDead).all (eok mth mX12_isDead) = true := ewk0_ok (by decide +kernel)
theorem cw_X12_isDead : (wdq 7 101 (.code mX12_isDead.1 mX12_isDead.2.1 mX12_isDead.2.2.1 mX12_isDead.2.2.2.1) && plainName mX12_isDead.1.cls) = true := cwq_ok (by decide +kernel)
set_option maxRecDepth 100000 in
theorem ok_X12_whereOf : (tX12_whereOf).all (eok mth mX12_whereOf) = true := ewk0_ok (by decide +kernel)
theorem cw_X12_whereOf : (wdq 7 164 (.code mX12_whereOf.1 mX12_whereOf.2.1 mX12_whereOf.2.2.1 mX12_whereOf.2.2.2.1) && plainName mX12_whereOf.1.cls) = true := cwq_ok (by decide +kernel)
set_option maxRecDepth 100000 in
theorem ok_X12_owes : (tX12_owes).all (eok mth mX12_owes) = true := ewk0_ok (by decide +kernel)
theorem cw_X12_owes : (wdq 7 89 (.code mX12_owes.1 mX12_owes.2.1 mX12_owes.2.2.1 mX12_owes.2.2.2.1) && plainName mX12_owes.1.cls) = true := cwq_ok (by decide +kernel)
set_option maxRecDepth 100000 in
theorem ok_X12_owesNow : (tX12_owesNow).all (eok mth mX12_owesNow) = true := ewk0_ok (by decide +kernel)
theorem cw_X12_owesNow : (wdq 7 193 (.code mX12_owesNow.1 mX12_owesNow.2.1 mX12_owesNow.2.2.1 mX12_owesNow.2.2.2.1) && plainName mX12_owesNow.1.cls) = true := cwq_ok (by decide +kernel)
set_option maxRecDepth 100000 in
theorem ok_X12_owesAll : (tX12_owesAll).all (eok mth mX12_owesAll) = true := ewk0_ok (by decide +kernel)
theorem cw_X12_owesAll : (wdq 7 85 (.code mX12_owesAll.1 mX12_owesAll.2.1 mX12_owesAll.2.2.1 mX12_owesAll.2.2.2.1) && plainName mX12_owesAll.1.cls) = true := cwq_ok (by decide +kernel)
set_option maxRecDepth 100000 in
theorem ok_X12_owedAll : (tX12_owedAll).all (eok mth mX12_owedAll) = true := ewk0_ok (by decide +kernel)
theorem cw_X12_owedAll : (wdq 7 120 (.code mX12_owedAll.1 mX12_owedAll.2.1 mX12_owedAll.2.2.1 mX12_owedAll.2.2.2.1) && plainName mX12_owedAll.1.cls) = true := cwq_ok (by decide +kernel)
set_option maxRecDepth 100000 in
theorem ok_X12_sorrow : (tX12_sorrow).all (eok mth mX12_sorrow) = true := ewk0_ok (by decide +kernel)
theorem cw_X12_sorrow : (wdq 7 81 (.code mX12_sorrow.1 mX12_sorrow.2.1 mX12_sorrow.2.2.1 mX12_sorrow.2.2.2.1) && plainName mX12_sorrow.1.cls) = true := cwq_ok (by decide +kernel)
set_option maxRecDepth 100000 in
theorem ok_X12_isGhost : (tX12_isGhost).all (eok mth mX12_isGhost) = true := ewk0_ok (by decide +kernel)
theorem cw_X12_isGhost : (wdq 7 108 (.code mX12_isGhost.1 mX12_isGhost.2.1 mX12_isGhost.2.2.1 mX12_isGhost.2.2.2.1) && plainName mX12_isGhost.1.cls) = true := cwq_ok (by decide +kernel)
set_option maxRecDepth 100000 in
theorem ok_X12_setOf : (tX12_setOf).all (eok mth mX12_setOf) = true := ewk0_ok (by decide +kernel)
theorem cw_X12_setOf : (wdq 7 97 (.code mX12_setOf.1 mX12_setOf.2.1 mX12_setOf.2.2.1 mX12_setOf.2.2.2.1) && plainName mX12_setOf.1.cls) = true := cwq_ok (by decide +kernel)
set_option maxRecDepth 100000 in
theorem ok_X12_told : (tX12_told).all (eok mth mX12_told) = true := ewk0_ok (by decide +kernel)
theorem cw_X12_told : (wdq 7 71 (.code mX12_told.1 mX12_told.2.1 mX12_told.2.2.1 mX12_told.2.2.2.1) && plainName mX12_told.1.cls) = true := cwq_ok (by decide +kernel)
set_option maxRecDepth 100000 in
theorem ok_X12_person : (tX12_person).all (eok mth mX12_person) = true := ewk0_ok (by decide +kernel)
theorem cw_X12_person : (wdq 7 112 (.code mX12_person.1 mX12_person.2.1 mX12_person.2.2.1 mX12_person.2.2.2.1) && plainName mX12_person.1.cls) = true := cwq_ok (by decide +kernel)
set_option maxRecDepth 100000 in
theorem ok_X12_owed : (tX12_owed).all (eok mth mX12_owed) = true := ewk0_ok (by decide +kernel)
theorem cw_X12_owed : (wdq 7 124 (.code mX12_owed.1 mX12_owed.2.1 mX12_owed.2.2.1 mX12_owed.2.2.2.1) && plainName mX12_owed.1.cls) = true := cwq_ok (by decide +kernel)
set_option maxRecDepth 100000 in
theorem ok_X12_heir : (tX12_heir).all (eok mth mX12_heir) = true := ewk0_ok (by decide +kernel)
theorem cw_X12_heir : (wdq 7 132 (.code mX12_heir.1 mX12_heir.2.1 mX12_heir.2.2.1 mX12_heir.2.2.2.1) && plainName mX12_heir.1.cls) = true := cwq_ok (by decide +kernel)
set_option maxRecDepth 100000 in
theorem ok_X12_isDoor : (tX12_isDoor).all (eok mth mX12_isDoor) = true := ewk0_ok (by decide +kernel)
theorem cw_X12_isDoor : (wdq 7 144 (.code mX12_isDoor.1 mX12_isDoor.2.1 mX12_isDoor.2.2.1 mX12_isDoor.2.2.2.1) && plainName mX12_isDoor.1.cls) = true := cwq_ok (by decide +kernel)
set_option maxRecDepth 100000 in
theorem ok_X12_door : (tX12_door).all (eok mth mX12_door) = true := ewk0_ok (by decide +kernel)
theorem cw_X12_door : (wdq 7 136 (.code mX12_door.1 mX12_door.2.1 mX12_door.2.2.1 mX12_door.2.2.2.1) && plainName mX12_door.1.cls) = true := cwq_ok (by decide +kernel)
set_option maxRecDepth 100000 in
theorem ok_X12_labour : (tX12_labour).all (eok mth mX12_labour) = true := ewk0_ok (by decide +kernel)
theorem cw_X12_labour : (wdq 7 152 (.code mX12_labour.1 mX12_labour.2.1 mX12_labour.2.2.1 mX12_labour.2.2.2.1) && plainName mX12_labour.1.cls) = true := cwq_ok (by decide +kernel)
set_option maxRecDepth 100000 in
theorem ok_X12_inHouse : (tX12_inHouse).all (eok mth mX12_inHouse) = true := ewk0_ok (by decide +kernel)
theorem cw_X12_inHouse : (wdq 7 160 (.code mX12_inHouse.1 mX12_inHouse.2.1 mX12_inHouse.2.2.1 mX12_inHouse.2.2.2.1) && plainName mX12_inHouse.1.cls) = true := cwq_ok (by decide +kernel)
set_option maxRecDepth 100000 in
theorem ok_X12_within : (tX12_within).all (eok mth mX12_within) = true := ewk0_ok (by decide +kernel)
theorem cw_X12_within : (wdq 7 156 (.code mX12_within.1 mX12_within.2.1 mX12_within.2.2.1 mX12_within.2.2.2.1) && plainName mX12_within.1.cls) = true := cwq_ok (by decide +kernel)
set_option maxRecDepth 100000 in
theorem ok_X12_laysWays : (tX12_laysWays).all (eok mth mX12_laysWays) = true := ewk0_ok (by decide +kernel)
theorem cw_X12_laysWays : (wdq 7 184 (.code mX12_laysWays.1 mX12_laysWays.2.1 mX12_laysWays.2.2.1 mX12_laysWays.2.2.2.1) && plainName mX12_laysWays.1.cls) = true := cwq_ok (by decide +kernel)
set_option maxRecDepth 100000 in
theorem ok_X12_aimOf : (tX12_aimOf).all (eok mth mX12_aimOf) = true := ewk0_ok (by decide +kernel)
theorem cw_X12_aimOf : (wdq 7 180 (.code mX12_aimOf.1 mX12_aimOf.2.1 mX12_aimOf.2.2.1 mX12_aimOf.2.2.2.1) && plainName mX12_aimOf.1.cls) = true := cwq_ok (by decide +kernel)
set_option maxRecDepth 100000 in
theorem ok_X12_nextOn : (tX12_nextOn).all (eok mth mX12_nextOn) = true := ewk0_ok (by decide +kernel)
theorem cw_X12_nextOn : (wdq 7 197 (.code mX12_nextOn.1 mX12_nextOn.2.1 mX12_nextOn.2.2.1 mX12_nextOn.2.2.2.1) && plainName mX12_nextOn.1.cls) = true := cwq_ok (by decide +kernel)
set_option maxRecDepth 100000 in
theorem ok_X12_stepOf : (tX12_stepOf).all (eok mth mX12_stepOf) = true := ewk0_ok (by decide +kernel)
theorem cw_X12_stepOf : (wdq 8 33 (.code mX12_stepOf.1 mX12_stepOf.2.1 mX12_stepOf.2.2.1 mX12_stepOf.2.2.2.1) && plainName mX12_stepOf.1.cls) = true := cwq_ok (by decide +kernel)
set_option maxRecDepth 100000 in
theorem ok_X12_sorries : (tX12_sorries).all (eok mth mX12_sorries) = true := ewk0_ok (by decide +kernel)
theorem cw_X12_sorries : (wdq 7 189 (.code mX12_sorries.1 mX12_sorries.2.1 mX12_sorries.2.2.1 mX12_sorries.2.2.2.1) && plainName mX12_sorries.1.cls) = true := cwq_ok (by decide +kernel)
set_option maxRecDepth 100000 in
theorem ok_X12_night0 : (tX12_night0).all (eok mth mX12_night0) = true := ewk0_ok (by decide +kernel)
theorem cw_X12_night0 : (wdq 7 176 (.code mX12_night0.1 mX12_night0.2.1 mX12_night0.2.2.1 mX12_night0.2.2.2.1) && plainName mX12_night0.1.cls) = true := cwq_ok (by decide +kernel)
set_option maxRecDepth 100000 in
theorem ok_X12_night : (tX12_night).all (eok mth mX12_night) = true := ewk0_ok (by decide +kernel)
theorem cw_X12_night : (wdq 7 168 (.code mX12_night.1 mX12_night.2.1 mX12_night.2.2.1 mX12_night.2.2.2.1) && plainName mX12_night.1.cls) = true := cwq_ok (by decide +kernel)
set_option maxRecDepth 100000 in
theorem ok_X12_heirsBut : (tX12_heirsBut).all (eok mth mX12_heirsBut) = true := ewk0_ok (by decide +kernel)
theorem cw_X12_heirsBut : (wdq 7 217 (.code mX12_heirsBut.1 mX12_heirsBut.2.1 mX12_heirsBut.2.2.1 mX12_heirsBut.2.2.2.1) && plainName mX12_heirsBut.1.cls) = true := cwq_ok (by decide +kernel)
set_option maxRecDepth 100000 in
theorem ok_X12_isHeirOf : (tX12_isHeirOf).all (eok mth mX12_isHeirOf) = true := ewk0_ok (by decide +kernel)
theorem cw_X12_isHeirOf : (wdq 7 209 (.code mX12_isHeirOf.1 mX12_isHeirOf.2.1 mX12_isHeirOf.2.2.1 mX12_isHeirOf.2.2.2.1) && plainName mX12_isHeirOf.1.cls) = true := cwq_ok (by decide +kernel)
set_option maxRecDepth 100000 in
theorem ok_X12_partOf : (tX12_partOf).all (eok mth mX12_partOf) = true := ewk0_ok (by decide +kernel)
theorem cw_X12_partOf : (wdq 7 213 (.code mX12_partOf.1 mX12_partOf.2.1 mX12_partOf.2.2.1 mX12_partOf.2.2.2.1) && plainName mX12_partOf.1.cls) = true := cwq_ok (by decide +kernel)
set_option maxRecDepth 100000 in
theorem ok_X12_dies : (tX12_dies).all (eok mth mX12_dies) = true := ewk0_ok (by decide +kernel)
theorem cw_X12_dies : (wdq 7 205 (.code mX12_dies.1 mX12_dies.2.1 mX12_dies.2.2.1 mX12_dies.2.2.2.1) && plainName mX12_dies.1.cls) = true := cwq_ok (by decide +kernel)
set_option maxRecDepth 100000 in
theorem ok_X12_die : (tX12_die).all (eok mth mX12_die) = true := ewk0_ok (by decide +kernel)
theorem cw_X12_die : (wdq 7 201 (.code mX12_die.1 mX12_die.2.1 mX12_die.2.2.1 mX12_die.2.2.2.1) && plainName mX12_die.1.cls) = true := cwq_ok (by decide +kernel)
set_option maxRecDepth 100000 in
theorem ok_X12_forgives : (tX12_forgives).all (eok mth mX12_forgives) = true := ewk0_ok (by decide +kernel)
theorem cw_X12_forgives : (wdq 7 225 (.code mX12_forgives.1 mX12_forgives.2.1 mX12_forgives.2.2.1 mX12_forgives.2.2.2.1) && plainName mX12_forgives.1.cls) = true := cwq_ok (by decide +kernel)
set_option maxRecDepth 100000 in
theorem ok_X12_forgive : (tX12_forgive).all (eok mth mX12_forgive) = true := ewk0_ok (by decide +kernel)
theorem cw_X12_forgive : (wdq 7 221 (.code mX12_forgive.1 mX12_forgive.2.1 mX12_forgive.2.2.1 mX12_forgive.2.2.2.1) && plainName mX12_forgive.1.cls) = true := cwq_ok (by decide +kernel)
set_option maxRecDepth 100000 in
theorem ok_X12_forges : (tX12_forges).all (eok mth mX12_forges) = true := ewk0_ok (by decide +kernel)
theorem cw_X12_forges : (wdq 7 233 (.code mX12_forges.1 mX12_forges.2.1 mX12_forges.2.2.1 mX12_forges.2.2.2.1) && plainName mX12_forges.1.cls) = true := cwq_ok (by decide +kernel)
set_option maxRecDepth 100000 in
theorem ok_X12_forge : (tX12_forge).all (eok mth mX12_forge) = true := ewk0_ok (by decide +kernel)
theorem cw_X12_forge : (wdq 7 229 (.code mX12_forge.1 mX12_forge.2.1 mX12_forge.2.2.1 mX12_forge.2.2.2.1) && plainName mX12_forge.1.cls) = true := cwq_ok (by decide +kernel)
set_option maxRecDepth 100000 in
theorem ok_X12_turns : (tX12_turns).all (eok mth mX12_turns) = true := ewk0_ok (by decide +kernel)
theorem cw_X12_turns : (wdq 8 1 (.code mX12_turns.1 mX12_turns.2.1 mX12_turns.2.2.1 mX12_turns.2.2.2.1) && plainName mX12_turns.1.cls) = true := cwq_ok (by decide +kernel)
set_option maxRecDepth 100000 in
theorem ok_X12_salt : (tX12_salt).all (eok mth mX12_salt) = true := ewk0_ok (by decide +kernel)
theorem cw_X12_salt : (wdq 7 237 (.code mX12_salt.1 mX12_salt.2.1 mX12_salt.2.2.1 mX12_salt.2.2.2.1) && plainName mX12_salt.1.cls) = true := cwq_ok (by decide +kernel)
set_option maxRecDepth 100000 in
theorem ok_X12_keep : (tX12_keep).all (eok mth mX12_keep) = true := ewk0_ok (by decide +kernel)
theorem cw_X12_keep : (wdq 8 5 (.code mX12_keep.1 mX12_keep.2.1 mX12_keep.2.2.1 mX12_keep.2.2.2.1) && plainName mX12_keep.1.cls) = true := cwq_ok (by decide +kernel)
set_option maxRecDepth 100000 in
theorem ok_X12_wall : (tX12_wall).all (eok mth mX12_wall) = true := ewk0_ok (by decide +kernel)
theorem cw_X12_wall : (wdq 8 9 (.code mX12_wall.1 mX12_wall.2.1 mX12_wall.2.2.1 mX12_wall.2.2.2.1) && plainName mX12_wall.1.cls) = true := cwq_ok (by decide +kernel)
set_option maxRecDepth 100000 in
theorem ok_X12_move : (tX12_move).all (eok mth mX12_move) = true := ewk0_ok (by decide +kernel)
theorem cw_X12_move : (wdq 8 13 (.code mX12_move.1 mX12_move.2.1 mX12_move.2.2.1 mX12_move.2.2.2.1) && plainName mX12_move.1.cls) = true := cwq_ok (by decide +kernel)
set_option maxRecDepth 100000 in
theorem ok_X12_way : (tX12_way).all (eok mth mX12_way) = true := ewk0_ok (by decide +kernel)
theorem cw_X12_way : (wdq 8 17 (.code mX12_way.1 mX12_way.2.1 mX12_way.2.2.1 mX12_way.2.2.2.1) && plainName mX12_way.1.cls) = true := cwq_ok (by decide +kernel)
set_option maxRecDepth 100000 in
theorem ok_X12_aim : (tX12_aim).all (eok mth mX12_aim) = true := ewk0_ok (by decide +kernel)
theorem cw_X12_aim : (wdq 8 21 (.code mX12_aim.1 mX12_aim.2.1 mX12_aim.2.2.1 mX12_aim.2.2.2.1) && plainName mX12_aim.1.cls) = true := cwq_ok (by decide +kernel)
set_option maxRecDepth 100000 in
theorem ok_X12_step : (tX12_step).all (eok mth mX12_step) = true := ewk0_ok (by decide +kernel)
theorem cw_X12_step : (wdq 8 29 (.code mX12_step.1 mX12_step.2.1 mX12_step.2.2.1 mX12_step.2.2.2.1) && plainName mX12_step.1.cls) = true := cwq_ok (by decide +kernel)
set_option maxRecDepth 100000 in
theorem ok_X12_keeps : (tX12_keeps).all (eok mth mX12_keeps) = true := ewk0_ok (by decide +kernel)
theorem cw_X12_keeps : (wdq 8 46 (.code mX12_keeps.1 mX12_keeps.2.1 mX12_keeps.2.2.1 mX12_keeps.2.2.2.1) && plainName mX12_keeps.1.cls) = true := cwq_ok (by decide +kernel)
set_option maxRecDepth 100000 in
theorem ok_X12_restores : (tX12_restores).all (eok mth mX12_restores) = true := ewk0_ok (by decide +kernel)
theorem cw_X12_restores : (wdq 8 54 (.code mX12_restores.1 mX12_restores.2.1 mX12_restores.2.2.1 mX12_restores.2.2.2.1) && plainName mX12_restores.1.cls) = true := cwq_ok (by decide +kernel)
set_option maxRecDepth 100000 in
theorem ok_X12_nights : (tX12_nights).all (eok mth mX12_nights) = true := ewk0_ok (by decide +kernel)
theorem cw_X12_nights : (wdq 8 50 (.code mX12_nights.1 mX12_nights.2.1 mX12_nights.2.2.1 mX12_nights.2.2.2.1) && plainName mX12_nights.1.cls) = true := cwq_ok (by decide +kernel)
set_option maxRecDepth 100000 in
theorem ok_X12_isLater : (tX12_isLater).all (eok mth mX12_isLater) = true := ewk0_ok (by decide +kernel)
theorem cw_X12_isLater : (wdq 8 41 (.code mX12_isLater.1 mX12_isLater.2.1 mX12_isLater.2.2.1 mX12_isLater.2.2.2.1) && plainName mX12_isLater.1.cls) = true := cwq_ok (by decide +kernel)
set_option maxRecDepth 100000 in
theorem ok_X12_walks : (tX12_walks).all (eok mth mX12_walks) = true := ewk0_ok (by decide +kernel)
theorem cw_X12_walks : (wdq 8 37 (.code mX12_walks.1 mX12_walks.2.1 mX12_walks.2.2.1 mX12_walks.2.2.2.1) && plainName mX12_walks.1.cls) = true := cwq_ok (by decide +kernel)
set_option maxRecDepth 100000 in
theorem ok_X12_later : (tX12_later).all (eok mth mX12_later) = true := ewk0_ok (by decide +kernel)
theorem cw_X12_later : (wdq 8 58 (.code mX12_later.1 mX12_later.2.1 mX12_later.2.2.1 mX12_later.2.2.2.1) && plainName mX12_later.1.cls) = true := cwq_ok (by decide +kernel)
set_option maxRecDepth 100000 in
theorem ok_X12_isSo : (tX12_isSo).all (eok mth mX12_isSo) = true := ewk0_ok (by decide +kernel)
theorem cw_X12_isSo : (wdq 8 70 (.code mX12_isSo.1 mX12_isSo.2.1 mX12_isSo.2.2.1 mX12_isSo.2.2.2.1) && plainName mX12_isSo.1.cls) = true := cwq_ok (by decide +kernel)
set_option maxRecDepth 100000 in
theorem ok_X12_nightsTill : (tX12_nightsTill).all (eok mth mX12_nightsTill) = true := ewk0_ok (by decide +kernel)
theorem cw_X12_nightsTill : (wdq 8 66 (.code mX12_nightsTill.1 mX12_nightsTill.2.1 mX12_nightsTill.2.2.1 mX12_nightsTill.2.2.2.1) && plainName mX12_nightsTill.1.cls) = true := cwq_ok (by decide +kernel)
set_option maxRecDepth 100000 in
theorem ok_X12_rest : (tX12_rest).all (eok mth mX12_rest) = true := ewk0_ok (by decide +kernel)
theorem cw_X12_rest : (wdq 8 62 (.code mX12_rest.1 mX12_rest.2.1 mX12_rest.2.2.1 mX12_rest.2.2.2.1) && plainName mX12_rest.1.cls) = true := cwq_ok (by decide +kernel)
set_option maxRecDepth 100000 in
theorem ok_X12_quiet : (tX12_quiet).all (eok mth mX12_quiet) = true := ewk0_ok (by decide +kernel)
theorem cw_X12_quiet : (wdq 8 74 (.code mX12_quiet.1 mX12_quiet.2.1 mX12_quiet.2.2.1 mX12_quiet.2.2.2.1) && plainName mX12_quiet.1.cls) = true := cwq_ok (by decide +kernel)
set_option maxRecDepth 100000 in
theorem ok_X12_harvest : (tX12_harvest).all (eok mth mX12_harvest) = true := ewk0_ok (by decide +kernel)
theorem cw_X12_harvest : (wdq 8 78 (.code mX12_harvest.1 mX12_harvest.2.1 mX12_harvest.2.2.1 mX12_harvest.2.2.2.1) && plainName mX12_harvest.1.cls) = true := cwq_ok (by decide +kernel)
set_option maxRecDepth 100000 in
theorem ok_X12_visitors : (tX12_visitors).all (eok mth mX12_visitors) = true := ewk0_ok (by decide +kernel)
theorem cw_X12_visitors : (wdq 8 83 (.code mX12_visitors.1 mX12_visitors.2.1 mX12_visitors.2.2.1 mX12_visitors.2.2.2.1) && plainName mX12_visitors.1.cls) = true := cwq_ok (by decide +kernel)
set_option maxRecDepth 100000 in
theorem ok_X12_stays : (tX12_stays).all (eok mth mX12_stays) = true := ewk0_ok (by decide +kernel)
theorem cw_X12_stays : (wdq 8 87 (.code mX12_stays.1 mX12_stays.2.1 mX12_stays.2.2.1 mX12_stays.2.2.2.1) && plainName mX12_stays.1.cls) = true := cwq_ok (by decide +kernel)
set_option maxRecDepth 100000 in
theorem ok_X12_must : (tX12_must).all (eok mth mX12_must) = true := ewk0_ok (by decide +kernel)
theorem cw_X12_must : (wdq 8 91 (.code mX12_must.1 mX12_must.2.1 mX12_must.2.2.1 mX12_must.2.2.2.1) && plainName mX12_must.1.cls) = true := cwq_ok (by decide +kernel)
set_option maxRecDepth 100000 in
theorem ok_X12_reach : (tX12_reach).all (eok mth mX12_reach) = true := ewk0_ok (by decide +kernel)
theorem cw_X12_reach : (wdq 8 95 (.code mX12_reach.1 mX12_reach.2.1 mX12_reach.2.2.1 mX12_reach.2.2.2.1) && plainName mX12_reach.1.cls) = true := cwq_ok (by decide +kernel)
set_option maxRecDepth 100000 in
theorem ok_X12_tours : (tX12_tours).all (eok mth mX12_tours) = true := ewk0_ok (by decide +kernel)
theorem cw_X12_tours : (wdq 8 99 (.code mX12_tours.1 mX12_tours.2.1 mX12_tours.2.2.1 mX12_tours.2.2.2.1) && plainName mX12_tours.1.cls) = true := cwq_ok (by decide +kernel)
set_option maxRecDepth 100000 in
theorem ok_X12_meets : (tX12_meets).all (eok mth mX12_meets) = true := ewk0_ok (by decide +kernel)
theorem cw_X12_meets : (wdq 8 103 (.code mX12_meets.1 mX12_meets.2.1 mX12_meets.2.2.1 mX12_meets.2.2.2.1) && plainName mX12_meets.1.cls) = true := cwq_ok (by decide +kernel)
set_option maxRecDepth 100000 in
theorem ok_X12_mostOf : (tX12_mostOf).all (eok mth mX12_mostOf) = true := ewk0_ok (by decide +kernel)
theorem cw_X12_mostOf : (wdq 8 119 (.code mX12_mostOf.1 mX12_mostOf.2.1 mX12_mostOf.2.2.1 mX12_mostOf.2.2.2.1) && plainName mX12_mostOf.1.cls) = true := cwq_ok (by decide +kernel)
set_option maxRecDepth 100000 in
theorem ok_X12_counts : (tX12_counts).all (eok mth mX12_counts) = true := ewk0_ok (by decide +kernel)
theorem cw_X12_counts : (wdq 8 115 (.code mX12_counts.1 mX12_counts.2.1 mX12_counts.2.2.1 mX12_counts.2.2.2.1) && plainName mX12_counts.1.cls) = true := cwq_ok (by decide +kernel)
set_option maxRecDepth 100000 in
theorem ok_X12_clears : (tX12_clears).all (eok mth mX12_clears) = true := ewk0_ok (by decide +kernel)
theorem cw_X12_clears : (wdq 8 111 (.code mX12_clears.1 mX12_clears.2.1 mX12_clears.2.2.1 mX12_clears.2.2.2.1) && plainName mX12_clears.1.cls) = true := cwq_ok (by decide +kernel)
set_option maxRecDepth 100000 in
theorem ok_X12_crowd : (tX12_crowd).all (eok mth mX12_crowd) = true := ewk0_ok (by decide +kernel)
theorem cw_X12_crowd : (wdq 8 107 (.code mX12_crowd.1 mX12_crowd.2.1 mX12_crowd.2.2.1 mX12_crowd.2.2.2.1) && plainName mX12_crowd.1.cls) = true := cwq_ok (by decide +kernel)
set_option maxRecDepth 100000 in
theorem ok_X12_busiest : (tX12_busiest).all (eok mth mX12_busiest) = true := ewk0_ok (by decide +kernel)
theorem cw_X12_busiest : (wdq 8 123 (.code mX12_busiest.1 mX12_busiest.2.1 mX12_busiest.2.2.1 mX12_busiest.2.2.2.1) && plainName mX12_busiest.1.cls) = true := cwq_ok (by decide +kernel)
set_option maxRecDepth 100000 in
theorem ok_X12_exposed : (tX12_exposed).all (eok mth mX12_exposed) = true := ewk0_ok (by decide +kernel)
theorem cw_X12_exposed : (wdq 8 127 (.code mX12_exposed.1 mX12_exposed.2.1 mX12_exposed.2.2.1 mX12_exposed.2.2.2.1) && plainName mX12_exposed.1.cls) = true := cwq_ok (by decide +kernel)
set_option maxRecDepth 100000 in
theorem ok_X12_wells : (tX12_wells).all (eok mth mX12_wells) = true := ewk0_ok (by decide +kernel)
theorem cw_X12_wells : (wdq 8 131 (.code mX12_wells.1 mX12_wells.2.1 mX12_wells.2.2.1 mX12_wells.2.2.2.1) && plainName mX12_wells.1.cls) = true := cwq_ok (by decide +kernel)
set_option maxRecDepth 100000 in
theorem ok_X12_ways : (tX12_ways).all (eok mth mX12_ways) = true := ewk0_ok (by decide +kernel)
theorem cw_X12_ways : (wdq 8 135 (.code mX12_ways.1 mX12_ways.2.1 mX12_ways.2.2.1 mX12_ways.2.2.2.1) && plainName mX12_ways.1.cls) = true := cwq_ok (by decide +kernel)
set_option maxRecDepth 100000 in
theorem ok_X12_heirs : (tX12_heirs).all (eok mth mX12_heirs) = true := ewk0_ok (by decide +kernel)
theorem cw_X12_heirs : (wdq 8 139 (.code mX12_heirs.1 mX12_heirs.2.1 mX12_heirs.2.2.1 mX12_heirs.2.2.2.1) && plainName mX12_heirs.1.cls) = true := cwq_ok (by decide +kernel)
set_option maxRecDepth 100000 in
theorem ok_X12_sorrowBehind : (tX12_sorrowBehind).all (eok mth mX12_sorrowBehind) = true := ewk0_ok (by decide +kernel)
theorem cw_X12_sorrowBehind : (wdq 8 147 (.code mX12_sorrowBehind.1 mX12_sorrowBehind.2.1 mX12_sorrowBehind.2.2.1 mX12_sorrowBehind.2.2.2.1) && plainName mX12_sorrowBehind.1.cls) = true := cwq_ok (by decide +kernel)
set_option maxRecDepth 100000 in
theorem ok_X12_loss : (tX12_loss).all (eok mth mX12_loss) = true := ewk0_ok (by decide +kernel)
theorem cw_X12_loss : (wdq 8 143 (.code mX12_loss.1 mX12_loss.2.1 mX12_loss.2.2.1 mX12_loss.2.2.2.1) && plainName mX12_loss.1.cls) = true := cwq_ok (by decide +kernel)
set_option maxRecDepth 100000 in
theorem ok_X12_saint : (tX12_saint).all (eok mth mX12_saint) = true := ewk0_ok (by decide +kernel)
theorem cw_X12_saint : (wdq 8 151 (.code mX12_saint.1 mX12_saint.2.1 mX12_saint.2.2.1 mX12_saint.2.2.2.1) && plainName mX12_saint.1.cls) = true := cwq_ok (by decide +kernel)
set_option maxRecDepth 100000 in
theorem ok_X12_labourBy : (tX12_labourBy).all (eok mth mX12_labourBy) = true := ewk0_ok (by decide +kernel)
theorem cw_X12_labourBy : (wdq 8 159 (.code mX12_labourBy.1 mX12_labourBy.2.1 mX12_labourBy.2.2.1 mX12_labourBy.2.2.2.1) && plainName mX12_labourBy.1.cls) = true := cwq_ok (by decide +kernel)
set_option maxRecDepth 100000 in
theorem ok_X12_keeper : (tX12_keeper).all (eok mth mX12_keeper) = true := ewk0_ok (by decide +kernel)
theorem cw_X12_keeper : (wdq 8 155 (.code mX12_keeper.1 mX12_keeper.2.1 mX12_keeper.2.2.1 mX12_keeper.2.2.2.1) && plainName mX12_keeper.1.cls) = true := cwq_ok (by decide +kernel)
set_option maxRecDepth 100000 in
theorem ok_X12_lonely : (tX12_lonely).all (eok mth mX12_lonely) = true := ewk0_ok (by decide +kernel)
theorem cw_X12_lonely : (wdq 8 163 (.code mX12_lonely.1 mX12_lonely.2.1 mX12_lonely.2.2.1 mX12_lonely.2.2.2.1) && plainName mX12_lonely.1.cls) = true := cwq_ok (by decide +kernel)
set_option maxRecDepth 100000 in
theorem ok_X12_due : (tX12_due).all (eok mth mX12_due) = true := ewk0_ok (by decide +kernel)
theorem cw_X12_due : (wdq 8 167 (.code mX12_due.1 mX12_due.2.1 mX12_due.2.2.1 mX12_due.2.2.2.1) && plainName mX12_due.1.cls) = true := cwq_ok (by decide +kernel)
