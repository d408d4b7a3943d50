set_option maxRecDepth 100000 in
theorem ok_X11_busiest : (tX11_busiest).all (eok mth mX11_busiest) = true := ewk0_ok (by decide +kernel)
theorem cw_X11_busiest : (wdq 4 225 (.code mX11_busiest.1 mX11_busiest.2.1 mX11_busiest.2.2.1 mX11_busiest.2.2.2.1) && plainName mX11_busiest.1.cls) = true := by decide +kernel
set_option maxRecDepth 100000 in
theorem ok_X11_exposed : (tX11_exposed).all (eok mth mX11_exposed) = true := ewk0_ok (by decide +kernel)
theorem cw_X11_exposed : (wdq 4 229 (.code mX11_exposed.1 mX11_exposed.2.1 mX11_exposed.2.2.1 mX11_exposed.2.2.2.1) && plainName mX11_exposed.1.cls) = true := by decide +kernel
set_option maxRecDepth 100000 in
theorem ok_X11_wells : (tX11_wells).all (eok mth mX11_wells) = true := ewk0_ok (by decide +kernel)
theorem cw_X11_wells : (wdq 4 234 (.code mX11_wells.1 mX11_wells.2.1 mX11_wells.2.2.1 mX11_wells.2.2.2.1) && plainName mX11_wells.1.cls) = true := by decide +kernel
set_option maxRecDepth 100000 in
theorem ok_X11_ways : (tX11_ways).all (eok mth mX11_ways) = true := ewk0_ok (by decide +kernel)
theorem cw_X11_ways : (wdq 4 238 (.code mX11_ways.1 mX11_ways.2.1 mX11_ways.2.2.1 mX11_ways.2.2.2.1) && plainName mX11_ways.1.cls) = true := by decide +kernel
set_option maxRecDepth 100000 in
theorem ok_X11_heirs : (tX11_heirs).all (eok mth mX11_heirs) = true := ewk0_ok (by decide +kernel)
theorem cw_X11_heirs : (wdq 5 10 (.code mX11_heirs.1 mX11_heirs.2.1 mX11_heirs.2.2.1 mX11_heirs.2.2.2.1) && plainName mX11_heirs.1.cls) = true := by decide +kernel
set_option maxRecDepth 100000 in
theorem ok_X11_loss : (tX11_loss).all (eok mth mX11_loss) = true := ewk0_ok (by decide +kernel)
theorem cw_X11_loss : (wdq 5 15 (.code mX11_loss.1 mX11_loss.2.1 mX11_loss.2.2.1 mX11_loss.2.2.2.1) && plainName mX11_loss.1.cls) = true := by decide +kernel
set_option maxRecDepth 100000 in
theorem ok_X11_saint : (tX11_saint).all (eok mth mX11_saint) = true := ewk0_ok (by decide +kernel)
theorem cw_X11_saint : (wdq 5 26 (.code mX11_saint.1 mX11_saint.2.1 mX11_saint.2.2.1 mX11_saint.2.2.2.1) && plainName mX11_saint.1.cls) = true := by decide +kernel
set_option maxRecDepth 100000 in
theorem ok_X11_keeper : (tX11_keeper).all (eok mth mX11_keeper) = true := ewk0_ok (by decide +kernel)
theorem cw_X11_keeper : (wdq 5 36 (.code mX11_keeper.1 mX11_keeper.2.1 mX11_keeper.2.2.1 mX11_keeper.2.2.2.1) && plainName mX11_keeper.1.cls) = true := by decide +kernel
set_option maxRecDepth 100000 in
theorem ok_X11_lonely : (tX11_lonely).all (eok mth mX11_lonely) = true := ewk0_ok (by decide +kernel)
theorem cw_X11_lonely : (wdq 5 50 (.code mX11_lonely.1 mX11_lonely.2.1 mX11_lonely.2.2.1 mX11_lonely.2.2.2.1) && plainName mX11_lonely.1.cls) = true := by decide +kernel
set_option maxRecDepth 100000 in
theorem ok_X11_due : (tX11_due).all (eok mth mX11_due) = true := ewk0_ok (by decide +kernel)
theorem cw_X11_due : (wdq 5 54 (.code mX11_due.1 mX11_due.2.1 mX11_due.2.2.1 mX11_due.2.2.2.1) && plainName mX11_due.1.cls) = true := by decide +kernel
set_option maxRecDepth 100000 in
theorem ok_X11_net : (tX11_net).all (eok mth mX11_net) = true := ewk0_ok (by decide +kernel)
theorem cw_X11_net : (wdq 5 58 (.code mX11_net.1 mX11_net.2.1 mX11_net.2.2.1 mX11_net.2.2.2.1) && plainName mX11_net.1.cls) = true := by decide +kernel
set_option maxRecDepth 100000 in
theorem ok_X11_wedding : (tX11_wedding).all (eok mth mX11_wedding) = true := ewk0_ok (by decide +kernel)
theorem cw_X11_wedding : (wdq 5 62 (.code mX11_wedding.1 mX11_wedding.2.1 mX11_wedding.2.2.1 mX11_wedding.2.2.2.1) && plainName mX11_wedding.1.cls) = true := by decide +kernel
set_option maxRecDepth 100000 in
theorem ok_X11_weddingSet : (tX11_weddingSet).all (eok mth mX11_weddingSet) = true := ewk0_ok (by decide +kernel)
theorem cw_X11_weddingSet : (wdq 5 77 (.code mX11_weddingSet.1 mX11_weddingSet.2.1 mX11_weddingSet.2.2.1 mX11_weddingSet.2.2.2.1) && plainName mX11_weddingSet.1.cls) = true := by decide +kernel
set_option maxRecDepth 100000 in
theorem ok_X11_pardon : (tX11_pardon).all (eok mth mX11_pardon) = true := ewk0_ok (by decide +kernel)
theorem cw_X11_pardon : (wdq 5 81 (.code mX11_pardon.1 mX11_pardon.2.1 mX11_pardon.2.2.1 mX11_pardon.2.2.2.1) && plainName mX11_pardon.1.cls) = true := by decide +kernel
set_option maxRecDepth 100000 in
theorem ok_X11_pardonSet : (tX11_pardonSet).all (eok mth mX11_pardonSet) = true := ewk0_ok (by decide +kernel)
theorem cw_X11_pardonSet : (wdq 5 101 (.code mX11_pardonSet.1 mX11_pardonSet.2.1 mX11_pardonSet.2.2.1 mX11_pardonSet.2.2.2.1) && plainName mX11_pardonSet.1.cls) = true := by decide +kernel
set_option maxRecDepth 100000 in
theorem ok_X11_pair : (tX11_pair).all (eok mth mX11_pair) = true := ewk0_ok (by decide +kernel)
theorem cw_X11_pair : (wdq 5 105 (.code mX11_pair.1 mX11_pair.2.1 mX11_pair.2.2.1 mX11_pair.2.2.2.1) && plainName mX11_pair.1.cls) = true := by decide +kernel
set_option maxRecDepth 100000 in
theorem ok_X11_share : (tX11_share).all (eok mth mX11_share) = true := ewk0_ok (by decide +kernel)
theorem cw_X11_share : (wdq 5 118 (.code mX11_share.1 mX11_share.2.1 mX11_share.2.2.1 mX11_share.2.2.2.1) && plainName mX11_share.1.cls) = true := by decide +kernel
set_option maxRecDepth 100000 in
theorem ok_X11_gracious : (tX11_gracious).all (eok mth mX11_gracious) = true := ewk0_ok (by decide +kernel)
theorem cw_X11_gracious : (wdq 5 123 (.code mX11_gracious.1 mX11_gracious.2.1 mX11_gracious.2.2.1 mX11_gracious.2.2.2.1) && plainName mX11_gracious.1.cls) = true := by decide +kernel
set_option maxRecDepth 100000 in
theorem ok_X11_deepest : (tX11_deepest).all (eok mth mX11_deepest) = true := ewk0_ok (by decide +kernel)
theorem cw_X11_deepest : (wdq 5 127 (.code mX11_deepest.1 mX11_deepest.2.1 mX11_deepest.2.2.1 mX11_deepest.2.2.2.1) && plainName mX11_deepest.1.cls) = true := by decide +kernel
set_option maxRecDepth 100000 in
theorem ok_X11_weight : (tX11_weight).all (eok mth mX11_weight) = true := ewk0_ok (by decide +kernel)
theorem cw_X11_weight : (wdq 5 131 (.code mX11_weight.1 mX11_weight.2.1 mX11_weight.2.2.1 mX11_weight.2.2.2.1) && plainName mX11_weight.1.cls) = true := by decide +kernel
set_option maxRecDepth 100000 in
theorem ok_X11_mutual : (tX11_mutual).all (eok mth mX11_mutual) = true := ewk0_ok (by decide +kernel)
theorem cw_X11_mutual : (wdq 5 139 (.code mX11_mutual.1 mX11_mutual.2.1 mX11_mutual.2.2.1 mX11_mutual.2.2.2.1) && plainName mX11_mutual.1.cls) = true := by decide +kernel
set_option maxRecDepth 100000 in
theorem ok_X11_chain : (tX11_chain).all (eok mth mX11_chain) = true := ewk0_ok (by decide +kernel)
theorem cw_X11_chain : (wdq 5 144 (.code mX11_chain.1 mX11_chain.2.1 mX11_chain.2.2.1 mX11_chain.2.2.2.1) && plainName mX11_chain.1.cls) = true := by decide +kernel
set_option maxRecDepth 100000 in
theorem ok_X11_circle : (tX11_circle).all (eok mth mX11_circle) = true := ewk0_ok (by decide +kernel)
theorem cw_X11_circle : (wdq 5 160 (.code mX11_circle.1 mX11_circle.2.1 mX11_circle.2.2.1 mX11_circle.2.2.2.1) && plainName mX11_circle.1.cls) = true := by decide +kernel
set_option maxRecDepth 100000 in
theorem ok_X11_bestSalt : (tX11_bestSalt).all (eok mth mX11_bestSalt) = true := ewk0_ok (by decide +kernel)
theorem cw_X11_bestSalt : (wdq 5 171 (.code mX11_bestSalt.1 mX11_bestSalt.2.1 mX11_bestSalt.2.2.1 mX11_bestSalt.2.2.2.1) && plainName mX11_bestSalt.1.cls) = true := by decide +kernel
set_option maxRecDepth 100000 in
theorem ok_X11_live : (tX11_live).all (eok mth mX11_live) = true := ewk0_ok (by decide +kernel)
theorem cw_X11_live : (wdq 5 188 (.code mX11_live.1 mX11_live.2.1 mX11_live.2.2.1 mX11_live.2.2.2.1) && plainName mX11_live.1.cls) = true := by decide +kernel
set_option maxRecDepth 100000 in
theorem ok_X11_lived : (tX11_lived).all (eok mth mX11_lived) = true := ewk0_ok (by decide +kernel)
theorem cw_X11_lived : (wdq 5 228 (.code mX11_lived.1 mX11_lived.2.1 mX11_lived.2.2.1 mX11_lived.2.2.2.1) && plainName mX11_lived.1.cls) = true := by decide +kernel
set_option maxRecDepth 100000 in
theorem ok_X11_mean : (tX11_mean).all (eok mth mX11_mean) = true := ewk0_ok (by decide +kernel)
theorem cw_X11_mean : (wdq 5 232 (.code mX11_mean.1 mX11_mean.2.1 mX11_mean.2.2.1 mX11_mean.2.2.2.1) && plainName mX11_mean.1.cls) = true := by decide +kernel
set_option maxRecDepth 100000 in
theorem ok_X11_mark : (tX11_mark).all (eok mth mX11_mark) = true := ewk0_ok (by decide +kernel)
theorem cw_X11_mark : (wdq 5 236 (.code mX11_mark.1 mX11_mark.2.1 mX11_mark.2.2.1 mX11_mark.2.2.2.1) && plainName mX11_mark.1.cls) = true := by decide +kernel
set_option maxRecDepth 100000 in
theorem ok_X11_undo : (tX11_undo).all (eok mth mX11_undo) = true := ewk0_ok (by decide +kernel)
theorem cw_X11_undo : (wdq 6 0 (.code mX11_undo.1 mX11_undo.2.1 mX11_undo.2.2.1 mX11_undo.2.2.2.1) && plainName mX11_undo.1.cls) = true := by decide +kernel
set_option maxRecDepth 100000 in
theorem ok_X11_answer : (tX11_answer).all (eok mth mX11_answer) = true := ewk0_ok (by decide +kernel)
theorem cw_X11_answer : (wdq 3 65 (.code mX11_answer.1 mX11_answer.2.1 mX11_answer.2.2.1 mX11_answer.2.2.2.1) && plainName mX11_answer.1.cls) = true := by decide +kernel
set_option maxRecDepth 100000 in
theorem ok_X11_answerOrNone : (tX11_answerOrNone).all (eok mth mX11_answerOrNone) = true := ewk0_ok (by decide +kernel)
theorem cw_X11_answerOrNone : (wdq 4 98 (.code mX11_answerOrNone.1 mX11_answerOrNone.2.1 mX11_answerOrNone.2.2.1 mX11_answerOrNone.2.2.2.1) && plainName mX11_answerOrNone.1.cls) = true := by decide +kernel
set_option maxRecDepth 100000 in
theorem ok_X11_answerSize : (tX11_answerSize).all (eok mth mX11_answerSize) = true := ewk0_ok (by decide +kernel)
theorem cw_X11_answerSize : (wdq 5 73 (.code mX11_answerSize.1 mX11_answerSize.2.1 mX11_answerSize.2.2.1 mX11_answerSize.2.2.2.1) && plainName mX11_answerSize.1.cls) = true := by decide +kernel
set_option maxRecDepth 100000 in
theorem ok_X11_refuse : (tX11_refuse).all (eok mth mX11_refuse) = true := ewk0_ok (by decide +kernel)
theorem cw_X11_refuse : (wdq 2 84 (.code mX11_refuse.1 mX11_refuse.2.1 mX11_refuse.2.2.1 mX11_refuse.2.2.2.1) && plainName mX11_refuse.1.cls) = true := by decide +kernel
set_option maxRecDepth 100000 in
theorem ok_X11_grant : (tX11_grant).all (eok mth mX11_grant) = true := ewk0_ok (by decide +kernel)
theorem cw_X11_grant : (wdq 2 60 (.code mX11_grant.1 mX11_grant.2.1 mX11_grant.2.2.1 mX11_grant.2.2.2.1) && plainName mX11_grant.1.cls) = true := by decide +kernel
set_option maxRecDepth 100000 in
theorem ok_X11_deny : (tX11_deny).all (eok mth mX11_deny) = true := ewk0_ok (by decide +kernel)
theorem cw_X11_deny : (wdq 2 49 (.code mX11_deny.1 mX11_deny.2.1 mX11_deny.2.2.1 mX11_deny.2.2.2.1) && plainName mX11_deny.1.cls) = true := by decide +kernel
set_option maxRecDepth 100000 in
theorem ok_X11_isHouse : (tX11_isHouse).all (eok mth mX11_isHouse) = true := ewk0_ok (by decide +kernel)
theorem cw_X11_isHouse : (wdq 3 219 (.code mX11_isHouse.1 mX11_isHouse.2.1 mX11_isHouse.2.2.1 mX11_isHouse.2.2.2.1) && plainName mX11_isHouse.1.cls) = true := by decide +kernel
set_option maxRecDepth 100000 in
theorem ok_X11_isPerson : (tX11_isPerson).all (eok mth mX11_isPerson) = true := ewk0_ok (by decide +kernel)
theorem cw_X11_isPerson : (wdq 3 183 (.code mX11_isPerson.1 mX11_isPerson.2.1 mX11_isPerson.2.2.1 mX11_isPerson.2.2.2.1) && plainName mX11_isPerson.1.cls) = true := by decide +kernel
set_option maxRecDepth 100000 in
theorem ok_X11_areTwoHouses : (tX11_areTwoHouses).all (eok mth mX11_areTwoHouses) = true := ewk0_ok (by decide +kernel)
theorem cw_X11_areTwoHouses : (wdq 3 215 (.code mX11_areTwoHouses.1 mX11_areTwoHouses.2.1 mX11_areTwoHouses.2.2.1 mX11_areTwoHouses.2.2.2.1) && plainName mX11_areTwoHouses.1.cls) = true := by decide +kernel
set_option maxRecDepth 100000 in
theorem ok_X11_areTwoPersons : (tX11_areTwoPersons).all (eok mth mX11_areTwoPersons) = true := ewk0_ok (by decide +kernel)
theorem cw_X11_areTwoPersons : (wdq 3 202 (.code mX11_areTwoPersons.1 mX11_areTwoPersons.2.1 mX11_areTwoPersons.2.2.1 mX11_areTwoPersons.2.2.2.1) && plainName mX11_areTwoPersons.1.cls) = true := by decide +kernel
set_option maxRecDepth 100000 in
theorem ok_X11_isWithin : (tX11_isWithin).all (eok mth mX11_isWithin) = true := ewk0_ok (by decide +kernel)
theorem cw_X11_isWithin : (wdq 2 45 (.code mX11_isWithin.1 mX11_isWithin.2.1 mX11_isWithin.2.2.1 mX11_isWithin.2.2.2.1) && plainName mX11_isWithin.1.cls) = true := by decide +kernel
set_option maxRecDepth 100000 in
theorem ok_X11_has : (tX11_has).all (eok mth mX11_has) = true := ewk0_ok (by decide +kernel)
theorem cw_X11_has : (wdq 3 30 (.code mX11_has.1 mX11_has.2.1 mX11_has.2.2.1 mX11_has.2.2.2.1) && plainName mX11_has.1.cls) = true := by decide +kernel
set_option maxRecDepth 100000 in
theorem ok_X11_bit : (tX11_bit).all (eok mth mX11_bit) = true := ewk0_ok (by decide +kernel)
theorem cw_X11_bit : (wdq 3 186 (.code mX11_bit.1 mX11_bit.2.1 mX11_bit.2.2.1 mX11_bit.2.2.2.1) && plainName mX11_bit.1.cls) = true := by decide +kernel
set_option maxRecDepth 100000 in
theorem ok_X11_troubleAt : (tX11_troubleAt).all (eok mth mX11_troubleAt) = true := ewk0_ok (by decide +kernel)
theorem cw_X11_troubleAt : (wdq 2 68 (.code mX11_troubleAt.1 mX11_troubleAt.2.1 mX11_troubleAt.2.2.1 mX11_troubleAt.2.2.2.1) && plainName mX11_troubleAt.1.cls) = true := by decide +kernel
set_option maxRecDepth 100000 in
theorem ok_X11_tellFraction : (tX11_tellFraction).all (eok mth mX11_tellFraction) = true := ewk0_ok (by decide +kernel)
theorem cw_X11_tellFraction : (wdq 5 135 (.code mX11_tellFraction.1 mX11_tellFraction.2.1 mX11_tellFraction.2.2.1 mX11_tellFraction.2.2.2.1) && plainName mX11_tellFraction.1.cls) = true := by decide +kernel
set_option maxRecDepth 100000 in
theorem ok_X12_init : (tX12_init).all (eok mth mX12_init) = true := ewk0_ok (by decide +kernel)
theorem cw_X12_init : (wdq 6 5 (.code mX12_init.1 mX12_init.2.1 mX12_init.2.2.1 mX12_init.2.2.2.1) && plainName mX12_init.1.cls) = true := by decide +kernel
set_option maxRecDepth 100000 in
theorem ok_X12_plain : (tX12_plain).all (eok mth mX12_plain) = true := ewk0_ok (by decide +kernel)
theorem cw_X12_plain : (wdq 6 10 (.code mX12_plain.1 mX12_plain.2.1 mX12_plain.2.2.1 mX12_plain.2.2.2.1) && plainName mX12_plain.1.cls) = true := by decide +kernel
set_option maxRecDepth 100000 in
theorem ok_X12_status : (tX12_status).all (eok mth mX12_status) = true := ewk0_ok (by decide +kernel)
theorem cw_X12_status : (wdq 6 117 (.code mX12_status.1 mX12_status.2.1 mX12_status.2.2.1 mX12_status.2.2.2.1) && plainName mX12_status.1.cls) = true := by decide +kernel
set_option maxRecDepth 100000 in
theorem ok_X12_top : (tX12_top).all (eok mth mX12_top) = true := ewk0_ok (by decide +kernel)
theorem cw_X12_top : (wdq 6 121 (.code mX12_top.1 mX12_top.2.1 mX12_top.2.2.1 mX12_top.2.2.2.1) && plainName mX12_top.1.cls) = true := by decide +kernel
set_option maxRecDepth 100000 in
theorem ok_X12_bottom : (tX12_bottom).all (eok mth mX12_bottom) = true := ewk0_ok (by decide +kernel)
theorem cw_X12_bottom : (wdq 6 125 (.code mX12_bottom.1 mX12_bottom.2.1 mX12_bottom.2.2.1 mX12_bottom.2.2.2.1) && plainName mX12_bottom.1.cls) = true := by decide +kernel
set_option maxRecDepth 100000 in
theorem ok_X12_is : (tX12_is).all (eok mth mX12_is) = true := ewk0_ok (by decide +kernel)
theorem cw_X12_is : (wdq 6 136 (.code mX12_is.1 mX12_is.2.1 mX12_is.2.2.1 mX12_is.2.2.2.1) && plainName mX12_is.1.cls) = true := by decide +kernel
set_option maxRecDepth 100000 in
theorem ok_X12_refuse : (tX12_refuse).all (eok mth mX12_refuse) = true := ewk0_ok (by decide +kernel)
theorem cw_X12_refuse : (wdq 6 196 (.code mX12_refuse.1 mX12_refuse.2.1 mX12_refuse.2.2.1 mX12_refuse.2.2.2.1) && plainName mX12_refuse.1.cls) = true := by decide +kernel
set_option maxRecDepth 100000 in
theorem ok_X12_gives : (tX12_gives).all (eok mth mX12_gives) = true := ewk0_ok (by decide +kernel)
theorem cw_X12_gives : (wdq 7 43 (.code mX12_gives.1 mX12_gives.2.1 mX12_gives.2.2.1 mX12_gives.2.2.2.1) && plainName mX12_gives.1.cls) = true := by decide +kernel
set_option maxRecDepth 100000 in
theorem ok_X12_orNone : (tX12_orNone).all (eok mth mX12_orNone) = true := ewk0_ok (by decide +kernel)
theorem cw_X12_orNone : (wdq 8 25 (.code mX12_orNone.1 mX12_orNone.2.1 mX12_orNone.2.2.1 mX12_orNone.2.2.2.1) && plainName mX12_orNone.1.cls) = true := by decide +kernel
set_option maxRecDepth 100000 in
theorem ok_X12_tellsBy : (tX12_tellsBy).all (eok mth mX12_tellsBy) = true := ewk0_ok (by decide +kernel)
theorem cw_X12_tellsBy : (wdq 8 232 (.code mX12_tellsBy.1 mX12_tellsBy.2.1 mX12_tellsBy.2.2.1 mX12_tellsBy.2.2.2.1) && plainName mX12_tellsBy.1.cls) = true := by decide +kernel
set_option maxRecDepth 100000 in
theorem ok_X12_isTray : (tX12_isTray).all (eok mth mX12_isTray) = true := ewk0_ok (by decide +kernel)
theorem cw_X12_isTray : (wdq 6 132 (.code mX12_isTray.1 mX12_isTray.2.1 mX12_isTray.2.2.1 mX12_isTray.2.2.2.1) && plainName mX12_isTray.1.cls) = true := by decide +kernel
set_option maxRecDepth 100000 in
theorem ok_X12_cut : (tX12_cut).all (eok mth mX12_cut) = true := ewk0_ok (by decide +kernel)
theorem cw_X12_cut : (wdq 6 147 (.code mX12_cut.1 mX12_cut.2.1 mX12_cut.2.2.1 mX12_cut.2.2.2.1) && plainName mX12_cut.1.cls) = true := by decide +kernel
set_option maxRecDepth 100000 in
theorem ok_X12_tray : (tX12_tray).all (eok mth mX12_tray) = true := ewk0_ok (by decide +kernel)
theorem cw_X12_tray : (wdq 6 129 (.code mX12_tray.1 mX12_tray.2.1 mX12_tray.2.2.1 mX12_tray.2.2.2.1) && plainName mX12_tray.1.cls) = true := by decide +kernel
set_option maxRecDepth 100000 in
theorem ok_X12_wrongPlace : (tX12_wrongPlace).all (eok mth mX12_wrongPlace) = true := ewk0_ok (by decide +kernel)
theorem cw_X12_wrongPlace : (wdq 6 144 (.code mX12_wrongPlace.1 mX12_wrongPlace.2.1 mX12_wrongPlace.2.2.1 mX12_wrongPlace.2.2.2.1) && plainName mX12_wrongPlace.1.cls) = true := by decide +kernel
set_option maxRecDepth 100000 in
theorem ok_X12_write : (tX12_write).all (eok mth mX12_write) = true := ewk0_ok (by decide +kernel)
theorem cw_X12_write : (wdq 6 140 (.code mX12_write.1 mX12_write.2.1 mX12_write.2.2.1 mX12_write.2.2.2.1) && plainName mX12_write.1.cls) = true := by decide +kernel
set_option maxRecDepth 100000 in
theorem ok_X12_read : (tX12_read).all (eok mth mX12_read) = true := ewk0_ok (by decide +kernel)
theorem cw_X12_read : (wdq 6 151 (.code mX12_read.1 mX12_read.2.1 mX12_read.2.2.1 mX12_read.2.2.2.1) && plainName mX12_read.1.cls) = true := by decide +kernel
