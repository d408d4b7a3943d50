set_option maxRecDepth 100000 in
theorem ok_X12_labour : (tX12_labour).all (eok mth mX12_labour) = true := ewk0_ok (by decide +kernel)
theorem cw_X12_labour : (wdq 7 152 (.code mX12_labour.1 mX12_labour.2.1 mX12_labour.2.2.1 mX12_labour.2.2.2.1) && plainName mX12_labour.1.cls) = true := by decide +kernel
set_option maxRecDepth 100000 in
theorem ok_X12_inHouse : (tX12_inHouse).all (eok mth mX12_inHouse) = true := ewk0_ok (by decide +kernel)
theorem cw_X12_inHouse : (wdq 7 160 (.code mX12_inHouse.1 mX12_inHouse.2.1 mX12_inHouse.2.2.1 mX12_inHouse.2.2.2.1) && plainName mX12_inHouse.1.cls) = true := by decide +kernel
set_option maxRecDepth 100000 in
theorem ok_X12_within : (tX12_within).all (eok mth mX12_within) = true := ewk0_ok (by decide +kernel)
theorem cw_X12_within : (wdq 7 156 (.code mX12_within.1 mX12_within.2.1 mX12_within.2.2.1 mX12_within.2.2.2.1) && plainName mX12_within.1.cls) = true := by decide +kernel
set_option maxRecDepth 100000 in
theorem ok_X12_laysWays : (tX12_laysWays).all (eok mth mX12_laysWays) = true := ewk0_ok (by decide +kernel)
theorem cw_X12_laysWays : (wdq 7 184 (.code mX12_laysWays.1 mX12_laysWays.2.1 mX12_laysWays.2.2.1 mX12_laysWays.2.2.2.1) && plainName mX12_laysWays.1.cls) = true := by decide +kernel
set_option maxRecDepth 100000 in
theorem ok_X12_aimOf : (tX12_aimOf).all (eok mth mX12_aimOf) = true := ewk0_ok (by decide +kernel)
theorem cw_X12_aimOf : (wdq 7 180 (.code mX12_aimOf.1 mX12_aimOf.2.1 mX12_aimOf.2.2.1 mX12_aimOf.2.2.2.1) && plainName mX12_aimOf.1.cls) = true := by decide +kernel
set_option maxRecDepth 100000 in
theorem ok_X12_nextOn : (tX12_nextOn).all (eok mth mX12_nextOn) = true := ewk0_ok (by decide +kernel)
theorem cw_X12_nextOn : (wdq 7 197 (.code mX12_nextOn.1 mX12_nextOn.2.1 mX12_nextOn.2.2.1 mX12_nextOn.2.2.2.1) && plainName mX12_nextOn.1.cls) = true := by decide +kernel
set_option maxRecDepth 100000 in
theorem ok_X12_stepOf : (tX12_stepOf).all (eok mth mX12_stepOf) = true := ewk0_ok (by decide +kernel)
theorem cw_X12_stepOf : (wdq 8 33 (.code mX12_stepOf.1 mX12_stepOf.2.1 mX12_stepOf.2.2.1 mX12_stepOf.2.2.2.1) && plainName mX12_stepOf.1.cls) = true := by decide +kernel
set_option maxRecDepth 100000 in
theorem ok_X12_sorries : (tX12_sorries).all (eok mth mX12_sorries) = true := ewk0_ok (by decide +kernel)
theorem cw_X12_sorries : (wdq 7 189 (.code mX12_sorries.1 mX12_sorries.2.1 mX12_sorries.2.2.1 mX12_sorries.2.2.2.1) && plainName mX12_sorries.1.cls) = true := by decide +kernel
set_option maxRecDepth 100000 in
theorem ok_X12_night0 : (tX12_night0).all (eok mth mX12_night0) = true := ewk0_ok (by decide +kernel)
theorem cw_X12_night0 : (wdq 7 176 (.code mX12_night0.1 mX12_night0.2.1 mX12_night0.2.2.1 mX12_night0.2.2.2.1) && plainName mX12_night0.1.cls) = true := by decide +kernel
set_option maxRecDepth 100000 in
theorem ok_X12_night : (tX12_night).all (eok mth mX12_night) = true := ewk0_ok (by decide +kernel)
theorem cw_X12_night : (wdq 7 168 (.code mX12_night.1 mX12_night.2.1 mX12_night.2.2.1 mX12_night.2.2.2.1) && plainName mX12_night.1.cls) = true := by decide +kernel
set_option maxRecDepth 100000 in
theorem ok_X12_heirsBut : (tX12_heirsBut).all (eok mth mX12_heirsBut) = true := ewk0_ok (by decide +kernel)
theorem cw_X12_heirsBut : (wdq 7 217 (.code mX12_heirsBut.1 mX12_heirsBut.2.1 mX12_heirsBut.2.2.1 mX12_heirsBut.2.2.2.1) && plainName mX12_heirsBut.1.cls) = true := by decide +kernel
set_option maxRecDepth 100000 in
theorem ok_X12_isHeirOf : (tX12_isHeirOf).all (eok mth mX12_isHeirOf) = true := ewk0_ok (by decide +kernel)
theorem cw_X12_isHeirOf : (wdq 7 209 (.code mX12_isHeirOf.1 mX12_isHeirOf.2.1 mX12_isHeirOf.2.2.1 mX12_isHeirOf.2.2.2.1) && plainName mX12_isHeirOf.1.cls) = true := by decide +kernel
set_option maxRecDepth 100000 in
theorem ok_X12_partOf : (tX12_partOf).all (eok mth mX12_partOf) = true := ewk0_ok (by decide +kernel)
theorem cw_X12_partOf : (wdq 7 213 (.code mX12_partOf.1 mX12_partOf.2.1 mX12_partOf.2.2.1 mX12_partOf.2.2.2.1) && plainName mX12_partOf.1.cls) = true := by decide +kernel
set_option maxRecDepth 100000 in
theorem ok_X12_dies : (tX12_dies).all (eok mth mX12_dies) = true := ewk0_ok (by decide +kernel)
theorem cw_X12_dies : (wdq 7 205 (.code mX12_dies.1 mX12_dies.2.1 mX12_dies.2.2.1 mX12_dies.2.2.2.1) && plainName mX12_dies.1.cls) = true := by decide +kernel
set_option maxRecDepth 100000 in
theorem ok_X12_die : (tX12_die).all (eok mth mX12_die) = true := ewk0_ok (by decide +kernel)
theorem cw_X12_die : (wdq 7 201 (.code mX12_die.1 mX12_die.2.1 mX12_die.2.2.1 mX12_die.2.2.2.1) && plainName mX12_die.1.cls) = true := by decide +kernel
set_option maxRecDepth 100000 in
theorem ok_X12_forgives : (tX12_forgives).all (eok mth mX12_forgives) = true := ewk0_ok (by decide +kernel)
theorem cw_X12_forgives : (wdq 7 225 (.code mX12_forgives.1 mX12_forgives.2.1 mX12_forgives.2.2.1 mX12_forgives.2.2.2.1) && plainName mX12_forgives.1.cls) = true := by decide +kernel
set_option maxRecDepth 100000 in
theorem ok_X12_forgive : (tX12_forgive).all (eok mth mX12_forgive) = true := ewk0_ok (by decide +kernel)
theorem cw_X12_forgive : (wdq 7 221 (.code mX12_forgive.1 mX12_forgive.2.1 mX12_forgive.2.2.1 mX12_forgive.2.2.2.1) && plainName mX12_forgive.1.cls) = true := by decide +kernel
set_option maxRecDepth 100000 in
theorem ok_X12_forges : (tX12_forges).all (eok mth mX12_forges) = true := ewk0_ok (by decide +kernel)
theorem cw_X12_forges : (wdq 7 233 (.code mX12_forges.1 mX12_forges.2.1 mX12_forges.2.2.1 mX12_forges.2.2.2.1) && plainName mX12_forges.1.cls) = true := by decide +kernel
set_option maxRecDepth 100000 in
theorem ok_X12_forge : (tX12_forge).all (eok mth mX12_forge) = true := ewk0_ok (by decide +kernel)
theorem cw_X12_forge : (wdq 7 229 (.code mX12_forge.1 mX12_forge.2.1 mX12_forge.2.2.1 mX12_forge.2.2.2.1) && plainName mX12_forge.1.cls) = true := by decide +kernel
set_option maxRecDepth 100000 in
theorem ok_X12_turns : (tX12_turns).all (eok mth mX12_turns) = true := ewk0_ok (by decide +kernel)
theorem cw_X12_turns : (wdq 8 1 (.code mX12_turns.1 mX12_turns.2.1 mX12_turns.2.2.1 mX12_turns.2.2.2.1) && plainName mX12_turns.1.cls) = true := by decide +kernel
set_option maxRecDepth 100000 in
theorem ok_X12_salt : (tX12_salt).all (eok mth mX12_salt) = true := ewk0_ok (by decide +kernel)
theorem cw_X12_salt : (wdq 7 237 (.code mX12_salt.1 mX12_salt.2.1 mX12_salt.2.2.1 mX12_salt.2.2.2.1) && plainName mX12_salt.1.cls) = true := by decide +kernel
set_option maxRecDepth 100000 in
theorem ok_X12_keep : (tX12_keep).all (eok mth mX12_keep) = true := ewk0_ok (by decide +kernel)
theorem cw_X12_keep : (wdq 8 5 (.code mX12_keep.1 mX12_keep.2.1 mX12_keep.2.2.1 mX12_keep.2.2.2.1) && plainName mX12_keep.1.cls) = true := by decide +kernel
set_option maxRecDepth 100000 in
theorem ok_X12_wall : (tX12_wall).all (eok mth mX12_wall) = true := ewk0_ok (by decide +kernel)
theorem cw_X12_wall : (wdq 8 9 (.code mX12_wall.1 mX12_wall.2.1 mX12_wall.2.2.1 mX12_wall.2.2.2.1) && plainName mX12_wall.1.cls) = true := by decide +kernel
set_option maxRecDepth 100000 in
theorem ok_X12_move : (tX12_move).all (eok mth mX12_move) = true := ewk0_ok (by decide +kernel)
theorem cw_X12_move : (wdq 8 13 (.code mX12_move.1 mX12_move.2.1 mX12_move.2.2.1 mX12_move.2.2.2.1) && plainName mX12_move.1.cls) = true := by decide +kernel
set_option maxRecDepth 100000 in
theorem ok_X12_way : (tX12_way).all (eok mth mX12_way) = true := ewk0_ok (by decide +kernel)
theorem cw_X12_way : (wdq 8 17 (.code mX12_way.1 mX12_way.2.1 mX12_way.2.2.1 mX12_way.2.2.2.1) && plainName mX12_way.1.cls) = true := by decide +kernel
set_option maxRecDepth 100000 in
theorem ok_X12_aim : (tX12_aim).all (eok mth mX12_aim) = true := ewk0_ok (by decide +kernel)
theorem cw_X12_aim : (wdq 8 21 (.code mX12_aim.1 mX12_aim.2.1 mX12_aim.2.2.1 mX12_aim.2.2.2.1) && plainName mX12_aim.1.cls) = true := by decide +kernel
set_option maxRecDepth 100000 in
theorem ok_X12_step : (tX12_step).all (eok mth mX12_step) = true := ewk0_ok (by decide +kernel)
theorem cw_X12_step : (wdq 8 29 (.code mX12_step.1 mX12_step.2.1 mX12_step.2.2.1 mX12_step.2.2.2.1) && plainName mX12_step.1.cls) = true := by decide +kernel
set_option maxRecDepth 100000 in
theorem ok_X12_keeps : (tX12_keeps).all (eok mth mX12_keeps) = true := ewk0_ok (by decide +kernel)
theorem cw_X12_keeps : (wdq 8 46 (.code mX12_keeps.1 mX12_keeps.2.1 mX12_keeps.2.2.1 mX12_keeps.2.2.2.1) && plainName mX12_keeps.1.cls) = true := by decide +kernel
set_option maxRecDepth 100000 in
theorem ok_X12_restores : (tX12_restores).all (eok mth mX12_restores) = true := ewk0_ok (by decide +kernel)
theorem cw_X12_restores : (wdq 8 54 (.code mX12_restores.1 mX12_restores.2.1 mX12_restores.2.2.1 mX12_restores.2.2.2.1) && plainName mX12_restores.1.cls) = true := by decide +kernel
set_option maxRecDepth 100000 in
theorem ok_X12_nights : (tX12_nights).all (eok mth mX12_nights) = true := ewk0_ok (by decide +kernel)
theorem cw_X12_nights : (wdq 8 50 (.code mX12_nights.1 mX12_nights.2.1 mX12_nights.2.2.1 mX12_nights.2.2.2.1) && plainName mX12_nights.1.cls) = true := by decide +kernel
set_option maxRecDepth 100000 in
theorem ok_X12_isLater : (tX12_isLater).all (eok mth mX12_isLater) = true := ewk0_ok (by decide +kernel)
theorem cw_X12_isLater : (wdq 8 41 (.code mX12_isLater.1 mX12_isLater.2.1 mX12_isLater.2.2.1 mX12_isLater.2.2.2.1) && plainName mX12_isLater.1.cls) = true := by decide +kernel
set_option maxRecDepth 100000 in
theorem ok_X12_walks : (tX12_walks).all (eok mth mX12_walks) = true := ewk0_ok (by decide +kernel)
theorem cw_X12_walks : (wdq 8 37 (.code mX12_walks.1 mX12_walks.2.1 mX12_walks.2.2.1 mX12_walks.2.2.2.1) && plainName mX12_walks.1.cls) = true := by decide +kernel
set_option maxRecDepth 100000 in
theorem ok_X12_later : (tX12_later).all (eok mth mX12_later) = true := ewk0_ok (by decide +kernel)
theorem cw_X12_later : (wdq 8 58 (.code mX12_later.1 mX12_later.2.1 mX12_later.2.2.1 mX12_later.2.2.2.1) && plainName mX12_later.1.cls) = true := by decide +kernel
set_option maxRecDepth 100000 in
theorem ok_X12_isSo : (tX12_isSo).all (eok mth mX12_isSo) = true := ewk0_ok (by decide +kernel)
theorem cw_X12_isSo : (wdq 8 70 (.code mX12_isSo.1 mX12_isSo.2.1 mX12_isSo.2.2.1 mX12_isSo.2.2.2.1) && plainName mX12_isSo.1.cls) = true := by decide +kernel
set_option maxRecDepth 100000 in
theorem ok_X12_nightsTill : (tX12_nightsTill).all (eok mth mX12_nightsTill) = true := ewk0_ok (by decide +kernel)
theorem cw_X12_nightsTill : (wdq 8 66 (.code mX12_nightsTill.1 mX12_nightsTill.2.1 mX12_nightsTill.2.2.1 mX12_nightsTill.2.2.2.1) && plainName mX12_nightsTill.1.cls) = true := by decide +kernel
set_option maxRecDepth 100000 in
theorem ok_X12_rest : (tX12_rest).all (eok mth mX12_rest) = true := ewk0_ok (by decide +kernel)
theorem cw_X12_rest : (wdq 8 62 (.code mX12_rest.1 mX12_rest.2.1 mX12_rest.2.2.1 mX12_rest.2.2.2.1) && plainName mX12_rest.1.cls) = true := by decide +kernel
set_option maxRecDepth 100000 in
theorem ok_X12_quiet : (tX12_quiet).all (eok mth mX12_quiet) = true := ewk0_ok (by decide +kernel)
theorem cw_X12_quiet : (wdq 8 74 (.code mX12_quiet.1 mX12_quiet.2.1 mX12_quiet.2.2.1 mX12_quiet.2.2.2.1) && plainName mX12_quiet.1.cls) = true := by decide +kernel
set_option maxRecDepth 100000 in
theorem ok_X12_harvest : (tX12_harvest).all (eok mth mX12_harvest) = true := ewk0_ok (by decide +kernel)
theorem cw_X12_harvest : (wdq 8 78 (.code mX12_harvest.1 mX12_harvest.2.1 mX12_harvest.2.2.1 mX12_harvest.2.2.2.1) && plainName mX12_harvest.1.cls) = true := by decide +kernel
set_option maxRecDepth 100000 in
theorem ok_X12_visitors : (tX12_visitors).all (eok mth mX12_visitors) = true := ewk0_ok (by decide +kernel)
theorem cw_X12_visitors : (wdq 8 83 (.code mX12_visitors.1 mX12_visitors.2.1 mX12_visitors.2.2.1 mX12_visitors.2.2.2.1) && plainName mX12_visitors.1.cls) = true := by decide +kernel
set_option maxRecDepth 100000 in
theorem ok_X12_stays : (tX12_stays).all (eok mth mX12_stays) = true := ewk0_ok (by decide +kernel)
theorem cw_X12_stays : (wdq 8 87 (.code mX12_stays.1 mX12_stays.2.1 mX12_stays.2.2.1 mX12_stays.2.2.2.1) && plainName mX12_stays.1.cls) = true := by decide +kernel
set_option maxRecDepth 100000 in
theorem ok_X12_must : (tX12_must).all (eok mth mX12_must) = true := ewk0_ok (by decide +kernel)
theorem cw_X12_must : (wdq 8 91 (.code mX12_must.1 mX12_must.2.1 mX12_must.2.2.1 mX12_must.2.2.2.1) && plainName mX12_must.1.cls) = true := by decide +kernel
set_option maxRecDepth 100000 in
theorem ok_X12_reach : (tX12_reach).all (eok mth mX12_reach) = true := ewk0_ok (by decide +kernel)
theorem cw_X12_reach : (wdq 8 95 (.code mX12_reach.1 mX12_reach.2.1 mX12_reach.2.2.1 mX12_reach.2.2.2.1) && plainName mX12_reach.1.cls) = true := by decide +kernel
set_option maxRecDepth 100000 in
theorem ok_X12_tours : (tX12_tours).all (eok mth mX12_tours) = true := ewk0_ok (by decide +kernel)
theorem cw_X12_tours : (wdq 8 99 (.code mX12_tours.1 mX12_tours.2.1 mX12_tours.2.2.1 mX12_tours.2.2.2.1) && plainName mX12_tours.1.cls) = true := by decide +kernel
set_option maxRecDepth 100000 in
theorem ok_X12_meets : (tX12_meets).all (eok mth mX12_meets) = true := ewk0_ok (by decide +kernel)
theorem cw_X12_meets : (wdq 8 103 (.code mX12_meets.1 mX12_meets.2.1 mX12_meets.2.2.1 mX12_meets.2.2.2.1) && plainName mX12_meets.1.cls) = true := by decide +kernel
set_option maxRecDepth 100000 in
theorem ok_X12_mostOf : (tX12_mostOf).all (eok mth mX12_mostOf) = true := ewk0_ok (by decide +kernel)
theorem cw_X12_mostOf : (wdq 8 119 (.code mX12_mostOf.1 mX12_mostOf.2.1 mX12_mostOf.2.2.1 mX12_mostOf.2.2.2.1) && plainName mX12_mostOf.1.cls) = true := by decide +kernel
set_option maxRecDepth 100000 in
theorem ok_X12_counts : (tX12_counts).all (eok mth mX12_counts) = true := ewk0_ok (by decide +kernel)
theorem cw_X12_counts : (wdq 8 115 (.code mX12_counts.1 mX12_counts.2.1 mX12_counts.2.2.1 mX12_counts.2.2.2.1) && plainName mX12_counts.1.cls) = true := by decide +kernel
set_option maxRecDepth 100000 in
theorem ok_X12_clears : (tX12_clears).all (eok mth mX12_clears) = true := ewk0_ok (by decide +kernel)
theorem cw_X12_clears : (wdq 8 111 (.code mX12_clears.1 mX12_clears.2.1 mX12_clears.2.2.1 mX12_clears.2.2.2.1) && plainName mX12_clears.1.cls) = true := by decide +kernel
set_option maxRecDepth 100000 in
theorem ok_X12_crowd : (tX12_crowd).all (eok mth mX12_crowd) = true := ewk0_ok (by decide +kernel)
theorem cw_X12_crowd : (wdq 8 107 (.code mX12_crowd.1 mX12_crowd.2.1 mX12_crowd.2.2.1 mX12_crowd.2.2.2.1) && plainName mX12_crowd.1.cls) = true := by decide +kernel
set_option maxRecDepth 100000 in
theorem ok_X12_busiest : (tX12_busiest).all (eok mth mX12_busiest) = true := ewk0_ok (by decide +kernel)
theorem cw_X12_busiest : (wdq 8 123 (.code mX12_busiest.1 mX12_busiest.2.1 mX12_busiest.2.2.1 mX12_busiest.2.2.2.1) && plainName mX12_busiest.1.cls) = true := by decide +kernel
set_option maxRecDepth 100000 in
theorem ok_X12_exposed : (tX12_exposed).all (eok mth mX12_exposed) = true := ewk0_ok (by decide +kernel)
theorem cw_X12_exposed : (wdq 8 127 (.code mX12_exposed.1 mX12_exposed.2.1 mX12_exposed.2.2.1 mX12_exposed.2.2.2.1) && plainName mX12_exposed.1.cls) = true := by decide +kernel
set_option maxRecDepth 100000 in
theorem ok_X12_wells : (tX12_wells).all (eok mth mX12_wells) = true := ewk0_ok (by decide +kernel)
theorem cw_X12_wells : (wdq 8 131 (.code mX12_wells.1 mX12_wells.2.1 mX12_wells.2.2.1 mX12_wells.2.2.2.1) && plainName mX12_wells.1.cls) = true := by decide +kernel
set_option maxRecDepth 100000 in
theorem ok_X12_ways : (tX12_ways).all (eok mth mX12_ways) = true := ewk0_ok (by decide +kernel)
theorem cw_X12_ways : (wdq 8 135 (.code mX12_ways.1 mX12_ways.2.1 mX12_ways.2.2.1 mX12_ways.2.2.2.1) && plainName mX12_ways.1.cls) = true := by decide +kernel
set_option maxRecDepth 100000 in
theorem ok_X12_heirs : (tX12_heirs).all (eok mth mX12_heirs) = true := ewk0_ok (by decide +kernel)
theorem cw_X12_heirs : (wdq 8 139 (.code mX12_heirs.1 mX12_heirs.2.1 mX12_heirs.2.2.1 mX12_heirs.2.2.2.1) && plainName mX12_heirs.1.cls) = true := by decide +kernel
set_option maxRecDepth 100000 in
theorem ok_X12_sorrowBehind : (tX12_sorrowBehind).all (eok mth mX12_sorrowBehind) = true := ewk0_ok (by decide +kernel)
theorem cw_X12_sorrowBehind : (wdq 8 147 (.code mX12_sorrowBehind.1 mX12_sorrowBehind.2.1 mX12_sorrowBehind.2.2.1 mX12_sorrowBehind.2.2.2.1) && plainName mX12_sorrowBehind.1.cls) = true := by decide +kernel
set_option maxRecDepth 100000 in
theorem ok_X12_loss : (tX12_loss).all (eok mth mX12_loss) = true := ewk0_ok (by decide +kernel)
theorem cw_X12_loss : (wdq 8 143 (.code mX12_loss.1 mX12_loss.2.1 mX12_loss.2.2.1 mX12_loss.2.2.2.1) && plainName mX12_loss.1.cls) = true := by decide +kernel
set_option maxRecDepth 100000 in
theorem ok_X12_saint : (tX12_saint).all (eok mth mX12_saint) = true := ewk0_ok (by decide +kernel)
theorem cw_X12_saint : (wdq 8 151 (.code mX12_saint.1 mX12_saint.2.1 mX12_saint.2.2.1 mX12_saint.2.2.2.1) && plainName mX12_saint.1.cls) = true := by decide +kernel
set_option maxRecDepth 100000 in
theorem ok_X12_labourBy : (tX12_labourBy).all (eok mth mX12_labourBy) = true := ewk0_ok (by decide +kernel)
theorem cw_X12_labourBy : (wdq 8 159 (.code mX12_labourBy.1 mX12_labourBy.2.1 mX12_labourBy.2.2.1 mX12_labourBy.2.2.2.1) && plainName mX12_labourBy.1.cls) = true := by decide +kernel
set_option maxRecDepth 100000 in
theorem ok_X12_keeper : (tX12_keeper).all (eok mth mX12_keeper) = true := ewk0_ok (by decide +kernel)
theorem cw_X12_keeper : (wdq 8 155 (.code mX12_keeper.1 mX12_keeper.2.1 mX12_keeper.2.2.1 mX12_keeper.2.2.2.1) && plainName mX12_keeper.1.cls) = true := by decide +kernel
set_option maxRecDepth 100000 in
theorem ok_X12_lonely : (tX12_lonely).all (eok mth mX12_lonely) = true := ewk0_ok (by decide +kernel)
theorem cw_X12_lonely : (wdq 8 163 (.code mX12_lonely.1 mX12_lonely.2.1 mX12_lonely.2.2.1 mX12_lonely.2.2.2.1) && plainName mX12_lonely.1.cls) = true := by decide +kernel
set_option maxRecDepth 100000 in
theorem ok_X12_due : (tX12_due).all (eok mth mX12_due) = true := ewk0_ok (by decide +kernel)
theorem cw_X12_due : (wdq 8 167 (.code mX12_due.1 mX12_due.2.1 mX12_due.2.2.1 mX12_due.2.2.2.1) && plainName mX12_due.1.cls) = true := by decide +kernel
