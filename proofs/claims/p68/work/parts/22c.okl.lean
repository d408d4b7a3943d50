set_option maxRecDepth 100000 in
theorem ok_tL_0 : (tL_0).all (eok mth mL_law) = true := ewkp_ok 0 (by decide +kernel)
set_option maxRecDepth 100000 in
theorem ok_tL_1 : (tL_1).all (eok mth mL_law) = true := ewkp_ok 360 (by decide +kernel)
set_option maxRecDepth 100000 in
theorem ok_tL_2 : (tL_2).all (eok mth mL_law) = true := ewkp_ok 410 (by decide +kernel)
set_option maxRecDepth 100000 in
theorem ok_tL_3 : (tL_3).all (eok mth mL_law) = true := ewkp_ok 455 (by decide +kernel)
set_option maxRecDepth 100000 in
theorem ok_tL_4 : (tL_4).all (eok mth mL_law) = true := ewkp_ok 504 (by decide +kernel)
set_option maxRecDepth 100000 in
theorem ok_tL_5 : (tL_5).all (eok mth mL_law) = true := ewkp_ok 550 (by decide +kernel)
set_option maxRecDepth 100000 in
theorem ok_tL_6 : (tL_6).all (eok mth mL_law) = true := ewkp_ok 594 (by decide +kernel)
set_option maxRecDepth 100000 in
theorem ok_tL_7 : (tL_7).all (eok mth mL_law) = true := ewkp_ok 638 (by decide +kernel)
set_option maxRecDepth 100000 in
theorem ok_tL_8 : (tL_8).all (eok mth mL_law) = true := ewkp_ok 692 (by decide +kernel)
set_option maxRecDepth 100000 in
theorem ok_tL_9 : (tL_9).all (eok mth mL_law) = true := ewkp_ok 744 (by decide +kernel)
set_option maxRecDepth 100000 in
theorem ok_tL_10 : (tL_10).all (eok mth mL_law) = true := ewkp_ok 792 (by decide +kernel)
set_option maxRecDepth 100000 in
theorem ok_tL_11 : (tL_11).all (eok mth mL_law) = true := ewkp_ok 842 (by decide +kernel)
set_option maxRecDepth 100000 in
theorem ok_tL_12 : (tL_12).all (eok mth mL_law) = true := ewkp_ok 894 (by decide +kernel)
set_option maxRecDepth 100000 in
theorem ok_tL_13 : (tL_13).all (eok mth mL_law) = true := ewkp_ok 946 (by decide +kernel)
set_option maxRecDepth 100000 in
theorem ok_tL_14 : (tL_14).all (eok mth mL_law) = true := ewkp_ok 994 (by decide +kernel)
set_option maxRecDepth 100000 in
theorem ok_tL_15 : (tL_15).all (eok mth mL_law) = true := ewkp_ok 1044 (by decide +kernel)
set_option maxRecDepth 100000 in
theorem ok_tL_16 : (tL_16).all (eok mth mL_law) = true := ewkp_ok 1098 (by decide +kernel)
set_option maxRecDepth 100000 in
theorem ok_tL_17 : (tL_17).all (eok mth mL_law) = true := ewkp_ok 1152 (by decide +kernel)
set_option maxRecDepth 100000 in
theorem ok_tL_18 : (tL_18).all (eok mth mL_law) = true := ewkp_ok 1206 (by decide +kernel)
set_option maxRecDepth 100000 in
theorem ok_tL_19 : (tL_19).all (eok mth mL_law) = true := ewkp_ok 1254 (by decide +kernel)
set_option maxRecDepth 100000 in
theorem ok_tL_20 : (tL_20).all (eok mth mL_law) = true := ewkp_ok 1306 (by decide +kernel)
set_option maxRecDepth 100000 in
theorem ok_tL_21 : (tL_21).all (eok mth mL_law) = true := ewkp_ok 1356 (by decide +kernel)
set_option maxRecDepth 100000 in
theorem ok_tL_22 : (tL_22).all (eok mth mL_law) = true := ewkp_ok 1408 (by decide +kernel)
set_option maxRecDepth 100000 in
theorem ok_tL_23 : (tL_23).all (eok mth mL_law) = true := ewkp_ok 1460 (by decide +kernel)
set_option maxRecDepth 100000 in
theorem ok_tL_24 : (tL_24).all (eok mth mL_law) = true := ewkp_ok 1506 (by decide +kernel)
set_option maxRecDepth 100000 in
theorem ok_tL_25 : (tL_25).all (eok mth mL_law) = true := ewkp_ok 1554 (by decide +kernel)
set_option maxRecDepth 100000 in
theorem ok_tL_26 : (tL_26).all (eok mth mL_law) = true := ewkp_ok 1606 (by decide +kernel)
set_option maxRecDepth 100000 in
theorem ok_tL_27 : (tL_27).all (eok mth mL_law) = true := ewkp_ok 1656 (by decide +kernel)
set_option maxRecDepth 100000 in
theorem ok_tL_28 : (tL_28).all (eok mth mL_law) = true := ewkp_ok 1714 (by decide +kernel)
set_option maxRecDepth 100000 in
theorem ok_tL_29 : (tL_29).all (eok mth mL_law) = true := ewkp_ok 1762 (by decide +kernel)
set_option maxRecDepth 100000 in
theorem ok_tL_30 : (tL_30).all (eok mth mL_law) = true := ewkp_ok 1814 (by decide +kernel)
set_option maxRecDepth 100000 in
theorem ok_tL_31 : (tL_31).all (eok mth mL_law) = true := ewkp_ok 1878 (by decide +kernel)
set_option maxRecDepth 100000 in
theorem ok_tL_32 : (tL_32).all (eok mth mL_law) = true := ewkp_ok 1932 (by decide +kernel)
set_option maxRecDepth 100000 in
theorem ok_tL_33 : (tL_33).all (eok mth mL_law) = true := ewkp_ok 1982 (by decide +kernel)
set_option maxRecDepth 100000 in
theorem ok_tL_34 : (tL_34).all (eok mth mL_law) = true := ewkp_ok 2034 (by decide +kernel)
set_option maxRecDepth 100000 in
theorem ok_tL_35 : (tL_35).all (eok mth mL_law) = true := ewkp_ok 2080 (by decide +kernel)
set_option maxRecDepth 100000 in
theorem ok_tL_36 : (tL_36).all (eok mth mL_law) = true := ewkp_ok 2152 (by decide +kernel)
set_option maxRecDepth 100000 in
theorem ok_tL_37 : (tL_37).all (eok mth mL_law) = true := ewkp_ok 2210 (by decide +kernel)
set_option maxRecDepth 100000 in
theorem ok_tL_38 : (tL_38).all (eok mth mL_law) = true := ewkp_ok 2260 (by decide +kernel)
