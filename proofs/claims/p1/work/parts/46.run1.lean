set_option maxRecDepth 100000 in
theorem stC6_19_9223372036854775864 : ax_ck (ax_run sbs mth 1000000 mL_law 999999 925 (ax_jmp tL_law 925) [ax_full, (9223372036854775864, 9223372036854775879), ax_full, ax_full, ax_full, ax_full, (9223372036854775814, 9223372036854775814), (9223372036854775826, 9223372036854775826)] hA 185 11361 lA []) = true := by decide +kernel
set_option maxRecDepth 100000 in
theorem stC6_19_9223372036854775880 : ax_ck (ax_run sbs mth 1000000 mL_law 999999 925 (ax_jmp tL_law 925) [ax_full, (9223372036854775880, 9223372036854775891), ax_full, ax_full, ax_full, ax_full, (9223372036854775814, 9223372036854775814), (9223372036854775826, 9223372036854775826)] hA 185 11361 lA []) = true := by decide +kernel
set_option maxRecDepth 100000 in
theorem stC6_19_9223372036854775892 : ax_ck (ax_run sbs mth 1000000 mL_law 999999 925 (ax_jmp tL_law 925) [ax_full, (9223372036854775892, 9223372036854775900), ax_full, ax_full, ax_full, ax_full, (9223372036854775814, 9223372036854775814), (9223372036854775826, 9223372036854775826)] hA 185 11361 lA []) = true := by decide +kernel
set_option maxRecDepth 100000 in
theorem stC6_19_9223372036854775901 : ax_ck (ax_run sbs mth 1000000 mL_law 999999 925 (ax_jmp tL_law 925) [ax_full, (9223372036854775901, 9223372036854775907), ax_full, ax_full, ax_full, ax_full, (9223372036854775814, 9223372036854775814), (9223372036854775826, 9223372036854775826)] hA 185 11361 lA []) = true := by decide +kernel
set_option maxRecDepth 100000 in
theorem stC6_19_9223372036854775908 : ax_ck (ax_run sbs mth 1000000 mL_law 999999 925 (ax_jmp tL_law 925) [ax_full, (9223372036854775908, 9223372039002259455), ax_full, ax_full, ax_full, ax_full, (9223372036854775814, 9223372036854775814), (9223372036854775826, 9223372036854775826)] hA 185 11361 lA []) = true := by decide +kernel
set_option maxRecDepth 100000 in
theorem stC6_20 : ax_ck (ax_run sbs mth 1000000 mL_law 999999 948 (ax_jmp tL_law 948) [ax_full, ax_full, ax_full, ax_full, ax_full, ax_full, (9223372036854775814, 9223372036854775814), (9223372036854775827, 9223372036854775827)] hA 185 11361 lA []) = true := by decide +kernel
set_option maxRecDepth 100000 in
theorem stC6_21 : ax_ck (ax_run sbs mth 1000000 mL_law 999999 971 (ax_jmp tL_law 971) [ax_full, ax_full, ax_full, ax_full, ax_full, ax_full, (9223372036854775814, 9223372036854775814), (9223372036854775828, 9223372036854775828)] hA 185 11361 lA []) = true := by decide +kernel
set_option maxRecDepth 100000 in
theorem stC6_22 : ax_ck (ax_run sbs mth 1000000 mL_law 999999 1004 (ax_jmp tL_law 1004) [ax_full, ax_full, ax_full, ax_full, ax_full, ax_full, (9223372036854775814, 9223372036854775814), (9223372036854775829, 9223372036854775829)] hA 185 11361 lA []) = true := by decide +kernel
set_option maxRecDepth 100000 in
theorem stC6_23 : ax_ck (ax_run sbs mth 1000000 mL_law 999999 1047 (ax_jmp tL_law 1047) [ax_full, ax_full, ax_full, ax_full, ax_full, ax_full, (9223372036854775814, 9223372036854775814), (9223372036854775830, 9223372036854775830)] hA 185 11361 lA []) = true := by decide +kernel
set_option maxRecDepth 100000 in
theorem stC6_24 : ax_ck (ax_run sbs mth 1000000 mL_law 999999 1096 (ax_jmp tL_law 1096) [ax_full, ax_full, ax_full, ax_full, ax_full, ax_full, (9223372036854775814, 9223372036854775814), (9223372036854775831, 9223372036854775831)] hA 185 11361 lA []) = true := by decide +kernel
set_option maxRecDepth 100000 in
theorem stC6_25 : ax_ck (ax_run sbs mth 1000000 mL_law 999999 1145 (ax_jmp tL_law 1145) [ax_full, ax_full, ax_full, ax_full, ax_full, ax_full, (9223372036854775814, 9223372036854775814), (9223372036854775832, 9223372036854775832)] hA 185 11361 lA []) = true := by decide +kernel
set_option maxRecDepth 100000 in
theorem stC6_26 : ax_ck (ax_run sbs mth 1000000 mL_law 999999 1204 (ax_jmp tL_law 1204) [ax_full, ax_full, ax_full, ax_full, ax_full, ax_full, (9223372036854775814, 9223372036854775814), (9223372036854775833, 9223372036854775833)] hA 185 11361 lA []) = true := by decide +kernel
set_option maxRecDepth 100000 in
theorem stC6_27 : ax_ck (ax_run sbs mth 1000000 mL_law 999999 1237 (ax_jmp tL_law 1237) [ax_full, ax_full, ax_full, ax_full, ax_full, ax_full, (9223372036854775814, 9223372036854775814), (9223372036854775834, 9223372036854775834)] hA 185 11361 lA []) = true := by decide +kernel
set_option maxRecDepth 100000 in
theorem stC6_28 : ax_ck (ax_run sbs mth 1000000 mL_law 999999 1270 (ax_jmp tL_law 1270) [ax_full, ax_full, ax_full, ax_full, ax_full, ax_full, (9223372036854775814, 9223372036854775814), (9223372036854775835, 9223372036854775835)] hA 185 11361 lA []) = true := by decide +kernel
set_option maxRecDepth 100000 in
theorem stC6_29 : ax_ck (ax_run sbs mth 1000000 mL_law 999999 1293 (ax_jmp tL_law 1293) [ax_full, ax_full, ax_full, ax_full, ax_full, ax_full, (9223372036854775814, 9223372036854775814), (9223372036854775836, 9223372036854775836)] hA 185 11361 lA []) = true := by decide +kernel
set_option maxRecDepth 100000 in
theorem stC6_30 : ax_ck (ax_run sbs mth 1000000 mL_law 999999 1316 (ax_jmp tL_law 1316) [ax_full, ax_full, ax_full, ax_full, ax_full, ax_full, (9223372036854775814, 9223372036854775814), (9223372036854775837, 9223372036854775837)] hA 185 11361 lA []) = true := by decide +kernel
set_option maxRecDepth 100000 in
theorem stC6_31 : ax_ck (ax_run sbs mth 1000000 mL_law 999999 1349 (ax_jmp tL_law 1349) [ax_full, ax_full, ax_full, ax_full, ax_full, ax_full, (9223372036854775814, 9223372036854775814), (9223372036854775838, 9223372036854775838)] hA 185 11361 lA []) = true := by decide +kernel
set_option maxRecDepth 100000 in
theorem stC6_32 : ax_ck (ax_run sbs mth 1000000 mL_law 999999 1382 (ax_jmp tL_law 1382) [ax_full, ax_full, ax_full, ax_full, ax_full, ax_full, (9223372036854775814, 9223372036854775814), (9223372036854775839, 9223372036854775839)] hA 185 11361 lA []) = true := by decide +kernel
set_option maxRecDepth 100000 in
theorem stC6_33 : ax_ck (ax_run sbs mth 1000000 mL_law 999999 1405 (ax_jmp tL_law 1405) [ax_full, ax_full, ax_full, ax_full, ax_full, ax_full, (9223372036854775814, 9223372036854775814), (9223372036854775840, 9223372036854775840)] hA 185 11361 lA []) = true := by decide +kernel
set_option maxRecDepth 100000 in
theorem stC6_34 : ax_ck (ax_run sbs mth 1000000 mL_law 999999 1428 (ax_jmp tL_law 1428) [ax_full, ax_full, ax_full, ax_full, ax_full, ax_full, (9223372036854775814, 9223372036854775814), (9223372036854775841, 9223372036854775841)] hA 185 11361 lA []) = true := by decide +kernel
set_option maxRecDepth 100000 in
theorem stC6_35 : ax_ck (ax_run sbs mth 1000000 mL_law 999999 1461 (ax_jmp tL_law 1461) [ax_full, ax_full, ax_full, ax_full, ax_full, ax_full, (9223372036854775814, 9223372036854775814), (9223372036854775842, 9223372036854775842)] hA 185 11361 lA []) = true := by decide +kernel
set_option maxRecDepth 100000 in
theorem stC6_36 : ax_ck (ax_run sbs mth 1000000 mL_law 999999 1494 (ax_jmp tL_law 1494) [ax_full, ax_full, ax_full, ax_full, ax_full, ax_full, (9223372036854775814, 9223372036854775814), (9223372036854775843, 9223372036854775843)] hA 185 11361 lA []) = true := by decide +kernel
set_option maxRecDepth 100000 in
theorem stC6_37 : ax_ck (ax_run sbs mth 1000000 mL_law 999999 1537 (ax_jmp tL_law 1537) [ax_full, ax_full, ax_full, ax_full, ax_full, ax_full, (9223372036854775814, 9223372036854775814), (9223372036854775844, 9223372036854775844)] hA 185 11361 lA []) = true := by decide +kernel
set_option maxRecDepth 100000 in
theorem stC6_38 : ax_ck (ax_run sbs mth 1000000 mL_law 999999 1570 (ax_jmp tL_law 1570) [ax_full, ax_full, ax_full, ax_full, ax_full, ax_full, (9223372036854775814, 9223372036854775814), (9223372036854775845, 9223372036854775845)] hA 185 11361 lA []) = true := by decide +kernel
set_option maxRecDepth 100000 in
theorem stC6_39 : ax_ck (ax_run sbs mth 1000000 mL_law 999999 1593 (ax_jmp tL_law 1593) [ax_full, ax_full, ax_full, ax_full, ax_full, ax_full, (9223372036854775814, 9223372036854775814), (9223372036854775846, 9223372036854775846)] hA 185 11361 lA []) = true := by decide +kernel
set_option maxRecDepth 100000 in
theorem stC6_40 : ax_ck (ax_run sbs mth 1000000 mL_law 999999 1626 (ax_jmp tL_law 1626) [ax_full, ax_full, ax_full, ax_full, ax_full, ax_full, (9223372036854775814, 9223372036854775814), (9223372036854775847, 9223372036854775847)] hA 185 11361 lA []) = true := by decide +kernel
set_option maxRecDepth 100000 in
theorem stC6_41 : ax_ck (ax_run sbs mth 1000000 mL_law 999999 1659 (ax_jmp tL_law 1659) [ax_full, ax_full, ax_full, ax_full, ax_full, ax_full, (9223372036854775814, 9223372036854775814), (9223372036854775848, 9223372036854775848)] hA 185 11361 lA []) = true := by decide +kernel
set_option maxRecDepth 100000 in
theorem stC6_42_9223372034707292160 : ax_ck (ax_run sbs mth 1000000 mL_law 999999 1672 (ax_jmp tL_law 1672) [ax_full, (9223372034707292160, 9223372036854775808), ax_full, ax_full, ax_full, ax_full, (9223372036854775814, 9223372036854775814), (9223372036854775849, 9223372036854775849)] hA 185 11361 lA []) = true := by decide +kernel
