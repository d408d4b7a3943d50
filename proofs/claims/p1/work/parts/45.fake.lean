set_option maxRecDepth 100000 in
theorem stC6_0 : ax_ck (ax_run sbs mth 1000000 mL_law 999999 2299 (ax_jmp tL_law 2299) [ax_full, ax_full, ax_full, ax_full, ax_full, ax_full, (9223372036854775814, 9223372036854775814), (9223372036854775878, 9223372036854775935)] hA 185 11361 lA []) = true := by sorry
set_option maxRecDepth 100000 in
theorem stC6_1 : ax_ck (ax_run sbs mth 1000000 mL_law 999999 328 (ax_jmp tL_law 328) [ax_full, ax_full, ax_full, ax_full, ax_full, ax_full, (9223372036854775814, 9223372036854775814), (9223372036854775808, 9223372036854775808)] hA 185 11361 lA []) = true := by sorry
set_option maxRecDepth 100000 in
theorem stC6_2 : ax_ck (ax_run sbs mth 1000000 mL_law 999999 341 (ax_jmp tL_law 341) [ax_full, ax_full, ax_full, ax_full, ax_full, ax_full, (9223372036854775814, 9223372036854775814), (9223372036854775809, 9223372036854775809)] hA 185 11361 lA []) = true := by sorry
set_option maxRecDepth 100000 in
theorem stC6_3 : ax_ck (ax_run sbs mth 1000000 mL_law 999999 355 (ax_jmp tL_law 355) [ax_full, ax_full, ax_full, ax_full, ax_full, ax_full, (9223372036854775814, 9223372036854775814), (9223372036854775810, 9223372036854775810)] hA 185 11361 lA []) = true := by sorry
set_option maxRecDepth 100000 in
theorem stC6_4 : ax_ck (ax_run sbs mth 1000000 mL_law 999999 369 (ax_jmp tL_law 369) [ax_full, ax_full, ax_full, ax_full, ax_full, ax_full, (9223372036854775814, 9223372036854775814), (9223372036854775811, 9223372036854775811)] hA 185 11361 lA []) = true := by sorry
set_option maxRecDepth 100000 in
theorem stC6_5 : ax_ck (ax_run sbs mth 1000000 mL_law 999999 412 (ax_jmp tL_law 412) [ax_full, ax_full, ax_full, ax_full, ax_full, ax_full, (9223372036854775814, 9223372036854775814), (9223372036854775812, 9223372036854775812)] hA 185 11361 lA []) = true := by sorry
set_option maxRecDepth 100000 in
theorem stC6_6 : ax_ck (ax_run sbs mth 1000000 mL_law 999999 485 (ax_jmp tL_law 485) [ax_full, ax_full, ax_full, ax_full, ax_full, ax_full, (9223372036854775814, 9223372036854775814), (9223372036854775813, 9223372036854775813)] hA 185 11361 lA []) = true := by sorry
set_option maxRecDepth 100000 in
theorem stC6_7 : ax_ck (ax_run sbs mth 1000000 mL_law 999999 519 (ax_jmp tL_law 519) [ax_full, ax_full, ax_full, ax_full, ax_full, ax_full, (9223372036854775814, 9223372036854775814), (9223372036854775814, 9223372036854775814)] hA 185 11361 lA []) = true := by sorry
set_option maxRecDepth 100000 in
theorem stC6_8 : ax_ck (ax_run sbs mth 1000000 mL_law 999999 582 (ax_jmp tL_law 582) [ax_full, ax_full, ax_full, ax_full, ax_full, ax_full, (9223372036854775814, 9223372036854775814), (9223372036854775815, 9223372036854775815)] hA 185 11361 lA []) = true := by sorry
set_option maxRecDepth 100000 in
theorem stC6_9 : ax_ck (ax_run sbs mth 1000000 mL_law 999999 645 (ax_jmp tL_law 645) [ax_full, ax_full, ax_full, ax_full, ax_full, ax_full, (9223372036854775814, 9223372036854775814), (9223372036854775816, 9223372036854775816)] hA 185 11361 lA []) = true := by sorry
set_option maxRecDepth 100000 in
theorem stC6_10 : ax_ck (ax_run sbs mth 1000000 mL_law 999999 668 (ax_jmp tL_law 668) [ax_full, ax_full, ax_full, ax_full, ax_full, ax_full, (9223372036854775814, 9223372036854775814), (9223372036854775817, 9223372036854775817)] hA 185 11361 lA []) = true := by sorry
set_option maxRecDepth 100000 in
theorem stC6_11 : ax_ck (ax_run sbs mth 1000000 mL_law 999999 691 (ax_jmp tL_law 691) [ax_full, ax_full, ax_full, ax_full, ax_full, ax_full, (9223372036854775814, 9223372036854775814), (9223372036854775818, 9223372036854775818)] hA 185 11361 lA []) = true := by sorry
set_option maxRecDepth 100000 in
theorem stC6_12 : ax_ck (ax_run sbs mth 1000000 mL_law 999999 714 (ax_jmp tL_law 714) [ax_full, ax_full, ax_full, ax_full, ax_full, ax_full, (9223372036854775814, 9223372036854775814), (9223372036854775819, 9223372036854775819)] hA 185 11361 lA []) = true := by sorry
set_option maxRecDepth 100000 in
theorem stC6_13 : ax_ck (ax_run sbs mth 1000000 mL_law 999999 737 (ax_jmp tL_law 737) [ax_full, ax_full, ax_full, ax_full, ax_full, ax_full, (9223372036854775814, 9223372036854775814), (9223372036854775820, 9223372036854775820)] hA 185 11361 lA []) = true := by sorry
set_option maxRecDepth 100000 in
theorem stC6_14 : ax_ck (ax_run sbs mth 1000000 mL_law 999999 770 (ax_jmp tL_law 770) [ax_full, ax_full, ax_full, ax_full, ax_full, ax_full, (9223372036854775814, 9223372036854775814), (9223372036854775821, 9223372036854775821)] hA 185 11361 lA []) = true := by sorry
set_option maxRecDepth 100000 in
theorem stC6_15 : ax_ck (ax_run sbs mth 1000000 mL_law 999999 803 (ax_jmp tL_law 803) [ax_full, ax_full, ax_full, ax_full, ax_full, ax_full, (9223372036854775814, 9223372036854775814), (9223372036854775822, 9223372036854775822)] hA 185 11361 lA []) = true := by sorry
set_option maxRecDepth 100000 in
theorem stC6_16 : ax_ck (ax_run sbs mth 1000000 mL_law 999999 836 (ax_jmp tL_law 836) [ax_full, ax_full, ax_full, ax_full, ax_full, ax_full, (9223372036854775814, 9223372036854775814), (9223372036854775823, 9223372036854775823)] hA 185 11361 lA []) = true := by sorry
set_option maxRecDepth 100000 in
theorem stC6_17 : ax_ck (ax_run sbs mth 1000000 mL_law 999999 869 (ax_jmp tL_law 869) [ax_full, ax_full, ax_full, ax_full, ax_full, ax_full, (9223372036854775814, 9223372036854775814), (9223372036854775824, 9223372036854775824)] hA 185 11361 lA []) = true := by sorry
set_option maxRecDepth 100000 in
theorem stC6_18 : ax_ck (ax_run sbs mth 1000000 mL_law 999999 892 (ax_jmp tL_law 892) [ax_full, ax_full, ax_full, ax_full, ax_full, ax_full, (9223372036854775814, 9223372036854775814), (9223372036854775825, 9223372036854775825)] hA 185 11361 lA []) = true := by sorry
set_option maxRecDepth 100000 in
theorem stC6_19_9223372034707292160 : ax_ck (ax_run sbs mth 1000000 mL_law 999999 925 (ax_jmp tL_law 925) [ax_full, (9223372034707292160, 9223372036854775808), ax_full, ax_full, ax_full, ax_full, (9223372036854775814, 9223372036854775814), (9223372036854775826, 9223372036854775826)] hA 185 11361 lA []) = true := by sorry
set_option maxRecDepth 100000 in
theorem stC6_19_9223372036854775809 : ax_ck (ax_run sbs mth 1000000 mL_law 999999 925 (ax_jmp tL_law 925) [ax_full, (9223372036854775809, 9223372036854775853), ax_full, ax_full, ax_full, ax_full, (9223372036854775814, 9223372036854775814), (9223372036854775826, 9223372036854775826)] hA 185 11361 lA []) = true := by sorry
set_option maxRecDepth 100000 in
theorem stC6_19_9223372036854775854 : ax_ck (ax_run sbs mth 1000000 mL_law 999999 925 (ax_jmp tL_law 925) [ax_full, (9223372036854775854, 9223372036854775879), ax_full, ax_full, ax_full, ax_full, (9223372036854775814, 9223372036854775814), (9223372036854775826, 9223372036854775826)] hA 185 11361 lA []) = true := by sorry
set_option maxRecDepth 100000 in
theorem stC6_19_9223372036854775880 : ax_ck (ax_run sbs mth 1000000 mL_law 999999 925 (ax_jmp tL_law 925) [ax_full, (9223372036854775880, 9223372036854775907), ax_full, ax_full, ax_full, ax_full, (9223372036854775814, 9223372036854775814), (9223372036854775826, 9223372036854775826)] hA 185 11361 lA []) = true := by sorry
set_option maxRecDepth 100000 in
theorem stC6_19_9223372036854775908 : ax_ck (ax_run sbs mth 1000000 mL_law 999999 925 (ax_jmp tL_law 925) [ax_full, (9223372036854775908, 9223372039002259455), ax_full, ax_full, ax_full, ax_full, (9223372036854775814, 9223372036854775814), (9223372036854775826, 9223372036854775826)] hA 185 11361 lA []) = true := by sorry
set_option maxRecDepth 100000 in
theorem stC6_20 : ax_ck (ax_run sbs mth 1000000 mL_law 999999 948 (ax_jmp tL_law 948) [ax_full, ax_full, ax_full, ax_full, ax_full, ax_full, (9223372036854775814, 9223372036854775814), (9223372036854775827, 9223372036854775827)] hA 185 11361 lA []) = true := by sorry
set_option maxRecDepth 100000 in
theorem stC6_21 : ax_ck (ax_run sbs mth 1000000 mL_law 999999 971 (ax_jmp tL_law 971) [ax_full, ax_full, ax_full, ax_full, ax_full, ax_full, (9223372036854775814, 9223372036854775814), (9223372036854775828, 9223372036854775828)] hA 185 11361 lA []) = true := by sorry
set_option maxRecDepth 100000 in
theorem stC6_22 : ax_ck (ax_run sbs mth 1000000 mL_law 999999 1004 (ax_jmp tL_law 1004) [ax_full, ax_full, ax_full, ax_full, ax_full, ax_full, (9223372036854775814, 9223372036854775814), (9223372036854775829, 9223372036854775829)] hA 185 11361 lA []) = true := by sorry
set_option maxRecDepth 100000 in
theorem stC6_23 : ax_ck (ax_run sbs mth 1000000 mL_law 999999 1047 (ax_jmp tL_law 1047) [ax_full, ax_full, ax_full, ax_full, ax_full, ax_full, (9223372036854775814, 9223372036854775814), (9223372036854775830, 9223372036854775830)] hA 185 11361 lA []) = true := by sorry
set_option maxRecDepth 100000 in
theorem stC6_24 : ax_ck (ax_run sbs mth 1000000 mL_law 999999 1096 (ax_jmp tL_law 1096) [ax_full, ax_full, ax_full, ax_full, ax_full, ax_full, (9223372036854775814, 9223372036854775814), (9223372036854775831, 9223372036854775831)] hA 185 11361 lA []) = true := by sorry
set_option maxRecDepth 100000 in
theorem stC6_25 : ax_ck (ax_run sbs mth 1000000 mL_law 999999 1145 (ax_jmp tL_law 1145) [ax_full, ax_full, ax_full, ax_full, ax_full, ax_full, (9223372036854775814, 9223372036854775814), (9223372036854775832, 9223372036854775832)] hA 185 11361 lA []) = true := by sorry
set_option maxRecDepth 100000 in
theorem stC6_26 : ax_ck (ax_run sbs mth 1000000 mL_law 999999 1204 (ax_jmp tL_law 1204) [ax_full, ax_full, ax_full, ax_full, ax_full, ax_full, (9223372036854775814, 9223372036854775814), (9223372036854775833, 9223372036854775833)] hA 185 11361 lA []) = true := by sorry
set_option maxRecDepth 100000 in
theorem stC6_27 : ax_ck (ax_run sbs mth 1000000 mL_law 999999 1237 (ax_jmp tL_law 1237) [ax_full, ax_full, ax_full, ax_full, ax_full, ax_full, (9223372036854775814, 9223372036854775814), (9223372036854775834, 9223372036854775834)] hA 185 11361 lA []) = true := by sorry
set_option maxRecDepth 100000 in
theorem stC6_28 : ax_ck (ax_run sbs mth 1000000 mL_law 999999 1270 (ax_jmp tL_law 1270) [ax_full, ax_full, ax_full, ax_full, ax_full, ax_full, (9223372036854775814, 9223372036854775814), (9223372036854775835, 9223372036854775835)] hA 185 11361 lA []) = true := by sorry
set_option maxRecDepth 100000 in
theorem stC6_29 : ax_ck (ax_run sbs mth 1000000 mL_law 999999 1293 (ax_jmp tL_law 1293) [ax_full, ax_full, ax_full, ax_full, ax_full, ax_full, (9223372036854775814, 9223372036854775814), (9223372036854775836, 9223372036854775836)] hA 185 11361 lA []) = true := by sorry
set_option maxRecDepth 100000 in
theorem stC6_30 : ax_ck (ax_run sbs mth 1000000 mL_law 999999 1316 (ax_jmp tL_law 1316) [ax_full, ax_full, ax_full, ax_full, ax_full, ax_full, (9223372036854775814, 9223372036854775814), (9223372036854775837, 9223372036854775837)] hA 185 11361 lA []) = true := by sorry
set_option maxRecDepth 100000 in
theorem stC6_31 : ax_ck (ax_run sbs mth 1000000 mL_law 999999 1349 (ax_jmp tL_law 1349) [ax_full, ax_full, ax_full, ax_full, ax_full, ax_full, (9223372036854775814, 9223372036854775814), (9223372036854775838, 9223372036854775838)] hA 185 11361 lA []) = true := by sorry
set_option maxRecDepth 100000 in
theorem stC6_32 : ax_ck (ax_run sbs mth 1000000 mL_law 999999 1382 (ax_jmp tL_law 1382) [ax_full, ax_full, ax_full, ax_full, ax_full, ax_full, (9223372036854775814, 9223372036854775814), (9223372036854775839, 9223372036854775839)] hA 185 11361 lA []) = true := by sorry
set_option maxRecDepth 100000 in
theorem stC6_33 : ax_ck (ax_run sbs mth 1000000 mL_law 999999 1405 (ax_jmp tL_law 1405) [ax_full, ax_full, ax_full, ax_full, ax_full, ax_full, (9223372036854775814, 9223372036854775814), (9223372036854775840, 9223372036854775840)] hA 185 11361 lA []) = true := by sorry
set_option maxRecDepth 100000 in
theorem stC6_34 : ax_ck (ax_run sbs mth 1000000 mL_law 999999 1428 (ax_jmp tL_law 1428) [ax_full, ax_full, ax_full, ax_full, ax_full, ax_full, (9223372036854775814, 9223372036854775814), (9223372036854775841, 9223372036854775841)] hA 185 11361 lA []) = true := by sorry
set_option maxRecDepth 100000 in
theorem stC6_35 : ax_ck (ax_run sbs mth 1000000 mL_law 999999 1461 (ax_jmp tL_law 1461) [ax_full, ax_full, ax_full, ax_full, ax_full, ax_full, (9223372036854775814, 9223372036854775814), (9223372036854775842, 9223372036854775842)] hA 185 11361 lA []) = true := by sorry
set_option maxRecDepth 100000 in
theorem stC6_36 : ax_ck (ax_run sbs mth 1000000 mL_law 999999 1494 (ax_jmp tL_law 1494) [ax_full, ax_full, ax_full, ax_full, ax_full, ax_full, (9223372036854775814, 9223372036854775814), (9223372036854775843, 9223372036854775843)] hA 185 11361 lA []) = true := by sorry
set_option maxRecDepth 100000 in
theorem stC6_37 : ax_ck (ax_run sbs mth 1000000 mL_law 999999 1537 (ax_jmp tL_law 1537) [ax_full, ax_full, ax_full, ax_full, ax_full, ax_full, (9223372036854775814, 9223372036854775814), (9223372036854775844, 9223372036854775844)] hA 185 11361 lA []) = true := by sorry
set_option maxRecDepth 100000 in
theorem stC6_38 : ax_ck (ax_run sbs mth 1000000 mL_law 999999 1570 (ax_jmp tL_law 1570) [ax_full, ax_full, ax_full, ax_full, ax_full, ax_full, (9223372036854775814, 9223372036854775814), (9223372036854775845, 9223372036854775845)] hA 185 11361 lA []) = true := by sorry
set_option maxRecDepth 100000 in
theorem stC6_39 : ax_ck (ax_run sbs mth 1000000 mL_law 999999 1593 (ax_jmp tL_law 1593) [ax_full, ax_full, ax_full, ax_full, ax_full, ax_full, (9223372036854775814, 9223372036854775814), (9223372036854775846, 9223372036854775846)] hA 185 11361 lA []) = true := by sorry
set_option maxRecDepth 100000 in
theorem stC6_40 : ax_ck (ax_run sbs mth 1000000 mL_law 999999 1626 (ax_jmp tL_law 1626) [ax_full, ax_full, ax_full, ax_full, ax_full, ax_full, (9223372036854775814, 9223372036854775814), (9223372036854775847, 9223372036854775847)] hA 185 11361 lA []) = true := by sorry
set_option maxRecDepth 100000 in
theorem stC6_41 : ax_ck (ax_run sbs mth 1000000 mL_law 999999 1659 (ax_jmp tL_law 1659) [ax_full, ax_full, ax_full, ax_full, ax_full, ax_full, (9223372036854775814, 9223372036854775814), (9223372036854775848, 9223372036854775848)] hA 185 11361 lA []) = true := by sorry
set_option maxRecDepth 100000 in
theorem stC6_42_9223372034707292160 : ax_ck (ax_run sbs mth 1000000 mL_law 999999 1672 (ax_jmp tL_law 1672) [ax_full, (9223372034707292160, 9223372036854775808), ax_full, ax_full, ax_full, ax_full, (9223372036854775814, 9223372036854775814), (9223372036854775849, 9223372036854775849)] hA 185 11361 lA []) = true := by sorry
set_option maxRecDepth 100000 in
theorem stC6_42_9223372036854775809 : ax_ck (ax_run sbs mth 1000000 mL_law 999999 1672 (ax_jmp tL_law 1672) [ax_full, (9223372036854775809, 9223372036854775821), ax_full, ax_full, ax_full, ax_full, (9223372036854775814, 9223372036854775814), (9223372036854775849, 9223372036854775849)] hA 185 11361 lA []) = true := by sorry
set_option maxRecDepth 100000 in
theorem stC6_42_9223372036854775822 : ax_ck (ax_run sbs mth 1000000 mL_law 999999 1672 (ax_jmp tL_law 1672) [ax_full, (9223372036854775822, 9223372036854775832), ax_full, ax_full, ax_full, ax_full, (9223372036854775814, 9223372036854775814), (9223372036854775849, 9223372036854775849)] hA 185 11361 lA []) = true := by sorry
set_option maxRecDepth 100000 in
theorem stC6_42_9223372036854775833 : ax_ck (ax_run sbs mth 1000000 mL_law 999999 1672 (ax_jmp tL_law 1672) [ax_full, (9223372036854775833, 9223372036854775842), ax_full, ax_full, ax_full, ax_full, (9223372036854775814, 9223372036854775814), (9223372036854775849, 9223372036854775849)] hA 185 11361 lA []) = true := by sorry
set_option maxRecDepth 100000 in
theorem stC6_42_9223372036854775843 : ax_ck (ax_run sbs mth 1000000 mL_law 999999 1672 (ax_jmp tL_law 1672) [ax_full, (9223372036854775843, 9223372036854775851), ax_full, ax_full, ax_full, ax_full, (9223372036854775814, 9223372036854775814), (9223372036854775849, 9223372036854775849)] hA 185 11361 lA []) = true := by sorry
set_option maxRecDepth 100000 in
theorem stC6_42_9223372036854775852 : ax_ck (ax_run sbs mth 1000000 mL_law 999999 1672 (ax_jmp tL_law 1672) [ax_full, (9223372036854775852, 9223372036854775859), ax_full, ax_full, ax_full, ax_full, (9223372036854775814, 9223372036854775814), (9223372036854775849, 9223372036854775849)] hA 185 11361 lA []) = true := by sorry
set_option maxRecDepth 100000 in
theorem stC6_42_9223372036854775860 : ax_ck (ax_run sbs mth 1000000 mL_law 999999 1672 (ax_jmp tL_law 1672) [ax_full, (9223372036854775860, 9223372036854775867), ax_full, ax_full, ax_full, ax_full, (9223372036854775814, 9223372036854775814), (9223372036854775849, 9223372036854775849)] hA 185 11361 lA []) = true := by sorry
set_option maxRecDepth 100000 in
theorem stC6_42_9223372036854775868 : ax_ck (ax_run sbs mth 1000000 mL_law 999999 1672 (ax_jmp tL_law 1672) [ax_full, (9223372036854775868, 9223372036854775874), ax_full, ax_full, ax_full, ax_full, (9223372036854775814, 9223372036854775814), (9223372036854775849, 9223372036854775849)] hA 185 11361 lA []) = true := by sorry
set_option maxRecDepth 100000 in
theorem stC6_42_9223372036854775875 : ax_ck (ax_run sbs mth 1000000 mL_law 999999 1672 (ax_jmp tL_law 1672) [ax_full, (9223372036854775875, 9223372036854775881), ax_full, ax_full, ax_full, ax_full, (9223372036854775814, 9223372036854775814), (9223372036854775849, 9223372036854775849)] hA 185 11361 lA []) = true := by sorry
set_option maxRecDepth 100000 in
theorem stC6_42_9223372036854775882 : ax_ck (ax_run sbs mth 1000000 mL_law 999999 1672 (ax_jmp tL_law 1672) [ax_full, (9223372036854775882, 9223372036854775888), ax_full, ax_full, ax_full, ax_full, (9223372036854775814, 9223372036854775814), (9223372036854775849, 9223372036854775849)] hA 185 11361 lA []) = true := by sorry
set_option maxRecDepth 100000 in
theorem stC6_42_9223372036854775889 : ax_ck (ax_run sbs mth 1000000 mL_law 999999 1672 (ax_jmp tL_law 1672) [ax_full, (9223372036854775889, 9223372036854775894), ax_full, ax_full, ax_full, ax_full, (9223372036854775814, 9223372036854775814), (9223372036854775849, 9223372036854775849)] hA 185 11361 lA []) = true := by sorry
set_option maxRecDepth 100000 in
theorem stC6_42_9223372036854775895 : ax_ck (ax_run sbs mth 1000000 mL_law 999999 1672 (ax_jmp tL_law 1672) [ax_full, (9223372036854775895, 9223372036854775900), ax_full, ax_full, ax_full, ax_full, (9223372036854775814, 9223372036854775814), (9223372036854775849, 9223372036854775849)] hA 185 11361 lA []) = true := by sorry
set_option maxRecDepth 100000 in
theorem stC6_42_9223372036854775901 : ax_ck (ax_run sbs mth 1000000 mL_law 999999 1672 (ax_jmp tL_law 1672) [ax_full, (9223372036854775901, 9223372036854775906), ax_full, ax_full, ax_full, ax_full, (9223372036854775814, 9223372036854775814), (9223372036854775849, 9223372036854775849)] hA 185 11361 lA []) = true := by sorry
set_option maxRecDepth 100000 in
theorem stC6_42_9223372036854775907 : ax_ck (ax_run sbs mth 1000000 mL_law 999999 1672 (ax_jmp tL_law 1672) [ax_full, (9223372036854775907, 9223372036854775907), ax_full, ax_full, ax_full, ax_full, (9223372036854775814, 9223372036854775814), (9223372036854775849, 9223372036854775849)] hA 185 11361 lA []) = true := by sorry
set_option maxRecDepth 100000 in
theorem stC6_42_9223372036854775908 : ax_ck (ax_run sbs mth 1000000 mL_law 999999 1672 (ax_jmp tL_law 1672) [ax_full, (9223372036854775908, 9223372039002259455), ax_full, ax_full, ax_full, ax_full, (9223372036854775814, 9223372036854775814), (9223372036854775849, 9223372036854775849)] hA 185 11361 lA []) = true := by sorry
set_option maxRecDepth 100000 in
theorem stC6_43 : ax_ck (ax_run sbs mth 1000000 mL_law 999999 1695 (ax_jmp tL_law 1695) [ax_full, ax_full, ax_full, ax_full, ax_full, ax_full, (9223372036854775814, 9223372036854775814), (9223372036854775850, 9223372036854775850)] hA 185 11361 lA []) = true := by sorry
set_option maxRecDepth 100000 in
theorem stC6_44 : ax_ck (ax_run sbs mth 1000000 mL_law 999999 1708 (ax_jmp tL_law 1708) [ax_full, ax_full, ax_full, ax_full, ax_full, ax_full, (9223372036854775814, 9223372036854775814), (9223372036854775851, 9223372036854775851)] hA 185 11361 lA []) = true := by sorry
set_option maxRecDepth 100000 in
theorem stC6_45 : ax_ck (ax_run sbs mth 1000000 mL_law 999999 1741 (ax_jmp tL_law 1741) [ax_full, ax_full, ax_full, ax_full, ax_full, ax_full, (9223372036854775814, 9223372036854775814), (9223372036854775852, 9223372036854775852)] hA 185 11361 lA []) = true := by sorry
set_option maxRecDepth 100000 in
theorem stC6_46 : ax_ck (ax_run sbs mth 1000000 mL_law 999999 1774 (ax_jmp tL_law 1774) [ax_full, ax_full, ax_full, ax_full, ax_full, ax_full, (9223372036854775814, 9223372036854775814), (9223372036854775853, 9223372036854775853)] hA 185 11361 lA []) = true := by sorry
set_option maxRecDepth 100000 in
theorem stC6_47 : ax_ck (ax_run sbs mth 1000000 mL_law 999999 1807 (ax_jmp tL_law 1807) [ax_full, ax_full, ax_full, ax_full, ax_full, ax_full, (9223372036854775814, 9223372036854775814), (9223372036854775854, 9223372036854775854)] hA 185 11361 lA []) = true := by sorry
set_option maxRecDepth 100000 in
theorem stC6_48 : ax_ck (ax_run sbs mth 1000000 mL_law 999999 1830 (ax_jmp tL_law 1830) [ax_full, ax_full, ax_full, ax_full, ax_full, ax_full, (9223372036854775814, 9223372036854775814), (9223372036854775855, 9223372036854775855)] hA 185 11361 lA []) = true := by sorry
set_option maxRecDepth 100000 in
theorem stC6_49 : ax_ck (ax_run sbs mth 1000000 mL_law 999999 1843 (ax_jmp tL_law 1843) [ax_full, ax_full, ax_full, ax_full, ax_full, ax_full, (9223372036854775814, 9223372036854775814), (9223372036854775856, 9223372036854775856)] hA 185 11361 lA []) = true := by sorry
set_option maxRecDepth 100000 in
theorem stC6_50 : ax_ck (ax_run sbs mth 1000000 mL_law 999999 1856 (ax_jmp tL_law 1856) [ax_full, ax_full, ax_full, ax_full, ax_full, ax_full, (9223372036854775814, 9223372036854775814), (9223372036854775857, 9223372036854775857)] hA 185 11361 lA []) = true := by sorry
set_option maxRecDepth 100000 in
theorem stC6_51 : ax_ck (ax_run sbs mth 1000000 mL_law 999999 1869 (ax_jmp tL_law 1869) [ax_full, ax_full, ax_full, ax_full, ax_full, ax_full, (9223372036854775814, 9223372036854775814), (9223372036854775858, 9223372036854775858)] hA 185 11361 lA []) = true := by sorry
set_option maxRecDepth 100000 in
theorem stC6_52 : ax_ck (ax_run sbs mth 1000000 mL_law 999999 1892 (ax_jmp tL_law 1892) [ax_full, ax_full, ax_full, ax_full, ax_full, ax_full, (9223372036854775814, 9223372036854775814), (9223372036854775859, 9223372036854775859)] hA 185 11361 lA []) = true := by sorry
set_option maxRecDepth 100000 in
theorem stC6_53 : ax_ck (ax_run sbs mth 1000000 mL_law 999999 1915 (ax_jmp tL_law 1915) [ax_full, ax_full, ax_full, ax_full, ax_full, ax_full, (9223372036854775814, 9223372036854775814), (9223372036854775860, 9223372036854775860)] hA 185 11361 lA []) = true := by sorry
set_option maxRecDepth 100000 in
theorem stC6_54 : ax_ck (ax_run sbs mth 1000000 mL_law 999999 1938 (ax_jmp tL_law 1938) [ax_full, ax_full, ax_full, ax_full, ax_full, ax_full, (9223372036854775814, 9223372036854775814), (9223372036854775861, 9223372036854775861)] hA 185 11361 lA []) = true := by sorry
set_option maxRecDepth 100000 in
theorem stC6_55 : ax_ck (ax_run sbs mth 1000000 mL_law 999999 1961 (ax_jmp tL_law 1961) [ax_full, ax_full, ax_full, ax_full, ax_full, ax_full, (9223372036854775814, 9223372036854775814), (9223372036854775862, 9223372036854775862)] hA 185 11361 lA []) = true := by sorry
set_option maxRecDepth 100000 in
theorem stC6_56 : ax_ck (ax_run sbs mth 1000000 mL_law 999999 1994 (ax_jmp tL_law 1994) [ax_full, ax_full, ax_full, ax_full, ax_full, ax_full, (9223372036854775814, 9223372036854775814), (9223372036854775863, 9223372036854775863)] hA 185 11361 lA []) = true := by sorry
set_option maxRecDepth 100000 in
theorem stC6_57 : ax_ck (ax_run sbs mth 1000000 mL_law 999999 2027 (ax_jmp tL_law 2027) [ax_full, ax_full, ax_full, ax_full, ax_full, ax_full, (9223372036854775814, 9223372036854775814), (9223372036854775864, 9223372036854775864)] hA 185 11361 lA []) = true := by sorry
set_option maxRecDepth 100000 in
theorem stC6_58 : ax_ck (ax_run sbs mth 1000000 mL_law 999999 2050 (ax_jmp tL_law 2050) [ax_full, ax_full, ax_full, ax_full, ax_full, ax_full, (9223372036854775814, 9223372036854775814), (9223372036854775865, 9223372036854775865)] hA 185 11361 lA []) = true := by sorry
set_option maxRecDepth 100000 in
theorem stC6_59 : ax_ck (ax_run sbs mth 1000000 mL_law 999999 2093 (ax_jmp tL_law 2093) [ax_full, ax_full, ax_full, ax_full, ax_full, ax_full, (9223372036854775814, 9223372036854775814), (9223372036854775866, 9223372036854775866)] hA 185 11361 lA []) = true := by sorry
set_option maxRecDepth 100000 in
theorem stC6_60 : ax_ck (ax_run sbs mth 1000000 mL_law 999999 2106 (ax_jmp tL_law 2106) [ax_full, ax_full, ax_full, ax_full, ax_full, ax_full, (9223372036854775814, 9223372036854775814), (9223372036854775867, 9223372036854775867)] hA 185 11361 lA []) = true := by sorry
set_option maxRecDepth 100000 in
theorem stC6_61 : ax_ck (ax_run sbs mth 1000000 mL_law 999999 2119 (ax_jmp tL_law 2119) [ax_full, ax_full, ax_full, ax_full, ax_full, ax_full, (9223372036854775814, 9223372036854775814), (9223372036854775868, 9223372036854775868)] hA 185 11361 lA []) = true := by sorry
set_option maxRecDepth 100000 in
theorem stC6_62 : ax_ck (ax_run sbs mth 1000000 mL_law 999999 2132 (ax_jmp tL_law 2132) [ax_full, ax_full, ax_full, ax_full, ax_full, ax_full, (9223372036854775814, 9223372036854775814), (9223372036854775869, 9223372036854775869)] hA 185 11361 lA []) = true := by sorry
set_option maxRecDepth 100000 in
theorem stC6_63 : ax_ck (ax_run sbs mth 1000000 mL_law 999999 2145 (ax_jmp tL_law 2145) [ax_full, ax_full, ax_full, ax_full, ax_full, ax_full, (9223372036854775814, 9223372036854775814), (9223372036854775870, 9223372036854775870)] hA 185 11361 lA []) = true := by sorry
set_option maxRecDepth 100000 in
theorem stC6_64 : ax_ck (ax_run sbs mth 1000000 mL_law 999999 2158 (ax_jmp tL_law 2158) [ax_full, ax_full, ax_full, ax_full, ax_full, ax_full, (9223372036854775814, 9223372036854775814), (9223372036854775871, 9223372036854775871)] hA 185 11361 lA []) = true := by sorry
set_option maxRecDepth 100000 in
theorem stC6_65 : ax_ck (ax_run sbs mth 1000000 mL_law 999999 2181 (ax_jmp tL_law 2181) [ax_full, ax_full, ax_full, ax_full, ax_full, ax_full, (9223372036854775814, 9223372036854775814), (9223372036854775872, 9223372036854775872)] hA 185 11361 lA []) = true := by sorry
set_option maxRecDepth 100000 in
theorem stC6_66 : ax_ck (ax_run sbs mth 1000000 mL_law 999999 2194 (ax_jmp tL_law 2194) [ax_full, ax_full, ax_full, ax_full, ax_full, ax_full, (9223372036854775814, 9223372036854775814), (9223372036854775873, 9223372036854775873)] hA 185 11361 lA []) = true := by sorry
set_option maxRecDepth 100000 in
theorem stC6_67 : ax_ck (ax_run sbs mth 1000000 mL_law 999999 2217 (ax_jmp tL_law 2217) [ax_full, ax_full, ax_full, ax_full, ax_full, ax_full, (9223372036854775814, 9223372036854775814), (9223372036854775874, 9223372036854775874)] hA 185 11361 lA []) = true := by sorry
set_option maxRecDepth 100000 in
theorem stC6_68 : ax_ck (ax_run sbs mth 1000000 mL_law 999999 2240 (ax_jmp tL_law 2240) [ax_full, ax_full, ax_full, ax_full, ax_full, ax_full, (9223372036854775814, 9223372036854775814), (9223372036854775875, 9223372036854775875)] hA 185 11361 lA []) = true := by sorry
set_option maxRecDepth 100000 in
theorem stC6_69 : ax_ck (ax_run sbs mth 1000000 mL_law 999999 2273 (ax_jmp tL_law 2273) [ax_full, ax_full, ax_full, ax_full, ax_full, ax_full, (9223372036854775814, 9223372036854775814), (9223372036854775876, 9223372036854775876)] hA 185 11361 lA []) = true := by sorry
set_option maxRecDepth 100000 in
theorem stC6_70 : ax_ck (ax_run sbs mth 1000000 mL_law 999999 2286 (ax_jmp tL_law 2286) [ax_full, ax_full, ax_full, ax_full, ax_full, ax_full, (9223372036854775814, 9223372036854775814), (9223372036854775877, 9223372036854775877)] hA 185 11361 lA []) = true := by sorry
set_option maxRecDepth 100000 in
theorem stC5_0 : ax_ck (ax_run sbs mth 1000000 mL_law 999999 2305 (ax_jmp tL_law 2305) [ax_full, ax_full, ax_full, ax_full, ax_full, ax_full, (9223372036854775808, 9223372036854775813), (9223372036854775802, 9223372036854775807)] hA 185 11361 lA []) = true := by sorry
