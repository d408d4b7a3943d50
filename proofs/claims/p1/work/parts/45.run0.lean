set_option maxRecDepth 100000 in
theorem stC6_0 : ax_ck (ax_run sbs mth 1000000 mL_law 999999 2299 (ax_jmp tL_law 2299) [ax_full, ax_full, ax_full, ax_full, ax_full, ax_full, (9223372036854775814, 9223372036854775814), (9223372036854775878, 9223372036854775935)] hA 185 11361 lA []) = true := by decide +kernel
set_option maxRecDepth 100000 in
theorem stC6_1 : ax_ck (ax_run sbs mth 1000000 mL_law 999999 328 (ax_jmp tL_law 328) [ax_full, ax_full, ax_full, ax_full, ax_full, ax_full, (9223372036854775814, 9223372036854775814), (9223372036854775808, 9223372036854775808)] hA 185 11361 lA []) = true := by decide +kernel
set_option maxRecDepth 100000 in
theorem stC6_2 : ax_ck (ax_run sbs mth 1000000 mL_law 999999 341 (ax_jmp tL_law 341) [ax_full, ax_full, ax_full, ax_full, ax_full, ax_full, (9223372036854775814, 9223372036854775814), (9223372036854775809, 9223372036854775809)] hA 185 11361 lA []) = true := by decide +kernel
set_option maxRecDepth 100000 in
theorem stC6_3 : ax_ck (ax_run sbs mth 1000000 mL_law 999999 355 (ax_jmp tL_law 355) [ax_full, ax_full, ax_full, ax_full, ax_full, ax_full, (9223372036854775814, 9223372036854775814), (9223372036854775810, 9223372036854775810)] hA 185 11361 lA []) = true := by decide +kernel
set_option maxRecDepth 100000 in
theorem stC6_4 : ax_ck (ax_run sbs mth 1000000 mL_law 999999 369 (ax_jmp tL_law 369) [ax_full, ax_full, ax_full, ax_full, ax_full, ax_full, (9223372036854775814, 9223372036854775814), (9223372036854775811, 9223372036854775811)] hA 185 11361 lA []) = true := by decide +kernel
set_option maxRecDepth 100000 in
theorem stC6_5 : ax_ck (ax_run sbs mth 1000000 mL_law 999999 412 (ax_jmp tL_law 412) [ax_full, ax_full, ax_full, ax_full, ax_full, ax_full, (9223372036854775814, 9223372036854775814), (9223372036854775812, 9223372036854775812)] hA 185 11361 lA []) = true := by decide +kernel
set_option maxRecDepth 100000 in
theorem stC6_6 : ax_ck (ax_run sbs mth 1000000 mL_law 999999 485 (ax_jmp tL_law 485) [ax_full, ax_full, ax_full, ax_full, ax_full, ax_full, (9223372036854775814, 9223372036854775814), (9223372036854775813, 9223372036854775813)] hA 185 11361 lA []) = true := by decide +kernel
set_option maxRecDepth 100000 in
theorem stC6_7 : ax_ck (ax_run sbs mth 1000000 mL_law 999999 519 (ax_jmp tL_law 519) [ax_full, ax_full, ax_full, ax_full, ax_full, ax_full, (9223372036854775814, 9223372036854775814), (9223372036854775814, 9223372036854775814)] hA 185 11361 lA []) = true := by decide +kernel
set_option maxRecDepth 100000 in
theorem stC6_8 : ax_ck (ax_run sbs mth 1000000 mL_law 999999 582 (ax_jmp tL_law 582) [ax_full, ax_full, ax_full, ax_full, ax_full, ax_full, (9223372036854775814, 9223372036854775814), (9223372036854775815, 9223372036854775815)] hA 185 11361 lA []) = true := by decide +kernel
set_option maxRecDepth 100000 in
theorem stC6_9 : ax_ck (ax_run sbs mth 1000000 mL_law 999999 645 (ax_jmp tL_law 645) [ax_full, ax_full, ax_full, ax_full, ax_full, ax_full, (9223372036854775814, 9223372036854775814), (9223372036854775816, 9223372036854775816)] hA 185 11361 lA []) = true := by decide +kernel
set_option maxRecDepth 100000 in
theorem stC6_10 : ax_ck (ax_run sbs mth 1000000 mL_law 999999 668 (ax_jmp tL_law 668) [ax_full, ax_full, ax_full, ax_full, ax_full, ax_full, (9223372036854775814, 9223372036854775814), (9223372036854775817, 9223372036854775817)] hA 185 11361 lA []) = true := by decide +kernel
set_option maxRecDepth 100000 in
theorem stC6_11 : ax_ck (ax_run sbs mth 1000000 mL_law 999999 691 (ax_jmp tL_law 691) [ax_full, ax_full, ax_full, ax_full, ax_full, ax_full, (9223372036854775814, 9223372036854775814), (9223372036854775818, 9223372036854775818)] hA 185 11361 lA []) = true := by decide +kernel
set_option maxRecDepth 100000 in
theorem stC6_12 : ax_ck (ax_run sbs mth 1000000 mL_law 999999 714 (ax_jmp tL_law 714) [ax_full, ax_full, ax_full, ax_full, ax_full, ax_full, (9223372036854775814, 9223372036854775814), (9223372036854775819, 9223372036854775819)] hA 185 11361 lA []) = true := by decide +kernel
set_option maxRecDepth 100000 in
theorem stC6_13 : ax_ck (ax_run sbs mth 1000000 mL_law 999999 737 (ax_jmp tL_law 737) [ax_full, ax_full, ax_full, ax_full, ax_full, ax_full, (9223372036854775814, 9223372036854775814), (9223372036854775820, 9223372036854775820)] hA 185 11361 lA []) = true := by decide +kernel
set_option maxRecDepth 100000 in
theorem stC6_14 : ax_ck (ax_run sbs mth 1000000 mL_law 999999 770 (ax_jmp tL_law 770) [ax_full, ax_full, ax_full, ax_full, ax_full, ax_full, (9223372036854775814, 9223372036854775814), (9223372036854775821, 9223372036854775821)] hA 185 11361 lA []) = true := by decide +kernel
set_option maxRecDepth 100000 in
theorem stC6_15 : ax_ck (ax_run sbs mth 1000000 mL_law 999999 803 (ax_jmp tL_law 803) [ax_full, ax_full, ax_full, ax_full, ax_full, ax_full, (9223372036854775814, 9223372036854775814), (9223372036854775822, 9223372036854775822)] hA 185 11361 lA []) = true := by decide +kernel
set_option maxRecDepth 100000 in
theorem stC6_16 : ax_ck (ax_run sbs mth 1000000 mL_law 999999 836 (ax_jmp tL_law 836) [ax_full, ax_full, ax_full, ax_full, ax_full, ax_full, (9223372036854775814, 9223372036854775814), (9223372036854775823, 9223372036854775823)] hA 185 11361 lA []) = true := by decide +kernel
set_option maxRecDepth 100000 in
theorem stC6_17 : ax_ck (ax_run sbs mth 1000000 mL_law 999999 869 (ax_jmp tL_law 869) [ax_full, ax_full, ax_full, ax_full, ax_full, ax_full, (9223372036854775814, 9223372036854775814), (9223372036854775824, 9223372036854775824)] hA 185 11361 lA []) = true := by decide +kernel
set_option maxRecDepth 100000 in
theorem stC6_18 : ax_ck (ax_run sbs mth 1000000 mL_law 999999 892 (ax_jmp tL_law 892) [ax_full, ax_full, ax_full, ax_full, ax_full, ax_full, (9223372036854775814, 9223372036854775814), (9223372036854775825, 9223372036854775825)] hA 185 11361 lA []) = true := by decide +kernel
set_option maxRecDepth 100000 in
theorem stC6_19_9223372034707292160 : ax_ck (ax_run sbs mth 1000000 mL_law 999999 925 (ax_jmp tL_law 925) [ax_full, (9223372034707292160, 9223372036854775808), ax_full, ax_full, ax_full, ax_full, (9223372036854775814, 9223372036854775814), (9223372036854775826, 9223372036854775826)] hA 185 11361 lA []) = true := by decide +kernel
set_option maxRecDepth 100000 in
theorem stC6_19_9223372036854775809 : ax_ck (ax_run sbs mth 1000000 mL_law 999999 925 (ax_jmp tL_law 925) [ax_full, (9223372036854775809, 9223372036854775843), ax_full, ax_full, ax_full, ax_full, (9223372036854775814, 9223372036854775814), (9223372036854775826, 9223372036854775826)] hA 185 11361 lA []) = true := by decide +kernel
set_option maxRecDepth 100000 in
theorem stC6_19_9223372036854775844 : ax_ck (ax_run sbs mth 1000000 mL_law 999999 925 (ax_jmp tL_law 925) [ax_full, (9223372036854775844, 9223372036854775863), ax_full, ax_full, ax_full, ax_full, (9223372036854775814, 9223372036854775814), (9223372036854775826, 9223372036854775826)] hA 185 11361 lA []) = true := by decide +kernel
