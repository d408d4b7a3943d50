set_option maxRecDepth 100000 in
theorem stC6_42_9223372036854775902 : ax_ck (ax_run sbs mth 1000000 mL_law 999999 1672 (ax_jmp tL_law 1672) [ax_full, (9223372036854775902, 9223372036854775904), ax_full, ax_full, ax_full, ax_full, (9223372036854775814, 9223372036854775814), (9223372036854775849, 9223372036854775849)] hA 185 11361 lA []) = true := by decide +kernel
set_option maxRecDepth 100000 in
theorem stC6_42_9223372036854775905 : ax_ck (ax_run sbs mth 1000000 mL_law 999999 1672 (ax_jmp tL_law 1672) [ax_full, (9223372036854775905, 9223372036854775907), ax_full, ax_full, ax_full, ax_full, (9223372036854775814, 9223372036854775814), (9223372036854775849, 9223372036854775849)] hA 185 11361 lA []) = true := by decide +kernel
set_option maxRecDepth 100000 in
theorem stC6_42_9223372036854775908 : ax_ck (ax_run sbs mth 1000000 mL_law 999999 1672 (ax_jmp tL_law 1672) [ax_full, (9223372036854775908, 9223372039002259455), ax_full, ax_full, ax_full, ax_full, (9223372036854775814, 9223372036854775814), (9223372036854775849, 9223372036854775849)] hA 185 11361 lA []) = true := by decide +kernel
set_option maxRecDepth 100000 in
theorem stC6_43 : ax_ck (ax_run sbs mth 1000000 mL_law 999999 1695 (ax_jmp tL_law 1695) [ax_full, ax_full, ax_full, ax_full, ax_full, ax_full, (9223372036854775814, 9223372036854775814), (9223372036854775850, 9223372036854775850)] hA 185 11361 lA []) = true := by decide +kernel
set_option maxRecDepth 100000 in
theorem stC6_44 : ax_ck (ax_run sbs mth 1000000 mL_law 999999 1708 (ax_jmp tL_law 1708) [ax_full, ax_full, ax_full, ax_full, ax_full, ax_full, (9223372036854775814, 9223372036854775814), (9223372036854775851, 9223372036854775851)] hA 185 11361 lA []) = true := by decide +kernel
set_option maxRecDepth 100000 in
theorem stC6_45 : ax_ck (ax_run sbs mth 1000000 mL_law 999999 1741 (ax_jmp tL_law 1741) [ax_full, ax_full, ax_full, ax_full, ax_full, ax_full, (9223372036854775814, 9223372036854775814), (9223372036854775852, 9223372036854775852)] hA 185 11361 lA []) = true := by decide +kernel
set_option maxRecDepth 100000 in
theorem stC6_46 : ax_ck (ax_run sbs mth 1000000 mL_law 999999 1774 (ax_jmp tL_law 1774) [ax_full, ax_full, ax_full, ax_full, ax_full, ax_full, (9223372036854775814, 9223372036854775814), (9223372036854775853, 9223372036854775853)] hA 185 11361 lA []) = true := by decide +kernel
set_option maxRecDepth 100000 in
theorem stC6_47 : ax_ck (ax_run sbs mth 1000000 mL_law 999999 1807 (ax_jmp tL_law 1807) [ax_full, ax_full, ax_full, ax_full, ax_full, ax_full, (9223372036854775814, 9223372036854775814), (9223372036854775854, 9223372036854775854)] hA 185 11361 lA []) = true := by decide +kernel
set_option maxRecDepth 100000 in
theorem stC6_48 : ax_ck (ax_run sbs mth 1000000 mL_law 999999 1830 (ax_jmp tL_law 1830) [ax_full, ax_full, ax_full, ax_full, ax_full, ax_full, (9223372036854775814, 9223372036854775814), (9223372036854775855, 9223372036854775855)] hA 185 11361 lA []) = true := by decide +kernel
set_option maxRecDepth 100000 in
theorem stC6_49 : ax_ck (ax_run sbs mth 1000000 mL_law 999999 1843 (ax_jmp tL_law 1843) [ax_full, ax_full, ax_full, ax_full, ax_full, ax_full, (9223372036854775814, 9223372036854775814), (9223372036854775856, 9223372036854775856)] hA 185 11361 lA []) = true := by decide +kernel
set_option maxRecDepth 100000 in
theorem stC6_50 : ax_ck (ax_run sbs mth 1000000 mL_law 999999 1856 (ax_jmp tL_law 1856) [ax_full, ax_full, ax_full, ax_full, ax_full, ax_full, (9223372036854775814, 9223372036854775814), (9223372036854775857, 9223372036854775857)] hA 185 11361 lA []) = true := by decide +kernel
set_option maxRecDepth 100000 in
theorem stC6_51 : ax_ck (ax_run sbs mth 1000000 mL_law 999999 1869 (ax_jmp tL_law 1869) [ax_full, ax_full, ax_full, ax_full, ax_full, ax_full, (9223372036854775814, 9223372036854775814), (9223372036854775858, 9223372036854775858)] hA 185 11361 lA []) = true := by decide +kernel
set_option maxRecDepth 100000 in
theorem stC6_52 : ax_ck (ax_run sbs mth 1000000 mL_law 999999 1892 (ax_jmp tL_law 1892) [ax_full, ax_full, ax_full, ax_full, ax_full, ax_full, (9223372036854775814, 9223372036854775814), (9223372036854775859, 9223372036854775859)] hA 185 11361 lA []) = true := by decide +kernel
set_option maxRecDepth 100000 in
theorem stC6_53 : ax_ck (ax_run sbs mth 1000000 mL_law 999999 1915 (ax_jmp tL_law 1915) [ax_full, ax_full, ax_full, ax_full, ax_full, ax_full, (9223372036854775814, 9223372036854775814), (9223372036854775860, 9223372036854775860)] hA 185 11361 lA []) = true := by decide +kernel
set_option maxRecDepth 100000 in
theorem stC6_54 : ax_ck (ax_run sbs mth 1000000 mL_law 999999 1938 (ax_jmp tL_law 1938) [ax_full, ax_full, ax_full, ax_full, ax_full, ax_full, (9223372036854775814, 9223372036854775814), (9223372036854775861, 9223372036854775861)] hA 185 11361 lA []) = true := by decide +kernel
set_option maxRecDepth 100000 in
theorem stC6_55 : ax_ck (ax_run sbs mth 1000000 mL_law 999999 1961 (ax_jmp tL_law 1961) [ax_full, ax_full, ax_full, ax_full, ax_full, ax_full, (9223372036854775814, 9223372036854775814), (9223372036854775862, 9223372036854775862)] hA 185 11361 lA []) = true := by decide +kernel
set_option maxRecDepth 100000 in
theorem stC6_56 : ax_ck (ax_run sbs mth 1000000 mL_law 999999 1994 (ax_jmp tL_law 1994) [ax_full, ax_full, ax_full, ax_full, ax_full, ax_full, (9223372036854775814, 9223372036854775814), (9223372036854775863, 9223372036854775863)] hA 185 11361 lA []) = true := by decide +kernel
set_option maxRecDepth 100000 in
theorem stC6_57 : ax_ck (ax_run sbs mth 1000000 mL_law 999999 2027 (ax_jmp tL_law 2027) [ax_full, ax_full, ax_full, ax_full, ax_full, ax_full, (9223372036854775814, 9223372036854775814), (9223372036854775864, 9223372036854775864)] hA 185 11361 lA []) = true := by decide +kernel
set_option maxRecDepth 100000 in
theorem stC6_58 : ax_ck (ax_run sbs mth 1000000 mL_law 999999 2050 (ax_jmp tL_law 2050) [ax_full, ax_full, ax_full, ax_full, ax_full, ax_full, (9223372036854775814, 9223372036854775814), (9223372036854775865, 9223372036854775865)] hA 185 11361 lA []) = true := by decide +kernel
set_option maxRecDepth 100000 in
theorem stC6_59 : ax_ck (ax_run sbs mth 1000000 mL_law 999999 2093 (ax_jmp tL_law 2093) [ax_full, ax_full, ax_full, ax_full, ax_full, ax_full, (9223372036854775814, 9223372036854775814), (9223372036854775866, 9223372036854775866)] hA 185 11361 lA []) = true := by decide +kernel
set_option maxRecDepth 100000 in
theorem stC6_60 : ax_ck (ax_run sbs mth 1000000 mL_law 999999 2106 (ax_jmp tL_law 2106) [ax_full, ax_full, ax_full, ax_full, ax_full, ax_full, (9223372036854775814, 9223372036854775814), (9223372036854775867, 9223372036854775867)] hA 185 11361 lA []) = true := by decide +kernel
set_option maxRecDepth 100000 in
theorem stC6_61 : ax_ck (ax_run sbs mth 1000000 mL_law 999999 2119 (ax_jmp tL_law 2119) [ax_full, ax_full, ax_full, ax_full, ax_full, ax_full, (9223372036854775814, 9223372036854775814), (9223372036854775868, 9223372036854775868)] hA 185 11361 lA []) = true := by decide +kernel
set_option maxRecDepth 100000 in
theorem stC6_62 : ax_ck (ax_run sbs mth 1000000 mL_law 999999 2132 (ax_jmp tL_law 2132) [ax_full, ax_full, ax_full, ax_full, ax_full, ax_full, (9223372036854775814, 9223372036854775814), (9223372036854775869, 9223372036854775869)] hA 185 11361 lA []) = true := by decide +kernel
set_option maxRecDepth 100000 in
theorem stC6_63 : ax_ck (ax_run sbs mth 1000000 mL_law 999999 2145 (ax_jmp tL_law 2145) [ax_full, ax_full, ax_full, ax_full, ax_full, ax_full, (9223372036854775814, 9223372036854775814), (9223372036854775870, 9223372036854775870)] hA 185 11361 lA []) = true := by decide +kernel
set_option maxRecDepth 100000 in
theorem stC6_64 : ax_ck (ax_run sbs mth 1000000 mL_law 999999 2158 (ax_jmp tL_law 2158) [ax_full, ax_full, ax_full, ax_full, ax_full, ax_full, (9223372036854775814, 9223372036854775814), (9223372036854775871, 9223372036854775871)] hA 185 11361 lA []) = true := by decide +kernel
set_option maxRecDepth 100000 in
theorem stC6_65 : ax_ck (ax_run sbs mth 1000000 mL_law 999999 2181 (ax_jmp tL_law 2181) [ax_full, ax_full, ax_full, ax_full, ax_full, ax_full, (9223372036854775814, 9223372036854775814), (9223372036854775872, 9223372036854775872)] hA 185 11361 lA []) = true := by decide +kernel
set_option maxRecDepth 100000 in
theorem stC6_66 : ax_ck (ax_run sbs mth 1000000 mL_law 999999 2194 (ax_jmp tL_law 2194) [ax_full, ax_full, ax_full, ax_full, ax_full, ax_full, (9223372036854775814, 9223372036854775814), (9223372036854775873, 9223372036854775873)] hA 185 11361 lA []) = true := by decide +kernel
set_option maxRecDepth 100000 in
theorem stC6_67 : ax_ck (ax_run sbs mth 1000000 mL_law 999999 2217 (ax_jmp tL_law 2217) [ax_full, ax_full, ax_full, ax_full, ax_full, ax_full, (9223372036854775814, 9223372036854775814), (9223372036854775874, 9223372036854775874)] hA 185 11361 lA []) = true := by decide +kernel
set_option maxRecDepth 100000 in
theorem stC6_68 : ax_ck (ax_run sbs mth 1000000 mL_law 999999 2240 (ax_jmp tL_law 2240) [ax_full, ax_full, ax_full, ax_full, ax_full, ax_full, (9223372036854775814, 9223372036854775814), (9223372036854775875, 9223372036854775875)] hA 185 11361 lA []) = true := by decide +kernel
set_option maxRecDepth 100000 in
theorem stC6_69 : ax_ck (ax_run sbs mth 1000000 mL_law 999999 2273 (ax_jmp tL_law 2273) [ax_full, ax_full, ax_full, ax_full, ax_full, ax_full, (9223372036854775814, 9223372036854775814), (9223372036854775876, 9223372036854775876)] hA 185 11361 lA []) = true := by decide +kernel
set_option maxRecDepth 100000 in
theorem stC6_70 : ax_ck (ax_run sbs mth 1000000 mL_law 999999 2286 (ax_jmp tL_law 2286) [ax_full, ax_full, ax_full, ax_full, ax_full, ax_full, (9223372036854775814, 9223372036854775814), (9223372036854775877, 9223372036854775877)] hA 185 11361 lA []) = true := by decide +kernel
set_option maxRecDepth 100000 in
theorem stC5_0 : ax_ck (ax_run sbs mth 1000000 mL_law 999999 2305 (ax_jmp tL_law 2305) [ax_full, ax_full, ax_full, ax_full, ax_full, ax_full, (9223372036854775808, 9223372036854775813), (9223372036854775802, 9223372036854775807)] hA 185 11361 lA []) = true := by decide +kernel
