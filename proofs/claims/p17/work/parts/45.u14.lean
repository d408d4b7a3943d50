set_option maxRecDepth 100000 in
noncomputable def un63 : UN := ([(0, 3, (Int.ofNat 0, [])), (1, 21, (Int.ofNat 2, []))], ([(Int.ofNat 0, Int.ofNat 10018), (Int.ofNat 0, Int.ofNat 60)], [], [], [(21, (Int.ofNat 2, []), (Int.ofNat 0, [(1, Int.ofNat 1)]))], [(0, (Int.ofNat 0, [(1, Int.ofNat 1)]))], [], [], [(0, (2, (Int.ofNat 91, []))), (1, (2, (Int.ofNat 21, []))), (2, (2, (Int.ofNat 53, []))), (3, (0, (Int.ofNat 0, [(0, Int.ofNat 1)])))], []), [(0, 147, [], ([], [], [], [], [], [], [], [], []))], [(53, Int.ofNat 7, Int.ofNat 7), (53, Int.ofNat 12, Int.ofNat 12), (53, Int.ofNat 13, Int.ofNat 13), (54, Int.ofNat 1, Int.ofNat 1), (56, Int.ofNat 0, Int.ofNat 48), (57, Int.ofNat 0, Int.ofNat 48), (60, Int.ofNat 0, Int.ofNat 63), (61, Int.ofNat 0, Int.ofNat 7), (64, Int.ofNat 0, Int.ofNat 7), (68, Int.ofNat 0, Int.ofNat 6), (91, Int.ofNat 0, Int.ofNat 0), (91, Int.ofNat 1, Int.ofNat 1), (91, Int.ofNat 2, Int.ofNat 2), (91, Int.ofNat 3, Int.ofNat 3), (91, Int.ofNat 4, Int.ofNat 4), (91, Int.ofNat 5, Int.ofNat 5), (91, Int.ofNat 6, Int.ofNat 6), (91, Int.ofNat 7, Int.ofNat 7), (92, Int.ofNat 0, Int.ofNat 59)], (Int.ofNat 0, []), [])
set_option maxRecDepth 100000 in
theorem uk63 : uck tbq tuq [((2, 6, 100012), un62)] sbs mth mqq 100000 2 6 0 un63 = true := by decide +kernel
theorem ug63 : UG ((2, 6, 0), un63) := ug_of _ uk63 (List.forall_mem_cons.mpr ⟨ug62, fun _ h => absurd h List.not_mem_nil⟩)
set_option maxRecDepth 100000 in
noncomputable def un64 : UN := ([(0, 1, (Int.ofNat 0, [])), (0, 2, (Int.ofNat 0, []))], ([(Int.negSucc 2147483647, Int.ofNat 2147483647), (Int.ofNat 0, Int.ofNat 8)], [], [], [], [], [], [], [(0, (2, (Int.ofNat 59, []))), (1, (0, (Int.ofNat 0, [(0, Int.ofNat 1)]))), (2, (0, (Int.ofNat 0, [(1, Int.ofNat 1)])))], []), [(1, 25, [(0, 1, (Int.ofNat 0, []))], ([(Int.negSucc 2147483647, Int.ofNat 2147483647)], [], [], [], [], [], [], [(1, (0, (Int.ofNat 0, [(2, Int.ofNat 1)])))], []))], [], (Int.ofNat 0, [(1, Int.ofNat 1)]), [22])
set_option maxRecDepth 100000 in
theorem uk64 : uck tbq tuq [] sbs mth mqq 100000 0 7 100004 un64 = true := by decide +kernel
theorem ug64 : UG ((0, 7, 100004), un64) := ug_of _ uk64 (fun _ h => absurd h List.not_mem_nil)
set_option maxRecDepth 100000 in
noncomputable def un65 : UN := ([], ([], [], [], [], [], [], [], [(0, (2, (Int.ofNat 59, [])))], []), [(0, 26, [(3, 0, (Int.ofNat 0, []))], ([(Int.negSucc 2147483647, Int.ofNat 2147483647)], [], [], [], [], [], [], [], [(0, (Int.ofNat 0, [(0, Int.ofNat 1)]))]))], [], (Int.ofNat 0, []), [])
set_option maxRecDepth 100000 in
theorem uk65 : uck tbq tuq [((0, 7, 100004), un64)] sbs mth mqq 100000 0 7 0 un65 = true := by decide +kernel
theorem ug65 : UG ((0, 7, 0), un65) := ug_of _ uk65 (List.forall_mem_cons.mpr ⟨ug64, fun _ h => absurd h List.not_mem_nil⟩)
set_option maxRecDepth 100000 in
noncomputable def un66 : UN := ([(0, 1, (Int.ofNat 0, [])), (0, 2, (Int.ofNat 0, [])), (0, 3, (Int.ofNat 0, [])), (0, 4, (Int.ofNat 0, [])), (1, 21, (Int.ofNat 2, []))], ([(Int.ofNat 0, Int.ofNat 9999), (Int.ofNat 1, Int.ofNat 20), (Int.negSucc 2147483647, Int.ofNat 2147483647), (Int.ofNat 0, Int.ofNat 20), (Int.ofNat 0, Int.ofNat 60)], [], [], [(21, (Int.ofNat 2, []), (Int.ofNat 0, [(4, Int.ofNat 1)]))], [(0, (Int.ofNat 0, [(4, Int.ofNat 1)]))], [], [], [(0, (2, (Int.ofNat 0, []))), (1, (0, (Int.ofNat 0, [(0, Int.ofNat 1)]))), (2, (0, (Int.ofNat 0, [(1, Int.ofNat 1)]))), (3, (0, (Int.ofNat 0, [(2, Int.ofNat 1)]))), (4, (0, (Int.ofNat 0, [(3, Int.ofNat 1)])))], []), [(1, 114, [(0, 3, (Int.ofNat 0, []))], ([(Int.negSucc 2147483647, Int.ofNat 2147483647)], [], [], [], [], [], [], [(0, (2, (Int.ofNat 0, []))), (2, (0, (Int.ofNat 0, [(1, Int.ofNat 1)]))), (3, (0, (Int.ofNat 0, [(5, Int.ofNat 1)])))], []))], [(53, Int.ofNat 4, Int.ofNat 4), (53, Int.ofNat 7, Int.ofNat 7), (53, Int.ofNat 8, Int.ofNat 8), (53, Int.ofNat 9, Int.ofNat 9), (53, Int.ofNat 12, Int.ofNat 12), (53, Int.ofNat 13, Int.ofNat 13), (54, Int.ofNat 0, Int.ofNat 0), (54, Int.ofNat 1, Int.ofNat 1), (55, Int.ofNat 0, Int.ofNat 7), (56, Int.ofNat 0, Int.ofNat 49), (57, Int.ofNat 0, Int.ofNat 49), (60, Int.ofNat 0, Int.ofNat 64), (61, Int.ofNat 0, Int.ofNat 8), (62, Int.ofNat 0, Int.ofNat 7), (63, Int.ofNat 0, Int.ofNat 8), (64, Int.ofNat 0, Int.ofNat 8), (65, Int.ofNat 0, Int.ofNat 8), (66, Int.ofNat 0, Int.ofNat 24), (67, Int.ofNat 0, Int.ofNat 8), (68, Int.ofNat 0, Int.ofNat 7), (91, Int.ofNat 0, Int.ofNat 0), (91, Int.ofNat 1, Int.ofNat 1), (91, Int.ofNat 2, Int.ofNat 2), (91, Int.ofNat 3, Int.ofNat 3), (91, Int.ofNat 4, Int.ofNat 4), (91, Int.ofNat 5, Int.ofNat 5), (91, Int.ofNat 6, Int.ofNat 6), (91, Int.ofNat 7, Int.ofNat 7), (92, Int.ofNat 0, Int.ofNat 59)], (Int.ofNat 0, [(3, Int.ofNat 1)]), [111, 0, 1, 4])
set_option maxRecDepth 100000 in
theorem uk66 : uck tbq tuq [((0, 7, 0), un65), ((2, 6, 0), un63), ((1, 4, 0), un58), ((0, 14, 0), un31)] sbs mth mqq 100000 10 6 100060 un66 = true := by decide +kernel
theorem ug66 : UG ((10, 6, 100060), un66) := ug_of _ uk66 (List.forall_mem_cons.mpr ⟨ug65, List.forall_mem_cons.mpr ⟨ug63, List.forall_mem_cons.mpr ⟨ug58, List.forall_mem_cons.mpr ⟨ug31, fun _ h => absurd h List.not_mem_nil⟩⟩⟩⟩)
set_option maxRecDepth 100000 in
noncomputable def un67 : UN := ([(0, 1, (Int.ofNat 0, [])), (0, 2, (Int.ofNat 0, [])), (0, 3, (Int.ofNat 0, [])), (0, 4, (Int.ofNat 0, [])), (0, 5, (Int.ofNat 0, []))], ([(Int.negSucc 2147483647, Int.ofNat 2147483647), (Int.ofNat 1, Int.ofNat 20), (Int.negSucc 2147483647, Int.ofNat 2147483647), (Int.negSucc 2147483647, Int.ofNat 2147483647), (Int.ofNat 0, Int.ofNat 64)], [], [], [], [], [], [], [(0, (2, (Int.ofNat 0, []))), (1, (0, (Int.ofNat 0, [(0, Int.ofNat 1)]))), (2, (0, (Int.ofNat 0, [(1, Int.ofNat 1)]))), (3, (0, (Int.ofNat 0, [(2, Int.ofNat 1)]))), (4, (0, (Int.ofNat 0, [(3, Int.ofNat 1)]))), (5, (0, (Int.ofNat 0, [(4, Int.ofNat 1)])))], []), [(1, 39, [(0, 3, (Int.ofNat 0, []))], ([(Int.negSucc 2147483647, Int.ofNat 2147483647)], [], [], [], [], [], [], [(0, (2, (Int.ofNat 0, []))), (1, (0, (Int.ofNat 0, [(0, Int.ofNat 1)]))), (2, (0, (Int.ofNat 0, [(1, Int.ofNat 1)]))), (3, (0, (Int.ofNat 0, [(5, Int.ofNat 1)])))], []))], [], (Int.ofNat 0, [(4, Int.ofNat 1)]), [36, 0, 1])
set_option maxRecDepth 100000 in
theorem uk67 : uck tbq tuq [] sbs mth mqq 100000 11 3 100008 un67 = true := by decide +kernel
theorem ug67 : UG ((11, 3, 100008), un67) := ug_of _ uk67 (fun _ h => absurd h List.not_mem_nil)
set_option maxRecDepth 100000 in
noncomputable def un68 : UN := ([(0, 1, (Int.ofNat 0, [])), (0, 2, (Int.ofNat 0, []))], ([(Int.negSucc 2147483647, Int.ofNat 2147483647), (Int.ofNat 1, Int.ofNat 20)], [], [], [], [], [], [], [(0, (2, (Int.ofNat 0, []))), (1, (0, (Int.ofNat 0, [(0, Int.ofNat 1)]))), (2, (0, (Int.ofNat 0, [(1, Int.ofNat 1)])))], []), [(0, 59, [], ([], [], [], [], [], [], [], [], []))], [(0, Int.ofNat 1, Int.ofNat 1), (0, Int.ofNat 2, Int.ofNat 2)], (Int.ofNat 0, []), [])
set_option maxRecDepth 100000 in
theorem uk68 : uck tbq tuq [((11, 3, 100008), un67)] sbs mth mqq 100000 11 3 0 un68 = true := by decide +kernel
theorem ug68 : UG ((11, 3, 0), un68) := ug_of _ uk68 (List.forall_mem_cons.mpr ⟨ug67, fun _ h => absurd h List.not_mem_nil⟩)
set_option maxRecDepth 100000 in
noncomputable def un69 : UN := ([(0, 1, (Int.ofNat 0, [])), (0, 2, (Int.ofNat 0, [])), (1, 21, (Int.ofNat 2, []))], ([(Int.negSucc 2147483647, Int.ofNat 2147483647), (Int.negSucc 2147483647, Int.ofNat 2147483647), (Int.ofNat 0, Int.ofNat 60)], [], [], [(21, (Int.ofNat 2, []), (Int.ofNat 0, [(2, Int.ofNat 1)]))], [(0, (Int.ofNat 0, [(2, Int.ofNat 1)]))], [], [], [(0, (2, (Int.ofNat 0, []))), (1, (0, (Int.ofNat 0, [(0, Int.ofNat 1)]))), (2, (0, (Int.ofNat 0, [(1, Int.ofNat 1)])))], []), [(0, 37, [], ([], [], [], [], [], [], [], [], [(0, (Int.ofNat 0, []))])), (0, 124, [], ([], [], [], [], [], [], [], [], [(0, (Int.ofNat 1, []))]))], [(0, Int.ofNat 0, Int.ofNat 0), (0, Int.ofNat 1, Int.ofNat 1), (0, Int.ofNat 2, Int.ofNat 2), (53, Int.ofNat 4, Int.ofNat 4), (53, Int.ofNat 7, Int.ofNat 7), (53, Int.ofNat 8, Int.ofNat 8), (53, Int.ofNat 9, Int.ofNat 9), (53, Int.ofNat 12, Int.ofNat 12), (53, Int.ofNat 13, Int.ofNat 13), (54, Int.ofNat 0, Int.ofNat 0), (54, Int.ofNat 1, Int.ofNat 1), (55, Int.ofNat 0, Int.ofNat 7), (56, Int.ofNat 0, Int.ofNat 49), (57, Int.ofNat 0, Int.ofNat 49), (60, Int.ofNat 0, Int.ofNat 64), (61, Int.ofNat 0, Int.ofNat 8), (62, Int.ofNat 0, Int.ofNat 7), (63, Int.ofNat 0, Int.ofNat 8), (64, Int.ofNat 0, Int.ofNat 8), (65, Int.ofNat 0, Int.ofNat 8), (66, Int.ofNat 0, Int.ofNat 24), (67, Int.ofNat 0, Int.ofNat 8), (68, Int.ofNat 0, Int.ofNat 7), (91, Int.ofNat 0, Int.ofNat 0), (91, Int.ofNat 1, Int.ofNat 1), (91, Int.ofNat 2, Int.ofNat 2), (91, Int.ofNat 3, Int.ofNat 3), (91, Int.ofNat 4, Int.ofNat 4), (91, Int.ofNat 5, Int.ofNat 5), (91, Int.ofNat 6, Int.ofNat 6), (91, Int.ofNat 7, Int.ofNat 7), (92, Int.ofNat 0, Int.ofNat 59)], (Int.ofNat 0, []), [])
set_option maxRecDepth 100000 in
theorem uk69 : uck tbq tuq [((11, 3, 0), un68), ((10, 6, 100060), un66)] sbs mth mqq 100000 10 6 0 un69 = true := by decide +kernel
theorem ug69 : UG ((10, 6, 0), un69) := ug_of _ uk69 (List.forall_mem_cons.mpr ⟨ug68, List.forall_mem_cons.mpr ⟨ug66, fun _ h => absurd h List.not_mem_nil⟩⟩)
set_option maxRecDepth 100000 in
noncomputable def un70 : UN := ([(0, 2, (Int.ofNat 0, []))], ([(Int.ofNat 5, Int.ofNat 164)], [], [], [], [], [], [], [(0, (2, (Int.ofNat 169, []))), (1, (0, (Int.ofNat 2640, []))), (2, (0, (Int.ofNat 0, [(0, Int.ofNat 1)])))], []), [(1, 29, [], ([], [], [], [], [], [], [], [], []))], [(170, Int.ofNat 2645, Int.ofNat 2803)], (Int.ofNat 0, [(0, Int.ofNat 1)]), [26])
set_option maxRecDepth 100000 in
theorem uk70 : uck tbq tuq [] sbs mth mqq 100000 16 7 100002 un70 = true := by decide +kernel
theorem ug70 : UG ((16, 7, 100002), un70) := ug_of _ uk70 (fun _ h => absurd h List.not_mem_nil)
set_option maxRecDepth 100000 in
noncomputable def un71 : UN := ([(0, 2, (Int.ofNat 0, [])), (1, 170, (Int.ofNat 4, []))], ([(Int.ofNat 0, Int.ofNat 5), (Int.ofNat 0, Int.ofNat 60)], [], [], [(170, (Int.ofNat 4, []), (Int.ofNat 0, [(1, Int.ofNat 1)]))], [(5, (Int.ofNat 0, [(1, Int.ofNat 1)]))], [], [], [(0, (2, (Int.ofNat 169, []))), (2, (0, (Int.ofNat 0, [(0, Int.ofNat 1)])))], []), [(1, 30, [], ([], [], [], [], [], [], [], [(0, (2, (Int.ofNat 169, [])))], []))], [(183, Int.ofNat 0, Int.ofNat 4)], (Int.ofNat 0, [(0, Int.ofNat 1)]), [27, 1])
set_option maxRecDepth 100000 in
theorem uk71 : uck tbq tuq [] sbs mth mqq 100000 19 6 100012 un71 = true := by decide +kernel
theorem ug71 : UG ((19, 6, 100012), un71) := ug_of _ uk71 (fun _ h => absurd h List.not_mem_nil)
set_option maxRecDepth 100000 in
noncomputable def un72 : UN := ([(0, 1, (Int.ofNat 0, [])), (0, 2, (Int.ofNat 0, [])), (0, 3, (Int.ofNat 0, []))], ([(Int.ofNat 0, Int.ofNat 7), (Int.ofNat 0, Int.ofNat 7), (Int.ofNat 0, Int.ofNat 99)], [], [], [], [], [], [], [(0, (2, (Int.ofNat 169, []))), (1, (0, (Int.ofNat 0, [(0, Int.ofNat 1)]))), (2, (0, (Int.ofNat 0, [(1, Int.ofNat 1)]))), (3, (0, (Int.ofNat 0, [(2, Int.ofNat 1)])))], []), [(0, 17, [], ([], [], [], [], [], [], [], [], [(0, (Int.ofNat 0, []))])), (0, 33, [], ([], [], [], [], [], [], [], [], [(0, (Int.ofNat 1, []))]))], [(170, Int.ofNat 67, Int.ofNat 130)], (Int.ofNat 0, []), [])
set_option maxRecDepth 100000 in
theorem uk72 : uck tbq tuq [] sbs mth mqq 100000 15 17 0 un72 = true := by decide +kernel
theorem ug72 : UG ((15, 17, 0), un72) := ug_of _ uk72 (fun _ h => absurd h List.not_mem_nil)
set_option maxRecDepth 100000 in
noncomputable def un73 : UN := ([(0, 1, (Int.ofNat 0, [])), (0, 2, (Int.ofNat 0, []))], ([(Int.ofNat 0, Int.ofNat 7), (Int.ofNat 0, Int.ofNat 7)], [], [], [], [], [], [], [(0, (2, (Int.ofNat 169, []))), (1, (0, (Int.ofNat 0, [(0, Int.ofNat 1)]))), (2, (0, (Int.ofNat 0, [(1, Int.ofNat 1)])))], []), [(0, 20, [], ([], [], [], [], [], [], [], [], [(0, (Int.negSucc 0, []))])), (0, 29, [(3, 0, (Int.ofNat 0, []))], ([(Int.ofNat 1, Int.ofNat 99)], [], [], [], [], [], [], [], [(0, (Int.ofNat 0, [(2, Int.ofNat 1)]))]))], [(170, Int.ofNat 67, Int.ofNat 130)], (Int.ofNat 0, []), [])
set_option maxRecDepth 100000 in
theorem uk73 : uck tbq tuq [] sbs mth mqq 100000 15 15 0 un73 = true := by decide +kernel
theorem ug73 : UG ((15, 15, 0), un73) := ug_of _ uk73 (fun _ h => absurd h List.not_mem_nil)
set_option maxRecDepth 100000 in
noncomputable def un74 : UN := ([(0, 1, (Int.ofNat 0, [])), (0, 2, (Int.ofNat 0, [])), (0, 3, (Int.ofNat 0, []))], ([(Int.ofNat 0, Int.ofNat 7), (Int.ofNat 0, Int.ofNat 792), (Int.ofNat 0, Int.ofNat 8)], [(Int.ofNat 0, [(1, Int.negSucc 0), (2, Int.ofNat 99)])], [], [], [], [], [], [(0, (2, (Int.ofNat 169, []))), (1, (0, (Int.ofNat 0, [(0, Int.ofNat 1)]))), (2, (0, (Int.ofNat 0, [(1, Int.ofNat 1)]))), (3, (0, (Int.ofNat 0, [(2, Int.ofNat 1)])))], []), [(1, 29, [(0, 2, (Int.ofNat 0, []))], ([(Int.ofNat 0, Int.ofNat 792)], [], [], [], [], [], [], [(2, (0, (Int.ofNat 0, [(3, Int.ofNat 1)])))], []))], [], (Int.ofNat 0, [(2, Int.ofNat 1)]), [26, 0])
set_option maxRecDepth 100000 in
theorem uk74 : uck tbq tuq [] sbs mth mqq 100000 14 9 100004 un74 = true := by decide +kernel
theorem ug74 : UG ((14, 9, 100004), un74) := ug_of _ uk74 (fun _ h => absurd h List.not_mem_nil)
set_option maxRecDepth 100000 in
noncomputable def un75 : UN := ([(0, 1, (Int.ofNat 0, []))], ([(Int.ofNat 0, Int.ofNat 7)], [], [], [], [], [], [], [(0, (2, (Int.ofNat 169, []))), (1, (0, (Int.ofNat 0, [(0, Int.ofNat 1)])))], []), [(0, 30, [(3, 0, (Int.ofNat 0, []))], ([(Int.ofNat 0, Int.ofNat 792)], [], [], [], [], [], [], [], [(0, (Int.ofNat 0, [(1, Int.ofNat 1)]))]))], [], (Int.ofNat 0, []), [])
set_option maxRecDepth 100000 in
theorem uk75 : uck tbq tuq [((14, 9, 100004), un74)] sbs mth mqq 100000 14 9 0 un75 = true := by decide +kernel
theorem ug75 : UG ((14, 9, 0), un75) := ug_of _ uk75 (List.forall_mem_cons.mpr ⟨ug74, fun _ h => absurd h List.not_mem_nil⟩)
set_option maxRecDepth 100000 in
noncomputable def un76 : UN := ([(0, 1, (Int.ofNat 0, [])), (0, 2, (Int.ofNat 0, [])), (0, 3, (Int.ofNat 0, []))], ([(Int.ofNat 0, Int.ofNat 6), (Int.negSucc 0, Int.negSucc 0), (Int.ofNat 0, Int.ofNat 7)], [], [], [], [], [], [], [(0, (2, (Int.ofNat 169, []))), (1, (0, (Int.ofNat 0, [(0, Int.ofNat 1)]))), (2, (0, (Int.ofNat 0, [(1, Int.ofNat 1)]))), (3, (0, (Int.ofNat 0, [(2, Int.ofNat 1)])))], []), [(1, 32, [], ([], [], [], [], [], [], [], [(0, (2, (Int.ofNat 169, []))), (2, (0, (Int.negSucc 0, [])))], []))], [(178, Int.ofNat 0, Int.ofNat 6)], (Int.ofNat 0, [(2, Int.ofNat 1)]), [29, 0, 1])
set_option maxRecDepth 100000 in
theorem uk76 : uck tbq tuq [] sbs mth mqq 100000 15 3 100002 un76 = true := by decide +kernel
theorem ug76 : UG ((15, 3, 100002), un76) := ug_of _ uk76 (fun _ h => absurd h List.not_mem_nil)
set_option maxRecDepth 100000 in
noncomputable def un77 : UN := ([(0, 2, (Int.ofNat 0, [])), (0, 3, (Int.ofNat 0, [])), (0, 4, (Int.ofNat 0, [])), (0, 5, (Int.ofNat 0, []))], ([(Int.negSucc 0, Int.negSucc 0), (Int.ofNat 0, Int.ofNat 6), (Int.ofNat 0, Int.ofNat 6), (Int.ofNat 0, Int.ofNat 7)], [], [], [], [], [], [], [(0, (2, (Int.ofNat 169, []))), (2, (0, (Int.ofNat 0, [(0, Int.ofNat 1)]))), (3, (0, (Int.ofNat 0, [(1, Int.ofNat 1)]))), (4, (0, (Int.ofNat 0, [(2, Int.ofNat 1)]))), (5, (0, (Int.ofNat 0, [(3, Int.ofNat 1)])))], []), [(1, 134, [], ([], [], [], [], [], [], [], [(0, (2, (Int.ofNat 169, []))), (2, (0, (Int.negSucc 0, []))), (3, (0, (Int.ofNat 0, [(1, Int.ofNat 1)]))), (4, (0, (Int.ofNat 0, [(2, Int.ofNat 1)])))], []))], [(178, Int.ofNat 0, Int.ofNat 6)], (Int.ofNat 0, [(3, Int.ofNat 1)]), [131, 0, 1, 2])
set_option maxRecDepth 100000 in
theorem uk77 : uck tbq tuq [] sbs mth mqq 100000 15 3 100057 un77 = true := by decide +kernel
theorem ug77 : UG ((15, 3, 100057), un77) := ug_of _ uk77 (fun _ h => absurd h List.not_mem_nil)
set_option maxRecDepth 100000 in
noncomputable def un78 : UN := ([(0, 2, (Int.ofNat 0, [])), (0, 3, (Int.ofNat 0, [])), (0, 4, (Int.ofNat 0, []))], ([(Int.negSucc 0, Int.negSucc 0), (Int.ofNat 0, Int.ofNat 6), (Int.ofNat 0, Int.ofNat 7)], [], [], [], [], [], [], [(0, (2, (Int.ofNat 169, []))), (2, (0, (Int.ofNat 0, [(0, Int.ofNat 1)]))), (3, (0, (Int.ofNat 0, [(1, Int.ofNat 1)]))), (4, (0, (Int.ofNat 0, [(2, Int.ofNat 1)])))], []), [(1, 140, [], ([], [], [], [], [], [], [], [(0, (2, (Int.ofNat 169, []))), (2, (0, (Int.negSucc 0, []))), (3, (0, (Int.ofNat 0, [(1, Int.ofNat 1)])))], []))], [(178, Int.ofNat 0, Int.ofNat 6)], (Int.ofNat 0, [(2, Int.ofNat 1)]), [137, 0, 1])
set_option maxRecDepth 100000 in
theorem uk78 : uck tbq tuq [((15, 3, 100057), un77)] sbs mth mqq 100000 15 3 100043 un78 = true := by decide +kernel
theorem ug78 : UG ((15, 3, 100043), un78) := ug_of _ uk78 (List.forall_mem_cons.mpr ⟨ug77, fun _ h => absurd h List.not_mem_nil⟩)
set_option maxRecDepth 100000 in
noncomputable def un79 : UN := ([(0, 2, (Int.ofNat 0, [])), (0, 3, (Int.ofNat 0, []))], ([(Int.negSucc 0, Int.negSucc 0), (Int.ofNat 0, Int.ofNat 7)], [], [], [], [], [], [], [(0, (2, (Int.ofNat 169, []))), (2, (0, (Int.ofNat 0, [(0, Int.ofNat 1)]))), (3, (0, (Int.ofNat 0, [(1, Int.ofNat 1)])))], []), [(1, 146, [], ([], [], [], [], [], [], [], [], []))], [(178, Int.ofNat 0, Int.ofNat 6)], (Int.ofNat 0, [(1, Int.ofNat 1)]), [143, 0])
set_option maxRecDepth 100000 in
theorem uk79 : uck tbq tuq [((15, 3, 100043), un78)] sbs mth mqq 100000 15 3 100034 un79 = true := by decide +kernel
theorem ug79 : UG ((15, 3, 100034), un79) := ug_of _ uk79 (List.forall_mem_cons.mpr ⟨ug78, fun _ h => absurd h List.not_mem_nil⟩)
set_option maxRecDepth 100000 in
noncomputable def un80 : UN := ([(0, 1, (Int.ofNat 0, [])), (0, 2, (Int.ofNat 0, []))], ([(Int.ofNat 0, Int.ofNat 6), (Int.negSucc 0, Int.negSucc 0)], [], [], [], [], [], [], [(0, (2, (Int.ofNat 169, []))), (1, (0, (Int.ofNat 0, [(0, Int.ofNat 1)]))), (2, (0, (Int.ofNat 0, [(1, Int.ofNat 1)])))], []), [(0, 146, [], ([], [], [], [], [], [], [], [], []))], [(178, Int.ofNat 0, Int.ofNat 6)], (Int.ofNat 0, []), [])
set_option maxRecDepth 100000 in
theorem uk80 : uck tbq tuq [((15, 3, 100034), un79), ((15, 3, 100002), un76)] sbs mth mqq 100000 15 3 0 un80 = true := by decide +kernel
theorem ug80 : UG ((15, 3, 0), un80) := ug_of _ uk80 (List.forall_mem_cons.mpr ⟨ug79, List.forall_mem_cons.mpr ⟨ug76, fun _ h => absurd h List.not_mem_nil⟩⟩)
set_option maxRecDepth 100000 in
noncomputable def un81 : UN := ([(0, 1, (Int.ofNat 0, [])), (0, 3, (Int.ofNat 0, []))], ([(Int.ofNat 0, Int.ofNat 7), (Int.ofNat 0, Int.ofNat 8)], [], [], [], [], [], [], [(0, (2, (Int.ofNat 169, []))), (1, (0, (Int.ofNat 0, [(0, Int.ofNat 1)]))), (2, (0, (Int.negSucc 0, []))), (3, (0, (Int.ofNat 0, [(1, Int.ofNat 1)])))], []), [(1, 85, [], ([], [], [], [], [], [], [], [(2, (0, (Int.negSucc 0, [])))], [])), (1, 14, [(0, 2, (Int.ofNat 0, [])), (0, 3, (Int.ofNat 0, [])), (1, 170, (Int.ofNat 67, [(0, Int.ofNat 8), (2, Int.ofNat 1)]))], ([(Int.ofNat 0, Int.ofNat 7), (Int.ofNat 1, Int.ofNat 8), (Int.ofNat 1, Int.ofNat 99)], [], [], [(170, (Int.ofNat 67, [(0, Int.ofNat 8), (2, Int.ofNat 1)]), (Int.ofNat 0, [(4, Int.ofNat 1)]))], [], [], [], [(0, (2, (Int.ofNat 169, []))), (1, (0, (Int.ofNat 0, [(0, Int.ofNat 1)]))), (2, (0, (Int.ofNat 0, [(2, Int.ofNat 1)]))), (3, (0, (Int.ofNat 0, [(3, Int.ofNat 1)])))], []))], [], (Int.ofNat 0, [(1, Int.ofNat 1)]), [82, 0])
set_option maxRecDepth 100000 in
theorem uk81 : uck tbq tuq [] sbs mth mqq 100000 15 4 100014 un81 = true := by decide +kernel
theorem ug81 : UG ((15, 4, 100014), un81) := ug_of _ uk81 (fun _ h => absurd h List.not_mem_nil)
set_option maxRecDepth 100000 in
noncomputable def un82 : UN := ([(0, 1, (Int.ofNat 0, [])), (0, 2, (Int.ofNat 0, [])), (0, 3, (Int.ofNat 0, [])), (1, 170, (Int.ofNat 67, [(0, Int.ofNat 8), (1, Int.ofNat 1)]))], ([(Int.ofNat 0, Int.ofNat 7), (Int.ofNat 0, Int.ofNat 7), (Int.ofNat 1, Int.ofNat 8), (Int.ofNat 1, Int.ofNat 99)], [], [], [(170, (Int.ofNat 67, [(0, Int.ofNat 8), (1, Int.ofNat 1)]), (Int.ofNat 0, [(3, Int.ofNat 1)]))], [], [], [], [(0, (2, (Int.ofNat 169, []))), (1, (0, (Int.ofNat 0, [(0, Int.ofNat 1)]))), (2, (0, (Int.ofNat 0, [(1, Int.ofNat 1)]))), (3, (0, (Int.ofNat 0, [(2, Int.ofNat 1)])))], []), [(1, 85, [(0, 2, (Int.ofNat 0, [])), (1, 170, (Int.ofNat 67, [(0, Int.ofNat 8), (4, Int.ofNat 1)]))], ([(Int.ofNat 0, Int.ofNat 7), (Int.ofNat 1, Int.ofNat 99)], [], [], [(170, (Int.ofNat 67, [(0, Int.ofNat 8), (4, Int.ofNat 1)]), (Int.ofNat 0, [(5, Int.ofNat 1)]))], [], [], [], [(2, (0, (Int.ofNat 0, [(4, Int.ofNat 1)])))], []))], [], (Int.ofNat 0, [(2, Int.ofNat 1)]), [82, 0])
set_option maxRecDepth 100000 in
theorem uk82 : uck tbq tuq [] sbs mth mqq 100000 15 4 100014 un82 = true := by decide +kernel
theorem ug82 : UG ((15, 4, 100014), un82) := ug_of _ uk82 (fun _ h => absurd h List.not_mem_nil)
set_option maxRecDepth 100000 in
noncomputable def un83 : UN := ([(0, 1, (Int.ofNat 0, []))], ([(Int.ofNat 0, Int.ofNat 7)], [], [], [], [], [], [], [(0, (2, (Int.ofNat 169, []))), (1, (0, (Int.ofNat 0, [(0, Int.ofNat 1)])))], []), [(0, 86, [(3, 0, (Int.ofNat 0, [])), (1, 170, (Int.ofNat 67, [(0, Int.ofNat 8), (1, Int.ofNat 1)]))], ([(Int.ofNat 0, Int.ofNat 7), (Int.ofNat 1, Int.ofNat 99)], [], [], [(170, (Int.ofNat 67, [(0, Int.ofNat 8), (1, Int.ofNat 1)]), (Int.ofNat 0, [(2, Int.ofNat 1)]))], [], [], [], [], [(0, (Int.ofNat 0, [(1, Int.ofNat 1)]))])), (0, 86, [], ([], [], [], [], [], [], [], [], [(0, (Int.negSucc 0, []))]))], [(178, Int.ofNat 0, Int.ofNat 6)], (Int.ofNat 0, []), [])
set_option maxRecDepth 100000 in
theorem uk83 : uck tbq tuq [((15, 4, 100014), un82), ((15, 4, 100014), un81), ((15, 3, 0), un80)] sbs mth mqq 100000 15 4 0 un83 = true := by decide +kernel
theorem ug83 : UG ((15, 4, 0), un83) := ug_of _ uk83 (List.forall_mem_cons.mpr ⟨ug82, List.forall_mem_cons.mpr ⟨ug81, List.forall_mem_cons.mpr ⟨ug80, fun _ h => absurd h List.not_mem_nil⟩⟩⟩)
set_option maxRecDepth 100000 in
noncomputable def un84 : UN := ([(0, 1, (Int.ofNat 0, [])), (0, 2, (Int.ofNat 0, [])), (0, 3, (Int.ofNat 0, [])), (0, 4, (Int.ofNat 0, []))], ([(Int.ofNat 0, Int.ofNat 6), (Int.ofNat 0, Int.ofNat 6), (Int.ofNat 0, Int.ofNat 1000000), (Int.ofNat 0, Int.ofNat 7)], [], [], [], [], [], [], [(0, (2, (Int.ofNat 169, []))), (1, (0, (Int.ofNat 0, [(0, Int.ofNat 1)]))), (2, (0, (Int.ofNat 0, [(1, Int.ofNat 1)]))), (3, (0, (Int.ofNat 0, [(2, Int.ofNat 1)]))), (4, (0, (Int.ofNat 0, [(3, Int.ofNat 1)])))], []), [(1, 77, [], ([], [], [], [], [], [], [], [(1, (0, (Int.ofNat 0, [(0, Int.ofNat 1)])))], [])), (0, 70, [(3, 0, (Int.ofNat 0, []))], ([(Int.ofNat 0, Int.ofNat 6)], [], [], [], [], [], [], [], [(0, (Int.ofNat 0, [(4, Int.ofNat 1)]))]))], [(178, Int.ofNat 0, Int.ofNat 6)], (Int.ofNat 0, [(3, Int.ofNat 1)]), [74, 0, 1, 2])
set_option maxRecDepth 100000 in
theorem uk84 : uck tbq tuq [((15, 3, 0), un80)] sbs mth mqq 100000 15 5 100016 un84 = true := by decide +kernel
theorem ug84 : UG ((15, 5, 100016), un84) := ug_of _ uk84 (List.forall_mem_cons.mpr ⟨ug80, fun _ h => absurd h List.not_mem_nil⟩)
set_option maxRecDepth 100000 in
noncomputable def un85 : UN := ([(0, 1, (Int.ofNat 0, [])), (0, 2, (Int.ofNat 0, []))], ([(Int.ofNat 0, Int.ofNat 6), (Int.ofNat 0, Int.ofNat 6)], [], [], [], [], [], [], [(0, (2, (Int.ofNat 169, []))), (1, (0, (Int.ofNat 0, [(0, Int.ofNat 1)]))), (2, (0, (Int.ofNat 0, [(1, Int.ofNat 1)])))], []), [(0, 70, [(3, 0, (Int.ofNat 0, []))], ([(Int.ofNat 0, Int.ofNat 6)], [], [], [], [], [], [], [], [(0, (Int.ofNat 0, [(2, Int.ofNat 1)]))]))], [(178, Int.ofNat 0, Int.ofNat 6)], (Int.ofNat 0, []), [])
set_option maxRecDepth 100000 in
theorem uk85 : uck tbq tuq [((15, 5, 100016), un84), ((15, 3, 0), un80)] sbs mth mqq 100000 15 5 0 un85 = true := by decide +kernel
theorem ug85 : UG ((15, 5, 0), un85) := ug_of _ uk85 (List.forall_mem_cons.mpr ⟨ug84, List.forall_mem_cons.mpr ⟨ug80, fun _ h => absurd h List.not_mem_nil⟩⟩)
set_option maxRecDepth 100000 in
noncomputable def un86 : UN := ([(0, 1, (Int.ofNat 0, []))], ([(Int.ofNat 0, Int.ofNat 8)], [], [], [], [], [], [], [(0, (2, (Int.ofNat 169, []))), (1, (0, (Int.ofNat 0, [(0, Int.ofNat 1)])))], []), [(1, 99, [], ([], [], [], [], [], [], [], [], []))], [(170, Int.ofNat 3, Int.ofNat 3), (170, Int.ofNat 8, Int.ofNat 130), (178, Int.ofNat 0, Int.ofNat 6)], (Int.ofNat 0, [(0, Int.ofNat 1)]), [96])
set_option maxRecDepth 100000 in
theorem uk86 : uck tbq tuq [((15, 5, 0), un85), ((15, 4, 0), un83), ((14, 9, 0), un75)] sbs mth mqq 100000 15 8 100012 un86 = true := by decide +kernel
theorem ug86 : UG ((15, 8, 100012), un86) := ug_of _ uk86 (List.forall_mem_cons.mpr ⟨ug85, List.forall_mem_cons.mpr ⟨ug83, List.forall_mem_cons.mpr ⟨ug75, fun _ h => absurd h List.not_mem_nil⟩⟩⟩)
set_option maxRecDepth 100000 in
noncomputable def un87 : UN := ([], ([], [], [], [], [], [], [], [(0, (2, (Int.ofNat 169, [])))], []), [(0, 99, [], ([], [], [], [], [], [], [], [], []))], [(170, Int.ofNat 2, Int.ofNat 3), (170, Int.ofNat 8, Int.ofNat 130), (178, Int.ofNat 0, Int.ofNat 6)], (Int.ofNat 0, []), [])
set_option maxRecDepth 100000 in
theorem uk87 : uck tbq tuq [((15, 8, 100012), un86)] sbs mth mqq 100000 15 8 0 un87 = true := by decide +kernel
theorem ug87 : UG ((15, 8, 0), un87) := ug_of _ uk87 (List.forall_mem_cons.mpr ⟨ug86, fun _ h => absurd h List.not_mem_nil⟩)
set_option maxRecDepth 100000 in
noncomputable def un88 : UN := ([(0, 1, (Int.ofNat 0, [])), (0, 2, (Int.ofNat 0, []))], ([(Int.negSucc 2147483647, Int.ofNat 2147483647), (Int.ofNat 0, Int.ofNat 2147483647)], [], [], [], [], [], [], [(0, (2, (Int.ofNat 169, []))), (1, (0, (Int.ofNat 0, [(0, Int.ofNat 1)]))), (2, (0, (Int.ofNat 0, [(1, Int.ofNat 1)])))], []), [(1, 17, [], ([], [], [], [], [], [], [], [], []))], [(170, Int.ofNat 2, Int.ofNat 3), (170, Int.ofNat 8, Int.ofNat 130), (178, Int.ofNat 0, Int.ofNat 6)], (Int.ofNat 0, [(1, Int.ofNat 1)]), [14, 0])
set_option maxRecDepth 100000 in
theorem uk88 : uck tbq tuq [((15, 8, 0), un87)] sbs mth mqq 100000 16 9 100002 un88 = true := by decide +kernel
theorem ug88 : UG ((16, 9, 100002), un88) := ug_of _ uk88 (List.forall_mem_cons.mpr ⟨ug87, fun _ h => absurd h List.not_mem_nil⟩)
set_option maxRecDepth 100000 in
noncomputable def un89 : UN := ([(0, 1, (Int.ofNat 0, []))], ([(Int.negSucc 2147483647, Int.ofNat 2147483647)], [], [], [], [], [], [], [(0, (2, (Int.ofNat 169, []))), (1, (0, (Int.ofNat 0, [(0, Int.ofNat 1)])))], []), [(0, 17, [], ([], [], [], [], [], [], [], [], []))], [(170, Int.ofNat 2, Int.ofNat 3), (170, Int.ofNat 8, Int.ofNat 130), (178, Int.ofNat 0, Int.ofNat 6)], (Int.ofNat 0, []), [])
set_option maxRecDepth 100000 in
theorem uk89 : uck tbq tuq [((16, 9, 100002), un88)] sbs mth mqq 100000 16 9 0 un89 = true := by decide +kernel
theorem ug89 : UG ((16, 9, 0), un89) := ug_of _ uk89 (List.forall_mem_cons.mpr ⟨ug88, fun _ h => absurd h List.not_mem_nil⟩)
set_option maxRecDepth 100000 in
noncomputable def un90 : UN := ([(0, 2, (Int.ofNat 0, [])), (4, 0, (Int.ofNat 0, []))], ([(Int.ofNat 1, Int.ofNat 60), (Int.ofNat 0, Int.ofNat 7840)], [], [], [], [], [], [(Int.ofNat 0, [(1, Int.ofNat 1)])], [(0, (2, (Int.ofNat 169, []))), (2, (0, (Int.ofNat 0, [(0, Int.ofNat 1)])))], []), [(1, 117, [(0, 2, (Int.ofNat 0, []))], ([(Int.ofNat 1, Int.ofNat 60)], [], [], [], [], [], [], [(2, (0, (Int.ofNat 0, [(2, Int.ofNat 1)])))], []))], [(182, Int.ofNat 0, Int.ofNat 59)], (Int.ofNat 0, [(0, Int.ofNat 1), (1, Int.negSucc 60)]), [114])
set_option maxRecDepth 100000 in
theorem uk90 : uck tbq tuq [] sbs mth mqq 100000 19 5 100002 un90 = true := by decide +kernel
theorem ug90 : UG ((19, 5, 100002), un90) := ug_of _ uk90 (fun _ h => absurd h List.not_mem_nil)
set_option maxRecDepth 100000 in
noncomputable def un91 : UN := ([(0, 1, (Int.ofNat 0, []))], ([(Int.ofNat 1, Int.ofNat 60)], [], [], [], [], [], [], [(0, (2, (Int.ofNat 169, []))), (1, (0, (Int.ofNat 0, [(0, Int.ofNat 1)])))], []), [(0, 118, [(3, 0, (Int.ofNat 0, []))], ([(Int.ofNat 1, Int.ofNat 60)], [], [], [], [], [], [], [], [(0, (Int.ofNat 0, [(1, Int.ofNat 1)]))]))], [(182, Int.ofNat 0, Int.ofNat 59)], (Int.ofNat 0, []), [])
set_option maxRecDepth 100000 in
theorem uk91 : uck tbq tuq [((19, 5, 100002), un90)] sbs mth mqq 100000 19 5 0 un91 = true := by decide +kernel
theorem ug91 : UG ((19, 5, 0), un91) := ug_of _ uk91 (List.forall_mem_cons.mpr ⟨ug90, fun _ h => absurd h List.not_mem_nil⟩)
set_option maxRecDepth 100000 in
noncomputable def un92 : UN := ([(0, 2, (Int.ofNat 0, [])), (1, 170, (Int.ofNat 4, [])), (1, 169, (Int.ofNat 28, []))], ([(Int.ofNat 0, Int.ofNat 60), (Int.ofNat 0, Int.ofNat 60), (Int.ofNat 0, Int.ofNat 300)], [], [], [(170, (Int.ofNat 4, []), (Int.ofNat 0, [(1, Int.ofNat 1)])), (169, (Int.ofNat 28, []), (Int.ofNat 0, [(2, Int.ofNat 1)]))], [(5, (Int.ofNat 0, [(1, Int.ofNat 1)]))], [], [], [(0, (2, (Int.ofNat 169, []))), (2, (0, (Int.ofNat 0, [(0, Int.ofNat 1)])))], []), [(1, 184, [(1, 169, (Int.ofNat 28, []))], ([(Int.ofNat 0, Int.ofNat 300)], [], [], [(169, (Int.ofNat 28, []), (Int.ofNat 0, [(3, Int.ofNat 1)]))], [], [], [], [], [])), (0, 90, [(1, 169, (Int.ofNat 28, []))], ([(Int.ofNat 1, Int.ofNat 300)], [], [], [(169, (Int.ofNat 28, []), (Int.ofNat 0, [(3, Int.ofNat 1)]))], [], [], [], [], []))], [(169, Int.ofNat 27, Int.ofNat 27), (169, Int.ofNat 28, Int.ofNat 28), (170, Int.ofNat 2, Int.ofNat 3), (170, Int.ofNat 6, Int.ofNat 130), (178, Int.ofNat 0, Int.ofNat 6), (182, Int.ofNat 0, Int.ofNat 59), (183, Int.ofNat 0, Int.ofNat 4)], (Int.ofNat 0, [(2, Int.ofNat 1)]), [181, 1])
set_option maxRecDepth 100000 in
theorem uk92 : uck tbq tuq [((19, 5, 0), un91), ((16, 9, 0), un89), ((14, 9, 0), un75), ((15, 15, 0), un73), ((15, 17, 0), un72), ((19, 1, 0), un10), ((15, 13, 0), un7)] sbs mth mqq 100000 19 6 100032 un92 = true := by decide +kernel
theorem ug92 : UG ((19, 6, 100032), un92) := ug_of _ uk92 (List.forall_mem_cons.mpr ⟨ug91, List.forall_mem_cons.mpr ⟨ug89, List.forall_mem_cons.mpr ⟨ug75, List.forall_mem_cons.mpr ⟨ug73, List.forall_mem_cons.mpr ⟨ug72, List.forall_mem_cons.mpr ⟨ug10, List.forall_mem_cons.mpr ⟨ug7, fun _ h => absurd h List.not_mem_nil⟩⟩⟩⟩⟩⟩⟩)
set_option maxRecDepth 100000 in
noncomputable def un93 : UN := ([(0, 1, (Int.ofNat 0, [])), (0, 2, (Int.ofNat 0, []))], ([(Int.ofNat 0, Int.ofNat 6336), (Int.ofNat 0, Int.ofNat 8)], [(Int.ofNat 0, [(0, Int.negSucc 0), (1, Int.ofNat 792)])], [], [], [], [], [], [(0, (2, (Int.ofNat 169, []))), (1, (0, (Int.ofNat 0, [(0, Int.ofNat 1)]))), (2, (0, (Int.ofNat 0, [(1, Int.ofNat 1)])))], []), [(1, 28, [(0, 1, (Int.ofNat 0, []))], ([(Int.ofNat 0, Int.ofNat 6336)], [], [], [], [], [], [], [(1, (0, (Int.ofNat 0, [(2, Int.ofNat 1)])))], []))], [], (Int.ofNat 0, [(1, Int.ofNat 1)]), [25])
set_option maxRecDepth 100000 in
theorem uk93 : uck tbq tuq [((14, 9, 0), un75)] sbs mth mqq 100000 14 11 100004 un93 = true := by decide +kernel
theorem ug93 : UG ((14, 11, 100004), un93) := ug_of _ uk93 (List.forall_mem_cons.mpr ⟨ug75, fun _ h => absurd h List.not_mem_nil⟩)
set_option maxRecDepth 100000 in
noncomputable def un94 : UN := ([], ([], [], [], [], [], [], [], [(0, (2, (Int.ofNat 169, [])))], []), [(0, 29, [(3, 0, (Int.ofNat 0, []))], ([(Int.ofNat 0, Int.ofNat 6336)], [], [], [], [], [], [], [], [(0, (Int.ofNat 0, [(0, Int.ofNat 1)]))]))], [], (Int.ofNat 0, []), [])
set_option maxRecDepth 100000 in
theorem uk94 : uck tbq tuq [((14, 11, 100004), un93)] sbs mth mqq 100000 14 11 0 un94 = true := by decide +kernel
theorem ug94 : UG ((14, 11, 0), un94) := ug_of _ uk94 (List.forall_mem_cons.mpr ⟨ug93, fun _ h => absurd h List.not_mem_nil⟩)
set_option maxRecDepth 100000 in
noncomputable def un95 : UN := ([(0, 2, (Int.ofNat 0, []))], ([(Int.ofNat 5, Int.ofNat 164)], [], [], [], [], [], [], [(0, (2, (Int.ofNat 169, []))), (1, (0, (Int.ofNat 2640, []))), (2, (0, (Int.ofNat 0, [(0, Int.ofNat 1)])))], []), [(1, 29, [], ([], [], [], [], [], [], [], [], []))], [(170, Int.ofNat 5, Int.ofNat 163)], (Int.ofNat 0, [(0, Int.ofNat 1)]), [26])
set_option maxRecDepth 100000 in
theorem uk95 : uck tbq tuq [] sbs mth mqq 100000 16 8 100002 un95 = true := by decide +kernel
theorem ug95 : UG ((16, 8, 100002), un95) := ug_of _ uk95 (fun _ h => absurd h List.not_mem_nil)
set_option maxRecDepth 100000 in
noncomputable def un96 : UN := ([(0, 1, (Int.ofNat 0, [])), (0, 3, (Int.ofNat 0, [])), (0, 5, (Int.ofNat 0, [])), (0, 7, (Int.ofNat 0, []))], ([(Int.ofNat 0, Int.ofNat 1000000), (Int.ofNat 1, Int.ofNat 9999), (Int.ofNat 0, Int.ofNat 1000000), (Int.ofNat 0, Int.ofNat 9999)], [(Int.negSucc 0, [(2, Int.ofNat 1), (3, Int.ofNat 1)])], [], [], [], [], [], [(0, (2, (Int.ofNat 169, []))), (1, (1, (Int.ofNat 0, [(0, Int.ofNat 1)]))), (3, (1, (Int.ofNat 0, [(1, Int.ofNat 1)]))), (5, (1, (Int.ofNat 0, [(2, Int.ofNat 1)]))), (7, (1, (Int.ofNat 0, [(3, Int.ofNat 1)])))], []), [(1, 31, [(0, 5, (Int.ofNat 0, []))], ([(Int.ofNat 1, Int.ofNat 1000000)], [], [], [], [], [], [], [(0, (2, (Int.ofNat 169, []))), (1, (1, (Int.ofNat 0, [(0, Int.ofNat 1)]))), (3, (1, (Int.ofNat 0, [(1, Int.ofNat 1)]))), (5, (1, (Int.ofNat 0, [(4, Int.ofNat 1)])))], []))], [], (Int.ofNat 0, [(3, Int.negSucc 0)]), [28, 0, 1])
set_option maxRecDepth 100000 in
theorem uk96 : uck tbq tuq [] sbs mth mqq 100000 11 13 100006 un96 = true := by decide +kernel
theorem ug96 : UG ((11, 13, 100006), un96) := ug_of _ uk96 (fun _ h => absurd h List.not_mem_nil)
set_option maxRecDepth 100000 in
noncomputable def un97 : UN := ([(0, 1, (Int.ofNat 0, [])), (0, 3, (Int.ofNat 0, []))], ([(Int.ofNat 0, Int.ofNat 1000000), (Int.ofNat 1, Int.ofNat 9999)], [], [], [], [], [], [], [(0, (2, (Int.ofNat 169, []))), (1, (1, (Int.ofNat 0, [(0, Int.ofNat 1)]))), (3, (1, (Int.ofNat 0, [(1, Int.ofNat 1)])))], []), [(0, 52, [], ([], [], [], [], [], [], [], [], [(0, (Int.ofNat 1, []))]))], [(169, Int.ofNat 2, Int.ofNat 2), (169, Int.ofNat 3, Int.ofNat 3), (169, Int.ofNat 4, Int.ofNat 4)], (Int.ofNat 0, []), [])
set_option maxRecDepth 100000 in
theorem uk97 : uck tbq tuq [((11, 13, 100006), un96)] sbs mth mqq 100000 11 13 0 un97 = true := by decide +kernel
theorem ug97 : UG ((11, 13, 0), un97) := ug_of _ uk97 (List.forall_mem_cons.mpr ⟨ug96, fun _ h => absurd h List.not_mem_nil⟩)
