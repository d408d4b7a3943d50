set_option maxRecDepth 100000 in
noncomputable def un480 : UN := ([(0, 1, (Int.ofNat 0, []))], ([(Int.ofNat 0, Int.ofNat 900)], [], [], [], [], [], [], [(0, (2, (Int.ofNat 2, []))), (1, (0, (Int.ofNat 0, [(0, Int.ofNat 1)])))], []), [(1, 92, [], ([], [], [], [], [], [], [], [(0, (2, (Int.ofNat 2, [])))], []))], [(2, Int.ofNat 4, Int.ofNat 4), (2, Int.ofNat 7, Int.ofNat 7)], (Int.ofNat 0, [(0, Int.ofNat 1)]), [89])
set_option maxRecDepth 100000 in
theorem uk480 : uck tbq tuq [] sbs mth mqq 100000 5 16 100012 un480 = true := by decide +kernel
theorem ug480 : UG ((5, 16, 100012), un480) := ug_of _ uk480 (fun _ h => absurd h List.not_mem_nil)
set_option maxRecDepth 100000 in
noncomputable def un481 : UN := ([(0, 1, (Int.ofNat 0, []))], ([(Int.ofNat 0, Int.ofNat 24)], [], [], [], [], [], [], [(0, (2, (Int.ofNat 2, []))), (1, (0, (Int.ofNat 0, [(0, Int.ofNat 1)])))], []), [(1, 149, [], ([], [], [], [], [], [], [], [], []))], [(2, Int.ofNat 8, Int.ofNat 8)], (Int.ofNat 0, [(0, Int.ofNat 1)]), [146])
set_option maxRecDepth 100000 in
theorem uk481 : uck tbq tuq [] sbs mth mqq 100000 5 16 100118 un481 = true := by decide +kernel
theorem ug481 : UG ((5, 16, 100118), un481) := ug_of _ uk481 (fun _ h => absurd h List.not_mem_nil)
set_option maxRecDepth 100000 in
noncomputable def un482 : UN := ([], ([], [], [], [], [], [], [], [(0, (2, (Int.ofNat 2, [])))], []), [(0, 149, [], ([], [], [], [], [], [], [], [], []))], [(2, Int.ofNat 4, Int.ofNat 4), (2, Int.ofNat 5, Int.ofNat 5), (2, Int.ofNat 7, Int.ofNat 7), (2, Int.ofNat 8, Int.ofNat 8)], (Int.ofNat 0, []), [])
set_option maxRecDepth 100000 in
theorem uk482 : uck tbq tuq [((5, 16, 100118), un481), ((5, 16, 100012), un480)] sbs mth mqq 100000 5 16 0 un482 = true := by decide +kernel
theorem ug482 : UG ((5, 16, 0), un482) := ug_of _ uk482 (List.forall_mem_cons.mpr ⟨ug481, List.forall_mem_cons.mpr ⟨ug480, fun _ h => absurd h List.not_mem_nil⟩⟩)
set_option maxRecDepth 100000 in
noncomputable def un483 : UN := ([(0, 1, (Int.ofNat 0, []))], ([(Int.ofNat 0, Int.ofNat 900)], [], [], [], [], [], [], [(0, (2, (Int.ofNat 2, []))), (1, (0, (Int.ofNat 0, [(0, Int.ofNat 1)])))], []), [(1, 82, [], ([], [], [], [], [], [], [], [(0, (2, (Int.ofNat 2, [])))], []))], [(2, Int.ofNat 4, Int.ofNat 4), (2, Int.ofNat 9, Int.ofNat 9)], (Int.ofNat 0, [(0, Int.ofNat 1)]), [79])
set_option maxRecDepth 100000 in
theorem uk483 : uck tbq tuq [] sbs mth mqq 100000 5 17 100007 un483 = true := by decide +kernel
theorem ug483 : UG ((5, 17, 100007), un483) := ug_of _ uk483 (fun _ h => absurd h List.not_mem_nil)
set_option maxRecDepth 100000 in
noncomputable def un484 : UN := ([], ([], [], [], [], [], [], [], [(0, (2, (Int.ofNat 2, [])))], []), [(0, 104, [], ([], [], [], [], [], [], [], [], []))], [(2, Int.ofNat 4, Int.ofNat 4), (2, Int.ofNat 5, Int.ofNat 5), (2, Int.ofNat 9, Int.ofNat 9)], (Int.ofNat 0, []), [])
set_option maxRecDepth 100000 in
theorem uk484 : uck tbq tuq [((5, 17, 100007), un483)] sbs mth mqq 100000 5 17 0 un484 = true := by decide +kernel
theorem ug484 : UG ((5, 17, 0), un484) := ug_of _ uk484 (List.forall_mem_cons.mpr ⟨ug483, fun _ h => absurd h List.not_mem_nil⟩)
set_option maxRecDepth 100000 in
noncomputable def un485 : UN := ([], ([], [], [], [], [], [], [], [(0, (2, (Int.ofNat 2, [])))], []), [(0, 164, [], ([], [], [], [], [], [], [], [], []))], [(2, Int.ofNat 4, Int.ofNat 4), (2, Int.ofNat 5, Int.ofNat 5), (2, Int.ofNat 6, Int.ofNat 6), (2, Int.ofNat 7, Int.ofNat 7), (2, Int.ofNat 8, Int.ofNat 8), (2, Int.ofNat 9, Int.ofNat 9)], (Int.ofNat 0, []), [])
set_option maxRecDepth 100000 in
theorem uk485 : uck tbq tuq [((5, 17, 0), un484), ((5, 16, 0), un482), ((5, 15, 100002), un479)] sbs mth mqq 100000 5 15 0 un485 = true := by decide +kernel
theorem ug485 : UG ((5, 15, 0), un485) := ug_of _ uk485 (List.forall_mem_cons.mpr ⟨ug484, List.forall_mem_cons.mpr ⟨ug482, List.forall_mem_cons.mpr ⟨ug479, fun _ h => absurd h List.not_mem_nil⟩⟩⟩)
set_option maxRecDepth 100000 in
noncomputable def un486 : UN := ([(0, 1, (Int.ofNat 0, [])), (0, 3, (Int.ofNat 0, []))], ([(Int.negSucc 9223372036854775807, Int.ofNat 9223372036854775807), (Int.ofNat 0, Int.ofNat 7)], [], [], [], [], [], [], [(0, (2, (Int.ofNat 5, []))), (1, (1, (Int.ofNat 0, [(0, Int.ofNat 1)]))), (3, (0, (Int.ofNat 0, [(1, Int.ofNat 1)])))], []), [(1, 32, [], ([], [], [], [], [], [], [], [], [])), (0, 25, [(3, 0, (Int.ofNat 0, []))], ([(Int.ofNat 0, Int.ofNat 6)], [], [], [], [], [], [], [], [(0, (Int.ofNat 0, [(2, Int.ofNat 1)]))]))], [], (Int.ofNat 0, [(1, Int.ofNat 1)]), [29, 0])
set_option maxRecDepth 100000 in
theorem uk486 : uck tbq tuq [] sbs mth mqq 100000 0 15 100002 un486 = true := by decide +kernel
theorem ug486 : UG ((0, 15, 100002), un486) := ug_of _ uk486 (fun _ h => absurd h List.not_mem_nil)
set_option maxRecDepth 100000 in
noncomputable def un487 : UN := ([(0, 1, (Int.ofNat 0, []))], ([(Int.negSucc 9223372036854775807, Int.ofNat 9223372036854775807)], [], [], [], [], [], [], [(0, (2, (Int.ofNat 5, []))), (1, (1, (Int.ofNat 0, [(0, Int.ofNat 1)])))], []), [(0, 25, [(3, 0, (Int.ofNat 0, []))], ([(Int.ofNat 0, Int.ofNat 6)], [], [], [], [], [], [], [], [(0, (Int.ofNat 0, [(1, Int.ofNat 1)]))])), (0, 33, [], ([], [], [], [], [], [], [], [], [(0, (Int.negSucc 0, []))]))], [], (Int.ofNat 0, []), [])
set_option maxRecDepth 100000 in
theorem uk487 : uck tbq tuq [((0, 15, 100002), un486)] sbs mth mqq 100000 0 15 0 un487 = true := by decide +kernel
theorem ug487 : UG ((0, 15, 0), un487) := ug_of _ uk487 (List.forall_mem_cons.mpr ⟨ug486, fun _ h => absurd h List.not_mem_nil⟩)
set_option maxRecDepth 100000 in
noncomputable def un488 : UN := ([(0, 1, (Int.ofNat 0, [])), (0, 3, (Int.ofNat 0, []))], ([(Int.negSucc 9223372036854775807, Int.ofNat 9223372036854775807), (Int.ofNat 0, Int.ofNat 8)], [], [], [], [], [], [], [(0, (2, (Int.ofNat 5, []))), (1, (1, (Int.ofNat 0, [(0, Int.ofNat 1)]))), (3, (0, (Int.ofNat 0, [(1, Int.ofNat 1)])))], []), [(1, 29, [], ([], [], [], [], [], [], [], [], [])), (0, 22, [(3, 0, (Int.ofNat 0, []))], ([(Int.ofNat 0, Int.ofNat 7)], [], [], [], [], [], [], [], [(0, (Int.ofNat 0, [(2, Int.ofNat 1)]))]))], [], (Int.ofNat 0, [(1, Int.ofNat 1)]), [26, 0])
set_option maxRecDepth 100000 in
theorem uk488 : uck tbq tuq [] sbs mth mqq 100000 0 16 100002 un488 = true := by decide +kernel
theorem ug488 : UG ((0, 16, 100002), un488) := ug_of _ uk488 (fun _ h => absurd h List.not_mem_nil)
set_option maxRecDepth 100000 in
noncomputable def un489 : UN := ([(0, 1, (Int.ofNat 0, []))], ([(Int.negSucc 9223372036854775807, Int.ofNat 9223372036854775807)], [], [], [], [], [], [], [(0, (2, (Int.ofNat 5, []))), (1, (1, (Int.ofNat 0, [(0, Int.ofNat 1)])))], []), [(0, 22, [(3, 0, (Int.ofNat 0, []))], ([(Int.ofNat 0, Int.ofNat 7)], [], [], [], [], [], [], [], [(0, (Int.ofNat 0, [(1, Int.ofNat 1)]))])), (0, 30, [], ([], [], [], [], [], [], [], [], [(0, (Int.negSucc 0, []))]))], [], (Int.ofNat 0, []), [])
set_option maxRecDepth 100000 in
theorem uk489 : uck tbq tuq [((0, 16, 100002), un488)] sbs mth mqq 100000 0 16 0 un489 = true := by decide +kernel
theorem ug489 : UG ((0, 16, 0), un489) := ug_of _ uk489 (List.forall_mem_cons.mpr ⟨ug488, fun _ h => absurd h List.not_mem_nil⟩)
set_option maxRecDepth 100000 in
noncomputable def un490 : UN := ([(0, 2, (Int.ofNat 0, [])), (1, 43, (Int.ofNat 2, [])), (1, 43, (Int.ofNat 1, [])), (1, 50, (Int.ofNat 4, []))], ([(Int.ofNat 0, Int.ofNat 300), (Int.ofNat 0, Int.ofNat 60), (Int.ofNat 0, Int.ofNat 30), (Int.ofNat 0, Int.ofNat 3)], [(Int.ofNat 0, [(1, Int.negSucc 0), (2, Int.ofNat 2), (3, Int.negSucc 0)])], [], [(2, (Int.ofNat 10, []), (Int.ofNat 0, [])), (43, (Int.ofNat 2, []), (Int.ofNat 0, [(1, Int.ofNat 1)])), (43, (Int.ofNat 1, []), (Int.ofNat 0, [(2, Int.ofNat 1)])), (50, (Int.ofNat 4, []), (Int.ofNat 0, [(3, Int.ofNat 1)]))], [(1, (Int.ofNat 0, [(1, Int.ofNat 1)]))], [], [], [(0, (2, (Int.ofNat 50, []))), (2, (0, (Int.ofNat 0, [(0, Int.ofNat 1)])))], []), [(1, 70, [(1, 43, (Int.ofNat 2, [])), (1, 43, (Int.ofNat 1, [])), (1, 50, (Int.ofNat 4, []))], ([(Int.ofNat 0, Int.ofNat 60), (Int.ofNat 0, Int.ofNat 30), (Int.ofNat 0, Int.ofNat 3)], [], [], [(2, (Int.ofNat 10, []), (Int.ofNat 0, [])), (43, (Int.ofNat 2, []), (Int.ofNat 0, [(4, Int.ofNat 1)])), (43, (Int.ofNat 1, []), (Int.ofNat 0, [(5, Int.ofNat 1)])), (50, (Int.ofNat 4, []), (Int.ofNat 0, [(6, Int.ofNat 1)]))], [(1, (Int.ofNat 0, [(4, Int.ofNat 1)]))], [], [], [(0, (2, (Int.ofNat 50, [])))], [])), (1, 22, [(0, 2, (Int.ofNat 0, [])), (1, 2, (Int.ofNat 10, [])), (1, 43, (Int.ofNat 2, [])), (1, 43, (Int.ofNat 1, [])), (1, 50, (Int.ofNat 4, []))], ([(Int.ofNat 1, Int.ofNat 300), (Int.ofNat 1, Int.ofNat 7), (Int.ofNat 0, Int.ofNat 60), (Int.ofNat 0, Int.ofNat 30), (Int.ofNat 0, Int.ofNat 3)], [], [], [(2, (Int.ofNat 10, []), (Int.ofNat 0, [(5, Int.ofNat 1)])), (43, (Int.ofNat 2, []), (Int.ofNat 0, [(6, Int.ofNat 1)])), (43, (Int.ofNat 1, []), (Int.ofNat 0, [(7, Int.ofNat 1)])), (50, (Int.ofNat 4, []), (Int.ofNat 0, [(8, Int.ofNat 1)]))], [], [], [], [(0, (2, (Int.ofNat 50, []))), (2, (0, (Int.ofNat 0, [(4, Int.ofNat 1)])))], []))], [(2, Int.ofNat 4, Int.ofNat 4), (2, Int.ofNat 5, Int.ofNat 5), (2, Int.ofNat 6, Int.ofNat 6), (2, Int.ofNat 7, Int.ofNat 7), (2, Int.ofNat 8, Int.ofNat 8), (2, Int.ofNat 9, Int.ofNat 9), (2, Int.ofNat 10, Int.ofNat 10), (2, Int.ofNat 11, Int.ofNat 11), (43, Int.ofNat 1, Int.ofNat 1), (43, Int.ofNat 2, Int.ofNat 2), (44, Int.ofNat 0, Int.ofNat 59), (45, Int.ofNat 0, Int.ofNat 59), (46, Int.ofNat 0, Int.ofNat 59), (47, Int.ofNat 0, Int.ofNat 59), (48, Int.ofNat 0, Int.ofNat 59), (50, Int.ofNat 4, Int.ofNat 4), (51, Int.ofNat 0, Int.ofNat 2)], (Int.ofNat 0, [(0, Int.ofNat 1)]), [67])
set_option maxRecDepth 100000 in
theorem uk490 : uck tbq tuq [((0, 16, 0), un489), ((0, 15, 0), un487), ((5, 15, 0), un485)] sbs mth mqq 100000 4 19 100022 un490 = true := by decide +kernel
theorem ug490 : UG ((4, 19, 100022), un490) := ug_of _ uk490 (List.forall_mem_cons.mpr ⟨ug489, List.forall_mem_cons.mpr ⟨ug487, List.forall_mem_cons.mpr ⟨ug485, fun _ h => absurd h List.not_mem_nil⟩⟩⟩)
