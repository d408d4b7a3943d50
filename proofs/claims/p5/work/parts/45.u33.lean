set_option maxRecDepth 100000 in
noncomputable def un484 : UN := ([(0, 1, (Int.ofNat 0, [])), (0, 3, (Int.ofNat 0, []))], ([(Int.ofNat 0, Int.ofNat 300), (Int.ofNat 0, Int.ofNat 300)], [], [], [], [], [], [], [(0, (2, (Int.ofNat 169, []))), (1, (0, (Int.ofNat 0, [(0, Int.ofNat 1)]))), (3, (0, (Int.ofNat 0, [(1, Int.ofNat 1)])))], []), [(1, 49, [], ([], [], [], [], [], [], [], [(0, (2, (Int.ofNat 169, [])))], []))], [(176, Int.ofNat 0, Int.ofNat 299)], (Int.ofNat 0, [(1, Int.ofNat 1)]), [46, 0])
set_option maxRecDepth 100000 in
theorem uk484 : uck tbq tuq [] sbs mth mqq 100000 12 11 100026 un484 = true := by decide +kernel
theorem ug484 : UG ((12, 11, 100026), un484) := ug_of _ uk484 (fun _ h => absurd h List.not_mem_nil)
set_option maxRecDepth 100000 in
noncomputable def un485 : UN := ([(1, 169, (Int.ofNat 14, [])), (2, 0, (Int.ofNat 0, []))], ([(Int.ofNat 0, Int.ofNat 900), (Int.ofNat 0, Int.ofNat 0)], [(Int.ofNat 0, [(0, Int.ofNat 1), (1, Int.negSucc 0)])], [], [(169, (Int.ofNat 14, []), (Int.ofNat 0, [(0, Int.ofNat 1)]))], [], [], [], [(0, (2, (Int.ofNat 169, [])))], []), [(1, 39, [(5, 169, (Int.ofNat 14, [(1, Int.ofNat 1)]))], ([(Int.ofNat 0, Int.ofNat 900)], [], [], [(169, (Int.ofNat 14, []), (Int.ofNat 0, [(1, Int.ofNat 1), (2, Int.ofNat 1)]))], [], [], [], [(0, (2, (Int.ofNat 169, [])))], []))], [(169, Int.ofNat 14, Int.ofNat 14)], (Int.ofNat 0, [(0, Int.ofNat 1)]), [36, 1])
set_option maxRecDepth 100000 in
theorem uk485 : uck tbq tuq [] sbs mth mqq 100000 12 7 100000 un485 = true := by decide +kernel
theorem ug485 : UG ((12, 7, 100000), un485) := ug_of _ uk485 (fun _ h => absurd h List.not_mem_nil)
set_option maxRecDepth 100000 in
noncomputable def un486 : UN := ([(1, 169, (Int.ofNat 14, [])), (1, 169, (Int.ofNat 13, [])), (2, 0, (Int.ofNat 0, []))], ([(Int.ofNat 1, Int.ofNat 900), (Int.ofNat 0, Int.ofNat 899), (Int.ofNat 1, Int.ofNat 900)], [(Int.ofNat 0, [(0, Int.ofNat 1), (2, Int.negSucc 0)]), (Int.negSucc 0, [(0, Int.ofNat 1), (1, Int.negSucc 0)])], [], [(169, (Int.ofNat 14, []), (Int.ofNat 0, [(0, Int.ofNat 1)])), (169, (Int.ofNat 13, []), (Int.ofNat 0, [(1, Int.ofNat 1)]))], [], [], [], [(0, (2, (Int.ofNat 169, [])))], []), [(1, 108, [(5, 169, (Int.ofNat 14, [(2, Int.ofNat 1)]))], ([(Int.ofNat 0, Int.ofNat 899)], [(Int.ofNat 900, [(2, Int.negSucc 0), (3, Int.negSucc 0)])], [], [(169, (Int.ofNat 14, []), (Int.ofNat 0, [(2, Int.ofNat 1), (3, Int.ofNat 1)]))], [], [], [], [(0, (2, (Int.ofNat 169, [])))], []))], [(169, Int.ofNat 14, Int.ofNat 14)], (Int.ofNat 0, [(0, Int.ofNat 1)]), [105, 1, 2])
set_option maxRecDepth 100000 in
theorem uk486 : uck tbq tuq [] sbs mth mqq 100000 12 7 100081 un486 = true := by decide +kernel
theorem ug486 : UG ((12, 7, 100081), un486) := ug_of _ uk486 (fun _ h => absurd h List.not_mem_nil)
set_option maxRecDepth 100000 in
noncomputable def un487 : UN := ([(1, 169, (Int.ofNat 14, [])), (1, 169, (Int.ofNat 13, [])), (2, 0, (Int.ofNat 0, []))], ([(Int.ofNat 1, Int.ofNat 900), (Int.ofNat 0, Int.ofNat 899), (Int.ofNat 1, Int.ofNat 900)], [(Int.ofNat 0, [(0, Int.ofNat 1), (2, Int.negSucc 0)]), (Int.negSucc 0, [(0, Int.ofNat 1), (1, Int.negSucc 0)])], [], [(169, (Int.ofNat 14, []), (Int.ofNat 0, [(0, Int.ofNat 1)])), (169, (Int.ofNat 13, []), (Int.ofNat 0, [(1, Int.ofNat 1)]))], [], [], [], [(0, (2, (Int.ofNat 169, [])))], []), [(1, 183, [(5, 169, (Int.ofNat 14, [(2, Int.ofNat 1)]))], ([(Int.ofNat 0, Int.ofNat 899)], [(Int.ofNat 900, [(2, Int.negSucc 0), (3, Int.negSucc 0)])], [], [(169, (Int.ofNat 14, []), (Int.ofNat 0, [(2, Int.ofNat 1), (3, Int.ofNat 1)]))], [], [], [], [(0, (2, (Int.ofNat 169, [])))], []))], [(169, Int.ofNat 14, Int.ofNat 14), (169, Int.ofNat 15, Int.ofNat 15)], (Int.ofNat 0, [(0, Int.ofNat 1)]), [180, 1, 2])
set_option maxRecDepth 100000 in
theorem uk487 : uck tbq tuq [] sbs mth mqq 100000 12 7 100128 un487 = true := by decide +kernel
theorem ug487 : UG ((12, 7, 100128), un487) := ug_of _ uk487 (fun _ h => absurd h List.not_mem_nil)
set_option maxRecDepth 100000 in
noncomputable def un488 : UN := ([(1, 169, (Int.ofNat 14, [])), (1, 169, (Int.ofNat 12, []))], ([(Int.ofNat 0, Int.ofNat 0), (Int.ofNat 0, Int.ofNat 4)], [], [], [(169, (Int.ofNat 14, []), (Int.ofNat 0, [(0, Int.ofNat 1)])), (169, (Int.ofNat 12, []), (Int.ofNat 0, [(1, Int.ofNat 1)]))], [], [], [], [(0, (2, (Int.ofNat 169, [])))], []), [(0, 251, [(5, 169, (Int.ofNat 14, [(0, Int.ofNat 1)])), (1, 169, (Int.ofNat 12, []))], ([(Int.ofNat 1, Int.ofNat 1799), (Int.ofNat 1, Int.ofNat 4)], [(Int.ofNat 900, [(0, Int.negSucc 0), (2, Int.negSucc 0)])], [], [(169, (Int.ofNat 14, []), (Int.ofNat 0, [(0, Int.ofNat 1), (2, Int.ofNat 1)])), (169, (Int.ofNat 12, []), (Int.ofNat 0, [(3, Int.ofNat 1)]))], [], [], [], [], [])), (0, 251, [(5, 169, (Int.ofNat 14, [(0, Int.ofNat 1)]))], ([(Int.ofNat 0, Int.ofNat 900)], [], [], [(169, (Int.ofNat 14, []), (Int.ofNat 0, [(0, Int.ofNat 1), (2, Int.ofNat 1)])), (169, (Int.ofNat 12, []), (Int.ofNat 0, []))], [], [], [], [], []))], [(169, Int.ofNat 12, Int.ofNat 12), (169, Int.ofNat 13, Int.ofNat 13), (169, Int.ofNat 14, Int.ofNat 14), (169, Int.ofNat 15, Int.ofNat 15)], (Int.ofNat 0, []), [])
set_option maxRecDepth 100000 in
theorem uk488 : uck tbq tuq [((12, 7, 100128), un487), ((12, 7, 100081), un486), ((12, 7, 100000), un485)] sbs mth mqq 100000 12 7 0 un488 = true := by decide +kernel
theorem ug488 : UG ((12, 7, 0), un488) := ug_of _ uk488 (List.forall_mem_cons.mpr ⟨ug487, List.forall_mem_cons.mpr ⟨ug486, List.forall_mem_cons.mpr ⟨ug485, fun _ h => absurd h List.not_mem_nil⟩⟩⟩)
set_option maxRecDepth 100000 in
noncomputable def un489 : UN := ([(0, 1, (Int.ofNat 0, [])), (0, 2, (Int.ofNat 0, []))], ([(Int.negSucc 2147483647, Int.ofNat 2147483647), (Int.ofNat 300, Int.ofNat 300)], [], [], [], [], [], [], [(0, (2, (Int.ofNat 169, []))), (1, (0, (Int.ofNat 0, [(0, Int.ofNat 1)]))), (2, (0, (Int.ofNat 0, [(1, Int.ofNat 1)])))], []), [(0, 18, [], ([], [], [], [], [], [], [], [], [(0, (Int.ofNat 0, []))])), (0, 79, [], ([], [], [], [(169, (Int.ofNat 18, []), (Int.ofNat 0, []))], [], [], [], [], [(0, (Int.ofNat 1, []))]))], [(169, Int.ofNat 10, Int.ofNat 10), (169, Int.ofNat 11, Int.ofNat 11), (169, Int.ofNat 12, Int.ofNat 12), (169, Int.ofNat 13, Int.ofNat 13), (169, Int.ofNat 14, Int.ofNat 14), (169, Int.ofNat 15, Int.ofNat 15), (169, Int.ofNat 17, Int.ofNat 17), (169, Int.ofNat 18, Int.ofNat 18), (169, Int.ofNat 19, Int.ofNat 19), (176, Int.ofNat 0, Int.ofNat 299)], (Int.ofNat 0, []), [])
set_option maxRecDepth 100000 in
theorem uk489 : uck tbq tuq [((12, 7, 0), un488), ((12, 11, 100026), un484)] sbs mth mqq 100000 12 11 0 un489 = true := by decide +kernel
theorem ug489 : UG ((12, 11, 0), un489) := ug_of _ uk489 (List.forall_mem_cons.mpr ⟨ug488, List.forall_mem_cons.mpr ⟨ug484, fun _ h => absurd h List.not_mem_nil⟩⟩)
set_option maxRecDepth 100000 in
noncomputable def un490 : UN := ([], ([], [], [], [], [], [], [], [(0, (2, (Int.ofNat 169, []))), (1, (6, (Int.ofNat 3, []))), (2, (0, (Int.ofNat 0, []))), (3, (0, (Int.ofNat 1, [])))], []), [(1, 14, [], ([], [], [], [], [], [], [], [(0, (2, (Int.ofNat 169, []))), (1, (6, (Int.ofNat 3, []))), (2, (0, (Int.ofNat 1, []))), (3, (0, (Int.ofNat 7, [])))], [])), (0, 121, [], ([], [], [], [], [], [], [], [], [(0, (Int.ofNat 0, []))]))], [], (Int.ofNat 0, []), [130])
set_option maxRecDepth 100000 in
theorem uk490 : uck tbq tuq [] sbs mth mqq 100000 12 9 100014 un490 = true := by decide +kernel
theorem ug490 : UG ((12, 9, 100014), un490) := ug_of _ uk490 (fun _ h => absurd h List.not_mem_nil)
set_option maxRecDepth 100000 in
noncomputable def un491 : UN := ([], ([], [], [], [], [], [], [], [(0, (2, (Int.ofNat 169, []))), (1, (6, (Int.ofNat 3, []))), (2, (0, (Int.ofNat 1, []))), (3, (0, (Int.ofNat 7, [])))], []), [(1, 14, [], ([], [], [], [], [], [], [], [(0, (2, (Int.ofNat 169, []))), (1, (6, (Int.ofNat 3, []))), (2, (0, (Int.ofNat 2, []))), (3, (0, (Int.ofNat 12, [])))], [])), (0, 121, [], ([], [], [], [], [], [], [], [], [(0, (Int.ofNat 1, []))]))], [], (Int.ofNat 0, []), [130])
set_option maxRecDepth 100000 in
theorem uk491 : uck tbq tuq [] sbs mth mqq 100000 12 9 100014 un491 = true := by decide +kernel
theorem ug491 : UG ((12, 9, 100014), un491) := ug_of _ uk491 (fun _ h => absurd h List.not_mem_nil)
set_option maxRecDepth 100000 in
noncomputable def un492 : UN := ([], ([], [], [], [], [], [], [], [(0, (2, (Int.ofNat 169, []))), (1, (6, (Int.ofNat 3, []))), (2, (0, (Int.ofNat 2, []))), (3, (0, (Int.ofNat 12, [])))], []), [(1, 14, [], ([], [], [], [], [], [], [], [(0, (2, (Int.ofNat 169, []))), (1, (6, (Int.ofNat 3, []))), (2, (0, (Int.ofNat 3, []))), (3, (0, (Int.ofNat 19, [])))], [])), (0, 121, [], ([], [], [], [], [], [], [], [], [(0, (Int.ofNat 2, []))]))], [], (Int.ofNat 0, []), [130])
set_option maxRecDepth 100000 in
theorem uk492 : uck tbq tuq [] sbs mth mqq 100000 12 9 100014 un492 = true := by decide +kernel
theorem ug492 : UG ((12, 9, 100014), un492) := ug_of _ uk492 (fun _ h => absurd h List.not_mem_nil)
set_option maxRecDepth 100000 in
noncomputable def un493 : UN := ([], ([], [], [], [], [], [], [], [(0, (2, (Int.ofNat 169, []))), (1, (6, (Int.ofNat 3, []))), (2, (0, (Int.ofNat 3, []))), (3, (0, (Int.ofNat 19, [])))], []), [(1, 14, [], ([], [], [], [], [], [], [], [(0, (2, (Int.ofNat 169, []))), (1, (6, (Int.ofNat 3, []))), (2, (0, (Int.ofNat 4, []))), (3, (0, (Int.ofNat 24, [])))], [])), (0, 121, [], ([], [], [], [], [], [], [], [], [(0, (Int.ofNat 3, []))]))], [], (Int.ofNat 0, []), [130])
set_option maxRecDepth 100000 in
theorem uk493 : uck tbq tuq [] sbs mth mqq 100000 12 9 100014 un493 = true := by decide +kernel
theorem ug493 : UG ((12, 9, 100014), un493) := ug_of _ uk493 (fun _ h => absurd h List.not_mem_nil)
