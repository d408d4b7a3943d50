set_option maxRecDepth 100000 in
noncomputable def un491 : UN := ([(0, 1, (Int.ofNat 0, [])), (0, 3, (Int.ofNat 0, []))], ([(Int.ofNat 0, Int.ofNat 300), (Int.ofNat 0, Int.ofNat 300)], [], [], [], [], [], [], [(0, (2, (Int.ofNat 169, []))), (1, (0, (Int.ofNat 0, [(0, Int.ofNat 1)]))), (3, (0, (Int.ofNat 0, [(1, Int.ofNat 1)])))], []), [(1, 49, [], ([], [], [], [], [], [], [], [(0, (2, (Int.ofNat 169, [])))], []))], [(176, Int.ofNat 0, Int.ofNat 299)], (Int.ofNat 0, [(1, Int.ofNat 1)]), [46, 0])
set_option maxRecDepth 100000 in
theorem uk491 : uck tbq tuq [] sbs mth mqq 100000 12 11 100026 un491 = true := by decide +kernel
theorem ug491 : UG ((12, 11, 100026), un491) := ug_of _ uk491 (fun _ h => absurd h List.not_mem_nil)
set_option maxRecDepth 100000 in
noncomputable def un492 : UN := ([(1, 169, (Int.ofNat 14, [])), (2, 0, (Int.ofNat 0, []))], ([(Int.ofNat 0, Int.ofNat 900), (Int.ofNat 0, Int.ofNat 0)], [(Int.ofNat 0, [(0, Int.ofNat 1), (1, Int.negSucc 0)])], [], [(169, (Int.ofNat 14, []), (Int.ofNat 0, [(0, Int.ofNat 1)]))], [], [], [], [(0, (2, (Int.ofNat 169, [])))], []), [(1, 39, [(5, 169, (Int.ofNat 14, [(1, Int.ofNat 1)]))], ([(Int.ofNat 0, Int.ofNat 900)], [], [], [(169, (Int.ofNat 14, []), (Int.ofNat 0, [(1, Int.ofNat 1), (2, Int.ofNat 1)]))], [], [], [], [(0, (2, (Int.ofNat 169, [])))], []))], [(169, Int.ofNat 14, Int.ofNat 14)], (Int.ofNat 0, [(0, Int.ofNat 1)]), [36, 1])
set_option maxRecDepth 100000 in
theorem uk492 : uck tbq tuq [] sbs mth mqq 100000 12 7 100000 un492 = true := by decide +kernel
theorem ug492 : UG ((12, 7, 100000), un492) := ug_of _ uk492 (fun _ h => absurd h List.not_mem_nil)
set_option maxRecDepth 100000 in
noncomputable def un493 : UN := ([(1, 169, (Int.ofNat 14, [])), (1, 169, (Int.ofNat 13, [])), (2, 0, (Int.ofNat 0, []))], ([(Int.ofNat 1, Int.ofNat 900), (Int.ofNat 0, Int.ofNat 899), (Int.ofNat 1, Int.ofNat 900)], [(Int.ofNat 0, [(0, Int.ofNat 1), (2, Int.negSucc 0)]), (Int.negSucc 0, [(0, Int.ofNat 1), (1, Int.negSucc 0)])], [], [(169, (Int.ofNat 14, []), (Int.ofNat 0, [(0, Int.ofNat 1)])), (169, (Int.ofNat 13, []), (Int.ofNat 0, [(1, Int.ofNat 1)]))], [], [], [], [(0, (2, (Int.ofNat 169, [])))], []), [(1, 108, [(5, 169, (Int.ofNat 14, [(2, Int.ofNat 1)]))], ([(Int.ofNat 0, Int.ofNat 899)], [(Int.ofNat 900, [(2, Int.negSucc 0), (3, Int.negSucc 0)])], [], [(169, (Int.ofNat 14, []), (Int.ofNat 0, [(2, Int.ofNat 1), (3, Int.ofNat 1)]))], [], [], [], [(0, (2, (Int.ofNat 169, [])))], []))], [(169, Int.ofNat 14, Int.ofNat 14)], (Int.ofNat 0, [(0, Int.ofNat 1)]), [105, 1, 2])
set_option maxRecDepth 100000 in
theorem uk493 : uck tbq tuq [] sbs mth mqq 100000 12 7 100081 un493 = true := by decide +kernel
theorem ug493 : UG ((12, 7, 100081), un493) := ug_of _ uk493 (fun _ h => absurd h List.not_mem_nil)
set_option maxRecDepth 100000 in
noncomputable def un494 : UN := ([(1, 169, (Int.ofNat 14, [])), (1, 169, (Int.ofNat 13, [])), (2, 0, (Int.ofNat 0, []))], ([(Int.ofNat 1, Int.ofNat 900), (Int.ofNat 0, Int.ofNat 899), (Int.ofNat 1, Int.ofNat 900)], [(Int.ofNat 0, [(0, Int.ofNat 1), (2, Int.negSucc 0)]), (Int.negSucc 0, [(0, Int.ofNat 1), (1, Int.negSucc 0)])], [], [(169, (Int.ofNat 14, []), (Int.ofNat 0, [(0, Int.ofNat 1)])), (169, (Int.ofNat 13, []), (Int.ofNat 0, [(1, Int.ofNat 1)]))], [], [], [], [(0, (2, (Int.ofNat 169, [])))], []), [(1, 183, [(5, 169, (Int.ofNat 14, [(2, Int.ofNat 1)]))], ([(Int.ofNat 0, Int.ofNat 899)], [(Int.ofNat 900, [(2, Int.negSucc 0), (3, Int.negSucc 0)])], [], [(169, (Int.ofNat 14, []), (Int.ofNat 0, [(2, Int.ofNat 1), (3, Int.ofNat 1)]))], [], [], [], [(0, (2, (Int.ofNat 169, [])))], []))], [(169, Int.ofNat 14, Int.ofNat 14), (169, Int.ofNat 15, Int.ofNat 15)], (Int.ofNat 0, [(0, Int.ofNat 1)]), [180, 1, 2])
set_option maxRecDepth 100000 in
theorem uk494 : uck tbq tuq [] sbs mth mqq 100000 12 7 100128 un494 = true := by decide +kernel
theorem ug494 : UG ((12, 7, 100128), un494) := ug_of _ uk494 (fun _ h => absurd h List.not_mem_nil)
set_option maxRecDepth 100000 in
noncomputable def un495 : UN := ([(1, 169, (Int.ofNat 14, [])), (1, 169, (Int.ofNat 12, []))], ([(Int.ofNat 0, Int.ofNat 0), (Int.ofNat 0, Int.ofNat 4)], [], [], [(169, (Int.ofNat 14, []), (Int.ofNat 0, [(0, Int.ofNat 1)])), (169, (Int.ofNat 12, []), (Int.ofNat 0, [(1, Int.ofNat 1)]))], [], [], [], [(0, (2, (Int.ofNat 169, [])))], []), [(0, 251, [(5, 169, (Int.ofNat 14, [(0, Int.ofNat 1)])), (1, 169, (Int.ofNat 12, []))], ([(Int.ofNat 1, Int.ofNat 1799), (Int.ofNat 1, Int.ofNat 4)], [(Int.ofNat 900, [(0, Int.negSucc 0), (2, Int.negSucc 0)])], [], [(169, (Int.ofNat 14, []), (Int.ofNat 0, [(0, Int.ofNat 1), (2, Int.ofNat 1)])), (169, (Int.ofNat 12, []), (Int.ofNat 0, [(3, Int.ofNat 1)]))], [], [], [], [], [])), (0, 251, [(5, 169, (Int.ofNat 14, [(0, Int.ofNat 1)]))], ([(Int.ofNat 0, Int.ofNat 900)], [], [], [(169, (Int.ofNat 14, []), (Int.ofNat 0, [(0, Int.ofNat 1), (2, Int.ofNat 1)])), (169, (Int.ofNat 12, []), (Int.ofNat 0, []))], [], [], [], [], []))], [(169, Int.ofNat 12, Int.ofNat 12), (169, Int.ofNat 13, Int.ofNat 13), (169, Int.ofNat 14, Int.ofNat 14), (169, Int.ofNat 15, Int.ofNat 15)], (Int.ofNat 0, []), [])
set_option maxRecDepth 100000 in
theorem uk495 : uck tbq tuq [((12, 7, 100128), un494), ((12, 7, 100081), un493), ((12, 7, 100000), un492)] sbs mth mqq 100000 12 7 0 un495 = true := by decide +kernel
theorem ug495 : UG ((12, 7, 0), un495) := ug_of _ uk495 (List.forall_mem_cons.mpr ⟨ug494, List.forall_mem_cons.mpr ⟨ug493, List.forall_mem_cons.mpr ⟨ug492, fun _ h => absurd h List.not_mem_nil⟩⟩⟩)
set_option maxRecDepth 100000 in
noncomputable def un496 : UN := ([(0, 1, (Int.ofNat 0, [])), (0, 2, (Int.ofNat 0, []))], ([(Int.negSucc 2147483647, Int.ofNat 2147483647), (Int.ofNat 300, Int.ofNat 300)], [], [], [], [], [], [], [(0, (2, (Int.ofNat 169, []))), (1, (0, (Int.ofNat 0, [(0, Int.ofNat 1)]))), (2, (0, (Int.ofNat 0, [(1, Int.ofNat 1)])))], []), [(0, 18, [], ([], [], [], [], [], [], [], [], [(0, (Int.ofNat 0, []))])), (0, 79, [], ([], [], [], [(169, (Int.ofNat 18, []), (Int.ofNat 0, []))], [], [], [], [], [(0, (Int.ofNat 1, []))]))], [(169, Int.ofNat 10, Int.ofNat 10), (169, Int.ofNat 11, Int.ofNat 11), (169, Int.ofNat 12, Int.ofNat 12), (169, Int.ofNat 13, Int.ofNat 13), (169, Int.ofNat 14, Int.ofNat 14), (169, Int.ofNat 15, Int.ofNat 15), (169, Int.ofNat 17, Int.ofNat 17), (169, Int.ofNat 18, Int.ofNat 18), (169, Int.ofNat 19, Int.ofNat 19), (176, Int.ofNat 0, Int.ofNat 299)], (Int.ofNat 0, []), [])
set_option maxRecDepth 100000 in
theorem uk496 : uck tbq tuq [((12, 7, 0), un495), ((12, 11, 100026), un491)] sbs mth mqq 100000 12 11 0 un496 = true := by decide +kernel
theorem ug496 : UG ((12, 11, 0), un496) := ug_of _ uk496 (List.forall_mem_cons.mpr ⟨ug495, List.forall_mem_cons.mpr ⟨ug491, fun _ h => absurd h List.not_mem_nil⟩⟩)
set_option maxRecDepth 100000 in
noncomputable def un497 : UN := ([], ([], [], [], [], [], [], [], [(0, (2, (Int.ofNat 169, []))), (1, (6, (Int.ofNat 3, []))), (2, (0, (Int.ofNat 0, []))), (3, (0, (Int.ofNat 1, [])))], []), [(1, 14, [], ([], [], [], [], [], [], [], [(0, (2, (Int.ofNat 169, []))), (1, (6, (Int.ofNat 3, []))), (2, (0, (Int.ofNat 1, []))), (3, (0, (Int.ofNat 7, [])))], [])), (0, 121, [], ([], [], [], [], [], [], [], [], [(0, (Int.ofNat 0, []))]))], [], (Int.ofNat 0, []), [130])
set_option maxRecDepth 100000 in
theorem uk497 : uck tbq tuq [] sbs mth mqq 100000 12 9 100014 un497 = true := by decide +kernel
theorem ug497 : UG ((12, 9, 100014), un497) := ug_of _ uk497 (fun _ h => absurd h List.not_mem_nil)
set_option maxRecDepth 100000 in
noncomputable def un498 : UN := ([], ([], [], [], [], [], [], [], [(0, (2, (Int.ofNat 169, []))), (1, (6, (Int.ofNat 3, []))), (2, (0, (Int.ofNat 1, []))), (3, (0, (Int.ofNat 7, [])))], []), [(1, 14, [], ([], [], [], [], [], [], [], [(0, (2, (Int.ofNat 169, []))), (1, (6, (Int.ofNat 3, []))), (2, (0, (Int.ofNat 2, []))), (3, (0, (Int.ofNat 12, [])))], [])), (0, 121, [], ([], [], [], [], [], [], [], [], [(0, (Int.ofNat 1, []))]))], [], (Int.ofNat 0, []), [130])
set_option maxRecDepth 100000 in
theorem uk498 : uck tbq tuq [] sbs mth mqq 100000 12 9 100014 un498 = true := by decide +kernel
theorem ug498 : UG ((12, 9, 100014), un498) := ug_of _ uk498 (fun _ h => absurd h List.not_mem_nil)
set_option maxRecDepth 100000 in
noncomputable def un499 : UN := ([], ([], [], [], [], [], [], [], [(0, (2, (Int.ofNat 169, []))), (1, (6, (Int.ofNat 3, []))), (2, (0, (Int.ofNat 2, []))), (3, (0, (Int.ofNat 12, [])))], []), [(1, 14, [], ([], [], [], [], [], [], [], [(0, (2, (Int.ofNat 169, []))), (1, (6, (Int.ofNat 3, []))), (2, (0, (Int.ofNat 3, []))), (3, (0, (Int.ofNat 19, [])))], [])), (0, 121, [], ([], [], [], [], [], [], [], [], [(0, (Int.ofNat 2, []))]))], [], (Int.ofNat 0, []), [130])
set_option maxRecDepth 100000 in
theorem uk499 : uck tbq tuq [] sbs mth mqq 100000 12 9 100014 un499 = true := by decide +kernel
theorem ug499 : UG ((12, 9, 100014), un499) := ug_of _ uk499 (fun _ h => absurd h List.not_mem_nil)
set_option maxRecDepth 100000 in
noncomputable def un500 : UN := ([], ([], [], [], [], [], [], [], [(0, (2, (Int.ofNat 169, []))), (1, (6, (Int.ofNat 3, []))), (2, (0, (Int.ofNat 3, []))), (3, (0, (Int.ofNat 19, [])))], []), [(1, 14, [], ([], [], [], [], [], [], [], [(0, (2, (Int.ofNat 169, []))), (1, (6, (Int.ofNat 3, []))), (2, (0, (Int.ofNat 4, []))), (3, (0, (Int.ofNat 24, [])))], [])), (0, 121, [], ([], [], [], [], [], [], [], [], [(0, (Int.ofNat 3, []))]))], [], (Int.ofNat 0, []), [130])
set_option maxRecDepth 100000 in
theorem uk500 : uck tbq tuq [] sbs mth mqq 100000 12 9 100014 un500 = true := by decide +kernel
theorem ug500 : UG ((12, 9, 100014), un500) := ug_of _ uk500 (fun _ h => absurd h List.not_mem_nil)
