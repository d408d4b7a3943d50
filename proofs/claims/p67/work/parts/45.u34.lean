set_option maxRecDepth 100000 in
noncomputable def un526 : UN := ([], ([], [], [], [], [], [], [], [(0, (2, (Int.ofNat 169, []))), (1, (6, (Int.ofNat 3, []))), (2, (0, (Int.ofNat 3, []))), (3, (0, (Int.ofNat 19, [])))], []), [(1, 14, [], ([], [], [], [], [], [], [], [(0, (2, (Int.ofNat 169, []))), (1, (6, (Int.ofNat 3, []))), (2, (0, (Int.ofNat 4, []))), (3, (0, (Int.ofNat 24, [])))], [])), (0, 121, [], ([], [], [], [], [], [], [], [], [(0, (Int.ofNat 3, []))]))], [], (Int.ofNat 0, []), [130])
set_option maxRecDepth 100000 in
theorem uk526 : uck tbq tuq [] sbs mth mqq 100000 12 9 100014 un526 = true := by decide +kernel
theorem ug526 : UG ((12, 9, 100014), un526) := ug_of _ uk526 (fun _ h => absurd h List.not_mem_nil)
set_option maxRecDepth 100000 in
noncomputable def un527 : UN := ([], ([], [], [], [], [], [], [], [(0, (2, (Int.ofNat 169, []))), (1, (6, (Int.ofNat 3, []))), (2, (0, (Int.ofNat 4, []))), (3, (0, (Int.ofNat 24, [])))], []), [(1, 14, [], ([], [], [], [], [], [], [], [(0, (2, (Int.ofNat 169, []))), (1, (6, (Int.ofNat 3, []))), (2, (0, (Int.ofNat 5, []))), (3, (0, (Int.ofNat 29, [])))], [])), (0, 121, [], ([], [], [], [], [], [], [], [], [(0, (Int.ofNat 4, []))]))], [], (Int.ofNat 0, []), [130])
set_option maxRecDepth 100000 in
theorem uk527 : uck tbq tuq [] sbs mth mqq 100000 12 9 100014 un527 = true := by decide +kernel
theorem ug527 : UG ((12, 9, 100014), un527) := ug_of _ uk527 (fun _ h => absurd h List.not_mem_nil)
set_option maxRecDepth 100000 in
noncomputable def un528 : UN := ([], ([], [], [], [], [], [], [], [(0, (2, (Int.ofNat 169, []))), (1, (6, (Int.ofNat 3, []))), (2, (0, (Int.ofNat 5, []))), (3, (0, (Int.ofNat 29, [])))], []), [(1, 14, [], ([], [], [], [], [], [], [], [(0, (2, (Int.ofNat 169, []))), (1, (6, (Int.ofNat 3, []))), (2, (0, (Int.ofNat 6, []))), (3, (0, (Int.ofNat 34, [])))], [])), (0, 121, [], ([], [], [], [], [], [], [], [], [(0, (Int.ofNat 5, []))]))], [], (Int.ofNat 0, []), [130])
set_option maxRecDepth 100000 in
theorem uk528 : uck tbq tuq [] sbs mth mqq 100000 12 9 100014 un528 = true := by decide +kernel
theorem ug528 : UG ((12, 9, 100014), un528) := ug_of _ uk528 (fun _ h => absurd h List.not_mem_nil)
set_option maxRecDepth 100000 in
noncomputable def un529 : UN := ([], ([], [], [], [], [], [], [], [(0, (2, (Int.ofNat 169, []))), (1, (6, (Int.ofNat 3, []))), (2, (0, (Int.ofNat 6, []))), (3, (0, (Int.ofNat 34, [])))], []), [(1, 14, [], ([], [], [], [], [], [], [], [(0, (2, (Int.ofNat 169, []))), (1, (6, (Int.ofNat 3, []))), (2, (0, (Int.ofNat 7, []))), (3, (0, (Int.ofNat 37, [])))], [])), (0, 121, [], ([], [], [], [], [], [], [], [], [(0, (Int.ofNat 6, []))]))], [], (Int.ofNat 0, []), [130])
set_option maxRecDepth 100000 in
theorem uk529 : uck tbq tuq [] sbs mth mqq 100000 12 9 100014 un529 = true := by decide +kernel
theorem ug529 : UG ((12, 9, 100014), un529) := ug_of _ uk529 (fun _ h => absurd h List.not_mem_nil)
set_option maxRecDepth 100000 in
noncomputable def un530 : UN := ([], ([], [], [], [], [], [], [], [(0, (2, (Int.ofNat 169, []))), (1, (6, (Int.ofNat 3, []))), (2, (0, (Int.ofNat 7, []))), (3, (0, (Int.ofNat 37, [])))], []), [(1, 14, [], ([], [], [], [], [], [], [], [(0, (2, (Int.ofNat 169, []))), (1, (6, (Int.ofNat 3, []))), (2, (0, (Int.ofNat 8, []))), (3, (0, (Int.ofNat 42, [])))], [])), (0, 121, [], ([], [], [], [], [], [], [], [], [(0, (Int.ofNat 7, []))]))], [], (Int.ofNat 0, []), [130])
set_option maxRecDepth 100000 in
theorem uk530 : uck tbq tuq [] sbs mth mqq 100000 12 9 100014 un530 = true := by decide +kernel
theorem ug530 : UG ((12, 9, 100014), un530) := ug_of _ uk530 (fun _ h => absurd h List.not_mem_nil)
set_option maxRecDepth 100000 in
noncomputable def un531 : UN := ([], ([], [], [], [], [], [], [], [(0, (2, (Int.ofNat 169, []))), (1, (6, (Int.ofNat 3, []))), (2, (0, (Int.ofNat 8, []))), (3, (0, (Int.ofNat 42, [])))], []), [(1, 14, [], ([], [], [], [], [], [], [], [(0, (2, (Int.ofNat 169, []))), (1, (6, (Int.ofNat 3, []))), (2, (0, (Int.ofNat 9, []))), (3, (0, (Int.ofNat 47, [])))], [])), (0, 121, [], ([], [], [], [], [], [], [], [], [(0, (Int.ofNat 8, []))]))], [], (Int.ofNat 0, []), [130])
set_option maxRecDepth 100000 in
theorem uk531 : uck tbq tuq [] sbs mth mqq 100000 12 9 100014 un531 = true := by decide +kernel
theorem ug531 : UG ((12, 9, 100014), un531) := ug_of _ uk531 (fun _ h => absurd h List.not_mem_nil)
