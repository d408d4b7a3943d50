set_option maxRecDepth 100000 in
noncomputable def un507 : UN := ([], ([], [], [], [], [], [], [], [(0, (2, (Int.ofNat 169, []))), (1, (6, (Int.ofNat 3, []))), (2, (0, (Int.ofNat 10, []))), (3, (0, (Int.ofNat 53, [])))], []), [(1, 14, [], ([], [], [], [], [], [], [], [(0, (2, (Int.ofNat 169, []))), (1, (6, (Int.ofNat 3, []))), (2, (0, (Int.ofNat 11, []))), (3, (0, (Int.ofNat 59, [])))], [])), (0, 121, [], ([], [], [], [], [], [], [], [], [(0, (Int.ofNat 10, []))]))], [], (Int.ofNat 0, []), [130])
set_option maxRecDepth 100000 in
theorem uk507 : uck tbq tuq [] sbs mth mqq 100000 12 9 100014 un507 = true := by decide +kernel
theorem ug507 : UG ((12, 9, 100014), un507) := ug_of _ uk507 (fun _ h => absurd h List.not_mem_nil)
set_option maxRecDepth 100000 in
noncomputable def un508 : UN := ([], ([], [], [], [], [], [], [], [(0, (2, (Int.ofNat 169, []))), (1, (6, (Int.ofNat 3, []))), (2, (0, (Int.ofNat 11, []))), (3, (0, (Int.ofNat 59, [])))], []), [(1, 14, [], ([], [], [], [], [], [], [], [(0, (2, (Int.ofNat 169, []))), (1, (6, (Int.ofNat 3, []))), (2, (0, (Int.ofNat 12, []))), (3, (0, (Int.ofNat 63, [])))], [])), (0, 121, [], ([], [], [], [], [], [], [], [], [(0, (Int.ofNat 11, []))]))], [], (Int.ofNat 0, []), [130])
set_option maxRecDepth 100000 in
theorem uk508 : uck tbq tuq [] sbs mth mqq 100000 12 9 100014 un508 = true := by decide +kernel
theorem ug508 : UG ((12, 9, 100014), un508) := ug_of _ uk508 (fun _ h => absurd h List.not_mem_nil)
set_option maxRecDepth 100000 in
noncomputable def un509 : UN := ([], ([], [], [], [], [], [], [], [(0, (2, (Int.ofNat 169, []))), (1, (6, (Int.ofNat 3, []))), (2, (0, (Int.ofNat 12, []))), (3, (0, (Int.ofNat 63, [])))], []), [(1, 14, [], ([], [], [], [], [], [], [], [(0, (2, (Int.ofNat 169, []))), (1, (6, (Int.ofNat 3, []))), (2, (0, (Int.ofNat 13, []))), (3, (0, (Int.ofNat 71, [])))], [])), (0, 121, [], ([], [], [], [], [], [], [], [], [(0, (Int.ofNat 12, []))]))], [], (Int.ofNat 0, []), [130])
set_option maxRecDepth 100000 in
theorem uk509 : uck tbq tuq [] sbs mth mqq 100000 12 9 100014 un509 = true := by decide +kernel
theorem ug509 : UG ((12, 9, 100014), un509) := ug_of _ uk509 (fun _ h => absurd h List.not_mem_nil)
set_option maxRecDepth 100000 in
noncomputable def un510 : UN := ([], ([], [], [], [], [], [], [], [(0, (2, (Int.ofNat 169, []))), (1, (6, (Int.ofNat 3, []))), (2, (0, (Int.ofNat 13, []))), (3, (0, (Int.ofNat 71, [])))], []), [(1, 14, [], ([], [], [], [], [], [], [], [(0, (2, (Int.ofNat 169, []))), (1, (6, (Int.ofNat 3, []))), (2, (0, (Int.ofNat 14, []))), (3, (0, (Int.ofNat 77, [])))], [])), (0, 121, [], ([], [], [], [], [], [], [], [], [(0, (Int.ofNat 13, []))]))], [], (Int.ofNat 0, []), [130])
set_option maxRecDepth 100000 in
theorem uk510 : uck tbq tuq [] sbs mth mqq 100000 12 9 100014 un510 = true := by decide +kernel
theorem ug510 : UG ((12, 9, 100014), un510) := ug_of _ uk510 (fun _ h => absurd h List.not_mem_nil)
