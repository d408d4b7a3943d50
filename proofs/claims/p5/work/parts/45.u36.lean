set_option maxRecDepth 100000 in
noncomputable def un504 : UN := ([], ([], [], [], [], [], [], [], [(0, (2, (Int.ofNat 169, []))), (1, (6, (Int.ofNat 3, []))), (2, (0, (Int.ofNat 14, []))), (3, (0, (Int.ofNat 77, [])))], []), [(1, 14, [], ([], [], [], [], [], [], [], [(0, (2, (Int.ofNat 169, []))), (1, (6, (Int.ofNat 3, []))), (2, (0, (Int.ofNat 15, []))), (3, (0, (Int.ofNat 83, [])))], [])), (0, 121, [], ([], [], [], [], [], [], [], [], [(0, (Int.ofNat 14, []))]))], [], (Int.ofNat 0, []), [130])
set_option maxRecDepth 100000 in
theorem uk504 : uck tbq tuq [] sbs mth mqq 100000 12 9 100014 un504 = true := by decide +kernel
theorem ug504 : UG ((12, 9, 100014), un504) := ug_of _ uk504 (fun _ h => absurd h List.not_mem_nil)
set_option maxRecDepth 100000 in
noncomputable def un505 : UN := ([], ([], [], [], [], [], [], [], [(0, (2, (Int.ofNat 169, []))), (1, (6, (Int.ofNat 3, []))), (2, (0, (Int.ofNat 15, []))), (3, (0, (Int.ofNat 83, [])))], []), [(1, 14, [], ([], [], [], [], [], [], [], [(0, (2, (Int.ofNat 169, []))), (1, (6, (Int.ofNat 3, []))), (2, (0, (Int.ofNat 16, []))), (3, (0, (Int.ofNat 87, [])))], [])), (0, 121, [], ([], [], [], [], [], [], [], [], [(0, (Int.ofNat 15, []))]))], [], (Int.ofNat 0, []), [130])
set_option maxRecDepth 100000 in
theorem uk505 : uck tbq tuq [] sbs mth mqq 100000 12 9 100014 un505 = true := by decide +kernel
theorem ug505 : UG ((12, 9, 100014), un505) := ug_of _ uk505 (fun _ h => absurd h List.not_mem_nil)
set_option maxRecDepth 100000 in
noncomputable def un506 : UN := ([], ([], [], [], [], [], [], [], [(0, (2, (Int.ofNat 169, []))), (1, (6, (Int.ofNat 3, []))), (2, (0, (Int.ofNat 16, []))), (3, (0, (Int.ofNat 87, [])))], []), [(1, 14, [], ([], [], [], [], [], [], [], [(0, (2, (Int.ofNat 169, []))), (1, (6, (Int.ofNat 3, []))), (2, (0, (Int.ofNat 17, []))), (3, (0, (Int.ofNat 90, [])))], [])), (0, 121, [], ([], [], [], [], [], [], [], [], [(0, (Int.ofNat 16, []))]))], [], (Int.ofNat 0, []), [130])
set_option maxRecDepth 100000 in
theorem uk506 : uck tbq tuq [] sbs mth mqq 100000 12 9 100014 un506 = true := by decide +kernel
theorem ug506 : UG ((12, 9, 100014), un506) := ug_of _ uk506 (fun _ h => absurd h List.not_mem_nil)
set_option maxRecDepth 100000 in
noncomputable def un507 : UN := ([], ([], [], [], [], [], [], [], [(0, (2, (Int.ofNat 169, []))), (1, (6, (Int.ofNat 3, []))), (2, (0, (Int.ofNat 17, []))), (3, (0, (Int.ofNat 90, [])))], []), [(1, 14, [], ([], [], [], [], [], [], [], [(0, (2, (Int.ofNat 169, []))), (1, (6, (Int.ofNat 3, []))), (2, (0, (Int.ofNat 18, []))), (3, (0, (Int.ofNat 95, [])))], [])), (0, 121, [], ([], [], [], [], [], [], [], [], [(0, (Int.ofNat 17, []))]))], [], (Int.ofNat 0, []), [130])
set_option maxRecDepth 100000 in
theorem uk507 : uck tbq tuq [] sbs mth mqq 100000 12 9 100014 un507 = true := by decide +kernel
theorem ug507 : UG ((12, 9, 100014), un507) := ug_of _ uk507 (fun _ h => absurd h List.not_mem_nil)
set_option maxRecDepth 100000 in
noncomputable def un508 : UN := ([], ([], [], [], [], [], [], [], [(0, (2, (Int.ofNat 169, []))), (1, (6, (Int.ofNat 3, []))), (2, (0, (Int.ofNat 18, []))), (3, (0, (Int.ofNat 95, [])))], []), [(1, 14, [], ([], [], [], [], [], [], [], [(0, (2, (Int.ofNat 169, []))), (1, (6, (Int.ofNat 3, []))), (2, (0, (Int.ofNat 19, []))), (3, (0, (Int.ofNat 100, [])))], [])), (0, 121, [], ([], [], [], [], [], [], [], [], [(0, (Int.ofNat 18, []))]))], [], (Int.ofNat 0, []), [130])
set_option maxRecDepth 100000 in
theorem uk508 : uck tbq tuq [] sbs mth mqq 100000 12 9 100014 un508 = true := by decide +kernel
theorem ug508 : UG ((12, 9, 100014), un508) := ug_of _ uk508 (fun _ h => absurd h List.not_mem_nil)
set_option maxRecDepth 100000 in
noncomputable def un509 : UN := ([], ([], [], [], [], [], [], [], [(0, (2, (Int.ofNat 169, []))), (1, (6, (Int.ofNat 3, []))), (2, (0, (Int.ofNat 19, []))), (3, (0, (Int.ofNat 100, [])))], []), [(1, 14, [], ([], [], [], [], [], [], [], [(0, (2, (Int.ofNat 169, []))), (1, (6, (Int.ofNat 3, []))), (2, (0, (Int.ofNat 20, []))), (3, (0, (Int.ofNat 104, [])))], [])), (0, 121, [], ([], [], [], [], [], [], [], [], [(0, (Int.ofNat 19, []))]))], [], (Int.ofNat 0, []), [130])
set_option maxRecDepth 100000 in
theorem uk509 : uck tbq tuq [] sbs mth mqq 100000 12 9 100014 un509 = true := by decide +kernel
theorem ug509 : UG ((12, 9, 100014), un509) := ug_of _ uk509 (fun _ h => absurd h List.not_mem_nil)
