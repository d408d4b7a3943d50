set_option maxRecDepth 100000 in
noncomputable def un518 : UN := ([], ([], [], [], [], [], [], [], [(0, (2, (Int.ofNat 169, []))), (1, (6, (Int.ofNat 3, []))), (2, (0, (Int.ofNat 3, []))), (3, (0, (Int.ofNat 19, [])))], []), [(1, 14, [], ([], [], [], [], [], [], [], [(0, (2, (Int.ofNat 169, []))), (1, (6, (Int.ofNat 3, []))), (2, (0, (Int.ofNat 4, []))), (3, (0, (Int.ofNat 24, [])))], [])), (0, 121, [], ([], [], [], [], [], [], [], [], [(0, (Int.ofNat 3, []))]))], [], (Int.ofNat 0, []), [130])
set_option maxRecDepth 100000 in
theorem uk518 : uck tbq tuq [] sbs mth mqq 100000 12 9 100014 un518 = true := by decide +kernel
theorem ug518 : UG ((12, 9, 100014), un518) := ug_of _ uk518 (fun _ h => absurd h List.not_mem_nil)
set_option maxRecDepth 100000 in
noncomputable def un519 : UN := ([], ([], [], [], [], [], [], [], [(0, (2, (Int.ofNat 169, []))), (1, (6, (Int.ofNat 3, []))), (2, (0, (Int.ofNat 4, []))), (3, (0, (Int.ofNat 24, [])))], []), [(1, 14, [], ([], [], [], [], [], [], [], [(0, (2, (Int.ofNat 169, []))), (1, (6, (Int.ofNat 3, []))), (2, (0, (Int.ofNat 5, []))), (3, (0, (Int.ofNat 29, [])))], [])), (0, 121, [], ([], [], [], [], [], [], [], [], [(0, (Int.ofNat 4, []))]))], [], (Int.ofNat 0, []), [130])
set_option maxRecDepth 100000 in
theorem uk519 : uck tbq tuq [] sbs mth mqq 100000 12 9 100014 un519 = true := by decide +kernel
theorem ug519 : UG ((12, 9, 100014), un519) := ug_of _ uk519 (fun _ h => absurd h List.not_mem_nil)
set_option maxRecDepth 100000 in
noncomputable def un520 : UN := ([], ([], [], [], [], [], [], [], [(0, (2, (Int.ofNat 169, []))), (1, (6, (Int.ofNat 3, []))), (2, (0, (Int.ofNat 5, []))), (3, (0, (Int.ofNat 29, [])))], []), [(1, 14, [], ([], [], [], [], [], [], [], [(0, (2, (Int.ofNat 169, []))), (1, (6, (Int.ofNat 3, []))), (2, (0, (Int.ofNat 6, []))), (3, (0, (Int.ofNat 34, [])))], [])), (0, 121, [], ([], [], [], [], [], [], [], [], [(0, (Int.ofNat 5, []))]))], [], (Int.ofNat 0, []), [130])
set_option maxRecDepth 100000 in
theorem uk520 : uck tbq tuq [] sbs mth mqq 100000 12 9 100014 un520 = true := by decide +kernel
theorem ug520 : UG ((12, 9, 100014), un520) := ug_of _ uk520 (fun _ h => absurd h List.not_mem_nil)
set_option maxRecDepth 100000 in
noncomputable def un521 : UN := ([], ([], [], [], [], [], [], [], [(0, (2, (Int.ofNat 169, []))), (1, (6, (Int.ofNat 3, []))), (2, (0, (Int.ofNat 6, []))), (3, (0, (Int.ofNat 34, [])))], []), [(1, 14, [], ([], [], [], [], [], [], [], [(0, (2, (Int.ofNat 169, []))), (1, (6, (Int.ofNat 3, []))), (2, (0, (Int.ofNat 7, []))), (3, (0, (Int.ofNat 37, [])))], [])), (0, 121, [], ([], [], [], [], [], [], [], [], [(0, (Int.ofNat 6, []))]))], [], (Int.ofNat 0, []), [130])
set_option maxRecDepth 100000 in
theorem uk521 : uck tbq tuq [] sbs mth mqq 100000 12 9 100014 un521 = true := by decide +kernel
theorem ug521 : UG ((12, 9, 100014), un521) := ug_of _ uk521 (fun _ h => absurd h List.not_mem_nil)
set_option maxRecDepth 100000 in
noncomputable def un522 : UN := ([], ([], [], [], [], [], [], [], [(0, (2, (Int.ofNat 169, []))), (1, (6, (Int.ofNat 3, []))), (2, (0, (Int.ofNat 7, []))), (3, (0, (Int.ofNat 37, [])))], []), [(1, 14, [], ([], [], [], [], [], [], [], [(0, (2, (Int.ofNat 169, []))), (1, (6, (Int.ofNat 3, []))), (2, (0, (Int.ofNat 8, []))), (3, (0, (Int.ofNat 42, [])))], [])), (0, 121, [], ([], [], [], [], [], [], [], [], [(0, (Int.ofNat 7, []))]))], [], (Int.ofNat 0, []), [130])
set_option maxRecDepth 100000 in
theorem uk522 : uck tbq tuq [] sbs mth mqq 100000 12 9 100014 un522 = true := by decide +kernel
theorem ug522 : UG ((12, 9, 100014), un522) := ug_of _ uk522 (fun _ h => absurd h List.not_mem_nil)
set_option maxRecDepth 100000 in
noncomputable def un523 : UN := ([], ([], [], [], [], [], [], [], [(0, (2, (Int.ofNat 169, []))), (1, (6, (Int.ofNat 3, []))), (2, (0, (Int.ofNat 8, []))), (3, (0, (Int.ofNat 42, [])))], []), [(1, 14, [], ([], [], [], [], [], [], [], [(0, (2, (Int.ofNat 169, []))), (1, (6, (Int.ofNat 3, []))), (2, (0, (Int.ofNat 9, []))), (3, (0, (Int.ofNat 47, [])))], [])), (0, 121, [], ([], [], [], [], [], [], [], [], [(0, (Int.ofNat 8, []))]))], [], (Int.ofNat 0, []), [130])
set_option maxRecDepth 100000 in
theorem uk523 : uck tbq tuq [] sbs mth mqq 100000 12 9 100014 un523 = true := by decide +kernel
theorem ug523 : UG ((12, 9, 100014), un523) := ug_of _ uk523 (fun _ h => absurd h List.not_mem_nil)
