set_option maxRecDepth 100000 in
noncomputable def un516 : UN := ([], ([], [], [], [], [], [], [], [(0, (2, (Int.ofNat 169, []))), (1, (6, (Int.ofNat 3, []))), (2, (0, (Int.ofNat 18, []))), (3, (0, (Int.ofNat 95, [])))], []), [(1, 14, [], ([], [], [], [], [], [], [], [(0, (2, (Int.ofNat 169, []))), (1, (6, (Int.ofNat 3, []))), (2, (0, (Int.ofNat 19, []))), (3, (0, (Int.ofNat 100, [])))], [])), (0, 121, [], ([], [], [], [], [], [], [], [], [(0, (Int.ofNat 18, []))]))], [], (Int.ofNat 0, []), [130])
set_option maxRecDepth 100000 in
theorem uk516 : uck tbq tuq [] sbs mth mqq 100000 12 9 100014 un516 = true := by decide +kernel
theorem ug516 : UG ((12, 9, 100014), un516) := ug_of _ uk516 (fun _ h => absurd h List.not_mem_nil)
set_option maxRecDepth 100000 in
noncomputable def un517 : UN := ([], ([], [], [], [], [], [], [], [(0, (2, (Int.ofNat 169, []))), (1, (6, (Int.ofNat 3, []))), (2, (0, (Int.ofNat 19, []))), (3, (0, (Int.ofNat 100, [])))], []), [(1, 14, [], ([], [], [], [], [], [], [], [(0, (2, (Int.ofNat 169, []))), (1, (6, (Int.ofNat 3, []))), (2, (0, (Int.ofNat 20, []))), (3, (0, (Int.ofNat 104, [])))], [])), (0, 121, [], ([], [], [], [], [], [], [], [], [(0, (Int.ofNat 19, []))]))], [], (Int.ofNat 0, []), [130])
set_option maxRecDepth 100000 in
theorem uk517 : uck tbq tuq [] sbs mth mqq 100000 12 9 100014 un517 = true := by decide +kernel
theorem ug517 : UG ((12, 9, 100014), un517) := ug_of _ uk517 (fun _ h => absurd h List.not_mem_nil)
set_option maxRecDepth 100000 in
noncomputable def un518 : UN := ([], ([], [], [], [], [], [], [], [(0, (2, (Int.ofNat 169, []))), (1, (6, (Int.ofNat 3, []))), (2, (0, (Int.ofNat 20, []))), (3, (0, (Int.ofNat 104, [])))], []), [(1, 14, [], ([], [], [], [], [], [], [], [(0, (2, (Int.ofNat 169, []))), (1, (6, (Int.ofNat 3, []))), (2, (0, (Int.ofNat 21, []))), (3, (0, (Int.ofNat 109, [])))], [])), (0, 121, [], ([], [], [], [], [], [], [], [], [(0, (Int.ofNat 20, []))]))], [], (Int.ofNat 0, []), [130])
set_option maxRecDepth 100000 in
theorem uk518 : uck tbq tuq [] sbs mth mqq 100000 12 9 100014 un518 = true := by decide +kernel
theorem ug518 : UG ((12, 9, 100014), un518) := ug_of _ uk518 (fun _ h => absurd h List.not_mem_nil)
set_option maxRecDepth 100000 in
noncomputable def un519 : UN := ([], ([], [], [], [], [], [], [], [(0, (2, (Int.ofNat 169, []))), (1, (6, (Int.ofNat 3, []))), (2, (0, (Int.ofNat 21, []))), (3, (0, (Int.ofNat 109, [])))], []), [(1, 14, [], ([], [], [], [], [], [], [], [(0, (2, (Int.ofNat 169, []))), (1, (6, (Int.ofNat 3, []))), (2, (0, (Int.ofNat 22, []))), (3, (0, (Int.ofNat 116, [])))], [])), (0, 121, [], ([], [], [], [], [], [], [], [], [(0, (Int.ofNat 21, []))]))], [], (Int.ofNat 0, []), [130])
set_option maxRecDepth 100000 in
theorem uk519 : uck tbq tuq [] sbs mth mqq 100000 12 9 100014 un519 = true := by decide +kernel
theorem ug519 : UG ((12, 9, 100014), un519) := ug_of _ uk519 (fun _ h => absurd h List.not_mem_nil)
set_option maxRecDepth 100000 in
noncomputable def un520 : UN := ([], ([], [], [], [], [], [], [], [(0, (2, (Int.ofNat 169, []))), (1, (6, (Int.ofNat 3, []))), (2, (0, (Int.ofNat 22, []))), (3, (0, (Int.ofNat 116, [])))], []), [(1, 14, [], ([], [], [], [], [], [], [], [(0, (2, (Int.ofNat 169, []))), (1, (6, (Int.ofNat 3, []))), (2, (0, (Int.ofNat 23, []))), (3, (0, (Int.ofNat 121, [])))], [])), (0, 121, [], ([], [], [], [], [], [], [], [], [(0, (Int.ofNat 22, []))]))], [], (Int.ofNat 0, []), [130])
set_option maxRecDepth 100000 in
theorem uk520 : uck tbq tuq [] sbs mth mqq 100000 12 9 100014 un520 = true := by decide +kernel
theorem ug520 : UG ((12, 9, 100014), un520) := ug_of _ uk520 (fun _ h => absurd h List.not_mem_nil)
