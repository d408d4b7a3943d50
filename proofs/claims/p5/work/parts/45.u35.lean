set_option maxRecDepth 100000 in
noncomputable def un500 : UN := ([], ([], [], [], [], [], [], [], [(0, (2, (Int.ofNat 169, []))), (1, (6, (Int.ofNat 3, []))), (2, (0, (Int.ofNat 10, []))), (3, (0, (Int.ofNat 53, [])))], []), [(1, 14, [], ([], [], [], [], [], [], [], [(0, (2, (Int.ofNat 169, []))), (1, (6, (Int.ofNat 3, []))), (2, (0, (Int.ofNat 11, []))), (3, (0, (Int.ofNat 59, [])))], [])), (0, 121, [], ([], [], [], [], [], [], [], [], [(0, (Int.ofNat 10, []))]))], [], (Int.ofNat 0, []), [130])
set_option maxRecDepth 100000 in
theorem uk500 : uck tbq tuq [] sbs mth mqq 100000 12 9 100014 un500 = true := by decide +kernel
theorem ug500 : UG ((12, 9, 100014), un500) := ug_of _ uk500 (fun _ h => absurd h List.not_mem_nil)
set_option maxRecDepth 100000 in
noncomputable def un501 : UN := ([], ([], [], [], [], [], [], [], [(0, (2, (Int.ofNat 169, []))), (1, (6, (Int.ofNat 3, []))), (2, (0, (Int.ofNat 11, []))), (3, (0, (Int.ofNat 59, [])))], []), [(1, 14, [], ([], [], [], [], [], [], [], [(0, (2, (Int.ofNat 169, []))), (1, (6, (Int.ofNat 3, []))), (2, (0, (Int.ofNat 12, []))), (3, (0, (Int.ofNat 63, [])))], [])), (0, 121, [], ([], [], [], [], [], [], [], [], [(0, (Int.ofNat 11, []))]))], [], (Int.ofNat 0, []), [130])
set_option maxRecDepth 100000 in
theorem uk501 : uck tbq tuq [] sbs mth mqq 100000 12 9 100014 un501 = true := by decide +kernel
theorem ug501 : UG ((12, 9, 100014), un501) := ug_of _ uk501 (fun _ h => absurd h List.not_mem_nil)
set_option maxRecDepth 100000 in
noncomputable def un502 : UN := ([], ([], [], [], [], [], [], [], [(0, (2, (Int.ofNat 169, []))), (1, (6, (Int.ofNat 3, []))), (2, (0, (Int.ofNat 12, []))), (3, (0, (Int.ofNat 63, [])))], []), [(1, 14, [], ([], [], [], [], [], [], [], [(0, (2, (Int.ofNat 169, []))), (1, (6, (Int.ofNat 3, []))), (2, (0, (Int.ofNat 13, []))), (3, (0, (Int.ofNat 71, [])))], [])), (0, 121, [], ([], [], [], [], [], [], [], [], [(0, (Int.ofNat 12, []))]))], [], (Int.ofNat 0, []), [130])
set_option maxRecDepth 100000 in
theorem uk502 : uck tbq tuq [] sbs mth mqq 100000 12 9 100014 un502 = true := by decide +kernel
theorem ug502 : UG ((12, 9, 100014), un502) := ug_of _ uk502 (fun _ h => absurd h List.not_mem_nil)
set_option maxRecDepth 100000 in
noncomputable def un503 : UN := ([], ([], [], [], [], [], [], [], [(0, (2, (Int.ofNat 169, []))), (1, (6, (Int.ofNat 3, []))), (2, (0, (Int.ofNat 13, []))), (3, (0, (Int.ofNat 71, [])))], []), [(1, 14, [], ([], [], [], [], [], [], [], [(0, (2, (Int.ofNat 169, []))), (1, (6, (Int.ofNat 3, []))), (2, (0, (Int.ofNat 14, []))), (3, (0, (Int.ofNat 77, [])))], [])), (0, 121, [], ([], [], [], [], [], [], [], [], [(0, (Int.ofNat 13, []))]))], [], (Int.ofNat 0, []), [130])
set_option maxRecDepth 100000 in
theorem uk503 : uck tbq tuq [] sbs mth mqq 100000 12 9 100014 un503 = true := by decide +kernel
theorem ug503 : UG ((12, 9, 100014), un503) := ug_of _ uk503 (fun _ h => absurd h List.not_mem_nil)
