set_option maxRecDepth 100000 in
noncomputable def un532 : UN := ([], ([], [], [], [], [], [], [], [(0, (2, (Int.ofNat 169, []))), (1, (6, (Int.ofNat 3, []))), (2, (0, (Int.ofNat 9, []))), (3, (0, (Int.ofNat 47, [])))], []), [(1, 14, [], ([], [], [], [], [], [], [], [(0, (2, (Int.ofNat 169, []))), (1, (6, (Int.ofNat 3, []))), (2, (0, (Int.ofNat 10, []))), (3, (0, (Int.ofNat 53, [])))], [])), (0, 121, [], ([], [], [], [], [], [], [], [], [(0, (Int.ofNat 9, []))]))], [], (Int.ofNat 0, []), [130])
set_option maxRecDepth 100000 in
theorem uk532 : uck tbq tuq [] sbs mth mqq 100000 12 9 100014 un532 = true := by decide +kernel
theorem ug532 : UG ((12, 9, 100014), un532) := ug_of _ uk532 (fun _ h => absurd h List.not_mem_nil)
set_option maxRecDepth 100000 in
noncomputable def un533 : UN := ([], ([], [], [], [], [], [], [], [(0, (2, (Int.ofNat 169, []))), (1, (6, (Int.ofNat 3, []))), (2, (0, (Int.ofNat 10, []))), (3, (0, (Int.ofNat 53, [])))], []), [(1, 14, [], ([], [], [], [], [], [], [], [(0, (2, (Int.ofNat 169, []))), (1, (6, (Int.ofNat 3, []))), (2, (0, (Int.ofNat 11, []))), (3, (0, (Int.ofNat 59, [])))], [])), (0, 121, [], ([], [], [], [], [], [], [], [], [(0, (Int.ofNat 10, []))]))], [], (Int.ofNat 0, []), [130])
set_option maxRecDepth 100000 in
theorem uk533 : uck tbq tuq [] sbs mth mqq 100000 12 9 100014 un533 = true := by decide +kernel
theorem ug533 : UG ((12, 9, 100014), un533) := ug_of _ uk533 (fun _ h => absurd h List.not_mem_nil)
set_option maxRecDepth 100000 in
noncomputable def un534 : UN := ([], ([], [], [], [], [], [], [], [(0, (2, (Int.ofNat 169, []))), (1, (6, (Int.ofNat 3, []))), (2, (0, (Int.ofNat 11, []))), (3, (0, (Int.ofNat 59, [])))], []), [(1, 14, [], ([], [], [], [], [], [], [], [(0, (2, (Int.ofNat 169, []))), (1, (6, (Int.ofNat 3, []))), (2, (0, (Int.ofNat 12, []))), (3, (0, (Int.ofNat 63, [])))], [])), (0, 121, [], ([], [], [], [], [], [], [], [], [(0, (Int.ofNat 11, []))]))], [], (Int.ofNat 0, []), [130])
set_option maxRecDepth 100000 in
theorem uk534 : uck tbq tuq [] sbs mth mqq 100000 12 9 100014 un534 = true := by decide +kernel
theorem ug534 : UG ((12, 9, 100014), un534) := ug_of _ uk534 (fun _ h => absurd h List.not_mem_nil)
set_option maxRecDepth 100000 in
noncomputable def un535 : UN := ([], ([], [], [], [], [], [], [], [(0, (2, (Int.ofNat 169, []))), (1, (6, (Int.ofNat 3, []))), (2, (0, (Int.ofNat 12, []))), (3, (0, (Int.ofNat 63, [])))], []), [(1, 14, [], ([], [], [], [], [], [], [], [(0, (2, (Int.ofNat 169, []))), (1, (6, (Int.ofNat 3, []))), (2, (0, (Int.ofNat 13, []))), (3, (0, (Int.ofNat 71, [])))], [])), (0, 121, [], ([], [], [], [], [], [], [], [], [(0, (Int.ofNat 12, []))]))], [], (Int.ofNat 0, []), [130])
set_option maxRecDepth 100000 in
theorem uk535 : uck tbq tuq [] sbs mth mqq 100000 12 9 100014 un535 = true := by decide +kernel
theorem ug535 : UG ((12, 9, 100014), un535) := ug_of _ uk535 (fun _ h => absurd h List.not_mem_nil)
