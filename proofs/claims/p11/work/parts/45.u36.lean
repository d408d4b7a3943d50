set_option maxRecDepth 100000 in
noncomputable def un533 : UN := ([], ([], [], [], [], [], [], [], [(0, (2, (Int.ofNat 169, []))), (1, (6, (Int.ofNat 3, []))), (2, (0, (Int.ofNat 18, []))), (3, (0, (Int.ofNat 95, [])))], []), [(1, 14, [], ([], [], [], [], [], [], [], [(0, (2, (Int.ofNat 169, []))), (1, (6, (Int.ofNat 3, []))), (2, (0, (Int.ofNat 19, []))), (3, (0, (Int.ofNat 100, [])))], [])), (0, 121, [], ([], [], [], [], [], [], [], [], [(0, (Int.ofNat 18, []))]))], [], (Int.ofNat 0, []), [130])
set_option maxRecDepth 100000 in
theorem uk533 : uck tbq tuq [] sbs mth mqq 100000 12 9 100014 un533 = true := by decide +kernel
theorem ug533 : UG ((12, 9, 100014), un533) := ug_of _ uk533 (fun _ h => absurd h List.not_mem_nil)
set_option maxRecDepth 100000 in
noncomputable def un534 : UN := ([], ([], [], [], [], [], [], [], [(0, (2, (Int.ofNat 169, []))), (1, (6, (Int.ofNat 3, []))), (2, (0, (Int.ofNat 19, []))), (3, (0, (Int.ofNat 100, [])))], []), [(1, 14, [], ([], [], [], [], [], [], [], [(0, (2, (Int.ofNat 169, []))), (1, (6, (Int.ofNat 3, []))), (2, (0, (Int.ofNat 20, []))), (3, (0, (Int.ofNat 104, [])))], [])), (0, 121, [], ([], [], [], [], [], [], [], [], [(0, (Int.ofNat 19, []))]))], [], (Int.ofNat 0, []), [130])
set_option maxRecDepth 100000 in
theorem uk534 : uck tbq tuq [] sbs mth mqq 100000 12 9 100014 un534 = true := by decide +kernel
theorem ug534 : UG ((12, 9, 100014), un534) := ug_of _ uk534 (fun _ h => absurd h List.not_mem_nil)
set_option maxRecDepth 100000 in
noncomputable def un535 : UN := ([], ([], [], [], [], [], [], [], [(0, (2, (Int.ofNat 169, []))), (1, (6, (Int.ofNat 3, []))), (2, (0, (Int.ofNat 20, []))), (3, (0, (Int.ofNat 104, [])))], []), [(1, 14, [], ([], [], [], [], [], [], [], [(0, (2, (Int.ofNat 169, []))), (1, (6, (Int.ofNat 3, []))), (2, (0, (Int.ofNat 21, []))), (3, (0, (Int.ofNat 109, [])))], [])), (0, 121, [], ([], [], [], [], [], [], [], [], [(0, (Int.ofNat 20, []))]))], [], (Int.ofNat 0, []), [130])
set_option maxRecDepth 100000 in
theorem uk535 : uck tbq tuq [] sbs mth mqq 100000 12 9 100014 un535 = true := by decide +kernel
theorem ug535 : UG ((12, 9, 100014), un535) := ug_of _ uk535 (fun _ h => absurd h List.not_mem_nil)
set_option maxRecDepth 100000 in
noncomputable def un536 : UN := ([], ([], [], [], [], [], [], [], [(0, (2, (Int.ofNat 169, []))), (1, (6, (Int.ofNat 3, []))), (2, (0, (Int.ofNat 21, []))), (3, (0, (Int.ofNat 109, [])))], []), [(1, 14, [], ([], [], [], [], [], [], [], [(0, (2, (Int.ofNat 169, []))), (1, (6, (Int.ofNat 3, []))), (2, (0, (Int.ofNat 22, []))), (3, (0, (Int.ofNat 116, [])))], [])), (0, 121, [], ([], [], [], [], [], [], [], [], [(0, (Int.ofNat 21, []))]))], [], (Int.ofNat 0, []), [130])
set_option maxRecDepth 100000 in
theorem uk536 : uck tbq tuq [] sbs mth mqq 100000 12 9 100014 un536 = true := by decide +kernel
theorem ug536 : UG ((12, 9, 100014), un536) := ug_of _ uk536 (fun _ h => absurd h List.not_mem_nil)
set_option maxRecDepth 100000 in
noncomputable def un537 : UN := ([], ([], [], [], [], [], [], [], [(0, (2, (Int.ofNat 169, []))), (1, (6, (Int.ofNat 3, []))), (2, (0, (Int.ofNat 22, []))), (3, (0, (Int.ofNat 116, [])))], []), [(1, 14, [], ([], [], [], [], [], [], [], [(0, (2, (Int.ofNat 169, []))), (1, (6, (Int.ofNat 3, []))), (2, (0, (Int.ofNat 23, []))), (3, (0, (Int.ofNat 121, [])))], [])), (0, 121, [], ([], [], [], [], [], [], [], [], [(0, (Int.ofNat 22, []))]))], [], (Int.ofNat 0, []), [130])
set_option maxRecDepth 100000 in
theorem uk537 : uck tbq tuq [] sbs mth mqq 100000 12 9 100014 un537 = true := by decide +kernel
theorem ug537 : UG ((12, 9, 100014), un537) := ug_of _ uk537 (fun _ h => absurd h List.not_mem_nil)
