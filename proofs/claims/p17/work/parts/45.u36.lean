set_option maxRecDepth 100000 in
noncomputable def un511 : UN := ([], ([], [], [], [], [], [], [], [(0, (2, (Int.ofNat 169, []))), (1, (6, (Int.ofNat 3, []))), (2, (0, (Int.ofNat 14, []))), (3, (0, (Int.ofNat 77, [])))], []), [(1, 14, [], ([], [], [], [], [], [], [], [(0, (2, (Int.ofNat 169, []))), (1, (6, (Int.ofNat 3, []))), (2, (0, (Int.ofNat 15, []))), (3, (0, (Int.ofNat 83, [])))], [])), (0, 121, [], ([], [], [], [], [], [], [], [], [(0, (Int.ofNat 14, []))]))], [], (Int.ofNat 0, []), [130])
set_option maxRecDepth 100000 in
theorem uk511 : uck tbq tuq [] sbs mth mqq 100000 12 9 100014 un511 = true := by decide +kernel
theorem ug511 : UG ((12, 9, 100014), un511) := ug_of _ uk511 (fun _ h => absurd h List.not_mem_nil)
set_option maxRecDepth 100000 in
noncomputable def un512 : UN := ([], ([], [], [], [], [], [], [], [(0, (2, (Int.ofNat 169, []))), (1, (6, (Int.ofNat 3, []))), (2, (0, (Int.ofNat 15, []))), (3, (0, (Int.ofNat 83, [])))], []), [(1, 14, [], ([], [], [], [], [], [], [], [(0, (2, (Int.ofNat 169, []))), (1, (6, (Int.ofNat 3, []))), (2, (0, (Int.ofNat 16, []))), (3, (0, (Int.ofNat 87, [])))], [])), (0, 121, [], ([], [], [], [], [], [], [], [], [(0, (Int.ofNat 15, []))]))], [], (Int.ofNat 0, []), [130])
set_option maxRecDepth 100000 in
theorem uk512 : uck tbq tuq [] sbs mth mqq 100000 12 9 100014 un512 = true := by decide +kernel
theorem ug512 : UG ((12, 9, 100014), un512) := ug_of _ uk512 (fun _ h => absurd h List.not_mem_nil)
set_option maxRecDepth 100000 in
noncomputable def un513 : UN := ([], ([], [], [], [], [], [], [], [(0, (2, (Int.ofNat 169, []))), (1, (6, (Int.ofNat 3, []))), (2, (0, (Int.ofNat 16, []))), (3, (0, (Int.ofNat 87, [])))], []), [(1, 14, [], ([], [], [], [], [], [], [], [(0, (2, (Int.ofNat 169, []))), (1, (6, (Int.ofNat 3, []))), (2, (0, (Int.ofNat 17, []))), (3, (0, (Int.ofNat 90, [])))], [])), (0, 121, [], ([], [], [], [], [], [], [], [], [(0, (Int.ofNat 16, []))]))], [], (Int.ofNat 0, []), [130])
set_option maxRecDepth 100000 in
theorem uk513 : uck tbq tuq [] sbs mth mqq 100000 12 9 100014 un513 = true := by decide +kernel
theorem ug513 : UG ((12, 9, 100014), un513) := ug_of _ uk513 (fun _ h => absurd h List.not_mem_nil)
set_option maxRecDepth 100000 in
noncomputable def un514 : UN := ([], ([], [], [], [], [], [], [], [(0, (2, (Int.ofNat 169, []))), (1, (6, (Int.ofNat 3, []))), (2, (0, (Int.ofNat 17, []))), (3, (0, (Int.ofNat 90, [])))], []), [(1, 14, [], ([], [], [], [], [], [], [], [(0, (2, (Int.ofNat 169, []))), (1, (6, (Int.ofNat 3, []))), (2, (0, (Int.ofNat 18, []))), (3, (0, (Int.ofNat 95, [])))], [])), (0, 121, [], ([], [], [], [], [], [], [], [], [(0, (Int.ofNat 17, []))]))], [], (Int.ofNat 0, []), [130])
set_option maxRecDepth 100000 in
theorem uk514 : uck tbq tuq [] sbs mth mqq 100000 12 9 100014 un514 = true := by decide +kernel
theorem ug514 : UG ((12, 9, 100014), un514) := ug_of _ uk514 (fun _ h => absurd h List.not_mem_nil)
set_option maxRecDepth 100000 in
noncomputable def un515 : UN := ([], ([], [], [], [], [], [], [], [(0, (2, (Int.ofNat 169, []))), (1, (6, (Int.ofNat 3, []))), (2, (0, (Int.ofNat 18, []))), (3, (0, (Int.ofNat 95, [])))], []), [(1, 14, [], ([], [], [], [], [], [], [], [(0, (2, (Int.ofNat 169, []))), (1, (6, (Int.ofNat 3, []))), (2, (0, (Int.ofNat 19, []))), (3, (0, (Int.ofNat 100, [])))], [])), (0, 121, [], ([], [], [], [], [], [], [], [], [(0, (Int.ofNat 18, []))]))], [], (Int.ofNat 0, []), [130])
set_option maxRecDepth 100000 in
theorem uk515 : uck tbq tuq [] sbs mth mqq 100000 12 9 100014 un515 = true := by decide +kernel
theorem ug515 : UG ((12, 9, 100014), un515) := ug_of _ uk515 (fun _ h => absurd h List.not_mem_nil)
set_option maxRecDepth 100000 in
noncomputable def un516 : UN := ([], ([], [], [], [], [], [], [], [(0, (2, (Int.ofNat 169, []))), (1, (6, (Int.ofNat 3, []))), (2, (0, (Int.ofNat 19, []))), (3, (0, (Int.ofNat 100, [])))], []), [(1, 14, [], ([], [], [], [], [], [], [], [(0, (2, (Int.ofNat 169, []))), (1, (6, (Int.ofNat 3, []))), (2, (0, (Int.ofNat 20, []))), (3, (0, (Int.ofNat 104, [])))], [])), (0, 121, [], ([], [], [], [], [], [], [], [], [(0, (Int.ofNat 19, []))]))], [], (Int.ofNat 0, []), [130])
set_option maxRecDepth 100000 in
theorem uk516 : uck tbq tuq [] sbs mth mqq 100000 12 9 100014 un516 = true := by decide +kernel
theorem ug516 : UG ((12, 9, 100014), un516) := ug_of _ uk516 (fun _ h => absurd h List.not_mem_nil)
