section
/-! 45.u27 -/
set_option maxRecDepth 100000 in
noncomputable def un535 : UN := ([], ([], [], [], [], [], [], [], [(0, (2, (Int.ofNat 169, []))), (1, (6, (Int.ofNat 3, []))), (2, (0, (Int.ofNat 9, []))), (3, (0, (Int.ofNat 47, [])))], []), [(1, 14, [], ([], [], [], [], [], [], [], [(0, (2, (Int.ofNat 169, []))), (1, (6, (Int.ofNat 3, []))), (2, (0, (Int.ofNat 10, []))), (3, (0, (Int.ofNat 53, [])))], [])), (0, 121, [], ([], [], [], [], [], [], [], [], [(0, (Int.ofNat 9, []))]))], [], (Int.ofNat 0, []), [130])
set_option maxRecDepth 100000 in
theorem uk535 : uck tbq tuq [] sbs mth mqq 100000 12 9 100014 un535 = true := by decide +kernel
theorem ug535 : UG ((12, 9, 100014), un535) := ug_of _ uk535 (fun _ h => absurd h List.not_mem_nil)
set_option maxRecDepth 100000 in
noncomputable def un536 : UN := ([], ([], [], [], [], [], [], [], [(0, (2, (Int.ofNat 169, []))), (1, (6, (Int.ofNat 3, []))), (2, (0, (Int.ofNat 10, []))), (3, (0, (Int.ofNat 53, [])))], []), [(1, 14, [], ([], [], [], [], [], [], [], [(0, (2, (Int.ofNat 169, []))), (1, (6, (Int.ofNat 3, []))), (2, (0, (Int.ofNat 11, []))), (3, (0, (Int.ofNat 59, [])))], [])), (0, 121, [], ([], [], [], [], [], [], [], [], [(0, (Int.ofNat 10, []))]))], [], (Int.ofNat 0, []), [130])
set_option maxRecDepth 100000 in
theorem uk536 : uck tbq tuq [] sbs mth mqq 100000 12 9 100014 un536 = true := by decide +kernel
theorem ug536 : UG ((12, 9, 100014), un536) := ug_of _ uk536 (fun _ h => absurd h List.not_mem_nil)
set_option maxRecDepth 100000 in
noncomputable def un537 : UN := ([], ([], [], [], [], [], [], [], [(0, (2, (Int.ofNat 169, []))), (1, (6, (Int.ofNat 3, []))), (2, (0, (Int.ofNat 11, []))), (3, (0, (Int.ofNat 59, [])))], []), [(1, 14, [], ([], [], [], [], [], [], [], [(0, (2, (Int.ofNat 169, []))), (1, (6, (Int.ofNat 3, []))), (2, (0, (Int.ofNat 12, []))), (3, (0, (Int.ofNat 63, [])))], [])), (0, 121, [], ([], [], [], [], [], [], [], [], [(0, (Int.ofNat 11, []))]))], [], (Int.ofNat 0, []), [130])
set_option maxRecDepth 100000 in
theorem uk537 : uck tbq tuq [] sbs mth mqq 100000 12 9 100014 un537 = true := by decide +kernel
theorem ug537 : UG ((12, 9, 100014), un537) := ug_of _ uk537 (fun _ h => absurd h List.not_mem_nil)
set_option maxRecDepth 100000 in
noncomputable def un538 : UN := ([], ([], [], [], [], [], [], [], [(0, (2, (Int.ofNat 169, []))), (1, (6, (Int.ofNat 3, []))), (2, (0, (Int.ofNat 12, []))), (3, (0, (Int.ofNat 63, [])))], []), [(1, 14, [], ([], [], [], [], [], [], [], [(0, (2, (Int.ofNat 169, []))), (1, (6, (Int.ofNat 3, []))), (2, (0, (Int.ofNat 13, []))), (3, (0, (Int.ofNat 71, [])))], [])), (0, 121, [], ([], [], [], [], [], [], [], [], [(0, (Int.ofNat 12, []))]))], [], (Int.ofNat 0, []), [130])
set_option maxRecDepth 100000 in
theorem uk538 : uck tbq tuq [] sbs mth mqq 100000 12 9 100014 un538 = true := by decide +kernel
theorem ug538 : UG ((12, 9, 100014), un538) := ug_of _ uk538 (fun _ h => absurd h List.not_mem_nil)
end
section
/-! 45.u28 -/
set_option maxRecDepth 100000 in
noncomputable def un539 : UN := ([], ([], [], [], [], [], [], [], [(0, (2, (Int.ofNat 169, []))), (1, (6, (Int.ofNat 3, []))), (2, (0, (Int.ofNat 13, []))), (3, (0, (Int.ofNat 71, [])))], []), [(1, 14, [], ([], [], [], [], [], [], [], [(0, (2, (Int.ofNat 169, []))), (1, (6, (Int.ofNat 3, []))), (2, (0, (Int.ofNat 14, []))), (3, (0, (Int.ofNat 77, [])))], [])), (0, 121, [], ([], [], [], [], [], [], [], [], [(0, (Int.ofNat 13, []))]))], [], (Int.ofNat 0, []), [130])
set_option maxRecDepth 100000 in
theorem uk539 : uck tbq tuq [] sbs mth mqq 100000 12 9 100014 un539 = true := by decide +kernel
theorem ug539 : UG ((12, 9, 100014), un539) := ug_of _ uk539 (fun _ h => absurd h List.not_mem_nil)
set_option maxRecDepth 100000 in
noncomputable def un540 : UN := ([], ([], [], [], [], [], [], [], [(0, (2, (Int.ofNat 169, []))), (1, (6, (Int.ofNat 3, []))), (2, (0, (Int.ofNat 14, []))), (3, (0, (Int.ofNat 77, [])))], []), [(1, 14, [], ([], [], [], [], [], [], [], [(0, (2, (Int.ofNat 169, []))), (1, (6, (Int.ofNat 3, []))), (2, (0, (Int.ofNat 15, []))), (3, (0, (Int.ofNat 83, [])))], [])), (0, 121, [], ([], [], [], [], [], [], [], [], [(0, (Int.ofNat 14, []))]))], [], (Int.ofNat 0, []), [130])
set_option maxRecDepth 100000 in
theorem uk540 : uck tbq tuq [] sbs mth mqq 100000 12 9 100014 un540 = true := by decide +kernel
theorem ug540 : UG ((12, 9, 100014), un540) := ug_of _ uk540 (fun _ h => absurd h List.not_mem_nil)
set_option maxRecDepth 100000 in
noncomputable def un541 : UN := ([], ([], [], [], [], [], [], [], [(0, (2, (Int.ofNat 169, []))), (1, (6, (Int.ofNat 3, []))), (2, (0, (Int.ofNat 15, []))), (3, (0, (Int.ofNat 83, [])))], []), [(1, 14, [], ([], [], [], [], [], [], [], [(0, (2, (Int.ofNat 169, []))), (1, (6, (Int.ofNat 3, []))), (2, (0, (Int.ofNat 16, []))), (3, (0, (Int.ofNat 87, [])))], [])), (0, 121, [], ([], [], [], [], [], [], [], [], [(0, (Int.ofNat 15, []))]))], [], (Int.ofNat 0, []), [130])
set_option maxRecDepth 100000 in
theorem uk541 : uck tbq tuq [] sbs mth mqq 100000 12 9 100014 un541 = true := by decide +kernel
theorem ug541 : UG ((12, 9, 100014), un541) := ug_of _ uk541 (fun _ h => absurd h List.not_mem_nil)
set_option maxRecDepth 100000 in
noncomputable def un542 : UN := ([], ([], [], [], [], [], [], [], [(0, (2, (Int.ofNat 169, []))), (1, (6, (Int.ofNat 3, []))), (2, (0, (Int.ofNat 16, []))), (3, (0, (Int.ofNat 87, [])))], []), [(1, 14, [], ([], [], [], [], [], [], [], [(0, (2, (Int.ofNat 169, []))), (1, (6, (Int.ofNat 3, []))), (2, (0, (Int.ofNat 17, []))), (3, (0, (Int.ofNat 90, [])))], [])), (0, 121, [], ([], [], [], [], [], [], [], [], [(0, (Int.ofNat 16, []))]))], [], (Int.ofNat 0, []), [130])
set_option maxRecDepth 100000 in
theorem uk542 : uck tbq tuq [] sbs mth mqq 100000 12 9 100014 un542 = true := by decide +kernel
theorem ug542 : UG ((12, 9, 100014), un542) := ug_of _ uk542 (fun _ h => absurd h List.not_mem_nil)
set_option maxRecDepth 100000 in
noncomputable def un543 : UN := ([], ([], [], [], [], [], [], [], [(0, (2, (Int.ofNat 169, []))), (1, (6, (Int.ofNat 3, []))), (2, (0, (Int.ofNat 17, []))), (3, (0, (Int.ofNat 90, [])))], []), [(1, 14, [], ([], [], [], [], [], [], [], [(0, (2, (Int.ofNat 169, []))), (1, (6, (Int.ofNat 3, []))), (2, (0, (Int.ofNat 18, []))), (3, (0, (Int.ofNat 95, [])))], [])), (0, 121, [], ([], [], [], [], [], [], [], [], [(0, (Int.ofNat 17, []))]))], [], (Int.ofNat 0, []), [130])
set_option maxRecDepth 100000 in
theorem uk543 : uck tbq tuq [] sbs mth mqq 100000 12 9 100014 un543 = true := by decide +kernel
theorem ug543 : UG ((12, 9, 100014), un543) := ug_of _ uk543 (fun _ h => absurd h List.not_mem_nil)
end
section
/-! 45.u29 -/
set_option maxRecDepth 100000 in
noncomputable def un544 : UN := ([], ([], [], [], [], [], [], [], [(0, (2, (Int.ofNat 169, []))), (1, (6, (Int.ofNat 3, []))), (2, (0, (Int.ofNat 18, []))), (3, (0, (Int.ofNat 95, [])))], []), [(1, 14, [], ([], [], [], [], [], [], [], [(0, (2, (Int.ofNat 169, []))), (1, (6, (Int.ofNat 3, []))), (2, (0, (Int.ofNat 19, []))), (3, (0, (Int.ofNat 100, [])))], [])), (0, 121, [], ([], [], [], [], [], [], [], [], [(0, (Int.ofNat 18, []))]))], [], (Int.ofNat 0, []), [130])
set_option maxRecDepth 100000 in
theorem uk544 : uck tbq tuq [] sbs mth mqq 100000 12 9 100014 un544 = true := by decide +kernel
theorem ug544 : UG ((12, 9, 100014), un544) := ug_of _ uk544 (fun _ h => absurd h List.not_mem_nil)
set_option maxRecDepth 100000 in
noncomputable def un545 : UN := ([], ([], [], [], [], [], [], [], [(0, (2, (Int.ofNat 169, []))), (1, (6, (Int.ofNat 3, []))), (2, (0, (Int.ofNat 19, []))), (3, (0, (Int.ofNat 100, [])))], []), [(1, 14, [], ([], [], [], [], [], [], [], [(0, (2, (Int.ofNat 169, []))), (1, (6, (Int.ofNat 3, []))), (2, (0, (Int.ofNat 20, []))), (3, (0, (Int.ofNat 104, [])))], [])), (0, 121, [], ([], [], [], [], [], [], [], [], [(0, (Int.ofNat 19, []))]))], [], (Int.ofNat 0, []), [130])
set_option maxRecDepth 100000 in
theorem uk545 : uck tbq tuq [] sbs mth mqq 100000 12 9 100014 un545 = true := by decide +kernel
theorem ug545 : UG ((12, 9, 100014), un545) := ug_of _ uk545 (fun _ h => absurd h List.not_mem_nil)
set_option maxRecDepth 100000 in
noncomputable def un546 : UN := ([], ([], [], [], [], [], [], [], [(0, (2, (Int.ofNat 169, []))), (1, (6, (Int.ofNat 3, []))), (2, (0, (Int.ofNat 20, []))), (3, (0, (Int.ofNat 104, [])))], []), [(1, 14, [], ([], [], [], [], [], [], [], [(0, (2, (Int.ofNat 169, []))), (1, (6, (Int.ofNat 3, []))), (2, (0, (Int.ofNat 21, []))), (3, (0, (Int.ofNat 109, [])))], [])), (0, 121, [], ([], [], [], [], [], [], [], [], [(0, (Int.ofNat 20, []))]))], [], (Int.ofNat 0, []), [130])
set_option maxRecDepth 100000 in
theorem uk546 : uck tbq tuq [] sbs mth mqq 100000 12 9 100014 un546 = true := by decide +kernel
theorem ug546 : UG ((12, 9, 100014), un546) := ug_of _ uk546 (fun _ h => absurd h List.not_mem_nil)
set_option maxRecDepth 100000 in
noncomputable def un547 : UN := ([], ([], [], [], [], [], [], [], [(0, (2, (Int.ofNat 169, []))), (1, (6, (Int.ofNat 3, []))), (2, (0, (Int.ofNat 21, []))), (3, (0, (Int.ofNat 109, [])))], []), [(1, 14, [], ([], [], [], [], [], [], [], [(0, (2, (Int.ofNat 169, []))), (1, (6, (Int.ofNat 3, []))), (2, (0, (Int.ofNat 22, []))), (3, (0, (Int.ofNat 116, [])))], [])), (0, 121, [], ([], [], [], [], [], [], [], [], [(0, (Int.ofNat 21, []))]))], [], (Int.ofNat 0, []), [130])
set_option maxRecDepth 100000 in
theorem uk547 : uck tbq tuq [] sbs mth mqq 100000 12 9 100014 un547 = true := by decide +kernel
theorem ug547 : UG ((12, 9, 100014), un547) := ug_of _ uk547 (fun _ h => absurd h List.not_mem_nil)
set_option maxRecDepth 100000 in
noncomputable def un548 : UN := ([], ([], [], [], [], [], [], [], [(0, (2, (Int.ofNat 169, []))), (1, (6, (Int.ofNat 3, []))), (2, (0, (Int.ofNat 22, []))), (3, (0, (Int.ofNat 116, [])))], []), [(1, 14, [], ([], [], [], [], [], [], [], [(0, (2, (Int.ofNat 169, []))), (1, (6, (Int.ofNat 3, []))), (2, (0, (Int.ofNat 23, []))), (3, (0, (Int.ofNat 121, [])))], [])), (0, 121, [], ([], [], [], [], [], [], [], [], [(0, (Int.ofNat 22, []))]))], [], (Int.ofNat 0, []), [130])
set_option maxRecDepth 100000 in
theorem uk548 : uck tbq tuq [] sbs mth mqq 100000 12 9 100014 un548 = true := by decide +kernel
theorem ug548 : UG ((12, 9, 100014), un548) := ug_of _ uk548 (fun _ h => absurd h List.not_mem_nil)
end
