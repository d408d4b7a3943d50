set_option maxRecDepth 100000 in
noncomputable def un0 : UN := ([(0, 1, (Int.ofNat 0, [])), (0, 2, (Int.ofNat 0, []))], ([(Int.ofNat 0, Int.ofNat 6336), (Int.ofNat 0, Int.ofNat 8)], [(Int.ofNat 0, [(0, Int.negSucc 0), (1, Int.ofNat 792)])], [], [], [], [], [], [(0, (2, (Int.ofNat 169, []))), (1, (0, (Int.ofNat 0, [(0, Int.ofNat 1)]))), (2, (0, (Int.ofNat 0, [(1, Int.ofNat 1)])))], []), [(1, 40, [(0, 1, (Int.ofNat 0, []))], ([(Int.ofNat 0, Int.ofNat 6336)], [], [], [], [], [], [], [(0, (2, (Int.ofNat 169, []))), (1, (0, (Int.ofNat 0, [(2, Int.ofNat 1)])))], []))], [], (Int.ofNat 0, [(1, Int.ofNat 1)]), [37])
set_option maxRecDepth 100000 in
theorem uk0 : uck tbq tuq [] sbs mth mqq 100000 18 14 100004 un0 = true := by decide +kernel
theorem ug0 : UG ((18, 14, 100004), un0) := ug_of _ uk0 (fun _ h => absurd h List.not_mem_nil)
set_option maxRecDepth 100000 in
noncomputable def un1 : UN := ([(0, 1, (Int.ofNat 0, [])), (0, 3, (Int.ofNat 0, [])), (0, 5, (Int.ofNat 0, [])), (0, 7, (Int.ofNat 0, []))], ([(Int.ofNat 0, Int.ofNat 9999), (Int.ofNat 1, Int.ofNat 9999), (Int.ofNat 0, Int.ofNat 9999), (Int.ofNat 0, Int.ofNat 9999)], [(Int.negSucc 0, [(2, Int.ofNat 1), (3, Int.ofNat 1)])], [], [], [], [], [], [(0, (2, (Int.ofNat 169, []))), (1, (1, (Int.ofNat 0, [(0, Int.ofNat 1)]))), (3, (1, (Int.ofNat 0, [(1, Int.ofNat 1)]))), (5, (1, (Int.ofNat 0, [(2, Int.ofNat 1)]))), (7, (1, (Int.ofNat 0, [(3, Int.ofNat 1)])))], []), [(1, 31, [(0, 5, (Int.ofNat 0, []))], ([(Int.ofNat 1, Int.ofNat 9999)], [], [], [], [], [], [], [(0, (2, (Int.ofNat 169, []))), (1, (1, (Int.ofNat 0, [(0, Int.ofNat 1)]))), (3, (1, (Int.ofNat 0, [(1, Int.ofNat 1)]))), (5, (1, (Int.ofNat 0, [(4, Int.ofNat 1)])))], []))], [], (Int.ofNat 0, [(3, Int.negSucc 0)]), [28, 0, 1])
set_option maxRecDepth 100000 in
theorem uk1 : uck tbq tuq [] sbs mth mqq 100000 11 13 100006 un1 = true := by decide +kernel
theorem ug1 : UG ((11, 13, 100006), un1) := ug_of _ uk1 (fun _ h => absurd h List.not_mem_nil)
set_option maxRecDepth 100000 in
noncomputable def un2 : UN := ([(0, 1, (Int.ofNat 0, [])), (0, 3, (Int.ofNat 0, []))], ([(Int.ofNat 0, Int.ofNat 9999), (Int.ofNat 1, Int.ofNat 9999)], [], [], [], [], [], [], [(0, (2, (Int.ofNat 169, []))), (1, (1, (Int.ofNat 0, [(0, Int.ofNat 1)]))), (3, (1, (Int.ofNat 0, [(1, Int.ofNat 1)])))], []), [(0, 52, [], ([], [], [], [], [], [], [], [], [(0, (Int.ofNat 1, []))]))], [(169, Int.ofNat 2, Int.ofNat 2), (169, Int.ofNat 3, Int.ofNat 3), (169, Int.ofNat 4, Int.ofNat 4)], (Int.ofNat 0, []), [])
set_option maxRecDepth 100000 in
theorem uk2 : uck tbq tuq [((11, 13, 100006), un1)] sbs mth mqq 100000 11 13 0 un2 = true := by decide +kernel
theorem ug2 : UG ((11, 13, 0), un2) := ug_of _ uk2 (List.forall_mem_cons.mpr ⟨ug1, fun _ h => absurd h List.not_mem_nil⟩)
set_option maxRecDepth 100000 in
noncomputable def un3 : UN := ([], ([], [], [], [], [], [], [], [(0, (2, (Int.ofNat 169, [])))], []), [(0, 67, [], ([], [], [], [], [], [], [], [], [(0, (Int.ofNat 1, []))])), (0, 67, [], ([], [], [], [], [], [], [], [], [(0, (Int.ofNat 0, []))]))], [(169, Int.ofNat 2, Int.ofNat 2), (169, Int.ofNat 3, Int.ofNat 3), (169, Int.ofNat 4, Int.ofNat 4)], (Int.ofNat 0, []), [])
set_option maxRecDepth 100000 in
theorem uk3 : uck tbq tuq [((11, 13, 0), un2), ((18, 14, 100004), un0)] sbs mth mqq 100000 18 14 0 un3 = true := by decide +kernel
theorem ug3 : UG ((18, 14, 0), un3) := ug_of _ uk3 (List.forall_mem_cons.mpr ⟨ug2, List.forall_mem_cons.mpr ⟨ug0, fun _ h => absurd h List.not_mem_nil⟩⟩)
