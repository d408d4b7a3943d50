set_option maxRecDepth 100000 in
noncomputable def un4 : UN := ([(0, 1, (Int.ofNat 0, [])), (0, 2, (Int.ofNat 0, [])), (0, 3, (Int.ofNat 0, []))], ([(Int.ofNat 3, Int.ofNat 3), (Int.ofNat 0, Int.ofNat 255), (Int.ofNat 0, Int.ofNat 8)], [], [], [], [], [], [], [(0, (2, (Int.ofNat 169, []))), (1, (0, (Int.ofNat 0, [(0, Int.ofNat 1)]))), (2, (0, (Int.ofNat 0, [(1, Int.ofNat 1)]))), (3, (0, (Int.ofNat 0, [(2, Int.ofNat 1)])))], []), [(1, 92, [(0, 2, (Int.ofNat 0, []))], ([(Int.ofNat 0, Int.ofNat 255)], [], [], [], [], [], [], [(2, (0, (Int.ofNat 0, [(3, Int.ofNat 1)])))], []))], [], (Int.ofNat 0, [(2, Int.ofNat 1)]), [89, 0])
set_option maxRecDepth 100000 in
theorem uk4 : uck tbq tuq [] sbs mth mqq 100000 14 13 100004 un4 = true := by decide +kernel
theorem ug4 : UG ((14, 13, 100004), un4) := ug_of _ uk4 (fun _ h => absurd h List.not_mem_nil)
set_option maxRecDepth 100000 in
noncomputable def un5 : UN := ([(0, 1, (Int.ofNat 0, []))], ([(Int.ofNat 3, Int.ofNat 3)], [], [], [], [], [], [], [(0, (2, (Int.ofNat 169, []))), (1, (0, (Int.ofNat 0, [(0, Int.ofNat 1)])))], []), [(0, 93, [(3, 0, (Int.ofNat 0, []))], ([(Int.ofNat 0, Int.ofNat 255)], [], [], [], [], [], [], [], [(0, (Int.ofNat 0, [(1, Int.ofNat 1)]))]))], [], (Int.ofNat 0, []), [])
set_option maxRecDepth 100000 in
theorem uk5 : uck tbq tuq [((14, 13, 100004), un4)] sbs mth mqq 100000 14 13 0 un5 = true := by decide +kernel
theorem ug5 : UG ((14, 13, 0), un5) := ug_of _ uk5 (List.forall_mem_cons.mpr ⟨ug4, fun _ h => absurd h List.not_mem_nil⟩)
set_option maxRecDepth 100000 in
noncomputable def un6 : UN := ([(0, 1, (Int.ofNat 0, [])), (0, 2, (Int.ofNat 0, []))], ([(Int.ofNat 0, Int.ofNat 7), (Int.ofNat 0, Int.ofNat 8)], [], [], [], [], [], [], [(0, (2, (Int.ofNat 169, []))), (1, (0, (Int.ofNat 0, [(0, Int.ofNat 1)]))), (2, (0, (Int.ofNat 0, [(1, Int.ofNat 1)])))], []), [(1, 136, [], ([], [], [], [], [], [], [], [], []))], [(170, Int.ofNat 67, Int.ofNat 130)], (Int.ofNat 0, [(1, Int.ofNat 1)]), [133, 0])
set_option maxRecDepth 100000 in
theorem uk6 : uck tbq tuq [] sbs mth mqq 100000 15 13 100024 un6 = true := by decide +kernel
theorem ug6 : UG ((15, 13, 100024), un6) := ug_of _ uk6 (fun _ h => absurd h List.not_mem_nil)
