set_option maxRecDepth 100000 in
noncomputable def un37 : UN := ([(0, 1, (Int.ofNat 0, [])), (0, 2, (Int.ofNat 0, [])), (0, 3, (Int.ofNat 0, [])), (0, 4, (Int.ofNat 0, []))], ([(Int.ofNat 0, Int.ofNat 6), (Int.ofNat 1, Int.ofNat 64), (Int.ofNat 1, Int.ofNat 64), (Int.ofNat 0, Int.ofNat 7)], [], [], [], [], [], [], [(0, (2, (Int.ofNat 54, []))), (1, (0, (Int.ofNat 0, [(0, Int.ofNat 1)]))), (2, (0, (Int.ofNat 0, [(1, Int.ofNat 1)]))), (3, (0, (Int.ofNat 0, [(2, Int.ofNat 1)]))), (4, (0, (Int.ofNat 0, [(3, Int.ofNat 1)])))], []), [(1, 37, [], ([], [], [], [], [], [], [], [(0, (2, (Int.ofNat 54, []))), (1, (0, (Int.ofNat 0, [(0, Int.ofNat 1)]))), (2, (0, (Int.ofNat 0, [(1, Int.ofNat 1)]))), (3, (0, (Int.ofNat 0, [(2, Int.ofNat 1)])))], []))], [(56, Int.ofNat 0, Int.ofNat 48)], (Int.ofNat 0, [(3, Int.ofNat 1)]), [34, 0, 1, 2])
set_option maxRecDepth 100000 in
theorem uk37 : uck tbq tuq [] sbs mth mqq 100000 3 16 100009 un37 = true := by decide +kernel
theorem ug37 : UG ((3, 16, 100009), un37) := ug_of _ uk37 (fun _ h => absurd h List.not_mem_nil)
set_option maxRecDepth 100000 in
noncomputable def un38 : UN := ([(0, 1, (Int.ofNat 0, [])), (0, 2, (Int.ofNat 0, [])), (0, 3, (Int.ofNat 0, [])), (0, 4, (Int.ofNat 0, [])), (0, 5, (Int.ofNat 0, []))], ([(Int.ofNat 0, Int.ofNat 6), (Int.negSucc 2147483647, Int.ofNat 2147483647), (Int.negSucc 2147483647, Int.ofNat 2147483647), (Int.ofNat 0, Int.ofNat 6), (Int.ofNat 0, Int.ofNat 7)], [], [], [], [], [], [], [(0, (2, (Int.ofNat 54, []))), (1, (0, (Int.ofNat 0, [(0, Int.ofNat 1)]))), (2, (0, (Int.ofNat 0, [(1, Int.ofNat 1)]))), (3, (0, (Int.ofNat 0, [(2, Int.ofNat 1)]))), (4, (0, (Int.ofNat 0, [(3, Int.ofNat 1)]))), (5, (0, (Int.ofNat 0, [(4, Int.ofNat 1)])))], []), [(1, 90, [], ([], [], [], [], [], [], [], [(0, (2, (Int.ofNat 54, []))), (1, (0, (Int.ofNat 0, [(0, Int.ofNat 1)]))), (2, (0, (Int.ofNat 0, [(1, Int.ofNat 1)]))), (3, (0, (Int.ofNat 0, [(2, Int.ofNat 1)]))), (4, (0, (Int.ofNat 0, [(3, Int.ofNat 1)])))], []))], [(56, Int.ofNat 0, Int.ofNat 48)], (Int.ofNat 0, [(4, Int.ofNat 1)]), [87, 0, 1, 2, 3])
set_option maxRecDepth 100000 in
theorem uk38 : uck tbq tuq [] sbs mth mqq 100000 3 16 100052 un38 = true := by decide +kernel
theorem ug38 : UG ((3, 16, 100052), un38) := ug_of _ uk38 (fun _ h => absurd h List.not_mem_nil)
set_option maxRecDepth 100000 in
noncomputable def un39 : UN := ([(0, 1, (Int.ofNat 0, [])), (0, 2, (Int.ofNat 0, [])), (0, 3, (Int.ofNat 0, []))], ([(Int.negSucc 2147483647, Int.ofNat 2147483647), (Int.negSucc 2147483647, Int.ofNat 2147483647), (Int.ofNat 0, Int.ofNat 7)], [], [], [], [], [], [], [(0, (2, (Int.ofNat 54, []))), (1, (0, (Int.ofNat 0, [(0, Int.ofNat 1)]))), (2, (0, (Int.ofNat 0, [(1, Int.ofNat 1)]))), (3, (0, (Int.ofNat 0, [(2, Int.ofNat 1)])))], []), [(1, 36, [(0, 2, (Int.ofNat 0, []))], ([(Int.negSucc 2147483647, Int.ofNat 2147483647)], [], [], [], [], [], [], [(2, (0, (Int.ofNat 0, [(3, Int.ofNat 1)])))], []))], [], (Int.ofNat 0, [(2, Int.ofNat 1)]), [33, 0])
set_option maxRecDepth 100000 in
theorem uk39 : uck tbq tuq [] sbs mth mqq 100000 3 13 100004 un39 = true := by decide +kernel
theorem ug39 : UG ((3, 13, 100004), un39) := ug_of _ uk39 (fun _ h => absurd h List.not_mem_nil)
set_option maxRecDepth 100000 in
noncomputable def un40 : UN := ([(0, 1, (Int.ofNat 0, []))], ([(Int.negSucc 2147483647, Int.ofNat 2147483647)], [], [], [], [], [], [], [(0, (2, (Int.ofNat 54, []))), (1, (0, (Int.ofNat 0, [(0, Int.ofNat 1)])))], []), [(0, 37, [(3, 0, (Int.ofNat 0, []))], ([(Int.negSucc 2147483647, Int.ofNat 2147483647)], [], [], [], [], [], [], [], [(0, (Int.ofNat 0, [(1, Int.ofNat 1)]))]))], [], (Int.ofNat 0, []), [])
set_option maxRecDepth 100000 in
theorem uk40 : uck tbq tuq [((3, 13, 100004), un39)] sbs mth mqq 100000 3 13 0 un40 = true := by decide +kernel
theorem ug40 : UG ((3, 13, 0), un40) := ug_of _ uk40 (List.forall_mem_cons.mpr ⟨ug39, fun _ h => absurd h List.not_mem_nil⟩)
set_option maxRecDepth 100000 in
noncomputable def un41 : UN := ([(0, 1, (Int.ofNat 0, [])), (0, 2, (Int.ofNat 0, [])), (0, 3, (Int.ofNat 0, [])), (0, 4, (Int.ofNat 0, []))], ([(Int.ofNat 0, Int.ofNat 6), (Int.negSucc 2147483647, Int.ofNat 2147483647), (Int.negSucc 2147483647, Int.ofNat 2147483647), (Int.ofNat 0, Int.ofNat 7)], [], [], [], [], [], [], [(0, (2, (Int.ofNat 54, []))), (1, (0, (Int.ofNat 0, [(0, Int.ofNat 1)]))), (2, (0, (Int.ofNat 0, [(1, Int.ofNat 1)]))), (3, (0, (Int.ofNat 0, [(2, Int.ofNat 1)]))), (4, (0, (Int.ofNat 0, [(3, Int.ofNat 1)])))], []), [(1, 117, [], ([], [], [], [], [], [], [], [], []))], [(56, Int.ofNat 0, Int.ofNat 48)], (Int.ofNat 0, [(3, Int.ofNat 1)]), [114, 0])
set_option maxRecDepth 100000 in
theorem uk41 : uck tbq tuq [((3, 13, 0), un40), ((3, 16, 100052), un38)] sbs mth mqq 100000 3 16 100040 un41 = true := by decide +kernel
theorem ug41 : UG ((3, 16, 100040), un41) := ug_of _ uk41 (List.forall_mem_cons.mpr ⟨ug40, List.forall_mem_cons.mpr ⟨ug38, fun _ h => absurd h List.not_mem_nil⟩⟩)
set_option maxRecDepth 100000 in
noncomputable def un42 : UN := ([(0, 1, (Int.ofNat 0, []))], ([(Int.ofNat 0, Int.ofNat 6)], [], [], [], [], [], [], [(0, (2, (Int.ofNat 54, []))), (1, (0, (Int.ofNat 0, [(0, Int.ofNat 1)])))], []), [(0, 117, [], ([], [], [], [], [], [], [], [], []))], [(56, Int.ofNat 0, Int.ofNat 48)], (Int.ofNat 0, []), [])
set_option maxRecDepth 100000 in
theorem uk42 : uck tbq tuq [((3, 16, 100040), un41), ((3, 16, 100009), un37)] sbs mth mqq 100000 3 16 0 un42 = true := by decide +kernel
theorem ug42 : UG ((3, 16, 0), un42) := ug_of _ uk42 (List.forall_mem_cons.mpr ⟨ug41, List.forall_mem_cons.mpr ⟨ug37, fun _ h => absurd h List.not_mem_nil⟩⟩)
set_option maxRecDepth 100000 in
noncomputable def un43 : UN := ([(0, 1, (Int.ofNat 0, []))], ([(Int.ofNat 0, Int.ofNat 7)], [], [], [], [], [], [], [(0, (2, (Int.ofNat 54, []))), (1, (0, (Int.ofNat 0, [(0, Int.ofNat 1)])))], []), [(1, 21, [], ([], [], [], [], [], [], [], [(0, (2, (Int.ofNat 54, [])))], []))], [(56, Int.ofNat 0, Int.ofNat 48)], (Int.ofNat 0, [(0, Int.ofNat 1)]), [18])
set_option maxRecDepth 100000 in
theorem uk43 : uck tbq tuq [((3, 16, 0), un42)] sbs mth mqq 100000 3 15 100002 un43 = true := by decide +kernel
theorem ug43 : UG ((3, 15, 100002), un43) := ug_of _ uk43 (List.forall_mem_cons.mpr ⟨ug42, fun _ h => absurd h List.not_mem_nil⟩)
set_option maxRecDepth 100000 in
noncomputable def un44 : UN := ([(0, 1, (Int.ofNat 0, [])), (0, 2, (Int.ofNat 0, [])), (0, 3, (Int.ofNat 0, [])), (0, 4, (Int.ofNat 0, []))], ([(Int.ofNat 0, Int.ofNat 6), (Int.ofNat 0, Int.ofNat 6), (Int.negSucc 2147483647, Int.ofNat 2147483647), (Int.ofNat 0, Int.ofNat 7)], [], [], [], [], [], [], [(0, (2, (Int.ofNat 54, []))), (1, (0, (Int.ofNat 0, [(0, Int.ofNat 1)]))), (2, (0, (Int.ofNat 0, [(1, Int.ofNat 1)]))), (3, (0, (Int.ofNat 0, [(2, Int.ofNat 1)]))), (4, (0, (Int.ofNat 0, [(3, Int.ofNat 1)])))], []), [(1, 66, [], ([], [], [], [], [], [], [], [(1, (0, (Int.ofNat 0, [(0, Int.ofNat 1)])))], [])), (0, 59, [(3, 0, (Int.ofNat 0, []))], ([(Int.ofNat 0, Int.ofNat 6)], [], [], [], [], [], [], [], [(0, (Int.ofNat 0, [(4, Int.ofNat 1)]))]))], [], (Int.ofNat 0, [(3, Int.ofNat 1)]), [63, 0, 1, 2])
set_option maxRecDepth 100000 in
theorem uk44 : uck tbq tuq [] sbs mth mqq 100000 3 17 100010 un44 = true := by decide +kernel
theorem ug44 : UG ((3, 17, 100010), un44) := ug_of _ uk44 (fun _ h => absurd h List.not_mem_nil)
set_option maxRecDepth 100000 in
noncomputable def un45 : UN := ([(0, 1, (Int.ofNat 0, [])), (0, 2, (Int.ofNat 0, []))], ([(Int.ofNat 0, Int.ofNat 6), (Int.ofNat 0, Int.ofNat 6)], [], [], [], [], [], [], [(0, (2, (Int.ofNat 54, []))), (1, (0, (Int.ofNat 0, [(0, Int.ofNat 1)]))), (2, (0, (Int.ofNat 0, [(1, Int.ofNat 1)])))], []), [(0, 59, [(3, 0, (Int.ofNat 0, []))], ([(Int.ofNat 0, Int.ofNat 6)], [], [], [], [], [], [], [], [(0, (Int.ofNat 0, [(2, Int.ofNat 1)]))]))], [], (Int.ofNat 0, []), [])
set_option maxRecDepth 100000 in
theorem uk45 : uck tbq tuq [((3, 17, 100010), un44)] sbs mth mqq 100000 3 17 0 un45 = true := by decide +kernel
theorem ug45 : UG ((3, 17, 0), un45) := ug_of _ uk45 (List.forall_mem_cons.mpr ⟨ug44, fun _ h => absurd h List.not_mem_nil⟩)
set_option maxRecDepth 100000 in
noncomputable def un46 : UN := ([(0, 1, (Int.ofNat 0, [])), (0, 2, (Int.ofNat 0, []))], ([(Int.ofNat 0, Int.ofNat 6), (Int.ofNat 0, Int.ofNat 7)], [], [], [], [], [], [], [(0, (2, (Int.ofNat 54, []))), (1, (0, (Int.ofNat 0, [(0, Int.ofNat 1)]))), (2, (0, (Int.ofNat 0, [(1, Int.ofNat 1)])))], []), [(1, 64, [], ([], [], [], [], [], [], [], [(0, (2, (Int.ofNat 54, []))), (1, (0, (Int.ofNat 0, [(0, Int.ofNat 1)])))], []))], [(57, Int.ofNat 0, Int.ofNat 48)], (Int.ofNat 0, [(1, Int.ofNat 1)]), [61, 0])
set_option maxRecDepth 100000 in
theorem uk46 : uck tbq tuq [((3, 17, 0), un45)] sbs mth mqq 100000 3 15 100033 un46 = true := by decide +kernel
theorem ug46 : UG ((3, 15, 100033), un46) := ug_of _ uk46 (List.forall_mem_cons.mpr ⟨ug45, fun _ h => absurd h List.not_mem_nil⟩)
set_option maxRecDepth 100000 in
noncomputable def un47 : UN := ([(0, 1, (Int.ofNat 0, []))], ([(Int.ofNat 0, Int.ofNat 7)], [], [], [], [], [], [], [(0, (2, (Int.ofNat 54, []))), (1, (0, (Int.ofNat 0, [(0, Int.ofNat 1)])))], []), [(1, 70, [], ([], [], [], [], [], [], [], [], []))], [(57, Int.ofNat 0, Int.ofNat 48)], (Int.ofNat 0, [(0, Int.ofNat 1)]), [67])
set_option maxRecDepth 100000 in
theorem uk47 : uck tbq tuq [((3, 15, 100033), un46)] sbs mth mqq 100000 3 15 100023 un47 = true := by decide +kernel
theorem ug47 : UG ((3, 15, 100023), un47) := ug_of _ uk47 (List.forall_mem_cons.mpr ⟨ug46, fun _ h => absurd h List.not_mem_nil⟩)
set_option maxRecDepth 100000 in
noncomputable def un48 : UN := ([], ([], [], [], [], [], [], [], [(0, (2, (Int.ofNat 54, [])))], []), [(0, 70, [], ([], [], [], [], [], [], [], [], []))], [(56, Int.ofNat 0, Int.ofNat 48), (57, Int.ofNat 0, Int.ofNat 48)], (Int.ofNat 0, []), [])
set_option maxRecDepth 100000 in
theorem uk48 : uck tbq tuq [((3, 15, 100023), un47), ((3, 15, 100002), un43)] sbs mth mqq 100000 3 15 0 un48 = true := by decide +kernel
theorem ug48 : UG ((3, 15, 0), un48) := ug_of _ uk48 (List.forall_mem_cons.mpr ⟨ug47, List.forall_mem_cons.mpr ⟨ug43, fun _ h => absurd h List.not_mem_nil⟩⟩)
set_option maxRecDepth 100000 in
noncomputable def un49 : UN := ([(0, 1, (Int.ofNat 0, [])), (0, 2, (Int.ofNat 0, []))], ([(Int.ofNat 0, Int.ofNat 7), (Int.ofNat 0, Int.ofNat 7)], [], [], [], [], [], [], [(0, (2, (Int.ofNat 53, []))), (1, (0, (Int.ofNat 0, [(0, Int.ofNat 1)]))), (2, (0, (Int.ofNat 0, [(1, Int.ofNat 1)])))], []), [(0, 33, [], ([], [], [], [], [], [], [], [], [(0, (Int.ofNat 1, []))])), (0, 21, [], ([], [], [], [], [], [], [], [], [(0, (Int.ofNat 0, []))]))], [(60, Int.ofNat 0, Int.ofNat 63), (61, Int.ofNat 0, Int.ofNat 7)], (Int.ofNat 0, []), [])
set_option maxRecDepth 100000 in
theorem uk49 : uck tbq tuq [] sbs mth mqq 100000 1 11 0 un49 = true := by decide +kernel
theorem ug49 : UG ((1, 11, 0), un49) := ug_of _ uk49 (fun _ h => absurd h List.not_mem_nil)
set_option maxRecDepth 100000 in
noncomputable def un50 : UN := ([(0, 1, (Int.ofNat 0, [])), (0, 2, (Int.ofNat 0, [])), (0, 3, (Int.ofNat 0, [])), (0, 4, (Int.ofNat 0, []))], ([(Int.ofNat 0, Int.ofNat 7), (Int.ofNat 0, Int.ofNat 7), (Int.ofNat 0, Int.ofNat 255), (Int.ofNat 0, Int.ofNat 3)], [], [], [], [], [], [], [(0, (2, (Int.ofNat 53, []))), (1, (0, (Int.ofNat 0, [(0, Int.ofNat 1)]))), (2, (0, (Int.ofNat 0, [(1, Int.ofNat 1)]))), (3, (0, (Int.ofNat 0, [(2, Int.ofNat 1)]))), (4, (0, (Int.ofNat 0, [(3, Int.ofNat 1)])))], []), [(1, 60, [(0, 3, (Int.ofNat 0, []))], ([(Int.ofNat 0, Int.ofNat 255)], [], [], [], [], [], [], [(3, (0, (Int.ofNat 0, [(4, Int.ofNat 1)])))], []))], [], (Int.ofNat 0, [(3, Int.ofNat 1)]), [57, 0, 1])
set_option maxRecDepth 100000 in
theorem uk50 : uck tbq tuq [] sbs mth mqq 100000 1 7 100005 un50 = true := by decide +kernel
theorem ug50 : UG ((1, 7, 100005), un50) := ug_of _ uk50 (fun _ h => absurd h List.not_mem_nil)
set_option maxRecDepth 100000 in
noncomputable def un51 : UN := ([(0, 1, (Int.ofNat 0, [])), (0, 2, (Int.ofNat 0, []))], ([(Int.ofNat 0, Int.ofNat 7), (Int.ofNat 0, Int.ofNat 7)], [], [], [], [], [], [], [(0, (2, (Int.ofNat 53, []))), (1, (0, (Int.ofNat 0, [(0, Int.ofNat 1)]))), (2, (0, (Int.ofNat 0, [(1, Int.ofNat 1)])))], []), [(0, 61, [(3, 0, (Int.ofNat 0, []))], ([(Int.ofNat 0, Int.ofNat 255)], [], [], [], [], [], [], [], [(0, (Int.ofNat 0, [(2, Int.ofNat 1)]))]))], [], (Int.ofNat 0, []), [])
set_option maxRecDepth 100000 in
theorem uk51 : uck tbq tuq [((1, 7, 100005), un50)] sbs mth mqq 100000 1 7 0 un51 = true := by decide +kernel
theorem ug51 : UG ((1, 7, 0), un51) := ug_of _ uk51 (List.forall_mem_cons.mpr ⟨ug50, fun _ h => absurd h List.not_mem_nil⟩)
set_option maxRecDepth 100000 in
noncomputable def un52 : UN := ([(0, 2, (Int.ofNat 0, [])), (0, 3, (Int.ofNat 0, [])), (0, 4, (Int.ofNat 0, [])), (0, 5, (Int.ofNat 0, [])), (0, 6, (Int.ofNat 0, [])), (0, 7, (Int.ofNat 0, []))], ([(Int.ofNat 0, Int.ofNat 7), (Int.ofNat 0, Int.ofNat 7), (Int.ofNat 0, Int.ofNat 255), (Int.negSucc 2147483647, Int.ofNat 2147483647), (Int.negSucc 2147483647, Int.ofNat 2147483647), (Int.ofNat 0, Int.ofNat 3)], [], [], [], [], [], [], [(0, (2, (Int.ofNat 53, []))), (2, (0, (Int.ofNat 0, [(0, Int.ofNat 1)]))), (3, (0, (Int.ofNat 0, [(1, Int.ofNat 1)]))), (4, (0, (Int.ofNat 0, [(2, Int.ofNat 1)]))), (5, (0, (Int.ofNat 0, [(3, Int.ofNat 1)]))), (6, (0, (Int.ofNat 0, [(4, Int.ofNat 1)]))), (7, (0, (Int.ofNat 0, [(5, Int.ofNat 1)])))], []), [(1, 85, [], ([], [], [], [], [], [], [], [], [])), (0, 78, [(3, 0, (Int.ofNat 0, []))], ([(Int.negSucc 2147483647, Int.ofNat 2147483647)], [], [], [], [], [], [], [], [(0, (Int.ofNat 0, [(6, Int.ofNat 1)]))]))], [], (Int.ofNat 0, [(5, Int.ofNat 1)]), [82, 0, 1, 2, 3, 4])
set_option maxRecDepth 100000 in
theorem uk52 : uck tbq tuq [] sbs mth mqq 100000 1 8 100020 un52 = true := by decide +kernel
theorem ug52 : UG ((1, 8, 100020), un52) := ug_of _ uk52 (fun _ h => absurd h List.not_mem_nil)
set_option maxRecDepth 100000 in
noncomputable def un53 : UN := ([(0, 1, (Int.ofNat 0, [])), (0, 2, (Int.ofNat 0, [])), (0, 3, (Int.ofNat 0, [])), (0, 4, (Int.ofNat 0, []))], ([(Int.ofNat 0, Int.ofNat 7), (Int.ofNat 0, Int.ofNat 7), (Int.ofNat 0, Int.ofNat 7), (Int.ofNat 0, Int.ofNat 255)], [], [], [], [], [], [], [(0, (2, (Int.ofNat 53, []))), (1, (0, (Int.ofNat 0, [(0, Int.ofNat 1)]))), (2, (0, (Int.ofNat 0, [(1, Int.ofNat 1)]))), (3, (0, (Int.ofNat 0, [(2, Int.ofNat 1)]))), (4, (0, (Int.ofNat 0, [(3, Int.ofNat 1)])))], []), [(0, 78, [(3, 0, (Int.ofNat 0, []))], ([(Int.negSucc 2147483647, Int.ofNat 2147483647)], [], [], [], [], [], [], [], [(0, (Int.ofNat 0, [(4, Int.ofNat 1)]))])), (0, 86, [], ([], [], [], [], [], [], [], [], [(0, (Int.ofNat 0, []))]))], [], (Int.ofNat 0, []), [])
set_option maxRecDepth 100000 in
theorem uk53 : uck tbq tuq [((1, 8, 100020), un52)] sbs mth mqq 100000 1 8 0 un53 = true := by decide +kernel
theorem ug53 : UG ((1, 8, 0), un53) := ug_of _ uk53 (List.forall_mem_cons.mpr ⟨ug52, fun _ h => absurd h List.not_mem_nil⟩)
set_option maxRecDepth 100000 in
noncomputable def un54 : UN := ([(0, 1, (Int.ofNat 0, [])), (0, 2, (Int.ofNat 0, [])), (0, 3, (Int.ofNat 0, [])), (0, 4, (Int.ofNat 0, []))], ([(Int.ofNat 0, Int.ofNat 7), (Int.ofNat 0, Int.ofNat 7), (Int.ofNat 0, Int.ofNat 255), (Int.ofNat 0, Int.ofNat 8)], [], [], [], [], [], [], [(0, (2, (Int.ofNat 53, []))), (1, (0, (Int.ofNat 0, [(0, Int.ofNat 1)]))), (2, (0, (Int.ofNat 0, [(1, Int.ofNat 1)]))), (3, (0, (Int.ofNat 0, [(2, Int.ofNat 1)]))), (4, (0, (Int.ofNat 0, [(3, Int.ofNat 1)])))], []), [(1, 53, [], ([], [], [], [], [], [], [], [(0, (2, (Int.ofNat 53, []))), (1, (0, (Int.ofNat 0, [(0, Int.ofNat 1)]))), (2, (0, (Int.ofNat 0, [(1, Int.ofNat 1)])))], []))], [(60, Int.ofNat 0, Int.ofNat 63), (61, Int.ofNat 0, Int.ofNat 7)], (Int.ofNat 0, [(3, Int.ofNat 1)]), [50, 0, 1, 2])
set_option maxRecDepth 100000 in
theorem uk54 : uck tbq tuq [((1, 8, 0), un53)] sbs mth mqq 100000 1 10 100010 un54 = true := by decide +kernel
theorem ug54 : UG ((1, 10, 100010), un54) := ug_of _ uk54 (List.forall_mem_cons.mpr ⟨ug53, fun _ h => absurd h List.not_mem_nil⟩)
set_option maxRecDepth 100000 in
noncomputable def un55 : UN := ([(0, 1, (Int.ofNat 0, [])), (0, 2, (Int.ofNat 0, []))], ([(Int.ofNat 0, Int.ofNat 7), (Int.ofNat 0, Int.ofNat 7)], [], [], [], [], [], [], [(0, (2, (Int.ofNat 53, []))), (1, (0, (Int.ofNat 0, [(0, Int.ofNat 1)]))), (2, (0, (Int.ofNat 0, [(1, Int.ofNat 1)])))], []), [(0, 63, [], ([], [], [], [], [], [], [], [], []))], [(60, Int.ofNat 0, Int.ofNat 63), (61, Int.ofNat 0, Int.ofNat 7)], (Int.ofNat 0, []), [])
set_option maxRecDepth 100000 in
theorem uk55 : uck tbq tuq [((1, 10, 100010), un54), ((1, 7, 0), un51)] sbs mth mqq 100000 1 10 0 un55 = true := by decide +kernel
theorem ug55 : UG ((1, 10, 0), un55) := ug_of _ uk55 (List.forall_mem_cons.mpr ⟨ug54, List.forall_mem_cons.mpr ⟨ug51, fun _ h => absurd h List.not_mem_nil⟩⟩)
set_option maxRecDepth 100000 in
noncomputable def un56 : UN := ([(0, 1, (Int.ofNat 0, [])), (0, 2, (Int.ofNat 0, []))], ([(Int.ofNat 0, Int.ofNat 7), (Int.ofNat 0, Int.ofNat 8)], [], [], [], [], [], [], [(0, (2, (Int.ofNat 53, []))), (1, (0, (Int.ofNat 0, [(0, Int.ofNat 1)]))), (2, (0, (Int.ofNat 0, [(1, Int.ofNat 1)])))], []), [(1, 64, [], ([], [], [], [], [], [], [], [], []))], [(60, Int.ofNat 0, Int.ofNat 63), (61, Int.ofNat 0, Int.ofNat 7)], (Int.ofNat 0, [(1, Int.ofNat 1)]), [61, 0])
set_option maxRecDepth 100000 in
theorem uk56 : uck tbq tuq [((1, 10, 0), un55)] sbs mth mqq 100000 1 9 100032 un56 = true := by decide +kernel
theorem ug56 : UG ((1, 9, 100032), un56) := ug_of _ uk56 (List.forall_mem_cons.mpr ⟨ug55, fun _ h => absurd h List.not_mem_nil⟩)
set_option maxRecDepth 100000 in
noncomputable def un57 : UN := ([(0, 1, (Int.ofNat 0, [])), (0, 2, (Int.ofNat 0, [])), (0, 3, (Int.ofNat 0, [])), (0, 4, (Int.ofNat 0, []))], ([(Int.ofNat 0, Int.ofNat 7), (Int.negSucc 0, Int.ofNat 7), (Int.negSucc 2147483647, Int.ofNat 7), (Int.ofNat 0, Int.ofNat 8)], [], [], [], [], [], [], [(0, (2, (Int.ofNat 53, []))), (1, (0, (Int.ofNat 0, [(0, Int.ofNat 1)]))), (2, (0, (Int.ofNat 0, [(1, Int.ofNat 1)]))), (3, (0, (Int.ofNat 0, [(2, Int.ofNat 1)]))), (4, (0, (Int.ofNat 0, [(3, Int.ofNat 1)])))], []), [(1, 76, [(0, 2, (Int.ofNat 0, []))], ([(Int.negSucc 0, Int.ofNat 7)], [], [], [], [], [], [], [(2, (0, (Int.ofNat 0, [(4, Int.ofNat 1)])))], []))], [], (Int.ofNat 0, [(3, Int.ofNat 1)]), [73, 0])
set_option maxRecDepth 100000 in
theorem uk57 : uck tbq tuq [] sbs mth mqq 100000 1 2 100008 un57 = true := by decide +kernel
theorem ug57 : UG ((1, 2, 100008), un57) := ug_of _ uk57 (fun _ h => absurd h List.not_mem_nil)
set_option maxRecDepth 100000 in
noncomputable def un58 : UN := ([(0, 1, (Int.ofNat 0, []))], ([(Int.ofNat 0, Int.ofNat 7)], [], [], [], [], [], [], [(0, (2, (Int.ofNat 53, []))), (1, (0, (Int.ofNat 0, [(0, Int.ofNat 1)])))], []), [(0, 77, [(3, 0, (Int.ofNat 0, []))], ([(Int.negSucc 0, Int.ofNat 7)], [], [], [], [], [], [], [], [(0, (Int.ofNat 0, [(1, Int.ofNat 1)]))]))], [], (Int.ofNat 0, []), [])
set_option maxRecDepth 100000 in
theorem uk58 : uck tbq tuq [((1, 2, 100008), un57)] sbs mth mqq 100000 1 2 0 un58 = true := by decide +kernel
theorem ug58 : UG ((1, 2, 0), un58) := ug_of _ uk58 (List.forall_mem_cons.mpr ⟨ug57, fun _ h => absurd h List.not_mem_nil⟩)
set_option maxRecDepth 100000 in
noncomputable def un59 : UN := ([(0, 1, (Int.ofNat 0, [])), (0, 2, (Int.ofNat 0, []))], ([(Int.ofNat 0, Int.ofNat 7), (Int.ofNat 0, Int.ofNat 7)], [], [], [], [], [], [], [(0, (2, (Int.ofNat 53, []))), (1, (0, (Int.ofNat 0, [(0, Int.ofNat 1)]))), (2, (0, (Int.ofNat 0, [(1, Int.ofNat 1)])))], []), [(0, 166, [], ([], [], [], [], [], [], [], [], []))], [(53, Int.ofNat 13, Int.ofNat 13), (60, Int.ofNat 0, Int.ofNat 63), (61, Int.ofNat 0, Int.ofNat 7), (68, Int.ofNat 0, Int.ofNat 6)], (Int.ofNat 0, []), [])
set_option maxRecDepth 100000 in
theorem uk59 : uck tbq tuq [] sbs mth mqq 100000 1 6 0 un59 = true := by decide +kernel
theorem ug59 : UG ((1, 6, 0), un59) := ug_of _ uk59 (fun _ h => absurd h List.not_mem_nil)
set_option maxRecDepth 100000 in
noncomputable def un60 : UN := ([(0, 1, (Int.ofNat 0, [])), (0, 2, (Int.ofNat 0, [])), (0, 3, (Int.ofNat 0, []))], ([(Int.ofNat 1, Int.ofNat 2147483647), (Int.ofNat 0, Int.ofNat 2147483646), (Int.ofNat 0, Int.ofNat 8)], [], [], [], [], [], [], [(0, (2, (Int.ofNat 53, []))), (1, (0, (Int.ofNat 0, [(0, Int.ofNat 1)]))), (2, (0, (Int.ofNat 0, [(1, Int.ofNat 1)]))), (3, (0, (Int.ofNat 0, [(2, Int.ofNat 1)])))], []), [(1, 46, [], ([], [], [], [], [], [], [], [(0, (2, (Int.ofNat 53, []))), (1, (0, (Int.ofNat 0, [(0, Int.ofNat 1)]))), (2, (0, (Int.ofNat 0, [(1, Int.ofNat 1)])))], []))], [(53, Int.ofNat 13, Int.ofNat 13), (60, Int.ofNat 0, Int.ofNat 63), (61, Int.ofNat 0, Int.ofNat 7), (64, Int.ofNat 0, Int.ofNat 7), (68, Int.ofNat 0, Int.ofNat 6)], (Int.ofNat 0, [(2, Int.ofNat 1)]), [43, 0, 1])
set_option maxRecDepth 100000 in
theorem uk60 : uck tbq tuq [((1, 6, 0), un59), ((1, 2, 0), un58)] sbs mth mqq 100000 1 4 100019 un60 = true := by decide +kernel
theorem ug60 : UG ((1, 4, 100019), un60) := ug_of _ uk60 (List.forall_mem_cons.mpr ⟨ug59, List.forall_mem_cons.mpr ⟨ug58, fun _ h => absurd h List.not_mem_nil⟩⟩)
set_option maxRecDepth 100000 in
noncomputable def un61 : UN := ([(0, 1, (Int.ofNat 0, [])), (0, 2, (Int.ofNat 0, []))], ([(Int.negSucc 2147483647, Int.ofNat 2147483647), (Int.ofNat 0, Int.ofNat 2147483647)], [], [], [], [], [], [], [(0, (2, (Int.ofNat 53, []))), (1, (0, (Int.ofNat 0, [(0, Int.ofNat 1)]))), (2, (0, (Int.ofNat 0, [(1, Int.ofNat 1)])))], []), [(1, 52, [], ([], [], [], [], [], [], [], [], []))], [(53, Int.ofNat 12, Int.ofNat 12), (53, Int.ofNat 13, Int.ofNat 13), (60, Int.ofNat 0, Int.ofNat 63), (61, Int.ofNat 0, Int.ofNat 7), (64, Int.ofNat 0, Int.ofNat 7), (68, Int.ofNat 0, Int.ofNat 6)], (Int.ofNat 0, [(1, Int.ofNat 1)]), [49, 0])
set_option maxRecDepth 100000 in
theorem uk61 : uck tbq tuq [((1, 4, 100019), un60)] sbs mth mqq 100000 1 4 100002 un61 = true := by decide +kernel
theorem ug61 : UG ((1, 4, 100002), un61) := ug_of _ uk61 (List.forall_mem_cons.mpr ⟨ug60, fun _ h => absurd h List.not_mem_nil⟩)
set_option maxRecDepth 100000 in
noncomputable def un62 : UN := ([(0, 1, (Int.ofNat 0, []))], ([(Int.negSucc 2147483647, Int.ofNat 2147483647)], [], [], [], [], [], [], [(0, (2, (Int.ofNat 53, []))), (1, (0, (Int.ofNat 0, [(0, Int.ofNat 1)])))], []), [(0, 52, [], ([], [], [], [], [], [], [], [], []))], [(53, Int.ofNat 12, Int.ofNat 12), (53, Int.ofNat 13, Int.ofNat 13), (60, Int.ofNat 0, Int.ofNat 63), (61, Int.ofNat 0, Int.ofNat 7), (64, Int.ofNat 0, Int.ofNat 7), (68, Int.ofNat 0, Int.ofNat 6)], (Int.ofNat 0, []), [])
set_option maxRecDepth 100000 in
theorem uk62 : uck tbq tuq [((1, 4, 100002), un61)] sbs mth mqq 100000 1 4 0 un62 = true := by decide +kernel
theorem ug62 : UG ((1, 4, 0), un62) := ug_of _ uk62 (List.forall_mem_cons.mpr ⟨ug61, fun _ h => absurd h List.not_mem_nil⟩)
set_option maxRecDepth 100000 in
noncomputable def un63 : UN := ([(0, 3, (Int.ofNat 0, [])), (0, 4, (Int.ofNat 0, []))], ([(Int.negSucc 2147483647, Int.ofNat 2147483647), (Int.ofNat 0, Int.ofNat 8)], [], [], [], [], [], [], [(1, (2, (Int.ofNat 53, []))), (3, (0, (Int.ofNat 0, [(0, Int.ofNat 1)]))), (4, (0, (Int.ofNat 0, [(1, Int.ofNat 1)])))], []), [(1, 86, [], ([], [], [], [], [], [], [], [], [])), (0, 76, [(3, 0, (Int.ofNat 0, []))], ([(Int.ofNat 0, Int.ofNat 7)], [], [], [], [], [], [], [], [(0, (Int.ofNat 0, [(2, Int.ofNat 1)]))]))], [], (Int.ofNat 0, [(1, Int.ofNat 1)]), [83])
set_option maxRecDepth 100000 in
theorem uk63 : uck tbq tuq [] sbs mth mqq 100000 2 12 100052 un63 = true := by decide +kernel
theorem ug63 : UG ((2, 12, 100052), un63) := ug_of _ uk63 (fun _ h => absurd h List.not_mem_nil)
set_option maxRecDepth 100000 in
noncomputable def un64 : UN := ([], ([], [], [], [], [], [], [], [(0, (2, (Int.ofNat 91, []))), (1, (2, (Int.ofNat 53, [])))], []), [(0, 76, [(3, 0, (Int.ofNat 0, []))], ([(Int.ofNat 0, Int.ofNat 7)], [], [], [], [], [], [], [], [(0, (Int.ofNat 0, [(0, Int.ofNat 1)]))])), (0, 87, [], ([], [], [], [], [], [], [], [], [(0, (Int.negSucc 0, []))]))], [(91, Int.ofNat 7, Int.ofNat 7)], (Int.ofNat 0, []), [])
set_option maxRecDepth 100000 in
theorem uk64 : uck tbq tuq [((2, 12, 100052), un63)] sbs mth mqq 100000 2 12 0 un64 = true := by decide +kernel
theorem ug64 : UG ((2, 12, 0), un64) := ug_of _ uk64 (List.forall_mem_cons.mpr ⟨ug63, fun _ h => absurd h List.not_mem_nil⟩)
set_option maxRecDepth 100000 in
noncomputable def un65 : UN := ([(0, 1, (Int.ofNat 0, []))], ([(Int.negSucc 0, Int.ofNat 7)], [], [], [], [], [], [], [(0, (2, (Int.ofNat 53, []))), (1, (0, (Int.ofNat 0, [(0, Int.ofNat 1)])))], []), [(0, 17, [], ([], [], [], [], [], [], [], [], [(0, (Int.ofNat 0, []))])), (0, 65, [], ([], [], [], [], [], [], [], [], [(0, (Int.ofNat 1, []))]))], [(53, Int.ofNat 7, Int.ofNat 7), (60, Int.ofNat 0, Int.ofNat 63), (61, Int.ofNat 0, Int.ofNat 7)], (Int.ofNat 0, []), [])
set_option maxRecDepth 100000 in
theorem uk65 : uck tbq tuq [((1, 9, 100032), un56)] sbs mth mqq 100000 1 9 0 un65 = true := by decide +kernel
theorem ug65 : UG ((1, 9, 0), un65) := ug_of _ uk65 (List.forall_mem_cons.mpr ⟨ug56, fun _ h => absurd h List.not_mem_nil⟩)
set_option maxRecDepth 100000 in
noncomputable def un66 : UN := ([(0, 4, (Int.ofNat 0, [])), (0, 5, (Int.ofNat 0, [])), (1, 21, (Int.ofNat 2, []))], ([(Int.ofNat 0, Int.ofNat 60), (Int.ofNat 0, Int.ofNat 1000000), (Int.ofNat 0, Int.ofNat 60)], [], [], [(21, (Int.ofNat 2, []), (Int.ofNat 0, [(2, Int.ofNat 1)]))], [(0, (Int.ofNat 0, [(2, Int.ofNat 1)]))], [], [], [(0, (2, (Int.ofNat 91, []))), (1, (2, (Int.ofNat 21, []))), (2, (2, (Int.ofNat 53, []))), (4, (0, (Int.ofNat 0, [(0, Int.ofNat 1)]))), (5, (0, (Int.ofNat 0, [(1, Int.ofNat 1)])))], []), [(1, 105, [], ([], [], [], [], [], [], [], [(0, (2, (Int.ofNat 91, []))), (2, (2, (Int.ofNat 53, [])))], []))], [(53, Int.ofNat 7, Int.ofNat 7), (53, Int.ofNat 12, Int.ofNat 12), (53, Int.ofNat 13, Int.ofNat 13), (54, Int.ofNat 1, Int.ofNat 1), (56, Int.ofNat 0, Int.ofNat 48), (57, Int.ofNat 0, Int.ofNat 48), (60, Int.ofNat 0, Int.ofNat 63), (61, Int.ofNat 0, Int.ofNat 7), (64, Int.ofNat 0, Int.ofNat 7), (68, Int.ofNat 0, Int.ofNat 6), (91, Int.ofNat 1, Int.ofNat 1), (91, Int.ofNat 2, Int.ofNat 2), (91, Int.ofNat 6, Int.ofNat 6), (91, Int.ofNat 7, Int.ofNat 7), (92, Int.ofNat 0, Int.ofNat 59)], (Int.ofNat 0, [(1, Int.ofNat 1)]), [102, 2])
set_option maxRecDepth 100000 in
theorem uk66 : uck tbq tuq [((1, 9, 0), un65), ((2, 12, 0), un64), ((1, 4, 0), un62), ((1, 11, 0), un49), ((3, 15, 0), un48), ((1, 13, 0), un36)] sbs mth mqq 100000 2 6 100012 un66 = true := by decide +kernel
theorem ug66 : UG ((2, 6, 100012), un66) := ug_of _ uk66 (List.forall_mem_cons.mpr ⟨ug65, List.forall_mem_cons.mpr ⟨ug64, List.forall_mem_cons.mpr ⟨ug62, List.forall_mem_cons.mpr ⟨ug49, List.forall_mem_cons.mpr ⟨ug48, List.forall_mem_cons.mpr ⟨ug36, fun _ h => absurd h List.not_mem_nil⟩⟩⟩⟩⟩⟩)
set_option maxRecDepth 100000 in
noncomputable def un67 : UN := ([(0, 3, (Int.ofNat 0, [])), (1, 21, (Int.ofNat 2, []))], ([(Int.ofNat 0, Int.ofNat 10018), (Int.ofNat 0, Int.ofNat 60)], [], [], [(21, (Int.ofNat 2, []), (Int.ofNat 0, [(1, Int.ofNat 1)]))], [(0, (Int.ofNat 0, [(1, Int.ofNat 1)]))], [], [], [(0, (2, (Int.ofNat 91, []))), (1, (2, (Int.ofNat 21, []))), (2, (2, (Int.ofNat 53, []))), (3, (0, (Int.ofNat 0, [(0, Int.ofNat 1)])))], []), [(0, 147, [], ([], [], [], [], [], [], [], [], []))], [(53, Int.ofNat 7, Int.ofNat 7), (53, Int.ofNat 12, Int.ofNat 12), (53, Int.ofNat 13, Int.ofNat 13), (54, Int.ofNat 1, Int.ofNat 1), (56, Int.ofNat 0, Int.ofNat 48), (57, Int.ofNat 0, Int.ofNat 48), (60, Int.ofNat 0, Int.ofNat 63), (61, Int.ofNat 0, Int.ofNat 7), (64, Int.ofNat 0, Int.ofNat 7), (68, Int.ofNat 0, Int.ofNat 6), (91, Int.ofNat 0, Int.ofNat 0), (91, Int.ofNat 1, Int.ofNat 1), (91, Int.ofNat 2, Int.ofNat 2), (91, Int.ofNat 3, Int.ofNat 3), (91, Int.ofNat 4, Int.ofNat 4), (91, Int.ofNat 5, Int.ofNat 5), (91, Int.ofNat 6, Int.ofNat 6), (91, Int.ofNat 7, Int.ofNat 7), (92, Int.ofNat 0, Int.ofNat 59)], (Int.ofNat 0, []), [])
set_option maxRecDepth 100000 in
theorem uk67 : uck tbq tuq [((2, 6, 100012), un66)] sbs mth mqq 100000 2 6 0 un67 = true := by decide +kernel
theorem ug67 : UG ((2, 6, 0), un67) := ug_of _ uk67 (List.forall_mem_cons.mpr ⟨ug66, fun _ h => absurd h List.not_mem_nil⟩)
set_option maxRecDepth 100000 in
noncomputable def un68 : UN := ([(0, 1, (Int.ofNat 0, [])), (0, 2, (Int.ofNat 0, []))], ([(Int.negSucc 2147483647, Int.ofNat 2147483647), (Int.ofNat 0, Int.ofNat 8)], [], [], [], [], [], [], [(0, (2, (Int.ofNat 59, []))), (1, (0, (Int.ofNat 0, [(0, Int.ofNat 1)]))), (2, (0, (Int.ofNat 0, [(1, Int.ofNat 1)])))], []), [(1, 25, [(0, 1, (Int.ofNat 0, []))], ([(Int.negSucc 2147483647, Int.ofNat 2147483647)], [], [], [], [], [], [], [(1, (0, (Int.ofNat 0, [(2, Int.ofNat 1)])))], []))], [], (Int.ofNat 0, [(1, Int.ofNat 1)]), [22])
set_option maxRecDepth 100000 in
theorem uk68 : uck tbq tuq [] sbs mth mqq 100000 0 7 100004 un68 = true := by decide +kernel
theorem ug68 : UG ((0, 7, 100004), un68) := ug_of _ uk68 (fun _ h => absurd h List.not_mem_nil)
set_option maxRecDepth 100000 in
noncomputable def un69 : UN := ([], ([], [], [], [], [], [], [], [(0, (2, (Int.ofNat 59, [])))], []), [(0, 26, [(3, 0, (Int.ofNat 0, []))], ([(Int.negSucc 2147483647, Int.ofNat 2147483647)], [], [], [], [], [], [], [], [(0, (Int.ofNat 0, [(0, Int.ofNat 1)]))]))], [], (Int.ofNat 0, []), [])
set_option maxRecDepth 100000 in
theorem uk69 : uck tbq tuq [((0, 7, 100004), un68)] sbs mth mqq 100000 0 7 0 un69 = true := by decide +kernel
theorem ug69 : UG ((0, 7, 0), un69) := ug_of _ uk69 (List.forall_mem_cons.mpr ⟨ug68, fun _ h => absurd h List.not_mem_nil⟩)
