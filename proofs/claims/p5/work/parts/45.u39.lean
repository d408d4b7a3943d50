set_option maxRecDepth 100000 in
noncomputable def un525 : UN := ([(0, 3, (Int.ofNat 0, []))], ([(Int.ofNat 164, Int.ofNat 524)], [], [], [], [], [((170, (Int.ofNat 164, [])), (170, (Int.ofNat 2276, [])), (Int.negSucc 163, [(0, Int.ofNat 1)]))], [], [(0, (2, (Int.ofNat 169, []))), (3, (0, (Int.ofNat 0, [(0, Int.ofNat 1)])))], []), [(1, 131, [], ([], [], [], [], [], [((170, (Int.ofNat 164, [])), (170, (Int.ofNat 2276, [])), (Int.ofNat 360, []))], [], [(0, (2, (Int.ofNat 169, [])))], []))], [(170, Int.ofNat 164, Int.ofNat 523)], (Int.ofNat 0, [(0, Int.ofNat 1)]), [128])
set_option maxRecDepth 100000 in
theorem uk525 : uck tbq tuq [] sbs mth mqq 100000 13 16 100102 un525 = true := by decide +kernel
theorem ug525 : UG ((13, 16, 100102), un525) := ug_of _ uk525 (fun _ h => absurd h List.not_mem_nil)
set_option maxRecDepth 100000 in
noncomputable def un526 : UN := ([(0, 3, (Int.ofNat 0, [])), (1, 999, (Int.ofNat 0, [])), (1, 21, (Int.ofNat 2, [])), (1, 119, (Int.ofNat 2, [])), (1, 141, (Int.ofNat 2, [])), (1, 163, (Int.ofNat 2, [])), (1, 170, (Int.ofNat 4, [])), (1, 170, (Int.ofNat 532, [])), (1, 170, (Int.ofNat 1060, [])), (1, 170, (Int.ofNat 1588, []))], ([(Int.ofNat 0, Int.ofNat 3066), (Int.ofNat 6, Int.ofNat 3072), (Int.ofNat 0, Int.ofNat 60), (Int.ofNat 0, Int.ofNat 60), (Int.ofNat 0, Int.ofNat 60), (Int.ofNat 0, Int.ofNat 60), (Int.negSucc 0, Int.ofNat 60), (Int.negSucc 0, Int.ofNat 60), (Int.negSucc 0, Int.ofNat 60), (Int.negSucc 0, Int.ofNat 60)], [(Int.negSucc 5, [(0, Int.negSucc 0), (1, Int.ofNat 1)])], [], [(999, (Int.ofNat 0, []), (Int.ofNat 0, [(1, Int.ofNat 1)])), (21, (Int.ofNat 2, []), (Int.ofNat 0, [(2, Int.ofNat 1)])), (119, (Int.ofNat 2, []), (Int.ofNat 0, [(3, Int.ofNat 1)])), (141, (Int.ofNat 2, []), (Int.ofNat 0, [(4, Int.ofNat 1)])), (163, (Int.ofNat 2, []), (Int.ofNat 0, [(5, Int.ofNat 1)])), (170, (Int.ofNat 4, []), (Int.ofNat 0, [(6, Int.ofNat 1)])), (170, (Int.ofNat 532, []), (Int.ofNat 0, [(7, Int.ofNat 1)])), (170, (Int.ofNat 1060, []), (Int.ofNat 0, [(8, Int.ofNat 1)])), (170, (Int.ofNat 1588, []), (Int.ofNat 0, [(9, Int.ofNat 1)]))], [(0, (Int.ofNat 0, [(2, Int.ofNat 1)])), (2, (Int.ofNat 0, [(3, Int.ofNat 1)])), (3, (Int.ofNat 0, [(4, Int.ofNat 1)])), (4, (Int.ofNat 0, [(5, Int.ofNat 1)])), (5, (Int.ofNat 0, [(6, Int.ofNat 1)])), (6, (Int.ofNat 0, [(7, Int.ofNat 1)])), (7, (Int.ofNat 0, [(8, Int.ofNat 1)])), (8, (Int.ofNat 0, [(9, Int.ofNat 1)]))], [], [], [(0, (6, (Int.ofNat 0, []))), (1, (2, (Int.ofNat 0, []))), (2, (2, (Int.ofNat 169, []))), (3, (0, (Int.ofNat 0, [(0, Int.ofNat 1)])))], []), [(1, 2296, [(1, 21, (Int.ofNat 2, [])), (1, 170, (Int.ofNat 4, []))], ([(Int.ofNat 0, Int.ofNat 60), (Int.negSucc 0, Int.ofNat 60)], [], [], [(21, (Int.ofNat 2, []), (Int.ofNat 0, [(10, Int.ofNat 1)])), (170, (Int.ofNat 4, []), (Int.ofNat 0, [(11, Int.ofNat 1)]))], [(0, (Int.ofNat 0, [(10, Int.ofNat 1)])), (5, (Int.ofNat 0, [(11, Int.ofNat 1)]))], [], [], [(0, (6, (Int.ofNat 0, []))), (1, (2, (Int.ofNat 0, []))), (2, (2, (Int.ofNat 169, []))), (3, (0, (Int.ofNat 0, [(0, Int.ofNat 1)])))], []))], [(0, Int.ofNat 0, Int.ofNat 0), (2, Int.ofNat 1, Int.ofNat 1), (2, Int.ofNat 3, Int.ofNat 3), (2, Int.ofNat 4, Int.ofNat 4), (2, Int.ofNat 5, Int.ofNat 5), (2, Int.ofNat 6, Int.ofNat 6), (2, Int.ofNat 7, Int.ofNat 7), (2, Int.ofNat 8, Int.ofNat 8), (2, Int.ofNat 9, Int.ofNat 9), (2, Int.ofNat 10, Int.ofNat 10), (2, Int.ofNat 11, Int.ofNat 11), (21, Int.ofNat 0, Int.ofNat 0), (21, Int.ofNat 1, Int.ofNat 1), (21, Int.ofNat 2, Int.ofNat 2), (22, Int.ofNat 0, Int.ofNat 60), (23, Int.ofNat 0, Int.ofNat 60), (24, Int.ofNat 0, Int.ofNat 60), (25, Int.ofNat 0, Int.ofNat 60), (26, Int.ofNat 0, Int.ofNat 60), (43, Int.ofNat 0, Int.ofNat 0), (43, Int.ofNat 1, Int.ofNat 1), (43, Int.ofNat 2, Int.ofNat 2), (44, Int.ofNat 0, Int.ofNat 59), (45, Int.ofNat 0, Int.ofNat 59), (46, Int.ofNat 0, Int.ofNat 59), (47, Int.ofNat 0, Int.ofNat 59), (48, Int.ofNat 0, Int.ofNat 59), (50, Int.ofNat 4, Int.ofNat 4), (51, Int.ofNat 0, Int.ofNat 2), (169, Int.ofNat 2, Int.ofNat 2), (169, Int.ofNat 10, Int.ofNat 10), (169, Int.ofNat 11, Int.ofNat 11), (169, Int.ofNat 12, Int.ofNat 12), (169, Int.ofNat 13, Int.ofNat 13), (169, Int.ofNat 14, Int.ofNat 14), (169, Int.ofNat 15, Int.ofNat 15), (169, Int.ofNat 16, Int.ofNat 16), (169, Int.ofNat 17, Int.ofNat 17), (169, Int.ofNat 18, Int.ofNat 18), (169, Int.ofNat 19, Int.ofNat 19), (169, Int.ofNat 21, Int.ofNat 21), (169, Int.ofNat 22, Int.ofNat 22), (170, Int.ofNat 4, Int.ofNat 4), (170, Int.ofNat 164, Int.ofNat 523), (170, Int.ofNat 2116, Int.ofNat 2116), (170, Int.ofNat 2276, Int.ofNat 2641), (176, Int.ofNat 0, Int.ofNat 299), (177, Int.ofNat 0, Int.ofNat 2)], (Int.ofNat 0, []), [687, 0, 1, 2, 3, 4, 5, 6, 7, 8, 9])
set_option maxRecDepth 100000 in
theorem uk526 : uck tbq tuq [((13, 16, 100102), un525), ((13, 16, 100038), un524), ((12, 11, 0), un489), ((4, 19, 100022), un483), ((5, 15, 0), un478)] sbs mth mqq 100000 98 0 100665 un526 = true := by decide +kernel
theorem ug526 : UG ((98, 0, 100665), un526) := ug_of _ uk526 (List.forall_mem_cons.mpr ⟨ug525, List.forall_mem_cons.mpr ⟨ug524, List.forall_mem_cons.mpr ⟨ug489, List.forall_mem_cons.mpr ⟨ug483, List.forall_mem_cons.mpr ⟨ug478, fun _ h => absurd h List.not_mem_nil⟩⟩⟩⟩⟩)
set_option maxRecDepth 100000 in
noncomputable def un527 : UN := ([(0, 1, (Int.ofNat 0, [])), (0, 2, (Int.ofNat 0, [])), (0, 3, (Int.ofNat 0, []))], ([(Int.ofNat 0, Int.ofNat 0), (Int.ofNat 0, Int.ofNat 7), (Int.ofNat 7, Int.ofNat 7)], [], [], [], [], [], [], [(0, (2, (Int.ofNat 29, []))), (1, (0, (Int.ofNat 0, [(0, Int.ofNat 1)]))), (2, (0, (Int.ofNat 0, [(1, Int.ofNat 1)]))), (3, (0, (Int.ofNat 0, [(2, Int.ofNat 1)])))], []), [(1, 20, [], ([], [], [], [], [], [], [], [], []))], [(29, Int.ofNat 0, Int.ofNat 6)], (Int.ofNat 0, [(1, Int.ofNat 1)]), [17, 0, 2])
set_option maxRecDepth 100000 in
theorem uk527 : uck tbq tuq [] sbs mth mqq 100000 20 7 100005 un527 = true := by decide +kernel
theorem ug527 : UG ((20, 7, 100005), un527) := ug_of _ uk527 (fun _ h => absurd h List.not_mem_nil)
set_option maxRecDepth 100000 in
noncomputable def un528 : UN := ([(0, 1, (Int.ofNat 0, []))], ([(Int.ofNat 0, Int.ofNat 0)], [], [], [], [], [], [], [(0, (2, (Int.ofNat 29, []))), (1, (0, (Int.ofNat 0, [(0, Int.ofNat 1)])))], []), [(0, 20, [], ([], [], [], [], [], [], [], [], []))], [(29, Int.ofNat 0, Int.ofNat 6)], (Int.ofNat 0, []), [])
set_option maxRecDepth 100000 in
theorem uk528 : uck tbq tuq [((20, 7, 100005), un527)] sbs mth mqq 100000 20 7 0 un528 = true := by decide +kernel
theorem ug528 : UG ((20, 7, 0), un528) := ug_of _ uk528 (List.forall_mem_cons.mpr ⟨ug527, fun _ h => absurd h List.not_mem_nil⟩)
set_option maxRecDepth 100000 in
noncomputable def un529 : UN := ([(0, 1, (Int.ofNat 0, [])), (0, 2, (Int.ofNat 0, [])), (0, 3, (Int.ofNat 0, []))], ([(Int.ofNat 0, Int.ofNat 0), (Int.ofNat 0, Int.ofNat 64), (Int.ofNat 64, Int.ofNat 64)], [], [], [], [], [], [], [(0, (2, (Int.ofNat 34, []))), (1, (0, (Int.ofNat 0, [(0, Int.ofNat 1)]))), (2, (0, (Int.ofNat 0, [(1, Int.ofNat 1)]))), (3, (0, (Int.ofNat 0, [(2, Int.ofNat 1)])))], []), [(1, 20, [], ([], [], [], [], [], [], [], [], []))], [(34, Int.ofNat 0, Int.ofNat 63)], (Int.ofNat 0, [(1, Int.ofNat 1)]), [17, 0, 2])
set_option maxRecDepth 100000 in
theorem uk529 : uck tbq tuq [] sbs mth mqq 100000 20 7 100005 un529 = true := by decide +kernel
theorem ug529 : UG ((20, 7, 100005), un529) := ug_of _ uk529 (fun _ h => absurd h List.not_mem_nil)
set_option maxRecDepth 100000 in
noncomputable def un530 : UN := ([(0, 1, (Int.ofNat 0, []))], ([(Int.ofNat 0, Int.ofNat 0)], [], [], [], [], [], [], [(0, (2, (Int.ofNat 34, []))), (1, (0, (Int.ofNat 0, [(0, Int.ofNat 1)])))], []), [(0, 20, [], ([], [], [], [], [], [], [], [], []))], [(34, Int.ofNat 0, Int.ofNat 63)], (Int.ofNat 0, []), [])
set_option maxRecDepth 100000 in
theorem uk530 : uck tbq tuq [((20, 7, 100005), un529)] sbs mth mqq 100000 20 7 0 un530 = true := by decide +kernel
theorem ug530 : UG ((20, 7, 0), un530) := ug_of _ uk530 (List.forall_mem_cons.mpr ⟨ug529, fun _ h => absurd h List.not_mem_nil⟩)
set_option maxRecDepth 100000 in
noncomputable def un531 : UN := ([(0, 1, (Int.ofNat 0, [])), (0, 2, (Int.ofNat 0, [])), (0, 3, (Int.ofNat 0, []))], ([(Int.ofNat 0, Int.ofNat 0), (Int.ofNat 0, Int.ofNat 8), (Int.ofNat 8, Int.ofNat 8)], [], [], [], [], [], [], [(0, (2, (Int.ofNat 35, []))), (1, (0, (Int.ofNat 0, [(0, Int.ofNat 1)]))), (2, (0, (Int.ofNat 0, [(1, Int.ofNat 1)]))), (3, (0, (Int.ofNat 0, [(2, Int.ofNat 1)])))], []), [(1, 20, [], ([], [], [], [], [], [], [], [], []))], [(35, Int.ofNat 0, Int.ofNat 7)], (Int.ofNat 0, [(1, Int.ofNat 1)]), [17, 0, 2])
set_option maxRecDepth 100000 in
theorem uk531 : uck tbq tuq [] sbs mth mqq 100000 20 7 100005 un531 = true := by decide +kernel
theorem ug531 : UG ((20, 7, 100005), un531) := ug_of _ uk531 (fun _ h => absurd h List.not_mem_nil)
set_option maxRecDepth 100000 in
noncomputable def un532 : UN := ([(0, 1, (Int.ofNat 0, []))], ([(Int.ofNat 0, Int.ofNat 0)], [], [], [], [], [], [], [(0, (2, (Int.ofNat 35, []))), (1, (0, (Int.ofNat 0, [(0, Int.ofNat 1)])))], []), [(0, 20, [], ([], [], [], [], [], [], [], [], []))], [(35, Int.ofNat 0, Int.ofNat 7)], (Int.ofNat 0, []), [])
set_option maxRecDepth 100000 in
theorem uk532 : uck tbq tuq [((20, 7, 100005), un531)] sbs mth mqq 100000 20 7 0 un532 = true := by decide +kernel
theorem ug532 : UG ((20, 7, 0), un532) := ug_of _ uk532 (List.forall_mem_cons.mpr ⟨ug531, fun _ h => absurd h List.not_mem_nil⟩)
set_option maxRecDepth 100000 in
noncomputable def un533 : UN := ([(0, 1, (Int.ofNat 0, [])), (0, 2, (Int.ofNat 0, [])), (0, 3, (Int.ofNat 0, []))], ([(Int.ofNat 0, Int.ofNat 0), (Int.ofNat 0, Int.ofNat 8), (Int.ofNat 8, Int.ofNat 8)], [], [], [], [], [], [], [(0, (2, (Int.ofNat 41, []))), (1, (0, (Int.ofNat 0, [(0, Int.ofNat 1)]))), (2, (0, (Int.ofNat 0, [(1, Int.ofNat 1)]))), (3, (0, (Int.ofNat 0, [(2, Int.ofNat 1)])))], []), [(1, 20, [], ([], [], [], [], [], [], [], [], []))], [(41, Int.ofNat 0, Int.ofNat 7)], (Int.ofNat 0, [(1, Int.ofNat 1)]), [17, 0, 2])
set_option maxRecDepth 100000 in
theorem uk533 : uck tbq tuq [] sbs mth mqq 100000 20 7 100005 un533 = true := by decide +kernel
theorem ug533 : UG ((20, 7, 100005), un533) := ug_of _ uk533 (fun _ h => absurd h List.not_mem_nil)
set_option maxRecDepth 100000 in
noncomputable def un534 : UN := ([(0, 1, (Int.ofNat 0, []))], ([(Int.ofNat 0, Int.ofNat 0)], [], [], [], [], [], [], [(0, (2, (Int.ofNat 41, []))), (1, (0, (Int.ofNat 0, [(0, Int.ofNat 1)])))], []), [(0, 20, [], ([], [], [], [], [], [], [], [], []))], [(41, Int.ofNat 0, Int.ofNat 7)], (Int.ofNat 0, []), [])
set_option maxRecDepth 100000 in
theorem uk534 : uck tbq tuq [((20, 7, 100005), un533)] sbs mth mqq 100000 20 7 0 un534 = true := by decide +kernel
theorem ug534 : UG ((20, 7, 0), un534) := ug_of _ uk534 (List.forall_mem_cons.mpr ⟨ug533, fun _ h => absurd h List.not_mem_nil⟩)
set_option maxRecDepth 100000 in
noncomputable def un535 : UN := ([(0, 1, (Int.ofNat 0, [])), (0, 2, (Int.ofNat 0, [])), (0, 3, (Int.ofNat 0, []))], ([(Int.ofNat 0, Int.ofNat 0), (Int.ofNat 0, Int.ofNat 7), (Int.ofNat 7, Int.ofNat 7)], [], [], [], [], [], [], [(0, (2, (Int.ofNat 42, []))), (1, (0, (Int.ofNat 0, [(0, Int.ofNat 1)]))), (2, (0, (Int.ofNat 0, [(1, Int.ofNat 1)]))), (3, (0, (Int.ofNat 0, [(2, Int.ofNat 1)])))], []), [(1, 20, [], ([], [], [], [], [], [], [], [], []))], [(42, Int.ofNat 0, Int.ofNat 6)], (Int.ofNat 0, [(1, Int.ofNat 1)]), [17, 0, 2])
set_option maxRecDepth 100000 in
theorem uk535 : uck tbq tuq [] sbs mth mqq 100000 20 7 100005 un535 = true := by decide +kernel
theorem ug535 : UG ((20, 7, 100005), un535) := ug_of _ uk535 (fun _ h => absurd h List.not_mem_nil)
set_option maxRecDepth 100000 in
noncomputable def un536 : UN := ([(0, 1, (Int.ofNat 0, []))], ([(Int.ofNat 0, Int.ofNat 0)], [], [], [], [], [], [], [(0, (2, (Int.ofNat 42, []))), (1, (0, (Int.ofNat 0, [(0, Int.ofNat 1)])))], []), [(0, 20, [], ([], [], [], [], [], [], [], [], []))], [(42, Int.ofNat 0, Int.ofNat 6)], (Int.ofNat 0, []), [])
set_option maxRecDepth 100000 in
theorem uk536 : uck tbq tuq [((20, 7, 100005), un535)] sbs mth mqq 100000 20 7 0 un536 = true := by decide +kernel
theorem ug536 : UG ((20, 7, 0), un536) := ug_of _ uk536 (List.forall_mem_cons.mpr ⟨ug535, fun _ h => absurd h List.not_mem_nil⟩)
set_option maxRecDepth 100000 in
noncomputable def un537 : UN := ([(0, 1, (Int.ofNat 0, [])), (0, 3, (Int.ofNat 0, []))], ([(Int.negSucc 9223372036854775807, Int.ofNat 9223372036854775807), (Int.ofNat 0, Int.ofNat 7)], [], [], [], [], [], [], [(0, (2, (Int.ofNat 27, []))), (1, (1, (Int.ofNat 0, [(0, Int.ofNat 1)]))), (3, (0, (Int.ofNat 0, [(1, Int.ofNat 1)])))], []), [(1, 32, [], ([], [], [], [], [], [], [], [], [])), (0, 25, [(3, 0, (Int.ofNat 0, []))], ([(Int.ofNat 0, Int.ofNat 6)], [], [], [], [], [], [], [], [(0, (Int.ofNat 0, [(2, Int.ofNat 1)]))]))], [], (Int.ofNat 0, [(1, Int.ofNat 1)]), [29, 0])
set_option maxRecDepth 100000 in
theorem uk537 : uck tbq tuq [] sbs mth mqq 100000 0 15 100002 un537 = true := by decide +kernel
theorem ug537 : UG ((0, 15, 100002), un537) := ug_of _ uk537 (fun _ h => absurd h List.not_mem_nil)
set_option maxRecDepth 100000 in
noncomputable def un538 : UN := ([(0, 1, (Int.ofNat 0, []))], ([(Int.negSucc 9223372036854775807, Int.ofNat 9223372036854775807)], [], [], [], [], [], [], [(0, (2, (Int.ofNat 27, []))), (1, (1, (Int.ofNat 0, [(0, Int.ofNat 1)])))], []), [(0, 25, [(3, 0, (Int.ofNat 0, []))], ([(Int.ofNat 0, Int.ofNat 6)], [], [], [], [], [], [], [], [(0, (Int.ofNat 0, [(1, Int.ofNat 1)]))])), (0, 33, [], ([], [], [], [], [], [], [], [], [(0, (Int.negSucc 0, []))]))], [], (Int.ofNat 0, []), [])
set_option maxRecDepth 100000 in
theorem uk538 : uck tbq tuq [((0, 15, 100002), un537)] sbs mth mqq 100000 0 15 0 un538 = true := by decide +kernel
theorem ug538 : UG ((0, 15, 0), un538) := ug_of _ uk538 (List.forall_mem_cons.mpr ⟨ug537, fun _ h => absurd h List.not_mem_nil⟩)
set_option maxRecDepth 100000 in
noncomputable def un539 : UN := ([(0, 1, (Int.ofNat 0, [])), (0, 3, (Int.ofNat 0, []))], ([(Int.negSucc 9223372036854775807, Int.ofNat 9223372036854775807), (Int.ofNat 0, Int.ofNat 8)], [], [], [], [], [], [], [(0, (2, (Int.ofNat 27, []))), (1, (1, (Int.ofNat 0, [(0, Int.ofNat 1)]))), (3, (0, (Int.ofNat 0, [(1, Int.ofNat 1)])))], []), [(1, 29, [], ([], [], [], [], [], [], [], [], [])), (0, 22, [(3, 0, (Int.ofNat 0, []))], ([(Int.ofNat 0, Int.ofNat 7)], [], [], [], [], [], [], [], [(0, (Int.ofNat 0, [(2, Int.ofNat 1)]))]))], [], (Int.ofNat 0, [(1, Int.ofNat 1)]), [26, 0])
set_option maxRecDepth 100000 in
theorem uk539 : uck tbq tuq [] sbs mth mqq 100000 0 16 100002 un539 = true := by decide +kernel
theorem ug539 : UG ((0, 16, 100002), un539) := ug_of _ uk539 (fun _ h => absurd h List.not_mem_nil)
set_option maxRecDepth 100000 in
noncomputable def un540 : UN := ([(0, 1, (Int.ofNat 0, []))], ([(Int.negSucc 9223372036854775807, Int.ofNat 9223372036854775807)], [], [], [], [], [], [], [(0, (2, (Int.ofNat 27, []))), (1, (1, (Int.ofNat 0, [(0, Int.ofNat 1)])))], []), [(0, 22, [(3, 0, (Int.ofNat 0, []))], ([(Int.ofNat 0, Int.ofNat 7)], [], [], [], [], [], [], [], [(0, (Int.ofNat 0, [(1, Int.ofNat 1)]))])), (0, 30, [], ([], [], [], [], [], [], [], [], [(0, (Int.negSucc 0, []))]))], [], (Int.ofNat 0, []), [])
set_option maxRecDepth 100000 in
theorem uk540 : uck tbq tuq [((0, 16, 100002), un539)] sbs mth mqq 100000 0 16 0 un540 = true := by decide +kernel
theorem ug540 : UG ((0, 16, 0), un540) := ug_of _ uk540 (List.forall_mem_cons.mpr ⟨ug539, fun _ h => absurd h List.not_mem_nil⟩)
set_option maxRecDepth 100000 in
noncomputable def un541 : UN := ([], ([], [], [], [], [], [], [], [(0, (2, (Int.ofNat 49, [])))], []), [(0, 77, [], ([], [], [], [], [], [], [], [], [(0, (Int.ofNat 1, []))])), (0, 77, [(1, 2, (Int.ofNat 10, []))], ([(Int.negSucc 0, Int.ofNat 9)], [], [], [(2, (Int.ofNat 10, []), (Int.ofNat 0, [(0, Int.ofNat 1)]))], [], [], [], [], [(0, (Int.ofNat 0, []))]))], [(2, Int.ofNat 10, Int.ofNat 10), (2, Int.ofNat 11, Int.ofNat 11)], (Int.ofNat 0, []), [])
set_option maxRecDepth 100000 in
theorem uk541 : uck tbq tuq [((0, 16, 0), un540), ((0, 15, 0), un538)] sbs mth mqq 100000 1 17 0 un541 = true := by decide +kernel
theorem ug541 : UG ((1, 17, 0), un541) := ug_of _ uk541 (List.forall_mem_cons.mpr ⟨ug540, List.forall_mem_cons.mpr ⟨ug538, fun _ h => absurd h List.not_mem_nil⟩⟩)
set_option maxRecDepth 100000 in
noncomputable def un542 : UN := ([], ([], [], [], [], [], [], [], [(0, (2, (Int.ofNat 49, [])))], []), [(0, 42, [(1, 2, (Int.ofNat 10, []))], ([(Int.negSucc 0, Int.ofNat 9)], [], [], [(2, (Int.ofNat 10, []), (Int.ofNat 0, [(0, Int.ofNat 1)]))], [], [], [], [], [(0, (Int.ofNat 0, []))])), (0, 115, [], ([], [], [], [], [], [], [], [], [(0, (Int.ofNat 1, []))]))], [(2, Int.ofNat 4, Int.ofNat 4), (2, Int.ofNat 5, Int.ofNat 5), (2, Int.ofNat 6, Int.ofNat 6), (2, Int.ofNat 7, Int.ofNat 7), (2, Int.ofNat 8, Int.ofNat 8), (2, Int.ofNat 9, Int.ofNat 9), (2, Int.ofNat 10, Int.ofNat 10), (2, Int.ofNat 11, Int.ofNat 11), (28, Int.ofNat 0, Int.ofNat 0), (28, Int.ofNat 1, Int.ofNat 1), (36, Int.ofNat 0, Int.ofNat 6)], (Int.ofNat 0, []), [])
set_option maxRecDepth 100000 in
theorem uk542 : uck tbq tuq [((1, 17, 0), un541), ((5, 15, 0), un478)] sbs mth mqq 100000 1 19 0 un542 = true := by decide +kernel
theorem ug542 : UG ((1, 19, 0), un542) := ug_of _ uk542 (List.forall_mem_cons.mpr ⟨ug541, List.forall_mem_cons.mpr ⟨ug478, fun _ h => absurd h List.not_mem_nil⟩⟩)
set_option maxRecDepth 100000 in
noncomputable def un543 : UN := ([], ([], [], [], [], [], [], [], [(0, (2, (Int.ofNat 49, [])))], []), [(0, 25, [(1, 2, (Int.ofNat 10, []))], ([(Int.negSucc 0, Int.ofNat 9)], [], [], [(2, (Int.ofNat 10, []), (Int.ofNat 0, [(0, Int.ofNat 1)]))], [], [], [], [], [(0, (Int.ofNat 0, []))])), (0, 86, [], ([], [], [], [], [], [], [], [], [(0, (Int.ofNat 1, []))]))], [(2, Int.ofNat 4, Int.ofNat 4), (2, Int.ofNat 5, Int.ofNat 5), (2, Int.ofNat 6, Int.ofNat 6), (2, Int.ofNat 7, Int.ofNat 7), (2, Int.ofNat 8, Int.ofNat 8), (2, Int.ofNat 9, Int.ofNat 9), (2, Int.ofNat 10, Int.ofNat 10), (2, Int.ofNat 11, Int.ofNat 11), (29, Int.ofNat 0, Int.ofNat 6)], (Int.ofNat 0, []), [])
set_option maxRecDepth 100000 in
theorem uk543 : uck tbq tuq [((0, 15, 0), un538), ((5, 15, 0), un478)] sbs mth mqq 100000 2 0 0 un543 = true := by decide +kernel
theorem ug543 : UG ((2, 0, 0), un543) := ug_of _ uk543 (List.forall_mem_cons.mpr ⟨ug538, List.forall_mem_cons.mpr ⟨ug478, fun _ h => absurd h List.not_mem_nil⟩⟩)
