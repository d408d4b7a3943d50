section
/-! 45.u24 -/
set_option maxRecDepth 100000 in
noncomputable def un516 : UN := ([(0, 1, (Int.ofNat 0, [])), (0, 3, (Int.ofNat 0, []))], ([(Int.negSucc 9223372036854775807, Int.ofNat 9223372036854775807), (Int.ofNat 0, Int.ofNat 8)], [], [], [], [], [], [], [(0, (2, (Int.ofNat 5, []))), (1, (1, (Int.ofNat 0, [(0, Int.ofNat 1)]))), (3, (0, (Int.ofNat 0, [(1, Int.ofNat 1)])))], []), [(1, 29, [], ([], [], [], [], [], [], [], [], [])), (0, 22, [(3, 0, (Int.ofNat 0, []))], ([(Int.ofNat 0, Int.ofNat 7)], [], [], [], [], [], [], [], [(0, (Int.ofNat 0, [(2, Int.ofNat 1)]))]))], [], (Int.ofNat 0, [(1, Int.ofNat 1)]), [26, 0])
set_option maxRecDepth 100000 in
theorem uk516 : uck tbq tuq [] sbs mth mqq 100000 0 16 100002 un516 = true := by decide +kernel
theorem ug516 : UG ((0, 16, 100002), un516) := ug_of _ uk516 (fun _ h => absurd h List.not_mem_nil)
set_option maxRecDepth 100000 in
noncomputable def un517 : UN := ([(0, 1, (Int.ofNat 0, []))], ([(Int.negSucc 9223372036854775807, Int.ofNat 9223372036854775807)], [], [], [], [], [], [], [(0, (2, (Int.ofNat 5, []))), (1, (1, (Int.ofNat 0, [(0, Int.ofNat 1)])))], []), [(0, 22, [(3, 0, (Int.ofNat 0, []))], ([(Int.ofNat 0, Int.ofNat 7)], [], [], [], [], [], [], [], [(0, (Int.ofNat 0, [(1, Int.ofNat 1)]))])), (0, 30, [], ([], [], [], [], [], [], [], [], [(0, (Int.negSucc 0, []))]))], [], (Int.ofNat 0, []), [])
set_option maxRecDepth 100000 in
theorem uk517 : uck tbq tuq [((0, 16, 100002), un516)] sbs mth mqq 100000 0 16 0 un517 = true := by decide +kernel
theorem ug517 : UG ((0, 16, 0), un517) := ug_of _ uk517 (List.forall_mem_cons.mpr ⟨ug516, fun _ h => absurd h List.not_mem_nil⟩)
set_option maxRecDepth 100000 in
noncomputable def un518 : UN := ([(0, 2, (Int.ofNat 0, [])), (1, 43, (Int.ofNat 2, [])), (1, 43, (Int.ofNat 1, [])), (1, 50, (Int.ofNat 4, []))], ([(Int.ofNat 0, Int.ofNat 300), (Int.ofNat 0, Int.ofNat 60), (Int.ofNat 0, Int.ofNat 30), (Int.ofNat 0, Int.ofNat 3)], [(Int.ofNat 0, [(1, Int.negSucc 0), (2, Int.ofNat 2), (3, Int.negSucc 0)])], [], [(2, (Int.ofNat 10, []), (Int.ofNat 0, [])), (43, (Int.ofNat 2, []), (Int.ofNat 0, [(1, Int.ofNat 1)])), (43, (Int.ofNat 1, []), (Int.ofNat 0, [(2, Int.ofNat 1)])), (50, (Int.ofNat 4, []), (Int.ofNat 0, [(3, Int.ofNat 1)]))], [(1, (Int.ofNat 0, [(1, Int.ofNat 1)]))], [], [], [(0, (2, (Int.ofNat 50, []))), (2, (0, (Int.ofNat 0, [(0, Int.ofNat 1)])))], []), [(1, 70, [(1, 43, (Int.ofNat 2, [])), (1, 43, (Int.ofNat 1, [])), (1, 50, (Int.ofNat 4, []))], ([(Int.ofNat 0, Int.ofNat 60), (Int.ofNat 0, Int.ofNat 30), (Int.ofNat 0, Int.ofNat 3)], [], [], [(2, (Int.ofNat 10, []), (Int.ofNat 0, [])), (43, (Int.ofNat 2, []), (Int.ofNat 0, [(4, Int.ofNat 1)])), (43, (Int.ofNat 1, []), (Int.ofNat 0, [(5, Int.ofNat 1)])), (50, (Int.ofNat 4, []), (Int.ofNat 0, [(6, Int.ofNat 1)]))], [(1, (Int.ofNat 0, [(4, Int.ofNat 1)]))], [], [], [(0, (2, (Int.ofNat 50, [])))], [])), (1, 22, [(0, 2, (Int.ofNat 0, [])), (1, 2, (Int.ofNat 10, [])), (1, 43, (Int.ofNat 2, [])), (1, 43, (Int.ofNat 1, [])), (1, 50, (Int.ofNat 4, []))], ([(Int.ofNat 1, Int.ofNat 300), (Int.ofNat 1, Int.ofNat 7), (Int.ofNat 0, Int.ofNat 60), (Int.ofNat 0, Int.ofNat 30), (Int.ofNat 0, Int.ofNat 3)], [], [], [(2, (Int.ofNat 10, []), (Int.ofNat 0, [(5, Int.ofNat 1)])), (43, (Int.ofNat 2, []), (Int.ofNat 0, [(6, Int.ofNat 1)])), (43, (Int.ofNat 1, []), (Int.ofNat 0, [(7, Int.ofNat 1)])), (50, (Int.ofNat 4, []), (Int.ofNat 0, [(8, Int.ofNat 1)]))], [], [], [], [(0, (2, (Int.ofNat 50, []))), (2, (0, (Int.ofNat 0, [(4, Int.ofNat 1)])))], []))], [(2, Int.ofNat 4, Int.ofNat 4), (2, Int.ofNat 5, Int.ofNat 5), (2, Int.ofNat 6, Int.ofNat 6), (2, Int.ofNat 7, Int.ofNat 7), (2, Int.ofNat 8, Int.ofNat 8), (2, Int.ofNat 9, Int.ofNat 9), (2, Int.ofNat 10, Int.ofNat 10), (2, Int.ofNat 11, Int.ofNat 11), (43, Int.ofNat 1, Int.ofNat 1), (43, Int.ofNat 2, Int.ofNat 2), (44, Int.ofNat 0, Int.ofNat 59), (45, Int.ofNat 0, Int.ofNat 59), (46, Int.ofNat 0, Int.ofNat 59), (47, Int.ofNat 0, Int.ofNat 59), (48, Int.ofNat 0, Int.ofNat 59), (50, Int.ofNat 4, Int.ofNat 4), (51, Int.ofNat 0, Int.ofNat 2)], (Int.ofNat 0, [(0, Int.ofNat 1)]), [67])
set_option maxRecDepth 100000 in
theorem uk518 : uck tbq tuq [((0, 16, 0), un517), ((0, 15, 0), un515), ((5, 15, 0), un513)] sbs mth mqq 100000 4 19 100022 un518 = true := by decide +kernel
theorem ug518 : UG ((4, 19, 100022), un518) := ug_of _ uk518 (List.forall_mem_cons.mpr ⟨ug517, List.forall_mem_cons.mpr ⟨ug515, List.forall_mem_cons.mpr ⟨ug513, fun _ h => absurd h List.not_mem_nil⟩⟩⟩)
end
section
/-! 45.u25 -/
set_option maxRecDepth 100000 in
noncomputable def un519 : UN := ([(0, 1, (Int.ofNat 0, [])), (1, 21, (Int.ofNat 2, []))], ([(Int.negSucc 2147483647, Int.ofNat 2147483647), (Int.ofNat 0, Int.ofNat 60)], [], [], [(21, (Int.ofNat 2, []), (Int.ofNat 0, [(1, Int.ofNat 1)]))], [(0, (Int.ofNat 0, [(1, Int.ofNat 1)]))], [], [], [(0, (2, (Int.ofNat 0, []))), (1, (0, (Int.ofNat 0, [(0, Int.ofNat 1)])))], []), [(0, 59, [], ([], [], [], [(21, (Int.ofNat 2, []), (Int.ofNat 0, [(1, Int.ofNat 1)]))], [(0, (Int.ofNat 0, [(1, Int.ofNat 1)]))], [], [], [], [(0, (Int.negSucc 0, []))])), (0, 82, [(3, 0, (Int.ofNat 0, [])), (1, 21, (Int.ofNat 2, []))], ([(Int.ofNat 0, Int.ofNat 30), (Int.ofNat 0, Int.ofNat 60)], [], [], [(2, (Int.ofNat 10, []), (Int.ofNat 0, [])), (21, (Int.ofNat 2, []), (Int.ofNat 0, [(3, Int.ofNat 1)]))], [(0, (Int.ofNat 0, [(3, Int.ofNat 1)]))], [], [], [], [(0, (Int.ofNat 0, [(2, Int.ofNat 1)]))]))], [(0, Int.ofNat 0, Int.ofNat 0), (2, Int.ofNat 1, Int.ofNat 1), (2, Int.ofNat 3, Int.ofNat 3), (2, Int.ofNat 4, Int.ofNat 4), (2, Int.ofNat 5, Int.ofNat 5), (2, Int.ofNat 6, Int.ofNat 6), (2, Int.ofNat 7, Int.ofNat 7), (2, Int.ofNat 8, Int.ofNat 8), (2, Int.ofNat 9, Int.ofNat 9), (2, Int.ofNat 10, Int.ofNat 10), (2, Int.ofNat 11, Int.ofNat 11), (21, Int.ofNat 0, Int.ofNat 0), (21, Int.ofNat 1, Int.ofNat 1), (21, Int.ofNat 2, Int.ofNat 2), (22, Int.ofNat 0, Int.ofNat 60), (23, Int.ofNat 0, Int.ofNat 60), (24, Int.ofNat 0, Int.ofNat 60), (25, Int.ofNat 0, Int.ofNat 60), (26, Int.ofNat 0, Int.ofNat 60), (43, Int.ofNat 0, Int.ofNat 0), (43, Int.ofNat 1, Int.ofNat 1), (43, Int.ofNat 2, Int.ofNat 2), (44, Int.ofNat 0, Int.ofNat 59), (45, Int.ofNat 0, Int.ofNat 59), (46, Int.ofNat 0, Int.ofNat 59), (47, Int.ofNat 0, Int.ofNat 59), (48, Int.ofNat 0, Int.ofNat 59), (50, Int.ofNat 4, Int.ofNat 4), (51, Int.ofNat 0, Int.ofNat 2)], (Int.ofNat 0, []), [])
set_option maxRecDepth 100000 in
theorem uk519 : uck tbq tuq [((4, 19, 100022), un518), ((5, 15, 0), un513)] sbs mth mqq 100000 7 8 0 un519 = true := by decide +kernel
theorem ug519 : UG ((7, 8, 0), un519) := ug_of _ uk519 (List.forall_mem_cons.mpr ⟨ug518, List.forall_mem_cons.mpr ⟨ug513, fun _ h => absurd h List.not_mem_nil⟩⟩)
set_option maxRecDepth 100000 in
noncomputable def un520 : UN := ([(0, 1, (Int.ofNat 0, [])), (0, 3, (Int.ofNat 0, []))], ([(Int.ofNat 0, Int.ofNat 300), (Int.ofNat 0, Int.ofNat 300)], [], [], [], [], [], [], [(0, (2, (Int.ofNat 169, []))), (1, (0, (Int.ofNat 0, [(0, Int.ofNat 1)]))), (3, (0, (Int.ofNat 0, [(1, Int.ofNat 1)])))], []), [(1, 49, [], ([], [], [], [], [], [], [], [(0, (2, (Int.ofNat 169, [])))], []))], [(176, Int.ofNat 0, Int.ofNat 299)], (Int.ofNat 0, [(1, Int.ofNat 1)]), [46, 0])
set_option maxRecDepth 100000 in
theorem uk520 : uck tbq tuq [] sbs mth mqq 100000 12 11 100026 un520 = true := by decide +kernel
theorem ug520 : UG ((12, 11, 100026), un520) := ug_of _ uk520 (fun _ h => absurd h List.not_mem_nil)
set_option maxRecDepth 100000 in
noncomputable def un521 : UN := ([(1, 169, (Int.ofNat 14, [])), (2, 0, (Int.ofNat 0, []))], ([(Int.ofNat 0, Int.ofNat 900), (Int.ofNat 0, Int.ofNat 0)], [(Int.ofNat 0, [(0, Int.ofNat 1), (1, Int.negSucc 0)])], [], [(169, (Int.ofNat 14, []), (Int.ofNat 0, [(0, Int.ofNat 1)]))], [], [], [], [(0, (2, (Int.ofNat 169, [])))], []), [(1, 39, [(5, 169, (Int.ofNat 14, [(1, Int.ofNat 1)]))], ([(Int.ofNat 0, Int.ofNat 900)], [], [], [(169, (Int.ofNat 14, []), (Int.ofNat 0, [(1, Int.ofNat 1), (2, Int.ofNat 1)]))], [], [], [], [(0, (2, (Int.ofNat 169, [])))], []))], [(169, Int.ofNat 14, Int.ofNat 14)], (Int.ofNat 0, [(0, Int.ofNat 1)]), [36, 1])
set_option maxRecDepth 100000 in
theorem uk521 : uck tbq tuq [] sbs mth mqq 100000 12 7 100000 un521 = true := by decide +kernel
theorem ug521 : UG ((12, 7, 100000), un521) := ug_of _ uk521 (fun _ h => absurd h List.not_mem_nil)
set_option maxRecDepth 100000 in
noncomputable def un522 : UN := ([(1, 169, (Int.ofNat 14, [])), (1, 169, (Int.ofNat 13, [])), (2, 0, (Int.ofNat 0, []))], ([(Int.ofNat 1, Int.ofNat 900), (Int.ofNat 0, Int.ofNat 899), (Int.ofNat 1, Int.ofNat 900)], [(Int.ofNat 0, [(0, Int.ofNat 1), (2, Int.negSucc 0)]), (Int.negSucc 0, [(0, Int.ofNat 1), (1, Int.negSucc 0)])], [], [(169, (Int.ofNat 14, []), (Int.ofNat 0, [(0, Int.ofNat 1)])), (169, (Int.ofNat 13, []), (Int.ofNat 0, [(1, Int.ofNat 1)]))], [], [], [], [(0, (2, (Int.ofNat 169, [])))], []), [(1, 108, [(5, 169, (Int.ofNat 14, [(2, Int.ofNat 1)]))], ([(Int.ofNat 0, Int.ofNat 899)], [(Int.ofNat 900, [(2, Int.negSucc 0), (3, Int.negSucc 0)])], [], [(169, (Int.ofNat 14, []), (Int.ofNat 0, [(2, Int.ofNat 1), (3, Int.ofNat 1)]))], [], [], [], [(0, (2, (Int.ofNat 169, [])))], []))], [(169, Int.ofNat 14, Int.ofNat 14)], (Int.ofNat 0, [(0, Int.ofNat 1)]), [105, 1, 2])
set_option maxRecDepth 100000 in
theorem uk522 : uck tbq tuq [] sbs mth mqq 100000 12 7 100081 un522 = true := by decide +kernel
theorem ug522 : UG ((12, 7, 100081), un522) := ug_of _ uk522 (fun _ h => absurd h List.not_mem_nil)
set_option maxRecDepth 100000 in
noncomputable def un523 : UN := ([(1, 169, (Int.ofNat 14, [])), (1, 169, (Int.ofNat 13, [])), (2, 0, (Int.ofNat 0, []))], ([(Int.ofNat 1, Int.ofNat 900), (Int.ofNat 0, Int.ofNat 899), (Int.ofNat 1, Int.ofNat 900)], [(Int.ofNat 0, [(0, Int.ofNat 1), (2, Int.negSucc 0)]), (Int.negSucc 0, [(0, Int.ofNat 1), (1, Int.negSucc 0)])], [], [(169, (Int.ofNat 14, []), (Int.ofNat 0, [(0, Int.ofNat 1)])), (169, (Int.ofNat 13, []), (Int.ofNat 0, [(1, Int.ofNat 1)]))], [], [], [], [(0, (2, (Int.ofNat 169, [])))], []), [(1, 183, [(5, 169, (Int.ofNat 14, [(2, Int.ofNat 1)]))], ([(Int.ofNat 0, Int.ofNat 899)], [(Int.ofNat 900, [(2, Int.negSucc 0), (3, Int.negSucc 0)])], [], [(169, (Int.ofNat 14, []), (Int.ofNat 0, [(2, Int.ofNat 1), (3, Int.ofNat 1)]))], [], [], [], [(0, (2, (Int.ofNat 169, [])))], []))], [(169, Int.ofNat 14, Int.ofNat 14), (169, Int.ofNat 15, Int.ofNat 15)], (Int.ofNat 0, [(0, Int.ofNat 1)]), [180, 1, 2])
set_option maxRecDepth 100000 in
theorem uk523 : uck tbq tuq [] sbs mth mqq 100000 12 7 100128 un523 = true := by decide +kernel
theorem ug523 : UG ((12, 7, 100128), un523) := ug_of _ uk523 (fun _ h => absurd h List.not_mem_nil)
set_option maxRecDepth 100000 in
noncomputable def un524 : UN := ([(1, 169, (Int.ofNat 14, [])), (1, 169, (Int.ofNat 12, []))], ([(Int.ofNat 0, Int.ofNat 0), (Int.ofNat 0, Int.ofNat 4)], [], [], [(169, (Int.ofNat 14, []), (Int.ofNat 0, [(0, Int.ofNat 1)])), (169, (Int.ofNat 12, []), (Int.ofNat 0, [(1, Int.ofNat 1)]))], [], [], [], [(0, (2, (Int.ofNat 169, [])))], []), [(0, 251, [(5, 169, (Int.ofNat 14, [(0, Int.ofNat 1)])), (1, 169, (Int.ofNat 12, []))], ([(Int.ofNat 1, Int.ofNat 1799), (Int.ofNat 1, Int.ofNat 4)], [(Int.ofNat 900, [(0, Int.negSucc 0), (2, Int.negSucc 0)])], [], [(169, (Int.ofNat 14, []), (Int.ofNat 0, [(0, Int.ofNat 1), (2, Int.ofNat 1)])), (169, (Int.ofNat 12, []), (Int.ofNat 0, [(3, Int.ofNat 1)]))], [], [], [], [], [])), (0, 251, [(5, 169, (Int.ofNat 14, [(0, Int.ofNat 1)]))], ([(Int.ofNat 0, Int.ofNat 900)], [], [], [(169, (Int.ofNat 14, []), (Int.ofNat 0, [(0, Int.ofNat 1), (2, Int.ofNat 1)])), (169, (Int.ofNat 12, []), (Int.ofNat 0, []))], [], [], [], [], []))], [(169, Int.ofNat 12, Int.ofNat 12), (169, Int.ofNat 13, Int.ofNat 13), (169, Int.ofNat 14, Int.ofNat 14), (169, Int.ofNat 15, Int.ofNat 15)], (Int.ofNat 0, []), [])
set_option maxRecDepth 100000 in
theorem uk524 : uck tbq tuq [((12, 7, 100128), un523), ((12, 7, 100081), un522), ((12, 7, 100000), un521)] sbs mth mqq 100000 12 7 0 un524 = true := by decide +kernel
theorem ug524 : UG ((12, 7, 0), un524) := ug_of _ uk524 (List.forall_mem_cons.mpr ⟨ug523, List.forall_mem_cons.mpr ⟨ug522, List.forall_mem_cons.mpr ⟨ug521, fun _ h => absurd h List.not_mem_nil⟩⟩⟩)
set_option maxRecDepth 100000 in
noncomputable def un525 : UN := ([(0, 1, (Int.ofNat 0, [])), (0, 2, (Int.ofNat 0, []))], ([(Int.negSucc 2147483647, Int.ofNat 2147483647), (Int.ofNat 300, Int.ofNat 300)], [], [], [], [], [], [], [(0, (2, (Int.ofNat 169, []))), (1, (0, (Int.ofNat 0, [(0, Int.ofNat 1)]))), (2, (0, (Int.ofNat 0, [(1, Int.ofNat 1)])))], []), [(0, 18, [], ([], [], [], [], [], [], [], [], [(0, (Int.ofNat 0, []))])), (0, 79, [], ([], [], [], [(169, (Int.ofNat 18, []), (Int.ofNat 0, []))], [], [], [], [], [(0, (Int.ofNat 1, []))]))], [(169, Int.ofNat 10, Int.ofNat 10), (169, Int.ofNat 11, Int.ofNat 11), (169, Int.ofNat 12, Int.ofNat 12), (169, Int.ofNat 13, Int.ofNat 13), (169, Int.ofNat 14, Int.ofNat 14), (169, Int.ofNat 15, Int.ofNat 15), (169, Int.ofNat 17, Int.ofNat 17), (169, Int.ofNat 18, Int.ofNat 18), (169, Int.ofNat 19, Int.ofNat 19), (176, Int.ofNat 0, Int.ofNat 299)], (Int.ofNat 0, []), [])
set_option maxRecDepth 100000 in
theorem uk525 : uck tbq tuq [((12, 7, 0), un524), ((12, 11, 100026), un520)] sbs mth mqq 100000 12 11 0 un525 = true := by decide +kernel
theorem ug525 : UG ((12, 11, 0), un525) := ug_of _ uk525 (List.forall_mem_cons.mpr ⟨ug524, List.forall_mem_cons.mpr ⟨ug520, fun _ h => absurd h List.not_mem_nil⟩⟩)
set_option maxRecDepth 100000 in
noncomputable def un526 : UN := ([], ([], [], [], [], [], [], [], [(0, (2, (Int.ofNat 169, []))), (1, (6, (Int.ofNat 3, []))), (2, (0, (Int.ofNat 0, []))), (3, (0, (Int.ofNat 1, [])))], []), [(1, 14, [], ([], [], [], [], [], [], [], [(0, (2, (Int.ofNat 169, []))), (1, (6, (Int.ofNat 3, []))), (2, (0, (Int.ofNat 1, []))), (3, (0, (Int.ofNat 7, [])))], [])), (0, 121, [], ([], [], [], [], [], [], [], [], [(0, (Int.ofNat 0, []))]))], [], (Int.ofNat 0, []), [130])
set_option maxRecDepth 100000 in
theorem uk526 : uck tbq tuq [] sbs mth mqq 100000 12 9 100014 un526 = true := by decide +kernel
theorem ug526 : UG ((12, 9, 100014), un526) := ug_of _ uk526 (fun _ h => absurd h List.not_mem_nil)
set_option maxRecDepth 100000 in
noncomputable def un527 : UN := ([], ([], [], [], [], [], [], [], [(0, (2, (Int.ofNat 169, []))), (1, (6, (Int.ofNat 3, []))), (2, (0, (Int.ofNat 1, []))), (3, (0, (Int.ofNat 7, [])))], []), [(1, 14, [], ([], [], [], [], [], [], [], [(0, (2, (Int.ofNat 169, []))), (1, (6, (Int.ofNat 3, []))), (2, (0, (Int.ofNat 2, []))), (3, (0, (Int.ofNat 12, [])))], [])), (0, 121, [], ([], [], [], [], [], [], [], [], [(0, (Int.ofNat 1, []))]))], [], (Int.ofNat 0, []), [130])
set_option maxRecDepth 100000 in
theorem uk527 : uck tbq tuq [] sbs mth mqq 100000 12 9 100014 un527 = true := by decide +kernel
theorem ug527 : UG ((12, 9, 100014), un527) := ug_of _ uk527 (fun _ h => absurd h List.not_mem_nil)
set_option maxRecDepth 100000 in
noncomputable def un528 : UN := ([], ([], [], [], [], [], [], [], [(0, (2, (Int.ofNat 169, []))), (1, (6, (Int.ofNat 3, []))), (2, (0, (Int.ofNat 2, []))), (3, (0, (Int.ofNat 12, [])))], []), [(1, 14, [], ([], [], [], [], [], [], [], [(0, (2, (Int.ofNat 169, []))), (1, (6, (Int.ofNat 3, []))), (2, (0, (Int.ofNat 3, []))), (3, (0, (Int.ofNat 19, [])))], [])), (0, 121, [], ([], [], [], [], [], [], [], [], [(0, (Int.ofNat 2, []))]))], [], (Int.ofNat 0, []), [130])
set_option maxRecDepth 100000 in
theorem uk528 : uck tbq tuq [] sbs mth mqq 100000 12 9 100014 un528 = true := by decide +kernel
theorem ug528 : UG ((12, 9, 100014), un528) := ug_of _ uk528 (fun _ h => absurd h List.not_mem_nil)
end
section
/-! 45.u26 -/
set_option maxRecDepth 100000 in
noncomputable def un529 : UN := ([], ([], [], [], [], [], [], [], [(0, (2, (Int.ofNat 169, []))), (1, (6, (Int.ofNat 3, []))), (2, (0, (Int.ofNat 3, []))), (3, (0, (Int.ofNat 19, [])))], []), [(1, 14, [], ([], [], [], [], [], [], [], [(0, (2, (Int.ofNat 169, []))), (1, (6, (Int.ofNat 3, []))), (2, (0, (Int.ofNat 4, []))), (3, (0, (Int.ofNat 24, [])))], [])), (0, 121, [], ([], [], [], [], [], [], [], [], [(0, (Int.ofNat 3, []))]))], [], (Int.ofNat 0, []), [130])
set_option maxRecDepth 100000 in
theorem uk529 : uck tbq tuq [] sbs mth mqq 100000 12 9 100014 un529 = true := by decide +kernel
theorem ug529 : UG ((12, 9, 100014), un529) := ug_of _ uk529 (fun _ h => absurd h List.not_mem_nil)
set_option maxRecDepth 100000 in
noncomputable def un530 : UN := ([], ([], [], [], [], [], [], [], [(0, (2, (Int.ofNat 169, []))), (1, (6, (Int.ofNat 3, []))), (2, (0, (Int.ofNat 4, []))), (3, (0, (Int.ofNat 24, [])))], []), [(1, 14, [], ([], [], [], [], [], [], [], [(0, (2, (Int.ofNat 169, []))), (1, (6, (Int.ofNat 3, []))), (2, (0, (Int.ofNat 5, []))), (3, (0, (Int.ofNat 29, [])))], [])), (0, 121, [], ([], [], [], [], [], [], [], [], [(0, (Int.ofNat 4, []))]))], [], (Int.ofNat 0, []), [130])
set_option maxRecDepth 100000 in
theorem uk530 : uck tbq tuq [] sbs mth mqq 100000 12 9 100014 un530 = true := by decide +kernel
theorem ug530 : UG ((12, 9, 100014), un530) := ug_of _ uk530 (fun _ h => absurd h List.not_mem_nil)
set_option maxRecDepth 100000 in
noncomputable def un531 : UN := ([], ([], [], [], [], [], [], [], [(0, (2, (Int.ofNat 169, []))), (1, (6, (Int.ofNat 3, []))), (2, (0, (Int.ofNat 5, []))), (3, (0, (Int.ofNat 29, [])))], []), [(1, 14, [], ([], [], [], [], [], [], [], [(0, (2, (Int.ofNat 169, []))), (1, (6, (Int.ofNat 3, []))), (2, (0, (Int.ofNat 6, []))), (3, (0, (Int.ofNat 34, [])))], [])), (0, 121, [], ([], [], [], [], [], [], [], [], [(0, (Int.ofNat 5, []))]))], [], (Int.ofNat 0, []), [130])
set_option maxRecDepth 100000 in
theorem uk531 : uck tbq tuq [] sbs mth mqq 100000 12 9 100014 un531 = true := by decide +kernel
theorem ug531 : UG ((12, 9, 100014), un531) := ug_of _ uk531 (fun _ h => absurd h List.not_mem_nil)
set_option maxRecDepth 100000 in
noncomputable def un532 : UN := ([], ([], [], [], [], [], [], [], [(0, (2, (Int.ofNat 169, []))), (1, (6, (Int.ofNat 3, []))), (2, (0, (Int.ofNat 6, []))), (3, (0, (Int.ofNat 34, [])))], []), [(1, 14, [], ([], [], [], [], [], [], [], [(0, (2, (Int.ofNat 169, []))), (1, (6, (Int.ofNat 3, []))), (2, (0, (Int.ofNat 7, []))), (3, (0, (Int.ofNat 37, [])))], [])), (0, 121, [], ([], [], [], [], [], [], [], [], [(0, (Int.ofNat 6, []))]))], [], (Int.ofNat 0, []), [130])
set_option maxRecDepth 100000 in
theorem uk532 : uck tbq tuq [] sbs mth mqq 100000 12 9 100014 un532 = true := by decide +kernel
theorem ug532 : UG ((12, 9, 100014), un532) := ug_of _ uk532 (fun _ h => absurd h List.not_mem_nil)
set_option maxRecDepth 100000 in
noncomputable def un533 : UN := ([], ([], [], [], [], [], [], [], [(0, (2, (Int.ofNat 169, []))), (1, (6, (Int.ofNat 3, []))), (2, (0, (Int.ofNat 7, []))), (3, (0, (Int.ofNat 37, [])))], []), [(1, 14, [], ([], [], [], [], [], [], [], [(0, (2, (Int.ofNat 169, []))), (1, (6, (Int.ofNat 3, []))), (2, (0, (Int.ofNat 8, []))), (3, (0, (Int.ofNat 42, [])))], [])), (0, 121, [], ([], [], [], [], [], [], [], [], [(0, (Int.ofNat 7, []))]))], [], (Int.ofNat 0, []), [130])
set_option maxRecDepth 100000 in
theorem uk533 : uck tbq tuq [] sbs mth mqq 100000 12 9 100014 un533 = true := by decide +kernel
theorem ug533 : UG ((12, 9, 100014), un533) := ug_of _ uk533 (fun _ h => absurd h List.not_mem_nil)
set_option maxRecDepth 100000 in
noncomputable def un534 : UN := ([], ([], [], [], [], [], [], [], [(0, (2, (Int.ofNat 169, []))), (1, (6, (Int.ofNat 3, []))), (2, (0, (Int.ofNat 8, []))), (3, (0, (Int.ofNat 42, [])))], []), [(1, 14, [], ([], [], [], [], [], [], [], [(0, (2, (Int.ofNat 169, []))), (1, (6, (Int.ofNat 3, []))), (2, (0, (Int.ofNat 9, []))), (3, (0, (Int.ofNat 47, [])))], [])), (0, 121, [], ([], [], [], [], [], [], [], [], [(0, (Int.ofNat 8, []))]))], [], (Int.ofNat 0, []), [130])
set_option maxRecDepth 100000 in
theorem uk534 : uck tbq tuq [] sbs mth mqq 100000 12 9 100014 un534 = true := by decide +kernel
theorem ug534 : UG ((12, 9, 100014), un534) := ug_of _ uk534 (fun _ h => absurd h List.not_mem_nil)
end
