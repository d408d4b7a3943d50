section
/-! 45.u00 -/
set_option maxRecDepth 100000 in
noncomputable def un0 : UN := ([(0, 1, (Int.ofNat 0, [])), (0, 2, (Int.ofNat 0, []))], ([(Int.ofNat 0, Int.ofNat 7), (Int.ofNat 0, Int.ofNat 8)], [], [], [], [], [], [], [(0, (2, (Int.ofNat 169, []))), (1, (0, (Int.ofNat 0, [(0, Int.ofNat 1)]))), (2, (0, (Int.ofNat 0, [(1, Int.ofNat 1)])))], []), [(1, 136, [], ([], [], [], [], [], [], [], [], []))], [(170, Int.ofNat 67, Int.ofNat 130)], (Int.ofNat 0, [(1, Int.ofNat 1)]), [133, 0])
set_option maxRecDepth 100000 in
theorem uk0 : uck tbq tuq [] sbs mth mqq 100000 15 13 100024 un0 = true := by decide +kernel
theorem ug0 : UG ((15, 13, 100024), un0) := ug_of _ uk0 (fun _ h => absurd h List.not_mem_nil)
end
section
/-! 45.u01 -/
set_option maxRecDepth 100000 in
noncomputable def un1 : UN := ([(0, 1, (Int.ofNat 0, []))], ([(Int.ofNat 0, Int.ofNat 7)], [], [], [], [], [], [], [(0, (2, (Int.ofNat 169, []))), (1, (0, (Int.ofNat 0, [(0, Int.ofNat 1)])))], []), [(0, 9, [], ([], [], [], [], [], [], [], [], [(0, (Int.ofNat 0, []))])), (0, 137, [], ([], [], [], [], [], [], [], [], [(0, (Int.ofNat 1, []))]))], [(170, Int.ofNat 29, Int.ofNat 130)], (Int.ofNat 0, []), [])
set_option maxRecDepth 100000 in
theorem uk1 : uck tbq tuq [((15, 13, 100024), un0)] sbs mth mqq 100000 15 13 0 un1 = true := by decide +kernel
theorem ug1 : UG ((15, 13, 0), un1) := ug_of _ uk1 (List.forall_mem_cons.mpr ⟨ug0, fun _ h => absurd h List.not_mem_nil⟩)
set_option maxRecDepth 100000 in
noncomputable def un2 : UN := ([(0, 1, (Int.ofNat 0, [])), (0, 2, (Int.ofNat 0, [])), (0, 3, (Int.ofNat 0, []))], ([(Int.ofNat 0, Int.ofNat 7), (Int.ofNat 0, Int.ofNat 792), (Int.ofNat 0, Int.ofNat 8)], [(Int.ofNat 0, [(1, Int.negSucc 0), (2, Int.ofNat 99)])], [], [], [], [], [], [(0, (2, (Int.ofNat 169, []))), (1, (0, (Int.ofNat 0, [(0, Int.ofNat 1)]))), (2, (0, (Int.ofNat 0, [(1, Int.ofNat 1)]))), (3, (0, (Int.ofNat 0, [(2, Int.ofNat 1)])))], []), [(1, 29, [(0, 2, (Int.ofNat 0, []))], ([(Int.ofNat 0, Int.ofNat 792)], [], [], [], [], [], [], [(2, (0, (Int.ofNat 0, [(3, Int.ofNat 1)])))], []))], [], (Int.ofNat 0, [(2, Int.ofNat 1)]), [26, 0])
set_option maxRecDepth 100000 in
theorem uk2 : uck tbq tuq [] sbs mth mqq 100000 14 9 100004 un2 = true := by decide +kernel
theorem ug2 : UG ((14, 9, 100004), un2) := ug_of _ uk2 (fun _ h => absurd h List.not_mem_nil)
set_option maxRecDepth 100000 in
noncomputable def un3 : UN := ([(0, 1, (Int.ofNat 0, []))], ([(Int.ofNat 0, Int.ofNat 7)], [], [], [], [], [], [], [(0, (2, (Int.ofNat 169, []))), (1, (0, (Int.ofNat 0, [(0, Int.ofNat 1)])))], []), [(0, 30, [(3, 0, (Int.ofNat 0, []))], ([(Int.ofNat 0, Int.ofNat 792)], [], [], [], [], [], [], [], [(0, (Int.ofNat 0, [(1, Int.ofNat 1)]))]))], [], (Int.ofNat 0, []), [])
set_option maxRecDepth 100000 in
theorem uk3 : uck tbq tuq [((14, 9, 100004), un2)] sbs mth mqq 100000 14 9 0 un3 = true := by decide +kernel
theorem ug3 : UG ((14, 9, 0), un3) := ug_of _ uk3 (List.forall_mem_cons.mpr ⟨ug2, fun _ h => absurd h List.not_mem_nil⟩)
set_option maxRecDepth 100000 in
noncomputable def un4 : UN := ([(0, 1, (Int.ofNat 0, [])), (0, 2, (Int.ofNat 0, []))], ([(Int.ofNat 0, Int.ofNat 6336), (Int.ofNat 0, Int.ofNat 8)], [(Int.ofNat 0, [(0, Int.negSucc 0), (1, Int.ofNat 792)])], [], [], [], [], [], [(0, (2, (Int.ofNat 169, []))), (1, (0, (Int.ofNat 0, [(0, Int.ofNat 1)]))), (2, (0, (Int.ofNat 0, [(1, Int.ofNat 1)])))], []), [(1, 28, [(0, 1, (Int.ofNat 0, []))], ([(Int.ofNat 0, Int.ofNat 6336)], [], [], [], [], [], [], [(1, (0, (Int.ofNat 0, [(2, Int.ofNat 1)])))], []))], [], (Int.ofNat 0, [(1, Int.ofNat 1)]), [25])
set_option maxRecDepth 100000 in
theorem uk4 : uck tbq tuq [((14, 9, 0), un3)] sbs mth mqq 100000 14 11 100004 un4 = true := by decide +kernel
theorem ug4 : UG ((14, 11, 100004), un4) := ug_of _ uk4 (List.forall_mem_cons.mpr ⟨ug3, fun _ h => absurd h List.not_mem_nil⟩)
set_option maxRecDepth 100000 in
noncomputable def un5 : UN := ([], ([], [], [], [], [], [], [], [(0, (2, (Int.ofNat 169, [])))], []), [(0, 29, [(3, 0, (Int.ofNat 0, []))], ([(Int.ofNat 0, Int.ofNat 6336)], [], [], [], [], [], [], [], [(0, (Int.ofNat 0, [(0, Int.ofNat 1)]))]))], [], (Int.ofNat 0, []), [])
set_option maxRecDepth 100000 in
theorem uk5 : uck tbq tuq [((14, 11, 100004), un4)] sbs mth mqq 100000 14 11 0 un5 = true := by decide +kernel
theorem ug5 : UG ((14, 11, 0), un5) := ug_of _ uk5 (List.forall_mem_cons.mpr ⟨ug4, fun _ h => absurd h List.not_mem_nil⟩)
set_option maxRecDepth 100000 in
noncomputable def un6 : UN := ([(0, 1, (Int.ofNat 0, []))], ([(Int.negSucc 2147483647, Int.ofNat 2147483647)], [], [], [], [], [], [], [(0, (2, (Int.ofNat 169, []))), (1, (0, (Int.ofNat 0, [(0, Int.ofNat 1)])))], []), [(0, 41, [(3, 0, (Int.ofNat 0, []))], ([(Int.ofNat 0, Int.ofNat 6336)], [], [], [], [], [], [], [], [(0, (Int.ofNat 0, [(1, Int.ofNat 1)]))])), (0, 41, [], ([], [], [], [], [], [], [], [], [(0, (Int.negSucc 0, []))]))], [(169, Int.ofNat 2, Int.ofNat 2), (170, Int.ofNat 29, Int.ofNat 130)], (Int.ofNat 0, []), [])
set_option maxRecDepth 100000 in
theorem uk6 : uck tbq tuq [((14, 11, 0), un5), ((15, 13, 0), un1)] sbs mth mqq 100000 15 14 0 un6 = true := by decide +kernel
theorem ug6 : UG ((15, 14, 0), un6) := ug_of _ uk6 (List.forall_mem_cons.mpr ⟨ug5, List.forall_mem_cons.mpr ⟨ug1, fun _ h => absurd h List.not_mem_nil⟩⟩)
set_option maxRecDepth 100000 in
noncomputable def un7 : UN := ([(0, 1, (Int.ofNat 0, [])), (0, 2, (Int.ofNat 0, [])), (0, 3, (Int.ofNat 0, []))], ([(Int.ofNat 3, Int.ofNat 3), (Int.ofNat 0, Int.ofNat 255), (Int.ofNat 0, Int.ofNat 8)], [], [], [], [], [], [], [(0, (2, (Int.ofNat 169, []))), (1, (0, (Int.ofNat 0, [(0, Int.ofNat 1)]))), (2, (0, (Int.ofNat 0, [(1, Int.ofNat 1)]))), (3, (0, (Int.ofNat 0, [(2, Int.ofNat 1)])))], []), [(1, 92, [(0, 2, (Int.ofNat 0, []))], ([(Int.ofNat 0, Int.ofNat 255)], [], [], [], [], [], [], [(2, (0, (Int.ofNat 0, [(3, Int.ofNat 1)])))], []))], [], (Int.ofNat 0, [(2, Int.ofNat 1)]), [89, 0])
set_option maxRecDepth 100000 in
theorem uk7 : uck tbq tuq [] sbs mth mqq 100000 14 13 100004 un7 = true := by decide +kernel
theorem ug7 : UG ((14, 13, 100004), un7) := ug_of _ uk7 (fun _ h => absurd h List.not_mem_nil)
set_option maxRecDepth 100000 in
noncomputable def un8 : UN := ([(0, 1, (Int.ofNat 0, []))], ([(Int.ofNat 3, Int.ofNat 3)], [], [], [], [], [], [], [(0, (2, (Int.ofNat 169, []))), (1, (0, (Int.ofNat 0, [(0, Int.ofNat 1)])))], []), [(0, 93, [(3, 0, (Int.ofNat 0, []))], ([(Int.ofNat 0, Int.ofNat 255)], [], [], [], [], [], [], [], [(0, (Int.ofNat 0, [(1, Int.ofNat 1)]))]))], [], (Int.ofNat 0, []), [])
set_option maxRecDepth 100000 in
theorem uk8 : uck tbq tuq [((14, 13, 100004), un7)] sbs mth mqq 100000 14 13 0 un8 = true := by decide +kernel
theorem ug8 : UG ((14, 13, 0), un8) := ug_of _ uk8 (List.forall_mem_cons.mpr ⟨ug7, fun _ h => absurd h List.not_mem_nil⟩)
set_option maxRecDepth 100000 in
noncomputable def un9 : UN := ([(0, 2, (Int.ofNat 0, []))], ([(Int.ofNat 0, Int.ofNat 7)], [], [], [], [], [], [], [(0, (2, (Int.ofNat 169, []))), (2, (0, (Int.ofNat 0, [(0, Int.ofNat 1)])))], []), [(0, 59, [], ([], [], [], [], [], [], [], [], [(0, (Int.ofNat 0, []))])), (0, 59, [], ([], [], [], [], [], [], [], [], [(0, (Int.ofNat 1, []))]))], [(170, Int.ofNat 29, Int.ofNat 130), (183, Int.ofNat 3, Int.ofNat 3)], (Int.ofNat 0, []), [59, 0])
set_option maxRecDepth 100000 in
theorem uk9 : uck tbq tuq [((15, 13, 0), un1)] sbs mth mqq 100000 19 1 100054 un9 = true := by decide +kernel
theorem ug9 : UG ((19, 1, 100054), un9) := ug_of _ uk9 (List.forall_mem_cons.mpr ⟨ug1, fun _ h => absurd h List.not_mem_nil⟩)
set_option maxRecDepth 100000 in
noncomputable def un10 : UN := ([(0, 1, (Int.ofNat 0, []))], ([(Int.ofNat 1, Int.ofNat 255)], [], [], [], [], [], [], [(0, (2, (Int.ofNat 169, []))), (1, (0, (Int.ofNat 0, [(0, Int.ofNat 1)])))], []), [(0, 59, [], ([], [], [], [], [], [], [], [], [(0, (Int.ofNat 0, []))])), (0, 59, [], ([], [], [], [], [], [], [], [], [(0, (Int.ofNat 1, []))]))], [(170, Int.ofNat 29, Int.ofNat 130), (183, Int.ofNat 3, Int.ofNat 3)], (Int.ofNat 0, []), [59, 0])
set_option maxRecDepth 100000 in
theorem uk10 : uck tbq tuq [((19, 1, 100054), un9)] sbs mth mqq 100000 19 1 100037 un10 = true := by decide +kernel
theorem ug10 : UG ((19, 1, 100037), un10) := ug_of _ uk10 (List.forall_mem_cons.mpr ⟨ug9, fun _ h => absurd h List.not_mem_nil⟩)
end
section
/-! 45.u02 -/
set_option maxRecDepth 100000 in
noncomputable def un11 : UN := ([(0, 1, (Int.ofNat 0, []))], ([(Int.ofNat 1, Int.ofNat 255)], [], [], [], [], [], [], [(0, (2, (Int.ofNat 169, []))), (1, (0, (Int.ofNat 0, [(0, Int.ofNat 1)])))], []), [(0, 59, [], ([], [], [], [], [], [], [], [], [(0, (Int.ofNat 0, []))])), (0, 59, [], ([], [], [], [], [], [], [], [], [(0, (Int.ofNat 1, []))]))], [(169, Int.ofNat 27, Int.ofNat 27), (170, Int.ofNat 29, Int.ofNat 130), (183, Int.ofNat 3, Int.ofNat 3)], (Int.ofNat 0, []), [59, 0])
end
