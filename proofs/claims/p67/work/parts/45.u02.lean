set_option maxRecDepth 100000 in
noncomputable def un7 : UN := ([(0, 1, (Int.ofNat 0, []))], ([(Int.ofNat 0, Int.ofNat 7)], [], [], [], [], [], [], [(0, (2, (Int.ofNat 169, []))), (1, (0, (Int.ofNat 0, [(0, Int.ofNat 1)])))], []), [(0, 9, [], ([], [], [], [], [], [], [], [], [(0, (Int.ofNat 0, []))])), (0, 137, [], ([], [], [], [], [], [], [], [], [(0, (Int.ofNat 1, []))]))], [(170, Int.ofNat 29, Int.ofNat 130)], (Int.ofNat 0, []), [])
set_option maxRecDepth 100000 in
theorem uk7 : uck tbq tuq [((15, 13, 100024), un6)] sbs mth mqq 100000 15 13 0 un7 = true := by decide +kernel
theorem ug7 : UG ((15, 13, 0), un7) := ug_of _ uk7 (List.forall_mem_cons.mpr ⟨ug6, fun _ h => absurd h List.not_mem_nil⟩)
