section
/-! 45.u12 -/
set_option maxRecDepth 100000 in
noncomputable def un215 : UN := ([(0, 1, (Int.ofNat 0, [])), (0, 2, (Int.ofNat 0, [])), (0, 3, (Int.ofNat 0, []))], ([(Int.ofNat 0, Int.ofNat 7), (Int.ofNat 0, Int.ofNat 7), (Int.ofNat 0, Int.ofNat 7)], [], [], [], [], [], [], [(0, (2, (Int.ofNat 169, []))), (1, (0, (Int.ofNat 0, [(0, Int.ofNat 1)]))), (2, (0, (Int.ofNat 0, [(1, Int.ofNat 1)]))), (3, (0, (Int.ofNat 0, [(2, Int.ofNat 1)])))], []), [(0, 111, [], ([], [], [], [], [], [], [], [], [(0, (Int.negSucc 0, []))])), (0, 98, [(3, 0, (Int.ofNat 0, []))], ([(Int.negSucc 2147483647, Int.ofNat 2147483647)], [], [], [], [], [], [], [], [(0, (Int.ofNat 0, [(3, Int.ofNat 1)]))])), (0, 98, [(3, 0, (Int.ofNat 0, []))], ([(Int.ofNat 0, Int.ofNat 33)], [], [], [], [], [], [], [], [(0, (Int.ofNat 0, [(3, Int.ofNat 1)]))]))], [(169, Int.ofNat 2, Int.ofNat 2)], (Int.ofNat 0, []), [111, 0, 1, 2])
end
section
/-! 45.u13 -/
set_option maxRecDepth 100000 in
theorem uk215_0 : uck tbq tuq [((15, 10, 0), un214)] sbs mth mqq 100000 18 11 100038 (uset un215 2 (Int.ofNat 0, Int.ofNat 3)) = true := by decide +kernel
theorem ug215_0 : UG ((18, 11, 100038), uset un215 2 (Int.ofNat 0, Int.ofNat 3)) := ug_of _ uk215_0 (List.forall_mem_cons.mpr ⟨ug214, fun _ h => absurd h List.not_mem_nil⟩)
end
section
/-! 45.u14 -/
set_option maxRecDepth 100000 in
theorem uk215_1 : uck tbq tuq [((15, 10, 0), un214)] sbs mth mqq 100000 18 11 100038 (uset un215 2 (Int.ofNat 4, Int.ofNat 7)) = true := by decide +kernel
theorem ug215_1 : UG ((18, 11, 100038), uset un215 2 (Int.ofNat 4, Int.ofNat 7)) := ug_of _ uk215_1 (List.forall_mem_cons.mpr ⟨ug214, fun _ h => absurd h List.not_mem_nil⟩)
end
