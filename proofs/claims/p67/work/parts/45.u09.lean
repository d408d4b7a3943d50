set_option maxRecDepth 100000 in
theorem uk9_1 : uck tbq tuq [((19, 1, 100037), un8)] sbs mth mqq 100000 19 1 100012 (uset un9 0 (Int.ofNat 64, Int.ofNat 127)) = true := by decide +kernel
theorem ug9_1 : UG ((19, 1, 100012), uset un9 0 (Int.ofNat 64, Int.ofNat 127)) := ug_of _ uk9_1 (List.forall_mem_cons.mpr ⟨ug8, fun _ h => absurd h List.not_mem_nil⟩)
