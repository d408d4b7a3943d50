set_option maxRecDepth 100000 in
theorem uk8_1 : uck tbq tuq [((15, 13, 0), un7)] sbs mth mqq 100000 19 1 100037 (uset un8 0 (Int.ofNat 128, Int.ofNat 255)) = true := by decide +kernel
theorem ug8_1 : UG ((19, 1, 100037), uset un8 0 (Int.ofNat 128, Int.ofNat 255)) := ug_of _ uk8_1 (List.forall_mem_cons.mpr ⟨ug7, fun _ h => absurd h List.not_mem_nil⟩)
