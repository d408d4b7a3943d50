set_option maxRecDepth 100000 in
theorem uk209_1 : uck tbq tuq [] sbs mth mqq 100000 18 11 100038 (uset un209 2 (Int.ofNat 2, Int.ofNat 3)) = true := by decide +kernel
theorem ug209_1 : UG ((18, 11, 100038), uset un209 2 (Int.ofNat 2, Int.ofNat 3)) := ug_of _ uk209_1 (fun _ h => absurd h List.not_mem_nil)
