set_option maxRecDepth 100000 in
theorem uk211_1 : uck tbq tuq [] sbs mth mqq 100000 18 11 100038 (uset un211 2 (Int.ofNat 2, Int.ofNat 3)) = true := by decide +kernel
theorem ug211_1 : UG ((18, 11, 100038), uset un211 2 (Int.ofNat 2, Int.ofNat 3)) := ug_of _ uk211_1 (fun _ h => absurd h List.not_mem_nil)
