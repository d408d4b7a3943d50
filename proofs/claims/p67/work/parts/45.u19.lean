set_option maxRecDepth 100000 in
theorem uk211_0 : uck tbq tuq [] sbs mth mqq 100000 18 11 100038 (uset un211 2 (Int.ofNat 0, Int.ofNat 1)) = true := by decide +kernel
theorem ug211_0 : UG ((18, 11, 100038), uset un211 2 (Int.ofNat 0, Int.ofNat 1)) := ug_of _ uk211_0 (fun _ h => absurd h List.not_mem_nil)
