set_option maxRecDepth 100000 in
theorem uk211_2 : uck tbq tuq [] sbs mth mqq 100000 18 11 100038 (uset un211 2 (Int.ofNat 4, Int.ofNat 5)) = true := by decide +kernel
theorem ug211_2 : UG ((18, 11, 100038), uset un211 2 (Int.ofNat 4, Int.ofNat 5)) := ug_of _ uk211_2 (fun _ h => absurd h List.not_mem_nil)
