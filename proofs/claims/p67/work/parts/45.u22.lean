set_option maxRecDepth 100000 in
theorem uk211_3 : uck tbq tuq [] sbs mth mqq 100000 18 11 100038 (uset un211 2 (Int.ofNat 6, Int.ofNat 7)) = true := by decide +kernel
theorem ug211_3 : UG ((18, 11, 100038), uset un211 2 (Int.ofNat 6, Int.ofNat 7)) := ug_of _ uk211_3 (fun _ h => absurd h List.not_mem_nil)
