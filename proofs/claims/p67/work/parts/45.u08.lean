set_option maxRecDepth 100000 in
theorem uk9_0 : uck tbq tuq [((19, 1, 100037), un8)] sbs mth mqq 100000 19 1 100012 (uset un9 0 (Int.ofNat 1, Int.ofNat 63)) = true := by decide +kernel
theorem ug9_0 : UG ((19, 1, 100012), uset un9 0 (Int.ofNat 1, Int.ofNat 63)) := ug_of _ uk9_0 (List.forall_mem_cons.mpr ⟨ug8, fun _ h => absurd h List.not_mem_nil⟩)
