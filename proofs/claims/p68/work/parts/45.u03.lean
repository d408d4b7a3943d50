section
/-! 45.u03 -/
set_option maxRecDepth 100000 in
theorem uk11_0 : uck tbq tuq [((19, 1, 100037), un10)] sbs mth mqq 100000 19 1 100012 (uset un11 0 (Int.ofNat 1, Int.ofNat 85)) = true := by decide +kernel
theorem ug11_0 : UG ((19, 1, 100012), uset un11 0 (Int.ofNat 1, Int.ofNat 85)) := ug_of _ uk11_0 (List.forall_mem_cons.mpr ⟨ug10, fun _ h => absurd h List.not_mem_nil⟩)
end
section
/-! 45.u04 -/
set_option maxRecDepth 100000 in
theorem uk11_1 : uck tbq tuq [((19, 1, 100037), un10)] sbs mth mqq 100000 19 1 100012 (uset un11 0 (Int.ofNat 86, Int.ofNat 170)) = true := by decide +kernel
theorem ug11_1 : UG ((19, 1, 100012), uset un11 0 (Int.ofNat 86, Int.ofNat 170)) := ug_of _ uk11_1 (List.forall_mem_cons.mpr ⟨ug10, fun _ h => absurd h List.not_mem_nil⟩)
end
section
/-! 45.u05 -/
set_option maxRecDepth 100000 in
theorem uk11_2 : uck tbq tuq [((19, 1, 100037), un10)] sbs mth mqq 100000 19 1 100012 (uset un11 0 (Int.ofNat 171, Int.ofNat 255)) = true := by decide +kernel
theorem ug11_2 : UG ((19, 1, 100012), uset un11 0 (Int.ofNat 171, Int.ofNat 255)) := ug_of _ uk11_2 (List.forall_mem_cons.mpr ⟨ug10, fun _ h => absurd h List.not_mem_nil⟩)
end
