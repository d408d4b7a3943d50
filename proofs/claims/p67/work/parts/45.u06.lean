theorem ug8 : UG ((19, 1, 100037), un8) := ug_split 0 (Int.ofNat 1) (Int.ofNat 255) [(Int.ofNat 1, Int.ofNat 127), (Int.ofNat 128, Int.ofNat 255)] rfl (fun z h1 h2 => by
  have h1 : (1 : Int) ≤ z := h1
  have h2 : z ≤ 255 := h2
  by_cases g0 : z ≤ 127
  · exact ⟨(Int.ofNat 1, Int.ofNat 127), List.mem_cons_self, by show (1 : Int) ≤ z; omega, by show z ≤ (127 : Int); omega⟩
  exact ⟨(Int.ofNat 128, Int.ofNat 255), List.mem_cons_of_mem _ (List.mem_cons_self), by show (128 : Int) ≤ z; omega, by show z ≤ (255 : Int); omega⟩) ⟨_, List.mem_cons_self⟩ (List.forall_mem_cons.mpr ⟨ug8_0, List.forall_mem_cons.mpr ⟨ug8_1, fun _ h => absurd h List.not_mem_nil⟩⟩)
