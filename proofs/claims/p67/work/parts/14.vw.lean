/-! the classes of the worlds: their words, types, names -/
theorem uw_of {C : String} {T : u_T} {N : Nat} (ps : List (Nat × Nat)) (h : (List.range N).all (fun k => match ps[k]? with | some q => wdq q.1 q.2 (u_lay C T k) | none => false) = true) : ∀ w ∈ u_ws C T N, w ∈ GW := by
  intro w hw
  obtain ⟨k, hk, rfl⟩ := List.mem_map.mp hw
  have h1 := List.all_eq_true.mp h k hk
  cases hp : ps[k]? with
  | none => rw [hp] at h1; cases h1
  | some q => rw [hp] at h1; exact wdq_in h1
theorem uwX0 : ∀ w ∈ u_ws RX0 TX0 2, w ∈ GW := uw_of [(0, 184), (0, 186)] (by decide +kernel)
theorem uwX1 : ∀ w ∈ u_ws RX1 TX1 15, w ∈ GW := uw_of [(1, 6), (1, 8), (1, 10), (1, 12), (1, 14), (1, 16), (1, 18), (1, 20), (1, 22), (1, 24), (1, 26), (1, 28), (1, 30), (1, 32), (1, 34)] (by decide +kernel)
theorem uwX2 : ∀ w ∈ u_ws RX2 TX2 2, w ∈ GW := uw_of [(1, 88), (1, 90)] (by decide +kernel)
theorem uwX3 : ∀ w ∈ u_ws RX3 TX3 9, w ∈ GW := uw_of [(1, 170), (1, 172), (1, 174), (1, 176), (1, 178), (1, 180), (1, 182), (1, 184), (1, 186)] (by decide +kernel)
theorem uwX4 : ∀ w ∈ u_ws RX4 TX4 3, w ∈ GW := uw_of [(1, 141), (1, 143), (1, 145)] (by decide +kernel)
theorem uwX5 : ∀ w ∈ u_ws RX5 TX5 6, w ∈ GW := uw_of [(0, 161), (0, 163), (0, 165), (0, 167), (0, 169), (0, 171)] (by decide +kernel)
theorem uwX6 : ∀ w ∈ u_ws RX6 TX6 2, w ∈ GW := uw_of [(1, 125), (1, 127)] (by decide +kernel)
theorem uwX7 : ∀ w ∈ u_ws RX7 TX7 8, w ∈ GW := uw_of [(1, 63), (1, 65), (1, 67), (1, 69), (1, 71), (1, 73), (1, 75), (1, 77)] (by decide +kernel)
theorem uwX8 : ∀ w ∈ u_ws RX8 TX8 5, w ∈ GW := uw_of [(1, 104), (1, 106), (1, 108), (1, 110), (1, 112)] (by decide +kernel)
theorem uwX9 : ∀ w ∈ u_ws RX9 TX9 12, w ∈ GW := uw_of [(0, 107), (0, 109), (0, 111), (0, 113), (0, 115), (0, 117), (0, 119), (0, 121), (0, 123), (0, 125), (0, 127), (0, 129)] (by decide +kernel)
theorem uwX10 : ∀ w ∈ u_ws RX10 TX10 4, w ∈ GW := uw_of [(1, 203), (1, 205), (1, 207), (1, 209)] (by decide +kernel)
theorem uwX11 : ∀ w ∈ u_ws RX11 TX11 18, w ∈ GW := uw_of [(1, 230), (1, 232), (1, 234), (1, 236), (1, 238), (2, 0), (2, 2), (2, 4), (2, 6), (2, 8), (2, 10), (2, 12), (2, 14), (2, 16), (2, 18), (2, 20), (2, 22), (2, 24)] (by decide +kernel)
theorem uwX12 : ∀ w ∈ u_ws RX12 TX12 34, w ∈ GW := uw_of [(6, 45), (6, 47), (6, 49), (6, 51), (6, 53), (6, 55), (6, 57), (6, 59), (6, 61), (6, 63), (6, 65), (6, 67), (6, 69), (6, 71), (6, 73), (6, 75), (6, 77), (6, 79), (6, 81), (6, 83), (6, 85), (6, 87), (6, 89), (6, 91), (6, 93), (6, 95), (6, 97), (6, 99), (6, 101), (6, 103), (6, 105), (6, 107), (6, 109), (6, 111)] (by decide +kernel)
def VwOk : Prop := ∀ (ci : Nat) (q : vw_C), vwCl[ci]? = some q → (∀ w ∈ u_ws q.1 q.2.1 q.2.2, w ∈ GW) ∧ (∃ ty0 : Nat → FieldType, ∀ k, k < q.2.2 → parseFieldDescriptor (q.2.1 k).2.2.1 = some (ty0 k)) ∧ (∀ a, a < q.2.2 → ∀ b, b < q.2.2 → a ≠ b → (q.2.1 a).2.1 ≠ (q.2.1 b).2.1) ∧ ci < 13
theorem vw_ok : VwOk := by
  intro ci q hq
  match ci, hq with
  | 0, hq => cases hq; exact ⟨uwX0, ⟨tyX0, tyX0_ok⟩, nmX0, by decide⟩
  | 1, hq => cases hq; exact ⟨uwX1, ⟨tyX1, tyX1_ok⟩, nmX1, by decide⟩
  | 2, hq => cases hq; exact ⟨uwX2, ⟨tyX2, tyX2_ok⟩, nmX2, by decide⟩
  | 3, hq => cases hq; exact ⟨uwX3, ⟨tyX3, tyX3_ok⟩, nmX3, by decide⟩
  | 4, hq => cases hq; exact ⟨uwX4, ⟨tyX4, tyX4_ok⟩, nmX4, by decide⟩
  | 5, hq => cases hq; exact ⟨uwX5, ⟨tyX5, tyX5_ok⟩, nmX5, by decide⟩
  | 6, hq => cases hq; exact ⟨uwX6, ⟨tyX6, tyX6_ok⟩, nmX6, by decide⟩
  | 7, hq => cases hq; exact ⟨uwX7, ⟨tyX7, tyX7_ok⟩, nmX7, by decide⟩
  | 8, hq => cases hq; exact ⟨uwX8, ⟨tyX8, tyX8_ok⟩, nmX8, by decide⟩
  | 9, hq => cases hq; exact ⟨uwX9, ⟨tyX9, tyX9_ok⟩, nmX9, by decide⟩
  | 10, hq => cases hq; exact ⟨uwX10, ⟨tyX10, tyX10_ok⟩, nmX10, by decide⟩
  | 11, hq => cases hq; exact ⟨uwX11, ⟨tyX11, tyX11_ok⟩, nmX11, by decide⟩
  | 12, hq => cases hq; exact ⟨uwX12, ⟨tyX12, tyX12_ok⟩, nmX12, by decide⟩
  | n + 13, hq => simp [vwCl] at hq
