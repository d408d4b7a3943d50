/-! sets and sums of a LAND -/
theorem bBz : ∀ j : Nat, j < 8 → bB 0 j = false := by decide +kernel
theorem b8_d : ∀ s : Fin 256, (s.val : Int) = (if bB (s.val : Int) 0 then 1 else 0) + (if bB (s.val : Int) 1 then 2 else 0) + (if bB (s.val : Int) 2 then 4 else 0) + (if bB (s.val : Int) 3 then 8 else 0) + (if bB (s.val : Int) 4 then 16 else 0) + (if bB (s.val : Int) 5 then 32 else 0) + (if bB (s.val : Int) 6 then 64 else 0) + (if bB (s.val : Int) 7 then 128 else 0) := by decide +kernel
theorem b8_x {x y : Int} (x0 : 0 ≤ x) (x1 : x < 256) (y0 : 0 ≤ y) (y1 : y < 256) (h : ∀ j : Nat, j < 8 → bB x j = bB y j) : x = y := by
  have a := b8_d ⟨x.toNat, by omega⟩
  have b := b8_d ⟨y.toNat, by omega⟩
  dsimp only at a b
  rw [Int.toNat_of_nonneg x0] at a
  rw [Int.toNat_of_nonneg y0] at b
  rw [a, b, h 0 (by omega), h 1 (by omega), h 2 (by omega), h 3 (by omega), h 4 (by omega), h 5 (by omega), h 6 (by omega), h 7 (by omega)]
theorem zs8 {n : Nat} : (Int32.ofInt (n : Int)).toBitVec = BitVec.ofNat 32 n := rfl
theorem bv8 {x : BitVec 32} (h : x.toNat < 256) : 0 ≤ x.toInt ∧ x.toInt < 256 := by
  rw [BitVec.toInt_eq_toNat_of_lt (by omega)]; omega
theorem zor_b {x y : Int} (h0 : 0 ≤ x) (h1 : x < 256) (g0 : 0 ≤ y) (g1 : y < 256) : 0 ≤ zor x y ∧ zor x y < 256 := by
  obtain ⟨n, rfl⟩ : ∃ n : Nat, x = (n : Int) := ⟨x.toNat, by omega⟩
  obtain ⟨m, rfl⟩ : ∃ n : Nat, y = (n : Int) := ⟨y.toNat, by omega⟩
  show 0 ≤ ((Int32.ofInt (n : Int) ||| Int32.ofInt (m : Int)).toBitVec).toInt ∧ ((Int32.ofInt (n : Int) ||| Int32.ofInt (m : Int)).toBitVec).toInt < 256
  refine bv8 ?_
  rw [Int32.toBitVec_or, zs8, zs8, BitVec.toNat_or, BitVec.toNat_ofNat, BitVec.toNat_ofNat, Nat.mod_eq_of_lt (by omega), Nat.mod_eq_of_lt (by omega)]
  exact Nat.or_lt_two_pow (n := 8) (by omega) (by omega)
/-! within, person -/
section PQ9
variable {sl : Nat} {si : Nat → Int} {h h1 h2 : PH} {a b c d e v w : Int}
end PQ9
