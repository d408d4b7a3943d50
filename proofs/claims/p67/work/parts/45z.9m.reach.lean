/-! reach, exposed -/
/-- the bits of a set below 256 -/
def BS (v : Int) (P : Nat → Prop) : Prop := (0 ≤ v ∧ v < 256) ∧ ∀ x : Nat, x < 8 → (bB v x = true ↔ P x)
section BSs
variable {v w c n : Int} {P Q : Nat → Prop}
theorem BS.eq (a : BS v P) (b : BS w P) : v = w := b8_x a.1.1 a.1.2 b.1.1 b.1.2 (fun j hj => by
  have x := a.2 j hj
  have y := b.2 j hj
  by_cases q : P j
  · rw [x.mpr q, y.mpr q]
  · have x1 : ¬ bB v j = true := fun z => q (x.mp z)
    have y1 : ¬ bB w j = true := fun z => q (y.mp z)
    simp at x1 y1
    rw [x1, y1])
theorem BS.z : BS 0 (fun _ => False) := ⟨by omega, fun x hx => by rw [bBz x hx]; exact ⟨fun q => absurd q (by decide), fun q => q.elim⟩⟩
theorem one_d : ∀ n : Fin 8, 0 ≤ zshl 1 (n.val : Int) ∧ zshl 1 (n.val : Int) < 256 ∧ ∀ x : Fin 8, bB (zshl 1 (n.val : Int)) x.val = decide (x = n) := by decide +kernel
theorem BS.one (h0 : 0 ≤ n) (h1 : n < 8) : BS (zshl 1 n) (fun x => x = n.toNat) := by
  have z := one_d ⟨n.toNat, by omega⟩
  dsimp only at z
  rw [Int.toNat_of_nonneg h0] at z
  refine ⟨⟨z.1, z.2.1⟩, fun x hx => ?_⟩
  have y := z.2.2 ⟨x, hx⟩
  dsimp only at y
  rw [y]
  simp
theorem BS.or (a : BS v P) (b : BS w Q) : BS (zor v w) (fun x => P x ∨ Q x) := ⟨zor_b a.1.1 a.1.2 b.1.1 b.1.2, fun x hx => by
  rw [bB_or, Bool.or_eq_true, a.2 x hx, b.2 x hx]⟩
end BSs
section RC
variable {n : Nat} {dr : Nat → Nat → Prop} {cl S : Nat → Prop} {f : Nat}
end RC
theorem SB.bt {x m : Int} (h : SB x m) {j : Nat} (hj : j < 8) (hb : bB x j = true) : (j : Int) < m := by
  by_cases z : (j : Int) < m
  · exact z
  · have y := h.2.2 j hj (by omega)
    rw [bt_e hj, if_pos hb] at y
    omega
section PQ9
variable {sl : Nat} {si : Nat → Int} {h h1 h2 : PH} {a b c d e v w : Int}
end PQ9
