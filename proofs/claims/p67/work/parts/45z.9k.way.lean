/-! way, aim -/
def E28 (h h' : PH) : Prop := ∀ c k : Nat, ¬ (c = 169 ∧ k = 2) → ¬ (c = 178 ∧ k < 7) → h' c k = h c k
theorem E28.u {h h' : PH} (e : E78 h h') {x : Int} : E28 h (uph h' 169 2 x) := fun c k q1 q2 => by rw [up_ne q1]; exact e c k q2
theorem E28.s {h : PH} {x : Int} : E28 h (uph h 169 2 x) := fun c k q1 q2 => up_ne q1
section PQ9
variable {sl : Nat} {si : Nat → Int} {h h1 h2 : PH} {a b c d e v w : Int}
end PQ9
