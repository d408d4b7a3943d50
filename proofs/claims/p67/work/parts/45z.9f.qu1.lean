/-! questions about a LAND: door, labour, owed -/
theorem RN9.c0 {h h1 L : PH} {x : Int} (r : RN9 h L) (e : h1 = uph h 0 0 x) : RN9 h1 L := r.e (by rw [e]; exact funext (fun k => up_ne (by omega)))
section PQ9
variable {sl : Nat} {si : Nat → Int} {h h1 h2 : PH} {a b c d e v w : Int}
end PQ9
