/-! told -/
section PQ9
variable {sl : Nat} {si : Nat → Int} {h h1 h2 : PH} {a v w : Int}
end PQ9
