/-! lonely, net, due, deepest, gracious -/
section PQ9
variable {sl : Nat} {si : Nat → Int} {h h1 h2 : PH} {a b c d e v w : Int}
end PQ9
