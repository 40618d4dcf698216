/-! WHAT IS TOLD OF A VENTURE, ON BOTH SIDES (by ex8v.py) -/
/-- which row of a venture is asked for -/
def yOVf (w : Int) : Nat := if w = 0 then 1 else if w = 1 then 2 else 3
section YXV8
variable {n : Nat} {tg : Nat → yT} {I : Nat → Nat → Int32} {R : Nat → Nat → Value} {c s : Nat} {Q : yQ}
end YXV8
section YXW8
variable {K nb n : Nat} {tg : Nat → yT} {I : Nat → Nat → Int32} {R : Nat → Nat → Value} {c s : Nat} {Q : yQ}
end YXW8
