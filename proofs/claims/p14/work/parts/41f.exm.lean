/-! THE REFERENCE, EXACTLY, as far as counts, the day and the benchmark go (by ex1m.py) -/
section YEM
variable {K nb n : Nat} {tg : Nat → yT} {I : Nat → Nat → Int32} {R : Nat → Nat → Value} {c s : Nat} {Q : yQ}
theorem yadd4 {a b : Int32} (h0 : 0 ≤ a.toInt) (h1 : a.toInt ≤ 4000) (h2 : 1 ≤ b.toInt) (h3 : b.toInt ≤ 400) : (a + b).toInt = a.toInt + b.toInt := yadd (by omega) (by omega)
end YEM
