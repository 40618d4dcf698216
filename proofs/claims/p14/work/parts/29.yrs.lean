/-! THE REFERENCE: result (by gen28.py) -/
theorem yneg2 {x : Int32} (h0 : x.toInt < 0) (h1 : -999 ≤ x.toInt) : 0 ≤ (-x).toInt ∧ (-x).toInt ≤ 999 := by
  rw [show (-x).toInt = -x.toInt by rw [Int32.toInt_neg]; exact bmod32 (by omega) (by omega)]
  omega
section YRS
variable {K nb n : Nat} {tg : Nat → yT} {I : Nat → Nat → Int32} {R : Nat → Nat → Value} {c s : Nat} {Q : yQ}
end YRS
