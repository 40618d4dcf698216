/-! THE REFERENCE: rents (by hand) -/
theorem yIt.kp {nb n : Nat} {tg : Nat → yT} {I I' : Nat → Nat → Int32} {R : Nat → Nat → Value} {it l : Nat} {k : Int} (h : yIt nb n tg I R it l k) (h1 : I' it = I it) (h2 : I' l = I l) : yIt nb n tg I' R it l k := by
  unfold yIt at *; rw [h1, h2]; exact h
section YRU
variable {n : Nat} {tg : Nat → yT} {I : Nat → Nat → Int32} {R : Nat → Nat → Value} {c s : Nat} {Q : yQ}
end YRU
