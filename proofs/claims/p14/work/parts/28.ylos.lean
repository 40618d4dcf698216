/-! A VENTURE'S LOSS: its loops (by hand) -/
theorem ydiv {x y : Int32} (hx : 0 ≤ x.toInt) : (x / y).toInt = x.toInt / y.toInt := by
  rw [Int32.toInt_div_of_ne_left x y (fun h => by rw [h] at hx; revert hx; decide), Int.tdiv_eq_ediv_of_nonneg hx]
theorem qdiv {b c a : Int} (h0 : 0 ≤ b) (h1 : b ≤ a) (h2 : 0 ≤ c) (h3 : 0 < a) : 0 ≤ b * c / a ∧ b * c / a ≤ c := by
  refine ⟨Int.ediv_nonneg (Int.mul_nonneg h0 h2) (Int.le_of_lt h3), ?_⟩
  refine Int.ediv_le_of_le_mul h3 ?_
  rw [Int.mul_comm c a]
  exact Int.mul_le_mul_of_nonneg_right h1 h2
theorem yrem9 {x : Int32} (h0 : 0 ≤ x.toInt) (h9 : x.toInt < 9) : (x + Int32.ofInt 1 - (x + Int32.ofInt 1) / Int32.ofInt 9 * Int32.ofInt 9).toInt = (x.toInt + 1) % 9 := by
  have h1 := yinc (x := x) (by omega)
  have h2 := ydiv (x := x + Int32.ofInt 1) (y := Int32.ofInt 9) (by omega)
  rw [h1, yz_9] at h2
  have h3 := ymul (x := (x + Int32.ofInt 1) / Int32.ofInt 9) (y := Int32.ofInt 9) (by rw [h2, yz_9]; omega) (by rw [h2, yz_9]; omega)
  rw [h2, yz_9] at h3
  rw [ysub (by rw [h1, h3]; omega) (by rw [h1, h3]; omega), h1, h3]
  omega
section YLO
variable {n : Nat} {tg : Nat → yT} {I : Nat → Nat → Int32} {R : Nat → Nat → Value} {c s : Nat} {Q : yQ}
theorem losW {v x : Int32} (h0 : 0 ≤ x.toInt) (h1 : x.toInt ≤ 999) (hv : 0 ≤ v.toInt) : ∃ w : Int32, w = (if v < x then v else x) ∧ 0 ≤ w.toInt ∧ w.toInt ≤ 999 ∧ w.toInt ≤ v.toInt := by
  by_cases h : v < x
  · have h2 := Int32.lt_iff_toInt_lt.1 h
    exact ⟨v, (if_pos h).symm, hv, by omega, by omega⟩
  · have h2 : ¬ v.toInt < x.toInt := fun h3 => h (Int32.lt_iff_toInt_lt.2 h3)
    exact ⟨x, (if_neg h).symm, h0, h1, by omega⟩
end YLO
