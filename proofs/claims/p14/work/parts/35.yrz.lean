/-! THE RELATION OF THE TWO BOARDS: a row of the class is the mask of who is for it, as the reference's words tell -/
def yMk (f : Nat → Int) : Int32 := Int32.ofInt (f 0 + 2 * f 1 + 4 * f 2 + 8 * f 3 + 16 * f 4)
def yG (b : Bool) : Int := bif b then 1 else 0
def yHr (I : Nat → Nat → Int32) (R : Nat → Nat → Value) : Prop := ∀ q : Nat, q < 5 → I 36 q = yMk (fun j => yHv I R (q : Int) j (I 87 2).toInt.toNat)
theorem yMk_all : ∀ b0 b1 b2 b3 b4 : Bool, (yBC (Int32.ofInt (yG b0 + 2 * yG b1 + 4 * yG b2 + 8 * yG b3 + 16 * yG b4))).toInt = 0 + yG b0 + yG b1 + yG b2 + yG b3 + yG b4 := by decide +kernel
theorem yVo_all : ∀ (b0 b1 b2 b3 b4 v : Bool) (z : Fin 5), yVo (Int32.ofInt (yG b0 + 2 * yG b1 + 4 * yG b2 + 8 * yG b3 + 16 * yG b4)) (Int32.ofInt (z : Nat)) (Int32.ofInt (yG v)) = Int32.ofInt ((if z = 0 then yG v else yG b0) + 2 * (if z = 1 then yG v else yG b1) + 4 * (if z = 2 then yG v else yG b2) + 8 * (if z = 3 then yG v else yG b3) + 16 * (if z = 4 then yG v else yG b4)) := by decide +kernel
theorem yG_of {z : Int} (h : z = 0 ∨ z = 1) : ∃ b, z = yG b := by
  rcases h with h | h
  · exact ⟨false, h⟩
  · exact ⟨true, h⟩
theorem yMk_bc {f : Nat → Int} (h : ∀ j, j < 5 → f j = 0 ∨ f j = 1) : (yBC (yMk f)).toInt = ySum f 5 := by
  obtain ⟨b0, e0⟩ := yG_of (h 0 (by decide))
  obtain ⟨b1, e1⟩ := yG_of (h 1 (by decide))
  obtain ⟨b2, e2⟩ := yG_of (h 2 (by decide))
  obtain ⟨b3, e3⟩ := yG_of (h 3 (by decide))
  obtain ⟨b4, e4⟩ := yG_of (h 4 (by decide))
  show (yBC (yMk f)).toInt = 0 + f 0 + f 1 + f 2 + f 3 + f 4
  unfold yMk
  rw [e0, e1, e2, e3, e4]
  exact yMk_all b0 b1 b2 b3 b4
theorem yVo_x3 {m x1 x3 y3 : Int32} (h : x3.toInt = 0 ↔ y3.toInt = 0) : yVo m x1 x3 = yVo m x1 y3 := by
  unfold yVo
  by_cases h0 : x3.toInt = 0
  · rw [if_pos h0, if_pos (h.mp h0)]
  · rw [if_neg h0, if_neg (fun e => h0 (h.mpr e))]
theorem yVo_mk {f : Nat → Int} {x1 x3 : Int32} (h : ∀ j, j < 5 → f j = 0 ∨ f j = 1) (h1 : 0 ≤ x1.toInt ∧ x1.toInt ≤ 4) : yVo (yMk f) x1 x3 = yMk (fun j => if x1.toInt = (j : Int) then (if x3.toInt = 0 then 0 else 1) else f j) := by
  obtain ⟨b0, e0⟩ := yG_of (h 0 (by decide))
  obtain ⟨b1, e1⟩ := yG_of (h 1 (by decide))
  obtain ⟨b2, e2⟩ := yG_of (h 2 (by decide))
  obtain ⟨b3, e3⟩ := yG_of (h 3 (by decide))
  obtain ⟨b4, e4⟩ := yG_of (h 4 (by decide))
  have hv : ∃ v : Bool, (if x3.toInt = 0 then (0 : Int) else 1) = yG v ∧ (x3.toInt = 0 ↔ (Int32.ofInt (yG v)).toInt = 0) := by
    by_cases h0 : x3.toInt = 0
    · exact ⟨false, if_pos h0, fun _ => by decide, fun _ => h0⟩
    · exact ⟨true, if_neg h0, fun e => absurd e h0, fun e => absurd e (by decide)⟩
  obtain ⟨v, ev, hv⟩ := hv
  have hx : x1 = Int32.ofInt x1.toInt := (Int32.ofInt_toInt x1).symm
  rw [yVo_x3 hv, show yMk (fun j => if x1.toInt = (j : Int) then (if x3.toInt = 0 then 0 else 1) else f j) = Int32.ofInt ((if x1.toInt = 0 then (if x3.toInt = 0 then 0 else 1) else f 0) + 2 * (if x1.toInt = 1 then (if x3.toInt = 0 then 0 else 1) else f 1) + 4 * (if x1.toInt = 2 then (if x3.toInt = 0 then 0 else 1) else f 2) + 8 * (if x1.toInt = 3 then (if x3.toInt = 0 then 0 else 1) else f 3) + 16 * (if x1.toInt = 4 then (if x3.toInt = 0 then 0 else 1) else f 4)) from rfl]
  unfold yMk
  rw [ev, e0, e1, e2, e3, e4]
  generalize x1.toInt = z at *
  subst hx
  rcases (by omega : z = 0 ∨ z = 1 ∨ z = 2 ∨ z = 3 ∨ z = 4) with rfl | rfl | rfl | rfl | rfl
  · simpa using yVo_all b0 b1 b2 b3 b4 v 0
  · simpa using yVo_all b0 b1 b2 b3 b4 v 1
  · simpa using yVo_all b0 b1 b2 b3 b4 v 2
  · have h : yVo _ (Int32.ofInt 3) _ = _ := yVo_all b0 b1 b2 b3 b4 v 3
    simpa using h
  · have h : yVo _ (Int32.ofInt 4) _ = _ := yVo_all b0 b1 b2 b3 b4 v 4
    simpa using h
theorem yHr.kp {n n1 : Nat} {tg tg1 : Nat → yT} {I I1 : Nat → Nat → Int32} {R R1 : Nat → Nat → Value} (h : yHr I R) (hK : yKp n tg I R n1 tg1 I1 R1) : yHr I1 R1 := fun q hq => by
  rw [hK.2.2.1 36 (by decide), h q hq]
  exact congrArg yMk (funext fun j => (yHv_kp hK).symm)
theorem yHv_lo {I I1 : Nat → Nat → Int32} {R : Nat → Nat → Value} {K nb : Nat} {tg : Nat → yT} {q : Int} {j : Nat} (h : yRI K nb tg I R) (hI : ∀ a, 83 ≤ a → I1 a = I a) : yHv I1 R q j (I1 87 2).toInt.toNat = yHv I R q j (I 87 2).toInt.toNat := by
  rw [hI 87 (by decide)]
  exact yHv_eq fun i hi => ⟨rfl, hI _ (by have := (h.l87.2.2.2.2 i (by have := h.l87.2.2.2.1; omega)).2.1; omega)⟩
theorem yHr.ft {K nb : Nat} {tg : Nat → yT} {I I1 : Nat → Nat → Int32} {R : Nat → Nat → Value} (h : yHr I R) (hr : yRI K nb tg I R) (hF : yFt I I1) : yHr I1 R := fun q hq => by
  rw [hF 36 q (.inr (.inr rfl)), h q hq]
  exact congrArg yMk (funext fun j => (yHv_lo hr (fun a ha => funext fun k => hF a k (.inr (.inl ha)))).symm)
theorem yRI.ft {K nb : Nat} {tg : Nat → yT} {I I1 : Nat → Nat → Int32} {R : Nat → Nat → Value} (hr : yRI K nb tg I R) (hF : yFt I I1) : yRI K nb tg I1 R := hr.cong fun a ha => funext fun k => hF a k (.inr (.inl (by omega)))
theorem hold_rel {K nb : Nat} {tg : Nat → yT} {I I1 I2 : Nat → Nat → Int32} {R R2 : Nat → Nat → Value} {x1 x2 x3 v : Int32} (hr : yHr I R) (hR : yRI K nb tg I R) (h1 : 0 ≤ x1.toInt ∧ x1.toInt ≤ 4) (h2 : 0 ≤ x2.toInt ∧ x2.toInt ≤ 4)
    (e1 : I1 = upd2 I 36 x2.toInt.toNat (yVo (I 36 x2.toInt.toNat) x1 x3)) (h83 : ∀ a, a < 83 → I2 a = I1 a)
    (hh : ∀ (q : Int) (j : Nat), yHv I2 R2 q j (I2 87 2).toInt.toNat = if x2.toInt = q ∧ x1.toInt = (j : Int) then (if x3.toInt = 0 then 0 else 1) else yHv I1 R q j (I1 87 2).toInt.toNat)
    (hv : v.toInt = ySum (fun j => yHv I2 R2 x2.toInt j (I2 87 2).toInt.toNat) 5) : yHr I2 R2 ∧ yBC (I1 36 x2.toInt.toNat) = v := by
  have hlo : ∀ (q : Int) (j : Nat), yHv I1 R q j (I1 87 2).toInt.toNat = yHv I R q j (I 87 2).toInt.toNat := fun q j => yHv_lo hR (fun a ha => by rw [e1]; exact upd2_row (by omega))
  have h01 : ∀ (q : Int) (j : Nat), j < 5 → yHv I R q j (I 87 2).toInt.toNat = 0 ∨ yHv I R q j (I 87 2).toInt.toNat = 1 := fun q j _ => yHv01 hR (by have := hR.l87.2.2.2.1; omega)
  have hrel : yHr I2 R2 := fun q hq => by
    rw [h83 36 (by decide), e1]
    by_cases hqx : q = x2.toInt.toNat
    · subst hqx
      rw [upd2_self, hr _ hq, yVo_mk (h01 _) h1]
      refine congrArg yMk (funext fun j => ?_)
      rw [hh, hlo, show ((x2.toInt.toNat : Nat) : Int) = x2.toInt by omega]
      by_cases hj : x1.toInt = (j : Int)
      · rw [if_pos (show x2.toInt = x2.toInt ∧ x1.toInt = (j : Int) from ⟨rfl, hj⟩), if_pos hj]
      · rw [if_neg hj, if_neg (fun h => hj h.2)]
    · rw [upd2_ne (.inr hqx), hr _ hq]
      refine congrArg yMk (funext fun j => ?_)
      rw [hh, hlo, if_neg (fun h => hqx (by omega))]
  refine ⟨hrel, yext ?_⟩
  rw [hv, ← congrFun (h83 36 (by decide)) x2.toInt.toNat, hrel _ (by omega), show ((x2.toInt.toNat : Nat) : Int) = x2.toInt by omega]
  refine yMk_bc fun j hj => ?_
  rw [hh, hlo]
  split
  · split <;> simp
  · exact h01 _ j hj
