/-! WHAT IS TOLD, ON BOTH SIDES; THE BOARD'S PAST (rel9r.lean) -/
section YVL9
variable {K K1 n : Nat} {tg : Nat → yT} {I : Nat → Nat → Int32} {R : Nat → Nat → Value}
end YVL9
/-! the board's past -/
/-- five questions as five bits -/
def yQb (b0 b1 b2 b3 b4 : Bool) : Int32 :=
  let a0 := if b0 then Int32.ofInt 0 ||| Int32.ofInt 1 <<< (Int32.ofInt 0 &&& 31) else Int32.ofInt 0
  let a1 := if b1 then a0 ||| Int32.ofInt 1 <<< (Int32.ofInt 1 &&& 31) else a0
  let a2 := if b2 then a1 ||| Int32.ofInt 1 <<< (Int32.ofInt 2 &&& 31) else a1
  let a3 := if b3 then a2 ||| Int32.ofInt 1 <<< (Int32.ofInt 3 &&& 31) else a2
  if b4 then a3 ||| Int32.ofInt 1 <<< (Int32.ofInt 4 &&& 31) else a3
theorem yQb_bit : ∀ b0 b1 b2 b3 b4 : Bool, ∀ q : Fin 5, decide ((((yQb b0 b1 b2 b3 b4).toInt8.toInt32 >>> (Int32.ofInt (q.val : Int) &&& 31)) &&& Int32.ofInt 1).toInt = 1) = (if q.val = 0 then b0 else if q.val = 1 then b1 else if q.val = 2 then b2 else if q.val = 3 then b3 else b4) := by decide +kernel
theorem yQs_b {I : Nat → Nat → Int32} : yQs I 5 = yQb (decide (3 ≤ (yBC (I 36 0)).toInt)) (decide (3 ≤ (yBC (I 36 1)).toInt)) (decide (3 ≤ (yBC (I 36 2)).toInt)) (decide (3 ≤ (yBC (I 36 3)).toInt)) (decide (3 ≤ (yBC (I 36 4)).toInt)) := by
  unfold yQb
  simp only [decide_eq_true_eq]
  rfl
theorem yQs_bit {I : Nat → Nat → Int32} {q : Nat} (hq : q < 5) : (((yQs I 5).toInt8.toInt32 >>> (Int32.ofInt (q : Int) &&& 31)) &&& Int32.ofInt 1).toInt = 1 ↔ 3 ≤ (yBC (I 36 q)).toInt := by
  rw [yQs_b]
  have h := yQb_bit (decide (3 ≤ (yBC (I 36 0)).toInt)) (decide (3 ≤ (yBC (I 36 1)).toInt)) (decide (3 ≤ (yBC (I 36 2)).toInt)) (decide (3 ≤ (yBC (I 36 3)).toInt)) (decide (3 ≤ (yBC (I 36 4)).toInt)) ⟨q, hq⟩
  have k : ∀ {A B : Prop} [Decidable A] [Decidable B], decide A = decide B → (A ↔ B) := fun h => by
    constructor
    · intro a; exact of_decide_eq_true (by rw [← h]; exact decide_eq_true a)
    · intro b; exact of_decide_eq_true (by rw [h]; exact decide_eq_true b)
  rcases (by omega : q = 0 ∨ q = 1 ∨ q = 2 ∨ q = 3 ∨ q = 4) with rfl | rfl | rfl | rfl | rfl
  · exact k h
  · exact k h
  · exact k h
  · exact k h
  · exact k h
section YPS9
variable {K n n1 : Nat} {tg tg1 : Nat → yT} {I Ia I1 C : Nat → Nat → Int32} {R Ra R1 : Nat → Nat → Value} {q d : Int} {j : Nat}
theorem yHw_ft (hF : yFt I Ia) (hR : yRI K n tg I R) (hL : yLk I R Ra) : yHw Ia Ra q d j (Ia 87 2).toInt.toNat = yHw I R q d j (I 87 2).toInt.toNat := by
  rw [hF.hi (show 83 ≤ 87 by decide)]
  exact yHw_eq fun i hi => ⟨hL 87 (by decide) (by decide) i (by omega), hF.hi (by have := (hR.l87.2.2.2.2 i (by omega)).2.1; omega)⟩
/-- a call that tells the board nothing, on a day that stays -/
theorem yP9.kp (h : yP9 I R) (hR : yRI K n tg I R) (hF : yFt I Ia) (hL : yLk I R Ra) (h37 : Ia 37 = I 37) (h34 : (I1 34 8).toInt = (I 34 8).toInt) (hK : yKp n tg Ia Ra n1 tg1 I1 R1) : yP9 I1 R1 := fun d hd q hq => by
  rw [h34] at hd
  rw [hK.2.2.1 37 (by decide), h37, ySum_eq (fun j _ => (yHw_kp (q := (q : Int)) (d := (d : Int)) (j := j) hK).trans (yHw_ft hF hR hL))]
  exact h d hd q hq
theorem yHw_eq9 (h : ∀ i : Nat, i < (I 87 2).toInt.toNat → yAd Ra 87 i = yAd R 87 i ∧ Ia (yAd R 87 i) = I (yAd R 87 i)) (hs : Ia 87 2 = I 87 2) : yHw Ia Ra q d j (Ia 87 2).toInt.toNat = yHw I R q d j (I 87 2).toInt.toNat := by
  rw [hs]; exact yHw_eq h
/-- a word is told: the days that are over stay -/
theorem yP9.hold (h : yP9 I R) (h37 : I1 37 = I 37) (h34 : (I1 34 8).toInt = (I 34 8).toInt) (hw : ∀ (q d : Int) (j : Nat), d < (I 34 8).toInt → yHw I1 R1 q d j (I1 87 2).toInt.toNat = yHw I R q d j (I 87 2).toInt.toNat) : yP9 I1 R1 := fun d hd q hq => by
  rw [h34] at hd
  rw [h37, ySum_eq (fun j _ => hw (q : Int) (d : Int) j hd)]
  exact h d hd q hq
theorem yDy_37 {k : Nat} : yDy C k 37 = upd2 C 37 (C 34 8).toInt.toNat (yQs C 5).toInt8.toInt32 37 := by
  unfold yDy
  rw [yAlm_row (by decide) (by decide), yDyC_row (by decide) (by decide) (by decide) (by decide)]
  unfold yDyD
  rw [upd2_row (by decide)]
  unfold yDyB
  exact yRec_keep fun J k _ _ => upd2_row (by decide)
theorem yQs_cg (h : ∀ k, C 36 k = I 36 k) : yQs C 5 = yQs I 5 := by
  rw [yQs_b, yQs_b, h, h, h, h, h]
theorem yDys_37 : ∀ m : Nat, 0 ≤ (I 34 8).toInt → (I 34 8).toInt + (m : Int) ≤ 4000 → ∀ d : Nat, yRec yDy I m 37 d = if (I 34 8).toInt ≤ (d : Int) ∧ (d : Int) < (I 34 8).toInt + (m : Int) then (yQs I 5).toInt8.toInt32 else I 37 d
  | 0, _, _, d => by rw [if_neg (by omega)]; rfl
  | m + 1, h0, h, d => by
    have ih := yDys_37 m h0 (by omega) d
    obtain ⟨a1, -, -⟩ := yDys_34 (I := I) m h0 (by omega)
    have e36 : ∀ k, yRec yDy I m 36 k = I 36 k := fun k => congrFun (yDys_row (by decide)) k
    show yDy (yRec yDy I m) m 37 d = _
    rw [yDy_37, yQs_cg e36]
    by_cases e : d = (yRec yDy I m 34 8).toInt.toNat
    · rw [e, upd2_self, if_pos (by omega)]
    · rw [upd2_ne (.inr e), ih]
      by_cases c : (I 34 8).toInt ≤ (d : Int) ∧ (d : Int) < (I 34 8).toInt + (m : Int)
      · rw [if_pos c, if_pos (by omega)]
      · rw [if_neg c, if_neg (by omega)]
/-- days pass -/
theorem yP9.pass {m k : Nat} {v : Value} (h : yP9 I R) (h4 : yR4 I R) (hR : yRI K n tg I R) (hm : (I 83 1).toInt + (m : Int) ≤ 4000) (eA : Ia = yRec yDy I m) (eR : Ra = upd2 R 93 k v) (hK : yKp n tg Ia Ra n1 tg1 I1 R1) : yP9 I1 R1 := fun d hd q hq => by
  have hN := hR.1
  have hday : (I 34 8).toInt = (I 83 1).toInt := h4.1.2.1
  have hF : yFt I Ia := fun a j ha => by
    rw [eA]
    exact congrFun (yDys_row (by omega)) j
  have hL : yLk I R Ra := by rw [eR]; exact yLk.out hR
  obtain ⟨a1, -, -⟩ := yDys_34 (I := I) m (by omega) (by omega)
  have e37 := yDys_37 (I := I) m (by omega) (by omega) d
  rw [hK.2.2.1 34 (by decide), eA] at hd
  rw [hK.2.2.1 37 (by decide), eA, e37, ySum_eq (fun j _ => (yHw_kp (q := (q : Int)) (d := (d : Int)) (j := j) hK).trans (yHw_ft hF hR hL))]
  by_cases c : (d : Int) < (I 34 8).toInt
  · rw [if_neg (by omega)]; exact h d c q hq
  · rw [if_pos (by omega), yQs_bit hq, ← h4.2.1.al hR hq, ySum_eq (fun j _ => (yHw_all (I := I) (R := R) (q := (q : Int)) (d := (d : Int)) (j := j) (k := (I 87 2).toInt.toNat) (fun i hi => by have := (hR.2.2.2.2.2.1 i (by omega)).1; omega)).symm)]
/-! parts paid -/
theorem upd2_ite {A : Nat → Nat → Int32} {a k j : Nat} {z : Int32} : upd2 A a k z a j = if j = k then z else A a j := by
  by_cases h : j = k
  · rw [if_pos h, h, upd2_self]
  · rw [if_neg h, upd2_ne (.inr h)]
theorem yPdd.st (h : yPdd I) (h48 : (I1 48 0).toInt = (I 48 0).toInt) (h54 : I1 54 = I 54) (h55 : I1 55 = I 55) : yPdd I1 := fun j hj => by
  rw [h48] at hj
  rw [h54, h55]; exact h j hj
theorem yPdd.pay (h : yPdd I) {x : Nat} (h48 : (I1 48 0).toInt = (I 48 0).toInt) (h54 : I1 54 = I 54) (h55 : ∀ j, I1 55 j = if j = x then I 55 x + Int32.ofInt 1 else I 55 j) (hx : (I 55 x).toInt < (I 54 x).toInt) : yPdd I1 := fun j hj => by
  rw [h48] at hj
  rw [h54, h55 j]
  by_cases e : j = x
  · have := Int32.toInt_lt (I 54 x)
    rw [if_pos e, e, yinc (by omega)]; omega
  · rw [if_neg e]; exact h j hj
theorem yPdd.sell (h : yPdd I) {k : Nat} {x : Int32} (hk : (k : Int) = (I 48 0).toInt) (h48 : (I1 48 0).toInt = (I 48 0).toInt + 1) (h54 : ∀ j, I1 54 j = if j = k then x else I 54 j) (h55 : I1 55 = I 55) (hx : 1 ≤ x.toInt) (hz : I 55 k = Int32.ofInt 0) : yPdd I1 := fun j hj => by
  have z0 : (Int32.ofInt 0).toInt = 0 := by decide
  rw [h48] at hj
  rw [h54 j, h55]
  by_cases e : j = k
  · rw [if_pos e, e, hz, z0]; omega
  · rw [if_neg e]; exact h j (by omega)
end YPS9
section YSN9
variable {K K1 n : Nat} {tg : Nat → yT} {I : Nat → Nat → Int32} {R : Nat → Nat → Value}
end YSN9
