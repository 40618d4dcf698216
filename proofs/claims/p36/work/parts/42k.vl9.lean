/-! WHAT IS TOLD, ON BOTH SIDES; THE BOARD'S PAST (rel9r.lean) -/
section YVL9
variable {K K1 n : Nat} {tg : Nat → yT} {I : Nat → Nat → Int32} {R : Nat → Nat → Value}
theorem ow_eq (h : yR4 I R) (hR : yRI K1 n tg I R) {p : Int} : yOw I p = mOw I R p := by
  have hn : (I 40 0).toInt = (I 88 2).toInt := h.1.2.2.2.1
  unfold yOw mOw
  rw [hn]
  exact yFz_cg fun j hj => by
    obtain ⟨-, -, t1, -⟩ := tie_th0 h hR (x := j) (by omega) rfl
    show (if (I 42 j).toInt = p then _ else _) = (if (I (yAd R 88 j) 1).toInt = p then _ else _)
    rw [t1]
theorem sa_row (h : yR5 I R) (hR : yRI K1 n tg I R) {j : Nat} (hj : (j : Int) < (I 48 0).toInt) : I (yAd R 89 j) 1 = I 50 j ∧ I (yAd R 89 j) 2 = I 52 j ∧ I (yAd R 89 j) 4 = I 54 j ∧ I (yAd R 89 j) 5 = I 53 j ∧ I (yAd R 89 j) 7 = I 55 j ∧ I (yAd R 89 j) 8 = I 57 j := by
  obtain ⟨-, t⟩ := tie_sa0 h hR hj rfl
  exact ⟨t 1 (by decide), t 2 (by decide), t 4 (by decide), t 5 (by decide), t 7 (by decide), t 8 (by decide)⟩
theorem pl_eq (h : yR5 I R) (hR : yRI K1 n tg I R) (hP : yPdd I) {p : Int} : yPl I p = mPl I R p := by
  have hn : (I 48 0).toInt = (I 89 2).toInt := h.1.1.2.2.2.2.2.2.1
  unfold yPl mPl
  rw [hn]
  exact yFz_cg fun j hj => by
    obtain ⟨t1, -, t4, t5, t7, -⟩ := sa_row h hR (j := j) (by omega)
    have hp := hP j (by omega)
    show (if (I 50 j).toInt = p ∧ (I 53 j).toInt = 0 ∧ (I 55 j).toInt < (I 54 j).toInt then _ else _) = (if (I (yAd R 89 j) 1).toInt = p ∧ (I (yAd R 89 j) 5).toInt = 0 then _ else _)
    rw [t1, t4, t5, t7]
    by_cases c : (I 50 j).toInt = p ∧ (I 53 j).toInt = 0
    · rw [if_pos c]
      by_cases c2 : (I 55 j).toInt < (I 54 j).toInt
      · rw [if_pos ⟨c.1, c.2, c2⟩]
      · rw [if_neg (fun q => c2 q.2.2), show I 54 j = I 55 j from yext (by omega)]
        exact (Int32.sub_self _).symm
    · rw [if_neg c, if_neg (fun q => c ⟨q.1, q.2.1⟩)]
theorem db_eq (h : yR5 I R) (hR : yRI K1 n tg I R) {p : Int} : yDb I p = mDb I R p := by
  have hn : (I 48 0).toInt = (I 89 2).toInt := h.1.1.2.2.2.2.2.2.1
  unfold yDb mDb
  rw [hn]
  exact yFz_cg fun j hj => by
    obtain ⟨t1, t2, t4, t5, t7, -⟩ := sa_row h hR (j := j) (by omega)
    show (if (I 50 j).toInt = p ∧ (I 53 j).toInt = 0 ∧ (I 55 j).toInt < (I 54 j).toInt then I 52 j - I 55 j * yPor (I 52 j).toInt64 (Int64.ofNat 1) (I 54 j).toInt64 else _) = (if (I (yAd R 89 j) 1).toInt = p ∧ (I (yAd R 89 j) 5).toInt = 0 then mLt _ _ _ else _)
    rw [t1, t2, t4, t5, t7]
    have h4 : 1 ≤ (I 54 j).toInt := (h.2.2.2.1 j (by omega)).1.1
    by_cases c : (I 50 j).toInt = p ∧ (I 53 j).toInt = 0
    · rw [if_pos c]
      unfold mLt
      by_cases c2 : (I 55 j).toInt < (I 54 j).toInt
      · rw [if_pos ⟨c.1, c.2, c2⟩, if_pos c2]
        exact congrArg (fun z => I 52 j - I 55 j * z) (yPor_pl (by omega))
      · rw [if_neg (fun q => c2 q.2.2), if_neg c2]
    · rw [if_neg c, if_neg (fun q => c ⟨q.1, q.2.1⟩)]
theorem ol_eq (h : yR4 I R) (hR : yRI K1 n tg I R) {p : Int} : yOl I p = mOl I R p := by
  have hn : (I 59 0).toInt = (I 90 2).toInt := h.1.2.2.2.2.2.2.2
  unfold yOl mOl
  rw [hn]
  exact yFz_cg fun j hj => by
    obtain ⟨-, -, t1, t5⟩ := tie_le0 h hR (x := j) (by omega) rfl
    show (if (I 65 j).toInt = 0 ∧ (I 62 j).toInt = p then _ else _) = (if (I (yAd R 90 j) 1).toInt = p ∧ (I (yAd R 90 j) 5).toInt = 0 then _ else _)
    rw [t1, t5]
    exact ite_congr (propext ⟨fun q => ⟨q.2, q.1⟩, fun q => ⟨q.2, q.1⟩⟩) (fun _ => rfl) (fun _ => rfl)
theorem ce_eq (h : yVn I I R) (hn : (I 69 0).toInt = (I 91 2).toInt) {p : Nat} (hp : p < 9) : yCe I p = mCe I R p := by
  unfold yCe mCe
  rw [hn]
  exact yFz_cg fun j hj => (h.1 j (by omega)).1 1 (by decide) p hp
theorem vd_eq (h : yR5 I R) (hR : yRI K1 n tg I R) : yVd I = mVd I R := by
  have hn : (I 48 0).toInt = (I 89 2).toInt := h.1.1.2.2.2.2.2.2.1
  unfold yVd mVd
  rw [hn]
  exact yFz_cg fun j hj => by
    obtain ⟨-, -, -, t5, -, -⟩ := sa_row h hR (j := j) (by omega)
    show (if (I 53 j).toInt = 0 then _ else _) = (if (I (yAd R 89 j) 5).toInt = 0 then _ else _)
    rw [t5]
theorem dn_eq (h : yR5 I R) (hR : yRI K1 n tg I R) (hP : yPdd I) : yDn I = mDn I R := by
  have hn : (I 48 0).toInt = (I 89 2).toInt := h.1.1.2.2.2.2.2.2.1
  unfold yDn mDn
  rw [hn]
  exact yFz_cg fun j hj => by
    obtain ⟨-, -, t4, t5, t7, -⟩ := sa_row h hR (j := j) (by omega)
    have hp := hP j (by omega)
    show (if (I 53 j).toInt = 0 ∧ (I 54 j).toInt ≤ (I 55 j).toInt then _ else _) = (if (I (yAd R 89 j) 5).toInt = 0 ∧ (I (yAd R 89 j) 7).toInt = (I (yAd R 89 j) 4).toInt then _ else _)
    rw [t4, t5, t7]
    exact ite_congr (propext ⟨fun q => ⟨q.1, by omega⟩, fun q => ⟨q.1, by omega⟩⟩) (fun _ => rfl) (fun _ => rfl)
theorem lo_eq (h : yR4 I R) (hR : yRI K1 n tg I R) : yLo I = mLo I R := by
  have hn : (I 59 0).toInt = (I 90 2).toInt := h.1.2.2.2.2.2.2.2
  unfold yLo mLo
  rw [hn]
  exact yFz_cg fun j hj => by
    obtain ⟨-, -, -, t5⟩ := tie_le0 h hR (x := j) (by omega) rfl
    show (if (I 65 j).toInt = 0 then _ else _) = (if (I (yAd R 90 j) 5).toInt = 0 then _ else _)
    rw [t5]
/-- what is told of somebody -/
theorem op_eq (h : yR8 K I R) (hP : yPdd I) (hR : yRI K1 n tg I R) {x : Int32} {w : Int} (h0 : 0 ≤ x.toInt) (h1 : x.toInt < (I 38 0).toInt) (h8 : (I 38 0).toInt ≤ 8) : yOPv I x w = mOPv I R x w := by
  have h5 : yR5 I R := h.1.1.1
  have hm := h.2.1.2.2.2.1 x.toInt.toNat (by omega)
  unfold yOPv mOPv
  rw [ow_eq h5.1 hR, pl_eq h5 hR hP, db_eq h5 hR, ol_eq h5.1 hR, ce_eq h.2.2.1 h5.1.1.2.2.2.2.1 (by omega), h.2.1.1 x.toInt.toNat (by omega), hm.1.1, hm.1.2]
/-- what is told of the house -/
theorem ho_eq (h : yR8 K I R) (hP : yPdd I) (hR : yRI K1 n tg I R) (h8 : (I 38 0).toInt ≤ 8) {w : Int} : yHo I w = mHo I R w := by
  have h5 : yR5 I R := h.1.1.1
  obtain ⟨r1, r2, r3, r4, r5, r6, r7, r8⟩ := h5.1.1
  obtain ⟨m1, m2, ⟨m3, m4, m5⟩, m6, -⟩ := h.2.1
  have e7 : I 77 2 = I 83 7 := h.1.2.2.2.1.1
  have ed : yFz (I 75) 8 = yFz (I 85) 8 := yFz_cg fun j hj => (m6 j hj).1.1
  have ec : yFz (I 39) (I 38 0).toInt.toNat = yFz (I 84) (I 83 8).toInt.toNat := by
    rw [← r3]; exact yFz_cg fun j hj => m1 j (by omega)
  unfold yHo mHo
  rw [ow_eq h5.1 hR, vd_eq h5 hR, dn_eq h5 hR hP, lo_eq h5.1 hR, ed, ec, e7, m2, m3, m4, m5, m1 8 (by decide), show I 34 8 = I 83 1 from yext r2, show I 34 9 = I 83 4 from yext r1, show I 48 0 = I 89 2 from yext r7, show I 69 0 = I 91 2 from yext r5]
end YVL9
/-! the board's past -/
/-- five questions as five bits -/
def yQb (b0 b1 b2 b3 b4 : Bool) : Int32 :=
  let a0 := if b0 then Int32.ofInt 0 ||| Int32.ofInt 1 <<< (Int32.ofInt 0 &&& 31) else Int32.ofInt 0
  let a1 := if b1 then a0 ||| Int32.ofInt 1 <<< (Int32.ofInt 1 &&& 31) else a0
  let a2 := if b2 then a1 ||| Int32.ofInt 1 <<< (Int32.ofInt 2 &&& 31) else a1
  let a3 := if b3 then a2 ||| Int32.ofInt 1 <<< (Int32.ofInt 3 &&& 31) else a2
  if b4 then a3 ||| Int32.ofInt 1 <<< (Int32.ofInt 4 &&& 31) else a3
theorem yQb_bit : ∀ b0 b1 b2 b3 b4 : Bool, ∀ q : Fin 5, decide ((((yQb b0 b1 b2 b3 b4).toInt8.toInt32 >>> (Int32.ofInt (q.val : Int) &&& 31)) &&& Int32.ofInt 1).toInt = 1) = (if q.val = 0 then b0 else if q.val = 1 then b1 else if q.val = 2 then b2 else if q.val = 3 then b3 else b4) := by decide +kernel
theorem yQs_b {I : Nat → Nat → Int32} : yQs I 5 = yQb (decide (3 ≤ (yBC (I 36 0)).toInt)) (decide (3 ≤ (yBC (I 36 1)).toInt)) (decide (3 ≤ (yBC (I 36 2)).toInt)) (decide (3 ≤ (yBC (I 36 3)).toInt)) (decide (3 ≤ (yBC (I 36 4)).toInt)) := by
  unfold yQb
  simp only [decide_eq_true_eq]
  rfl
theorem yQs_bit {I : Nat → Nat → Int32} {q : Nat} (hq : q < 5) : (((yQs I 5).toInt8.toInt32 >>> (Int32.ofInt (q : Int) &&& 31)) &&& Int32.ofInt 1).toInt = 1 ↔ 3 ≤ (yBC (I 36 q)).toInt := by
  rw [yQs_b]
  have h := yQb_bit (decide (3 ≤ (yBC (I 36 0)).toInt)) (decide (3 ≤ (yBC (I 36 1)).toInt)) (decide (3 ≤ (yBC (I 36 2)).toInt)) (decide (3 ≤ (yBC (I 36 3)).toInt)) (decide (3 ≤ (yBC (I 36 4)).toInt)) ⟨q, hq⟩
  have k : ∀ {A B : Prop} [Decidable A] [Decidable B], decide A = decide B → (A ↔ B) := fun h => by
    constructor
    · intro a; exact of_decide_eq_true (by rw [← h]; exact decide_eq_true a)
    · intro b; exact of_decide_eq_true (by rw [h]; exact decide_eq_true b)
  rcases (by omega : q = 0 ∨ q = 1 ∨ q = 2 ∨ q = 3 ∨ q = 4) with rfl | rfl | rfl | rfl | rfl
  · exact k h
  · exact k h
  · exact k h
  · exact k h
  · exact k h
section YPS9
variable {K n n1 : Nat} {tg tg1 : Nat → yT} {I Ia I1 C : Nat → Nat → Int32} {R Ra R1 : Nat → Nat → Value} {q d : Int} {j : Nat}
theorem yHw_ft (hF : yFt I Ia) (hR : yRI K n tg I R) (hL : yLk I R Ra) : yHw Ia Ra q d j (Ia 87 2).toInt.toNat = yHw I R q d j (I 87 2).toInt.toNat := by
  rw [hF.hi (show 83 ≤ 87 by decide)]
  exact yHw_eq fun i hi => ⟨hL 87 (by decide) (by decide) i (by omega), hF.hi (by have := (hR.l87.2.2.2.2 i (by omega)).2.1; omega)⟩
/-- a call that tells the board nothing, on a day that stays -/
theorem yP9.kp (h : yP9 I R) (hR : yRI K n tg I R) (hF : yFt I Ia) (hL : yLk I R Ra) (h37 : Ia 37 = I 37) (h34 : (I1 34 8).toInt = (I 34 8).toInt) (hK : yKp n tg Ia Ra n1 tg1 I1 R1) : yP9 I1 R1 := fun d hd q hq => by
  rw [h34] at hd
  rw [hK.2.2.1 37 (by decide), h37, ySum_eq (fun j _ => (yHw_kp (q := (q : Int)) (d := (d : Int)) (j := j) hK).trans (yHw_ft hF hR hL))]
  exact h d hd q hq
theorem yHw_eq9 (h : ∀ i : Nat, i < (I 87 2).toInt.toNat → yAd Ra 87 i = yAd R 87 i ∧ Ia (yAd R 87 i) = I (yAd R 87 i)) (hs : Ia 87 2 = I 87 2) : yHw Ia Ra q d j (Ia 87 2).toInt.toNat = yHw I R q d j (I 87 2).toInt.toNat := by
  rw [hs]; exact yHw_eq h
/-- a word is told: the days that are over stay -/
theorem yP9.hold (h : yP9 I R) (h37 : I1 37 = I 37) (h34 : (I1 34 8).toInt = (I 34 8).toInt) (hw : ∀ (q d : Int) (j : Nat), d < (I 34 8).toInt → yHw I1 R1 q d j (I1 87 2).toInt.toNat = yHw I R q d j (I 87 2).toInt.toNat) : yP9 I1 R1 := fun d hd q hq => by
  rw [h34] at hd
  rw [h37, ySum_eq (fun j _ => hw (q : Int) (d : Int) j hd)]
  exact h d hd q hq
theorem yDy_37 {k : Nat} : yDy C k 37 = upd2 C 37 (C 34 8).toInt.toNat (yQs C 5).toInt8.toInt32 37 := by
  unfold yDy
  rw [yAlm_row (by decide) (by decide), yDyC_row (by decide) (by decide) (by decide) (by decide)]
  unfold yDyD
  rw [upd2_row (by decide)]
  unfold yDyB
  exact yRec_keep fun J k _ _ => upd2_row (by decide)
theorem yQs_cg (h : ∀ k, C 36 k = I 36 k) : yQs C 5 = yQs I 5 := by
  rw [yQs_b, yQs_b, h, h, h, h, h]
theorem yDys_37 : ∀ m : Nat, 0 ≤ (I 34 8).toInt → (I 34 8).toInt + (m : Int) ≤ 4000 → ∀ d : Nat, yRec yDy I m 37 d = if (I 34 8).toInt ≤ (d : Int) ∧ (d : Int) < (I 34 8).toInt + (m : Int) then (yQs I 5).toInt8.toInt32 else I 37 d
  | 0, _, _, d => by rw [if_neg (by omega)]; rfl
  | m + 1, h0, h, d => by
    have ih := yDys_37 m h0 (by omega) d
    obtain ⟨a1, -, -⟩ := yDys_34 (I := I) m h0 (by omega)
    have e36 : ∀ k, yRec yDy I m 36 k = I 36 k := fun k => congrFun (yDys_row (by decide)) k
    show yDy (yRec yDy I m) m 37 d = _
    rw [yDy_37, yQs_cg e36]
    by_cases e : d = (yRec yDy I m 34 8).toInt.toNat
    · rw [e, upd2_self, if_pos (by omega)]
    · rw [upd2_ne (.inr e), ih]
      by_cases c : (I 34 8).toInt ≤ (d : Int) ∧ (d : Int) < (I 34 8).toInt + (m : Int)
      · rw [if_pos c, if_pos (by omega)]
      · rw [if_neg c, if_neg (by omega)]
/-- days pass -/
theorem yP9.pass {m k : Nat} {v : Value} (h : yP9 I R) (h4 : yR4 I R) (hR : yRI K n tg I R) (hm : (I 83 1).toInt + (m : Int) ≤ 4000) (eA : Ia = yRec yDy I m) (eR : Ra = upd2 R 93 k v) (hK : yKp n tg Ia Ra n1 tg1 I1 R1) : yP9 I1 R1 := fun d hd q hq => by
  have hN := hR.1
  have hday : (I 34 8).toInt = (I 83 1).toInt := h4.1.2.1
  have hF : yFt I Ia := fun a j ha => by
    rw [eA]
    exact congrFun (yDys_row (by omega)) j
  have hL : yLk I R Ra := by rw [eR]; exact yLk.out hR
  obtain ⟨a1, -, -⟩ := yDys_34 (I := I) m (by omega) (by omega)
  have e37 := yDys_37 (I := I) m (by omega) (by omega) d
  rw [hK.2.2.1 34 (by decide), eA] at hd
  rw [hK.2.2.1 37 (by decide), eA, e37, ySum_eq (fun j _ => (yHw_kp (q := (q : Int)) (d := (d : Int)) (j := j) hK).trans (yHw_ft hF hR hL))]
  by_cases c : (d : Int) < (I 34 8).toInt
  · rw [if_neg (by omega)]; exact h d c q hq
  · rw [if_pos (by omega), yQs_bit hq, ← h4.2.1.al hR hq, ySum_eq (fun j _ => (yHw_all (I := I) (R := R) (q := (q : Int)) (d := (d : Int)) (j := j) (k := (I 87 2).toInt.toNat) (fun i hi => by have := (hR.2.2.2.2.2.1 i (by omega)).1; omega)).symm)]
theorem aw_eq (h : yP9 I R) (h4 : yR4 I R) (hR : yRI K n tg I R) {x1 x2 : Int32} (h1 : 0 ≤ x1.toInt ∧ x1.toInt ≤ 4) (h2 : 0 ≤ x2.toInt ∧ x2.toInt ≤ (I 34 8).toInt) : yAw I x1 x2 = mAw I R x1 x2 := by
  have hday : (I 34 8).toInt = (I 83 1).toInt := h4.1.2.1
  have hN := hR.1
  unfold yAw mAw
  by_cases e : x2.toInt = (I 34 8).toInt
  · have hs := h4.2.1.al hR (q := x1.toInt.toNat) (by omega)
    rw [if_pos e, ySum_eq (fun j _ => yHw_all (I := I) (R := R) (q := x1.toInt) (d := x2.toInt) (j := j) (k := (I 87 2).toInt.toNat) (fun i hi => by have := (hR.2.2.2.2.2.1 i (by omega)).1; omega)), ← hs, show ((x1.toInt.toNat : Nat) : Int) = x1.toInt by omega]
  · have hq := h x2.toInt.toNat (by omega) x1.toInt.toNat (by omega)
    rw [xofn h1.1, show ((x1.toInt.toNat : Nat) : Int) = x1.toInt by omega, show ((x2.toInt.toNat : Nat) : Int) = x2.toInt by omega] at hq
    rw [if_neg e]
    exact ite_congr (propext hq) (fun _ => rfl) (fun _ => rfl)
/-! parts paid -/
theorem upd2_ite {A : Nat → Nat → Int32} {a k j : Nat} {z : Int32} : upd2 A a k z a j = if j = k then z else A a j := by
  by_cases h : j = k
  · rw [if_pos h, h, upd2_self]
  · rw [if_neg h, upd2_ne (.inr h)]
theorem yPdd.st (h : yPdd I) (h48 : (I1 48 0).toInt = (I 48 0).toInt) (h54 : I1 54 = I 54) (h55 : I1 55 = I 55) : yPdd I1 := fun j hj => by
  rw [h48] at hj
  rw [h54, h55]; exact h j hj
theorem yPdd.pay (h : yPdd I) {x : Nat} (h48 : (I1 48 0).toInt = (I 48 0).toInt) (h54 : I1 54 = I 54) (h55 : ∀ j, I1 55 j = if j = x then I 55 x + Int32.ofInt 1 else I 55 j) (hx : (I 55 x).toInt < (I 54 x).toInt) : yPdd I1 := fun j hj => by
  rw [h48] at hj
  rw [h54, h55 j]
  by_cases e : j = x
  · have := Int32.toInt_lt (I 54 x)
    rw [if_pos e, e, yinc (by omega)]; omega
  · rw [if_neg e]; exact h j hj
theorem yPdd.sell (h : yPdd I) {k : Nat} {x : Int32} (hk : (k : Int) = (I 48 0).toInt) (h48 : (I1 48 0).toInt = (I 48 0).toInt + 1) (h54 : ∀ j, I1 54 j = if j = k then x else I 54 j) (h55 : I1 55 = I 55) (hx : 1 ≤ x.toInt) (hz : I 55 k = Int32.ofInt 0) : yPdd I1 := fun j hj => by
  have z0 : (Int32.ofInt 0).toInt = 0 := by decide
  rw [h48] at hj
  rw [h54 j, h55]
  by_cases e : j = k
  · rw [if_pos e, e, hz, z0]; omega
  · rw [if_neg e]; exact h j (by omega)
end YPS9
section YSN9
variable {K K1 n : Nat} {tg : Nat → yT} {I : Nat → Nat → Int32} {R : Nat → Nat → Value}
theorem st_eq (h : yR4 I R) (hR : yRI K1 n tg I R) : ySt I ↔ mSl I R := by
  have h' := h
  obtain ⟨hl, -, -, -, -, hA, hB, hC, -⟩ := h'
  have hn : (I 59 0).toInt = (I 90 2).toInt := hl.2.2.2.2.2.2.2
  have q : ∀ j : Nat, (j : Int) < (I 90 2).toInt → (mSq I R j ↔ ¬ (I 65 j).toInt = 0 ∨ (I 42 (I 60 j).toInt.toNat).toInt = 8 ∧ (I 44 (I 60 j).toInt.toNat).toInt = 0) := fun j hj => by
    obtain ⟨-, t0, -, t5⟩ := tie_le0 h hR (x := j) (by omega) rfl
    have hj2 := hA j (by omega)
    obtain ⟨-, -, u1, -, u3, -⟩ := tie_th0 h hR (x := (I 60 j).toInt.toNat) (by omega) rfl
    unfold mSq
    rw [t0, t5, u1, u3]
  constructor
  · intro hs j hj
    rw [q j hj]
    by_cases e : (I 65 j).toInt = 0
    · have hj2 := hA j (by omega)
      have h47 := hB j (by omega) e
      rcases hs (I 60 j).toInt.toNat (by omega) with a | a
      · omega
      · exact .inr a
    · exact .inl e
  · intro hs i hi
    rcases hC i hi with a | ⟨a0, a1, a2, a3⟩
    · exact .inl a
    · have hq := (q (I 47 i).toInt.toNat (by omega)).1 (hs _ (by omega))
      rw [show (I 60 (I 47 i).toInt.toNat).toInt.toNat = i by omega] at hq
      rcases hq with b | b
      · exact absurd a2 b
      · exact .inr b
/-- sound on both sides, or on none -/
theorem snd_eq (h : yR8 K I R) (hR : yRI K1 n tg I R) : ySnd I ↔ mSnd I R := by
  have h5 : yR5 I R := h.1.1.1
  obtain ⟨r1, r2, r3, r4, r5, r6, r7, r8⟩ := h5.1.1
  obtain ⟨m1, m2, ⟨m3, m4, m5⟩, m6, -⟩ := h.2.1
  have hN := hR.1
  have hf : yFl I = mFl I R := by
    unfold yFl mFl
    rw [r7]
    exact yFz_cg fun j hj => (sa_row h5 hR (j := j) (by omega)).2.2.2.2.2.symm
  have hv : ∀ v : Nat, (v : Int) < (I 91 2).toInt → ((yVs I 72 (Int32.ofInt (v : Int))).toInt ≤ 100 ∧ ySw I v ↔ mSw I R v) := fun v hv => by
    have e2 : yVs I 72 (Int32.ofInt (v : Int)) = yFz (I (yAd R 91 v + 1 + 2)) 9 := by
      unfold yVs
      rw [Int32.toInt_ofInt_of_le (by omega) (by omega), show ((v : Nat) : Int).toNat = v by omega]
      exact h.2.2.1.sum (f := 2) (by decide) hv rfl
    have e1 : ∀ p : Nat, p < 9 → I 71 (v * 9 + p) = I (yAd R 91 v + 1 + 1) p := fun p hp => (h.2.2.1.1 v hv).1 1 (by decide) p hp
    unfold ySw mSw
    rw [e2]
    constructor
    · rintro ⟨a, b⟩
      exact ⟨a, fun p hp => by rw [← e1 p (by omega)]; exact b p hp⟩
    · rintro ⟨a, b⟩
      exact ⟨a, fun p hp => by rw [e1 p (by omega)]; exact b p hp⟩
  have hs : ∀ j : Nat, (j : Int) < (I 48 0).toInt → ((I 53 j).toInt = 0 ∨ (I 55 j).toInt ≤ 0 ↔ (I (yAd R 89 j) 5).toInt = 0 ∨ (I (yAd R 89 j) 7).toInt ≤ 0) := fun j hj => by
    obtain ⟨-, -, -, t5, t7, -⟩ := sa_row h5 hR hj
    rw [t5, t7]
  have hst := st_eq h5.1 hR
  unfold ySnd mSnd
  rw [hst, hf, m2]
  unfold ySp ySv ySs mSs mSv mSd
  rw [m3]
  constructor
  · rintro ⟨⟨a1, a2⟩, a3, a4, a5, a6⟩
    exact ⟨fun j hj => (hs j (by omega)).1 (a5 j (by omega)), fun v hq => (hv v hq).1 (a3 v (by omega)), a4, fun p hp => by rw [← (m6 p (by omega)).1.1]; exact a1 p hp, a2, a6⟩
  · rintro ⟨a1, a2, a3, a4, a5, a6⟩
    exact ⟨⟨fun p hp => by rw [(m6 p (by omega)).1.1]; exact a4 p hp, a5⟩, fun v hq => (hv v (by omega)).2 (a2 v (by omega)), a3, fun j hj => (hs j hj).2 (a1 j (by omega)), a6⟩
end YSN9
theorem mPd_of {K n : Nat} {tg : Nat → yT} {I : Nat → Nat → Int32} {R : Nat → Nat → Value} (h : yR5 I R) (hR : yRI K n tg I R) : mPd I R := fun j hj => by
  have hn : (I 48 0).toInt = (I 89 2).toInt := h.1.1.2.2.2.2.2.2.1
  rw [(sa_row h hR (j := j) (by omega)).2.2.2.2.1]
  exact (h.2.2.2.1 j (by omega)).2.1.1
