/-! WHAT THE REFERENCE TELLS, EXACTLY (by ex9m.py) -/
/-- what the reference tells, as the class's side tells it (yOw ..) -/
def mOw (I : Nat → Nat → Int32) (R : Nat → Nat → Value) (p : Int) : Int32 := yFz (fun j => if (I (yAd R 88 j) 1).toInt = p then Int32.ofInt 1 else Int32.ofInt 0) (I 88 2).toInt.toNat
def mPl (I : Nat → Nat → Int32) (R : Nat → Nat → Value) (p : Int) : Int32 := yFz (fun j => if (I (yAd R 89 j) 1).toInt = p ∧ (I (yAd R 89 j) 5).toInt = 0 then I (yAd R 89 j) 4 - I (yAd R 89 j) 7 else Int32.ofInt 0) (I 89 2).toInt.toNat
/-- what is left of a sale -/
def mLt (pr pa k : Int32) : Int32 := if k.toInt < pa.toInt then pr - k * (pr / pa) else Int32.ofInt 0
def mDb (I : Nat → Nat → Int32) (R : Nat → Nat → Value) (p : Int) : Int32 := yFz (fun j => if (I (yAd R 89 j) 1).toInt = p ∧ (I (yAd R 89 j) 5).toInt = 0 then mLt (I (yAd R 89 j) 2) (I (yAd R 89 j) 4) (I (yAd R 89 j) 7) else Int32.ofInt 0) (I 89 2).toInt.toNat
def mOl (I : Nat → Nat → Int32) (R : Nat → Nat → Value) (p : Int) : Int32 := yFz (fun j => if (I (yAd R 90 j) 1).toInt = p ∧ (I (yAd R 90 j) 5).toInt = 0 then Int32.ofInt 1 else Int32.ofInt 0) (I 90 2).toInt.toNat
def mCe (I : Nat → Nat → Int32) (R : Nat → Nat → Value) (p : Nat) : Int32 := yFz (fun j => I (yAd R 91 j + 1 + 1) p) (I 91 2).toInt.toNat
def mVd (I : Nat → Nat → Int32) (R : Nat → Nat → Value) : Int32 := yFz (fun j => if (I (yAd R 89 j) 5).toInt = 0 then Int32.ofInt 0 else Int32.ofInt 1) (I 89 2).toInt.toNat
def mDn (I : Nat → Nat → Int32) (R : Nat → Nat → Value) : Int32 := yFz (fun j => if (I (yAd R 89 j) 5).toInt = 0 ∧ (I (yAd R 89 j) 7).toInt = (I (yAd R 89 j) 4).toInt then Int32.ofInt 1 else Int32.ofInt 0) (I 89 2).toInt.toNat
def mLo (I : Nat → Nat → Int32) (R : Nat → Nat → Value) : Int32 := yFz (fun j => if (I (yAd R 90 j) 5).toInt = 0 then Int32.ofInt 1 else Int32.ofInt 0) (I 90 2).toInt.toNat
def mOPv (I : Nat → Nat → Int32) (R : Nat → Nat → Value) (p : Int32) (w : Int) : Int32 := if w = 0 then I 84 p.toInt.toNat else if w = 1 then mOw I R p.toInt else if w = 2 then I 85 p.toInt.toNat else if w = 3 then I 86 p.toInt.toNat else if w = 4 then mPl I R p.toInt else if w = 5 then mDb I R p.toInt else if w = 6 then mOl I R p.toInt else mCe I R p.toInt.toNat
def mHo (I : Nat → Nat → Int32) (R : Nat → Nat → Value) (w : Int) : Int32 := if w = 0 then I 83 1 else if w = 1 then I 84 8 else if w = 2 then I 83 2 else if w = 3 then I 83 3 else if w = 4 then yFz (I 85) 8 else if w = 5 then I 83 4 else if w = 6 then I 89 2 else if w = 7 then mVd I R else if w = 8 then mDn I R else if w = 9 then mLo I R else if w = 10 then I 91 2 else if w = 11 then I 83 7 else if w = 12 then mOw I R 8 else if w = 13 then yFz (I 84) (I 83 8).toInt.toNat else if w = 14 then I 83 5 else I 83 6
/-- whether it is sound, part by part -/
def mSs (I : Nat → Nat → Int32) (R : Nat → Nat → Value) : Prop := ∀ j : Nat, (j : Int) < (I 89 2).toInt → (I (yAd R 89 j) 5).toInt = 0 ∨ (I (yAd R 89 j) 7).toInt ≤ 0
def mSw (I : Nat → Nat → Int32) (R : Nat → Nat → Value) (v : Nat) : Prop := (yFz (I (yAd R 91 v + 1 + 2)) 9).toInt ≤ 100 ∧ ∀ p : Nat, (p : Int) < 9 → 0 ≤ (I (yAd R 91 v + 1 + 1) p).toInt
def mSv (I : Nat → Nat → Int32) (R : Nat → Nat → Value) : Prop := ∀ v : Nat, (v : Int) < (I 91 2).toInt → mSw I R v
def mSq (I : Nat → Nat → Int32) (R : Nat → Nat → Value) (j : Nat) : Prop := ¬ (I (yAd R 90 j) 5).toInt = 0 ∨ (I (yAd R 88 (I (yAd R 90 j) 0).toInt.toNat) 1).toInt = 8 ∧ (I (yAd R 88 (I (yAd R 90 j) 0).toInt.toNat) 3).toInt = 0
def mSl (I : Nat → Nat → Int32) (R : Nat → Nat → Value) : Prop := ∀ j : Nat, (j : Int) < (I 90 2).toInt → mSq I R j
def mSd (I : Nat → Nat → Int32) : Prop := ∀ p : Nat, (p : Int) < 8 → 0 ≤ (I 85 p).toInt
def mFl (I : Nat → Nat → Int32) (R : Nat → Nat → Value) : Int32 := yFz (fun j => I (yAd R 89 j) 8) (I 89 2).toInt.toNat
def mSnd (I : Nat → Nat → Int32) (R : Nat → Nat → Value) : Prop := mSs I R ∧ mSv I R ∧ mSl I R ∧ mSd I ∧ 0 ≤ (I 83 3).toInt ∧ (mFl I R).toInt ≤ (I 83 2).toInt
/-- what is answered of a day -/
def mAw (I : Nat → Nat → Int32) (R : Nat → Nat → Value) (x1 x2 : Int32) : Int32 := if 3 ≤ ySum (fun j => yHw I R x1.toInt x2.toInt j (I 87 2).toInt.toNat) 5 then Int32.ofInt 1 else Int32.ofInt 0
/-- the loop of what is left: s so far, k the next part -/
def mLD (pr pa p0 s k : Int32) : Prop := (k.toInt < pa.toInt ∧ p0.toInt ≤ k.toInt ∧ s = (k - p0) * (pr / pa)) ∨ (pa.toInt ≤ k.toInt ∧ s = mLt pr pa p0)
/-- parts paid are not below nothing -/
def mPd (I : Nat → Nat → Int32) (R : Nat → Nat → Value) : Prop := ∀ j : Nat, (j : Int) < (I 89 2).toInt → 0 ≤ (I (yAd R 89 j) 7).toInt
section YM9
variable {K nb n : Nat} {tg : Nat → yT} {I : Nat → Nat → Int32} {R : Nat → Nat → Value} {c s : Nat} {Q : yQ}
/-! the same told of a world in which thrown alone has changed -/
theorem mPd.rf {K n : Nat} {tg : Nat → yT} {I I' : Nat → Nat → Int32} {R R' : Nat → Nat → Value} (h : mPd I R) (hR : yRI K n tg I R) (hr : yRf n I R I' R') : mPd I' R' := fun j hj => by
  rw [hr.lo hR.2.2.2.2.2.2 (by decide) (by decide)] at hj
  obtain ⟨e1, e2⟩ := hr.row hR (l := 89) (by decide) (by decide) hj
  rw [e1, e2]; exact h j hj
section YCG9
variable {K n : Nat} {tg : Nat → yT} {I I' : Nat → Nat → Int32} {R R' : Nat → Nat → Value} {p : Int}
end YCG9
end YM9
