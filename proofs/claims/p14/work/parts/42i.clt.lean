/-! WHAT THE CLASS TELLS, EXACTLY (by ex9c.py) -/
/-- what the class tells: things owned, parts and debts of somebody, leases, places in ventures -/
def yOw (I : Nat → Nat → Int32) (p : Int) : Int32 := yFz (fun j => if (I 42 j).toInt = p then Int32.ofInt 1 else Int32.ofInt 0) (I 40 0).toInt.toNat
def yPl (I : Nat → Nat → Int32) (p : Int) : Int32 := yFz (fun j => if (I 50 j).toInt = p ∧ (I 53 j).toInt = 0 ∧ (I 55 j).toInt < (I 54 j).toInt then I 54 j - I 55 j else Int32.ofInt 0) (I 48 0).toInt.toNat
def yDb (I : Nat → Nat → Int32) (p : Int) : Int32 := yFz (fun j => if (I 50 j).toInt = p ∧ (I 53 j).toInt = 0 ∧ (I 55 j).toInt < (I 54 j).toInt then I 52 j - I 55 j * yPor (I 52 j).toInt64 (Int64.ofNat 1) (I 54 j).toInt64 else Int32.ofInt 0) (I 48 0).toInt.toNat
def yOl (I : Nat → Nat → Int32) (p : Int) : Int32 := yFz (fun j => if (I 65 j).toInt = 0 ∧ (I 62 j).toInt = p then Int32.ofInt 1 else Int32.ofInt 0) (I 59 0).toInt.toNat
def yCe (I : Nat → Nat → Int32) (p : Nat) : Int32 := yFz (fun j => I 71 (j * 9 + p)) (I 69 0).toInt.toNat
def yVd (I : Nat → Nat → Int32) : Int32 := yFz (fun j => if (I 53 j).toInt = 0 then Int32.ofInt 0 else Int32.ofInt 1) (I 48 0).toInt.toNat
def yDn (I : Nat → Nat → Int32) : Int32 := yFz (fun j => if (I 53 j).toInt = 0 ∧ (I 54 j).toInt ≤ (I 55 j).toInt then Int32.ofInt 1 else Int32.ofInt 0) (I 48 0).toInt.toNat
def yLo (I : Nat → Nat → Int32) : Int32 := yFz (fun j => if (I 65 j).toInt = 0 then Int32.ofInt 1 else Int32.ofInt 0) (I 59 0).toInt.toNat
def yOPv (I : Nat → Nat → Int32) (p : Int32) (w : Int) : Int32 := if w = 0 then I 39 p.toInt.toNat else if w = 1 then yOw I p.toInt else if w = 2 then I 75 p.toInt.toNat else if w = 3 then I 76 p.toInt.toNat else if w = 4 then yPl I p.toInt else if w = 5 then yDb I p.toInt else if w = 6 then yOl I p.toInt else yCe I p.toInt.toNat
def yHo (I : Nat → Nat → Int32) (w : Int) : Int32 := if w = 0 then I 34 8 else if w = 1 then I 39 8 else if w = 2 then I 38 1 else if w = 3 then I 74 2 else if w = 4 then yFz (I 75) 8 else if w = 5 then I 34 9 else if w = 6 then I 48 0 else if w = 7 then yVd I else if w = 8 then yDn I else if w = 9 then yLo I else if w = 10 then I 69 0 else if w = 11 then I 77 2 else if w = 12 then yOw I 8 else if w = 13 then yFz (I 39) (I 38 0).toInt.toNat else if w = 14 then I 74 3 else I 74 4
/-- whether it is sound, part by part -/
def ySp (I : Nat → Nat → Int32) : Prop := (∀ j : Nat, (j : Int) < 8 → 0 ≤ (I 75 j).toInt) ∧ 0 ≤ (I 74 2).toInt
def ySt (I : Nat → Nat → Int32) : Prop := ∀ j : Nat, (j : Int) < (I 40 0).toInt → (I 47 j).toInt = -1 ∨ (I 42 j).toInt = 8 ∧ (I 44 j).toInt = 0
def ySs (I : Nat → Nat → Int32) : Prop := ∀ j : Nat, (j : Int) < (I 48 0).toInt → (I 53 j).toInt = 0 ∨ (I 55 j).toInt ≤ 0
def ySw (I : Nat → Nat → Int32) (v : Nat) : Prop := ∀ p : Nat, (p : Int) < 9 → 0 ≤ (I 71 (v * 9 + p)).toInt
def ySv (I : Nat → Nat → Int32) : Prop := ∀ v : Nat, (v : Int) < (I 69 0).toInt → (yVs I 72 (Int32.ofInt (v : Int))).toInt ≤ 100 ∧ ySw I v
def yFl (I : Nat → Nat → Int32) : Int32 := yFz (I 57) (I 48 0).toInt.toNat
def ySnd (I : Nat → Nat → Int32) : Prop := ySp I ∧ ySv I ∧ ySt I ∧ ySs I ∧ (yFl I).toInt ≤ (I 38 1).toInt
section YC9
variable {n : Nat} {tg : Nat → yT} {I : Nat → Nat → Int32} {R : Nat → Nat → Value} {c s : Nat} {Q : yQ}
/-- whether a question was allowed at a day -/
def yAw (I : Nat → Nat → Int32) (x1 x2 : Int32) : Int32 := if x2.toInt = (I 34 8).toInt then (if 3 ≤ (yBC (I 36 x1.toInt.toNat)).toInt then Int32.ofInt 1 else Int32.ofInt 0) else (if ((I 37 x2.toInt.toNat >>> (x1 &&& 31)) &&& Int32.ofInt 1).toInt = 1 then Int32.ofInt 1 else Int32.ofInt 0)
end YC9
