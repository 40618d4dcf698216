/-! THE RELATION OF THE TWO BOARDS: a row of the class is the mask of who is for it, as the reference's words tell -/
def yMk (f : Nat → Int) : Int32 := Int32.ofInt (f 0 + 2 * f 1 + 4 * f 2 + 8 * f 3 + 16 * f 4)
def yG (b : Bool) : Int := bif b then 1 else 0
def yHr (I : Nat → Nat → Int32) (R : Nat → Nat → Value) : Prop := ∀ q : Nat, q < 5 → I 36 q = yMk (fun j => yHv I R (q : Int) j (I 87 2).toInt.toNat)
theorem yHr.kp {n n1 : Nat} {tg tg1 : Nat → yT} {I I1 : Nat → Nat → Int32} {R R1 : Nat → Nat → Value} (h : yHr I R) (hK : yKp n tg I R n1 tg1 I1 R1) : yHr I1 R1 := fun q hq => by
  rw [hK.2.2.1 36 (by decide), h q hq]
  exact congrArg yMk (funext fun j => (yHv_kp hK).symm)
theorem yHv_lo {I I1 : Nat → Nat → Int32} {R : Nat → Nat → Value} {K nb : Nat} {tg : Nat → yT} {q : Int} {j : Nat} (h : yRI K nb tg I R) (hI : ∀ a, 83 ≤ a → I1 a = I a) : yHv I1 R q j (I1 87 2).toInt.toNat = yHv I R q j (I 87 2).toInt.toNat := by
  rw [hI 87 (by decide)]
  exact yHv_eq fun i hi => ⟨rfl, hI _ (by have := (h.l87.2.2.2.2 i (by have := h.l87.2.2.2.1; omega)).2.1; omega)⟩
theorem yHr.ft {K nb : Nat} {tg : Nat → yT} {I I1 : Nat → Nat → Int32} {R : Nat → Nat → Value} (h : yHr I R) (hr : yRI K nb tg I R) (hF : yFt I I1) : yHr I1 R := fun q hq => by
  rw [hF 36 q (.inr (.inr rfl)), h q hq]
  exact congrArg yMk (funext fun j => (yHv_lo hr (fun a ha => funext fun k => hF a k (.inr (.inl ha)))).symm)
theorem yRI.ft {K nb : Nat} {tg : Nat → yT} {I I1 : Nat → Nat → Int32} {R : Nat → Nat → Value} (hr : yRI K nb tg I R) (hF : yFt I I1) : yRI K nb tg I1 R := hr.cong fun a ha => funext fun k => hF a k (.inr (.inl (by omega)))
