/-! THE CLASS'S METHODS THAT LEAVE THINGS, LEASES AND HOW MANY SALES THERE ARE ALONE (by gfr.py: rows of parts 18, 19, 41e, a wider frame) -/
/-- the cells of the class that the relation speaks of -/
def p4 (a : Nat) : Bool := Nat.ble 40 a && Nat.ble a 68
def yFq (I I' : Nat → Nat → Int32) : Prop := ∀ a k, a < 35 ∨ 83 ≤ a ∨ a = 36 ∨ p4 a = true → I' a k = I a k
theorem yFq.rf {I : Nat → Nat → Int32} : yFq I I := fun _ _ _ => rfl
theorem yFq.trans {I I' I'' : Nat → Nat → Int32} (h : yFq I I') (h' : yFq I' I'') : yFq I I'' := fun a k ha => (h' a k ha).trans (h a k ha)
theorem yFq.upd {I I' : Nat → Nat → Int32} {a k : Nat} {x : Int32} (h : yFq I I') (ha : Nat.blt 34 a = true ∧ Nat.blt a 83 = true ∧ Nat.beq a 36 = false ∧ p4 a = false) : yFq I (upd2 I' a k x) := fun b j hb => by
  have h1 := blt_lt ha.1
  have h2 := blt_lt ha.2.1
  have h3 := Nat.ne_of_beq_eq_false ha.2.2.1
  have hne : b ≠ a := fun e => by
    subst e
    rcases hb with h | h | h | h
    · omega
    · omega
    · omega
    · rw [ha.2.2.2] at h; cases h
  rw [upd2_ne (.inl hne)]
  exact h b j hb
def yFu (I I' : Nat → Nat → Int32) : Prop := ∀ a k, a < 34 ∨ 83 ≤ a ∨ a = 36 ∨ p4 a = true → I' a k = I a k
theorem yFu.rf {I : Nat → Nat → Int32} : yFu I I := fun _ _ _ => rfl
theorem yFu.trans {I I' I'' : Nat → Nat → Int32} (h : yFu I I') (h' : yFu I' I'') : yFu I I'' := fun a k ha => (h' a k ha).trans (h a k ha)
theorem yFq.t {I I' : Nat → Nat → Int32} (h : yFq I I') : yFu I I' := fun a k ha => h a k (ha.imp (fun q => by omega) id)
theorem yFu.upd {I I' : Nat → Nat → Int32} {a k : Nat} {x : Int32} (h : yFu I I') (ha : Nat.blt 33 a = true ∧ Nat.blt a 83 = true ∧ Nat.beq a 36 = false ∧ p4 a = false) : yFu I (upd2 I' a k x) := fun b j hb => by
  have h1 := blt_lt ha.1
  have h2 := blt_lt ha.2.1
  have h3 := Nat.ne_of_beq_eq_false ha.2.2.1
  have hne : b ≠ a := fun e => by
    subst e
    rcases hb with h | h | h | h
    · omega
    · omega
    · omega
    · rw [ha.2.2.2] at h; cases h
  rw [upd2_ne (.inl hne)]
  exact h b j hb
theorem yFu.ft {I I' : Nat → Nat → Int32} (h : yFu I I') : yFt I I' := fun a k ha => h a k (ha.imp id (Or.imp id .inl))
section YFU
variable {n : Nat} {tg : Nat → yT} {I : Nat → Nat → Int32} {R : Nat → Nat → Value} {c s : Nat} {Q : yQ}
end YFU
