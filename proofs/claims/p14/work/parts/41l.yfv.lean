/-! THE CLASS'S METHODS THAT LEAVE FIRMS ALONE TOO (by gfr7.py: rows of parts 18, 19, 41e, a still wider frame) -/
/-- the cells of the class that the relation speaks of, firms among them -/
def p7 (a : Nat) : Bool := (Nat.ble 40 a && Nat.ble a 68) || (Nat.ble 77 a && Nat.ble a 82)
def yFq7 (I I' : Nat → Nat → Int32) : Prop := ∀ a k, a < 35 ∨ 83 ≤ a ∨ a = 36 ∨ p7 a = true → I' a k = I a k
theorem yFq7.rf {I : Nat → Nat → Int32} : yFq7 I I := fun _ _ _ => rfl
theorem yFq7.trans {I I' I'' : Nat → Nat → Int32} (h : yFq7 I I') (h' : yFq7 I' I'') : yFq7 I I'' := fun a k ha => (h' a k ha).trans (h a k ha)
theorem yFq7.upd {I I' : Nat → Nat → Int32} {a k : Nat} {x : Int32} (h : yFq7 I I') (ha : Nat.blt 34 a = true ∧ Nat.blt a 83 = true ∧ Nat.beq a 36 = false ∧ p7 a = false) : yFq7 I (upd2 I' a k x) := fun b j hb => by
  have h1 := blt_lt ha.1
  have h2 := blt_lt ha.2.1
  have h3 := Nat.ne_of_beq_eq_false ha.2.2.1
  have hne : b ≠ a := fun e => by
    subst e
    rcases hb with h | h | h | h
    · omega
    · omega
    · omega
    · rw [ha.2.2.2] at h; cases h
  rw [upd2_ne (.inl hne)]
  exact h b j hb
def yFu7 (I I' : Nat → Nat → Int32) : Prop := ∀ a k, a < 34 ∨ 83 ≤ a ∨ a = 36 ∨ p7 a = true → I' a k = I a k
theorem yFu7.rf {I : Nat → Nat → Int32} : yFu7 I I := fun _ _ _ => rfl
theorem yFu7.trans {I I' I'' : Nat → Nat → Int32} (h : yFu7 I I') (h' : yFu7 I' I'') : yFu7 I I'' := fun a k ha => (h' a k ha).trans (h a k ha)
theorem yFq7.t {I I' : Nat → Nat → Int32} (h : yFq7 I I') : yFu7 I I' := fun a k ha => h a k (ha.imp (fun q => by omega) id)
theorem yFu7.upd {I I' : Nat → Nat → Int32} {a k : Nat} {x : Int32} (h : yFu7 I I') (ha : Nat.blt 33 a = true ∧ Nat.blt a 83 = true ∧ Nat.beq a 36 = false ∧ p7 a = false) : yFu7 I (upd2 I' a k x) := fun b j hb => by
  have h1 := blt_lt ha.1
  have h2 := blt_lt ha.2.1
  have h3 := Nat.ne_of_beq_eq_false ha.2.2.1
  have hne : b ≠ a := fun e => by
    subst e
    rcases hb with h | h | h | h
    · omega
    · omega
    · omega
    · rw [ha.2.2.2] at h; cases h
  rw [upd2_ne (.inl hne)]
  exact h b j hb
theorem yFu7.ft {I I' : Nat → Nat → Int32} (h : yFu7 I I') : yFt I I' := fun a k ha => h a k (ha.imp id (Or.imp id .inl))
theorem yFu7.u {I I' : Nat → Nat → Int32} (h : yFu7 I I') : yFu I I' := fun a k ha => h a k (ha.imp id (Or.imp id (Or.imp id fun q => by unfold p4 at q; unfold p7; rw [q]; rfl)))
theorem yFu7.f {I I' : Nat → Nat → Int32} (h : yFu7 I I') : ∀ a, 77 ≤ a → a ≤ 82 → I' a = I a := fun a h1 h2 => funext fun k => h a k (.inr (.inr (.inr (by
  unfold p7
  rw [Nat.ble_eq_true_of_le h1, Nat.ble_eq_true_of_le h2]
  exact Bool.or_true _))))
section YFU7
variable {n : Nat} {tg : Nat → yT} {I : Nat → Nat → Int32} {R : Nat → Nat → Value} {c s : Nat} {Q : yQ}
end YFU7
