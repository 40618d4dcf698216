/-! FIRMS THROUGH THE DAYS (rel7p.lean) -/
section YF7P
variable {K n n1 : Nat} {tg tg1 : Nat → yT} {I Ia I1 : Nat → Nat → Int32} {R R1 : Nat → Nat → Value}
theorem yF7.pass {m : Nat} {z : Int32} {Ra : Nat → Nat → Value} {k : Nat} {v : Value} (h : yF7 I R) (hR : yRI K n tg I R) (hm : (I 83 1).toInt + (m : Int) ≤ 4000) (eA : Ia = yRec yDy I m) (eR : Ra = upd2 R 93 k v) (hK : yKp n tg Ia Ra n1 tg1 I1 R1) (hX : yX n tg (yRec (mDyS Ra) (upd2 Ia 83 0 z) m) Ra n1 tg1 I1 R1) : yF7 I1 R1 := by
  have h94 := hR.2.2.2.2.2.2
  have hFt : yFt I Ia := fun a j ha => by
    rw [eA]
    exact congrFun (yDys_row (by omega)) j
  have hhi : ∀ a, 83 ≤ a → Ia a = I a := fun a ha => hFt.hi ha
  have hRa : yRI K n tg Ia Ra := (hR.ft hFt).outR fun a ha => by rw [eR]; exact upd2_row ha
  have hR0 : yRI K n tg (upd2 Ia 83 0 z) Ra := hRa.mod0 rfl (by decide) (by decide)
  have hM83 : ∀ j, j ≠ 0 → upd2 Ia 83 0 z 83 j = I 83 j := fun j hj => by rw [upd2_ne (.inr hj), hhi 83 (by decide)]
  have hMr : ∀ a, 84 ≤ a → upd2 Ia 83 0 z a = I a := fun a ha => by rw [upd2_row (by omega), hhi a (by omega)]
  obtain ⟨p1, p2, p3, p4_⟩ := mPa_ri hR0 m (by rw [hM83 1 (by decide)]; exact hm)
  have hLa : yLk I R Ra := by rw [eR]; exact yLk.out hR
  have hLR : yLk I R R1 := fun l h1 h2 i hi => by
    have hlt := (hRa.lt6 l h1 h2)
    exact (yAd_eq (hX.2.1 l (by omega)).2.2 (hX.2.1 _ hlt).2.2).trans (hLa l h1 h2 i hi)
  have h90a : ∀ q : Nat, (q : Int) < (upd2 Ia 83 0 z 90 2).toInt → 94 ≤ yAd Ra 90 q ∧ yAd Ra 90 q < n ∧ tg (yAd Ra 90 q) = (18, 0) := fun q hq => (hR0.l90.2.2.2.2 q hq).2
  have hold : ∀ a, 84 ≤ a → a ≠ 84 → a ≠ 86 → a < n → (94 ≤ a → tg a ≠ (18, 0)) → I1 a = I a := fun a h1 h2 h3 h4 h5 => by
    rw [hX.n h4, p4_ a (by omega) h2 h3 (fun q hq e => ?_), hMr a h1]
    have := h90a q hq
    exact h5 (by omega) (by rw [e]; exact this.2.2)
  have s2 : I1 92 = I 92 := hold 92 (by decide) (by decide) (by decide) (by omega) (fun q => absurd q (by decide))
  have g7 : I1 83 7 = I 83 7 := by rw [hX.n (show 83 < n by omega), p3 7 (by decide) (by decide), hM83 7 (by decide)]
  exact h.st hR (by rw [s2]) g7 (fun a h1 h2 => by rw [hK.2.2.1 a (by omega), eA]; exact yDys_row (by omega)) hLR (fun a h1 h2 h3 => hold a (by omega) (by omega) (by omega) h2 (fun _ => by rw [h3]; decide))
end YF7P
