/-! THE REFERENCE: methods that tell something new; ventures, days (by gen26.py) -/
section YRN
variable {K nb n : Nat} {tg : Nat → yT} {I : Nat → Nat → Int32} {R : Nat → Nat → Value} {c s : Nat} {Q : yQ}
theorem n_digest (hS0 : ySh n tg R) (hR0 : yRI K n tg I R) (hk6 : K < 600) (hQ : ∀ (v : Int64) n1 tg1 I1 R1 c1 s1, ySh n1 tg1 R1 → yRI (K + 1) n1 tg1 I1 R1 → yKp n tg I R n1 tg1 I1 R1 → c1 ≤ c + 651 → s1 ≤ s + 4015 → Q (.inl (some (.long v))) (n1, tg1, I1, R1) c1 s1) : yC 250 [.ref 83] (n, tg, I, R) c s Q := by
  have hno := Nat.le_refl n
  have hn := hno
  have hRo := hR0
  have hK : yKp n tg I R n tg I R := yKp.rf
  have hX : yX n tg I R n tg I R := yX.rf
  have hS := hS0
  have hR := hR0
  have h94 : 94 ≤ n := hS0.1
  have hz : ySz I I := hX.sz h94
  have hxn := hX.1
  have hN := hR0.1
  have hnb : 94 ≤ n := hR0.2.2.2.2.2.2
  refine y_in (M := xm_X14_digest) (ls := [some _, _, _, _, _, _]) rfl rfl rfl ?_
  refine y_aload_n rfl rfl ?_
  refine y_iconst rfl ?_
  refine y_putI rfl (ySh.t hS rfl) (ySh.n hS rfl) rfl (Nat.le_of_ble_eq_true rfl) rfl rfl ?_
  refine y_nameI (fun I1 e1 => ?_)
  have hR1 := (hR0.grow hX).mod0 e1 (by decide) (by decide)
  have hK := (hK.x hRo hno hX).upI (upI e1) (by decide) (by decide) (fun i hi => by have := (hRo.l87.2.2.2.2 i hi).2.1; omega) (by rw [e1, upd2_ne (.inr (by decide))]; exact Int.le_refl _)
  have hth : I1 83 0 = Int32.ofInt (0) := by rw [e1, upd2_self]
  have hzz : ySz8 I I1 := ySz8_of (upI e1) (by rw [e1]; exact ⟨upd2_ne (.inr (by decide)), upd2_ne (.inr (by decide))⟩)
  have hS0 := hS
  have hR0 := hR1
  have hn := Nat.le_refl n
  have h94 := hS0.1
  have hX := @yX.rf n tg I1 R
  have hS := hS0.x hX
  have hR := hR0.x hn hX
  have hz := hX.sz h94
  have hxn := hX.1
  have hN := hR0.1
  have hnb := hR0.2.2.2.2.2.2
  have hthB := hth
  exact r_digest2 hS0 hR0 hn (fun v n1 tg1 I1 R1 c1 s1 hX2 hc hs => hQ _ _ _ _ _ _ _ (hS0.x hX2) ((hR0.grow hX2).up (Nat.le_succ K) hk6) (hK.x hRo hno hX2) (by omega) (by omega))
end YRN
