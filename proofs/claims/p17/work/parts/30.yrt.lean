/-! THE REFERENCE: pass (by gen30.py) -/
section YRT
variable {K nb n : Nat} {tg : Nat → yT} {I : Nat → Nat → Int32} {R : Nat → Nat → Value} {c s : Nat} {Q : yQ}
theorem lm_pass60 (hRo : yRI K n tg I R) (hno : n ≤ n) {x1 x2 dd : Int32} (hQ : ∀ n1 tg1 I1 R1, ySh n1 tg1 R1 → yRI K n1 tg1 I1 R1 → yKp n tg I R n1 tg1 I1 R1 → I1 83 1 = dd → yW xm_X14_pass xc_X14_pass_89 [some (.ref 83), some (.int x1), some (.int x2), none, none] [] (n1, tg1, I1, R1) c s Q) : ∀ (m : Nat) (x3 : Int32) (n1 : Nat) (tg1 : Nat → yT) (I1 : Nat → Nat → Int32) (R1 : Nat → Nat → Value), ySh n1 tg1 R1 → yRI K n1 tg1 I1 R1 → yKp n tg I R n1 tg1 I1 R1 → (0 ≤ x3.toInt) → (x3.toInt ≤ 8) → (I1 83 1 = dd) → 8 - x3.toInt < m → yW xm_X14_pass xc_X14_pass_60 [some (.ref 83), some (.int x1), some (.int x2), some (.int x3), none] [] (n1, tg1, I1, R1) c s Q := by
  intro m
  induction m with
  | zero => intro x3 n1 tg1 I1 R1 hS0 hR0 hK i0 i1 i2 hm; have hN := hR0.1; exfalso; omega
  | succ m ih =>
    intro x3 n1 tg1 I1 R1 hS0 hR0 hK i0 i1 i2 hm
    have hn := Nat.le_refl n1
    have hX := @yX.rf n1 tg1 I1 R1
    have hS := hS0
    have hR := hR0
    have h94 : 94 ≤ n1 := hS0.1
    have hz : ySz I1 I1 := hX.sz h94
    have hxn := hX.1
    have hN := hR0.1
    have hnb : 94 ≤ n1 := hR0.2.2.2.2.2.2
    refine y_iload_n rfl rfl ?_
    refine y_aload_n rfl rfl ?_
    refine y_getI rfl (ySh.t hS rfl) (ySh.n hS rfl) rfl rfl ?_
    refine y_icmp_ge rfl j_X14_pass_89 (fun h_1 => ?_) (fun h_2 => ?_)
    · refine y_fgt (ls := [some _, some _, some _, none, none]) ⟨rfl, rfl, rfl, trivial⟩ ?_
      exact hQ _ _ _ _ hS (hR0.grow hX) (hK.x hRo hno hX) (by assumption)
    · refine y_aload_n rfl rfl ?_
      refine y_getR rfl (ySh.t hS rfl) (ySh.n hS rfl) rfl rfl (ySh.r hS rfl) ?_
      refine y_iload_n rfl rfl ?_
      refine y_dup2 rfl rfl rfl ?_
      refine y_iaload rfl (ySh.t hS rfl) (ySh.n hS rfl) (by omega) (by omega) ?_
      refine y_aload_n rfl rfl ?_
      refine y_getR rfl (ySh.t hS rfl) (ySh.n hS rfl) rfl rfl (ySh.r hS rfl) ?_
      refine y_iload_n rfl rfl ?_
      refine y_iaload rfl (ySh.t hS rfl) (ySh.n hS rfl) (by omega) (by omega) ?_
      refine y_iadd rfl ?_
      refine y_iastore rfl (ySh.t hS rfl) (ySh.n hS rfl) (Nat.le_of_ble_eq_true rfl) (by omega) (by omega) ?_
      refine y_nameI (fun I3 e3 => ?_)
      have hR1 := (hR0.grow hX).arr e3 (by decide)
      have hK := (hK.x hRo hno hX).upI (upI e3) (by decide) (by decide) (fun i hi => by have := (hRo.l87.2.2.2.2 i hi).2.1; omega) (by rw [e3, upd2_ne (.inl (by omega))]; exact Int.le_refl _)
      have hzz : ySz I1 I3 := ySz_ofE (upI e3) (by omega)
      have hS0 := hS
      have hR0 := hR1
      have hn := Nat.le_refl n1
      have h94 := hS0.1
      have hX := @yX.rf n1 tg1 I3 R1
      have hS := hS0.x hX
      have hR := hR0.x hn hX
      have hz := hX.sz h94
      have hxn := hX.1
      have hN := hR0.1
      have hnb := hR0.2.2.2.2.2.2
      refine y_iinc (ls' := [some _, some _, some _, some _, _]) rfl rfl rfl rfl ?_
      refine y_goto rfl j_X14_pass_60 ?_
      exact ih _ _ _ _ _ hS (hR0.grow hX) (hK.x hRo hno hX)   (by first | omega | (rw [yinc (by omega)]; omega)) (by first | omega | (rw [yinc (by omega)]; omega)) (by subst_vars; simp [upd2]) (by first | omega | (rw [yinc (by omega)]; omega))
theorem lm_pass105 (hRo : yRI K n tg I R) (hno : n ≤ n) {x1 x2 dd : Int32} (hQ : ∀ n1 tg1 I1 R1, ySh n1 tg1 R1 → yRI K n1 tg1 I1 R1 → yKp n tg I R n1 tg1 I1 R1 → I1 83 1 = dd → yW xm_X14_pass xc_X14_pass_178 [some (.ref 83), some (.int x1), some (.int x2), none, none] [] (n1, tg1, I1, R1) c s Q) : ∀ (m : Nat) (x3 : Int32) (n1 : Nat) (tg1 : Nat → yT) (I1 : Nat → Nat → Int32) (R1 : Nat → Nat → Value), ySh n1 tg1 R1 → yRI K n1 tg1 I1 R1 → yKp n tg I R n1 tg1 I1 R1 → (0 ≤ x3.toInt) → (x3.toInt ≤ 8) → (I1 83 1 = dd) → 8 - x3.toInt < m → yW xm_X14_pass xc_X14_pass_105 [some (.ref 83), some (.int x1), some (.int x2), some (.int x3), none] [] (n1, tg1, I1, R1) c s Q := by
  intro m
  induction m with
  | zero => intro x3 n1 tg1 I1 R1 hS0 hR0 hK i0 i1 i2 hm; have hN := hR0.1; exfalso; omega
  | succ m ih =>
    intro x3 n1 tg1 I1 R1 hS0 hR0 hK i0 i1 i2 hm
    have hn := Nat.le_refl n1
    have hX := @yX.rf n1 tg1 I1 R1
    have hS := hS0
    have hR := hR0
    have h94 : 94 ≤ n1 := hS0.1
    have hz : ySz I1 I1 := hX.sz h94
    have hxn := hX.1
    have hN := hR0.1
    have hnb : 94 ≤ n1 := hR0.2.2.2.2.2.2
    refine y_iload_n rfl rfl ?_
    refine y_aload_n rfl rfl ?_
    refine y_getI rfl (ySh.t hS rfl) (ySh.n hS rfl) rfl rfl ?_
    refine y_icmp_ge rfl j_X14_pass_178 (fun h_1 => ?_) (fun h_2 => ?_)
    · refine y_fgt (ls := [some _, some _, some _, none, none]) ⟨rfl, rfl, rfl, trivial⟩ ?_
      exact hQ _ _ _ _ hS (hR0.grow hX) (hK.x hRo hno hX) (by assumption)
    · refine y_aload_n rfl rfl ?_
      refine y_getI rfl (ySh.t hS rfl) (ySh.n hS rfl) rfl rfl ?_
      refine y_sip rfl (by decide) ?_
      refine y_irem rfl (by decide) ?_
      refine y_if_ne rfl j_X14_pass_178 (fun h_3 => ?_) (fun h_4 => ?_)
      · refine y_fgt (ls := [some _, some _, some _, none, none]) ⟨rfl, rfl, rfl, trivial⟩ ?_
        exact hQ _ _ _ _ hS (hR0.grow hX) (hK.x hRo hno hX) (by assumption)
      · refine y_aload_n rfl rfl ?_
        refine y_getR rfl (ySh.t hS rfl) (ySh.n hS rfl) rfl rfl (ySh.r hS rfl) ?_
        refine y_iload_n rfl rfl ?_
        refine y_iaload rfl (ySh.t hS rfl) (ySh.n hS rfl) (by omega) (by omega) ?_
        refine y_bip rfl (by decide) ?_
        refine y_icmp_lt rfl j_X14_pass_147 (fun h_5 => ?_) (fun h_6 => ?_)
        · rw [yz_85] at h_5
          refine y_iconst rfl ?_
          refine y_istore (ls' := [some _, some _, some _, some _, some _]) rfl rfl rfl ?_
          refine y_aload_n rfl rfl ?_
          refine y_getR rfl (ySh.t hS rfl) (ySh.n hS rfl) rfl rfl (ySh.r hS rfl) ?_
          refine y_iload_n rfl rfl ?_
          refine y_dup2 rfl rfl rfl ?_
          refine y_iaload rfl (ySh.t hS rfl) (ySh.n hS rfl) (by omega) (by omega) ?_
          refine y_iload rfl rfl ?_
          refine y_isub rfl ?_
          refine y_iastore rfl (ySh.t hS rfl) (ySh.n hS rfl) (Nat.le_of_ble_eq_true rfl) (by omega) (by omega) ?_
          refine y_nameI (fun I7 e7 => ?_)
          have hR1 := (hR0.grow hX).arr e7 (by decide)
          have hK := (hK.x hRo hno hX).upI (upI e7) (by decide) (by decide) (fun i hi => by have := (hRo.l87.2.2.2.2 i hi).2.1; omega) (by rw [e7, upd2_ne (.inl (by omega))]; exact Int.le_refl _)
          have hzz : ySz I1 I7 := ySz_ofE (upI e7) (by omega)
          have hS0 := hS
          have hR0 := hR1
          have hn := Nat.le_refl n1
          have h94 := hS0.1
          have hX := @yX.rf n1 tg1 I7 R1
          have hS := hS0.x hX
          have hR := hR0.x hn hX
          have hz := hX.sz h94
          have hxn := hX.1
          have hN := hR0.1
          have hnb := hR0.2.2.2.2.2.2
          refine y_aload_n rfl rfl ?_
          refine y_dup rfl rfl ?_
          refine y_getI rfl (ySh.t hS rfl) (ySh.n hS rfl) rfl rfl ?_
          refine y_iload rfl rfl ?_
          refine y_iadd rfl ?_
          refine y_putI rfl (ySh.t hS rfl) (ySh.n hS rfl) rfl (Nat.le_of_ble_eq_true rfl) rfl rfl ?_
          refine y_nameI (fun I8 e8 => ?_)
          have hR1 := (hR0.grow hX).mod0 e8 (by decide) (by decide)
          have hK := (hK.x hRo hno hX).upI (upI e8) (by decide) (by decide) (fun i hi => by have := (hRo.l87.2.2.2.2 i hi).2.1; omega) (by rw [e8, upd2_ne (.inr (by decide))]; exact Int.le_refl _)
          have hzz : ySz I7 I8 := ySz_ofM (upI e8) (by rw [e8]; exact ⟨upd2_ne (.inr (by decide)), upd2_ne (.inr (by decide)), upd2_ne (.inr (by decide))⟩)
          have hS0 := hS
          have hR0 := hR1
          have hn := Nat.le_refl n1
          have h94 := hS0.1
          have hX := @yX.rf n1 tg1 I8 R1
          have hS := hS0.x hX
          have hR := hR0.x hn hX
          have hz := hX.sz h94
          have hxn := hX.1
          have hN := hR0.1
          have hnb := hR0.2.2.2.2.2.2
          refine y_iinc (ls' := [some _, some _, some _, some _, some _]) rfl rfl rfl rfl ?_
          refine y_goto rfl j_X14_pass_105 ?_
          refine y_fgt (ls := [some _, some _, some _, some _, none]) ⟨rfl, rfl, rfl, rfl, trivial⟩ ?_
          exact ih _ _ _ _ _ hS (hR0.grow hX) (hK.x hRo hno hX)   (by first | omega | (rw [yinc (by omega)]; omega)) (by first | omega | (rw [yinc (by omega)]; omega)) (by subst_vars; simp [upd2]) (by first | omega | (rw [yinc (by omega)]; omega))
        · rw [yz_85] at h_6
          refine y_aload_n rfl rfl ?_
          refine y_getR rfl (ySh.t hS rfl) (ySh.n hS rfl) rfl rfl (ySh.r hS rfl) ?_
          refine y_iload_n rfl rfl ?_
          refine y_iaload rfl (ySh.t hS rfl) (ySh.n hS rfl) (by omega) (by omega) ?_
          refine y_bip rfl (by decide) ?_
          refine y_idiv rfl (by decide) ?_
          refine y_goto rfl j_X14_pass_148 ?_
          refine y_istore (ls' := [some _, some _, some _, some _, some _]) rfl rfl rfl ?_
          refine y_aload_n rfl rfl ?_
          refine y_getR rfl (ySh.t hS rfl) (ySh.n hS rfl) rfl rfl (ySh.r hS rfl) ?_
          refine y_iload_n rfl rfl ?_
          refine y_dup2 rfl rfl rfl ?_
          refine y_iaload rfl (ySh.t hS rfl) (ySh.n hS rfl) (by omega) (by omega) ?_
          refine y_iload rfl rfl ?_
          refine y_isub rfl ?_
          refine y_iastore rfl (ySh.t hS rfl) (ySh.n hS rfl) (Nat.le_of_ble_eq_true rfl) (by omega) (by omega) ?_
          refine y_nameI (fun I9 e9 => ?_)
          have hR1 := (hR0.grow hX).arr e9 (by decide)
          have hK := (hK.x hRo hno hX).upI (upI e9) (by decide) (by decide) (fun i hi => by have := (hRo.l87.2.2.2.2 i hi).2.1; omega) (by rw [e9, upd2_ne (.inl (by omega))]; exact Int.le_refl _)
          have hzz : ySz I1 I9 := ySz_ofE (upI e9) (by omega)
          have hS0 := hS
          have hR0 := hR1
          have hn := Nat.le_refl n1
          have h94 := hS0.1
          have hX := @yX.rf n1 tg1 I9 R1
          have hS := hS0.x hX
          have hR := hR0.x hn hX
          have hz := hX.sz h94
          have hxn := hX.1
          have hN := hR0.1
          have hnb := hR0.2.2.2.2.2.2
          refine y_aload_n rfl rfl ?_
          refine y_dup rfl rfl ?_
          refine y_getI rfl (ySh.t hS rfl) (ySh.n hS rfl) rfl rfl ?_
          refine y_iload rfl rfl ?_
          refine y_iadd rfl ?_
          refine y_putI rfl (ySh.t hS rfl) (ySh.n hS rfl) rfl (Nat.le_of_ble_eq_true rfl) rfl rfl ?_
          refine y_nameI (fun I10 e10 => ?_)
          have hR1 := (hR0.grow hX).mod0 e10 (by decide) (by decide)
          have hK := (hK.x hRo hno hX).upI (upI e10) (by decide) (by decide) (fun i hi => by have := (hRo.l87.2.2.2.2 i hi).2.1; omega) (by rw [e10, upd2_ne (.inr (by decide))]; exact Int.le_refl _)
          have hzz : ySz I9 I10 := ySz_ofM (upI e10) (by rw [e10]; exact ⟨upd2_ne (.inr (by decide)), upd2_ne (.inr (by decide)), upd2_ne (.inr (by decide))⟩)
          have hS0 := hS
          have hR0 := hR1
          have hn := Nat.le_refl n1
          have h94 := hS0.1
          have hX := @yX.rf n1 tg1 I10 R1
          have hS := hS0.x hX
          have hR := hR0.x hn hX
          have hz := hX.sz h94
          have hxn := hX.1
          have hN := hR0.1
          have hnb := hR0.2.2.2.2.2.2
          refine y_iinc (ls' := [some _, some _, some _, some _, some _]) rfl rfl rfl rfl ?_
          refine y_goto rfl j_X14_pass_105 ?_
          refine y_fgt (ls := [some _, some _, some _, some _, none]) ⟨rfl, rfl, rfl, rfl, trivial⟩ ?_
          exact ih _ _ _ _ _ hS (hR0.grow hX) (hK.x hRo hno hX)   (by first | omega | (rw [yinc (by omega)]; omega)) (by first | omega | (rw [yinc (by omega)]; omega)) (by subst_vars; simp [upd2]) (by first | omega | (rw [yinc (by omega)]; omega))
end YRT
