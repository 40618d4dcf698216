/-! THE REFERENCE, EXACTLY, as far as counts, the day and the benchmark go (by ex1m.py) -/
section YEM
variable {K nb n : Nat} {tg : Nat → yT} {I : Nat → Nat → Int32} {R : Nat → Nat → Value} {c s : Nat} {Q : yQ}
theorem f_person (hS0 : ySh n tg R) (hR0 : yRI K n tg I R) (hk6 : K < 600) {x1 : Int32} (hQ0 : (0 ≤ x1.toInt ∧ x1.toInt ≤ 9999) ∧ (I 83 8).toInt < 8 → ∀ (v : Int32) n1 tg1 I1 R1 c1 s1, ySh n1 tg1 R1 → yRI (K + 1) n1 tg1 I1 R1 → yKp n tg I R n1 tg1 I1 R1 → I1 83 0 = Int32.ofInt 0 → v.toInt = (I 83 8).toInt ∧ (I1 83 8).toInt = (I 83 8).toInt + 1 → c1 ≤ c + 0 → s1 ≤ s + 0 → Q (.inl (some (.int v))) (n1, tg1, I1, R1) c1 s1) (hQ1 : ¬ (0 ≤ x1.toInt ∧ x1.toInt ≤ 9999) → ∀ (v : Int32) n1 tg1 I1 R1 c1 s1, ySh n1 tg1 R1 → yRI (K + 1) n1 tg1 I1 R1 → yKp n tg I R n1 tg1 I1 R1 → I1 83 0 = Int32.ofInt 1 → (I1 83 8).toInt = (I 83 8).toInt → c1 ≤ c + 0 → s1 ≤ s + 0 → Q (.inl (some (.int v))) (n1, tg1, I1, R1) c1 s1) (hQ2 : (0 ≤ x1.toInt ∧ x1.toInt ≤ 9999) ∧ (I 83 8).toInt = 8 → ∀ (v : Int32) n1 tg1 I1 R1 c1 s1, ySh n1 tg1 R1 → yRI (K + 1) n1 tg1 I1 R1 → yKp n tg I R n1 tg1 I1 R1 → I1 83 0 = Int32.ofInt 2 → (I1 83 8).toInt = (I 83 8).toInt → c1 ≤ c + 0 → s1 ≤ s + 0 → Q (.inl (some (.int v))) (n1, tg1, I1, R1) c1 s1) : yC 195 [.ref 83, .int x1] (n, tg, I, R) c s Q := by
  have hno := Nat.le_refl n
  have hn := hno
  have hRo := hR0
  have hK : yKp n tg I R n tg I R := yKp.rf
  have hX : yX n tg I R n tg I R := yX.rf
  have hS := hS0
  have hR := hR0
  have h94 : 94 ≤ n := hS0.1
  have hz : ySz I I := hX.sz h94
  have hxn := hX.1
  have hN := hR0.1
  have hnb : 94 ≤ n := hR0.2.2.2.2.2.2
  refine y_in (M := xm_X14_person) (ls := [some _, some _]) rfl rfl rfl ?_
  refine y_aload_n rfl rfl ?_
  refine y_iload_n rfl rfl ?_
  refine y_iconst rfl ?_
  refine y_sip rfl (by decide) ?_
  refine y_static rfl rfl rfl rfl rfl ?_
  refine r_isIn (fun h_1 h_2 => ?_) (fun h_3 => ?_)
  · rw [yz_0] at h_1
    rw [yz_9999] at h_2
    refine y_ret1 ?_
    refine y_if_neT rfl j_X14_person_16 (by decide) ?_
    refine y_iconst rfl ?_
    refine y_iconst rfl ?_
    refine y_virt rfl rfl rfl rfl rfl (ySh.t hS rfl) (ySh.n hS rfl) ?_
    refine y_in (M := xm_X14_start) (ls := [some _, some _, some _]) rfl rfl rfl ?_
    refine y_aload_n rfl rfl ?_
    refine y_iconst rfl ?_
    refine y_putI rfl (ySh.t hS rfl) (ySh.n hS rfl) rfl (Nat.le_of_ble_eq_true rfl) rfl rfl ?_
    refine y_nameI (fun I4 e4 => ?_)
    have hR1 := (hR0.grow hX).mod0 e4 (by decide) (by decide)
    have hK := (hK.x hRo hno hX).upI (upI e4) (by decide) (by decide) (fun i hi => by have := (hRo.l87.2.2.2.2 i hi).2.1; omega) (by rw [e4, upd2_ne (.inr (by decide))]; exact Int.le_refl _)
    have hth : I4 83 0 = Int32.ofInt (0) := by rw [e4, upd2_self]
    have hzz : ySz8 I I4 := ySz8_of (upI e4) (by rw [e4]; exact ⟨upd2_ne (.inr (by decide)), upd2_ne (.inr (by decide))⟩)
    have hS0 := hS
    have hR0 := hR1
    have hn := Nat.le_refl n
    have h94 := hS0.1
    have hX := @yX.rf n tg I4 R
    have hS := hS0.x hX
    have hR := hR0.x hn hX
    have hz := hX.sz h94
    have hxn := hX.1
    have hN := hR0.1
    have hnb := hR0.2.2.2.2.2.2
    have hthB := hth
    refine y_aload_n rfl rfl ?_
    refine y_iload_n rfl rfl ?_
    refine y_iload_n rfl rfl ?_
    refine y_virt rfl rfl rfl rfl rfl (ySh.t hS rfl) (ySh.n hS rfl) ?_
    refine y_in (M := xm_X14_refuse) (ls := [some _, some _, some _]) rfl rfl rfl ?_
    refine y_iload_n rfl rfl ?_
    refine y_if_eqT rfl j_X14_refuse_16 (by decide) ?_
    refine y_aload_n rfl rfl ?_
    refine y_getIv (v := Int32.ofInt (0)) rfl (ySh.t hS rfl) (ySh.n hS rfl) rfl rfl hth ?_
    refine y_if_leT rfl j_X14_refuse_27 (by decide) ?_
    refine y_iconst rfl ?_
    refine y_ireturn rfl rfl rfl ?_
    refine y_ret1 ?_
    refine y_ireturn rfl rfl rfl ?_
    refine y_ret1 ?_
    refine y_if_neF rfl (by decide) ?_
    refine y_aload_n rfl rfl ?_
    refine y_aload_n rfl rfl ?_
    refine y_getI rfl (ySh.t hS rfl) (ySh.n hS rfl) rfl rfl ?_
    refine y_bip rfl (by decide) ?_
    refine y_icmp_ne rfl j_X14_person_38 (fun h_5 => ?_) (fun h_6 => ?_)
    · rw [yz_8] at h_5
      refine y_iconst rfl ?_
      refine y_iconst rfl ?_
      refine y_virt rfl rfl rfl rfl rfl (ySh.t hS rfl) (ySh.n hS rfl) ?_
      refine y_in (M := xm_X14_refuse) (ls := [some _, some _, some _]) rfl rfl rfl ?_
      refine y_iload_n rfl rfl ?_
      refine y_if_eqT rfl j_X14_refuse_16 (by decide) ?_
      refine y_aload_n rfl rfl ?_
      refine y_getIv (v := Int32.ofInt (0)) rfl (ySh.t hS rfl) (ySh.n hS rfl) rfl rfl hth ?_
      refine y_if_leT rfl j_X14_refuse_27 (by decide) ?_
      refine y_iconst rfl ?_
      refine y_ireturn rfl rfl rfl ?_
      refine y_ret1 ?_
      refine y_if_eqT rfl j_X14_person_48 (by decide) ?_
      refine y_aload_n rfl rfl ?_
      refine y_getR rfl (ySh.t hS rfl) (ySh.n hS rfl) rfl rfl (ySh.r hS rfl) ?_
      refine y_aload_n rfl rfl ?_
      refine y_getI rfl (ySh.t hS rfl) (ySh.n hS rfl) rfl rfl ?_
      refine y_iload_n rfl rfl ?_
      refine y_iastore rfl (ySh.t hS rfl) (ySh.n hS rfl) (Nat.le_of_ble_eq_true rfl) (by omega) (by omega) ?_
      refine y_nameI (fun I7 e7 => ?_)
      have hR1 := (hR0.grow hX).arr e7 (by decide)
      have hK := (hK.x hRo hno hX).upI (upI e7) (by decide) (by decide) (fun i hi => by have := (hRo.l87.2.2.2.2 i hi).2.1; omega) (by rw [e7, upd2_ne (.inl (by omega))]; exact Int.le_refl _)
      have hth := (show I7 83 0 = I4 83 0 by rw [e7, upd2_ne (.inl (by omega))]).trans hth
      have hzz : ySz I4 I7 := ySz_ofE (upI e7) (by omega)
      have hS0 := hS
      have hR0 := hR1
      have hn := Nat.le_refl n
      have h94 := hS0.1
      have hX := @yX.rf n tg I7 R
      have hS := hS0.x hX
      have hR := hR0.x hn hX
      have hz := hX.sz h94
      have hxn := hX.1
      have hN := hR0.1
      have hnb := hR0.2.2.2.2.2.2
      have hthB := hth
      refine y_aload_n rfl rfl ?_
      refine y_dup rfl rfl ?_
      refine y_getI rfl (ySh.t hS rfl) (ySh.n hS rfl) rfl rfl ?_
      refine y_iconst rfl ?_
      refine y_iadd rfl ?_
      refine y_putI rfl (ySh.t hS rfl) (ySh.n hS rfl) rfl (Nat.le_of_ble_eq_true rfl) rfl rfl ?_
      refine y_nameI (fun I8 e8 => ?_)
      have hR1 := (hR0.grow hX).mod (upI e8) (by rw [e8, upd2_self, yinc (by omega)]; omega) ⟨by rw [e8, upd2_ne (.inr (by decide))]; exact Int.le_refl _, by rw [e8, upd2_ne (.inr (by decide))]; omega⟩
      have hK := (hK.x hRo hno hX).upI (upI e8) (by decide) (by decide) (fun i hi => by have := (hRo.l87.2.2.2.2 i hi).2.1; omega) (by rw [e8, upd2_ne (.inr (by decide))]; exact Int.le_refl _)
      have hth := (show I8 83 0 = I7 83 0 by rw [e8, upd2_ne (.inr (by decide))]).trans hth
      have hzz : (I8 83 8).toInt = (I7 83 8).toInt + 1 := by rw [e8, upd2_self, yinc (by omega)]
      have hS0 := hS
      have hR0 := hR1
      have hn := Nat.le_refl n
      have h94 := hS0.1
      have hX := @yX.rf n tg I8 R
      have hS := hS0.x hX
      have hR := hR0.x hn hX
      have hz := hX.sz h94
      have hxn := hX.1
      have hN := hR0.1
      have hnb := hR0.2.2.2.2.2.2
      have hthB := hth
      refine y_aload_n rfl rfl ?_
      refine y_getI rfl (ySh.t hS rfl) (ySh.n hS rfl) rfl rfl ?_
      refine y_iconst rfl ?_
      refine y_isub rfl ?_
      refine y_ireturn rfl rfl rfl ?_
      exact hQ0 (by omega) _ _ _ _ _ _ _ hS ((hR0.grow hX).up (Nat.le_succ K) hk6) (hK.x hRo hno hX) hth ⟨by first | omega | (rw [ysub (by rw [yz_1]; omega) (by rw [yz_1]; omega), yz_1]; omega), by first | omega | (rw [ysub (by rw [yz_1]; omega) (by rw [yz_1]; omega), yz_1]; omega)⟩ (by omega) (by omega)
    · rw [yz_8] at h_6
      refine y_iconst rfl ?_
      refine y_goto rfl j_X14_person_39 ?_
      refine y_iconst rfl ?_
      refine y_virt rfl rfl rfl rfl rfl (ySh.t hS rfl) (ySh.n hS rfl) ?_
      refine y_in (M := xm_X14_refuse) (ls := [some _, some _, some _]) rfl rfl rfl ?_
      refine y_iload_n rfl rfl ?_
      refine y_if_eqF rfl (by decide) ?_
      refine y_aload_n rfl rfl ?_
      refine y_getIv (v := Int32.ofInt (0)) rfl (ySh.t hS rfl) (ySh.n hS rfl) rfl rfl hth ?_
      refine y_if_neF rfl (by decide) ?_
      refine y_aload_n rfl rfl ?_
      refine y_iload_n rfl rfl ?_
      refine y_putI rfl (ySh.t hS rfl) (ySh.n hS rfl) rfl (Nat.le_of_ble_eq_true rfl) rfl rfl ?_
      refine y_nameI (fun I9 e9 => ?_)
      have hR1 := (hR0.grow hX).mod0 e9 (by decide) (by decide)
      have hK := (hK.x hRo hno hX).upI (upI e9) (by decide) (by decide) (fun i hi => by have := (hRo.l87.2.2.2.2 i hi).2.1; omega) (by rw [e9, upd2_ne (.inr (by decide))]; exact Int.le_refl _)
      have hth : I9 83 0 = Int32.ofInt (2) := by rw [e9, upd2_self]
      have hzz : ySz8 I4 I9 := ySz8_of (upI e9) (by rw [e9]; exact ⟨upd2_ne (.inr (by decide)), upd2_ne (.inr (by decide))⟩)
      have hS0 := hS
      have hR0 := hR1
      have hn := Nat.le_refl n
      have h94 := hS0.1
      have hX := @yX.rf n tg I9 R
      have hS := hS0.x hX
      have hR := hR0.x hn hX
      have hz := hX.sz h94
      have hxn := hX.1
      have hN := hR0.1
      have hnb := hR0.2.2.2.2.2.2
      have hthB := hth
      refine y_aload_n rfl rfl ?_
      refine y_getIv (v := Int32.ofInt (2)) rfl (ySh.t hS rfl) (ySh.n hS rfl) rfl rfl hth ?_
      refine y_if_leF rfl (by decide) ?_
      refine y_iconst rfl ?_
      refine y_goto rfl j_X14_refuse_28 ?_
      refine y_ireturn rfl rfl rfl ?_
      refine y_ret1 ?_
      refine y_if_eqF rfl (by decide) ?_
      refine y_iconst rfl ?_
      refine y_ireturn rfl rfl rfl ?_
      exact hQ2 (by omega) _ _ _ _ _ _ _ hS ((hR0.grow hX).up (Nat.le_succ K) hk6) (hK.x hRo hno hX) hth (by first | omega | (rw [ysub (by rw [yz_1]; omega) (by rw [yz_1]; omega), yz_1]; omega)) (by omega) (by omega)
  · rw [yz_0] at h_3
    rw [yz_9999] at h_3
    refine y_ret1 ?_
    refine y_if_neF rfl (by decide) ?_
    refine y_iconst rfl ?_
    refine y_goto rfl j_X14_person_17 ?_
    refine y_iconst rfl ?_
    refine y_virt rfl rfl rfl rfl rfl (ySh.t hS rfl) (ySh.n hS rfl) ?_
    refine y_in (M := xm_X14_start) (ls := [some _, some _, some _]) rfl rfl rfl ?_
    refine y_aload_n rfl rfl ?_
    refine y_iconst rfl ?_
    refine y_putI rfl (ySh.t hS rfl) (ySh.n hS rfl) rfl (Nat.le_of_ble_eq_true rfl) rfl rfl ?_
    refine y_nameI (fun I10 e10 => ?_)
    have hR1 := (hR0.grow hX).mod0 e10 (by decide) (by decide)
    have hK := (hK.x hRo hno hX).upI (upI e10) (by decide) (by decide) (fun i hi => by have := (hRo.l87.2.2.2.2 i hi).2.1; omega) (by rw [e10, upd2_ne (.inr (by decide))]; exact Int.le_refl _)
    have hth : I10 83 0 = Int32.ofInt (0) := by rw [e10, upd2_self]
    have hzz : ySz8 I I10 := ySz8_of (upI e10) (by rw [e10]; exact ⟨upd2_ne (.inr (by decide)), upd2_ne (.inr (by decide))⟩)
    have hS0 := hS
    have hR0 := hR1
    have hn := Nat.le_refl n
    have h94 := hS0.1
    have hX := @yX.rf n tg I10 R
    have hS := hS0.x hX
    have hR := hR0.x hn hX
    have hz := hX.sz h94
    have hxn := hX.1
    have hN := hR0.1
    have hnb := hR0.2.2.2.2.2.2
    have hthB := hth
    refine y_aload_n rfl rfl ?_
    refine y_iload_n rfl rfl ?_
    refine y_iload_n rfl rfl ?_
    refine y_virt rfl rfl rfl rfl rfl (ySh.t hS rfl) (ySh.n hS rfl) ?_
    refine y_in (M := xm_X14_refuse) (ls := [some _, some _, some _]) rfl rfl rfl ?_
    refine y_iload_n rfl rfl ?_
    refine y_if_eqF rfl (by decide) ?_
    refine y_aload_n rfl rfl ?_
    refine y_getIv (v := Int32.ofInt (0)) rfl (ySh.t hS rfl) (ySh.n hS rfl) rfl rfl hth ?_
    refine y_if_neF rfl (by decide) ?_
    refine y_aload_n rfl rfl ?_
    refine y_iload_n rfl rfl ?_
    refine y_putI rfl (ySh.t hS rfl) (ySh.n hS rfl) rfl (Nat.le_of_ble_eq_true rfl) rfl rfl ?_
    refine y_nameI (fun I11 e11 => ?_)
    have hR1 := (hR0.grow hX).mod0 e11 (by decide) (by decide)
    have hK := (hK.x hRo hno hX).upI (upI e11) (by decide) (by decide) (fun i hi => by have := (hRo.l87.2.2.2.2 i hi).2.1; omega) (by rw [e11, upd2_ne (.inr (by decide))]; exact Int.le_refl _)
    have hth : I11 83 0 = Int32.ofInt (1) := by rw [e11, upd2_self]
    have hzz : ySz8 I10 I11 := ySz8_of (upI e11) (by rw [e11]; exact ⟨upd2_ne (.inr (by decide)), upd2_ne (.inr (by decide))⟩)
    have hS0 := hS
    have hR0 := hR1
    have hn := Nat.le_refl n
    have h94 := hS0.1
    have hX := @yX.rf n tg I11 R
    have hS := hS0.x hX
    have hR := hR0.x hn hX
    have hz := hX.sz h94
    have hxn := hX.1
    have hN := hR0.1
    have hnb := hR0.2.2.2.2.2.2
    have hthB := hth
    refine y_aload_n rfl rfl ?_
    refine y_getIv (v := Int32.ofInt (1)) rfl (ySh.t hS rfl) (ySh.n hS rfl) rfl rfl hth ?_
    refine y_if_leF rfl (by decide) ?_
    refine y_iconst rfl ?_
    refine y_goto rfl j_X14_refuse_28 ?_
    refine y_ireturn rfl rfl rfl ?_
    refine y_ret1 ?_
    refine y_ireturn rfl rfl rfl ?_
    refine y_ret1 ?_
    refine y_if_neT rfl j_X14_person_46 (by decide) ?_
    refine y_iconst rfl ?_
    refine y_ireturn rfl rfl rfl ?_
    exact hQ1 (by omega) _ _ _ _ _ _ _ hS ((hR0.grow hX).up (Nat.le_succ K) hk6) (hK.x hRo hno hX) hth (by first | omega | (rw [ysub (by rw [yz_1]; omega) (by rw [yz_1]; omega), yz_1]; omega)) (by omega) (by omega)
theorem f_thing (hS0 : ySh n tg R) (hR0 : yRI K n tg I R) (hk6 : K < 600) {x1 x2 : Int32} (hQ0 : (x2.toInt = -1 ∨ 0 ≤ x2.toInt ∧ x2.toInt < (I 83 8).toInt) ∧ (1 ≤ x1.toInt ∧ x1.toInt ≤ 999) ∧ (I 88 2).toInt < 16 → ∀ (v : Int32) n1 tg1 I1 R1 c1 s1, ySh n1 tg1 R1 → yRI (K + 1) n1 tg1 I1 R1 → yKp n tg I R n1 tg1 I1 R1 → I1 83 0 = Int32.ofInt 0 → v.toInt = (I 88 2).toInt ∧ (I1 88 2).toInt = (I 88 2).toInt + 1 ∧ (I1 89 2).toInt = (I 89 2).toInt ∧ (I1 90 2).toInt = (I 90 2).toInt ∧ (I1 91 2).toInt = (I 91 2).toInt ∧ (I1 92 2).toInt = (I 92 2).toInt → c1 ≤ c + 2 → s1 ≤ s + 1310 → Q (.inl (some (.int v))) (n1, tg1, I1, R1) c1 s1) (hQ1 : ¬ (x2.toInt = -1 ∨ 0 ≤ x2.toInt ∧ x2.toInt < (I 83 8).toInt) → ∀ (v : Int32) n1 tg1 I1 R1 c1 s1, ySh n1 tg1 R1 → yRI (K + 1) n1 tg1 I1 R1 → yKp n tg I R n1 tg1 I1 R1 → I1 83 0 = Int32.ofInt 1 → (I1 88 2).toInt = (I 88 2).toInt ∧ (I1 89 2).toInt = (I 89 2).toInt ∧ (I1 90 2).toInt = (I 90 2).toInt ∧ (I1 91 2).toInt = (I 91 2).toInt ∧ (I1 92 2).toInt = (I 92 2).toInt → c1 ≤ c + 2 → s1 ≤ s + 1310 → Q (.inl (some (.int v))) (n1, tg1, I1, R1) c1 s1) (hQ2 : (x2.toInt = -1 ∨ 0 ≤ x2.toInt ∧ x2.toInt < (I 83 8).toInt) ∧ ¬ (1 ≤ x1.toInt ∧ x1.toInt ≤ 999) → ∀ (v : Int32) n1 tg1 I1 R1 c1 s1, ySh n1 tg1 R1 → yRI (K + 1) n1 tg1 I1 R1 → yKp n tg I R n1 tg1 I1 R1 → I1 83 0 = Int32.ofInt 2 → (I1 88 2).toInt = (I 88 2).toInt ∧ (I1 89 2).toInt = (I 89 2).toInt ∧ (I1 90 2).toInt = (I 90 2).toInt ∧ (I1 91 2).toInt = (I 91 2).toInt ∧ (I1 92 2).toInt = (I 92 2).toInt → c1 ≤ c + 2 → s1 ≤ s + 1310 → Q (.inl (some (.int v))) (n1, tg1, I1, R1) c1 s1) (hQ3 : (x2.toInt = -1 ∨ 0 ≤ x2.toInt ∧ x2.toInt < (I 83 8).toInt) ∧ (1 ≤ x1.toInt ∧ x1.toInt ≤ 999) ∧ (I 88 2).toInt = 16 → ∀ (v : Int32) n1 tg1 I1 R1 c1 s1, ySh n1 tg1 R1 → yRI (K + 1) n1 tg1 I1 R1 → yKp n tg I R n1 tg1 I1 R1 → I1 83 0 = Int32.ofInt 3 → (I1 88 2).toInt = (I 88 2).toInt ∧ (I1 89 2).toInt = (I 89 2).toInt ∧ (I1 90 2).toInt = (I 90 2).toInt ∧ (I1 91 2).toInt = (I 91 2).toInt ∧ (I1 92 2).toInt = (I 92 2).toInt → c1 ≤ c + 2 → s1 ≤ s + 1310 → Q (.inl (some (.int v))) (n1, tg1, I1, R1) c1 s1) : yC 196 [.ref 83, .int x1, .int x2] (n, tg, I, R) c s Q := by
  have hno := Nat.le_refl n
  have hn := hno
  have hRo := hR0
  have hK : yKp n tg I R n tg I R := yKp.rf
  have hX : yX n tg I R n tg I R := yX.rf
  have hS := hS0
  have hR := hR0
  have h94 : 94 ≤ n := hS0.1
  have hz : ySz I I := hX.sz h94
  have hxn := hX.1
  have hN := hR0.1
  have hnb : 94 ≤ n := hR0.2.2.2.2.2.2
  refine y_in (M := xm_X14_thing) (ls := [some _, some _, some _]) rfl rfl rfl ?_
  refine y_aload_n rfl rfl ?_
  refine y_iload_n rfl rfl ?_
  refine y_iconst rfl ?_
  refine y_icmp_eq rfl j_X14_thing_18 (fun h_1 => ?_) (fun h_2 => ?_)
  · rw [yz_m1] at h_1
    refine y_iconst rfl ?_
    refine y_iconst rfl ?_
    refine y_virt rfl rfl rfl rfl rfl (ySh.t hS rfl) (ySh.n hS rfl) ?_
    refine y_in (M := xm_X14_start) (ls := [some _, some _, some _]) rfl rfl rfl ?_
    refine y_aload_n rfl rfl ?_
    refine y_iconst rfl ?_
    refine y_putI rfl (ySh.t hS rfl) (ySh.n hS rfl) rfl (Nat.le_of_ble_eq_true rfl) rfl rfl ?_
    refine y_nameI (fun I3 e3 => ?_)
    have hR1 := (hR0.grow hX).mod0 e3 (by decide) (by decide)
    have hK := (hK.x hRo hno hX).upI (upI e3) (by decide) (by decide) (fun i hi => by have := (hRo.l87.2.2.2.2 i hi).2.1; omega) (by rw [e3, upd2_ne (.inr (by decide))]; exact Int.le_refl _)
    have hth : I3 83 0 = Int32.ofInt (0) := by rw [e3, upd2_self]
    have hzz : ySz8 I I3 := ySz8_of (upI e3) (by rw [e3]; exact ⟨upd2_ne (.inr (by decide)), upd2_ne (.inr (by decide))⟩)
    have hS0 := hS
    have hR0 := hR1
    have hn := Nat.le_refl n
    have h94 := hS0.1
    have hX := @yX.rf n tg I3 R
    have hS := hS0.x hX
    have hR := hR0.x hn hX
    have hz := hX.sz h94
    have hxn := hX.1
    have hN := hR0.1
    have hnb := hR0.2.2.2.2.2.2
    have hthB := hth
    refine y_aload_n rfl rfl ?_
    refine y_iload_n rfl rfl ?_
    refine y_iload_n rfl rfl ?_
    refine y_virt rfl rfl rfl rfl rfl (ySh.t hS rfl) (ySh.n hS rfl) ?_
    refine y_in (M := xm_X14_refuse) (ls := [some _, some _, some _]) rfl rfl rfl ?_
    refine y_iload_n rfl rfl ?_
    refine y_if_eqT rfl j_X14_refuse_16 (by decide) ?_
    refine y_aload_n rfl rfl ?_
    refine y_getIv (v := Int32.ofInt (0)) rfl (ySh.t hS rfl) (ySh.n hS rfl) rfl rfl hth ?_
    refine y_if_leT rfl j_X14_refuse_27 (by decide) ?_
    refine y_iconst rfl ?_
    refine y_ireturn rfl rfl rfl ?_
    refine y_ret1 ?_
    refine y_ireturn rfl rfl rfl ?_
    refine y_ret1 ?_
    refine y_if_neF rfl (by decide) ?_
    refine y_aload_n rfl rfl ?_
    refine y_iload_n rfl rfl ?_
    refine y_iconst rfl ?_
    refine y_sip rfl (by decide) ?_
    refine y_static rfl rfl rfl rfl rfl ?_
    refine r_isIn (fun h_4 h_5 => ?_) (fun h_6 => ?_)
    · rw [yz_1] at h_4
      rw [yz_999] at h_5
      refine y_ret1 ?_
      refine y_if_neT rfl j_X14_thing_42 (by decide) ?_
      refine y_iconst rfl ?_
      refine y_iconst rfl ?_
      refine y_virt rfl rfl rfl rfl rfl (ySh.t hS rfl) (ySh.n hS rfl) ?_
      refine y_in (M := xm_X14_refuse) (ls := [some _, some _, some _]) rfl rfl rfl ?_
      refine y_iload_n rfl rfl ?_
      refine y_if_eqT rfl j_X14_refuse_16 (by decide) ?_
      refine y_aload_n rfl rfl ?_
      refine y_getIv (v := Int32.ofInt (0)) rfl (ySh.t hS rfl) (ySh.n hS rfl) rfl rfl hth ?_
      refine y_if_leT rfl j_X14_refuse_27 (by decide) ?_
      refine y_iconst rfl ?_
      refine y_ireturn rfl rfl rfl ?_
      refine y_ret1 ?_
      refine y_if_neF rfl (by decide) ?_
      refine y_aload_n rfl rfl ?_
      refine y_aload_n rfl rfl ?_
      refine y_getR rfl (ySh.t hS rfl) (ySh.n hS rfl) rfl rfl (ySh.r hS rfl) ?_
      refine y_virt rfl rfl rfl rfl rfl (ySh.t hS rfl) (ySh.n hS rfl) ?_
      refine y_in (M := xm_Jx4a65c_size_8abf5) (ls := [some _]) rfl rfl rfl ?_
      refine y_aload_n rfl rfl ?_
      refine y_getI rfl (ySh.t hS rfl) (ySh.n hS rfl) rfl rfl ?_
      refine y_ireturn rfl rfl rfl ?_
      refine y_ret1 ?_
      refine y_bip rfl (by decide) ?_
      refine y_icmp_ne rfl j_X14_thing_67 (fun h_7 => ?_) (fun h_8 => ?_)
      · rw [yz_16] at h_7
        refine y_iconst rfl ?_
        refine y_iconst rfl ?_
        refine y_virt rfl rfl rfl rfl rfl (ySh.t hS rfl) (ySh.n hS rfl) ?_
        refine y_in (M := xm_X14_refuse) (ls := [some _, some _, some _]) rfl rfl rfl ?_
        refine y_iload_n rfl rfl ?_
        refine y_if_eqT rfl j_X14_refuse_16 (by decide) ?_
        refine y_aload_n rfl rfl ?_
        refine y_getIv (v := Int32.ofInt (0)) rfl (ySh.t hS rfl) (ySh.n hS rfl) rfl rfl hth ?_
        refine y_if_leT rfl j_X14_refuse_27 (by decide) ?_
        refine y_iconst rfl ?_
        refine y_ireturn rfl rfl rfl ?_
        refine y_ret1 ?_
        refine y_if_eqT rfl j_X14_thing_77 (by decide) ?_
        refine y_aload_n rfl rfl ?_
        refine y_getR rfl (ySh.t hS rfl) (ySh.n hS rfl) rfl rfl (ySh.r hS rfl) ?_
        refine y_newX rfl rfl rfl (fun n9 tg9 I9 R9 hA => ?_)
        have hnA := hA.1
        have hnw := yNw.al hX hA
        have ht_f10 : tg9 n = (20, 0) := hA.2.1
        have ha_f10 : n < n9 := by omega
        have hX := hX.y.trans hA.y
        have hS := hS0.y hX
        have hR := hR0.y hn hX
        have hz := hX.sz h94
        have hxn := hX.1
        have hth := (congrFun (hA.2.2.2.2 83 (by omega)).2.1 0).trans hth
        refine y_dup rfl rfl ?_
        refine y_iload_n rfl rfl ?_
        refine y_iload_n rfl rfl ?_
        refine y_iconst rfl ?_
        refine y_icmp_ne rfl j_X14_thing_96 (fun h_11 => ?_) (fun h_12 => ?_)
        · rw [yz_m1] at h_11
          refine y_iload_n rfl rfl ?_
          refine y_init rfl rfl rfl rfl rfl ?_
          refine y_in (M := xm_X12_init) (ls := [some _, some _, some _]) rfl rfl rfl ?_
          refine y_aload_n rfl rfl ?_
          refine y_obj rfl ha_f10 rfl ?_
          refine y_aload_n rfl rfl ?_
          refine y_iconst rfl ?_
          refine y_putI rfl ht_f10 ha_f10 rfl (Nat.le_trans (by decide) (by omega : 94 ≤ _)) rfl rfl ?_
          refine y_nameI (fun I13 e13 => ?_)
          have hX := hX.upI (by omega) (upI e13)
          have hS := hS0.y hX
          have hR := hR0.y hn hX
          have hz := hX.sz h94
          have hxn := hX.1
          have hth := (congrFun (upI e13 83 (by omega)) 0).trans hth
          refine y_aload_n rfl rfl ?_
          refine y_iconst rfl ?_
          refine y_putI rfl ht_f10 ha_f10 rfl (Nat.le_trans (by decide) (by omega : 94 ≤ _)) rfl rfl ?_
          refine y_nameI (fun I14 e14 => ?_)
          have hX := hX.upI (by omega) (upI e14)
          have hS := hS0.y hX
          have hR := hR0.y hn hX
          have hz := hX.sz h94
          have hxn := hX.1
          have hth := (congrFun (upI e14 83 (by omega)) 0).trans hth
          refine y_aload_n rfl rfl ?_
          refine y_iload_n rfl rfl ?_
          refine y_putI rfl ht_f10 ha_f10 rfl (Nat.le_trans (by decide) (by omega : 94 ≤ _)) rfl rfl ?_
          refine y_nameI (fun I15 e15 => ?_)
          have hX := hX.upI (by omega) (upI e15)
          have hS := hS0.y hX
          have hR := hR0.y hn hX
          have hz := hX.sz h94
          have hxn := hX.1
          have hth := (congrFun (upI e15 83 (by omega)) 0).trans hth
          refine y_aload_n rfl rfl ?_
          refine y_iload_n rfl rfl ?_
          refine y_putI rfl ht_f10 ha_f10 rfl (Nat.le_trans (by decide) (by omega : 94 ≤ _)) rfl rfl ?_
          refine y_nameI (fun I16 e16 => ?_)
          have hX := hX.upI (by omega) (upI e16)
          have hS := hS0.y hX
          have hR := hR0.y hn hX
          have hz := hX.sz h94
          have hxn := hX.1
          have hth := (congrFun (upI e16 83 (by omega)) 0).trans hth
          refine y_return rfl ?_
          refine y_ret0 ?_
          refine y_virt rfl rfl rfl rfl rfl (ySh.t hS rfl) (ySh.n hS rfl) ?_
          refine l_add hS (by decide) (by decide) (ySh.t hS rfl) (Nat.le_trans hn hX.1) hR.l88 (by omega) (by omega) ha_f10 (fun n17 tg17 I17 R17 c_17 s_17 hAd hc_17 hs_17 => ?_)
          have hsA := hAd.sz
          have hsz87 := congrArg Int32.toInt (congrFun (hAd.I 87 (by omega) (by decide)) 2)
          have hsz89 := congrArg Int32.toInt (congrFun (hAd.I 89 (by omega) (by decide)) 2)
          have hsz90 := congrArg Int32.toInt (congrFun (hAd.I 90 (by omega) (by decide)) 2)
          have hsz91 := congrArg Int32.toInt (congrFun (hAd.I 91 (by omega) (by decide)) 2)
          have hsz92 := congrArg Int32.toInt (congrFun (hAd.I 92 (by omega) (by decide)) 2)
          have hszp := congrArg Int32.toInt (congrFun (hAd.I 83 (by omega) (by decide)) 8)
          have hszd := congrArg Int32.toInt (congrFun (hAd.I 83 (by omega) (by decide)) 1)
          have hnA := hAd.n
          have hNu : yNum K I17 := yNum.add (K := K) hR.1 hAd (by omega) (by decide) (by decide) (Nat.le_refl K) (by omega) (fun h => by omega) (fun h => by omega) (fun h => by omega) (fun h => by omega) (fun h => by omega) (fun h => by omega)
          have htx : tg17 n = (20, 0) := (hAd.tg _ ha_f10).trans ht_f10
          have hIx := hAd.I _ ha_f10 (by omega)
          have hOb : yOb K n17 tg17 I17 R17 n := ⟨fun _ => by rw [hIx]; simp only [e16, e15, e14, e13, upd2]; first | omega | (simp; omega) | simp | (simp; decide) | decide, fun hq => absurd (show (20 : Nat) = 19 from congrArg Prod.fst (htx.symm.trans hq)) (by decide), fun hq => absurd (show (20 : Nat) = 18 from congrArg Prod.fst (htx.symm.trans hq)) (by decide), fun hq => absurd (show (20 : Nat) = 21 from congrArg Prod.fst (htx.symm.trans hq)) (by decide)⟩
          have hR1 : yRI K n17 tg17 I17 R17 := yRI.add hR (Nat.le_trans hn hX.1) hAd (by decide) (by decide) rfl (by omega) ha_f10 ht_f10 hnw (Nat.le_refl K) hNu hOb (fun h => absurd h (by decide)) (fun h => absurd h (by decide))
          have hK := (hK.y hRo hno hX).add hRo hno hR.di hAd (by decide) (by decide) (hR.zl 88 (by decide) (by decide))
          have hS := hS.add hAd (by decide) (by decide) (hR.zl 88 (by decide) (by decide))
          have hth := (congrFun (hAd.I 83 (by omega) (by decide)) 0).trans hth
          have ht_f10 := (hAd.tg _ ha_f10).trans ht_f10
          have ha_f10 := Nat.lt_of_lt_of_le ha_f10 hAd.n
          have hS0 := hS
          have hR0 := hR1
          have hn := Nat.le_refl n17
          have h94 := hS0.1
          have hX := @yX.rf n17 tg17 I17 R17
          have hS := hS0.x hX
          have hR := hR0.x hn hX
          have hz := hX.sz h94
          have hxn := hX.1
          have hN := hR0.1
          have hnb := hR0.2.2.2.2.2.2
          have hthB := hth
          refine y_ret1 ?_
          refine y_pop rfl rfl ?_
          refine y_aload_n rfl rfl ?_
          refine y_getR rfl (ySh.t hS rfl) (ySh.n hS rfl) rfl rfl (ySh.r hS rfl) ?_
          refine y_virt rfl rfl rfl rfl rfl (ySh.t hS rfl) (ySh.n hS rfl) ?_
          refine y_in (M := xm_Jx4a65c_size_8abf5) (ls := [some _]) rfl rfl rfl ?_
          refine y_aload_n rfl rfl ?_
          refine y_getI rfl (ySh.t hS rfl) (ySh.n hS rfl) rfl rfl ?_
          refine y_ireturn rfl rfl rfl ?_
          refine y_ret1 ?_
          refine y_iconst rfl ?_
          refine y_isub rfl ?_
          refine y_ireturn rfl rfl rfl ?_
          exact hQ0 (by omega) _ _ _ _ _ _ _ hS ((hR0.grow hX).up (Nat.le_succ K) hk6) (hK.x hRo hno hX) hth ⟨by first | omega | (rw [ysub (by rw [yz_1]; omega) (by rw [yz_1]; omega), yz_1]; omega), by first | omega | (rw [ysub (by rw [yz_1]; omega) (by rw [yz_1]; omega), yz_1]; omega), by first | omega | (rw [ysub (by rw [yz_1]; omega) (by rw [yz_1]; omega), yz_1]; omega), by first | omega | (rw [ysub (by rw [yz_1]; omega) (by rw [yz_1]; omega), yz_1]; omega), by first | omega | (rw [ysub (by rw [yz_1]; omega) (by rw [yz_1]; omega), yz_1]; omega), by first | omega | (rw [ysub (by rw [yz_1]; omega) (by rw [yz_1]; omega), yz_1]; omega)⟩ (by omega) (by omega)
        · rw [yz_m1] at h_12
          refine y_bip rfl (by decide) ?_
          refine y_goto rfl j_X14_thing_97 ?_
          refine y_init rfl rfl rfl rfl rfl ?_
          refine y_in (M := xm_X12_init) (ls := [some _, some _, some _]) rfl rfl rfl ?_
          refine y_aload_n rfl rfl ?_
          refine y_obj rfl ha_f10 rfl ?_
          refine y_aload_n rfl rfl ?_
          refine y_iconst rfl ?_
          refine y_putI rfl ht_f10 ha_f10 rfl (Nat.le_trans (by decide) (by omega : 94 ≤ _)) rfl rfl ?_
          refine y_nameI (fun I18 e18 => ?_)
          have hX := hX.upI (by omega) (upI e18)
          have hS := hS0.y hX
          have hR := hR0.y hn hX
          have hz := hX.sz h94
          have hxn := hX.1
          have hth := (congrFun (upI e18 83 (by omega)) 0).trans hth
          refine y_aload_n rfl rfl ?_
          refine y_iconst rfl ?_
          refine y_putI rfl ht_f10 ha_f10 rfl (Nat.le_trans (by decide) (by omega : 94 ≤ _)) rfl rfl ?_
          refine y_nameI (fun I19 e19 => ?_)
          have hX := hX.upI (by omega) (upI e19)
          have hS := hS0.y hX
          have hR := hR0.y hn hX
          have hz := hX.sz h94
          have hxn := hX.1
          have hth := (congrFun (upI e19 83 (by omega)) 0).trans hth
          refine y_aload_n rfl rfl ?_
          refine y_iload_n rfl rfl ?_
          refine y_putI rfl ht_f10 ha_f10 rfl (Nat.le_trans (by decide) (by omega : 94 ≤ _)) rfl rfl ?_
          refine y_nameI (fun I20 e20 => ?_)
          have hX := hX.upI (by omega) (upI e20)
          have hS := hS0.y hX
          have hR := hR0.y hn hX
          have hz := hX.sz h94
          have hxn := hX.1
          have hth := (congrFun (upI e20 83 (by omega)) 0).trans hth
          refine y_aload_n rfl rfl ?_
          refine y_iload_n rfl rfl ?_
          refine y_putI rfl ht_f10 ha_f10 rfl (Nat.le_trans (by decide) (by omega : 94 ≤ _)) rfl rfl ?_
          refine y_nameI (fun I21 e21 => ?_)
          have hX := hX.upI (by omega) (upI e21)
          have hS := hS0.y hX
          have hR := hR0.y hn hX
          have hz := hX.sz h94
          have hxn := hX.1
          have hth := (congrFun (upI e21 83 (by omega)) 0).trans hth
          refine y_return rfl ?_
          refine y_ret0 ?_
          refine y_virt rfl rfl rfl rfl rfl (ySh.t hS rfl) (ySh.n hS rfl) ?_
          refine l_add hS (by decide) (by decide) (ySh.t hS rfl) (Nat.le_trans hn hX.1) hR.l88 (by omega) (by omega) ha_f10 (fun n22 tg22 I22 R22 c_22 s_22 hAd hc_22 hs_22 => ?_)
          have hsA := hAd.sz
          have hsz87 := congrArg Int32.toInt (congrFun (hAd.I 87 (by omega) (by decide)) 2)
          have hsz89 := congrArg Int32.toInt (congrFun (hAd.I 89 (by omega) (by decide)) 2)
          have hsz90 := congrArg Int32.toInt (congrFun (hAd.I 90 (by omega) (by decide)) 2)
          have hsz91 := congrArg Int32.toInt (congrFun (hAd.I 91 (by omega) (by decide)) 2)
          have hsz92 := congrArg Int32.toInt (congrFun (hAd.I 92 (by omega) (by decide)) 2)
          have hszp := congrArg Int32.toInt (congrFun (hAd.I 83 (by omega) (by decide)) 8)
          have hszd := congrArg Int32.toInt (congrFun (hAd.I 83 (by omega) (by decide)) 1)
          have hnA := hAd.n
          have hNu : yNum K I22 := yNum.add (K := K) hR.1 hAd (by omega) (by decide) (by decide) (Nat.le_refl K) (by omega) (fun h => by omega) (fun h => by omega) (fun h => by omega) (fun h => by omega) (fun h => by omega) (fun h => by omega)
          have htx : tg22 n = (20, 0) := (hAd.tg _ ha_f10).trans ht_f10
          have hIx := hAd.I _ ha_f10 (by omega)
          have hOb : yOb K n22 tg22 I22 R22 n := ⟨fun _ => by rw [hIx]; simp only [e21, e20, e19, e18, upd2]; first | omega | (simp; omega) | simp | (simp; decide) | decide, fun hq => absurd (show (20 : Nat) = 19 from congrArg Prod.fst (htx.symm.trans hq)) (by decide), fun hq => absurd (show (20 : Nat) = 18 from congrArg Prod.fst (htx.symm.trans hq)) (by decide), fun hq => absurd (show (20 : Nat) = 21 from congrArg Prod.fst (htx.symm.trans hq)) (by decide)⟩
          have hR1 : yRI K n22 tg22 I22 R22 := yRI.add hR (Nat.le_trans hn hX.1) hAd (by decide) (by decide) rfl (by omega) ha_f10 ht_f10 hnw (Nat.le_refl K) hNu hOb (fun h => absurd h (by decide)) (fun h => absurd h (by decide))
          have hK := (hK.y hRo hno hX).add hRo hno hR.di hAd (by decide) (by decide) (hR.zl 88 (by decide) (by decide))
          have hS := hS.add hAd (by decide) (by decide) (hR.zl 88 (by decide) (by decide))
          have hth := (congrFun (hAd.I 83 (by omega) (by decide)) 0).trans hth
          have ht_f10 := (hAd.tg _ ha_f10).trans ht_f10
          have ha_f10 := Nat.lt_of_lt_of_le ha_f10 hAd.n
          have hS0 := hS
          have hR0 := hR1
          have hn := Nat.le_refl n22
          have h94 := hS0.1
          have hX := @yX.rf n22 tg22 I22 R22
          have hS := hS0.x hX
          have hR := hR0.x hn hX
          have hz := hX.sz h94
          have hxn := hX.1
          have hN := hR0.1
          have hnb := hR0.2.2.2.2.2.2
          have hthB := hth
          refine y_ret1 ?_
          refine y_pop rfl rfl ?_
          refine y_aload_n rfl rfl ?_
          refine y_getR rfl (ySh.t hS rfl) (ySh.n hS rfl) rfl rfl (ySh.r hS rfl) ?_
          refine y_virt rfl rfl rfl rfl rfl (ySh.t hS rfl) (ySh.n hS rfl) ?_
          refine y_in (M := xm_Jx4a65c_size_8abf5) (ls := [some _]) rfl rfl rfl ?_
          refine y_aload_n rfl rfl ?_
          refine y_getI rfl (ySh.t hS rfl) (ySh.n hS rfl) rfl rfl ?_
          refine y_ireturn rfl rfl rfl ?_
          refine y_ret1 ?_
          refine y_iconst rfl ?_
          refine y_isub rfl ?_
          refine y_ireturn rfl rfl rfl ?_
          exact hQ0 (by omega) _ _ _ _ _ _ _ hS ((hR0.grow hX).up (Nat.le_succ K) hk6) (hK.x hRo hno hX) hth ⟨by first | omega | (rw [ysub (by rw [yz_1]; omega) (by rw [yz_1]; omega), yz_1]; omega), by first | omega | (rw [ysub (by rw [yz_1]; omega) (by rw [yz_1]; omega), yz_1]; omega), by first | omega | (rw [ysub (by rw [yz_1]; omega) (by rw [yz_1]; omega), yz_1]; omega), by first | omega | (rw [ysub (by rw [yz_1]; omega) (by rw [yz_1]; omega), yz_1]; omega), by first | omega | (rw [ysub (by rw [yz_1]; omega) (by rw [yz_1]; omega), yz_1]; omega), by first | omega | (rw [ysub (by rw [yz_1]; omega) (by rw [yz_1]; omega), yz_1]; omega)⟩ (by omega) (by omega)
      · rw [yz_16] at h_8
        refine y_iconst rfl ?_
        refine y_goto rfl j_X14_thing_68 ?_
        refine y_iconst rfl ?_
        refine y_virt rfl rfl rfl rfl rfl (ySh.t hS rfl) (ySh.n hS rfl) ?_
        refine y_in (M := xm_X14_refuse) (ls := [some _, some _, some _]) rfl rfl rfl ?_
        refine y_iload_n rfl rfl ?_
        refine y_if_eqF rfl (by decide) ?_
        refine y_aload_n rfl rfl ?_
        refine y_getIv (v := Int32.ofInt (0)) rfl (ySh.t hS rfl) (ySh.n hS rfl) rfl rfl hth ?_
        refine y_if_neF rfl (by decide) ?_
        refine y_aload_n rfl rfl ?_
        refine y_iload_n rfl rfl ?_
        refine y_putI rfl (ySh.t hS rfl) (ySh.n hS rfl) rfl (Nat.le_of_ble_eq_true rfl) rfl rfl ?_
        refine y_nameI (fun I23 e23 => ?_)
        have hR1 := (hR0.grow hX).mod0 e23 (by decide) (by decide)
        have hK := (hK.x hRo hno hX).upI (upI e23) (by decide) (by decide) (fun i hi => by have := (hRo.l87.2.2.2.2 i hi).2.1; omega) (by rw [e23, upd2_ne (.inr (by decide))]; exact Int.le_refl _)
        have hth : I23 83 0 = Int32.ofInt (3) := by rw [e23, upd2_self]
        have hzz : ySz8 I3 I23 := ySz8_of (upI e23) (by rw [e23]; exact ⟨upd2_ne (.inr (by decide)), upd2_ne (.inr (by decide))⟩)
        have hS0 := hS
        have hR0 := hR1
        have hn := Nat.le_refl n
        have h94 := hS0.1
        have hX := @yX.rf n tg I23 R
        have hS := hS0.x hX
        have hR := hR0.x hn hX
        have hz := hX.sz h94
        have hxn := hX.1
        have hN := hR0.1
        have hnb := hR0.2.2.2.2.2.2
        have hthB := hth
        refine y_aload_n rfl rfl ?_
        refine y_getIv (v := Int32.ofInt (3)) rfl (ySh.t hS rfl) (ySh.n hS rfl) rfl rfl hth ?_
        refine y_if_leF rfl (by decide) ?_
        refine y_iconst rfl ?_
        refine y_goto rfl j_X14_refuse_28 ?_
        refine y_ireturn rfl rfl rfl ?_
        refine y_ret1 ?_
        refine y_if_eqF rfl (by decide) ?_
        refine y_iconst rfl ?_
        refine y_ireturn rfl rfl rfl ?_
        exact hQ3 (by omega) _ _ _ _ _ _ _ hS ((hR0.grow hX).up (Nat.le_succ K) hk6) (hK.x hRo hno hX) hth ⟨by first | omega | (rw [ysub (by rw [yz_1]; omega) (by rw [yz_1]; omega), yz_1]; omega), by first | omega | (rw [ysub (by rw [yz_1]; omega) (by rw [yz_1]; omega), yz_1]; omega), by first | omega | (rw [ysub (by rw [yz_1]; omega) (by rw [yz_1]; omega), yz_1]; omega), by first | omega | (rw [ysub (by rw [yz_1]; omega) (by rw [yz_1]; omega), yz_1]; omega), by first | omega | (rw [ysub (by rw [yz_1]; omega) (by rw [yz_1]; omega), yz_1]; omega)⟩ (by omega) (by omega)
    · rw [yz_1] at h_6
      rw [yz_999] at h_6
      refine y_ret1 ?_
      refine y_if_neF rfl (by decide) ?_
      refine y_iconst rfl ?_
      refine y_goto rfl j_X14_thing_43 ?_
      refine y_iconst rfl ?_
      refine y_virt rfl rfl rfl rfl rfl (ySh.t hS rfl) (ySh.n hS rfl) ?_
      refine y_in (M := xm_X14_refuse) (ls := [some _, some _, some _]) rfl rfl rfl ?_
      refine y_iload_n rfl rfl ?_
      refine y_if_eqF rfl (by decide) ?_
      refine y_aload_n rfl rfl ?_
      refine y_getIv (v := Int32.ofInt (0)) rfl (ySh.t hS rfl) (ySh.n hS rfl) rfl rfl hth ?_
      refine y_if_neF rfl (by decide) ?_
      refine y_aload_n rfl rfl ?_
      refine y_iload_n rfl rfl ?_
      refine y_putI rfl (ySh.t hS rfl) (ySh.n hS rfl) rfl (Nat.le_of_ble_eq_true rfl) rfl rfl ?_
      refine y_nameI (fun I24 e24 => ?_)
      have hR1 := (hR0.grow hX).mod0 e24 (by decide) (by decide)
      have hK := (hK.x hRo hno hX).upI (upI e24) (by decide) (by decide) (fun i hi => by have := (hRo.l87.2.2.2.2 i hi).2.1; omega) (by rw [e24, upd2_ne (.inr (by decide))]; exact Int.le_refl _)
      have hth : I24 83 0 = Int32.ofInt (2) := by rw [e24, upd2_self]
      have hzz : ySz8 I3 I24 := ySz8_of (upI e24) (by rw [e24]; exact ⟨upd2_ne (.inr (by decide)), upd2_ne (.inr (by decide))⟩)
      have hS0 := hS
      have hR0 := hR1
      have hn := Nat.le_refl n
      have h94 := hS0.1
      have hX := @yX.rf n tg I24 R
      have hS := hS0.x hX
      have hR := hR0.x hn hX
      have hz := hX.sz h94
      have hxn := hX.1
      have hN := hR0.1
      have hnb := hR0.2.2.2.2.2.2
      have hthB := hth
      refine y_aload_n rfl rfl ?_
      refine y_getIv (v := Int32.ofInt (2)) rfl (ySh.t hS rfl) (ySh.n hS rfl) rfl rfl hth ?_
      refine y_if_leF rfl (by decide) ?_
      refine y_iconst rfl ?_
      refine y_goto rfl j_X14_refuse_28 ?_
      refine y_ireturn rfl rfl rfl ?_
      refine y_ret1 ?_
      refine y_if_neT rfl j_X14_thing_75 (by decide) ?_
      refine y_iconst rfl ?_
      refine y_ireturn rfl rfl rfl ?_
      exact hQ2 (by omega) _ _ _ _ _ _ _ hS ((hR0.grow hX).up (Nat.le_succ K) hk6) (hK.x hRo hno hX) hth ⟨by first | omega | (rw [ysub (by rw [yz_1]; omega) (by rw [yz_1]; omega), yz_1]; omega), by first | omega | (rw [ysub (by rw [yz_1]; omega) (by rw [yz_1]; omega), yz_1]; omega), by first | omega | (rw [ysub (by rw [yz_1]; omega) (by rw [yz_1]; omega), yz_1]; omega), by first | omega | (rw [ysub (by rw [yz_1]; omega) (by rw [yz_1]; omega), yz_1]; omega), by first | omega | (rw [ysub (by rw [yz_1]; omega) (by rw [yz_1]; omega), yz_1]; omega)⟩ (by omega) (by omega)
  · rw [yz_m1] at h_2
    refine y_aload_n rfl rfl ?_
    refine y_iload_n rfl rfl ?_
    refine y_virt rfl rfl rfl rfl rfl (ySh.t hS rfl) (ySh.n hS rfl) ?_
    refine y_in (M := xm_X14_isNobody) (ls := [some _, some _]) rfl rfl rfl ?_
    refine y_iload_n rfl rfl ?_
    refine y_iconst rfl ?_
    refine y_aload_n rfl rfl ?_
    refine y_getI rfl (ySh.t hS rfl) (ySh.n hS rfl) rfl rfl ?_
    refine y_iconst rfl ?_
    refine y_isub rfl ?_
    refine y_static rfl rfl rfl rfl rfl ?_
    refine r_isIn (fun h_25 h_26 => ?_) (fun h_27 => ?_)
    · rw [yz_0] at h_25
      try rw [ysub (by rw [yz_1]; omega) (by rw [yz_1]; omega), yz_1] at h_26
      refine y_ret1 ?_
      refine y_if_neT rfl j_X14_isNobody_18 (by decide) ?_
      refine y_iconst rfl ?_
      refine y_ireturn rfl rfl rfl ?_
      refine y_ret1 ?_
      refine y_if_eqT rfl j_X14_thing_18 (by decide) ?_
      refine y_iconst rfl ?_
      refine y_iconst rfl ?_
      refine y_virt rfl rfl rfl rfl rfl (ySh.t hS rfl) (ySh.n hS rfl) ?_
      refine y_in (M := xm_X14_start) (ls := [some _, some _, some _]) rfl rfl rfl ?_
      refine y_aload_n rfl rfl ?_
      refine y_iconst rfl ?_
      refine y_putI rfl (ySh.t hS rfl) (ySh.n hS rfl) rfl (Nat.le_of_ble_eq_true rfl) rfl rfl ?_
      refine y_nameI (fun I28 e28 => ?_)
      have hR1 := (hR0.grow hX).mod0 e28 (by decide) (by decide)
      have hK := (hK.x hRo hno hX).upI (upI e28) (by decide) (by decide) (fun i hi => by have := (hRo.l87.2.2.2.2 i hi).2.1; omega) (by rw [e28, upd2_ne (.inr (by decide))]; exact Int.le_refl _)
      have hth : I28 83 0 = Int32.ofInt (0) := by rw [e28, upd2_self]
      have hzz : ySz8 I I28 := ySz8_of (upI e28) (by rw [e28]; exact ⟨upd2_ne (.inr (by decide)), upd2_ne (.inr (by decide))⟩)
      have hS0 := hS
      have hR0 := hR1
      have hn := Nat.le_refl n
      have h94 := hS0.1
      have hX := @yX.rf n tg I28 R
      have hS := hS0.x hX
      have hR := hR0.x hn hX
      have hz := hX.sz h94
      have hxn := hX.1
      have hN := hR0.1
      have hnb := hR0.2.2.2.2.2.2
      have hthB := hth
      refine y_aload_n rfl rfl ?_
      refine y_iload_n rfl rfl ?_
      refine y_iload_n rfl rfl ?_
      refine y_virt rfl rfl rfl rfl rfl (ySh.t hS rfl) (ySh.n hS rfl) ?_
      refine y_in (M := xm_X14_refuse) (ls := [some _, some _, some _]) rfl rfl rfl ?_
      refine y_iload_n rfl rfl ?_
      refine y_if_eqT rfl j_X14_refuse_16 (by decide) ?_
      refine y_aload_n rfl rfl ?_
      refine y_getIv (v := Int32.ofInt (0)) rfl (ySh.t hS rfl) (ySh.n hS rfl) rfl rfl hth ?_
      refine y_if_leT rfl j_X14_refuse_27 (by decide) ?_
      refine y_iconst rfl ?_
      refine y_ireturn rfl rfl rfl ?_
      refine y_ret1 ?_
      refine y_ireturn rfl rfl rfl ?_
      refine y_ret1 ?_
      refine y_if_neF rfl (by decide) ?_
      refine y_aload_n rfl rfl ?_
      refine y_iload_n rfl rfl ?_
      refine y_iconst rfl ?_
      refine y_sip rfl (by decide) ?_
      refine y_static rfl rfl rfl rfl rfl ?_
      refine r_isIn (fun h_29 h_30 => ?_) (fun h_31 => ?_)
      · rw [yz_1] at h_29
        rw [yz_999] at h_30
        refine y_ret1 ?_
        refine y_if_neT rfl j_X14_thing_42 (by decide) ?_
        refine y_iconst rfl ?_
        refine y_iconst rfl ?_
        refine y_virt rfl rfl rfl rfl rfl (ySh.t hS rfl) (ySh.n hS rfl) ?_
        refine y_in (M := xm_X14_refuse) (ls := [some _, some _, some _]) rfl rfl rfl ?_
        refine y_iload_n rfl rfl ?_
        refine y_if_eqT rfl j_X14_refuse_16 (by decide) ?_
        refine y_aload_n rfl rfl ?_
        refine y_getIv (v := Int32.ofInt (0)) rfl (ySh.t hS rfl) (ySh.n hS rfl) rfl rfl hth ?_
        refine y_if_leT rfl j_X14_refuse_27 (by decide) ?_
        refine y_iconst rfl ?_
        refine y_ireturn rfl rfl rfl ?_
        refine y_ret1 ?_
        refine y_if_neF rfl (by decide) ?_
        refine y_aload_n rfl rfl ?_
        refine y_aload_n rfl rfl ?_
        refine y_getR rfl (ySh.t hS rfl) (ySh.n hS rfl) rfl rfl (ySh.r hS rfl) ?_
        refine y_virt rfl rfl rfl rfl rfl (ySh.t hS rfl) (ySh.n hS rfl) ?_
        refine y_in (M := xm_Jx4a65c_size_8abf5) (ls := [some _]) rfl rfl rfl ?_
        refine y_aload_n rfl rfl ?_
        refine y_getI rfl (ySh.t hS rfl) (ySh.n hS rfl) rfl rfl ?_
        refine y_ireturn rfl rfl rfl ?_
        refine y_ret1 ?_
        refine y_bip rfl (by decide) ?_
        refine y_icmp_ne rfl j_X14_thing_67 (fun h_32 => ?_) (fun h_33 => ?_)
        · rw [yz_16] at h_32
          refine y_iconst rfl ?_
          refine y_iconst rfl ?_
          refine y_virt rfl rfl rfl rfl rfl (ySh.t hS rfl) (ySh.n hS rfl) ?_
          refine y_in (M := xm_X14_refuse) (ls := [some _, some _, some _]) rfl rfl rfl ?_
          refine y_iload_n rfl rfl ?_
          refine y_if_eqT rfl j_X14_refuse_16 (by decide) ?_
          refine y_aload_n rfl rfl ?_
          refine y_getIv (v := Int32.ofInt (0)) rfl (ySh.t hS rfl) (ySh.n hS rfl) rfl rfl hth ?_
          refine y_if_leT rfl j_X14_refuse_27 (by decide) ?_
          refine y_iconst rfl ?_
          refine y_ireturn rfl rfl rfl ?_
          refine y_ret1 ?_
          refine y_if_eqT rfl j_X14_thing_77 (by decide) ?_
          refine y_aload_n rfl rfl ?_
          refine y_getR rfl (ySh.t hS rfl) (ySh.n hS rfl) rfl rfl (ySh.r hS rfl) ?_
          refine y_newX rfl rfl rfl (fun n34 tg34 I34 R34 hA => ?_)
          have hnA := hA.1
          have hnw := yNw.al hX hA
          have ht_f35 : tg34 n = (20, 0) := hA.2.1
          have ha_f35 : n < n34 := by omega
          have hX := hX.y.trans hA.y
          have hS := hS0.y hX
          have hR := hR0.y hn hX
          have hz := hX.sz h94
          have hxn := hX.1
          have hth := (congrFun (hA.2.2.2.2 83 (by omega)).2.1 0).trans hth
          refine y_dup rfl rfl ?_
          refine y_iload_n rfl rfl ?_
          refine y_iload_n rfl rfl ?_
          refine y_iconst rfl ?_
          refine y_icmp_ne rfl j_X14_thing_96 (fun h_36 => ?_) (fun h_37 => ?_)
          · rw [yz_m1] at h_36
            refine y_iload_n rfl rfl ?_
            refine y_init rfl rfl rfl rfl rfl ?_
            refine y_in (M := xm_X12_init) (ls := [some _, some _, some _]) rfl rfl rfl ?_
            refine y_aload_n rfl rfl ?_
            refine y_obj rfl ha_f35 rfl ?_
            refine y_aload_n rfl rfl ?_
            refine y_iconst rfl ?_
            refine y_putI rfl ht_f35 ha_f35 rfl (Nat.le_trans (by decide) (by omega : 94 ≤ _)) rfl rfl ?_
            refine y_nameI (fun I38 e38 => ?_)
            have hX := hX.upI (by omega) (upI e38)
            have hS := hS0.y hX
            have hR := hR0.y hn hX
            have hz := hX.sz h94
            have hxn := hX.1
            have hth := (congrFun (upI e38 83 (by omega)) 0).trans hth
            refine y_aload_n rfl rfl ?_
            refine y_iconst rfl ?_
            refine y_putI rfl ht_f35 ha_f35 rfl (Nat.le_trans (by decide) (by omega : 94 ≤ _)) rfl rfl ?_
            refine y_nameI (fun I39 e39 => ?_)
            have hX := hX.upI (by omega) (upI e39)
            have hS := hS0.y hX
            have hR := hR0.y hn hX
            have hz := hX.sz h94
            have hxn := hX.1
            have hth := (congrFun (upI e39 83 (by omega)) 0).trans hth
            refine y_aload_n rfl rfl ?_
            refine y_iload_n rfl rfl ?_
            refine y_putI rfl ht_f35 ha_f35 rfl (Nat.le_trans (by decide) (by omega : 94 ≤ _)) rfl rfl ?_
            refine y_nameI (fun I40 e40 => ?_)
            have hX := hX.upI (by omega) (upI e40)
            have hS := hS0.y hX
            have hR := hR0.y hn hX
            have hz := hX.sz h94
            have hxn := hX.1
            have hth := (congrFun (upI e40 83 (by omega)) 0).trans hth
            refine y_aload_n rfl rfl ?_
            refine y_iload_n rfl rfl ?_
            refine y_putI rfl ht_f35 ha_f35 rfl (Nat.le_trans (by decide) (by omega : 94 ≤ _)) rfl rfl ?_
            refine y_nameI (fun I41 e41 => ?_)
            have hX := hX.upI (by omega) (upI e41)
            have hS := hS0.y hX
            have hR := hR0.y hn hX
            have hz := hX.sz h94
            have hxn := hX.1
            have hth := (congrFun (upI e41 83 (by omega)) 0).trans hth
            refine y_return rfl ?_
            refine y_ret0 ?_
            refine y_virt rfl rfl rfl rfl rfl (ySh.t hS rfl) (ySh.n hS rfl) ?_
            refine l_add hS (by decide) (by decide) (ySh.t hS rfl) (Nat.le_trans hn hX.1) hR.l88 (by omega) (by omega) ha_f35 (fun n42 tg42 I42 R42 c_42 s_42 hAd hc_42 hs_42 => ?_)
            have hsA := hAd.sz
            have hsz87 := congrArg Int32.toInt (congrFun (hAd.I 87 (by omega) (by decide)) 2)
            have hsz89 := congrArg Int32.toInt (congrFun (hAd.I 89 (by omega) (by decide)) 2)
            have hsz90 := congrArg Int32.toInt (congrFun (hAd.I 90 (by omega) (by decide)) 2)
            have hsz91 := congrArg Int32.toInt (congrFun (hAd.I 91 (by omega) (by decide)) 2)
            have hsz92 := congrArg Int32.toInt (congrFun (hAd.I 92 (by omega) (by decide)) 2)
            have hszp := congrArg Int32.toInt (congrFun (hAd.I 83 (by omega) (by decide)) 8)
            have hszd := congrArg Int32.toInt (congrFun (hAd.I 83 (by omega) (by decide)) 1)
            have hnA := hAd.n
            have hNu : yNum K I42 := yNum.add (K := K) hR.1 hAd (by omega) (by decide) (by decide) (Nat.le_refl K) (by omega) (fun h => by omega) (fun h => by omega) (fun h => by omega) (fun h => by omega) (fun h => by omega) (fun h => by omega)
            have htx : tg42 n = (20, 0) := (hAd.tg _ ha_f35).trans ht_f35
            have hIx := hAd.I _ ha_f35 (by omega)
            have hOb : yOb K n42 tg42 I42 R42 n := ⟨fun _ => by rw [hIx]; simp only [e41, e40, e39, e38, upd2]; first | omega | (simp; omega) | simp | (simp; decide) | decide, fun hq => absurd (show (20 : Nat) = 19 from congrArg Prod.fst (htx.symm.trans hq)) (by decide), fun hq => absurd (show (20 : Nat) = 18 from congrArg Prod.fst (htx.symm.trans hq)) (by decide), fun hq => absurd (show (20 : Nat) = 21 from congrArg Prod.fst (htx.symm.trans hq)) (by decide)⟩
            have hR1 : yRI K n42 tg42 I42 R42 := yRI.add hR (Nat.le_trans hn hX.1) hAd (by decide) (by decide) rfl (by omega) ha_f35 ht_f35 hnw (Nat.le_refl K) hNu hOb (fun h => absurd h (by decide)) (fun h => absurd h (by decide))
            have hK := (hK.y hRo hno hX).add hRo hno hR.di hAd (by decide) (by decide) (hR.zl 88 (by decide) (by decide))
            have hS := hS.add hAd (by decide) (by decide) (hR.zl 88 (by decide) (by decide))
            have hth := (congrFun (hAd.I 83 (by omega) (by decide)) 0).trans hth
            have ht_f35 := (hAd.tg _ ha_f35).trans ht_f35
            have ha_f35 := Nat.lt_of_lt_of_le ha_f35 hAd.n
            have hS0 := hS
            have hR0 := hR1
            have hn := Nat.le_refl n42
            have h94 := hS0.1
            have hX := @yX.rf n42 tg42 I42 R42
            have hS := hS0.x hX
            have hR := hR0.x hn hX
            have hz := hX.sz h94
            have hxn := hX.1
            have hN := hR0.1
            have hnb := hR0.2.2.2.2.2.2
            have hthB := hth
            refine y_ret1 ?_
            refine y_pop rfl rfl ?_
            refine y_aload_n rfl rfl ?_
            refine y_getR rfl (ySh.t hS rfl) (ySh.n hS rfl) rfl rfl (ySh.r hS rfl) ?_
            refine y_virt rfl rfl rfl rfl rfl (ySh.t hS rfl) (ySh.n hS rfl) ?_
            refine y_in (M := xm_Jx4a65c_size_8abf5) (ls := [some _]) rfl rfl rfl ?_
            refine y_aload_n rfl rfl ?_
            refine y_getI rfl (ySh.t hS rfl) (ySh.n hS rfl) rfl rfl ?_
            refine y_ireturn rfl rfl rfl ?_
            refine y_ret1 ?_
            refine y_iconst rfl ?_
            refine y_isub rfl ?_
            refine y_ireturn rfl rfl rfl ?_
            exact hQ0 (by omega) _ _ _ _ _ _ _ hS ((hR0.grow hX).up (Nat.le_succ K) hk6) (hK.x hRo hno hX) hth ⟨by first | omega | (rw [ysub (by rw [yz_1]; omega) (by rw [yz_1]; omega), yz_1]; omega), by first | omega | (rw [ysub (by rw [yz_1]; omega) (by rw [yz_1]; omega), yz_1]; omega), by first | omega | (rw [ysub (by rw [yz_1]; omega) (by rw [yz_1]; omega), yz_1]; omega), by first | omega | (rw [ysub (by rw [yz_1]; omega) (by rw [yz_1]; omega), yz_1]; omega), by first | omega | (rw [ysub (by rw [yz_1]; omega) (by rw [yz_1]; omega), yz_1]; omega), by first | omega | (rw [ysub (by rw [yz_1]; omega) (by rw [yz_1]; omega), yz_1]; omega)⟩ (by omega) (by omega)
          · rw [yz_m1] at h_37
            refine y_bip rfl (by decide) ?_
            refine y_goto rfl j_X14_thing_97 ?_
            refine y_init rfl rfl rfl rfl rfl ?_
            refine y_in (M := xm_X12_init) (ls := [some _, some _, some _]) rfl rfl rfl ?_
            refine y_aload_n rfl rfl ?_
            refine y_obj rfl ha_f35 rfl ?_
            refine y_aload_n rfl rfl ?_
            refine y_iconst rfl ?_
            refine y_putI rfl ht_f35 ha_f35 rfl (Nat.le_trans (by decide) (by omega : 94 ≤ _)) rfl rfl ?_
            refine y_nameI (fun I43 e43 => ?_)
            have hX := hX.upI (by omega) (upI e43)
            have hS := hS0.y hX
            have hR := hR0.y hn hX
            have hz := hX.sz h94
            have hxn := hX.1
            have hth := (congrFun (upI e43 83 (by omega)) 0).trans hth
            refine y_aload_n rfl rfl ?_
            refine y_iconst rfl ?_
            refine y_putI rfl ht_f35 ha_f35 rfl (Nat.le_trans (by decide) (by omega : 94 ≤ _)) rfl rfl ?_
            refine y_nameI (fun I44 e44 => ?_)
            have hX := hX.upI (by omega) (upI e44)
            have hS := hS0.y hX
            have hR := hR0.y hn hX
            have hz := hX.sz h94
            have hxn := hX.1
            have hth := (congrFun (upI e44 83 (by omega)) 0).trans hth
            refine y_aload_n rfl rfl ?_
            refine y_iload_n rfl rfl ?_
            refine y_putI rfl ht_f35 ha_f35 rfl (Nat.le_trans (by decide) (by omega : 94 ≤ _)) rfl rfl ?_
            refine y_nameI (fun I45 e45 => ?_)
            have hX := hX.upI (by omega) (upI e45)
            have hS := hS0.y hX
            have hR := hR0.y hn hX
            have hz := hX.sz h94
            have hxn := hX.1
            have hth := (congrFun (upI e45 83 (by omega)) 0).trans hth
            refine y_aload_n rfl rfl ?_
            refine y_iload_n rfl rfl ?_
            refine y_putI rfl ht_f35 ha_f35 rfl (Nat.le_trans (by decide) (by omega : 94 ≤ _)) rfl rfl ?_
            refine y_nameI (fun I46 e46 => ?_)
            have hX := hX.upI (by omega) (upI e46)
            have hS := hS0.y hX
            have hR := hR0.y hn hX
            have hz := hX.sz h94
            have hxn := hX.1
            have hth := (congrFun (upI e46 83 (by omega)) 0).trans hth
            refine y_return rfl ?_
            refine y_ret0 ?_
            refine y_virt rfl rfl rfl rfl rfl (ySh.t hS rfl) (ySh.n hS rfl) ?_
            refine l_add hS (by decide) (by decide) (ySh.t hS rfl) (Nat.le_trans hn hX.1) hR.l88 (by omega) (by omega) ha_f35 (fun n47 tg47 I47 R47 c_47 s_47 hAd hc_47 hs_47 => ?_)
            have hsA := hAd.sz
            have hsz87 := congrArg Int32.toInt (congrFun (hAd.I 87 (by omega) (by decide)) 2)
            have hsz89 := congrArg Int32.toInt (congrFun (hAd.I 89 (by omega) (by decide)) 2)
            have hsz90 := congrArg Int32.toInt (congrFun (hAd.I 90 (by omega) (by decide)) 2)
            have hsz91 := congrArg Int32.toInt (congrFun (hAd.I 91 (by omega) (by decide)) 2)
            have hsz92 := congrArg Int32.toInt (congrFun (hAd.I 92 (by omega) (by decide)) 2)
            have hszp := congrArg Int32.toInt (congrFun (hAd.I 83 (by omega) (by decide)) 8)
            have hszd := congrArg Int32.toInt (congrFun (hAd.I 83 (by omega) (by decide)) 1)
            have hnA := hAd.n
            have hNu : yNum K I47 := yNum.add (K := K) hR.1 hAd (by omega) (by decide) (by decide) (Nat.le_refl K) (by omega) (fun h => by omega) (fun h => by omega) (fun h => by omega) (fun h => by omega) (fun h => by omega) (fun h => by omega)
            have htx : tg47 n = (20, 0) := (hAd.tg _ ha_f35).trans ht_f35
            have hIx := hAd.I _ ha_f35 (by omega)
            have hOb : yOb K n47 tg47 I47 R47 n := ⟨fun _ => by rw [hIx]; simp only [e46, e45, e44, e43, upd2]; first | omega | (simp; omega) | simp | (simp; decide) | decide, fun hq => absurd (show (20 : Nat) = 19 from congrArg Prod.fst (htx.symm.trans hq)) (by decide), fun hq => absurd (show (20 : Nat) = 18 from congrArg Prod.fst (htx.symm.trans hq)) (by decide), fun hq => absurd (show (20 : Nat) = 21 from congrArg Prod.fst (htx.symm.trans hq)) (by decide)⟩
            have hR1 : yRI K n47 tg47 I47 R47 := yRI.add hR (Nat.le_trans hn hX.1) hAd (by decide) (by decide) rfl (by omega) ha_f35 ht_f35 hnw (Nat.le_refl K) hNu hOb (fun h => absurd h (by decide)) (fun h => absurd h (by decide))
            have hK := (hK.y hRo hno hX).add hRo hno hR.di hAd (by decide) (by decide) (hR.zl 88 (by decide) (by decide))
            have hS := hS.add hAd (by decide) (by decide) (hR.zl 88 (by decide) (by decide))
            have hth := (congrFun (hAd.I 83 (by omega) (by decide)) 0).trans hth
            have ht_f35 := (hAd.tg _ ha_f35).trans ht_f35
            have ha_f35 := Nat.lt_of_lt_of_le ha_f35 hAd.n
            have hS0 := hS
            have hR0 := hR1
            have hn := Nat.le_refl n47
            have h94 := hS0.1
            have hX := @yX.rf n47 tg47 I47 R47
            have hS := hS0.x hX
            have hR := hR0.x hn hX
            have hz := hX.sz h94
            have hxn := hX.1
            have hN := hR0.1
            have hnb := hR0.2.2.2.2.2.2
            have hthB := hth
            refine y_ret1 ?_
            refine y_pop rfl rfl ?_
            refine y_aload_n rfl rfl ?_
            refine y_getR rfl (ySh.t hS rfl) (ySh.n hS rfl) rfl rfl (ySh.r hS rfl) ?_
            refine y_virt rfl rfl rfl rfl rfl (ySh.t hS rfl) (ySh.n hS rfl) ?_
            refine y_in (M := xm_Jx4a65c_size_8abf5) (ls := [some _]) rfl rfl rfl ?_
            refine y_aload_n rfl rfl ?_
            refine y_getI rfl (ySh.t hS rfl) (ySh.n hS rfl) rfl rfl ?_
            refine y_ireturn rfl rfl rfl ?_
            refine y_ret1 ?_
            refine y_iconst rfl ?_
            refine y_isub rfl ?_
            refine y_ireturn rfl rfl rfl ?_
            exact hQ0 (by omega) _ _ _ _ _ _ _ hS ((hR0.grow hX).up (Nat.le_succ K) hk6) (hK.x hRo hno hX) hth ⟨by first | omega | (rw [ysub (by rw [yz_1]; omega) (by rw [yz_1]; omega), yz_1]; omega), by first | omega | (rw [ysub (by rw [yz_1]; omega) (by rw [yz_1]; omega), yz_1]; omega), by first | omega | (rw [ysub (by rw [yz_1]; omega) (by rw [yz_1]; omega), yz_1]; omega), by first | omega | (rw [ysub (by rw [yz_1]; omega) (by rw [yz_1]; omega), yz_1]; omega), by first | omega | (rw [ysub (by rw [yz_1]; omega) (by rw [yz_1]; omega), yz_1]; omega), by first | omega | (rw [ysub (by rw [yz_1]; omega) (by rw [yz_1]; omega), yz_1]; omega)⟩ (by omega) (by omega)
        · rw [yz_16] at h_33
          refine y_iconst rfl ?_
          refine y_goto rfl j_X14_thing_68 ?_
          refine y_iconst rfl ?_
          refine y_virt rfl rfl rfl rfl rfl (ySh.t hS rfl) (ySh.n hS rfl) ?_
          refine y_in (M := xm_X14_refuse) (ls := [some _, some _, some _]) rfl rfl rfl ?_
          refine y_iload_n rfl rfl ?_
          refine y_if_eqF rfl (by decide) ?_
          refine y_aload_n rfl rfl ?_
          refine y_getIv (v := Int32.ofInt (0)) rfl (ySh.t hS rfl) (ySh.n hS rfl) rfl rfl hth ?_
          refine y_if_neF rfl (by decide) ?_
          refine y_aload_n rfl rfl ?_
          refine y_iload_n rfl rfl ?_
          refine y_putI rfl (ySh.t hS rfl) (ySh.n hS rfl) rfl (Nat.le_of_ble_eq_true rfl) rfl rfl ?_
          refine y_nameI (fun I48 e48 => ?_)
          have hR1 := (hR0.grow hX).mod0 e48 (by decide) (by decide)
          have hK := (hK.x hRo hno hX).upI (upI e48) (by decide) (by decide) (fun i hi => by have := (hRo.l87.2.2.2.2 i hi).2.1; omega) (by rw [e48, upd2_ne (.inr (by decide))]; exact Int.le_refl _)
          have hth : I48 83 0 = Int32.ofInt (3) := by rw [e48, upd2_self]
          have hzz : ySz8 I28 I48 := ySz8_of (upI e48) (by rw [e48]; exact ⟨upd2_ne (.inr (by decide)), upd2_ne (.inr (by decide))⟩)
          have hS0 := hS
          have hR0 := hR1
          have hn := Nat.le_refl n
          have h94 := hS0.1
          have hX := @yX.rf n tg I48 R
          have hS := hS0.x hX
          have hR := hR0.x hn hX
          have hz := hX.sz h94
          have hxn := hX.1
          have hN := hR0.1
          have hnb := hR0.2.2.2.2.2.2
          have hthB := hth
          refine y_aload_n rfl rfl ?_
          refine y_getIv (v := Int32.ofInt (3)) rfl (ySh.t hS rfl) (ySh.n hS rfl) rfl rfl hth ?_
          refine y_if_leF rfl (by decide) ?_
          refine y_iconst rfl ?_
          refine y_goto rfl j_X14_refuse_28 ?_
          refine y_ireturn rfl rfl rfl ?_
          refine y_ret1 ?_
          refine y_if_eqF rfl (by decide) ?_
          refine y_iconst rfl ?_
          refine y_ireturn rfl rfl rfl ?_
          exact hQ3 (by omega) _ _ _ _ _ _ _ hS ((hR0.grow hX).up (Nat.le_succ K) hk6) (hK.x hRo hno hX) hth ⟨by first | omega | (rw [ysub (by rw [yz_1]; omega) (by rw [yz_1]; omega), yz_1]; omega), by first | omega | (rw [ysub (by rw [yz_1]; omega) (by rw [yz_1]; omega), yz_1]; omega), by first | omega | (rw [ysub (by rw [yz_1]; omega) (by rw [yz_1]; omega), yz_1]; omega), by first | omega | (rw [ysub (by rw [yz_1]; omega) (by rw [yz_1]; omega), yz_1]; omega), by first | omega | (rw [ysub (by rw [yz_1]; omega) (by rw [yz_1]; omega), yz_1]; omega)⟩ (by omega) (by omega)
      · rw [yz_1] at h_31
        rw [yz_999] at h_31
        refine y_ret1 ?_
        refine y_if_neF rfl (by decide) ?_
        refine y_iconst rfl ?_
        refine y_goto rfl j_X14_thing_43 ?_
        refine y_iconst rfl ?_
        refine y_virt rfl rfl rfl rfl rfl (ySh.t hS rfl) (ySh.n hS rfl) ?_
        refine y_in (M := xm_X14_refuse) (ls := [some _, some _, some _]) rfl rfl rfl ?_
        refine y_iload_n rfl rfl ?_
        refine y_if_eqF rfl (by decide) ?_
        refine y_aload_n rfl rfl ?_
        refine y_getIv (v := Int32.ofInt (0)) rfl (ySh.t hS rfl) (ySh.n hS rfl) rfl rfl hth ?_
        refine y_if_neF rfl (by decide) ?_
        refine y_aload_n rfl rfl ?_
        refine y_iload_n rfl rfl ?_
        refine y_putI rfl (ySh.t hS rfl) (ySh.n hS rfl) rfl (Nat.le_of_ble_eq_true rfl) rfl rfl ?_
        refine y_nameI (fun I49 e49 => ?_)
        have hR1 := (hR0.grow hX).mod0 e49 (by decide) (by decide)
        have hK := (hK.x hRo hno hX).upI (upI e49) (by decide) (by decide) (fun i hi => by have := (hRo.l87.2.2.2.2 i hi).2.1; omega) (by rw [e49, upd2_ne (.inr (by decide))]; exact Int.le_refl _)
        have hth : I49 83 0 = Int32.ofInt (2) := by rw [e49, upd2_self]
        have hzz : ySz8 I28 I49 := ySz8_of (upI e49) (by rw [e49]; exact ⟨upd2_ne (.inr (by decide)), upd2_ne (.inr (by decide))⟩)
        have hS0 := hS
        have hR0 := hR1
        have hn := Nat.le_refl n
        have h94 := hS0.1
        have hX := @yX.rf n tg I49 R
        have hS := hS0.x hX
        have hR := hR0.x hn hX
        have hz := hX.sz h94
        have hxn := hX.1
        have hN := hR0.1
        have hnb := hR0.2.2.2.2.2.2
        have hthB := hth
        refine y_aload_n rfl rfl ?_
        refine y_getIv (v := Int32.ofInt (2)) rfl (ySh.t hS rfl) (ySh.n hS rfl) rfl rfl hth ?_
        refine y_if_leF rfl (by decide) ?_
        refine y_iconst rfl ?_
        refine y_goto rfl j_X14_refuse_28 ?_
        refine y_ireturn rfl rfl rfl ?_
        refine y_ret1 ?_
        refine y_if_neT rfl j_X14_thing_75 (by decide) ?_
        refine y_iconst rfl ?_
        refine y_ireturn rfl rfl rfl ?_
        exact hQ2 (by omega) _ _ _ _ _ _ _ hS ((hR0.grow hX).up (Nat.le_succ K) hk6) (hK.x hRo hno hX) hth ⟨by first | omega | (rw [ysub (by rw [yz_1]; omega) (by rw [yz_1]; omega), yz_1]; omega), by first | omega | (rw [ysub (by rw [yz_1]; omega) (by rw [yz_1]; omega), yz_1]; omega), by first | omega | (rw [ysub (by rw [yz_1]; omega) (by rw [yz_1]; omega), yz_1]; omega), by first | omega | (rw [ysub (by rw [yz_1]; omega) (by rw [yz_1]; omega), yz_1]; omega), by first | omega | (rw [ysub (by rw [yz_1]; omega) (by rw [yz_1]; omega), yz_1]; omega)⟩ (by omega) (by omega)
    · rw [yz_0] at h_27
      try rw [ysub (by rw [yz_1]; omega) (by rw [yz_1]; omega), yz_1] at h_27
      refine y_ret1 ?_
      refine y_if_neF rfl (by decide) ?_
      refine y_iconst rfl ?_
      refine y_goto rfl j_X14_isNobody_19 ?_
      refine y_ireturn rfl rfl rfl ?_
      refine y_ret1 ?_
      refine y_if_eqF rfl (by decide) ?_
      refine y_iconst rfl ?_
      refine y_goto rfl j_X14_thing_19 ?_
      refine y_iconst rfl ?_
      refine y_virt rfl rfl rfl rfl rfl (ySh.t hS rfl) (ySh.n hS rfl) ?_
      refine y_in (M := xm_X14_start) (ls := [some _, some _, some _]) rfl rfl rfl ?_
      refine y_aload_n rfl rfl ?_
      refine y_iconst rfl ?_
      refine y_putI rfl (ySh.t hS rfl) (ySh.n hS rfl) rfl (Nat.le_of_ble_eq_true rfl) rfl rfl ?_
      refine y_nameI (fun I50 e50 => ?_)
      have hR1 := (hR0.grow hX).mod0 e50 (by decide) (by decide)
      have hK := (hK.x hRo hno hX).upI (upI e50) (by decide) (by decide) (fun i hi => by have := (hRo.l87.2.2.2.2 i hi).2.1; omega) (by rw [e50, upd2_ne (.inr (by decide))]; exact Int.le_refl _)
      have hth : I50 83 0 = Int32.ofInt (0) := by rw [e50, upd2_self]
      have hzz : ySz8 I I50 := ySz8_of (upI e50) (by rw [e50]; exact ⟨upd2_ne (.inr (by decide)), upd2_ne (.inr (by decide))⟩)
      have hS0 := hS
      have hR0 := hR1
      have hn := Nat.le_refl n
      have h94 := hS0.1
      have hX := @yX.rf n tg I50 R
      have hS := hS0.x hX
      have hR := hR0.x hn hX
      have hz := hX.sz h94
      have hxn := hX.1
      have hN := hR0.1
      have hnb := hR0.2.2.2.2.2.2
      have hthB := hth
      refine y_aload_n rfl rfl ?_
      refine y_iload_n rfl rfl ?_
      refine y_iload_n rfl rfl ?_
      refine y_virt rfl rfl rfl rfl rfl (ySh.t hS rfl) (ySh.n hS rfl) ?_
      refine y_in (M := xm_X14_refuse) (ls := [some _, some _, some _]) rfl rfl rfl ?_
      refine y_iload_n rfl rfl ?_
      refine y_if_eqF rfl (by decide) ?_
      refine y_aload_n rfl rfl ?_
      refine y_getIv (v := Int32.ofInt (0)) rfl (ySh.t hS rfl) (ySh.n hS rfl) rfl rfl hth ?_
      refine y_if_neF rfl (by decide) ?_
      refine y_aload_n rfl rfl ?_
      refine y_iload_n rfl rfl ?_
      refine y_putI rfl (ySh.t hS rfl) (ySh.n hS rfl) rfl (Nat.le_of_ble_eq_true rfl) rfl rfl ?_
      refine y_nameI (fun I51 e51 => ?_)
      have hR1 := (hR0.grow hX).mod0 e51 (by decide) (by decide)
      have hK := (hK.x hRo hno hX).upI (upI e51) (by decide) (by decide) (fun i hi => by have := (hRo.l87.2.2.2.2 i hi).2.1; omega) (by rw [e51, upd2_ne (.inr (by decide))]; exact Int.le_refl _)
      have hth : I51 83 0 = Int32.ofInt (1) := by rw [e51, upd2_self]
      have hzz : ySz8 I50 I51 := ySz8_of (upI e51) (by rw [e51]; exact ⟨upd2_ne (.inr (by decide)), upd2_ne (.inr (by decide))⟩)
      have hS0 := hS
      have hR0 := hR1
      have hn := Nat.le_refl n
      have h94 := hS0.1
      have hX := @yX.rf n tg I51 R
      have hS := hS0.x hX
      have hR := hR0.x hn hX
      have hz := hX.sz h94
      have hxn := hX.1
      have hN := hR0.1
      have hnb := hR0.2.2.2.2.2.2
      have hthB := hth
      refine y_aload_n rfl rfl ?_
      refine y_getIv (v := Int32.ofInt (1)) rfl (ySh.t hS rfl) (ySh.n hS rfl) rfl rfl hth ?_
      refine y_if_leF rfl (by decide) ?_
      refine y_iconst rfl ?_
      refine y_goto rfl j_X14_refuse_28 ?_
      refine y_ireturn rfl rfl rfl ?_
      refine y_ret1 ?_
      refine y_ireturn rfl rfl rfl ?_
      refine y_ret1 ?_
      refine y_if_neT rfl j_X14_thing_75 (by decide) ?_
      refine y_iconst rfl ?_
      refine y_ireturn rfl rfl rfl ?_
      exact hQ1 (by omega) _ _ _ _ _ _ _ hS ((hR0.grow hX).up (Nat.le_succ K) hk6) (hK.x hRo hno hX) hth ⟨by first | omega | (rw [ysub (by rw [yz_1]; omega) (by rw [yz_1]; omega), yz_1]; omega), by first | omega | (rw [ysub (by rw [yz_1]; omega) (by rw [yz_1]; omega), yz_1]; omega), by first | omega | (rw [ysub (by rw [yz_1]; omega) (by rw [yz_1]; omega), yz_1]; omega), by first | omega | (rw [ysub (by rw [yz_1]; omega) (by rw [yz_1]; omega), yz_1]; omega), by first | omega | (rw [ysub (by rw [yz_1]; omega) (by rw [yz_1]; omega), yz_1]; omega)⟩ (by omega) (by omega)
theorem f_venture (hS0 : ySh n tg R) (hR0 : yRI K n tg I R) (hk6 : K < 600) (hQ0 : (I 91 2).toInt < 6 → ∀ (v : Int32) n1 tg1 I1 R1 c1 s1, ySh n1 tg1 R1 → yRI (K + 1) n1 tg1 I1 R1 → yKp n tg I R n1 tg1 I1 R1 → I1 83 0 = Int32.ofInt 0 → v.toInt = (I 91 2).toInt ∧ (I1 91 2).toInt = (I 91 2).toInt + 1 ∧ (I1 88 2).toInt = (I 88 2).toInt ∧ (I1 89 2).toInt = (I 89 2).toInt ∧ (I1 90 2).toInt = (I 90 2).toInt ∧ (I1 92 2).toInt = (I 92 2).toInt → c1 ≤ c + 6 → s1 ≤ s + 1360 → Q (.inl (some (.int v))) (n1, tg1, I1, R1) c1 s1) (hQ1 : (I 91 2).toInt = 6 → ∀ (v : Int32) n1 tg1 I1 R1 c1 s1, ySh n1 tg1 R1 → yRI (K + 1) n1 tg1 I1 R1 → yKp n tg I R n1 tg1 I1 R1 → I1 83 0 = Int32.ofInt 1 → (I1 88 2).toInt = (I 88 2).toInt ∧ (I1 89 2).toInt = (I 89 2).toInt ∧ (I1 90 2).toInt = (I 90 2).toInt ∧ (I1 91 2).toInt = (I 91 2).toInt ∧ (I1 92 2).toInt = (I 92 2).toInt → c1 ≤ c + 6 → s1 ≤ s + 1360 → Q (.inl (some (.int v))) (n1, tg1, I1, R1) c1 s1) : yC 208 [.ref 83] (n, tg, I, R) c s Q := by
  have hno := Nat.le_refl n
  have hn := hno
  have hRo := hR0
  have hK : yKp n tg I R n tg I R := yKp.rf
  have hX : yX n tg I R n tg I R := yX.rf
  have hS := hS0
  have hR := hR0
  have h94 : 94 ≤ n := hS0.1
  have hz : ySz I I := hX.sz h94
  have hxn := hX.1
  have hN := hR0.1
  have hnb : 94 ≤ n := hR0.2.2.2.2.2.2
  refine y_in (M := xm_X14_venture) (ls := [some _]) rfl rfl rfl ?_
  refine y_aload_n rfl rfl ?_
  refine y_aload_n rfl rfl ?_
  refine y_getR rfl (ySh.t hS rfl) (ySh.n hS rfl) rfl rfl (ySh.r hS rfl) ?_
  refine y_virt rfl rfl rfl rfl rfl (ySh.t hS rfl) (ySh.n hS rfl) ?_
  refine y_in (M := xm_Jx4a65c_size_8abf5) (ls := [some _]) rfl rfl rfl ?_
  refine y_aload_n rfl rfl ?_
  refine y_getI rfl (ySh.t hS rfl) (ySh.n hS rfl) rfl rfl ?_
  refine y_ireturn rfl rfl rfl ?_
  refine y_ret1 ?_
  refine y_bip rfl (by decide) ?_
  refine y_icmp_ne rfl j_X14_venture_17 (fun h_1 => ?_) (fun h_2 => ?_)
  · rw [yz_6] at h_1
    refine y_iconst rfl ?_
    refine y_iconst rfl ?_
    refine y_virt rfl rfl rfl rfl rfl (ySh.t hS rfl) (ySh.n hS rfl) ?_
    refine y_in (M := xm_X14_start) (ls := [some _, some _, some _]) rfl rfl rfl ?_
    refine y_aload_n rfl rfl ?_
    refine y_iconst rfl ?_
    refine y_putI rfl (ySh.t hS rfl) (ySh.n hS rfl) rfl (Nat.le_of_ble_eq_true rfl) rfl rfl ?_
    refine y_nameI (fun I3 e3 => ?_)
    have hR1 := (hR0.grow hX).mod0 e3 (by decide) (by decide)
    have hK := (hK.x hRo hno hX).upI (upI e3) (by decide) (by decide) (fun i hi => by have := (hRo.l87.2.2.2.2 i hi).2.1; omega) (by rw [e3, upd2_ne (.inr (by decide))]; exact Int.le_refl _)
    have hth : I3 83 0 = Int32.ofInt (0) := by rw [e3, upd2_self]
    have hzz : ySz8 I I3 := ySz8_of (upI e3) (by rw [e3]; exact ⟨upd2_ne (.inr (by decide)), upd2_ne (.inr (by decide))⟩)
    have hS0 := hS
    have hR0 := hR1
    have hn := Nat.le_refl n
    have h94 := hS0.1
    have hX := @yX.rf n tg I3 R
    have hS := hS0.x hX
    have hR := hR0.x hn hX
    have hz := hX.sz h94
    have hxn := hX.1
    have hN := hR0.1
    have hnb := hR0.2.2.2.2.2.2
    have hthB := hth
    refine y_aload_n rfl rfl ?_
    refine y_iload_n rfl rfl ?_
    refine y_iload_n rfl rfl ?_
    refine y_virt rfl rfl rfl rfl rfl (ySh.t hS rfl) (ySh.n hS rfl) ?_
    refine y_in (M := xm_X14_refuse) (ls := [some _, some _, some _]) rfl rfl rfl ?_
    refine y_iload_n rfl rfl ?_
    refine y_if_eqT rfl j_X14_refuse_16 (by decide) ?_
    refine y_aload_n rfl rfl ?_
    refine y_getIv (v := Int32.ofInt (0)) rfl (ySh.t hS rfl) (ySh.n hS rfl) rfl rfl hth ?_
    refine y_if_leT rfl j_X14_refuse_27 (by decide) ?_
    refine y_iconst rfl ?_
    refine y_ireturn rfl rfl rfl ?_
    refine y_ret1 ?_
    refine y_ireturn rfl rfl rfl ?_
    refine y_ret1 ?_
    refine y_if_eqT rfl j_X14_venture_27 (by decide) ?_
    refine y_aload_n rfl rfl ?_
    refine y_getR rfl (ySh.t hS rfl) (ySh.n hS rfl) rfl rfl (ySh.r hS rfl) ?_
    refine y_newX rfl rfl rfl (fun n4 tg4 I4 R4 hA => ?_)
    have hnA := hA.1
    have hnw := yNw.al hX hA
    have ht_f5 : tg4 n = (21, 0) := hA.2.1
    have ha_f5 : n < n4 := by omega
    have hX := hX.y.trans hA.y
    have hS := hS0.y hX
    have hR := hR0.y hn hX
    have hz := hX.sz h94
    have hxn := hX.1
    have hth := (congrFun (hA.2.2.2.2 83 (by omega)).2.1 0).trans hth
    refine y_dup rfl rfl ?_
    refine y_init rfl rfl rfl rfl rfl ?_
    refine y_in (M := xm_X13_init) (ls := [some _]) rfl rfl rfl ?_
    refine y_aload_n rfl rfl ?_
    refine y_obj rfl ha_f5 rfl ?_
    refine y_aload_n rfl rfl ?_
    refine y_bip rfl (by decide) ?_
    refine y_newarrL (m := 9) rfl rfl (by decide) (by decide) rfl (fun n6 tg6 I6 R6 hA => ?_)
    have hnA := hA.1
    have ht_f5 := ((hA.x rfl).2.1 _ ha_f5).1.trans ht_f5
    have ha_f5 : n < n6 := by omega
    have ht_f7 : tg6 n4 = (1, 9) := hA.2.1
    have ha_f7 : n4 < n6 := by omega
    have hz_f7 : ∀ k, I6 n4 k = 0 := hA.2.2.1
    have hrx_7 : R6 n = R4 n := (hA.2.2.2.2 _ (by omega)).2.2
    have hnw := hnw.x (hA.x rfl)
    have hX := hX.trans (hA.x rfl).y
    have hS := hS0.y hX
    have hR := hR0.y hn hX
    have hz := hX.sz h94
    have hxn := hX.1
    have hth := (congrFun ((hA.x rfl).2.1 83 (by omega)).2.1 0).trans hth
    refine y_putR rfl ht_f5 ha_f5 rfl (Nat.le_trans (by decide) (by omega : 94 ≤ _)) rfl rfl ?_
    refine y_nameR (fun R8 e8 => ?_)
    have hX := hX.upR (by omega) (upR e8)
    have hS := hS0.y hX
    have hR := hR0.y hn hX
    have hz := hX.sz h94
    have hxn := hX.1
    refine y_aload_n rfl rfl ?_
    refine y_bip rfl (by decide) ?_
    refine y_newarrL (m := 9) rfl rfl (by decide) (by decide) rfl (fun n9 tg9 I9 R9 hA => ?_)
    have hnA := hA.1
    have ht_f5 := ((hA.x rfl).2.1 _ ha_f5).1.trans ht_f5
    have ha_f5 : n < n9 := by omega
    have hz_f7 : ∀ k, I9 n4 k = 0 := fun k => by rw [((hA.x rfl).2.1 _ ha_f7).2.1]; exact hz_f7 k
    have ht_f7 := ((hA.x rfl).2.1 _ ha_f7).1.trans ht_f7
    have ha_f7 : n4 < n9 := by omega
    have ht_f10 : tg9 n6 = (0, 9) := hA.2.1
    have ha_f10 : n6 < n9 := by omega
    have hz_f10 : ∀ k, I9 n6 k = 0 := hA.2.2.1
    have hrx_10 : R9 n = R8 n := (hA.2.2.2.2 _ (by omega)).2.2
    have hnw := hnw.x (hA.x rfl)
    have hX := hX.trans (hA.x rfl).y
    have hS := hS0.y hX
    have hR := hR0.y hn hX
    have hz := hX.sz h94
    have hxn := hX.1
    have hth := (congrFun ((hA.x rfl).2.1 83 (by omega)).2.1 0).trans hth
    refine y_putR rfl ht_f5 ha_f5 rfl (Nat.le_trans (by decide) (by omega : 94 ≤ _)) rfl rfl ?_
    refine y_nameR (fun R11 e11 => ?_)
    have hX := hX.upR (by omega) (upR e11)
    have hS := hS0.y hX
    have hR := hR0.y hn hX
    have hz := hX.sz h94
    have hxn := hX.1
    refine y_aload_n rfl rfl ?_
    refine y_bip rfl (by decide) ?_
    refine y_newarrL (m := 9) rfl rfl (by decide) (by decide) rfl (fun n12 tg12 I12 R12 hA => ?_)
    have hnA := hA.1
    have ht_f5 := ((hA.x rfl).2.1 _ ha_f5).1.trans ht_f5
    have ha_f5 : n < n12 := by omega
    have hz_f7 : ∀ k, I12 n4 k = 0 := fun k => by rw [((hA.x rfl).2.1 _ ha_f7).2.1]; exact hz_f7 k
    have ht_f7 := ((hA.x rfl).2.1 _ ha_f7).1.trans ht_f7
    have ha_f7 : n4 < n12 := by omega
    have hz_f10 : ∀ k, I12 n6 k = 0 := fun k => by rw [((hA.x rfl).2.1 _ ha_f10).2.1]; exact hz_f10 k
    have ht_f10 := ((hA.x rfl).2.1 _ ha_f10).1.trans ht_f10
    have ha_f10 : n6 < n12 := by omega
    have ht_f13 : tg12 n9 = (0, 9) := hA.2.1
    have ha_f13 : n9 < n12 := by omega
    have hz_f13 : ∀ k, I12 n9 k = 0 := hA.2.2.1
    have hrx_13 : R12 n = R11 n := (hA.2.2.2.2 _ (by omega)).2.2
    have hnw := hnw.x (hA.x rfl)
    have hX := hX.trans (hA.x rfl).y
    have hS := hS0.y hX
    have hR := hR0.y hn hX
    have hz := hX.sz h94
    have hxn := hX.1
    have hth := (congrFun ((hA.x rfl).2.1 83 (by omega)).2.1 0).trans hth
    refine y_putR rfl ht_f5 ha_f5 rfl (Nat.le_trans (by decide) (by omega : 94 ≤ _)) rfl rfl ?_
    refine y_nameR (fun R14 e14 => ?_)
    have hX := hX.upR (by omega) (upR e14)
    have hS := hS0.y hX
    have hR := hR0.y hn hX
    have hz := hX.sz h94
    have hxn := hX.1
    refine y_aload_n rfl rfl ?_
    refine y_bip rfl (by decide) ?_
    refine y_newarrL (m := 9) rfl rfl (by decide) (by decide) rfl (fun n15 tg15 I15 R15 hA => ?_)
    have hnA := hA.1
    have ht_f5 := ((hA.x rfl).2.1 _ ha_f5).1.trans ht_f5
    have ha_f5 : n < n15 := by omega
    have hz_f7 : ∀ k, I15 n4 k = 0 := fun k => by rw [((hA.x rfl).2.1 _ ha_f7).2.1]; exact hz_f7 k
    have ht_f7 := ((hA.x rfl).2.1 _ ha_f7).1.trans ht_f7
    have ha_f7 : n4 < n15 := by omega
    have hz_f10 : ∀ k, I15 n6 k = 0 := fun k => by rw [((hA.x rfl).2.1 _ ha_f10).2.1]; exact hz_f10 k
    have ht_f10 := ((hA.x rfl).2.1 _ ha_f10).1.trans ht_f10
    have ha_f10 : n6 < n15 := by omega
    have hz_f13 : ∀ k, I15 n9 k = 0 := fun k => by rw [((hA.x rfl).2.1 _ ha_f13).2.1]; exact hz_f13 k
    have ht_f13 := ((hA.x rfl).2.1 _ ha_f13).1.trans ht_f13
    have ha_f13 : n9 < n15 := by omega
    have ht_f16 : tg15 n12 = (0, 9) := hA.2.1
    have ha_f16 : n12 < n15 := by omega
    have hz_f16 : ∀ k, I15 n12 k = 0 := hA.2.2.1
    have hrx_16 : R15 n = R14 n := (hA.2.2.2.2 _ (by omega)).2.2
    have hnw := hnw.x (hA.x rfl)
    have hX := hX.trans (hA.x rfl).y
    have hS := hS0.y hX
    have hR := hR0.y hn hX
    have hz := hX.sz h94
    have hxn := hX.1
    have hth := (congrFun ((hA.x rfl).2.1 83 (by omega)).2.1 0).trans hth
    refine y_putR rfl ht_f5 ha_f5 rfl (Nat.le_trans (by decide) (by omega : 94 ≤ _)) rfl rfl ?_
    refine y_nameR (fun R17 e17 => ?_)
    have hX := hX.upR (by omega) (upR e17)
    have hS := hS0.y hX
    have hR := hR0.y hn hX
    have hz := hX.sz h94
    have hxn := hX.1
    refine y_return rfl ?_
    refine y_ret0 ?_
    refine y_virt rfl rfl rfl rfl rfl (ySh.t hS rfl) (ySh.n hS rfl) ?_
    refine l_add hS (by decide) (by decide) (ySh.t hS rfl) (Nat.le_trans hn hX.1) hR.l91 (by omega) (by omega) ha_f5 (fun n18 tg18 I18 R18 c_18 s_18 hAd hc_18 hs_18 => ?_)
    have hsA := hAd.sz
    have hsz87 := congrArg Int32.toInt (congrFun (hAd.I 87 (by omega) (by decide)) 2)
    have hsz88 := congrArg Int32.toInt (congrFun (hAd.I 88 (by omega) (by decide)) 2)
    have hsz89 := congrArg Int32.toInt (congrFun (hAd.I 89 (by omega) (by decide)) 2)
    have hsz90 := congrArg Int32.toInt (congrFun (hAd.I 90 (by omega) (by decide)) 2)
    have hsz92 := congrArg Int32.toInt (congrFun (hAd.I 92 (by omega) (by decide)) 2)
    have hszp := congrArg Int32.toInt (congrFun (hAd.I 83 (by omega) (by decide)) 8)
    have hszd := congrArg Int32.toInt (congrFun (hAd.I 83 (by omega) (by decide)) 1)
    have hnA := hAd.n
    have hNu : yNum K I18 := yNum.add (K := K) hR.1 hAd (by omega) (by decide) (by decide) (Nat.le_refl K) (by omega) (fun h => by omega) (fun h => by omega) (fun h => by omega) (fun h => by omega) (fun h => by omega) (fun h => by omega)
    have hw0 : n4 = n + 0 + 1 := by omega
    have hw1 : n6 = n + 1 + 1 := by omega
    have hw2 : n9 = n + 2 + 1 := by omega
    have hw3 : n12 = n + 3 + 1 := by omega
    have hRx : R18 n = R17 n := hAd.R _ (by omega) (by omega) (.inl (by have := hR.li; omega))
    have hzc : ∀ j, (I18 (n + 2) j).toInt = 0 := fun j => by rw [show n + 2 = n6 by omega, hAd.I _ ha_f10 (by omega), hz_f10]; decide
    have htx : tg18 n = (21, 0) := (hAd.tg _ ha_f5).trans ht_f5
    have hOb : yOb K n18 tg18 I18 R18 n := by
      refine ⟨fun hq => absurd (show (21 : Nat) = 20 from congrArg Prod.fst (htx.symm.trans hq)) (by decide), fun hq => absurd (show (21 : Nat) = 19 from congrArg Prod.fst (htx.symm.trans hq)) (by decide), fun hq => absurd (show (21 : Nat) = 18 from congrArg Prod.fst (htx.symm.trans hq)) (by decide), fun _ => ⟨by omega, fun j hj => ?_, (by rw [show n + 1 = n4 by omega, hAd.tg _ ha_f7]; exact ht_f7), (by rw [show n + 2 = n6 by omega, hAd.tg _ ha_f10]; exact ht_f10), (by rw [show n + 3 = n9 by omega, hAd.tg _ ha_f13]; exact ht_f13), (by rw [show n + 4 = n12 by omega, hAd.tg _ ha_f16]; exact ht_f16), fun j _ => by rw [hzc j]; decide, ?_⟩⟩
      · exact match j, hj with
          | 0, _ => (by rw [hRx]; simp only [hrx_16, hrx_13, hrx_10, hrx_7, e17, e14, e11, e8, upd2]; first | (simp; exact hw0) | (simp; omega) | simp)
          | 1, _ => (by rw [hRx]; simp only [hrx_16, hrx_13, hrx_10, hrx_7, e17, e14, e11, e8, upd2]; first | (simp; exact hw1) | (simp; omega) | simp)
          | 2, _ => (by rw [hRx]; simp only [hrx_16, hrx_13, hrx_10, hrx_7, e17, e14, e11, e8, upd2]; first | (simp; exact hw2) | (simp; omega) | simp)
          | 3, _ => (by rw [hRx]; simp only [hrx_16, hrx_13, hrx_10, hrx_7, e17, e14, e11, e8, upd2]; first | (simp; exact hw3) | (simp; omega) | simp)
      · rw [ySum_eq (g := fun _ => 0) (fun j _ => hzc j)]
        exact Int.le_trans (by decide : ySum (fun _ => 0) 9 ≤ 0) (by omega)
    have hR1 : yRI K n18 tg18 I18 R18 := yRI.add hR (Nat.le_trans hn hX.1) hAd (by decide) (by decide) rfl (by omega) ha_f5 ht_f5 hnw (Nat.le_refl K) hNu hOb (fun h => absurd h (by decide)) (fun h => absurd h (by decide))
    have hK := (hK.y hRo hno hX).add hRo hno hR.di hAd (by decide) (by decide) (hR.zl 91 (by decide) (by decide))
    have hS := hS.add hAd (by decide) (by decide) (hR.zl 91 (by decide) (by decide))
    have hth := (congrFun (hAd.I 83 (by omega) (by decide)) 0).trans hth
    have ht_f5 := (hAd.tg _ ha_f5).trans ht_f5
    have ha_f5 := Nat.lt_of_lt_of_le ha_f5 hAd.n
    have hS0 := hS
    have hR0 := hR1
    have hn := Nat.le_refl n18
    have h94 := hS0.1
    have hX := @yX.rf n18 tg18 I18 R18
    have hS := hS0.x hX
    have hR := hR0.x hn hX
    have hz := hX.sz h94
    have hxn := hX.1
    have hN := hR0.1
    have hnb := hR0.2.2.2.2.2.2
    have hthB := hth
    refine y_ret1 ?_
    refine y_pop rfl rfl ?_
    refine y_aload_n rfl rfl ?_
    refine y_getR rfl (ySh.t hS rfl) (ySh.n hS rfl) rfl rfl (ySh.r hS rfl) ?_
    refine y_virt rfl rfl rfl rfl rfl (ySh.t hS rfl) (ySh.n hS rfl) ?_
    refine y_in (M := xm_Jx4a65c_size_8abf5) (ls := [some _]) rfl rfl rfl ?_
    refine y_aload_n rfl rfl ?_
    refine y_getI rfl (ySh.t hS rfl) (ySh.n hS rfl) rfl rfl ?_
    refine y_ireturn rfl rfl rfl ?_
    refine y_ret1 ?_
    refine y_iconst rfl ?_
    refine y_isub rfl ?_
    refine y_ireturn rfl rfl rfl ?_
    exact hQ0 (by omega) _ _ _ _ _ _ _ hS ((hR0.grow hX).up (Nat.le_succ K) hk6) (hK.x hRo hno hX) hth ⟨by first | omega | (rw [ysub (by rw [yz_1]; omega) (by rw [yz_1]; omega), yz_1]; omega), by first | omega | (rw [ysub (by rw [yz_1]; omega) (by rw [yz_1]; omega), yz_1]; omega), by first | omega | (rw [ysub (by rw [yz_1]; omega) (by rw [yz_1]; omega), yz_1]; omega), by first | omega | (rw [ysub (by rw [yz_1]; omega) (by rw [yz_1]; omega), yz_1]; omega), by first | omega | (rw [ysub (by rw [yz_1]; omega) (by rw [yz_1]; omega), yz_1]; omega), by first | omega | (rw [ysub (by rw [yz_1]; omega) (by rw [yz_1]; omega), yz_1]; omega)⟩ (by omega) (by omega)
  · rw [yz_6] at h_2
    refine y_iconst rfl ?_
    refine y_goto rfl j_X14_venture_18 ?_
    refine y_iconst rfl ?_
    refine y_virt rfl rfl rfl rfl rfl (ySh.t hS rfl) (ySh.n hS rfl) ?_
    refine y_in (M := xm_X14_start) (ls := [some _, some _, some _]) rfl rfl rfl ?_
    refine y_aload_n rfl rfl ?_
    refine y_iconst rfl ?_
    refine y_putI rfl (ySh.t hS rfl) (ySh.n hS rfl) rfl (Nat.le_of_ble_eq_true rfl) rfl rfl ?_
    refine y_nameI (fun I19 e19 => ?_)
    have hR1 := (hR0.grow hX).mod0 e19 (by decide) (by decide)
    have hK := (hK.x hRo hno hX).upI (upI e19) (by decide) (by decide) (fun i hi => by have := (hRo.l87.2.2.2.2 i hi).2.1; omega) (by rw [e19, upd2_ne (.inr (by decide))]; exact Int.le_refl _)
    have hth : I19 83 0 = Int32.ofInt (0) := by rw [e19, upd2_self]
    have hzz : ySz8 I I19 := ySz8_of (upI e19) (by rw [e19]; exact ⟨upd2_ne (.inr (by decide)), upd2_ne (.inr (by decide))⟩)
    have hS0 := hS
    have hR0 := hR1
    have hn := Nat.le_refl n
    have h94 := hS0.1
    have hX := @yX.rf n tg I19 R
    have hS := hS0.x hX
    have hR := hR0.x hn hX
    have hz := hX.sz h94
    have hxn := hX.1
    have hN := hR0.1
    have hnb := hR0.2.2.2.2.2.2
    have hthB := hth
    refine y_aload_n rfl rfl ?_
    refine y_iload_n rfl rfl ?_
    refine y_iload_n rfl rfl ?_
    refine y_virt rfl rfl rfl rfl rfl (ySh.t hS rfl) (ySh.n hS rfl) ?_
    refine y_in (M := xm_X14_refuse) (ls := [some _, some _, some _]) rfl rfl rfl ?_
    refine y_iload_n rfl rfl ?_
    refine y_if_eqF rfl (by decide) ?_
    refine y_aload_n rfl rfl ?_
    refine y_getIv (v := Int32.ofInt (0)) rfl (ySh.t hS rfl) (ySh.n hS rfl) rfl rfl hth ?_
    refine y_if_neF rfl (by decide) ?_
    refine y_aload_n rfl rfl ?_
    refine y_iload_n rfl rfl ?_
    refine y_putI rfl (ySh.t hS rfl) (ySh.n hS rfl) rfl (Nat.le_of_ble_eq_true rfl) rfl rfl ?_
    refine y_nameI (fun I20 e20 => ?_)
    have hR1 := (hR0.grow hX).mod0 e20 (by decide) (by decide)
    have hK := (hK.x hRo hno hX).upI (upI e20) (by decide) (by decide) (fun i hi => by have := (hRo.l87.2.2.2.2 i hi).2.1; omega) (by rw [e20, upd2_ne (.inr (by decide))]; exact Int.le_refl _)
    have hth : I20 83 0 = Int32.ofInt (1) := by rw [e20, upd2_self]
    have hzz : ySz8 I19 I20 := ySz8_of (upI e20) (by rw [e20]; exact ⟨upd2_ne (.inr (by decide)), upd2_ne (.inr (by decide))⟩)
    have hS0 := hS
    have hR0 := hR1
    have hn := Nat.le_refl n
    have h94 := hS0.1
    have hX := @yX.rf n tg I20 R
    have hS := hS0.x hX
    have hR := hR0.x hn hX
    have hz := hX.sz h94
    have hxn := hX.1
    have hN := hR0.1
    have hnb := hR0.2.2.2.2.2.2
    have hthB := hth
    refine y_aload_n rfl rfl ?_
    refine y_getIv (v := Int32.ofInt (1)) rfl (ySh.t hS rfl) (ySh.n hS rfl) rfl rfl hth ?_
    refine y_if_leF rfl (by decide) ?_
    refine y_iconst rfl ?_
    refine y_goto rfl j_X14_refuse_28 ?_
    refine y_ireturn rfl rfl rfl ?_
    refine y_ret1 ?_
    refine y_ireturn rfl rfl rfl ?_
    refine y_ret1 ?_
    refine y_if_eqF rfl (by decide) ?_
    refine y_iconst rfl ?_
    refine y_ireturn rfl rfl rfl ?_
    exact hQ1 (by omega) _ _ _ _ _ _ _ hS ((hR0.grow hX).up (Nat.le_succ K) hk6) (hK.x hRo hno hX) hth ⟨by first | omega | (rw [ysub (by rw [yz_1]; omega) (by rw [yz_1]; omega), yz_1]; omega), by first | omega | (rw [ysub (by rw [yz_1]; omega) (by rw [yz_1]; omega), yz_1]; omega), by first | omega | (rw [ysub (by rw [yz_1]; omega) (by rw [yz_1]; omega), yz_1]; omega), by first | omega | (rw [ysub (by rw [yz_1]; omega) (by rw [yz_1]; omega), yz_1]; omega), by first | omega | (rw [ysub (by rw [yz_1]; omega) (by rw [yz_1]; omega), yz_1]; omega)⟩ (by omega) (by omega)
theorem f_firm (hS0 : ySh n tg R) (hR0 : yRI K n tg I R) (hk6 : K < 600) {x1 x2 x3 x4 x5 x6 : Int32} (hQ0 : ((1 ≤ x1.toInt ∧ x1.toInt ≤ 999) ∧ (0 ≤ x2.toInt ∧ x2.toInt ≤ 999) ∧ (0 ≤ x3.toInt ∧ x3.toInt ≤ 999) ∧ (0 ≤ x4.toInt ∧ x4.toInt ≤ 999) ∧ (1 ≤ x5.toInt ∧ x5.toInt ≤ 99) ∧ (0 ≤ x6.toInt ∧ x6.toInt ≤ 99)) ∧ (I 92 2).toInt < 10 → ∀ (v : Int32) n1 tg1 I1 R1 c1 s1, ySh n1 tg1 R1 → yRI (K + 1) n1 tg1 I1 R1 → yKp n tg I R n1 tg1 I1 R1 → I1 83 0 = Int32.ofInt 0 → v.toInt = (I 92 2).toInt ∧ (I1 92 2).toInt = (I 92 2).toInt + 1 ∧ (I1 88 2).toInt = (I 88 2).toInt ∧ (I1 89 2).toInt = (I 89 2).toInt ∧ (I1 90 2).toInt = (I 90 2).toInt ∧ (I1 91 2).toInt = (I 91 2).toInt → c1 ≤ c + 2 → s1 ≤ s + 1310 → Q (.inl (some (.int v))) (n1, tg1, I1, R1) c1 s1) (hQ1 : ¬ ((1 ≤ x1.toInt ∧ x1.toInt ≤ 999) ∧ (0 ≤ x2.toInt ∧ x2.toInt ≤ 999) ∧ (0 ≤ x3.toInt ∧ x3.toInt ≤ 999) ∧ (0 ≤ x4.toInt ∧ x4.toInt ≤ 999) ∧ (1 ≤ x5.toInt ∧ x5.toInt ≤ 99) ∧ (0 ≤ x6.toInt ∧ x6.toInt ≤ 99)) → ∀ (v : Int32) n1 tg1 I1 R1 c1 s1, ySh n1 tg1 R1 → yRI (K + 1) n1 tg1 I1 R1 → yKp n tg I R n1 tg1 I1 R1 → I1 83 0 = Int32.ofInt 1 → (I1 88 2).toInt = (I 88 2).toInt ∧ (I1 89 2).toInt = (I 89 2).toInt ∧ (I1 90 2).toInt = (I 90 2).toInt ∧ (I1 91 2).toInt = (I 91 2).toInt ∧ (I1 92 2).toInt = (I 92 2).toInt → c1 ≤ c + 2 → s1 ≤ s + 1310 → Q (.inl (some (.int v))) (n1, tg1, I1, R1) c1 s1) (hQ2 : ((1 ≤ x1.toInt ∧ x1.toInt ≤ 999) ∧ (0 ≤ x2.toInt ∧ x2.toInt ≤ 999) ∧ (0 ≤ x3.toInt ∧ x3.toInt ≤ 999) ∧ (0 ≤ x4.toInt ∧ x4.toInt ≤ 999) ∧ (1 ≤ x5.toInt ∧ x5.toInt ≤ 99) ∧ (0 ≤ x6.toInt ∧ x6.toInt ≤ 99)) ∧ (I 92 2).toInt = 10 → ∀ (v : Int32) n1 tg1 I1 R1 c1 s1, ySh n1 tg1 R1 → yRI (K + 1) n1 tg1 I1 R1 → yKp n tg I R n1 tg1 I1 R1 → I1 83 0 = Int32.ofInt 2 → (I1 88 2).toInt = (I 88 2).toInt ∧ (I1 89 2).toInt = (I 89 2).toInt ∧ (I1 90 2).toInt = (I 90 2).toInt ∧ (I1 91 2).toInt = (I 91 2).toInt ∧ (I1 92 2).toInt = (I 92 2).toInt → c1 ≤ c + 2 → s1 ≤ s + 1310 → Q (.inl (some (.int v))) (n1, tg1, I1, R1) c1 s1) : yC 219 [.ref 83, .int x1, .int x2, .int x3, .int x4, .int x5, .int x6] (n, tg, I, R) c s Q := by
  have hno := Nat.le_refl n
  have hn := hno
  have hRo := hR0
  have hK : yKp n tg I R n tg I R := yKp.rf
  have hX : yX n tg I R n tg I R := yX.rf
  have hS := hS0
  have hR := hR0
  have h94 : 94 ≤ n := hS0.1
  have hz : ySz I I := hX.sz h94
  have hxn := hX.1
  have hN := hR0.1
  have hnb : 94 ≤ n := hR0.2.2.2.2.2.2
  refine y_in (M := xm_X14_firm) (ls := [some _, some _, some _, some _, some _, some _, some _]) rfl rfl rfl ?_
  refine y_aload_n rfl rfl ?_
  refine y_iload_n rfl rfl ?_
  refine y_iconst rfl ?_
  refine y_sip rfl (by decide) ?_
  refine y_static rfl rfl rfl rfl rfl ?_
  refine r_isIn (fun h_1 h_2 => ?_) (fun h_3 => ?_)
  · rw [yz_1] at h_1
    rw [yz_999] at h_2
    refine y_ret1 ?_
    refine y_if_eqF rfl (by decide) ?_
    refine y_iload_n rfl rfl ?_
    refine y_iconst rfl ?_
    refine y_sip rfl (by decide) ?_
    refine y_static rfl rfl rfl rfl rfl ?_
    refine r_isIn (fun h_4 h_5 => ?_) (fun h_6 => ?_)
    · rw [yz_0] at h_4
      rw [yz_999] at h_5
      refine y_ret1 ?_
      refine y_if_eqF rfl (by decide) ?_
      refine y_iload_n rfl rfl ?_
      refine y_iconst rfl ?_
      refine y_sip rfl (by decide) ?_
      refine y_static rfl rfl rfl rfl rfl ?_
      refine r_isIn (fun h_7 h_8 => ?_) (fun h_9 => ?_)
      · rw [yz_0] at h_7
        rw [yz_999] at h_8
        refine y_ret1 ?_
        refine y_if_eqF rfl (by decide) ?_
        refine y_iload rfl rfl ?_
        refine y_iconst rfl ?_
        refine y_sip rfl (by decide) ?_
        refine y_static rfl rfl rfl rfl rfl ?_
        refine r_isIn (fun h_10 h_11 => ?_) (fun h_12 => ?_)
        · rw [yz_0] at h_10
          rw [yz_999] at h_11
          refine y_ret1 ?_
          refine y_if_eqF rfl (by decide) ?_
          refine y_iload rfl rfl ?_
          refine y_iconst rfl ?_
          refine y_bip rfl (by decide) ?_
          refine y_static rfl rfl rfl rfl rfl ?_
          refine r_isIn (fun h_13 h_14 => ?_) (fun h_15 => ?_)
          · rw [yz_1] at h_13
            rw [yz_99] at h_14
            refine y_ret1 ?_
            refine y_if_eqF rfl (by decide) ?_
            refine y_iload rfl rfl ?_
            refine y_iconst rfl ?_
            refine y_bip rfl (by decide) ?_
            refine y_static rfl rfl rfl rfl rfl ?_
            refine r_isIn (fun h_16 h_17 => ?_) (fun h_18 => ?_)
            · rw [yz_0] at h_16
              rw [yz_99] at h_17
              refine y_ret1 ?_
              refine y_if_neT rfl j_X14_firm_72 (by decide) ?_
              refine y_iconst rfl ?_
              refine y_iconst rfl ?_
              refine y_virt rfl rfl rfl rfl rfl (ySh.t hS rfl) (ySh.n hS rfl) ?_
              refine y_in (M := xm_X14_start) (ls := [some _, some _, some _]) rfl rfl rfl ?_
              refine y_aload_n rfl rfl ?_
              refine y_iconst rfl ?_
              refine y_putI rfl (ySh.t hS rfl) (ySh.n hS rfl) rfl (Nat.le_of_ble_eq_true rfl) rfl rfl ?_
              refine y_nameI (fun I19 e19 => ?_)
              have hR1 := (hR0.grow hX).mod0 e19 (by decide) (by decide)
              have hK := (hK.x hRo hno hX).upI (upI e19) (by decide) (by decide) (fun i hi => by have := (hRo.l87.2.2.2.2 i hi).2.1; omega) (by rw [e19, upd2_ne (.inr (by decide))]; exact Int.le_refl _)
              have hth : I19 83 0 = Int32.ofInt (0) := by rw [e19, upd2_self]
              have hzz : ySz8 I I19 := ySz8_of (upI e19) (by rw [e19]; exact ⟨upd2_ne (.inr (by decide)), upd2_ne (.inr (by decide))⟩)
              have hS0 := hS
              have hR0 := hR1
              have hn := Nat.le_refl n
              have h94 := hS0.1
              have hX := @yX.rf n tg I19 R
              have hS := hS0.x hX
              have hR := hR0.x hn hX
              have hz := hX.sz h94
              have hxn := hX.1
              have hN := hR0.1
              have hnb := hR0.2.2.2.2.2.2
              have hthB := hth
              refine y_aload_n rfl rfl ?_
              refine y_iload_n rfl rfl ?_
              refine y_iload_n rfl rfl ?_
              refine y_virt rfl rfl rfl rfl rfl (ySh.t hS rfl) (ySh.n hS rfl) ?_
              refine y_in (M := xm_X14_refuse) (ls := [some _, some _, some _]) rfl rfl rfl ?_
              refine y_iload_n rfl rfl ?_
              refine y_if_eqT rfl j_X14_refuse_16 (by decide) ?_
              refine y_aload_n rfl rfl ?_
              refine y_getIv (v := Int32.ofInt (0)) rfl (ySh.t hS rfl) (ySh.n hS rfl) rfl rfl hth ?_
              refine y_if_leT rfl j_X14_refuse_27 (by decide) ?_
              refine y_iconst rfl ?_
              refine y_ireturn rfl rfl rfl ?_
              refine y_ret1 ?_
              refine y_ireturn rfl rfl rfl ?_
              refine y_ret1 ?_
              refine y_if_neF rfl (by decide) ?_
              refine y_aload_n rfl rfl ?_
              refine y_aload_n rfl rfl ?_
              refine y_getR rfl (ySh.t hS rfl) (ySh.n hS rfl) rfl rfl (ySh.r hS rfl) ?_
              refine y_virt rfl rfl rfl rfl rfl (ySh.t hS rfl) (ySh.n hS rfl) ?_
              refine y_in (M := xm_Jx4a65c_size_8abf5) (ls := [some _]) rfl rfl rfl ?_
              refine y_aload_n rfl rfl ?_
              refine y_getI rfl (ySh.t hS rfl) (ySh.n hS rfl) rfl rfl ?_
              refine y_ireturn rfl rfl rfl ?_
              refine y_ret1 ?_
              refine y_bip rfl (by decide) ?_
              refine y_icmp_ne rfl j_X14_firm_97 (fun h_20 => ?_) (fun h_21 => ?_)
              · rw [yz_10] at h_20
                refine y_iconst rfl ?_
                refine y_iconst rfl ?_
                refine y_virt rfl rfl rfl rfl rfl (ySh.t hS rfl) (ySh.n hS rfl) ?_
                refine y_in (M := xm_X14_refuse) (ls := [some _, some _, some _]) rfl rfl rfl ?_
                refine y_iload_n rfl rfl ?_
                refine y_if_eqT rfl j_X14_refuse_16 (by decide) ?_
                refine y_aload_n rfl rfl ?_
                refine y_getIv (v := Int32.ofInt (0)) rfl (ySh.t hS rfl) (ySh.n hS rfl) rfl rfl hth ?_
                refine y_if_leT rfl j_X14_refuse_27 (by decide) ?_
                refine y_iconst rfl ?_
                refine y_ireturn rfl rfl rfl ?_
                refine y_ret1 ?_
                refine y_if_eqT rfl j_X14_firm_107 (by decide) ?_
                refine y_aload_n rfl rfl ?_
                refine y_getR rfl (ySh.t hS rfl) (ySh.n hS rfl) rfl rfl (ySh.r hS rfl) ?_
                refine y_bip rfl (by decide) ?_
                refine y_newarrL (m := 7) rfl rfl (by decide) (by decide) rfl (fun n22 tg22 I22 R22 hA => ?_)
                have hnA := hA.1
                have ht_f23 : tg22 n = (0, 7) := hA.2.1
                have ha_f23 : n < n22 := by omega
                have hX := hX.trans (hA.x rfl)
                have hS := hS0.x hX
                have hR := hR0.x hn hX
                have hz := hX.sz h94
                have hxn := hX.1
                have hth := (congrFun ((hA.x rfl).2.1 83 (by omega)).2.1 0).trans hth
                refine y_dup rfl rfl ?_
                refine y_iconst rfl ?_
                refine y_iload_n rfl rfl ?_
                refine y_iastoreC (j := 0) rfl ht_f23 ha_f23 (Nat.le_trans (by decide) (by omega : 94 ≤ _)) (by decide) (by decide) rfl ?_
                refine y_nameI (fun I24 e24 => ?_)
                have hX := hX.upI (by omega) (upI e24)
                have hS := hS0.x hX
                have hR := hR0.x hn hX
                have hz := hX.sz h94
                have hxn := hX.1
                have hth := (congrFun (upI e24 83 (by omega)) 0).trans hth
                refine y_dup rfl rfl ?_
                refine y_iconst rfl ?_
                refine y_iload_n rfl rfl ?_
                refine y_iastoreC (j := 1) rfl ht_f23 ha_f23 (Nat.le_trans (by decide) (by omega : 94 ≤ _)) (by decide) (by decide) rfl ?_
                refine y_nameI (fun I25 e25 => ?_)
                have hX := hX.upI (by omega) (upI e25)
                have hS := hS0.x hX
                have hR := hR0.x hn hX
                have hz := hX.sz h94
                have hxn := hX.1
                have hth := (congrFun (upI e25 83 (by omega)) 0).trans hth
                refine y_dup rfl rfl ?_
                refine y_iconst rfl ?_
                refine y_iload_n rfl rfl ?_
                refine y_iastoreC (j := 2) rfl ht_f23 ha_f23 (Nat.le_trans (by decide) (by omega : 94 ≤ _)) (by decide) (by decide) rfl ?_
                refine y_nameI (fun I26 e26 => ?_)
                have hX := hX.upI (by omega) (upI e26)
                have hS := hS0.x hX
                have hR := hR0.x hn hX
                have hz := hX.sz h94
                have hxn := hX.1
                have hth := (congrFun (upI e26 83 (by omega)) 0).trans hth
                refine y_dup rfl rfl ?_
                refine y_iconst rfl ?_
                refine y_iload rfl rfl ?_
                refine y_iastoreC (j := 3) rfl ht_f23 ha_f23 (Nat.le_trans (by decide) (by omega : 94 ≤ _)) (by decide) (by decide) rfl ?_
                refine y_nameI (fun I27 e27 => ?_)
                have hX := hX.upI (by omega) (upI e27)
                have hS := hS0.x hX
                have hR := hR0.x hn hX
                have hz := hX.sz h94
                have hxn := hX.1
                have hth := (congrFun (upI e27 83 (by omega)) 0).trans hth
                refine y_dup rfl rfl ?_
                refine y_iconst rfl ?_
                refine y_iload rfl rfl ?_
                refine y_iastoreC (j := 4) rfl ht_f23 ha_f23 (Nat.le_trans (by decide) (by omega : 94 ≤ _)) (by decide) (by decide) rfl ?_
                refine y_nameI (fun I28 e28 => ?_)
                have hX := hX.upI (by omega) (upI e28)
                have hS := hS0.x hX
                have hR := hR0.x hn hX
                have hz := hX.sz h94
                have hxn := hX.1
                have hth := (congrFun (upI e28 83 (by omega)) 0).trans hth
                refine y_dup rfl rfl ?_
                refine y_iconst rfl ?_
                refine y_iload rfl rfl ?_
                refine y_iastoreC (j := 5) rfl ht_f23 ha_f23 (Nat.le_trans (by decide) (by omega : 94 ≤ _)) (by decide) (by decide) rfl ?_
                refine y_nameI (fun I29 e29 => ?_)
                have hX := hX.upI (by omega) (upI e29)
                have hS := hS0.x hX
                have hR := hR0.x hn hX
                have hz := hX.sz h94
                have hxn := hX.1
                have hth := (congrFun (upI e29 83 (by omega)) 0).trans hth
                refine y_dup rfl rfl ?_
                refine y_bip rfl (by decide) ?_
                refine y_iconst rfl ?_
                refine y_iastoreC (j := 6) rfl ht_f23 ha_f23 (Nat.le_trans (by decide) (by omega : 94 ≤ _)) (by decide) (by decide) rfl ?_
                refine y_nameI (fun I30 e30 => ?_)
                have hX := hX.upI (by omega) (upI e30)
                have hS := hS0.x hX
                have hR := hR0.x hn hX
                have hz := hX.sz h94
                have hxn := hX.1
                have hth := (congrFun (upI e30 83 (by omega)) 0).trans hth
                refine y_virt rfl rfl rfl rfl rfl (ySh.t hS rfl) (ySh.n hS rfl) ?_
                have hnw : yNw n n22 tg22 n := fun a h1 h2 h3 => hX.2.2 a h1 h2
                have hX := hX.y
                refine l_add hS (by decide) (by decide) (ySh.t hS rfl) (Nat.le_trans hn hX.1) hR.l92 (by omega) (by omega) ha_f23 (fun n31 tg31 I31 R31 c_31 s_31 hAd hc_31 hs_31 => ?_)
                have hsA := hAd.sz
                have hsz87 := congrArg Int32.toInt (congrFun (hAd.I 87 (by omega) (by decide)) 2)
                have hsz88 := congrArg Int32.toInt (congrFun (hAd.I 88 (by omega) (by decide)) 2)
                have hsz89 := congrArg Int32.toInt (congrFun (hAd.I 89 (by omega) (by decide)) 2)
                have hsz90 := congrArg Int32.toInt (congrFun (hAd.I 90 (by omega) (by decide)) 2)
                have hsz91 := congrArg Int32.toInt (congrFun (hAd.I 91 (by omega) (by decide)) 2)
                have hszp := congrArg Int32.toInt (congrFun (hAd.I 83 (by omega) (by decide)) 8)
                have hszd := congrArg Int32.toInt (congrFun (hAd.I 83 (by omega) (by decide)) 1)
                have hnA := hAd.n
                have hNu : yNum K I31 := yNum.add (K := K) hR.1 hAd (by omega) (by decide) (by decide) (Nat.le_refl K) (by omega) (fun h => by omega) (fun h => by omega) (fun h => by omega) (fun h => by omega) (fun h => by omega) (fun h => by omega)
                have htx : tg31 n = (0, 7) := (hAd.tg _ ha_f23).trans ht_f23
                have hIx := hAd.I _ ha_f23 (by omega)
                have hOb : yOb K n31 tg31 I31 R31 n := ⟨fun hq => absurd (show (0 : Nat) = 20 from congrArg Prod.fst (htx.symm.trans hq)) (by decide), fun hq => absurd (show (0 : Nat) = 19 from congrArg Prod.fst (htx.symm.trans hq)) (by decide), fun hq => absurd (show (0 : Nat) = 18 from congrArg Prod.fst (htx.symm.trans hq)) (by decide), fun hq => absurd (show (0 : Nat) = 21 from congrArg Prod.fst (htx.symm.trans hq)) (by decide)⟩
                have hFr : (92 : Nat) = 92 → 1 ≤ (I30 n 0).toInt ∧ (I30 n 0).toInt ≤ 999 := fun _ => by simp only [e30, e29, e28, e27, e26, e25, e24, upd2]; first | omega | (simp; omega) | simp | (simp; decide) | decide
                have hR1 : yRI K n31 tg31 I31 R31 := yRI.add hR (Nat.le_trans hn hX.1) hAd (by decide) (by decide) rfl (by omega) ha_f23 ht_f23 hnw (Nat.le_refl K) hNu hOb hFr (fun h => absurd h (by decide))
                have hK := (hK.y hRo hno hX).add hRo hno hR.di hAd (by decide) (by decide) (hR.zl 92 (by decide) (by decide))
                have hS := hS.add hAd (by decide) (by decide) (hR.zl 92 (by decide) (by decide))
                have hth := (congrFun (hAd.I 83 (by omega) (by decide)) 0).trans hth
                have ht_f23 := (hAd.tg _ ha_f23).trans ht_f23
                have ha_f23 := Nat.lt_of_lt_of_le ha_f23 hAd.n
                have hS0 := hS
                have hR0 := hR1
                have hn := Nat.le_refl n31
                have h94 := hS0.1
                have hX := @yX.rf n31 tg31 I31 R31
                have hS := hS0.x hX
                have hR := hR0.x hn hX
                have hz := hX.sz h94
                have hxn := hX.1
                have hN := hR0.1
                have hnb := hR0.2.2.2.2.2.2
                have hthB := hth
                refine y_ret1 ?_
                refine y_pop rfl rfl ?_
                refine y_aload_n rfl rfl ?_
                refine y_getR rfl (ySh.t hS rfl) (ySh.n hS rfl) rfl rfl (ySh.r hS rfl) ?_
                refine y_virt rfl rfl rfl rfl rfl (ySh.t hS rfl) (ySh.n hS rfl) ?_
                refine y_in (M := xm_Jx4a65c_size_8abf5) (ls := [some _]) rfl rfl rfl ?_
                refine y_aload_n rfl rfl ?_
                refine y_getI rfl (ySh.t hS rfl) (ySh.n hS rfl) rfl rfl ?_
                refine y_ireturn rfl rfl rfl ?_
                refine y_ret1 ?_
                refine y_iconst rfl ?_
                refine y_isub rfl ?_
                refine y_ireturn rfl rfl rfl ?_
                exact hQ0 (by omega) _ _ _ _ _ _ _ hS ((hR0.grow hX).up (Nat.le_succ K) hk6) (hK.x hRo hno hX) hth ⟨by first | omega | (rw [ysub (by rw [yz_1]; omega) (by rw [yz_1]; omega), yz_1]; omega), by first | omega | (rw [ysub (by rw [yz_1]; omega) (by rw [yz_1]; omega), yz_1]; omega), by first | omega | (rw [ysub (by rw [yz_1]; omega) (by rw [yz_1]; omega), yz_1]; omega), by first | omega | (rw [ysub (by rw [yz_1]; omega) (by rw [yz_1]; omega), yz_1]; omega), by first | omega | (rw [ysub (by rw [yz_1]; omega) (by rw [yz_1]; omega), yz_1]; omega), by first | omega | (rw [ysub (by rw [yz_1]; omega) (by rw [yz_1]; omega), yz_1]; omega)⟩ (by omega) (by omega)
              · rw [yz_10] at h_21
                refine y_iconst rfl ?_
                refine y_goto rfl j_X14_firm_98 ?_
                refine y_iconst rfl ?_
                refine y_virt rfl rfl rfl rfl rfl (ySh.t hS rfl) (ySh.n hS rfl) ?_
                refine y_in (M := xm_X14_refuse) (ls := [some _, some _, some _]) rfl rfl rfl ?_
                refine y_iload_n rfl rfl ?_
                refine y_if_eqF rfl (by decide) ?_
                refine y_aload_n rfl rfl ?_
                refine y_getIv (v := Int32.ofInt (0)) rfl (ySh.t hS rfl) (ySh.n hS rfl) rfl rfl hth ?_
                refine y_if_neF rfl (by decide) ?_
                refine y_aload_n rfl rfl ?_
                refine y_iload_n rfl rfl ?_
                refine y_putI rfl (ySh.t hS rfl) (ySh.n hS rfl) rfl (Nat.le_of_ble_eq_true rfl) rfl rfl ?_
                refine y_nameI (fun I32 e32 => ?_)
                have hR1 := (hR0.grow hX).mod0 e32 (by decide) (by decide)
                have hK := (hK.x hRo hno hX).upI (upI e32) (by decide) (by decide) (fun i hi => by have := (hRo.l87.2.2.2.2 i hi).2.1; omega) (by rw [e32, upd2_ne (.inr (by decide))]; exact Int.le_refl _)
                have hth : I32 83 0 = Int32.ofInt (2) := by rw [e32, upd2_self]
                have hzz : ySz8 I19 I32 := ySz8_of (upI e32) (by rw [e32]; exact ⟨upd2_ne (.inr (by decide)), upd2_ne (.inr (by decide))⟩)
                have hS0 := hS
                have hR0 := hR1
                have hn := Nat.le_refl n
                have h94 := hS0.1
                have hX := @yX.rf n tg I32 R
                have hS := hS0.x hX
                have hR := hR0.x hn hX
                have hz := hX.sz h94
                have hxn := hX.1
                have hN := hR0.1
                have hnb := hR0.2.2.2.2.2.2
                have hthB := hth
                refine y_aload_n rfl rfl ?_
                refine y_getIv (v := Int32.ofInt (2)) rfl (ySh.t hS rfl) (ySh.n hS rfl) rfl rfl hth ?_
                refine y_if_leF rfl (by decide) ?_
                refine y_iconst rfl ?_
                refine y_goto rfl j_X14_refuse_28 ?_
                refine y_ireturn rfl rfl rfl ?_
                refine y_ret1 ?_
                refine y_if_eqF rfl (by decide) ?_
                refine y_iconst rfl ?_
                refine y_ireturn rfl rfl rfl ?_
                exact hQ2 (by omega) _ _ _ _ _ _ _ hS ((hR0.grow hX).up (Nat.le_succ K) hk6) (hK.x hRo hno hX) hth ⟨by first | omega | (rw [ysub (by rw [yz_1]; omega) (by rw [yz_1]; omega), yz_1]; omega), by first | omega | (rw [ysub (by rw [yz_1]; omega) (by rw [yz_1]; omega), yz_1]; omega), by first | omega | (rw [ysub (by rw [yz_1]; omega) (by rw [yz_1]; omega), yz_1]; omega), by first | omega | (rw [ysub (by rw [yz_1]; omega) (by rw [yz_1]; omega), yz_1]; omega), by first | omega | (rw [ysub (by rw [yz_1]; omega) (by rw [yz_1]; omega), yz_1]; omega)⟩ (by omega) (by omega)
            · rw [yz_0] at h_18
              rw [yz_99] at h_18
              refine y_ret1 ?_
              refine y_if_neF rfl (by decide) ?_
              refine y_iconst rfl ?_
              refine y_goto rfl j_X14_firm_73 ?_
              refine y_iconst rfl ?_
              refine y_virt rfl rfl rfl rfl rfl (ySh.t hS rfl) (ySh.n hS rfl) ?_
              refine y_in (M := xm_X14_start) (ls := [some _, some _, some _]) rfl rfl rfl ?_
              refine y_aload_n rfl rfl ?_
              refine y_iconst rfl ?_
              refine y_putI rfl (ySh.t hS rfl) (ySh.n hS rfl) rfl (Nat.le_of_ble_eq_true rfl) rfl rfl ?_
              refine y_nameI (fun I33 e33 => ?_)
              have hR1 := (hR0.grow hX).mod0 e33 (by decide) (by decide)
              have hK := (hK.x hRo hno hX).upI (upI e33) (by decide) (by decide) (fun i hi => by have := (hRo.l87.2.2.2.2 i hi).2.1; omega) (by rw [e33, upd2_ne (.inr (by decide))]; exact Int.le_refl _)
              have hth : I33 83 0 = Int32.ofInt (0) := by rw [e33, upd2_self]
              have hzz : ySz8 I I33 := ySz8_of (upI e33) (by rw [e33]; exact ⟨upd2_ne (.inr (by decide)), upd2_ne (.inr (by decide))⟩)
              have hS0 := hS
              have hR0 := hR1
              have hn := Nat.le_refl n
              have h94 := hS0.1
              have hX := @yX.rf n tg I33 R
              have hS := hS0.x hX
              have hR := hR0.x hn hX
              have hz := hX.sz h94
              have hxn := hX.1
              have hN := hR0.1
              have hnb := hR0.2.2.2.2.2.2
              have hthB := hth
              refine y_aload_n rfl rfl ?_
              refine y_iload_n rfl rfl ?_
              refine y_iload_n rfl rfl ?_
              refine y_virt rfl rfl rfl rfl rfl (ySh.t hS rfl) (ySh.n hS rfl) ?_
              refine y_in (M := xm_X14_refuse) (ls := [some _, some _, some _]) rfl rfl rfl ?_
              refine y_iload_n rfl rfl ?_
              refine y_if_eqF rfl (by decide) ?_
              refine y_aload_n rfl rfl ?_
              refine y_getIv (v := Int32.ofInt (0)) rfl (ySh.t hS rfl) (ySh.n hS rfl) rfl rfl hth ?_
              refine y_if_neF rfl (by decide) ?_
              refine y_aload_n rfl rfl ?_
              refine y_iload_n rfl rfl ?_
              refine y_putI rfl (ySh.t hS rfl) (ySh.n hS rfl) rfl (Nat.le_of_ble_eq_true rfl) rfl rfl ?_
              refine y_nameI (fun I34 e34 => ?_)
              have hR1 := (hR0.grow hX).mod0 e34 (by decide) (by decide)
              have hK := (hK.x hRo hno hX).upI (upI e34) (by decide) (by decide) (fun i hi => by have := (hRo.l87.2.2.2.2 i hi).2.1; omega) (by rw [e34, upd2_ne (.inr (by decide))]; exact Int.le_refl _)
              have hth : I34 83 0 = Int32.ofInt (1) := by rw [e34, upd2_self]
              have hzz : ySz8 I33 I34 := ySz8_of (upI e34) (by rw [e34]; exact ⟨upd2_ne (.inr (by decide)), upd2_ne (.inr (by decide))⟩)
              have hS0 := hS
              have hR0 := hR1
              have hn := Nat.le_refl n
              have h94 := hS0.1
              have hX := @yX.rf n tg I34 R
              have hS := hS0.x hX
              have hR := hR0.x hn hX
              have hz := hX.sz h94
              have hxn := hX.1
              have hN := hR0.1
              have hnb := hR0.2.2.2.2.2.2
              have hthB := hth
              refine y_aload_n rfl rfl ?_
              refine y_getIv (v := Int32.ofInt (1)) rfl (ySh.t hS rfl) (ySh.n hS rfl) rfl rfl hth ?_
              refine y_if_leF rfl (by decide) ?_
              refine y_iconst rfl ?_
              refine y_goto rfl j_X14_refuse_28 ?_
              refine y_ireturn rfl rfl rfl ?_
              refine y_ret1 ?_
              refine y_ireturn rfl rfl rfl ?_
              refine y_ret1 ?_
              refine y_if_neT rfl j_X14_firm_105 (by decide) ?_
              refine y_iconst rfl ?_
              refine y_ireturn rfl rfl rfl ?_
              exact hQ1 (by omega) _ _ _ _ _ _ _ hS ((hR0.grow hX).up (Nat.le_succ K) hk6) (hK.x hRo hno hX) hth ⟨by first | omega | (rw [ysub (by rw [yz_1]; omega) (by rw [yz_1]; omega), yz_1]; omega), by first | omega | (rw [ysub (by rw [yz_1]; omega) (by rw [yz_1]; omega), yz_1]; omega), by first | omega | (rw [ysub (by rw [yz_1]; omega) (by rw [yz_1]; omega), yz_1]; omega), by first | omega | (rw [ysub (by rw [yz_1]; omega) (by rw [yz_1]; omega), yz_1]; omega), by first | omega | (rw [ysub (by rw [yz_1]; omega) (by rw [yz_1]; omega), yz_1]; omega)⟩ (by omega) (by omega)
          · rw [yz_1] at h_15
            rw [yz_99] at h_15
            refine y_ret1 ?_
            refine y_if_eqT rfl j_X14_firm_68 (by decide) ?_
            refine y_iconst rfl ?_
            refine y_goto rfl j_X14_firm_73 ?_
            refine y_iconst rfl ?_
            refine y_virt rfl rfl rfl rfl rfl (ySh.t hS rfl) (ySh.n hS rfl) ?_
            refine y_in (M := xm_X14_start) (ls := [some _, some _, some _]) rfl rfl rfl ?_
            refine y_aload_n rfl rfl ?_
            refine y_iconst rfl ?_
            refine y_putI rfl (ySh.t hS rfl) (ySh.n hS rfl) rfl (Nat.le_of_ble_eq_true rfl) rfl rfl ?_
            refine y_nameI (fun I35 e35 => ?_)
            have hR1 := (hR0.grow hX).mod0 e35 (by decide) (by decide)
            have hK := (hK.x hRo hno hX).upI (upI e35) (by decide) (by decide) (fun i hi => by have := (hRo.l87.2.2.2.2 i hi).2.1; omega) (by rw [e35, upd2_ne (.inr (by decide))]; exact Int.le_refl _)
            have hth : I35 83 0 = Int32.ofInt (0) := by rw [e35, upd2_self]
            have hzz : ySz8 I I35 := ySz8_of (upI e35) (by rw [e35]; exact ⟨upd2_ne (.inr (by decide)), upd2_ne (.inr (by decide))⟩)
            have hS0 := hS
            have hR0 := hR1
            have hn := Nat.le_refl n
            have h94 := hS0.1
            have hX := @yX.rf n tg I35 R
            have hS := hS0.x hX
            have hR := hR0.x hn hX
            have hz := hX.sz h94
            have hxn := hX.1
            have hN := hR0.1
            have hnb := hR0.2.2.2.2.2.2
            have hthB := hth
            refine y_aload_n rfl rfl ?_
            refine y_iload_n rfl rfl ?_
            refine y_iload_n rfl rfl ?_
            refine y_virt rfl rfl rfl rfl rfl (ySh.t hS rfl) (ySh.n hS rfl) ?_
            refine y_in (M := xm_X14_refuse) (ls := [some _, some _, some _]) rfl rfl rfl ?_
            refine y_iload_n rfl rfl ?_
            refine y_if_eqF rfl (by decide) ?_
            refine y_aload_n rfl rfl ?_
            refine y_getIv (v := Int32.ofInt (0)) rfl (ySh.t hS rfl) (ySh.n hS rfl) rfl rfl hth ?_
            refine y_if_neF rfl (by decide) ?_
            refine y_aload_n rfl rfl ?_
            refine y_iload_n rfl rfl ?_
            refine y_putI rfl (ySh.t hS rfl) (ySh.n hS rfl) rfl (Nat.le_of_ble_eq_true rfl) rfl rfl ?_
            refine y_nameI (fun I36 e36 => ?_)
            have hR1 := (hR0.grow hX).mod0 e36 (by decide) (by decide)
            have hK := (hK.x hRo hno hX).upI (upI e36) (by decide) (by decide) (fun i hi => by have := (hRo.l87.2.2.2.2 i hi).2.1; omega) (by rw [e36, upd2_ne (.inr (by decide))]; exact Int.le_refl _)
            have hth : I36 83 0 = Int32.ofInt (1) := by rw [e36, upd2_self]
            have hzz : ySz8 I35 I36 := ySz8_of (upI e36) (by rw [e36]; exact ⟨upd2_ne (.inr (by decide)), upd2_ne (.inr (by decide))⟩)
            have hS0 := hS
            have hR0 := hR1
            have hn := Nat.le_refl n
            have h94 := hS0.1
            have hX := @yX.rf n tg I36 R
            have hS := hS0.x hX
            have hR := hR0.x hn hX
            have hz := hX.sz h94
            have hxn := hX.1
            have hN := hR0.1
            have hnb := hR0.2.2.2.2.2.2
            have hthB := hth
            refine y_aload_n rfl rfl ?_
            refine y_getIv (v := Int32.ofInt (1)) rfl (ySh.t hS rfl) (ySh.n hS rfl) rfl rfl hth ?_
            refine y_if_leF rfl (by decide) ?_
            refine y_iconst rfl ?_
            refine y_goto rfl j_X14_refuse_28 ?_
            refine y_ireturn rfl rfl rfl ?_
            refine y_ret1 ?_
            refine y_ireturn rfl rfl rfl ?_
            refine y_ret1 ?_
            refine y_if_neT rfl j_X14_firm_105 (by decide) ?_
            refine y_iconst rfl ?_
            refine y_ireturn rfl rfl rfl ?_
            exact hQ1 (by omega) _ _ _ _ _ _ _ hS ((hR0.grow hX).up (Nat.le_succ K) hk6) (hK.x hRo hno hX) hth ⟨by first | omega | (rw [ysub (by rw [yz_1]; omega) (by rw [yz_1]; omega), yz_1]; omega), by first | omega | (rw [ysub (by rw [yz_1]; omega) (by rw [yz_1]; omega), yz_1]; omega), by first | omega | (rw [ysub (by rw [yz_1]; omega) (by rw [yz_1]; omega), yz_1]; omega), by first | omega | (rw [ysub (by rw [yz_1]; omega) (by rw [yz_1]; omega), yz_1]; omega), by first | omega | (rw [ysub (by rw [yz_1]; omega) (by rw [yz_1]; omega), yz_1]; omega)⟩ (by omega) (by omega)
        · rw [yz_0] at h_12
          rw [yz_999] at h_12
          refine y_ret1 ?_
          refine y_if_eqT rfl j_X14_firm_68 (by decide) ?_
          refine y_iconst rfl ?_
          refine y_goto rfl j_X14_firm_73 ?_
          refine y_iconst rfl ?_
          refine y_virt rfl rfl rfl rfl rfl (ySh.t hS rfl) (ySh.n hS rfl) ?_
          refine y_in (M := xm_X14_start) (ls := [some _, some _, some _]) rfl rfl rfl ?_
          refine y_aload_n rfl rfl ?_
          refine y_iconst rfl ?_
          refine y_putI rfl (ySh.t hS rfl) (ySh.n hS rfl) rfl (Nat.le_of_ble_eq_true rfl) rfl rfl ?_
          refine y_nameI (fun I37 e37 => ?_)
          have hR1 := (hR0.grow hX).mod0 e37 (by decide) (by decide)
          have hK := (hK.x hRo hno hX).upI (upI e37) (by decide) (by decide) (fun i hi => by have := (hRo.l87.2.2.2.2 i hi).2.1; omega) (by rw [e37, upd2_ne (.inr (by decide))]; exact Int.le_refl _)
          have hth : I37 83 0 = Int32.ofInt (0) := by rw [e37, upd2_self]
          have hzz : ySz8 I I37 := ySz8_of (upI e37) (by rw [e37]; exact ⟨upd2_ne (.inr (by decide)), upd2_ne (.inr (by decide))⟩)
          have hS0 := hS
          have hR0 := hR1
          have hn := Nat.le_refl n
          have h94 := hS0.1
          have hX := @yX.rf n tg I37 R
          have hS := hS0.x hX
          have hR := hR0.x hn hX
          have hz := hX.sz h94
          have hxn := hX.1
          have hN := hR0.1
          have hnb := hR0.2.2.2.2.2.2
          have hthB := hth
          refine y_aload_n rfl rfl ?_
          refine y_iload_n rfl rfl ?_
          refine y_iload_n rfl rfl ?_
          refine y_virt rfl rfl rfl rfl rfl (ySh.t hS rfl) (ySh.n hS rfl) ?_
          refine y_in (M := xm_X14_refuse) (ls := [some _, some _, some _]) rfl rfl rfl ?_
          refine y_iload_n rfl rfl ?_
          refine y_if_eqF rfl (by decide) ?_
          refine y_aload_n rfl rfl ?_
          refine y_getIv (v := Int32.ofInt (0)) rfl (ySh.t hS rfl) (ySh.n hS rfl) rfl rfl hth ?_
          refine y_if_neF rfl (by decide) ?_
          refine y_aload_n rfl rfl ?_
          refine y_iload_n rfl rfl ?_
          refine y_putI rfl (ySh.t hS rfl) (ySh.n hS rfl) rfl (Nat.le_of_ble_eq_true rfl) rfl rfl ?_
          refine y_nameI (fun I38 e38 => ?_)
          have hR1 := (hR0.grow hX).mod0 e38 (by decide) (by decide)
          have hK := (hK.x hRo hno hX).upI (upI e38) (by decide) (by decide) (fun i hi => by have := (hRo.l87.2.2.2.2 i hi).2.1; omega) (by rw [e38, upd2_ne (.inr (by decide))]; exact Int.le_refl _)
          have hth : I38 83 0 = Int32.ofInt (1) := by rw [e38, upd2_self]
          have hzz : ySz8 I37 I38 := ySz8_of (upI e38) (by rw [e38]; exact ⟨upd2_ne (.inr (by decide)), upd2_ne (.inr (by decide))⟩)
          have hS0 := hS
          have hR0 := hR1
          have hn := Nat.le_refl n
          have h94 := hS0.1
          have hX := @yX.rf n tg I38 R
          have hS := hS0.x hX
          have hR := hR0.x hn hX
          have hz := hX.sz h94
          have hxn := hX.1
          have hN := hR0.1
          have hnb := hR0.2.2.2.2.2.2
          have hthB := hth
          refine y_aload_n rfl rfl ?_
          refine y_getIv (v := Int32.ofInt (1)) rfl (ySh.t hS rfl) (ySh.n hS rfl) rfl rfl hth ?_
          refine y_if_leF rfl (by decide) ?_
          refine y_iconst rfl ?_
          refine y_goto rfl j_X14_refuse_28 ?_
          refine y_ireturn rfl rfl rfl ?_
          refine y_ret1 ?_
          refine y_ireturn rfl rfl rfl ?_
          refine y_ret1 ?_
          refine y_if_neT rfl j_X14_firm_105 (by decide) ?_
          refine y_iconst rfl ?_
          refine y_ireturn rfl rfl rfl ?_
          exact hQ1 (by omega) _ _ _ _ _ _ _ hS ((hR0.grow hX).up (Nat.le_succ K) hk6) (hK.x hRo hno hX) hth ⟨by first | omega | (rw [ysub (by rw [yz_1]; omega) (by rw [yz_1]; omega), yz_1]; omega), by first | omega | (rw [ysub (by rw [yz_1]; omega) (by rw [yz_1]; omega), yz_1]; omega), by first | omega | (rw [ysub (by rw [yz_1]; omega) (by rw [yz_1]; omega), yz_1]; omega), by first | omega | (rw [ysub (by rw [yz_1]; omega) (by rw [yz_1]; omega), yz_1]; omega), by first | omega | (rw [ysub (by rw [yz_1]; omega) (by rw [yz_1]; omega), yz_1]; omega)⟩ (by omega) (by omega)
      · rw [yz_0] at h_9
        rw [yz_999] at h_9
        refine y_ret1 ?_
        refine y_if_eqT rfl j_X14_firm_68 (by decide) ?_
        refine y_iconst rfl ?_
        refine y_goto rfl j_X14_firm_73 ?_
        refine y_iconst rfl ?_
        refine y_virt rfl rfl rfl rfl rfl (ySh.t hS rfl) (ySh.n hS rfl) ?_
        refine y_in (M := xm_X14_start) (ls := [some _, some _, some _]) rfl rfl rfl ?_
        refine y_aload_n rfl rfl ?_
        refine y_iconst rfl ?_
        refine y_putI rfl (ySh.t hS rfl) (ySh.n hS rfl) rfl (Nat.le_of_ble_eq_true rfl) rfl rfl ?_
        refine y_nameI (fun I39 e39 => ?_)
        have hR1 := (hR0.grow hX).mod0 e39 (by decide) (by decide)
        have hK := (hK.x hRo hno hX).upI (upI e39) (by decide) (by decide) (fun i hi => by have := (hRo.l87.2.2.2.2 i hi).2.1; omega) (by rw [e39, upd2_ne (.inr (by decide))]; exact Int.le_refl _)
        have hth : I39 83 0 = Int32.ofInt (0) := by rw [e39, upd2_self]
        have hzz : ySz8 I I39 := ySz8_of (upI e39) (by rw [e39]; exact ⟨upd2_ne (.inr (by decide)), upd2_ne (.inr (by decide))⟩)
        have hS0 := hS
        have hR0 := hR1
        have hn := Nat.le_refl n
        have h94 := hS0.1
        have hX := @yX.rf n tg I39 R
        have hS := hS0.x hX
        have hR := hR0.x hn hX
        have hz := hX.sz h94
        have hxn := hX.1
        have hN := hR0.1
        have hnb := hR0.2.2.2.2.2.2
        have hthB := hth
        refine y_aload_n rfl rfl ?_
        refine y_iload_n rfl rfl ?_
        refine y_iload_n rfl rfl ?_
        refine y_virt rfl rfl rfl rfl rfl (ySh.t hS rfl) (ySh.n hS rfl) ?_
        refine y_in (M := xm_X14_refuse) (ls := [some _, some _, some _]) rfl rfl rfl ?_
        refine y_iload_n rfl rfl ?_
        refine y_if_eqF rfl (by decide) ?_
        refine y_aload_n rfl rfl ?_
        refine y_getIv (v := Int32.ofInt (0)) rfl (ySh.t hS rfl) (ySh.n hS rfl) rfl rfl hth ?_
        refine y_if_neF rfl (by decide) ?_
        refine y_aload_n rfl rfl ?_
        refine y_iload_n rfl rfl ?_
        refine y_putI rfl (ySh.t hS rfl) (ySh.n hS rfl) rfl (Nat.le_of_ble_eq_true rfl) rfl rfl ?_
        refine y_nameI (fun I40 e40 => ?_)
        have hR1 := (hR0.grow hX).mod0 e40 (by decide) (by decide)
        have hK := (hK.x hRo hno hX).upI (upI e40) (by decide) (by decide) (fun i hi => by have := (hRo.l87.2.2.2.2 i hi).2.1; omega) (by rw [e40, upd2_ne (.inr (by decide))]; exact Int.le_refl _)
        have hth : I40 83 0 = Int32.ofInt (1) := by rw [e40, upd2_self]
        have hzz : ySz8 I39 I40 := ySz8_of (upI e40) (by rw [e40]; exact ⟨upd2_ne (.inr (by decide)), upd2_ne (.inr (by decide))⟩)
        have hS0 := hS
        have hR0 := hR1
        have hn := Nat.le_refl n
        have h94 := hS0.1
        have hX := @yX.rf n tg I40 R
        have hS := hS0.x hX
        have hR := hR0.x hn hX
        have hz := hX.sz h94
        have hxn := hX.1
        have hN := hR0.1
        have hnb := hR0.2.2.2.2.2.2
        have hthB := hth
        refine y_aload_n rfl rfl ?_
        refine y_getIv (v := Int32.ofInt (1)) rfl (ySh.t hS rfl) (ySh.n hS rfl) rfl rfl hth ?_
        refine y_if_leF rfl (by decide) ?_
        refine y_iconst rfl ?_
        refine y_goto rfl j_X14_refuse_28 ?_
        refine y_ireturn rfl rfl rfl ?_
        refine y_ret1 ?_
        refine y_ireturn rfl rfl rfl ?_
        refine y_ret1 ?_
        refine y_if_neT rfl j_X14_firm_105 (by decide) ?_
        refine y_iconst rfl ?_
        refine y_ireturn rfl rfl rfl ?_
        exact hQ1 (by omega) _ _ _ _ _ _ _ hS ((hR0.grow hX).up (Nat.le_succ K) hk6) (hK.x hRo hno hX) hth ⟨by first | omega | (rw [ysub (by rw [yz_1]; omega) (by rw [yz_1]; omega), yz_1]; omega), by first | omega | (rw [ysub (by rw [yz_1]; omega) (by rw [yz_1]; omega), yz_1]; omega), by first | omega | (rw [ysub (by rw [yz_1]; omega) (by rw [yz_1]; omega), yz_1]; omega), by first | omega | (rw [ysub (by rw [yz_1]; omega) (by rw [yz_1]; omega), yz_1]; omega), by first | omega | (rw [ysub (by rw [yz_1]; omega) (by rw [yz_1]; omega), yz_1]; omega)⟩ (by omega) (by omega)
    · rw [yz_0] at h_6
      rw [yz_999] at h_6
      refine y_ret1 ?_
      refine y_if_eqT rfl j_X14_firm_68 (by decide) ?_
      refine y_iconst rfl ?_
      refine y_goto rfl j_X14_firm_73 ?_
      refine y_iconst rfl ?_
      refine y_virt rfl rfl rfl rfl rfl (ySh.t hS rfl) (ySh.n hS rfl) ?_
      refine y_in (M := xm_X14_start) (ls := [some _, some _, some _]) rfl rfl rfl ?_
      refine y_aload_n rfl rfl ?_
      refine y_iconst rfl ?_
      refine y_putI rfl (ySh.t hS rfl) (ySh.n hS rfl) rfl (Nat.le_of_ble_eq_true rfl) rfl rfl ?_
      refine y_nameI (fun I41 e41 => ?_)
      have hR1 := (hR0.grow hX).mod0 e41 (by decide) (by decide)
      have hK := (hK.x hRo hno hX).upI (upI e41) (by decide) (by decide) (fun i hi => by have := (hRo.l87.2.2.2.2 i hi).2.1; omega) (by rw [e41, upd2_ne (.inr (by decide))]; exact Int.le_refl _)
      have hth : I41 83 0 = Int32.ofInt (0) := by rw [e41, upd2_self]
      have hzz : ySz8 I I41 := ySz8_of (upI e41) (by rw [e41]; exact ⟨upd2_ne (.inr (by decide)), upd2_ne (.inr (by decide))⟩)
      have hS0 := hS
      have hR0 := hR1
      have hn := Nat.le_refl n
      have h94 := hS0.1
      have hX := @yX.rf n tg I41 R
      have hS := hS0.x hX
      have hR := hR0.x hn hX
      have hz := hX.sz h94
      have hxn := hX.1
      have hN := hR0.1
      have hnb := hR0.2.2.2.2.2.2
      have hthB := hth
      refine y_aload_n rfl rfl ?_
      refine y_iload_n rfl rfl ?_
      refine y_iload_n rfl rfl ?_
      refine y_virt rfl rfl rfl rfl rfl (ySh.t hS rfl) (ySh.n hS rfl) ?_
      refine y_in (M := xm_X14_refuse) (ls := [some _, some _, some _]) rfl rfl rfl ?_
      refine y_iload_n rfl rfl ?_
      refine y_if_eqF rfl (by decide) ?_
      refine y_aload_n rfl rfl ?_
      refine y_getIv (v := Int32.ofInt (0)) rfl (ySh.t hS rfl) (ySh.n hS rfl) rfl rfl hth ?_
      refine y_if_neF rfl (by decide) ?_
      refine y_aload_n rfl rfl ?_
      refine y_iload_n rfl rfl ?_
      refine y_putI rfl (ySh.t hS rfl) (ySh.n hS rfl) rfl (Nat.le_of_ble_eq_true rfl) rfl rfl ?_
      refine y_nameI (fun I42 e42 => ?_)
      have hR1 := (hR0.grow hX).mod0 e42 (by decide) (by decide)
      have hK := (hK.x hRo hno hX).upI (upI e42) (by decide) (by decide) (fun i hi => by have := (hRo.l87.2.2.2.2 i hi).2.1; omega) (by rw [e42, upd2_ne (.inr (by decide))]; exact Int.le_refl _)
      have hth : I42 83 0 = Int32.ofInt (1) := by rw [e42, upd2_self]
      have hzz : ySz8 I41 I42 := ySz8_of (upI e42) (by rw [e42]; exact ⟨upd2_ne (.inr (by decide)), upd2_ne (.inr (by decide))⟩)
      have hS0 := hS
      have hR0 := hR1
      have hn := Nat.le_refl n
      have h94 := hS0.1
      have hX := @yX.rf n tg I42 R
      have hS := hS0.x hX
      have hR := hR0.x hn hX
      have hz := hX.sz h94
      have hxn := hX.1
      have hN := hR0.1
      have hnb := hR0.2.2.2.2.2.2
      have hthB := hth
      refine y_aload_n rfl rfl ?_
      refine y_getIv (v := Int32.ofInt (1)) rfl (ySh.t hS rfl) (ySh.n hS rfl) rfl rfl hth ?_
      refine y_if_leF rfl (by decide) ?_
      refine y_iconst rfl ?_
      refine y_goto rfl j_X14_refuse_28 ?_
      refine y_ireturn rfl rfl rfl ?_
      refine y_ret1 ?_
      refine y_ireturn rfl rfl rfl ?_
      refine y_ret1 ?_
      refine y_if_neT rfl j_X14_firm_105 (by decide) ?_
      refine y_iconst rfl ?_
      refine y_ireturn rfl rfl rfl ?_
      exact hQ1 (by omega) _ _ _ _ _ _ _ hS ((hR0.grow hX).up (Nat.le_succ K) hk6) (hK.x hRo hno hX) hth ⟨by first | omega | (rw [ysub (by rw [yz_1]; omega) (by rw [yz_1]; omega), yz_1]; omega), by first | omega | (rw [ysub (by rw [yz_1]; omega) (by rw [yz_1]; omega), yz_1]; omega), by first | omega | (rw [ysub (by rw [yz_1]; omega) (by rw [yz_1]; omega), yz_1]; omega), by first | omega | (rw [ysub (by rw [yz_1]; omega) (by rw [yz_1]; omega), yz_1]; omega), by first | omega | (rw [ysub (by rw [yz_1]; omega) (by rw [yz_1]; omega), yz_1]; omega)⟩ (by omega) (by omega)
  · rw [yz_1] at h_3
    rw [yz_999] at h_3
    refine y_ret1 ?_
    refine y_if_eqT rfl j_X14_firm_68 (by decide) ?_
    refine y_iconst rfl ?_
    refine y_goto rfl j_X14_firm_73 ?_
    refine y_iconst rfl ?_
    refine y_virt rfl rfl rfl rfl rfl (ySh.t hS rfl) (ySh.n hS rfl) ?_
    refine y_in (M := xm_X14_start) (ls := [some _, some _, some _]) rfl rfl rfl ?_
    refine y_aload_n rfl rfl ?_
    refine y_iconst rfl ?_
    refine y_putI rfl (ySh.t hS rfl) (ySh.n hS rfl) rfl (Nat.le_of_ble_eq_true rfl) rfl rfl ?_
    refine y_nameI (fun I43 e43 => ?_)
    have hR1 := (hR0.grow hX).mod0 e43 (by decide) (by decide)
    have hK := (hK.x hRo hno hX).upI (upI e43) (by decide) (by decide) (fun i hi => by have := (hRo.l87.2.2.2.2 i hi).2.1; omega) (by rw [e43, upd2_ne (.inr (by decide))]; exact Int.le_refl _)
    have hth : I43 83 0 = Int32.ofInt (0) := by rw [e43, upd2_self]
    have hzz : ySz8 I I43 := ySz8_of (upI e43) (by rw [e43]; exact ⟨upd2_ne (.inr (by decide)), upd2_ne (.inr (by decide))⟩)
    have hS0 := hS
    have hR0 := hR1
    have hn := Nat.le_refl n
    have h94 := hS0.1
    have hX := @yX.rf n tg I43 R
    have hS := hS0.x hX
    have hR := hR0.x hn hX
    have hz := hX.sz h94
    have hxn := hX.1
    have hN := hR0.1
    have hnb := hR0.2.2.2.2.2.2
    have hthB := hth
    refine y_aload_n rfl rfl ?_
    refine y_iload_n rfl rfl ?_
    refine y_iload_n rfl rfl ?_
    refine y_virt rfl rfl rfl rfl rfl (ySh.t hS rfl) (ySh.n hS rfl) ?_
    refine y_in (M := xm_X14_refuse) (ls := [some _, some _, some _]) rfl rfl rfl ?_
    refine y_iload_n rfl rfl ?_
    refine y_if_eqF rfl (by decide) ?_
    refine y_aload_n rfl rfl ?_
    refine y_getIv (v := Int32.ofInt (0)) rfl (ySh.t hS rfl) (ySh.n hS rfl) rfl rfl hth ?_
    refine y_if_neF rfl (by decide) ?_
    refine y_aload_n rfl rfl ?_
    refine y_iload_n rfl rfl ?_
    refine y_putI rfl (ySh.t hS rfl) (ySh.n hS rfl) rfl (Nat.le_of_ble_eq_true rfl) rfl rfl ?_
    refine y_nameI (fun I44 e44 => ?_)
    have hR1 := (hR0.grow hX).mod0 e44 (by decide) (by decide)
    have hK := (hK.x hRo hno hX).upI (upI e44) (by decide) (by decide) (fun i hi => by have := (hRo.l87.2.2.2.2 i hi).2.1; omega) (by rw [e44, upd2_ne (.inr (by decide))]; exact Int.le_refl _)
    have hth : I44 83 0 = Int32.ofInt (1) := by rw [e44, upd2_self]
    have hzz : ySz8 I43 I44 := ySz8_of (upI e44) (by rw [e44]; exact ⟨upd2_ne (.inr (by decide)), upd2_ne (.inr (by decide))⟩)
    have hS0 := hS
    have hR0 := hR1
    have hn := Nat.le_refl n
    have h94 := hS0.1
    have hX := @yX.rf n tg I44 R
    have hS := hS0.x hX
    have hR := hR0.x hn hX
    have hz := hX.sz h94
    have hxn := hX.1
    have hN := hR0.1
    have hnb := hR0.2.2.2.2.2.2
    have hthB := hth
    refine y_aload_n rfl rfl ?_
    refine y_getIv (v := Int32.ofInt (1)) rfl (ySh.t hS rfl) (ySh.n hS rfl) rfl rfl hth ?_
    refine y_if_leF rfl (by decide) ?_
    refine y_iconst rfl ?_
    refine y_goto rfl j_X14_refuse_28 ?_
    refine y_ireturn rfl rfl rfl ?_
    refine y_ret1 ?_
    refine y_ireturn rfl rfl rfl ?_
    refine y_ret1 ?_
    refine y_if_neT rfl j_X14_firm_105 (by decide) ?_
    refine y_iconst rfl ?_
    refine y_ireturn rfl rfl rfl ?_
    exact hQ1 (by omega) _ _ _ _ _ _ _ hS ((hR0.grow hX).up (Nat.le_succ K) hk6) (hK.x hRo hno hX) hth ⟨by first | omega | (rw [ysub (by rw [yz_1]; omega) (by rw [yz_1]; omega), yz_1]; omega), by first | omega | (rw [ysub (by rw [yz_1]; omega) (by rw [yz_1]; omega), yz_1]; omega), by first | omega | (rw [ysub (by rw [yz_1]; omega) (by rw [yz_1]; omega), yz_1]; omega), by first | omega | (rw [ysub (by rw [yz_1]; omega) (by rw [yz_1]; omega), yz_1]; omega), by first | omega | (rw [ysub (by rw [yz_1]; omega) (by rw [yz_1]; omega), yz_1]; omega)⟩ (by omega) (by omega)
theorem f_sell (hS0 : ySh n tg R) (hR0 : yRI K n tg I R) (hk6 : K < 600) {x1 x2 x3 x4 : Int32} (hQ : ∀ (v : Int32) n1 tg1 I1 R1 c1 s1, ySh n1 tg1 R1 → yRI (K + 1) n1 tg1 I1 R1 → yKp n tg I R n1 tg1 I1 R1 → (I1 88 2).toInt = (I 88 2).toInt ∧ (I1 91 2).toInt = (I 91 2).toInt ∧ (I1 92 2).toInt = (I 92 2).toInt → c1 ≤ c + 4 → s1 ≤ s + 1330 → Q (.inl (some (.int v))) (n1, tg1, I1, R1) c1 s1) : yC 202 [.ref 83, .int x1, .int x2, .int x3, .int x4] (n, tg, I, R) c s Q := by
  have hno := Nat.le_refl n
  have hn := hno
  have hRo := hR0
  have hK : yKp n tg I R n tg I R := yKp.rf
  have hX : yX n tg I R n tg I R := yX.rf
  have hS := hS0
  have hR := hR0
  have h94 : 94 ≤ n := hS0.1
  have hz : ySz I I := hX.sz h94
  have hxn := hX.1
  have hN := hR0.1
  have hnb : 94 ≤ n := hR0.2.2.2.2.2.2
  refine y_in (M := xm_X14_sell) (ls := [some _, some _, some _, some _, some _, _, _]) rfl rfl rfl ?_
  refine y_aload_n rfl rfl ?_
  refine y_aload_n rfl rfl ?_
  refine y_iload_n rfl rfl ?_
  refine y_virt rfl rfl rfl rfl rfl (ySh.t hS rfl) (ySh.n hS rfl) ?_
  refine y_in (M := xm_X14_isNoThing) (ls := [some _, some _]) rfl rfl rfl ?_
  refine y_iload_n rfl rfl ?_
  refine y_iconst rfl ?_
  refine y_aload_n rfl rfl ?_
  refine y_getR rfl (ySh.t hS rfl) (ySh.n hS rfl) rfl rfl (ySh.r hS rfl) ?_
  refine y_virt rfl rfl rfl rfl rfl (ySh.t hS rfl) (ySh.n hS rfl) ?_
  refine y_in (M := xm_Jx4a65c_size_8abf5) (ls := [some _]) rfl rfl rfl ?_
  refine y_aload_n rfl rfl ?_
  refine y_getI rfl (ySh.t hS rfl) (ySh.n hS rfl) rfl rfl ?_
  refine y_ireturn rfl rfl rfl ?_
  refine y_ret1 ?_
  refine y_iconst rfl ?_
  refine y_isub rfl ?_
  refine y_static rfl rfl rfl rfl rfl ?_
  refine r_isIn (fun h_1 h_2 => ?_) (fun h_3 => ?_)
  · rw [yz_0] at h_1
    try rw [ysub (by rw [yz_1]; omega) (by rw [yz_1]; omega), yz_1] at h_2
    refine y_ret1 ?_
    refine y_if_neT rfl j_X14_isNoThing_21 (by decide) ?_
    refine y_iconst rfl ?_
    refine y_ireturn rfl rfl rfl ?_
    refine y_ret1 ?_
    refine y_if_neF rfl (by decide) ?_
    refine y_aload_n rfl rfl ?_
    refine y_iload_n rfl rfl ?_
    refine y_virt rfl rfl rfl rfl rfl (ySh.t hS rfl) (ySh.n hS rfl) ?_
    refine y_in (M := xm_X14_isNobody) (ls := [some _, some _]) rfl rfl rfl ?_
    refine y_iload_n rfl rfl ?_
    refine y_iconst rfl ?_
    refine y_aload_n rfl rfl ?_
    refine y_getI rfl (ySh.t hS rfl) (ySh.n hS rfl) rfl rfl ?_
    refine y_iconst rfl ?_
    refine y_isub rfl ?_
    refine y_static rfl rfl rfl rfl rfl ?_
    refine r_isIn (fun h_4 h_5 => ?_) (fun h_6 => ?_)
    · rw [yz_0] at h_4
      try rw [ysub (by rw [yz_1]; omega) (by rw [yz_1]; omega), yz_1] at h_5
      refine y_ret1 ?_
      refine y_if_neT rfl j_X14_isNobody_18 (by decide) ?_
      refine y_iconst rfl ?_
      refine y_ireturn rfl rfl rfl ?_
      refine y_ret1 ?_
      refine y_if_eqT rfl j_X14_sell_21 (by decide) ?_
      refine y_iconst rfl ?_
      refine y_iconst rfl ?_
      refine y_virt rfl rfl rfl rfl rfl (ySh.t hS rfl) (ySh.n hS rfl) ?_
      refine y_in (M := xm_X14_start) (ls := [some _, some _, some _]) rfl rfl rfl ?_
      refine y_aload_n rfl rfl ?_
      refine y_iconst rfl ?_
      refine y_putI rfl (ySh.t hS rfl) (ySh.n hS rfl) rfl (Nat.le_of_ble_eq_true rfl) rfl rfl ?_
      refine y_nameI (fun I7 e7 => ?_)
      have hR1 := (hR0.grow hX).mod0 e7 (by decide) (by decide)
      have hK := (hK.x hRo hno hX).upI (upI e7) (by decide) (by decide) (fun i hi => by have := (hRo.l87.2.2.2.2 i hi).2.1; omega) (by rw [e7, upd2_ne (.inr (by decide))]; exact Int.le_refl _)
      have hth : I7 83 0 = Int32.ofInt (0) := by rw [e7, upd2_self]
      have hzz : ySz8 I I7 := ySz8_of (upI e7) (by rw [e7]; exact ⟨upd2_ne (.inr (by decide)), upd2_ne (.inr (by decide))⟩)
      have hS0 := hS
      have hR0 := hR1
      have hn := Nat.le_refl n
      have h94 := hS0.1
      have hX := @yX.rf n tg I7 R
      have hS := hS0.x hX
      have hR := hR0.x hn hX
      have hz := hX.sz h94
      have hxn := hX.1
      have hN := hR0.1
      have hnb := hR0.2.2.2.2.2.2
      have hthB := hth
      refine y_aload_n rfl rfl ?_
      refine y_iload_n rfl rfl ?_
      refine y_iload_n rfl rfl ?_
      refine y_virt rfl rfl rfl rfl rfl (ySh.t hS rfl) (ySh.n hS rfl) ?_
      refine y_in (M := xm_X14_refuse) (ls := [some _, some _, some _]) rfl rfl rfl ?_
      refine y_iload_n rfl rfl ?_
      refine y_if_eqT rfl j_X14_refuse_16 (by decide) ?_
      refine y_aload_n rfl rfl ?_
      refine y_getIv (v := Int32.ofInt (0)) rfl (ySh.t hS rfl) (ySh.n hS rfl) rfl rfl hth ?_
      refine y_if_leT rfl j_X14_refuse_27 (by decide) ?_
      refine y_iconst rfl ?_
      refine y_ireturn rfl rfl rfl ?_
      refine y_ret1 ?_
      refine y_ireturn rfl rfl rfl ?_
      refine y_ret1 ?_
      refine y_if_neF rfl (by decide) ?_
      refine y_aload_n rfl rfl ?_
      refine y_iload_n rfl rfl ?_
      refine y_iconst rfl ?_
      refine y_bip rfl (by decide) ?_
      refine y_static rfl rfl rfl rfl rfl ?_
      refine r_isIn (fun h_8 h_9 => ?_) (fun h_10 => ?_)
      · rw [yz_0] at h_8
        rw [yz_99] at h_9
        refine y_ret1 ?_
        refine y_if_eqF rfl (by decide) ?_
        refine y_iload rfl rfl ?_
        refine y_iconst rfl ?_
        refine y_bip rfl (by decide) ?_
        refine y_static rfl rfl rfl rfl rfl ?_
        refine r_isIn (fun h_11 h_12 => ?_) (fun h_13 => ?_)
        · rw [yz_1] at h_11
          rw [yz_12] at h_12
          refine y_ret1 ?_
          refine y_if_neT rfl j_X14_sell_55 (by decide) ?_
          refine y_iconst rfl ?_
          refine y_iconst rfl ?_
          refine y_virt rfl rfl rfl rfl rfl (ySh.t hS rfl) (ySh.n hS rfl) ?_
          refine y_in (M := xm_X14_refuse) (ls := [some _, some _, some _]) rfl rfl rfl ?_
          refine y_iload_n rfl rfl ?_
          refine y_if_eqT rfl j_X14_refuse_16 (by decide) ?_
          refine y_aload_n rfl rfl ?_
          refine y_getIv (v := Int32.ofInt (0)) rfl (ySh.t hS rfl) (ySh.n hS rfl) rfl rfl hth ?_
          refine y_if_leT rfl j_X14_refuse_27 (by decide) ?_
          refine y_iconst rfl ?_
          refine y_ireturn rfl rfl rfl ?_
          refine y_ret1 ?_
          refine y_if_neF rfl (by decide) ?_
          refine y_aload_n rfl rfl ?_
          refine y_aload_n rfl rfl ?_
          refine y_getR rfl (ySh.t hS rfl) (ySh.n hS rfl) rfl rfl (ySh.r hS rfl) ?_
          refine y_virt rfl rfl rfl rfl rfl (ySh.t hS rfl) (ySh.n hS rfl) ?_
          refine y_in (M := xm_Jx4a65c_size_8abf5) (ls := [some _]) rfl rfl rfl ?_
          refine y_aload_n rfl rfl ?_
          refine y_getI rfl (ySh.t hS rfl) (ySh.n hS rfl) rfl rfl ?_
          refine y_ireturn rfl rfl rfl ?_
          refine y_ret1 ?_
          refine y_bip rfl (by decide) ?_
          refine y_icmp_eq rfl j_X14_sell_85 (fun h_14 => ?_) (fun h_15 => ?_)
          · rw [yz_12] at h_14
            refine y_iconst rfl ?_
            refine y_goto rfl j_X14_sell_90 ?_
            refine y_iconst rfl ?_
            refine y_virt rfl rfl rfl rfl rfl (ySh.t hS rfl) (ySh.n hS rfl) ?_
            refine y_in (M := xm_X14_refuse) (ls := [some _, some _, some _]) rfl rfl rfl ?_
            refine y_iload_n rfl rfl ?_
            refine y_if_eqF rfl (by decide) ?_
            refine y_aload_n rfl rfl ?_
            refine y_getIv (v := Int32.ofInt (0)) rfl (ySh.t hS rfl) (ySh.n hS rfl) rfl rfl hth ?_
            refine y_if_neF rfl (by decide) ?_
            refine y_aload_n rfl rfl ?_
            refine y_iload_n rfl rfl ?_
            refine y_putI rfl (ySh.t hS rfl) (ySh.n hS rfl) rfl (Nat.le_of_ble_eq_true rfl) rfl rfl ?_
            refine y_nameI (fun I16 e16 => ?_)
            have hR1 := (hR0.grow hX).mod0 e16 (by decide) (by decide)
            have hK := (hK.x hRo hno hX).upI (upI e16) (by decide) (by decide) (fun i hi => by have := (hRo.l87.2.2.2.2 i hi).2.1; omega) (by rw [e16, upd2_ne (.inr (by decide))]; exact Int.le_refl _)
            have hth : I16 83 0 = Int32.ofInt (3) := by rw [e16, upd2_self]
            have hzz : ySz8 I7 I16 := ySz8_of (upI e16) (by rw [e16]; exact ⟨upd2_ne (.inr (by decide)), upd2_ne (.inr (by decide))⟩)
            have hS0 := hS
            have hR0 := hR1
            have hn := Nat.le_refl n
            have h94 := hS0.1
            have hX := @yX.rf n tg I16 R
            have hS := hS0.x hX
            have hR := hR0.x hn hX
            have hz := hX.sz h94
            have hxn := hX.1
            have hN := hR0.1
            have hnb := hR0.2.2.2.2.2.2
            have hthB := hth
            refine y_aload_n rfl rfl ?_
            refine y_getIv (v := Int32.ofInt (3)) rfl (ySh.t hS rfl) (ySh.n hS rfl) rfl rfl hth ?_
            refine y_if_leF rfl (by decide) ?_
            refine y_iconst rfl ?_
            refine y_goto rfl j_X14_refuse_28 ?_
            refine y_ireturn rfl rfl rfl ?_
            refine y_ret1 ?_
            refine y_if_eqF rfl (by decide) ?_
            refine y_iconst rfl ?_
            refine y_ireturn rfl rfl rfl ?_
            exact hQ _ _ _ _ _ _ _ hS ((hR0.grow hX).up (Nat.le_succ K) hk6) (hK.x hRo hno hX) ⟨by omega, by omega, by omega⟩ (by omega) (by omega)
          · rw [yz_12] at h_15
            refine y_aload_n rfl rfl ?_
            refine y_iload_n rfl rfl ?_
            refine y_virt rfl rfl rfl rfl rfl (ySh.t hS rfl) (ySh.n hS rfl) ?_
            refine r_leaseOf hS hR (Nat.le_trans hn hX.1)  (fun v_17 hv_17 => ?_)
            refine y_ret1 ?_
            refine y_iconst rfl ?_
            refine y_icmp_eq rfl j_X14_sell_89 (fun h_18 => ?_) (fun h_19 => ?_)
            · rw [yz_m1] at h_18
              refine y_iconst rfl ?_
              refine y_iconst rfl ?_
              refine y_virt rfl rfl rfl rfl rfl (ySh.t hS rfl) (ySh.n hS rfl) ?_
              refine y_in (M := xm_X14_refuse) (ls := [some _, some _, some _]) rfl rfl rfl ?_
              refine y_iload_n rfl rfl ?_
              refine y_if_eqT rfl j_X14_refuse_16 (by decide) ?_
              refine y_aload_n rfl rfl ?_
              refine y_getIv (v := Int32.ofInt (0)) rfl (ySh.t hS rfl) (ySh.n hS rfl) rfl rfl hth ?_
              refine y_if_leT rfl j_X14_refuse_27 (by decide) ?_
              refine y_iconst rfl ?_
              refine y_ireturn rfl rfl rfl ?_
              refine y_ret1 ?_
              refine y_if_eqT rfl j_X14_sell_99 (by decide) ?_
              refine y_aload_n rfl rfl ?_
              refine y_getR rfl (ySh.t hS rfl) (ySh.n hS rfl) rfl rfl (ySh.r hS rfl) ?_
              refine y_iload_n rfl rfl ?_
              refine y_virt rfl rfl rfl rfl rfl (ySh.t hS rfl) (ySh.n hS rfl) ?_
              refine l_get (nb := n) (ySh.t hS rfl) (ySh.n hS rfl) (Nat.le_trans hn hX.1) hR.l88 (by omega) (by omega) (fun b20 eb_b20 hlo_b20 hb0_b20 ht_b20 => ?_)
              have hb_b20 := Nat.lt_of_lt_of_le hb0_b20 hn
              replace ht_b20 := (hX.2.1 _ hb_b20).1.symm.trans ht_b20
              have hw_b20 := hR.thi hlo_b20 hb0_b20 ((hX.2.1 _ hb_b20).1.trans ht_b20)
              refine y_ret1 ?_
              refine y_cast rfl ((hX.2.1 _ hb_b20).1.trans ht_b20) (Nat.lt_of_lt_of_le hb_b20 hX.1) ?_
              refine y_astore (ls' := [some _, some _, some _, some _, some _, some _, _]) rfl rfl rfl ?_
              refine y_newX rfl rfl rfl (fun n21 tg21 I21 R21 hA => ?_)
              have hnA := hA.1
              have hnw := yNw.al hX hA
              have ht_f22 : tg21 n = (19, 0) := hA.2.1
              have ha_f22 : n < n21 := by omega
              have hX := hX.y.trans hA.y
              have hS := hS0.y hX
              have hR := hR0.y hn hX
              have hz := hX.sz h94
              have hxn := hX.1
              have hw_b20 := hR.thi hlo_b20 hb0_b20 ((hX.2.1 _ hb_b20).1.trans ht_b20)
              have hth := (congrFun (hA.2.2.2.2 83 (by omega)).2.1 0).trans hth
              refine y_dup rfl rfl ?_
              refine y_iload_n rfl rfl ?_
              refine y_iload_n rfl rfl ?_
              refine y_aload rfl rfl ?_
              refine y_getI rfl ((hX.2.1 _ hb_b20).1.trans ht_b20) (Nat.lt_of_lt_of_le hb_b20 hX.1) rfl rfl ?_
              refine y_aload rfl rfl ?_
              refine y_getI rfl ((hX.2.1 _ hb_b20).1.trans ht_b20) (Nat.lt_of_lt_of_le hb_b20 hX.1) rfl rfl ?_
              refine y_iload_n rfl rfl ?_
              refine y_imul rfl ?_
              refine y_bip rfl (by decide) ?_
              refine y_idiv rfl (by decide) ?_
              refine y_iadd rfl ?_
              refine y_iload_n rfl rfl ?_
              refine y_iload rfl rfl ?_
              refine y_aload_n rfl rfl ?_
              refine y_aload rfl rfl ?_
              refine y_iload_n rfl rfl ?_
              refine y_virt rfl rfl rfl rfl rfl (ySh.t hS rfl) (ySh.n hS rfl) ?_
              refine r_missing hS hR (Nat.le_trans hn hX.1) hlo_b20 hb0_b20 ((hX.2.1 _ hb_b20).1.trans ht_b20) (fun v_23_0 n23 tg23 I23 R23 c_23 s_23 hX1 hc_23 hs_23 => ?_)
              have hnA := hX1.1
              have ht_f22 := (hX1.2.1 _ ha_f22).1.trans ht_f22
              have ha_f22 : n < n23 := by omega
              have hnw := hnw.x hX1
              have hX := hX.trans hX1.y
              have hS := hS0.y hX
              have hR := hR0.y hn hX
              have hz := hX.sz h94
              have hxn := hX.1
              have hw_b20 := hR.thi hlo_b20 hb0_b20 ((hX.2.1 _ hb_b20).1.trans ht_b20)
              have hth := (congrFun (hX1.2.1 83 (by omega)).2.1 0).trans hth
              refine y_ret1 ?_
              refine y_aload_n rfl rfl ?_
              refine y_getI rfl (ySh.t hS rfl) (ySh.n hS rfl) rfl rfl ?_
              refine y_init rfl rfl rfl rfl rfl ?_
              refine y_in (M := xm_X11_init) (ls := [some _, some _, some _, some _, some _, some _, some _, some _]) rfl rfl rfl ?_
              refine y_aload_n rfl rfl ?_
              refine y_obj rfl ha_f22 rfl ?_
              refine y_aload_n rfl rfl ?_
              refine y_iload_n rfl rfl ?_
              refine y_putI rfl ht_f22 ha_f22 rfl (Nat.le_trans (by decide) (by omega : 94 ≤ _)) rfl rfl ?_
              refine y_nameI (fun I24 e24 => ?_)
              have hX := hX.upI (by omega) (upI e24)
              have hS := hS0.y hX
              have hR := hR0.y hn hX
              have hz := hX.sz h94
              have hxn := hX.1
              have hw_b20 := hR.thi hlo_b20 hb0_b20 ((hX.2.1 _ hb_b20).1.trans ht_b20)
              have hth := (congrFun (upI e24 83 (by omega)) 0).trans hth
              refine y_aload_n rfl rfl ?_
              refine y_iload_n rfl rfl ?_
              refine y_putI rfl ht_f22 ha_f22 rfl (Nat.le_trans (by decide) (by omega : 94 ≤ _)) rfl rfl ?_
              refine y_nameI (fun I25 e25 => ?_)
              have hX := hX.upI (by omega) (upI e25)
              have hS := hS0.y hX
              have hR := hR0.y hn hX
              have hz := hX.sz h94
              have hxn := hX.1
              have hw_b20 := hR.thi hlo_b20 hb0_b20 ((hX.2.1 _ hb_b20).1.trans ht_b20)
              have hth := (congrFun (upI e25 83 (by omega)) 0).trans hth
              refine y_aload_n rfl rfl ?_
              refine y_iload_n rfl rfl ?_
              refine y_putI rfl ht_f22 ha_f22 rfl (Nat.le_trans (by decide) (by omega : 94 ≤ _)) rfl rfl ?_
              refine y_nameI (fun I26 e26 => ?_)
              have hX := hX.upI (by omega) (upI e26)
              have hS := hS0.y hX
              have hR := hR0.y hn hX
              have hz := hX.sz h94
              have hxn := hX.1
              have hw_b20 := hR.thi hlo_b20 hb0_b20 ((hX.2.1 _ hb_b20).1.trans ht_b20)
              have hth := (congrFun (upI e26 83 (by omega)) 0).trans hth
              refine y_aload_n rfl rfl ?_
              refine y_iload rfl rfl ?_
              refine y_putI rfl ht_f22 ha_f22 rfl (Nat.le_trans (by decide) (by omega : 94 ≤ _)) rfl rfl ?_
              refine y_nameI (fun I27 e27 => ?_)
              have hX := hX.upI (by omega) (upI e27)
              have hS := hS0.y hX
              have hR := hR0.y hn hX
              have hz := hX.sz h94
              have hxn := hX.1
              have hw_b20 := hR.thi hlo_b20 hb0_b20 ((hX.2.1 _ hb_b20).1.trans ht_b20)
              have hth := (congrFun (upI e27 83 (by omega)) 0).trans hth
              refine y_aload_n rfl rfl ?_
              refine y_iload rfl rfl ?_
              refine y_putI rfl ht_f22 ha_f22 rfl (Nat.le_trans (by decide) (by omega : 94 ≤ _)) rfl rfl ?_
              refine y_nameI (fun I28 e28 => ?_)
              have hX := hX.upI (by omega) (upI e28)
              have hS := hS0.y hX
              have hR := hR0.y hn hX
              have hz := hX.sz h94
              have hxn := hX.1
              have hw_b20 := hR.thi hlo_b20 hb0_b20 ((hX.2.1 _ hb_b20).1.trans ht_b20)
              have hth := (congrFun (upI e28 83 (by omega)) 0).trans hth
              refine y_aload_n rfl rfl ?_
              refine y_iload rfl rfl ?_
              refine y_putI rfl ht_f22 ha_f22 rfl (Nat.le_trans (by decide) (by omega : 94 ≤ _)) rfl rfl ?_
              refine y_nameI (fun I29 e29 => ?_)
              have hX := hX.upI (by omega) (upI e29)
              have hS := hS0.y hX
              have hR := hR0.y hn hX
              have hz := hX.sz h94
              have hxn := hX.1
              have hw_b20 := hR.thi hlo_b20 hb0_b20 ((hX.2.1 _ hb_b20).1.trans ht_b20)
              have hth := (congrFun (upI e29 83 (by omega)) 0).trans hth
              refine y_aload_n rfl rfl ?_
              refine y_iload rfl rfl ?_
              refine y_putI rfl ht_f22 ha_f22 rfl (Nat.le_trans (by decide) (by omega : 94 ≤ _)) rfl rfl ?_
              refine y_nameI (fun I30 e30 => ?_)
              have hX := hX.upI (by omega) (upI e30)
              have hS := hS0.y hX
              have hR := hR0.y hn hX
              have hz := hX.sz h94
              have hxn := hX.1
              have hw_b20 := hR.thi hlo_b20 hb0_b20 ((hX.2.1 _ hb_b20).1.trans ht_b20)
              have hth := (congrFun (upI e30 83 (by omega)) 0).trans hth
              refine y_return rfl ?_
              refine y_ret0 ?_
              refine y_astore (ls' := [some _, some _, some _, some _, some _, some _, some _]) rfl rfl rfl ?_
              refine y_aload_n rfl rfl ?_
              refine y_getR rfl (ySh.t hS rfl) (ySh.n hS rfl) rfl rfl (ySh.r hS rfl) ?_
              refine y_aload rfl rfl ?_
              refine y_virt rfl rfl rfl rfl rfl (ySh.t hS rfl) (ySh.n hS rfl) ?_
              refine l_add hS (by decide) (by decide) (ySh.t hS rfl) (Nat.le_trans hn hX.1) hR.l89 (by omega) (by omega) ha_f22 (fun n31 tg31 I31 R31 c_31 s_31 hAd hc_31 hs_31 => ?_)
              have hsA := hAd.sz
              have hsz87 := congrArg Int32.toInt (congrFun (hAd.I 87 (by omega) (by decide)) 2)
              have hsz88 := congrArg Int32.toInt (congrFun (hAd.I 88 (by omega) (by decide)) 2)
              have hsz90 := congrArg Int32.toInt (congrFun (hAd.I 90 (by omega) (by decide)) 2)
              have hsz91 := congrArg Int32.toInt (congrFun (hAd.I 91 (by omega) (by decide)) 2)
              have hsz92 := congrArg Int32.toInt (congrFun (hAd.I 92 (by omega) (by decide)) 2)
              have hszp := congrArg Int32.toInt (congrFun (hAd.I 83 (by omega) (by decide)) 8)
              have hszd := congrArg Int32.toInt (congrFun (hAd.I 83 (by omega) (by decide)) 1)
              have hnA := hAd.n
              have hNu : yNum K I31 := yNum.add (K := K) hR.1 hAd (by omega) (by decide) (by decide) (Nat.le_refl K) (by omega) (fun h => by omega) (fun h => by omega) (fun h => by omega) (fun h => by omega) (fun h => by omega) (fun h => by omega)
              have htx : tg31 n = (19, 0) := (hAd.tg _ ha_f22).trans ht_f22
              have hIx := hAd.I _ ha_f22 (by omega)
              have hOb : yOb K n31 tg31 I31 R31 n := ⟨fun hq => absurd (show (19 : Nat) = 20 from congrArg Prod.fst (htx.symm.trans hq)) (by decide), fun _ => by rw [hIx]; simp only [e30, e29, e28, e27, e26, e25, e24, upd2]; first | omega | (simp; omega) | simp | (simp; decide) | decide, fun hq => absurd (show (19 : Nat) = 18 from congrArg Prod.fst (htx.symm.trans hq)) (by decide), fun hq => absurd (show (19 : Nat) = 21 from congrArg Prod.fst (htx.symm.trans hq)) (by decide)⟩
              have hR1 : yRI K n31 tg31 I31 R31 := yRI.add hR (Nat.le_trans hn hX.1) hAd (by decide) (by decide) rfl (by omega) ha_f22 ht_f22 hnw (Nat.le_refl K) hNu hOb (fun h => absurd h (by decide)) (fun h => absurd h (by decide))
              have hK := (hK.y hRo hno hX).add hRo hno hR.di hAd (by decide) (by decide) (hR.zl 89 (by decide) (by decide))
              have hS := hS.add hAd (by decide) (by decide) (hR.zl 89 (by decide) (by decide))
              have hth := (congrFun (hAd.I 83 (by omega) (by decide)) 0).trans hth
              have ht_b20 := (hAd.tg _ (Nat.lt_of_lt_of_le hb_b20 hX.1)).trans ((hX.2.1 _ hb_b20).1.trans ht_b20)
              have hb_b20 := Nat.lt_of_lt_of_le (Nat.lt_of_lt_of_le hb_b20 hX.1) hAd.n
              have hb0_b20 := hb_b20
              have ht_f22 := (hAd.tg _ ha_f22).trans ht_f22
              have ha_f22 := Nat.lt_of_lt_of_le ha_f22 hAd.n
              have hS0 := hS
              have hR0 := hR1
              have hn := Nat.le_refl n31
              have h94 := hS0.1
              have hX := @yX.rf n31 tg31 I31 R31
              have hS := hS0.x hX
              have hR := hR0.x hn hX
              have hz := hX.sz h94
              have hxn := hX.1
              have hw_b20 := hR.thi hlo_b20 hb0_b20 ((hX.2.1 _ hb_b20).1.trans ht_b20)
              have hN := hR0.1
              have hnb := hR0.2.2.2.2.2.2
              have hthB := hth
              refine y_ret1 ?_
              refine y_pop rfl rfl ?_
              refine y_aload rfl rfl ?_
              refine y_getI rfl ht_f22 ha_f22 rfl rfl ?_
              refine y_if_ne rfl j_X14_sell_177 (fun h_32 => ?_) (fun h_33 => ?_)
              · refine y_aload_n rfl rfl ?_
                refine y_getR rfl (ySh.t hS rfl) (ySh.n hS rfl) rfl rfl (ySh.r hS rfl) ?_
                refine y_virt rfl rfl rfl rfl rfl (ySh.t hS rfl) (ySh.n hS rfl) ?_
                refine y_in (M := xm_Jx4a65c_size_8abf5) (ls := [some _]) rfl rfl rfl ?_
                refine y_aload_n rfl rfl ?_
                refine y_getI rfl (ySh.t hS rfl) (ySh.n hS rfl) rfl rfl ?_
                refine y_ireturn rfl rfl rfl ?_
                refine y_ret1 ?_
                refine y_iconst rfl ?_
                refine y_isub rfl ?_
                refine y_ireturn rfl rfl rfl ?_
                exact hQ _ _ _ _ _ _ _ hS ((hR0.grow hX).up (Nat.le_succ K) hk6) (hK.x hRo hno hX) ⟨by omega, by omega, by omega⟩ (by omega) (by omega)
              · refine y_aload rfl rfl ?_
                refine y_iload_n rfl rfl ?_
                refine y_static rfl rfl rfl rfl rfl ?_
                refine y_in (M := xm_X14_give) (ls := [some _, some _]) rfl rfl rfl ?_
                refine y_aload_n rfl rfl ?_
                refine y_iload_n rfl rfl ?_
                refine y_putI rfl ((hX.2.1 _ hb_b20).1.trans ht_b20) (Nat.lt_of_lt_of_le hb_b20 hX.1) rfl (Nat.le_trans (by decide) (by omega : 94 ≤ _)) rfl rfl ?_
                refine y_nameI (fun I34 e34 => ?_)
                have hR1 := (hR0.grow hX).upT e34 hlo_b20 (by omega) ((hX.2.1 _ hb_b20).1.trans ht_b20) (fun _ => ⟨by omega, by omega⟩)
                have hK := (hK.x hRo hno hX).upE hRo hno (upI e34) (by omega) (by omega) (by rw [((hX.2.1 _ hb_b20).1.trans ht_b20)]; decide) (by rw [e34, upd2_ne (.inl (by omega))]; exact Int.le_refl _)
                have hth := (show I34 83 0 = I31 83 0 by rw [e34, upd2_ne (.inl (by omega))]).trans hth
                have hzz : ySz I31 I34 := ySz_ofE (upI e34) (by omega)
                have hS0 := hS
                have hR0 := hR1
                have ht_b20 := (hX.2.1 _ hb_b20).1.trans ht_b20
                have hb_b20 := Nat.lt_of_lt_of_le hb_b20 hX.1
                have hb0_b20 := hb_b20
                have hn := Nat.le_refl n31
                have h94 := hS0.1
                have hX := @yX.rf n31 tg31 I34 R31
                have hS := hS0.x hX
                have hR := hR0.x hn hX
                have hz := hX.sz h94
                have hxn := hX.1
                have hw_b20 := hR.thi hlo_b20 hb0_b20 ((hX.2.1 _ hb_b20).1.trans ht_b20)
                have hN := hR0.1
                have hnb := hR0.2.2.2.2.2.2
                have hthB := hth
                refine y_aload_n rfl rfl ?_
                refine y_iconst rfl ?_
                refine y_putI rfl ((hX.2.1 _ hb_b20).1.trans ht_b20) (Nat.lt_of_lt_of_le hb_b20 hX.1) rfl (Nat.le_trans (by decide) (by omega : 94 ≤ _)) rfl rfl ?_
                refine y_nameI (fun I35 e35 => ?_)
                have hR1 := (hR0.grow hX).upT e35 hlo_b20 (by omega) ((hX.2.1 _ hb_b20).1.trans ht_b20) (fun h => absurd h (by decide))
                have hK := (hK.x hRo hno hX).upE hRo hno (upI e35) (by omega) (by omega) (by rw [((hX.2.1 _ hb_b20).1.trans ht_b20)]; decide) (by rw [e35, upd2_ne (.inl (by omega))]; exact Int.le_refl _)
                have hth := (show I35 83 0 = I34 83 0 by rw [e35, upd2_ne (.inl (by omega))]).trans hth
                have hzz : ySz I34 I35 := ySz_ofE (upI e35) (by omega)
                have hS0 := hS
                have hR0 := hR1
                have ht_b20 := (hX.2.1 _ hb_b20).1.trans ht_b20
                have hb_b20 := Nat.lt_of_lt_of_le hb_b20 hX.1
                have hb0_b20 := hb_b20
                have hn := Nat.le_refl n31
                have h94 := hS0.1
                have hX := @yX.rf n31 tg31 I35 R31
                have hS := hS0.x hX
                have hR := hR0.x hn hX
                have hz := hX.sz h94
                have hxn := hX.1
                have hw_b20 := hR.thi hlo_b20 hb0_b20 ((hX.2.1 _ hb_b20).1.trans ht_b20)
                have hN := hR0.1
                have hnb := hR0.2.2.2.2.2.2
                have hthB := hth
                refine y_return rfl ?_
                refine y_ret0 ?_
                refine y_aload_n rfl rfl ?_
                refine y_getR rfl (ySh.t hS rfl) (ySh.n hS rfl) rfl rfl (ySh.r hS rfl) ?_
                refine y_virt rfl rfl rfl rfl rfl (ySh.t hS rfl) (ySh.n hS rfl) ?_
                refine y_in (M := xm_Jx4a65c_size_8abf5) (ls := [some _]) rfl rfl rfl ?_
                refine y_aload_n rfl rfl ?_
                refine y_getI rfl (ySh.t hS rfl) (ySh.n hS rfl) rfl rfl ?_
                refine y_ireturn rfl rfl rfl ?_
                refine y_ret1 ?_
                refine y_iconst rfl ?_
                refine y_isub rfl ?_
                refine y_ireturn rfl rfl rfl ?_
                exact hQ _ _ _ _ _ _ _ hS ((hR0.grow hX).up (Nat.le_succ K) hk6) (hK.x hRo hno hX) ⟨by omega, by omega, by omega⟩ (by omega) (by omega)
            · rw [yz_m1] at h_19
              refine y_iconst rfl ?_
              refine y_goto rfl j_X14_sell_90 ?_
              refine y_iconst rfl ?_
              refine y_virt rfl rfl rfl rfl rfl (ySh.t hS rfl) (ySh.n hS rfl) ?_
              refine y_in (M := xm_X14_refuse) (ls := [some _, some _, some _]) rfl rfl rfl ?_
              refine y_iload_n rfl rfl ?_
              refine y_if_eqF rfl (by decide) ?_
              refine y_aload_n rfl rfl ?_
              refine y_getIv (v := Int32.ofInt (0)) rfl (ySh.t hS rfl) (ySh.n hS rfl) rfl rfl hth ?_
              refine y_if_neF rfl (by decide) ?_
              refine y_aload_n rfl rfl ?_
              refine y_iload_n rfl rfl ?_
              refine y_putI rfl (ySh.t hS rfl) (ySh.n hS rfl) rfl (Nat.le_of_ble_eq_true rfl) rfl rfl ?_
              refine y_nameI (fun I36 e36 => ?_)
              have hR1 := (hR0.grow hX).mod0 e36 (by decide) (by decide)
              have hK := (hK.x hRo hno hX).upI (upI e36) (by decide) (by decide) (fun i hi => by have := (hRo.l87.2.2.2.2 i hi).2.1; omega) (by rw [e36, upd2_ne (.inr (by decide))]; exact Int.le_refl _)
              have hth : I36 83 0 = Int32.ofInt (3) := by rw [e36, upd2_self]
              have hzz : ySz8 I7 I36 := ySz8_of (upI e36) (by rw [e36]; exact ⟨upd2_ne (.inr (by decide)), upd2_ne (.inr (by decide))⟩)
              have hS0 := hS
              have hR0 := hR1
              have hn := Nat.le_refl n
              have h94 := hS0.1
              have hX := @yX.rf n tg I36 R
              have hS := hS0.x hX
              have hR := hR0.x hn hX
              have hz := hX.sz h94
              have hxn := hX.1
              have hN := hR0.1
              have hnb := hR0.2.2.2.2.2.2
              have hthB := hth
              refine y_aload_n rfl rfl ?_
              refine y_getIv (v := Int32.ofInt (3)) rfl (ySh.t hS rfl) (ySh.n hS rfl) rfl rfl hth ?_
              refine y_if_leF rfl (by decide) ?_
              refine y_iconst rfl ?_
              refine y_goto rfl j_X14_refuse_28 ?_
              refine y_ireturn rfl rfl rfl ?_
              refine y_ret1 ?_
              refine y_if_eqF rfl (by decide) ?_
              refine y_iconst rfl ?_
              refine y_ireturn rfl rfl rfl ?_
              exact hQ _ _ _ _ _ _ _ hS ((hR0.grow hX).up (Nat.le_succ K) hk6) (hK.x hRo hno hX) ⟨by omega, by omega, by omega⟩ (by omega) (by omega)
        · rw [yz_1] at h_13
          rw [yz_12] at h_13
          refine y_ret1 ?_
          refine y_if_neF rfl (by decide) ?_
          refine y_iconst rfl ?_
          refine y_goto rfl j_X14_sell_56 ?_
          refine y_iconst rfl ?_
          refine y_virt rfl rfl rfl rfl rfl (ySh.t hS rfl) (ySh.n hS rfl) ?_
          refine y_in (M := xm_X14_refuse) (ls := [some _, some _, some _]) rfl rfl rfl ?_
          refine y_iload_n rfl rfl ?_
          refine y_if_eqF rfl (by decide) ?_
          refine y_aload_n rfl rfl ?_
          refine y_getIv (v := Int32.ofInt (0)) rfl (ySh.t hS rfl) (ySh.n hS rfl) rfl rfl hth ?_
          refine y_if_neF rfl (by decide) ?_
          refine y_aload_n rfl rfl ?_
          refine y_iload_n rfl rfl ?_
          refine y_putI rfl (ySh.t hS rfl) (ySh.n hS rfl) rfl (Nat.le_of_ble_eq_true rfl) rfl rfl ?_
          refine y_nameI (fun I37 e37 => ?_)
          have hR1 := (hR0.grow hX).mod0 e37 (by decide) (by decide)
          have hK := (hK.x hRo hno hX).upI (upI e37) (by decide) (by decide) (fun i hi => by have := (hRo.l87.2.2.2.2 i hi).2.1; omega) (by rw [e37, upd2_ne (.inr (by decide))]; exact Int.le_refl _)
          have hth : I37 83 0 = Int32.ofInt (2) := by rw [e37, upd2_self]
          have hzz : ySz8 I7 I37 := ySz8_of (upI e37) (by rw [e37]; exact ⟨upd2_ne (.inr (by decide)), upd2_ne (.inr (by decide))⟩)
          have hS0 := hS
          have hR0 := hR1
          have hn := Nat.le_refl n
          have h94 := hS0.1
          have hX := @yX.rf n tg I37 R
          have hS := hS0.x hX
          have hR := hR0.x hn hX
          have hz := hX.sz h94
          have hxn := hX.1
          have hN := hR0.1
          have hnb := hR0.2.2.2.2.2.2
          have hthB := hth
          refine y_aload_n rfl rfl ?_
          refine y_getIv (v := Int32.ofInt (2)) rfl (ySh.t hS rfl) (ySh.n hS rfl) rfl rfl hth ?_
          refine y_if_leF rfl (by decide) ?_
          refine y_iconst rfl ?_
          refine y_goto rfl j_X14_refuse_28 ?_
          refine y_ireturn rfl rfl rfl ?_
          refine y_ret1 ?_
          refine y_if_neT rfl j_X14_sell_97 (by decide) ?_
          refine y_iconst rfl ?_
          refine y_ireturn rfl rfl rfl ?_
          exact hQ _ _ _ _ _ _ _ hS ((hR0.grow hX).up (Nat.le_succ K) hk6) (hK.x hRo hno hX) ⟨by omega, by omega, by omega⟩ (by omega) (by omega)
      · rw [yz_0] at h_10
        rw [yz_99] at h_10
        refine y_ret1 ?_
        refine y_if_eqT rfl j_X14_sell_51 (by decide) ?_
        refine y_iconst rfl ?_
        refine y_goto rfl j_X14_sell_56 ?_
        refine y_iconst rfl ?_
        refine y_virt rfl rfl rfl rfl rfl (ySh.t hS rfl) (ySh.n hS rfl) ?_
        refine y_in (M := xm_X14_refuse) (ls := [some _, some _, some _]) rfl rfl rfl ?_
        refine y_iload_n rfl rfl ?_
        refine y_if_eqF rfl (by decide) ?_
        refine y_aload_n rfl rfl ?_
        refine y_getIv (v := Int32.ofInt (0)) rfl (ySh.t hS rfl) (ySh.n hS rfl) rfl rfl hth ?_
        refine y_if_neF rfl (by decide) ?_
        refine y_aload_n rfl rfl ?_
        refine y_iload_n rfl rfl ?_
        refine y_putI rfl (ySh.t hS rfl) (ySh.n hS rfl) rfl (Nat.le_of_ble_eq_true rfl) rfl rfl ?_
        refine y_nameI (fun I38 e38 => ?_)
        have hR1 := (hR0.grow hX).mod0 e38 (by decide) (by decide)
        have hK := (hK.x hRo hno hX).upI (upI e38) (by decide) (by decide) (fun i hi => by have := (hRo.l87.2.2.2.2 i hi).2.1; omega) (by rw [e38, upd2_ne (.inr (by decide))]; exact Int.le_refl _)
        have hth : I38 83 0 = Int32.ofInt (2) := by rw [e38, upd2_self]
        have hzz : ySz8 I7 I38 := ySz8_of (upI e38) (by rw [e38]; exact ⟨upd2_ne (.inr (by decide)), upd2_ne (.inr (by decide))⟩)
        have hS0 := hS
        have hR0 := hR1
        have hn := Nat.le_refl n
        have h94 := hS0.1
        have hX := @yX.rf n tg I38 R
        have hS := hS0.x hX
        have hR := hR0.x hn hX
        have hz := hX.sz h94
        have hxn := hX.1
        have hN := hR0.1
        have hnb := hR0.2.2.2.2.2.2
        have hthB := hth
        refine y_aload_n rfl rfl ?_
        refine y_getIv (v := Int32.ofInt (2)) rfl (ySh.t hS rfl) (ySh.n hS rfl) rfl rfl hth ?_
        refine y_if_leF rfl (by decide) ?_
        refine y_iconst rfl ?_
        refine y_goto rfl j_X14_refuse_28 ?_
        refine y_ireturn rfl rfl rfl ?_
        refine y_ret1 ?_
        refine y_if_neT rfl j_X14_sell_97 (by decide) ?_
        refine y_iconst rfl ?_
        refine y_ireturn rfl rfl rfl ?_
        exact hQ _ _ _ _ _ _ _ hS ((hR0.grow hX).up (Nat.le_succ K) hk6) (hK.x hRo hno hX) ⟨by omega, by omega, by omega⟩ (by omega) (by omega)
    · rw [yz_0] at h_6
      try rw [ysub (by rw [yz_1]; omega) (by rw [yz_1]; omega), yz_1] at h_6
      refine y_ret1 ?_
      refine y_if_neF rfl (by decide) ?_
      refine y_iconst rfl ?_
      refine y_goto rfl j_X14_isNobody_19 ?_
      refine y_ireturn rfl rfl rfl ?_
      refine y_ret1 ?_
      refine y_if_eqF rfl (by decide) ?_
      refine y_iconst rfl ?_
      refine y_goto rfl j_X14_sell_22 ?_
      refine y_iconst rfl ?_
      refine y_virt rfl rfl rfl rfl rfl (ySh.t hS rfl) (ySh.n hS rfl) ?_
      refine y_in (M := xm_X14_start) (ls := [some _, some _, some _]) rfl rfl rfl ?_
      refine y_aload_n rfl rfl ?_
      refine y_iconst rfl ?_
      refine y_putI rfl (ySh.t hS rfl) (ySh.n hS rfl) rfl (Nat.le_of_ble_eq_true rfl) rfl rfl ?_
      refine y_nameI (fun I39 e39 => ?_)
      have hR1 := (hR0.grow hX).mod0 e39 (by decide) (by decide)
      have hK := (hK.x hRo hno hX).upI (upI e39) (by decide) (by decide) (fun i hi => by have := (hRo.l87.2.2.2.2 i hi).2.1; omega) (by rw [e39, upd2_ne (.inr (by decide))]; exact Int.le_refl _)
      have hth : I39 83 0 = Int32.ofInt (0) := by rw [e39, upd2_self]
      have hzz : ySz8 I I39 := ySz8_of (upI e39) (by rw [e39]; exact ⟨upd2_ne (.inr (by decide)), upd2_ne (.inr (by decide))⟩)
      have hS0 := hS
      have hR0 := hR1
      have hn := Nat.le_refl n
      have h94 := hS0.1
      have hX := @yX.rf n tg I39 R
      have hS := hS0.x hX
      have hR := hR0.x hn hX
      have hz := hX.sz h94
      have hxn := hX.1
      have hN := hR0.1
      have hnb := hR0.2.2.2.2.2.2
      have hthB := hth
      refine y_aload_n rfl rfl ?_
      refine y_iload_n rfl rfl ?_
      refine y_iload_n rfl rfl ?_
      refine y_virt rfl rfl rfl rfl rfl (ySh.t hS rfl) (ySh.n hS rfl) ?_
      refine y_in (M := xm_X14_refuse) (ls := [some _, some _, some _]) rfl rfl rfl ?_
      refine y_iload_n rfl rfl ?_
      refine y_if_eqF rfl (by decide) ?_
      refine y_aload_n rfl rfl ?_
      refine y_getIv (v := Int32.ofInt (0)) rfl (ySh.t hS rfl) (ySh.n hS rfl) rfl rfl hth ?_
      refine y_if_neF rfl (by decide) ?_
      refine y_aload_n rfl rfl ?_
      refine y_iload_n rfl rfl ?_
      refine y_putI rfl (ySh.t hS rfl) (ySh.n hS rfl) rfl (Nat.le_of_ble_eq_true rfl) rfl rfl ?_
      refine y_nameI (fun I40 e40 => ?_)
      have hR1 := (hR0.grow hX).mod0 e40 (by decide) (by decide)
      have hK := (hK.x hRo hno hX).upI (upI e40) (by decide) (by decide) (fun i hi => by have := (hRo.l87.2.2.2.2 i hi).2.1; omega) (by rw [e40, upd2_ne (.inr (by decide))]; exact Int.le_refl _)
      have hth : I40 83 0 = Int32.ofInt (1) := by rw [e40, upd2_self]
      have hzz : ySz8 I39 I40 := ySz8_of (upI e40) (by rw [e40]; exact ⟨upd2_ne (.inr (by decide)), upd2_ne (.inr (by decide))⟩)
      have hS0 := hS
      have hR0 := hR1
      have hn := Nat.le_refl n
      have h94 := hS0.1
      have hX := @yX.rf n tg I40 R
      have hS := hS0.x hX
      have hR := hR0.x hn hX
      have hz := hX.sz h94
      have hxn := hX.1
      have hN := hR0.1
      have hnb := hR0.2.2.2.2.2.2
      have hthB := hth
      refine y_aload_n rfl rfl ?_
      refine y_getIv (v := Int32.ofInt (1)) rfl (ySh.t hS rfl) (ySh.n hS rfl) rfl rfl hth ?_
      refine y_if_leF rfl (by decide) ?_
      refine y_iconst rfl ?_
      refine y_goto rfl j_X14_refuse_28 ?_
      refine y_ireturn rfl rfl rfl ?_
      refine y_ret1 ?_
      refine y_ireturn rfl rfl rfl ?_
      refine y_ret1 ?_
      refine y_if_neT rfl j_X14_sell_97 (by decide) ?_
      refine y_iconst rfl ?_
      refine y_ireturn rfl rfl rfl ?_
      exact hQ _ _ _ _ _ _ _ hS ((hR0.grow hX).up (Nat.le_succ K) hk6) (hK.x hRo hno hX) ⟨by omega, by omega, by omega⟩ (by omega) (by omega)
  · rw [yz_0] at h_3
    try rw [ysub (by rw [yz_1]; omega) (by rw [yz_1]; omega), yz_1] at h_3
    refine y_ret1 ?_
    refine y_if_neF rfl (by decide) ?_
    refine y_iconst rfl ?_
    refine y_goto rfl j_X14_isNoThing_22 ?_
    refine y_ireturn rfl rfl rfl ?_
    refine y_ret1 ?_
    refine y_if_neT rfl j_X14_sell_17 (by decide) ?_
    refine y_iconst rfl ?_
    refine y_goto rfl j_X14_sell_22 ?_
    refine y_iconst rfl ?_
    refine y_virt rfl rfl rfl rfl rfl (ySh.t hS rfl) (ySh.n hS rfl) ?_
    refine y_in (M := xm_X14_start) (ls := [some _, some _, some _]) rfl rfl rfl ?_
    refine y_aload_n rfl rfl ?_
    refine y_iconst rfl ?_
    refine y_putI rfl (ySh.t hS rfl) (ySh.n hS rfl) rfl (Nat.le_of_ble_eq_true rfl) rfl rfl ?_
    refine y_nameI (fun I41 e41 => ?_)
    have hR1 := (hR0.grow hX).mod0 e41 (by decide) (by decide)
    have hK := (hK.x hRo hno hX).upI (upI e41) (by decide) (by decide) (fun i hi => by have := (hRo.l87.2.2.2.2 i hi).2.1; omega) (by rw [e41, upd2_ne (.inr (by decide))]; exact Int.le_refl _)
    have hth : I41 83 0 = Int32.ofInt (0) := by rw [e41, upd2_self]
    have hzz : ySz8 I I41 := ySz8_of (upI e41) (by rw [e41]; exact ⟨upd2_ne (.inr (by decide)), upd2_ne (.inr (by decide))⟩)
    have hS0 := hS
    have hR0 := hR1
    have hn := Nat.le_refl n
    have h94 := hS0.1
    have hX := @yX.rf n tg I41 R
    have hS := hS0.x hX
    have hR := hR0.x hn hX
    have hz := hX.sz h94
    have hxn := hX.1
    have hN := hR0.1
    have hnb := hR0.2.2.2.2.2.2
    have hthB := hth
    refine y_aload_n rfl rfl ?_
    refine y_iload_n rfl rfl ?_
    refine y_iload_n rfl rfl ?_
    refine y_virt rfl rfl rfl rfl rfl (ySh.t hS rfl) (ySh.n hS rfl) ?_
    refine y_in (M := xm_X14_refuse) (ls := [some _, some _, some _]) rfl rfl rfl ?_
    refine y_iload_n rfl rfl ?_
    refine y_if_eqF rfl (by decide) ?_
    refine y_aload_n rfl rfl ?_
    refine y_getIv (v := Int32.ofInt (0)) rfl (ySh.t hS rfl) (ySh.n hS rfl) rfl rfl hth ?_
    refine y_if_neF rfl (by decide) ?_
    refine y_aload_n rfl rfl ?_
    refine y_iload_n rfl rfl ?_
    refine y_putI rfl (ySh.t hS rfl) (ySh.n hS rfl) rfl (Nat.le_of_ble_eq_true rfl) rfl rfl ?_
    refine y_nameI (fun I42 e42 => ?_)
    have hR1 := (hR0.grow hX).mod0 e42 (by decide) (by decide)
    have hK := (hK.x hRo hno hX).upI (upI e42) (by decide) (by decide) (fun i hi => by have := (hRo.l87.2.2.2.2 i hi).2.1; omega) (by rw [e42, upd2_ne (.inr (by decide))]; exact Int.le_refl _)
    have hth : I42 83 0 = Int32.ofInt (1) := by rw [e42, upd2_self]
    have hzz : ySz8 I41 I42 := ySz8_of (upI e42) (by rw [e42]; exact ⟨upd2_ne (.inr (by decide)), upd2_ne (.inr (by decide))⟩)
    have hS0 := hS
    have hR0 := hR1
    have hn := Nat.le_refl n
    have h94 := hS0.1
    have hX := @yX.rf n tg I42 R
    have hS := hS0.x hX
    have hR := hR0.x hn hX
    have hz := hX.sz h94
    have hxn := hX.1
    have hN := hR0.1
    have hnb := hR0.2.2.2.2.2.2
    have hthB := hth
    refine y_aload_n rfl rfl ?_
    refine y_getIv (v := Int32.ofInt (1)) rfl (ySh.t hS rfl) (ySh.n hS rfl) rfl rfl hth ?_
    refine y_if_leF rfl (by decide) ?_
    refine y_iconst rfl ?_
    refine y_goto rfl j_X14_refuse_28 ?_
    refine y_ireturn rfl rfl rfl ?_
    refine y_ret1 ?_
    refine y_ireturn rfl rfl rfl ?_
    refine y_ret1 ?_
    refine y_if_neT rfl j_X14_sell_97 (by decide) ?_
    refine y_iconst rfl ?_
    refine y_ireturn rfl rfl rfl ?_
    exact hQ _ _ _ _ _ _ _ hS ((hR0.grow hX).up (Nat.le_succ K) hk6) (hK.x hRo hno hX) ⟨by omega, by omega, by omega⟩ (by omega) (by omega)
theorem f_lease (hS0 : ySh n tg R) (hR0 : yRI K n tg I R) (hk6 : K < 600) {x1 x2 x3 x4 : Int32} (hQ : ∀ (v : Int32) n1 tg1 I1 R1 c1 s1, ySh n1 tg1 R1 → yRI (K + 1) n1 tg1 I1 R1 → yKp n tg I R n1 tg1 I1 R1 → (I1 88 2).toInt = (I 88 2).toInt ∧ (I1 91 2).toInt = (I 91 2).toInt ∧ (I1 92 2).toInt = (I 92 2).toInt → c1 ≤ c + 4 → s1 ≤ s + 1330 → Q (.inl (some (.int v))) (n1, tg1, I1, R1) c1 s1) : yC 206 [.ref 83, .int x1, .int x2, .int x3, .int x4] (n, tg, I, R) c s Q := by
  have hno := Nat.le_refl n
  have hn := hno
  have hRo := hR0
  have hK : yKp n tg I R n tg I R := yKp.rf
  have hX : yX n tg I R n tg I R := yX.rf
  have hS := hS0
  have hR := hR0
  have h94 : 94 ≤ n := hS0.1
  have hz : ySz I I := hX.sz h94
  have hxn := hX.1
  have hN := hR0.1
  have hnb : 94 ≤ n := hR0.2.2.2.2.2.2
  refine y_in (M := xm_X14_lease) (ls := [some _, some _, some _, some _, some _, _]) rfl rfl rfl ?_
  refine y_aload_n rfl rfl ?_
  refine y_aload_n rfl rfl ?_
  refine y_iload_n rfl rfl ?_
  refine y_virt rfl rfl rfl rfl rfl (ySh.t hS rfl) (ySh.n hS rfl) ?_
  refine y_in (M := xm_X14_isNoThing) (ls := [some _, some _]) rfl rfl rfl ?_
  refine y_iload_n rfl rfl ?_
  refine y_iconst rfl ?_
  refine y_aload_n rfl rfl ?_
  refine y_getR rfl (ySh.t hS rfl) (ySh.n hS rfl) rfl rfl (ySh.r hS rfl) ?_
  refine y_virt rfl rfl rfl rfl rfl (ySh.t hS rfl) (ySh.n hS rfl) ?_
  refine y_in (M := xm_Jx4a65c_size_8abf5) (ls := [some _]) rfl rfl rfl ?_
  refine y_aload_n rfl rfl ?_
  refine y_getI rfl (ySh.t hS rfl) (ySh.n hS rfl) rfl rfl ?_
  refine y_ireturn rfl rfl rfl ?_
  refine y_ret1 ?_
  refine y_iconst rfl ?_
  refine y_isub rfl ?_
  refine y_static rfl rfl rfl rfl rfl ?_
  refine r_isIn (fun h_1 h_2 => ?_) (fun h_3 => ?_)
  · rw [yz_0] at h_1
    try rw [ysub (by rw [yz_1]; omega) (by rw [yz_1]; omega), yz_1] at h_2
    refine y_ret1 ?_
    refine y_if_neT rfl j_X14_isNoThing_21 (by decide) ?_
    refine y_iconst rfl ?_
    refine y_ireturn rfl rfl rfl ?_
    refine y_ret1 ?_
    refine y_if_neF rfl (by decide) ?_
    refine y_aload_n rfl rfl ?_
    refine y_iload_n rfl rfl ?_
    refine y_virt rfl rfl rfl rfl rfl (ySh.t hS rfl) (ySh.n hS rfl) ?_
    refine y_in (M := xm_X14_isNobody) (ls := [some _, some _]) rfl rfl rfl ?_
    refine y_iload_n rfl rfl ?_
    refine y_iconst rfl ?_
    refine y_aload_n rfl rfl ?_
    refine y_getI rfl (ySh.t hS rfl) (ySh.n hS rfl) rfl rfl ?_
    refine y_iconst rfl ?_
    refine y_isub rfl ?_
    refine y_static rfl rfl rfl rfl rfl ?_
    refine r_isIn (fun h_4 h_5 => ?_) (fun h_6 => ?_)
    · rw [yz_0] at h_4
      try rw [ysub (by rw [yz_1]; omega) (by rw [yz_1]; omega), yz_1] at h_5
      refine y_ret1 ?_
      refine y_if_neT rfl j_X14_isNobody_18 (by decide) ?_
      refine y_iconst rfl ?_
      refine y_ireturn rfl rfl rfl ?_
      refine y_ret1 ?_
      refine y_if_eqT rfl j_X14_lease_21 (by decide) ?_
      refine y_iconst rfl ?_
      refine y_iconst rfl ?_
      refine y_virt rfl rfl rfl rfl rfl (ySh.t hS rfl) (ySh.n hS rfl) ?_
      refine y_in (M := xm_X14_start) (ls := [some _, some _, some _]) rfl rfl rfl ?_
      refine y_aload_n rfl rfl ?_
      refine y_iconst rfl ?_
      refine y_putI rfl (ySh.t hS rfl) (ySh.n hS rfl) rfl (Nat.le_of_ble_eq_true rfl) rfl rfl ?_
      refine y_nameI (fun I7 e7 => ?_)
      have hR1 := (hR0.grow hX).mod0 e7 (by decide) (by decide)
      have hK := (hK.x hRo hno hX).upI (upI e7) (by decide) (by decide) (fun i hi => by have := (hRo.l87.2.2.2.2 i hi).2.1; omega) (by rw [e7, upd2_ne (.inr (by decide))]; exact Int.le_refl _)
      have hth : I7 83 0 = Int32.ofInt (0) := by rw [e7, upd2_self]
      have hzz : ySz8 I I7 := ySz8_of (upI e7) (by rw [e7]; exact ⟨upd2_ne (.inr (by decide)), upd2_ne (.inr (by decide))⟩)
      have hS0 := hS
      have hR0 := hR1
      have hn := Nat.le_refl n
      have h94 := hS0.1
      have hX := @yX.rf n tg I7 R
      have hS := hS0.x hX
      have hR := hR0.x hn hX
      have hz := hX.sz h94
      have hxn := hX.1
      have hN := hR0.1
      have hnb := hR0.2.2.2.2.2.2
      have hthB := hth
      refine y_aload_n rfl rfl ?_
      refine y_iload_n rfl rfl ?_
      refine y_iload_n rfl rfl ?_
      refine y_virt rfl rfl rfl rfl rfl (ySh.t hS rfl) (ySh.n hS rfl) ?_
      refine y_in (M := xm_X14_refuse) (ls := [some _, some _, some _]) rfl rfl rfl ?_
      refine y_iload_n rfl rfl ?_
      refine y_if_eqT rfl j_X14_refuse_16 (by decide) ?_
      refine y_aload_n rfl rfl ?_
      refine y_getIv (v := Int32.ofInt (0)) rfl (ySh.t hS rfl) (ySh.n hS rfl) rfl rfl hth ?_
      refine y_if_leT rfl j_X14_refuse_27 (by decide) ?_
      refine y_iconst rfl ?_
      refine y_ireturn rfl rfl rfl ?_
      refine y_ret1 ?_
      refine y_ireturn rfl rfl rfl ?_
      refine y_ret1 ?_
      refine y_if_neF rfl (by decide) ?_
      refine y_aload_n rfl rfl ?_
      refine y_iload_n rfl rfl ?_
      refine y_iconst rfl ?_
      refine y_bip rfl (by decide) ?_
      refine y_static rfl rfl rfl rfl rfl ?_
      refine r_isIn (fun h_8 h_9 => ?_) (fun h_10 => ?_)
      · rw [yz_0] at h_8
        rw [yz_99] at h_9
        refine y_ret1 ?_
        refine y_if_eqF rfl (by decide) ?_
        refine y_iload rfl rfl ?_
        refine y_iload_n rfl rfl ?_
        refine y_bip rfl (by decide) ?_
        refine y_static rfl rfl rfl rfl rfl ?_
        refine r_isIn (fun h_11 h_12 => ?_) (fun h_13 => ?_)
        · rw [yz_99] at h_12
          refine y_ret1 ?_
          refine y_if_neT rfl j_X14_lease_55 (by decide) ?_
          refine y_iconst rfl ?_
          refine y_iconst rfl ?_
          refine y_virt rfl rfl rfl rfl rfl (ySh.t hS rfl) (ySh.n hS rfl) ?_
          refine y_in (M := xm_X14_refuse) (ls := [some _, some _, some _]) rfl rfl rfl ?_
          refine y_iload_n rfl rfl ?_
          refine y_if_eqT rfl j_X14_refuse_16 (by decide) ?_
          refine y_aload_n rfl rfl ?_
          refine y_getIv (v := Int32.ofInt (0)) rfl (ySh.t hS rfl) (ySh.n hS rfl) rfl rfl hth ?_
          refine y_if_leT rfl j_X14_refuse_27 (by decide) ?_
          refine y_iconst rfl ?_
          refine y_ireturn rfl rfl rfl ?_
          refine y_ret1 ?_
          refine y_if_eqT rfl j_X14_lease_65 (by decide) ?_
          refine y_aload_n rfl rfl ?_
          refine y_getR rfl (ySh.t hS rfl) (ySh.n hS rfl) rfl rfl (ySh.r hS rfl) ?_
          refine y_iload_n rfl rfl ?_
          refine y_virt rfl rfl rfl rfl rfl (ySh.t hS rfl) (ySh.n hS rfl) ?_
          refine l_get (nb := n) (ySh.t hS rfl) (ySh.n hS rfl) (Nat.le_trans hn hX.1) hR.l88 (by omega) (by omega) (fun b14 eb_b14 hlo_b14 hb0_b14 ht_b14 => ?_)
          have hb_b14 := Nat.lt_of_lt_of_le hb0_b14 hn
          replace ht_b14 := (hX.2.1 _ hb_b14).1.symm.trans ht_b14
          have hw_b14 := hR.thi hlo_b14 hb0_b14 ((hX.2.1 _ hb_b14).1.trans ht_b14)
          refine y_ret1 ?_
          refine y_cast rfl ((hX.2.1 _ hb_b14).1.trans ht_b14) (Nat.lt_of_lt_of_le hb_b14 hX.1) ?_
          refine y_astore (ls' := [some _, some _, some _, some _, some _, some _]) rfl rfl rfl ?_
          refine y_aload_n rfl rfl ?_
          refine y_aload_n rfl rfl ?_
          refine y_getR rfl (ySh.t hS rfl) (ySh.n hS rfl) rfl rfl (ySh.r hS rfl) ?_
          refine y_virt rfl rfl rfl rfl rfl (ySh.t hS rfl) (ySh.n hS rfl) ?_
          refine y_in (M := xm_Jx4a65c_size_8abf5) (ls := [some _]) rfl rfl rfl ?_
          refine y_aload_n rfl rfl ?_
          refine y_getI rfl (ySh.t hS rfl) (ySh.n hS rfl) rfl rfl ?_
          refine y_ireturn rfl rfl rfl ?_
          refine y_ret1 ?_
          refine y_bip rfl (by decide) ?_
          refine y_icmp_eq rfl j_X14_lease_147 (fun h_15 => ?_) (fun h_16 => ?_)
          · rw [yz_8] at h_15
            refine y_iconst rfl ?_
            refine y_goto rfl j_X14_lease_152 ?_
            refine y_iconst rfl ?_
            refine y_virt rfl rfl rfl rfl rfl (ySh.t hS rfl) (ySh.n hS rfl) ?_
            refine y_in (M := xm_X14_refuse) (ls := [some _, some _, some _]) rfl rfl rfl ?_
            refine y_iload_n rfl rfl ?_
            refine y_if_eqF rfl (by decide) ?_
            refine y_aload_n rfl rfl ?_
            refine y_getIv (v := Int32.ofInt (0)) rfl (ySh.t hS rfl) (ySh.n hS rfl) rfl rfl hth ?_
            refine y_if_neF rfl (by decide) ?_
            refine y_aload_n rfl rfl ?_
            refine y_iload_n rfl rfl ?_
            refine y_putI rfl (ySh.t hS rfl) (ySh.n hS rfl) rfl (Nat.le_of_ble_eq_true rfl) rfl rfl ?_
            refine y_nameI (fun I17 e17 => ?_)
            have hR1 := (hR0.grow hX).mod0 e17 (by decide) (by decide)
            have hK := (hK.x hRo hno hX).upI (upI e17) (by decide) (by decide) (fun i hi => by have := (hRo.l87.2.2.2.2 i hi).2.1; omega) (by rw [e17, upd2_ne (.inr (by decide))]; exact Int.le_refl _)
            have hth : I17 83 0 = Int32.ofInt (3) := by rw [e17, upd2_self]
            have hzz : ySz8 I7 I17 := ySz8_of (upI e17) (by rw [e17]; exact ⟨upd2_ne (.inr (by decide)), upd2_ne (.inr (by decide))⟩)
            have hS0 := hS
            have hR0 := hR1
            have ht_b14 := (hX.2.1 _ hb_b14).1.trans ht_b14
            have hb_b14 := Nat.lt_of_lt_of_le hb_b14 hX.1
            have hb0_b14 := hb_b14
            have hn := Nat.le_refl n
            have h94 := hS0.1
            have hX := @yX.rf n tg I17 R
            have hS := hS0.x hX
            have hR := hR0.x hn hX
            have hz := hX.sz h94
            have hxn := hX.1
            have hw_b14 := hR.thi hlo_b14 hb0_b14 ((hX.2.1 _ hb_b14).1.trans ht_b14)
            have hN := hR0.1
            have hnb := hR0.2.2.2.2.2.2
            have hthB := hth
            refine y_aload_n rfl rfl ?_
            refine y_getIv (v := Int32.ofInt (3)) rfl (ySh.t hS rfl) (ySh.n hS rfl) rfl rfl hth ?_
            refine y_if_leF rfl (by decide) ?_
            refine y_iconst rfl ?_
            refine y_goto rfl j_X14_refuse_28 ?_
            refine y_ireturn rfl rfl rfl ?_
            refine y_ret1 ?_
            refine y_if_eqF rfl (by decide) ?_
            refine y_iconst rfl ?_
            refine y_ireturn rfl rfl rfl ?_
            exact hQ _ _ _ _ _ _ _ hS ((hR0.grow hX).up (Nat.le_succ K) hk6) (hK.x hRo hno hX) ⟨by omega, by omega, by omega⟩ (by omega) (by omega)
          · rw [yz_8] at h_16
            refine y_aload rfl rfl ?_
            refine y_getI rfl ((hX.2.1 _ hb_b14).1.trans ht_b14) (Nat.lt_of_lt_of_le hb_b14 hX.1) rfl rfl ?_
            refine y_bip rfl (by decide) ?_
            refine y_icmp_ne rfl j_X14_lease_147 (fun h_18 => ?_) (fun h_19 => ?_)
            · rw [yz_8] at h_18
              refine y_iconst rfl ?_
              refine y_goto rfl j_X14_lease_152 ?_
              refine y_iconst rfl ?_
              refine y_virt rfl rfl rfl rfl rfl (ySh.t hS rfl) (ySh.n hS rfl) ?_
              refine y_in (M := xm_X14_refuse) (ls := [some _, some _, some _]) rfl rfl rfl ?_
              refine y_iload_n rfl rfl ?_
              refine y_if_eqF rfl (by decide) ?_
              refine y_aload_n rfl rfl ?_
              refine y_getIv (v := Int32.ofInt (0)) rfl (ySh.t hS rfl) (ySh.n hS rfl) rfl rfl hth ?_
              refine y_if_neF rfl (by decide) ?_
              refine y_aload_n rfl rfl ?_
              refine y_iload_n rfl rfl ?_
              refine y_putI rfl (ySh.t hS rfl) (ySh.n hS rfl) rfl (Nat.le_of_ble_eq_true rfl) rfl rfl ?_
              refine y_nameI (fun I20 e20 => ?_)
              have hR1 := (hR0.grow hX).mod0 e20 (by decide) (by decide)
              have hK := (hK.x hRo hno hX).upI (upI e20) (by decide) (by decide) (fun i hi => by have := (hRo.l87.2.2.2.2 i hi).2.1; omega) (by rw [e20, upd2_ne (.inr (by decide))]; exact Int.le_refl _)
              have hth : I20 83 0 = Int32.ofInt (3) := by rw [e20, upd2_self]
              have hzz : ySz8 I7 I20 := ySz8_of (upI e20) (by rw [e20]; exact ⟨upd2_ne (.inr (by decide)), upd2_ne (.inr (by decide))⟩)
              have hS0 := hS
              have hR0 := hR1
              have ht_b14 := (hX.2.1 _ hb_b14).1.trans ht_b14
              have hb_b14 := Nat.lt_of_lt_of_le hb_b14 hX.1
              have hb0_b14 := hb_b14
              have hn := Nat.le_refl n
              have h94 := hS0.1
              have hX := @yX.rf n tg I20 R
              have hS := hS0.x hX
              have hR := hR0.x hn hX
              have hz := hX.sz h94
              have hxn := hX.1
              have hw_b14 := hR.thi hlo_b14 hb0_b14 ((hX.2.1 _ hb_b14).1.trans ht_b14)
              have hN := hR0.1
              have hnb := hR0.2.2.2.2.2.2
              have hthB := hth
              refine y_aload_n rfl rfl ?_
              refine y_getIv (v := Int32.ofInt (3)) rfl (ySh.t hS rfl) (ySh.n hS rfl) rfl rfl hth ?_
              refine y_if_leF rfl (by decide) ?_
              refine y_iconst rfl ?_
              refine y_goto rfl j_X14_refuse_28 ?_
              refine y_ireturn rfl rfl rfl ?_
              refine y_ret1 ?_
              refine y_if_eqF rfl (by decide) ?_
              refine y_iconst rfl ?_
              refine y_ireturn rfl rfl rfl ?_
              exact hQ _ _ _ _ _ _ _ hS ((hR0.grow hX).up (Nat.le_succ K) hk6) (hK.x hRo hno hX) ⟨by omega, by omega, by omega⟩ (by omega) (by omega)
            · rw [yz_8] at h_19
              refine y_aload rfl rfl ?_
              refine y_getI rfl ((hX.2.1 _ hb_b14).1.trans ht_b14) (Nat.lt_of_lt_of_le hb_b14 hX.1) rfl rfl ?_
              refine y_if_eq rfl j_X14_lease_147 (fun h_21 => ?_) (fun h_22 => ?_)
              · refine y_iconst rfl ?_
                refine y_goto rfl j_X14_lease_152 ?_
                refine y_iconst rfl ?_
                refine y_virt rfl rfl rfl rfl rfl (ySh.t hS rfl) (ySh.n hS rfl) ?_
                refine y_in (M := xm_X14_refuse) (ls := [some _, some _, some _]) rfl rfl rfl ?_
                refine y_iload_n rfl rfl ?_
                refine y_if_eqF rfl (by decide) ?_
                refine y_aload_n rfl rfl ?_
                refine y_getIv (v := Int32.ofInt (0)) rfl (ySh.t hS rfl) (ySh.n hS rfl) rfl rfl hth ?_
                refine y_if_neF rfl (by decide) ?_
                refine y_aload_n rfl rfl ?_
                refine y_iload_n rfl rfl ?_
                refine y_putI rfl (ySh.t hS rfl) (ySh.n hS rfl) rfl (Nat.le_of_ble_eq_true rfl) rfl rfl ?_
                refine y_nameI (fun I23 e23 => ?_)
                have hR1 := (hR0.grow hX).mod0 e23 (by decide) (by decide)
                have hK := (hK.x hRo hno hX).upI (upI e23) (by decide) (by decide) (fun i hi => by have := (hRo.l87.2.2.2.2 i hi).2.1; omega) (by rw [e23, upd2_ne (.inr (by decide))]; exact Int.le_refl _)
                have hth : I23 83 0 = Int32.ofInt (3) := by rw [e23, upd2_self]
                have hzz : ySz8 I7 I23 := ySz8_of (upI e23) (by rw [e23]; exact ⟨upd2_ne (.inr (by decide)), upd2_ne (.inr (by decide))⟩)
                have hS0 := hS
                have hR0 := hR1
                have ht_b14 := (hX.2.1 _ hb_b14).1.trans ht_b14
                have hb_b14 := Nat.lt_of_lt_of_le hb_b14 hX.1
                have hb0_b14 := hb_b14
                have hn := Nat.le_refl n
                have h94 := hS0.1
                have hX := @yX.rf n tg I23 R
                have hS := hS0.x hX
                have hR := hR0.x hn hX
                have hz := hX.sz h94
                have hxn := hX.1
                have hw_b14 := hR.thi hlo_b14 hb0_b14 ((hX.2.1 _ hb_b14).1.trans ht_b14)
                have hN := hR0.1
                have hnb := hR0.2.2.2.2.2.2
                have hthB := hth
                refine y_aload_n rfl rfl ?_
                refine y_getIv (v := Int32.ofInt (3)) rfl (ySh.t hS rfl) (ySh.n hS rfl) rfl rfl hth ?_
                refine y_if_leF rfl (by decide) ?_
                refine y_iconst rfl ?_
                refine y_goto rfl j_X14_refuse_28 ?_
                refine y_ireturn rfl rfl rfl ?_
                refine y_ret1 ?_
                refine y_if_eqF rfl (by decide) ?_
                refine y_iconst rfl ?_
                refine y_ireturn rfl rfl rfl ?_
                exact hQ _ _ _ _ _ _ _ hS ((hR0.grow hX).up (Nat.le_succ K) hk6) (hK.x hRo hno hX) ⟨by omega, by omega, by omega⟩ (by omega) (by omega)
              · refine y_aload rfl rfl ?_
                refine y_getI rfl ((hX.2.1 _ hb_b14).1.trans ht_b14) (Nat.lt_of_lt_of_le hb_b14 hX.1) rfl rfl ?_
                refine y_iload_n rfl rfl ?_
                refine y_icmp_ne rfl j_X14_lease_130 (fun h_24 => ?_) (fun h_25 => ?_)
                · refine y_aload rfl rfl ?_
                  refine y_getI rfl ((hX.2.1 _ hb_b14).1.trans ht_b14) (Nat.lt_of_lt_of_le hb_b14 hX.1) rfl rfl ?_
                  refine y_if_ne rfl j_X14_lease_147 (fun h_26 => ?_) (fun h_27 => ?_)
                  · refine y_iconst rfl ?_
                    refine y_goto rfl j_X14_lease_152 ?_
                    refine y_iconst rfl ?_
                    refine y_virt rfl rfl rfl rfl rfl (ySh.t hS rfl) (ySh.n hS rfl) ?_
                    refine y_in (M := xm_X14_refuse) (ls := [some _, some _, some _]) rfl rfl rfl ?_
                    refine y_iload_n rfl rfl ?_
                    refine y_if_eqF rfl (by decide) ?_
                    refine y_aload_n rfl rfl ?_
                    refine y_getIv (v := Int32.ofInt (0)) rfl (ySh.t hS rfl) (ySh.n hS rfl) rfl rfl hth ?_
                    refine y_if_neF rfl (by decide) ?_
                    refine y_aload_n rfl rfl ?_
                    refine y_iload_n rfl rfl ?_
                    refine y_putI rfl (ySh.t hS rfl) (ySh.n hS rfl) rfl (Nat.le_of_ble_eq_true rfl) rfl rfl ?_
                    refine y_nameI (fun I28 e28 => ?_)
                    have hR1 := (hR0.grow hX).mod0 e28 (by decide) (by decide)
                    have hK := (hK.x hRo hno hX).upI (upI e28) (by decide) (by decide) (fun i hi => by have := (hRo.l87.2.2.2.2 i hi).2.1; omega) (by rw [e28, upd2_ne (.inr (by decide))]; exact Int.le_refl _)
                    have hth : I28 83 0 = Int32.ofInt (3) := by rw [e28, upd2_self]
                    have hzz : ySz8 I7 I28 := ySz8_of (upI e28) (by rw [e28]; exact ⟨upd2_ne (.inr (by decide)), upd2_ne (.inr (by decide))⟩)
                    have hS0 := hS
                    have hR0 := hR1
                    have ht_b14 := (hX.2.1 _ hb_b14).1.trans ht_b14
                    have hb_b14 := Nat.lt_of_lt_of_le hb_b14 hX.1
                    have hb0_b14 := hb_b14
                    have hn := Nat.le_refl n
                    have h94 := hS0.1
                    have hX := @yX.rf n tg I28 R
                    have hS := hS0.x hX
                    have hR := hR0.x hn hX
                    have hz := hX.sz h94
                    have hxn := hX.1
                    have hw_b14 := hR.thi hlo_b14 hb0_b14 ((hX.2.1 _ hb_b14).1.trans ht_b14)
                    have hN := hR0.1
                    have hnb := hR0.2.2.2.2.2.2
                    have hthB := hth
                    refine y_aload_n rfl rfl ?_
                    refine y_getIv (v := Int32.ofInt (3)) rfl (ySh.t hS rfl) (ySh.n hS rfl) rfl rfl hth ?_
                    refine y_if_leF rfl (by decide) ?_
                    refine y_iconst rfl ?_
                    refine y_goto rfl j_X14_refuse_28 ?_
                    refine y_ireturn rfl rfl rfl ?_
                    refine y_ret1 ?_
                    refine y_if_eqF rfl (by decide) ?_
                    refine y_iconst rfl ?_
                    refine y_ireturn rfl rfl rfl ?_
                    exact hQ _ _ _ _ _ _ _ hS ((hR0.grow hX).up (Nat.le_succ K) hk6) (hK.x hRo hno hX) ⟨by omega, by omega, by omega⟩ (by omega) (by omega)
                  · refine y_aload_n rfl rfl ?_
                    refine y_iload_n rfl rfl ?_
                    refine y_virt rfl rfl rfl rfl rfl (ySh.t hS rfl) (ySh.n hS rfl) ?_
                    refine r_leaseOf hS hR (Nat.le_trans hn hX.1)  (fun v_29 hv_29 => ?_)
                    refine y_ret1 ?_
                    refine y_iconst rfl ?_
                    refine y_icmp_eq rfl j_X14_lease_151 (fun h_30 => ?_) (fun h_31 => ?_)
                    · rw [yz_m1] at h_30
                      refine y_iconst rfl ?_
                      refine y_iconst rfl ?_
                      refine y_virt rfl rfl rfl rfl rfl (ySh.t hS rfl) (ySh.n hS rfl) ?_
                      refine y_in (M := xm_X14_refuse) (ls := [some _, some _, some _]) rfl rfl rfl ?_
                      refine y_iload_n rfl rfl ?_
                      refine y_if_eqT rfl j_X14_refuse_16 (by decide) ?_
                      refine y_aload_n rfl rfl ?_
                      refine y_getIv (v := Int32.ofInt (0)) rfl (ySh.t hS rfl) (ySh.n hS rfl) rfl rfl hth ?_
                      refine y_if_leT rfl j_X14_refuse_27 (by decide) ?_
                      refine y_iconst rfl ?_
                      refine y_ireturn rfl rfl rfl ?_
                      refine y_ret1 ?_
                      refine y_if_eqT rfl j_X14_lease_161 (by decide) ?_
                      refine y_aload_n rfl rfl ?_
                      refine y_getR rfl (ySh.t hS rfl) (ySh.n hS rfl) rfl rfl (ySh.r hS rfl) ?_
                      refine y_newX rfl rfl rfl (fun n32 tg32 I32 R32 hA => ?_)
                      have hnA := hA.1
                      have hnw := yNw.al hX hA
                      have ht_f33 : tg32 n = (18, 0) := hA.2.1
                      have ha_f33 : n < n32 := by omega
                      have hX := hX.y.trans hA.y
                      have hS := hS0.y hX
                      have hR := hR0.y hn hX
                      have hz := hX.sz h94
                      have hxn := hX.1
                      have hw_b14 := hR.thi hlo_b14 hb0_b14 ((hX.2.1 _ hb_b14).1.trans ht_b14)
                      have hth := (congrFun (hA.2.2.2.2 83 (by omega)).2.1 0).trans hth
                      refine y_dup rfl rfl ?_
                      refine y_iload_n rfl rfl ?_
                      refine y_iload_n rfl rfl ?_
                      refine y_iload_n rfl rfl ?_
                      refine y_iload rfl rfl ?_
                      refine y_aload_n rfl rfl ?_
                      refine y_getI rfl (ySh.t hS rfl) (ySh.n hS rfl) rfl rfl ?_
                      refine y_init rfl rfl rfl rfl rfl ?_
                      refine y_in (M := xm_X10_init) (ls := [some _, some _, some _, some _, some _, some _]) rfl rfl rfl ?_
                      refine y_aload_n rfl rfl ?_
                      refine y_obj rfl ha_f33 rfl ?_
                      refine y_aload_n rfl rfl ?_
                      refine y_iload_n rfl rfl ?_
                      refine y_putI rfl ht_f33 ha_f33 rfl (Nat.le_trans (by decide) (by omega : 94 ≤ _)) rfl rfl ?_
                      refine y_nameI (fun I34 e34 => ?_)
                      have hX := hX.upI (by omega) (upI e34)
                      have hS := hS0.y hX
                      have hR := hR0.y hn hX
                      have hz := hX.sz h94
                      have hxn := hX.1
                      have hw_b14 := hR.thi hlo_b14 hb0_b14 ((hX.2.1 _ hb_b14).1.trans ht_b14)
                      have hth := (congrFun (upI e34 83 (by omega)) 0).trans hth
                      refine y_aload_n rfl rfl ?_
                      refine y_iload_n rfl rfl ?_
                      refine y_putI rfl ht_f33 ha_f33 rfl (Nat.le_trans (by decide) (by omega : 94 ≤ _)) rfl rfl ?_
                      refine y_nameI (fun I35 e35 => ?_)
                      have hX := hX.upI (by omega) (upI e35)
                      have hS := hS0.y hX
                      have hR := hR0.y hn hX
                      have hz := hX.sz h94
                      have hxn := hX.1
                      have hw_b14 := hR.thi hlo_b14 hb0_b14 ((hX.2.1 _ hb_b14).1.trans ht_b14)
                      have hth := (congrFun (upI e35 83 (by omega)) 0).trans hth
                      refine y_aload_n rfl rfl ?_
                      refine y_iload_n rfl rfl ?_
                      refine y_putI rfl ht_f33 ha_f33 rfl (Nat.le_trans (by decide) (by omega : 94 ≤ _)) rfl rfl ?_
                      refine y_nameI (fun I36 e36 => ?_)
                      have hX := hX.upI (by omega) (upI e36)
                      have hS := hS0.y hX
                      have hR := hR0.y hn hX
                      have hz := hX.sz h94
                      have hxn := hX.1
                      have hw_b14 := hR.thi hlo_b14 hb0_b14 ((hX.2.1 _ hb_b14).1.trans ht_b14)
                      have hth := (congrFun (upI e36 83 (by omega)) 0).trans hth
                      refine y_aload_n rfl rfl ?_
                      refine y_iload rfl rfl ?_
                      refine y_putI rfl ht_f33 ha_f33 rfl (Nat.le_trans (by decide) (by omega : 94 ≤ _)) rfl rfl ?_
                      refine y_nameI (fun I37 e37 => ?_)
                      have hX := hX.upI (by omega) (upI e37)
                      have hS := hS0.y hX
                      have hR := hR0.y hn hX
                      have hz := hX.sz h94
                      have hxn := hX.1
                      have hw_b14 := hR.thi hlo_b14 hb0_b14 ((hX.2.1 _ hb_b14).1.trans ht_b14)
                      have hth := (congrFun (upI e37 83 (by omega)) 0).trans hth
                      refine y_aload_n rfl rfl ?_
                      refine y_iload rfl rfl ?_
                      refine y_putI rfl ht_f33 ha_f33 rfl (Nat.le_trans (by decide) (by omega : 94 ≤ _)) rfl rfl ?_
                      refine y_nameI (fun I38 e38 => ?_)
                      have hX := hX.upI (by omega) (upI e38)
                      have hS := hS0.y hX
                      have hR := hR0.y hn hX
                      have hz := hX.sz h94
                      have hxn := hX.1
                      have hw_b14 := hR.thi hlo_b14 hb0_b14 ((hX.2.1 _ hb_b14).1.trans ht_b14)
                      have hth := (congrFun (upI e38 83 (by omega)) 0).trans hth
                      refine y_return rfl ?_
                      refine y_ret0 ?_
                      refine y_virt rfl rfl rfl rfl rfl (ySh.t hS rfl) (ySh.n hS rfl) ?_
                      refine l_add hS (by decide) (by decide) (ySh.t hS rfl) (Nat.le_trans hn hX.1) hR.l90 (by omega) (by omega) ha_f33 (fun n39 tg39 I39 R39 c_39 s_39 hAd hc_39 hs_39 => ?_)
                      have hsA := hAd.sz
                      have hsz87 := congrArg Int32.toInt (congrFun (hAd.I 87 (by omega) (by decide)) 2)
                      have hsz88 := congrArg Int32.toInt (congrFun (hAd.I 88 (by omega) (by decide)) 2)
                      have hsz89 := congrArg Int32.toInt (congrFun (hAd.I 89 (by omega) (by decide)) 2)
                      have hsz91 := congrArg Int32.toInt (congrFun (hAd.I 91 (by omega) (by decide)) 2)
                      have hsz92 := congrArg Int32.toInt (congrFun (hAd.I 92 (by omega) (by decide)) 2)
                      have hszp := congrArg Int32.toInt (congrFun (hAd.I 83 (by omega) (by decide)) 8)
                      have hszd := congrArg Int32.toInt (congrFun (hAd.I 83 (by omega) (by decide)) 1)
                      have hnA := hAd.n
                      have hNu : yNum K I39 := yNum.add (K := K) hR.1 hAd (by omega) (by decide) (by decide) (Nat.le_refl K) (by omega) (fun h => by omega) (fun h => by omega) (fun h => by omega) (fun h => by omega) (fun h => by omega) (fun h => by omega)
                      have htx : tg39 n = (18, 0) := (hAd.tg _ ha_f33).trans ht_f33
                      have hIx := hAd.I _ ha_f33 (by omega)
                      have hOb : yOb K n39 tg39 I39 R39 n := ⟨fun hq => absurd (show (18 : Nat) = 20 from congrArg Prod.fst (htx.symm.trans hq)) (by decide), fun hq => absurd (show (18 : Nat) = 19 from congrArg Prod.fst (htx.symm.trans hq)) (by decide), fun _ => by have h88 := congrArg Int32.toInt (congrFun (hAd.I 88 (by omega) (by decide)) 2); rw [hIx]; simp only [e38, e37, e36, e35, e34, upd2]; first | omega | (simp; omega) | simp | (simp; decide) | decide, fun hq => absurd (show (18 : Nat) = 21 from congrArg Prod.fst (htx.symm.trans hq)) (by decide)⟩
                      have hR1 : yRI K n39 tg39 I39 R39 := yRI.add hR (Nat.le_trans hn hX.1) hAd (by decide) (by decide) rfl (by omega) ha_f33 ht_f33 hnw (Nat.le_refl K) hNu hOb (fun h => absurd h (by decide)) (fun h => absurd h (by decide))
                      have hK := (hK.y hRo hno hX).add hRo hno hR.di hAd (by decide) (by decide) (hR.zl 90 (by decide) (by decide))
                      have hS := hS.add hAd (by decide) (by decide) (hR.zl 90 (by decide) (by decide))
                      have hth := (congrFun (hAd.I 83 (by omega) (by decide)) 0).trans hth
                      have ht_b14 := (hAd.tg _ (Nat.lt_of_lt_of_le hb_b14 hX.1)).trans ((hX.2.1 _ hb_b14).1.trans ht_b14)
                      have hb_b14 := Nat.lt_of_lt_of_le (Nat.lt_of_lt_of_le hb_b14 hX.1) hAd.n
                      have hb0_b14 := hb_b14
                      have ht_f33 := (hAd.tg _ ha_f33).trans ht_f33
                      have ha_f33 := Nat.lt_of_lt_of_le ha_f33 hAd.n
                      have hS0 := hS
                      have hR0 := hR1
                      have hn := Nat.le_refl n39
                      have h94 := hS0.1
                      have hX := @yX.rf n39 tg39 I39 R39
                      have hS := hS0.x hX
                      have hR := hR0.x hn hX
                      have hz := hX.sz h94
                      have hxn := hX.1
                      have hw_b14 := hR.thi hlo_b14 hb0_b14 ((hX.2.1 _ hb_b14).1.trans ht_b14)
                      have hN := hR0.1
                      have hnb := hR0.2.2.2.2.2.2
                      have hthB := hth
                      refine y_ret1 ?_
                      refine y_pop rfl rfl ?_
                      refine y_aload_n rfl rfl ?_
                      refine y_getR rfl (ySh.t hS rfl) (ySh.n hS rfl) rfl rfl (ySh.r hS rfl) ?_
                      refine y_virt rfl rfl rfl rfl rfl (ySh.t hS rfl) (ySh.n hS rfl) ?_
                      refine y_in (M := xm_Jx4a65c_size_8abf5) (ls := [some _]) rfl rfl rfl ?_
                      refine y_aload_n rfl rfl ?_
                      refine y_getI rfl (ySh.t hS rfl) (ySh.n hS rfl) rfl rfl ?_
                      refine y_ireturn rfl rfl rfl ?_
                      refine y_ret1 ?_
                      refine y_iconst rfl ?_
                      refine y_isub rfl ?_
                      refine y_ireturn rfl rfl rfl ?_
                      exact hQ _ _ _ _ _ _ _ hS ((hR0.grow hX).up (Nat.le_succ K) hk6) (hK.x hRo hno hX) ⟨by omega, by omega, by omega⟩ (by omega) (by omega)
                    · rw [yz_m1] at h_31
                      refine y_iconst rfl ?_
                      refine y_goto rfl j_X14_lease_152 ?_
                      refine y_iconst rfl ?_
                      refine y_virt rfl rfl rfl rfl rfl (ySh.t hS rfl) (ySh.n hS rfl) ?_
                      refine y_in (M := xm_X14_refuse) (ls := [some _, some _, some _]) rfl rfl rfl ?_
                      refine y_iload_n rfl rfl ?_
                      refine y_if_eqF rfl (by decide) ?_
                      refine y_aload_n rfl rfl ?_
                      refine y_getIv (v := Int32.ofInt (0)) rfl (ySh.t hS rfl) (ySh.n hS rfl) rfl rfl hth ?_
                      refine y_if_neF rfl (by decide) ?_
                      refine y_aload_n rfl rfl ?_
                      refine y_iload_n rfl rfl ?_
                      refine y_putI rfl (ySh.t hS rfl) (ySh.n hS rfl) rfl (Nat.le_of_ble_eq_true rfl) rfl rfl ?_
                      refine y_nameI (fun I40 e40 => ?_)
                      have hR1 := (hR0.grow hX).mod0 e40 (by decide) (by decide)
                      have hK := (hK.x hRo hno hX).upI (upI e40) (by decide) (by decide) (fun i hi => by have := (hRo.l87.2.2.2.2 i hi).2.1; omega) (by rw [e40, upd2_ne (.inr (by decide))]; exact Int.le_refl _)
                      have hth : I40 83 0 = Int32.ofInt (3) := by rw [e40, upd2_self]
                      have hzz : ySz8 I7 I40 := ySz8_of (upI e40) (by rw [e40]; exact ⟨upd2_ne (.inr (by decide)), upd2_ne (.inr (by decide))⟩)
                      have hS0 := hS
                      have hR0 := hR1
                      have ht_b14 := (hX.2.1 _ hb_b14).1.trans ht_b14
                      have hb_b14 := Nat.lt_of_lt_of_le hb_b14 hX.1
                      have hb0_b14 := hb_b14
                      have hn := Nat.le_refl n
                      have h94 := hS0.1
                      have hX := @yX.rf n tg I40 R
                      have hS := hS0.x hX
                      have hR := hR0.x hn hX
                      have hz := hX.sz h94
                      have hxn := hX.1
                      have hw_b14 := hR.thi hlo_b14 hb0_b14 ((hX.2.1 _ hb_b14).1.trans ht_b14)
                      have hN := hR0.1
                      have hnb := hR0.2.2.2.2.2.2
                      have hthB := hth
                      refine y_aload_n rfl rfl ?_
                      refine y_getIv (v := Int32.ofInt (3)) rfl (ySh.t hS rfl) (ySh.n hS rfl) rfl rfl hth ?_
                      refine y_if_leF rfl (by decide) ?_
                      refine y_iconst rfl ?_
                      refine y_goto rfl j_X14_refuse_28 ?_
                      refine y_ireturn rfl rfl rfl ?_
                      refine y_ret1 ?_
                      refine y_if_eqF rfl (by decide) ?_
                      refine y_iconst rfl ?_
                      refine y_ireturn rfl rfl rfl ?_
                      exact hQ _ _ _ _ _ _ _ hS ((hR0.grow hX).up (Nat.le_succ K) hk6) (hK.x hRo hno hX) ⟨by omega, by omega, by omega⟩ (by omega) (by omega)
                · refine y_aload_n rfl rfl ?_
                  refine y_iconst rfl ?_
                  refine y_aload_n rfl rfl ?_
                  refine y_getI rfl (ySh.t hS rfl) (ySh.n hS rfl) rfl rfl ?_
                  refine y_virt rfl rfl rfl rfl rfl (ySh.t hS rfl) (ySh.n hS rfl) ?_
                  refine r_isAllowed hS hR (Nat.le_trans hn hX.1)  (fun n41 tg41 I41 R41 c_41 s_41 hX1 hc_41 hs_41 => ?_) (fun n41 tg41 I41 R41 c_41 s_41 hX1 hc_41 hs_41 => ?_)
                  · have hnA := hX1.1
                    have hX := hX.trans hX1
                    have hS := hS0.x hX
                    have hR := hR0.x hn hX
                    have hz := hX.sz h94
                    have hxn := hX.1
                    have hw_b14 := hR.thi hlo_b14 hb0_b14 ((hX.2.1 _ hb_b14).1.trans ht_b14)
                    have hth := (congrFun (hX1.2.1 83 (by omega)).2.1 0).trans hth
                    refine y_ret1 ?_
                    refine y_if_eqF rfl (by decide) ?_
                    refine y_aload rfl rfl ?_
                    refine y_getI rfl ((hX.2.1 _ hb_b14).1.trans ht_b14) (Nat.lt_of_lt_of_le hb_b14 hX.1) rfl rfl ?_
                    refine y_if_ne rfl j_X14_lease_147 (fun h_42 => ?_) (fun h_43 => ?_)
                    · refine y_iconst rfl ?_
                      refine y_goto rfl j_X14_lease_152 ?_
                      refine y_iconst rfl ?_
                      refine y_virt rfl rfl rfl rfl rfl (ySh.t hS rfl) (ySh.n hS rfl) ?_
                      refine y_in (M := xm_X14_refuse) (ls := [some _, some _, some _]) rfl rfl rfl ?_
                      refine y_iload_n rfl rfl ?_
                      refine y_if_eqF rfl (by decide) ?_
                      refine y_aload_n rfl rfl ?_
                      refine y_getIv (v := Int32.ofInt (0)) rfl (ySh.t hS rfl) (ySh.n hS rfl) rfl rfl hth ?_
                      refine y_if_neF rfl (by decide) ?_
                      refine y_aload_n rfl rfl ?_
                      refine y_iload_n rfl rfl ?_
                      refine y_putI rfl (ySh.t hS rfl) (ySh.n hS rfl) rfl (Nat.le_of_ble_eq_true rfl) rfl rfl ?_
                      refine y_nameI (fun I44 e44 => ?_)
                      have hR1 := (hR0.grow hX).mod0 e44 (by decide) (by decide)
                      have hK := (hK.x hRo hno hX).upI (upI e44) (by decide) (by decide) (fun i hi => by have := (hRo.l87.2.2.2.2 i hi).2.1; omega) (by rw [e44, upd2_ne (.inr (by decide))]; exact Int.le_refl _)
                      have hth : I44 83 0 = Int32.ofInt (3) := by rw [e44, upd2_self]
                      have hzz : ySz8 I41 I44 := ySz8_of (upI e44) (by rw [e44]; exact ⟨upd2_ne (.inr (by decide)), upd2_ne (.inr (by decide))⟩)
                      have hS0 := hS
                      have hR0 := hR1
                      have ht_b14 := (hX.2.1 _ hb_b14).1.trans ht_b14
                      have hb_b14 := Nat.lt_of_lt_of_le hb_b14 hX.1
                      have hb0_b14 := hb_b14
                      have hn := Nat.le_refl n41
                      have h94 := hS0.1
                      have hX := @yX.rf n41 tg41 I44 R41
                      have hS := hS0.x hX
                      have hR := hR0.x hn hX
                      have hz := hX.sz h94
                      have hxn := hX.1
                      have hw_b14 := hR.thi hlo_b14 hb0_b14 ((hX.2.1 _ hb_b14).1.trans ht_b14)
                      have hN := hR0.1
                      have hnb := hR0.2.2.2.2.2.2
                      have hthB := hth
                      refine y_aload_n rfl rfl ?_
                      refine y_getIv (v := Int32.ofInt (3)) rfl (ySh.t hS rfl) (ySh.n hS rfl) rfl rfl hth ?_
                      refine y_if_leF rfl (by decide) ?_
                      refine y_iconst rfl ?_
                      refine y_goto rfl j_X14_refuse_28 ?_
                      refine y_ireturn rfl rfl rfl ?_
                      refine y_ret1 ?_
                      refine y_if_eqF rfl (by decide) ?_
                      refine y_iconst rfl ?_
                      refine y_ireturn rfl rfl rfl ?_
                      exact hQ _ _ _ _ _ _ _ hS ((hR0.grow hX).up (Nat.le_succ K) hk6) (hK.x hRo hno hX) ⟨by omega, by omega, by omega⟩ (by omega) (by omega)
                    · refine y_aload_n rfl rfl ?_
                      refine y_iload_n rfl rfl ?_
                      refine y_virt rfl rfl rfl rfl rfl (ySh.t hS rfl) (ySh.n hS rfl) ?_
                      refine r_leaseOf hS hR (Nat.le_trans hn hX.1)  (fun v_45 hv_45 => ?_)
                      refine y_ret1 ?_
                      refine y_iconst rfl ?_
                      refine y_icmp_eq rfl j_X14_lease_151 (fun h_46 => ?_) (fun h_47 => ?_)
                      · rw [yz_m1] at h_46
                        refine y_iconst rfl ?_
                        refine y_iconst rfl ?_
                        refine y_virt rfl rfl rfl rfl rfl (ySh.t hS rfl) (ySh.n hS rfl) ?_
                        refine y_in (M := xm_X14_refuse) (ls := [some _, some _, some _]) rfl rfl rfl ?_
                        refine y_iload_n rfl rfl ?_
                        refine y_if_eqT rfl j_X14_refuse_16 (by decide) ?_
                        refine y_aload_n rfl rfl ?_
                        refine y_getIv (v := Int32.ofInt (0)) rfl (ySh.t hS rfl) (ySh.n hS rfl) rfl rfl hth ?_
                        refine y_if_leT rfl j_X14_refuse_27 (by decide) ?_
                        refine y_iconst rfl ?_
                        refine y_ireturn rfl rfl rfl ?_
                        refine y_ret1 ?_
                        refine y_if_eqT rfl j_X14_lease_161 (by decide) ?_
                        refine y_aload_n rfl rfl ?_
                        refine y_getR rfl (ySh.t hS rfl) (ySh.n hS rfl) rfl rfl (ySh.r hS rfl) ?_
                        refine y_newX rfl rfl rfl (fun n48 tg48 I48 R48 hA => ?_)
                        have hnA := hA.1
                        have hnw := yNw.al hX hA
                        have ht_f49 : tg48 n41 = (18, 0) := hA.2.1
                        have ha_f49 : n41 < n48 := by omega
                        have hX := hX.y.trans hA.y
                        have hS := hS0.y hX
                        have hR := hR0.y hn hX
                        have hz := hX.sz h94
                        have hxn := hX.1
                        have hw_b14 := hR.thi hlo_b14 hb0_b14 ((hX.2.1 _ hb_b14).1.trans ht_b14)
                        have hth := (congrFun (hA.2.2.2.2 83 (by omega)).2.1 0).trans hth
                        refine y_dup rfl rfl ?_
                        refine y_iload_n rfl rfl ?_
                        refine y_iload_n rfl rfl ?_
                        refine y_iload_n rfl rfl ?_
                        refine y_iload rfl rfl ?_
                        refine y_aload_n rfl rfl ?_
                        refine y_getI rfl (ySh.t hS rfl) (ySh.n hS rfl) rfl rfl ?_
                        refine y_init rfl rfl rfl rfl rfl ?_
                        refine y_in (M := xm_X10_init) (ls := [some _, some _, some _, some _, some _, some _]) rfl rfl rfl ?_
                        refine y_aload_n rfl rfl ?_
                        refine y_obj rfl ha_f49 rfl ?_
                        refine y_aload_n rfl rfl ?_
                        refine y_iload_n rfl rfl ?_
                        refine y_putI rfl ht_f49 ha_f49 rfl (Nat.le_trans (by decide) (by omega : 94 ≤ _)) rfl rfl ?_
                        refine y_nameI (fun I50 e50 => ?_)
                        have hX := hX.upI (by omega) (upI e50)
                        have hS := hS0.y hX
                        have hR := hR0.y hn hX
                        have hz := hX.sz h94
                        have hxn := hX.1
                        have hw_b14 := hR.thi hlo_b14 hb0_b14 ((hX.2.1 _ hb_b14).1.trans ht_b14)
                        have hth := (congrFun (upI e50 83 (by omega)) 0).trans hth
                        refine y_aload_n rfl rfl ?_
                        refine y_iload_n rfl rfl ?_
                        refine y_putI rfl ht_f49 ha_f49 rfl (Nat.le_trans (by decide) (by omega : 94 ≤ _)) rfl rfl ?_
                        refine y_nameI (fun I51 e51 => ?_)
                        have hX := hX.upI (by omega) (upI e51)
                        have hS := hS0.y hX
                        have hR := hR0.y hn hX
                        have hz := hX.sz h94
                        have hxn := hX.1
                        have hw_b14 := hR.thi hlo_b14 hb0_b14 ((hX.2.1 _ hb_b14).1.trans ht_b14)
                        have hth := (congrFun (upI e51 83 (by omega)) 0).trans hth
                        refine y_aload_n rfl rfl ?_
                        refine y_iload_n rfl rfl ?_
                        refine y_putI rfl ht_f49 ha_f49 rfl (Nat.le_trans (by decide) (by omega : 94 ≤ _)) rfl rfl ?_
                        refine y_nameI (fun I52 e52 => ?_)
                        have hX := hX.upI (by omega) (upI e52)
                        have hS := hS0.y hX
                        have hR := hR0.y hn hX
                        have hz := hX.sz h94
                        have hxn := hX.1
                        have hw_b14 := hR.thi hlo_b14 hb0_b14 ((hX.2.1 _ hb_b14).1.trans ht_b14)
                        have hth := (congrFun (upI e52 83 (by omega)) 0).trans hth
                        refine y_aload_n rfl rfl ?_
                        refine y_iload rfl rfl ?_
                        refine y_putI rfl ht_f49 ha_f49 rfl (Nat.le_trans (by decide) (by omega : 94 ≤ _)) rfl rfl ?_
                        refine y_nameI (fun I53 e53 => ?_)
                        have hX := hX.upI (by omega) (upI e53)
                        have hS := hS0.y hX
                        have hR := hR0.y hn hX
                        have hz := hX.sz h94
                        have hxn := hX.1
                        have hw_b14 := hR.thi hlo_b14 hb0_b14 ((hX.2.1 _ hb_b14).1.trans ht_b14)
                        have hth := (congrFun (upI e53 83 (by omega)) 0).trans hth
                        refine y_aload_n rfl rfl ?_
                        refine y_iload rfl rfl ?_
                        refine y_putI rfl ht_f49 ha_f49 rfl (Nat.le_trans (by decide) (by omega : 94 ≤ _)) rfl rfl ?_
                        refine y_nameI (fun I54 e54 => ?_)
                        have hX := hX.upI (by omega) (upI e54)
                        have hS := hS0.y hX
                        have hR := hR0.y hn hX
                        have hz := hX.sz h94
                        have hxn := hX.1
                        have hw_b14 := hR.thi hlo_b14 hb0_b14 ((hX.2.1 _ hb_b14).1.trans ht_b14)
                        have hth := (congrFun (upI e54 83 (by omega)) 0).trans hth
                        refine y_return rfl ?_
                        refine y_ret0 ?_
                        refine y_virt rfl rfl rfl rfl rfl (ySh.t hS rfl) (ySh.n hS rfl) ?_
                        refine l_add hS (by decide) (by decide) (ySh.t hS rfl) (Nat.le_trans hn hX.1) hR.l90 (by omega) (by omega) ha_f49 (fun n55 tg55 I55 R55 c_55 s_55 hAd hc_55 hs_55 => ?_)
                        have hsA := hAd.sz
                        have hsz87 := congrArg Int32.toInt (congrFun (hAd.I 87 (by omega) (by decide)) 2)
                        have hsz88 := congrArg Int32.toInt (congrFun (hAd.I 88 (by omega) (by decide)) 2)
                        have hsz89 := congrArg Int32.toInt (congrFun (hAd.I 89 (by omega) (by decide)) 2)
                        have hsz91 := congrArg Int32.toInt (congrFun (hAd.I 91 (by omega) (by decide)) 2)
                        have hsz92 := congrArg Int32.toInt (congrFun (hAd.I 92 (by omega) (by decide)) 2)
                        have hszp := congrArg Int32.toInt (congrFun (hAd.I 83 (by omega) (by decide)) 8)
                        have hszd := congrArg Int32.toInt (congrFun (hAd.I 83 (by omega) (by decide)) 1)
                        have hnA := hAd.n
                        have hNu : yNum K I55 := yNum.add (K := K) hR.1 hAd (by omega) (by decide) (by decide) (Nat.le_refl K) (by omega) (fun h => by omega) (fun h => by omega) (fun h => by omega) (fun h => by omega) (fun h => by omega) (fun h => by omega)
                        have htx : tg55 n41 = (18, 0) := (hAd.tg _ ha_f49).trans ht_f49
                        have hIx := hAd.I _ ha_f49 (by omega)
                        have hOb : yOb K n55 tg55 I55 R55 n41 := ⟨fun hq => absurd (show (18 : Nat) = 20 from congrArg Prod.fst (htx.symm.trans hq)) (by decide), fun hq => absurd (show (18 : Nat) = 19 from congrArg Prod.fst (htx.symm.trans hq)) (by decide), fun _ => by have h88 := congrArg Int32.toInt (congrFun (hAd.I 88 (by omega) (by decide)) 2); rw [hIx]; simp only [e54, e53, e52, e51, e50, upd2]; first | omega | (simp; omega) | simp | (simp; decide) | decide, fun hq => absurd (show (18 : Nat) = 21 from congrArg Prod.fst (htx.symm.trans hq)) (by decide)⟩
                        have hR1 : yRI K n55 tg55 I55 R55 := yRI.add hR (Nat.le_trans hn hX.1) hAd (by decide) (by decide) rfl (by omega) ha_f49 ht_f49 hnw (Nat.le_refl K) hNu hOb (fun h => absurd h (by decide)) (fun h => absurd h (by decide))
                        have hK := (hK.y hRo hno hX).add hRo hno hR.di hAd (by decide) (by decide) (hR.zl 90 (by decide) (by decide))
                        have hS := hS.add hAd (by decide) (by decide) (hR.zl 90 (by decide) (by decide))
                        have hth := (congrFun (hAd.I 83 (by omega) (by decide)) 0).trans hth
                        have ht_b14 := (hAd.tg _ (Nat.lt_of_lt_of_le hb_b14 hX.1)).trans ((hX.2.1 _ hb_b14).1.trans ht_b14)
                        have hb_b14 := Nat.lt_of_lt_of_le (Nat.lt_of_lt_of_le hb_b14 hX.1) hAd.n
                        have hb0_b14 := hb_b14
                        have ht_f49 := (hAd.tg _ ha_f49).trans ht_f49
                        have ha_f49 := Nat.lt_of_lt_of_le ha_f49 hAd.n
                        have hS0 := hS
                        have hR0 := hR1
                        have hn := Nat.le_refl n55
                        have h94 := hS0.1
                        have hX := @yX.rf n55 tg55 I55 R55
                        have hS := hS0.x hX
                        have hR := hR0.x hn hX
                        have hz := hX.sz h94
                        have hxn := hX.1
                        have hw_b14 := hR.thi hlo_b14 hb0_b14 ((hX.2.1 _ hb_b14).1.trans ht_b14)
                        have hN := hR0.1
                        have hnb := hR0.2.2.2.2.2.2
                        have hthB := hth
                        refine y_ret1 ?_
                        refine y_pop rfl rfl ?_
                        refine y_aload_n rfl rfl ?_
                        refine y_getR rfl (ySh.t hS rfl) (ySh.n hS rfl) rfl rfl (ySh.r hS rfl) ?_
                        refine y_virt rfl rfl rfl rfl rfl (ySh.t hS rfl) (ySh.n hS rfl) ?_
                        refine y_in (M := xm_Jx4a65c_size_8abf5) (ls := [some _]) rfl rfl rfl ?_
                        refine y_aload_n rfl rfl ?_
                        refine y_getI rfl (ySh.t hS rfl) (ySh.n hS rfl) rfl rfl ?_
                        refine y_ireturn rfl rfl rfl ?_
                        refine y_ret1 ?_
                        refine y_iconst rfl ?_
                        refine y_isub rfl ?_
                        refine y_ireturn rfl rfl rfl ?_
                        exact hQ _ _ _ _ _ _ _ hS ((hR0.grow hX).up (Nat.le_succ K) hk6) (hK.x hRo hno hX) ⟨by omega, by omega, by omega⟩ (by omega) (by omega)
                      · rw [yz_m1] at h_47
                        refine y_iconst rfl ?_
                        refine y_goto rfl j_X14_lease_152 ?_
                        refine y_iconst rfl ?_
                        refine y_virt rfl rfl rfl rfl rfl (ySh.t hS rfl) (ySh.n hS rfl) ?_
                        refine y_in (M := xm_X14_refuse) (ls := [some _, some _, some _]) rfl rfl rfl ?_
                        refine y_iload_n rfl rfl ?_
                        refine y_if_eqF rfl (by decide) ?_
                        refine y_aload_n rfl rfl ?_
                        refine y_getIv (v := Int32.ofInt (0)) rfl (ySh.t hS rfl) (ySh.n hS rfl) rfl rfl hth ?_
                        refine y_if_neF rfl (by decide) ?_
                        refine y_aload_n rfl rfl ?_
                        refine y_iload_n rfl rfl ?_
                        refine y_putI rfl (ySh.t hS rfl) (ySh.n hS rfl) rfl (Nat.le_of_ble_eq_true rfl) rfl rfl ?_
                        refine y_nameI (fun I56 e56 => ?_)
                        have hR1 := (hR0.grow hX).mod0 e56 (by decide) (by decide)
                        have hK := (hK.x hRo hno hX).upI (upI e56) (by decide) (by decide) (fun i hi => by have := (hRo.l87.2.2.2.2 i hi).2.1; omega) (by rw [e56, upd2_ne (.inr (by decide))]; exact Int.le_refl _)
                        have hth : I56 83 0 = Int32.ofInt (3) := by rw [e56, upd2_self]
                        have hzz : ySz8 I41 I56 := ySz8_of (upI e56) (by rw [e56]; exact ⟨upd2_ne (.inr (by decide)), upd2_ne (.inr (by decide))⟩)
                        have hS0 := hS
                        have hR0 := hR1
                        have ht_b14 := (hX.2.1 _ hb_b14).1.trans ht_b14
                        have hb_b14 := Nat.lt_of_lt_of_le hb_b14 hX.1
                        have hb0_b14 := hb_b14
                        have hn := Nat.le_refl n41
                        have h94 := hS0.1
                        have hX := @yX.rf n41 tg41 I56 R41
                        have hS := hS0.x hX
                        have hR := hR0.x hn hX
                        have hz := hX.sz h94
                        have hxn := hX.1
                        have hw_b14 := hR.thi hlo_b14 hb0_b14 ((hX.2.1 _ hb_b14).1.trans ht_b14)
                        have hN := hR0.1
                        have hnb := hR0.2.2.2.2.2.2
                        have hthB := hth
                        refine y_aload_n rfl rfl ?_
                        refine y_getIv (v := Int32.ofInt (3)) rfl (ySh.t hS rfl) (ySh.n hS rfl) rfl rfl hth ?_
                        refine y_if_leF rfl (by decide) ?_
                        refine y_iconst rfl ?_
                        refine y_goto rfl j_X14_refuse_28 ?_
                        refine y_ireturn rfl rfl rfl ?_
                        refine y_ret1 ?_
                        refine y_if_eqF rfl (by decide) ?_
                        refine y_iconst rfl ?_
                        refine y_ireturn rfl rfl rfl ?_
                        exact hQ _ _ _ _ _ _ _ hS ((hR0.grow hX).up (Nat.le_succ K) hk6) (hK.x hRo hno hX) ⟨by omega, by omega, by omega⟩ (by omega) (by omega)
                  · have hnA := hX1.1
                    have hX := hX.trans hX1
                    have hS := hS0.x hX
                    have hR := hR0.x hn hX
                    have hz := hX.sz h94
                    have hxn := hX.1
                    have hw_b14 := hR.thi hlo_b14 hb0_b14 ((hX.2.1 _ hb_b14).1.trans ht_b14)
                    have hth := (congrFun (hX1.2.1 83 (by omega)).2.1 0).trans hth
                    refine y_ret1 ?_
                    refine y_if_eqT rfl j_X14_lease_147 (by decide) ?_
                    refine y_iconst rfl ?_
                    refine y_goto rfl j_X14_lease_152 ?_
                    refine y_iconst rfl ?_
                    refine y_virt rfl rfl rfl rfl rfl (ySh.t hS rfl) (ySh.n hS rfl) ?_
                    refine y_in (M := xm_X14_refuse) (ls := [some _, some _, some _]) rfl rfl rfl ?_
                    refine y_iload_n rfl rfl ?_
                    refine y_if_eqF rfl (by decide) ?_
                    refine y_aload_n rfl rfl ?_
                    refine y_getIv (v := Int32.ofInt (0)) rfl (ySh.t hS rfl) (ySh.n hS rfl) rfl rfl hth ?_
                    refine y_if_neF rfl (by decide) ?_
                    refine y_aload_n rfl rfl ?_
                    refine y_iload_n rfl rfl ?_
                    refine y_putI rfl (ySh.t hS rfl) (ySh.n hS rfl) rfl (Nat.le_of_ble_eq_true rfl) rfl rfl ?_
                    refine y_nameI (fun I57 e57 => ?_)
                    have hR1 := (hR0.grow hX).mod0 e57 (by decide) (by decide)
                    have hK := (hK.x hRo hno hX).upI (upI e57) (by decide) (by decide) (fun i hi => by have := (hRo.l87.2.2.2.2 i hi).2.1; omega) (by rw [e57, upd2_ne (.inr (by decide))]; exact Int.le_refl _)
                    have hth : I57 83 0 = Int32.ofInt (3) := by rw [e57, upd2_self]
                    have hzz : ySz8 I41 I57 := ySz8_of (upI e57) (by rw [e57]; exact ⟨upd2_ne (.inr (by decide)), upd2_ne (.inr (by decide))⟩)
                    have hS0 := hS
                    have hR0 := hR1
                    have ht_b14 := (hX.2.1 _ hb_b14).1.trans ht_b14
                    have hb_b14 := Nat.lt_of_lt_of_le hb_b14 hX.1
                    have hb0_b14 := hb_b14
                    have hn := Nat.le_refl n41
                    have h94 := hS0.1
                    have hX := @yX.rf n41 tg41 I57 R41
                    have hS := hS0.x hX
                    have hR := hR0.x hn hX
                    have hz := hX.sz h94
                    have hxn := hX.1
                    have hw_b14 := hR.thi hlo_b14 hb0_b14 ((hX.2.1 _ hb_b14).1.trans ht_b14)
                    have hN := hR0.1
                    have hnb := hR0.2.2.2.2.2.2
                    have hthB := hth
                    refine y_aload_n rfl rfl ?_
                    refine y_getIv (v := Int32.ofInt (3)) rfl (ySh.t hS rfl) (ySh.n hS rfl) rfl rfl hth ?_
                    refine y_if_leF rfl (by decide) ?_
                    refine y_iconst rfl ?_
                    refine y_goto rfl j_X14_refuse_28 ?_
                    refine y_ireturn rfl rfl rfl ?_
                    refine y_ret1 ?_
                    refine y_if_eqF rfl (by decide) ?_
                    refine y_iconst rfl ?_
                    refine y_ireturn rfl rfl rfl ?_
                    exact hQ _ _ _ _ _ _ _ hS ((hR0.grow hX).up (Nat.le_succ K) hk6) (hK.x hRo hno hX) ⟨by omega, by omega, by omega⟩ (by omega) (by omega)
        · rw [yz_99] at h_13
          refine y_ret1 ?_
          refine y_if_neF rfl (by decide) ?_
          refine y_iconst rfl ?_
          refine y_goto rfl j_X14_lease_56 ?_
          refine y_iconst rfl ?_
          refine y_virt rfl rfl rfl rfl rfl (ySh.t hS rfl) (ySh.n hS rfl) ?_
          refine y_in (M := xm_X14_refuse) (ls := [some _, some _, some _]) rfl rfl rfl ?_
          refine y_iload_n rfl rfl ?_
          refine y_if_eqF rfl (by decide) ?_
          refine y_aload_n rfl rfl ?_
          refine y_getIv (v := Int32.ofInt (0)) rfl (ySh.t hS rfl) (ySh.n hS rfl) rfl rfl hth ?_
          refine y_if_neF rfl (by decide) ?_
          refine y_aload_n rfl rfl ?_
          refine y_iload_n rfl rfl ?_
          refine y_putI rfl (ySh.t hS rfl) (ySh.n hS rfl) rfl (Nat.le_of_ble_eq_true rfl) rfl rfl ?_
          refine y_nameI (fun I58 e58 => ?_)
          have hR1 := (hR0.grow hX).mod0 e58 (by decide) (by decide)
          have hK := (hK.x hRo hno hX).upI (upI e58) (by decide) (by decide) (fun i hi => by have := (hRo.l87.2.2.2.2 i hi).2.1; omega) (by rw [e58, upd2_ne (.inr (by decide))]; exact Int.le_refl _)
          have hth : I58 83 0 = Int32.ofInt (2) := by rw [e58, upd2_self]
          have hzz : ySz8 I7 I58 := ySz8_of (upI e58) (by rw [e58]; exact ⟨upd2_ne (.inr (by decide)), upd2_ne (.inr (by decide))⟩)
          have hS0 := hS
          have hR0 := hR1
          have hn := Nat.le_refl n
          have h94 := hS0.1
          have hX := @yX.rf n tg I58 R
          have hS := hS0.x hX
          have hR := hR0.x hn hX
          have hz := hX.sz h94
          have hxn := hX.1
          have hN := hR0.1
          have hnb := hR0.2.2.2.2.2.2
          have hthB := hth
          refine y_aload_n rfl rfl ?_
          refine y_getIv (v := Int32.ofInt (2)) rfl (ySh.t hS rfl) (ySh.n hS rfl) rfl rfl hth ?_
          refine y_if_leF rfl (by decide) ?_
          refine y_iconst rfl ?_
          refine y_goto rfl j_X14_refuse_28 ?_
          refine y_ireturn rfl rfl rfl ?_
          refine y_ret1 ?_
          refine y_if_eqF rfl (by decide) ?_
          refine y_iconst rfl ?_
          refine y_ireturn rfl rfl rfl ?_
          exact hQ _ _ _ _ _ _ _ hS ((hR0.grow hX).up (Nat.le_succ K) hk6) (hK.x hRo hno hX) ⟨by omega, by omega, by omega⟩ (by omega) (by omega)
      · rw [yz_0] at h_10
        rw [yz_99] at h_10
        refine y_ret1 ?_
        refine y_if_eqT rfl j_X14_lease_51 (by decide) ?_
        refine y_iconst rfl ?_
        refine y_goto rfl j_X14_lease_56 ?_
        refine y_iconst rfl ?_
        refine y_virt rfl rfl rfl rfl rfl (ySh.t hS rfl) (ySh.n hS rfl) ?_
        refine y_in (M := xm_X14_refuse) (ls := [some _, some _, some _]) rfl rfl rfl ?_
        refine y_iload_n rfl rfl ?_
        refine y_if_eqF rfl (by decide) ?_
        refine y_aload_n rfl rfl ?_
        refine y_getIv (v := Int32.ofInt (0)) rfl (ySh.t hS rfl) (ySh.n hS rfl) rfl rfl hth ?_
        refine y_if_neF rfl (by decide) ?_
        refine y_aload_n rfl rfl ?_
        refine y_iload_n rfl rfl ?_
        refine y_putI rfl (ySh.t hS rfl) (ySh.n hS rfl) rfl (Nat.le_of_ble_eq_true rfl) rfl rfl ?_
        refine y_nameI (fun I59 e59 => ?_)
        have hR1 := (hR0.grow hX).mod0 e59 (by decide) (by decide)
        have hK := (hK.x hRo hno hX).upI (upI e59) (by decide) (by decide) (fun i hi => by have := (hRo.l87.2.2.2.2 i hi).2.1; omega) (by rw [e59, upd2_ne (.inr (by decide))]; exact Int.le_refl _)
        have hth : I59 83 0 = Int32.ofInt (2) := by rw [e59, upd2_self]
        have hzz : ySz8 I7 I59 := ySz8_of (upI e59) (by rw [e59]; exact ⟨upd2_ne (.inr (by decide)), upd2_ne (.inr (by decide))⟩)
        have hS0 := hS
        have hR0 := hR1
        have hn := Nat.le_refl n
        have h94 := hS0.1
        have hX := @yX.rf n tg I59 R
        have hS := hS0.x hX
        have hR := hR0.x hn hX
        have hz := hX.sz h94
        have hxn := hX.1
        have hN := hR0.1
        have hnb := hR0.2.2.2.2.2.2
        have hthB := hth
        refine y_aload_n rfl rfl ?_
        refine y_getIv (v := Int32.ofInt (2)) rfl (ySh.t hS rfl) (ySh.n hS rfl) rfl rfl hth ?_
        refine y_if_leF rfl (by decide) ?_
        refine y_iconst rfl ?_
        refine y_goto rfl j_X14_refuse_28 ?_
        refine y_ireturn rfl rfl rfl ?_
        refine y_ret1 ?_
        refine y_if_eqF rfl (by decide) ?_
        refine y_iconst rfl ?_
        refine y_ireturn rfl rfl rfl ?_
        exact hQ _ _ _ _ _ _ _ hS ((hR0.grow hX).up (Nat.le_succ K) hk6) (hK.x hRo hno hX) ⟨by omega, by omega, by omega⟩ (by omega) (by omega)
    · rw [yz_0] at h_6
      try rw [ysub (by rw [yz_1]; omega) (by rw [yz_1]; omega), yz_1] at h_6
      refine y_ret1 ?_
      refine y_if_neF rfl (by decide) ?_
      refine y_iconst rfl ?_
      refine y_goto rfl j_X14_isNobody_19 ?_
      refine y_ireturn rfl rfl rfl ?_
      refine y_ret1 ?_
      refine y_if_eqF rfl (by decide) ?_
      refine y_iconst rfl ?_
      refine y_goto rfl j_X14_lease_22 ?_
      refine y_iconst rfl ?_
      refine y_virt rfl rfl rfl rfl rfl (ySh.t hS rfl) (ySh.n hS rfl) ?_
      refine y_in (M := xm_X14_start) (ls := [some _, some _, some _]) rfl rfl rfl ?_
      refine y_aload_n rfl rfl ?_
      refine y_iconst rfl ?_
      refine y_putI rfl (ySh.t hS rfl) (ySh.n hS rfl) rfl (Nat.le_of_ble_eq_true rfl) rfl rfl ?_
      refine y_nameI (fun I60 e60 => ?_)
      have hR1 := (hR0.grow hX).mod0 e60 (by decide) (by decide)
      have hK := (hK.x hRo hno hX).upI (upI e60) (by decide) (by decide) (fun i hi => by have := (hRo.l87.2.2.2.2 i hi).2.1; omega) (by rw [e60, upd2_ne (.inr (by decide))]; exact Int.le_refl _)
      have hth : I60 83 0 = Int32.ofInt (0) := by rw [e60, upd2_self]
      have hzz : ySz8 I I60 := ySz8_of (upI e60) (by rw [e60]; exact ⟨upd2_ne (.inr (by decide)), upd2_ne (.inr (by decide))⟩)
      have hS0 := hS
      have hR0 := hR1
      have hn := Nat.le_refl n
      have h94 := hS0.1
      have hX := @yX.rf n tg I60 R
      have hS := hS0.x hX
      have hR := hR0.x hn hX
      have hz := hX.sz h94
      have hxn := hX.1
      have hN := hR0.1
      have hnb := hR0.2.2.2.2.2.2
      have hthB := hth
      refine y_aload_n rfl rfl ?_
      refine y_iload_n rfl rfl ?_
      refine y_iload_n rfl rfl ?_
      refine y_virt rfl rfl rfl rfl rfl (ySh.t hS rfl) (ySh.n hS rfl) ?_
      refine y_in (M := xm_X14_refuse) (ls := [some _, some _, some _]) rfl rfl rfl ?_
      refine y_iload_n rfl rfl ?_
      refine y_if_eqF rfl (by decide) ?_
      refine y_aload_n rfl rfl ?_
      refine y_getIv (v := Int32.ofInt (0)) rfl (ySh.t hS rfl) (ySh.n hS rfl) rfl rfl hth ?_
      refine y_if_neF rfl (by decide) ?_
      refine y_aload_n rfl rfl ?_
      refine y_iload_n rfl rfl ?_
      refine y_putI rfl (ySh.t hS rfl) (ySh.n hS rfl) rfl (Nat.le_of_ble_eq_true rfl) rfl rfl ?_
      refine y_nameI (fun I61 e61 => ?_)
      have hR1 := (hR0.grow hX).mod0 e61 (by decide) (by decide)
      have hK := (hK.x hRo hno hX).upI (upI e61) (by decide) (by decide) (fun i hi => by have := (hRo.l87.2.2.2.2 i hi).2.1; omega) (by rw [e61, upd2_ne (.inr (by decide))]; exact Int.le_refl _)
      have hth : I61 83 0 = Int32.ofInt (1) := by rw [e61, upd2_self]
      have hzz : ySz8 I60 I61 := ySz8_of (upI e61) (by rw [e61]; exact ⟨upd2_ne (.inr (by decide)), upd2_ne (.inr (by decide))⟩)
      have hS0 := hS
      have hR0 := hR1
      have hn := Nat.le_refl n
      have h94 := hS0.1
      have hX := @yX.rf n tg I61 R
      have hS := hS0.x hX
      have hR := hR0.x hn hX
      have hz := hX.sz h94
      have hxn := hX.1
      have hN := hR0.1
      have hnb := hR0.2.2.2.2.2.2
      have hthB := hth
      refine y_aload_n rfl rfl ?_
      refine y_getIv (v := Int32.ofInt (1)) rfl (ySh.t hS rfl) (ySh.n hS rfl) rfl rfl hth ?_
      refine y_if_leF rfl (by decide) ?_
      refine y_iconst rfl ?_
      refine y_goto rfl j_X14_refuse_28 ?_
      refine y_ireturn rfl rfl rfl ?_
      refine y_ret1 ?_
      refine y_ireturn rfl rfl rfl ?_
      refine y_ret1 ?_
      refine y_if_neT rfl j_X14_lease_63 (by decide) ?_
      refine y_iconst rfl ?_
      refine y_ireturn rfl rfl rfl ?_
      exact hQ _ _ _ _ _ _ _ hS ((hR0.grow hX).up (Nat.le_succ K) hk6) (hK.x hRo hno hX) ⟨by omega, by omega, by omega⟩ (by omega) (by omega)
  · rw [yz_0] at h_3
    try rw [ysub (by rw [yz_1]; omega) (by rw [yz_1]; omega), yz_1] at h_3
    refine y_ret1 ?_
    refine y_if_neF rfl (by decide) ?_
    refine y_iconst rfl ?_
    refine y_goto rfl j_X14_isNoThing_22 ?_
    refine y_ireturn rfl rfl rfl ?_
    refine y_ret1 ?_
    refine y_if_neT rfl j_X14_lease_17 (by decide) ?_
    refine y_iconst rfl ?_
    refine y_goto rfl j_X14_lease_22 ?_
    refine y_iconst rfl ?_
    refine y_virt rfl rfl rfl rfl rfl (ySh.t hS rfl) (ySh.n hS rfl) ?_
    refine y_in (M := xm_X14_start) (ls := [some _, some _, some _]) rfl rfl rfl ?_
    refine y_aload_n rfl rfl ?_
    refine y_iconst rfl ?_
    refine y_putI rfl (ySh.t hS rfl) (ySh.n hS rfl) rfl (Nat.le_of_ble_eq_true rfl) rfl rfl ?_
    refine y_nameI (fun I62 e62 => ?_)
    have hR1 := (hR0.grow hX).mod0 e62 (by decide) (by decide)
    have hK := (hK.x hRo hno hX).upI (upI e62) (by decide) (by decide) (fun i hi => by have := (hRo.l87.2.2.2.2 i hi).2.1; omega) (by rw [e62, upd2_ne (.inr (by decide))]; exact Int.le_refl _)
    have hth : I62 83 0 = Int32.ofInt (0) := by rw [e62, upd2_self]
    have hzz : ySz8 I I62 := ySz8_of (upI e62) (by rw [e62]; exact ⟨upd2_ne (.inr (by decide)), upd2_ne (.inr (by decide))⟩)
    have hS0 := hS
    have hR0 := hR1
    have hn := Nat.le_refl n
    have h94 := hS0.1
    have hX := @yX.rf n tg I62 R
    have hS := hS0.x hX
    have hR := hR0.x hn hX
    have hz := hX.sz h94
    have hxn := hX.1
    have hN := hR0.1
    have hnb := hR0.2.2.2.2.2.2
    have hthB := hth
    refine y_aload_n rfl rfl ?_
    refine y_iload_n rfl rfl ?_
    refine y_iload_n rfl rfl ?_
    refine y_virt rfl rfl rfl rfl rfl (ySh.t hS rfl) (ySh.n hS rfl) ?_
    refine y_in (M := xm_X14_refuse) (ls := [some _, some _, some _]) rfl rfl rfl ?_
    refine y_iload_n rfl rfl ?_
    refine y_if_eqF rfl (by decide) ?_
    refine y_aload_n rfl rfl ?_
    refine y_getIv (v := Int32.ofInt (0)) rfl (ySh.t hS rfl) (ySh.n hS rfl) rfl rfl hth ?_
    refine y_if_neF rfl (by decide) ?_
    refine y_aload_n rfl rfl ?_
    refine y_iload_n rfl rfl ?_
    refine y_putI rfl (ySh.t hS rfl) (ySh.n hS rfl) rfl (Nat.le_of_ble_eq_true rfl) rfl rfl ?_
    refine y_nameI (fun I63 e63 => ?_)
    have hR1 := (hR0.grow hX).mod0 e63 (by decide) (by decide)
    have hK := (hK.x hRo hno hX).upI (upI e63) (by decide) (by decide) (fun i hi => by have := (hRo.l87.2.2.2.2 i hi).2.1; omega) (by rw [e63, upd2_ne (.inr (by decide))]; exact Int.le_refl _)
    have hth : I63 83 0 = Int32.ofInt (1) := by rw [e63, upd2_self]
    have hzz : ySz8 I62 I63 := ySz8_of (upI e63) (by rw [e63]; exact ⟨upd2_ne (.inr (by decide)), upd2_ne (.inr (by decide))⟩)
    have hS0 := hS
    have hR0 := hR1
    have hn := Nat.le_refl n
    have h94 := hS0.1
    have hX := @yX.rf n tg I63 R
    have hS := hS0.x hX
    have hR := hR0.x hn hX
    have hz := hX.sz h94
    have hxn := hX.1
    have hN := hR0.1
    have hnb := hR0.2.2.2.2.2.2
    have hthB := hth
    refine y_aload_n rfl rfl ?_
    refine y_getIv (v := Int32.ofInt (1)) rfl (ySh.t hS rfl) (ySh.n hS rfl) rfl rfl hth ?_
    refine y_if_leF rfl (by decide) ?_
    refine y_iconst rfl ?_
    refine y_goto rfl j_X14_refuse_28 ?_
    refine y_ireturn rfl rfl rfl ?_
    refine y_ret1 ?_
    refine y_ireturn rfl rfl rfl ?_
    refine y_ret1 ?_
    refine y_if_neT rfl j_X14_lease_63 (by decide) ?_
    refine y_iconst rfl ?_
    refine y_ireturn rfl rfl rfl ?_
    exact hQ _ _ _ _ _ _ _ hS ((hR0.grow hX).up (Nat.le_succ K) hk6) (hK.x hRo hno hX) ⟨by omega, by omega, by omega⟩ (by omega) (by omega)
theorem f_benchmark (hS0 : ySh n tg R) (hR0 : yRI K n tg I R) (hk6 : K < 600) {x1 : Int32} (hQ0 : (0 ≤ x1.toInt ∧ x1.toInt ≤ 99) → ∀ (v : Int32) n1 tg1 I1 R1 c1 s1, ySh n1 tg1 R1 → yRI (K + 1) n1 tg1 I1 R1 → yKp n tg I R n1 tg1 I1 R1 → I1 83 0 = Int32.ofInt 0 → v.toInt = (I 83 4).toInt ∧ (I1 83 4).toInt = x1.toInt → c1 ≤ c + 0 → s1 ≤ s + 0 → Q (.inl (some (.int v))) (n1, tg1, I1, R1) c1 s1) (hQ1 : ¬ (0 ≤ x1.toInt ∧ x1.toInt ≤ 99) → ∀ (v : Int32) n1 tg1 I1 R1 c1 s1, ySh n1 tg1 R1 → yRI (K + 1) n1 tg1 I1 R1 → yKp n tg I R n1 tg1 I1 R1 → I1 83 0 = Int32.ofInt 1 → (I1 83 4).toInt = (I 83 4).toInt → c1 ≤ c + 0 → s1 ≤ s + 0 → Q (.inl (some (.int v))) (n1, tg1, I1, R1) c1 s1) : yC 205 [.ref 83, .int x1] (n, tg, I, R) c s Q := by
  have hno := Nat.le_refl n
  have hn := hno
  have hRo := hR0
  have hK : yKp n tg I R n tg I R := yKp.rf
  have hX : yX n tg I R n tg I R := yX.rf
  have hS := hS0
  have hR := hR0
  have h94 : 94 ≤ n := hS0.1
  have hz : ySz I I := hX.sz h94
  have hxn := hX.1
  have hN := hR0.1
  have hnb : 94 ≤ n := hR0.2.2.2.2.2.2
  refine y_in (M := xm_X14_benchmark) (ls := [some _, some _, _]) rfl rfl rfl ?_
  refine y_aload_n rfl rfl ?_
  refine y_iload_n rfl rfl ?_
  refine y_iconst rfl ?_
  refine y_bip rfl (by decide) ?_
  refine y_static rfl rfl rfl rfl rfl ?_
  refine r_isIn (fun h_1 h_2 => ?_) (fun h_3 => ?_)
  · rw [yz_0] at h_1
    rw [yz_99] at h_2
    refine y_ret1 ?_
    refine y_if_neT rfl j_X14_benchmark_15 (by decide) ?_
    refine y_iconst rfl ?_
    refine y_iconst rfl ?_
    refine y_virt rfl rfl rfl rfl rfl (ySh.t hS rfl) (ySh.n hS rfl) ?_
    refine y_in (M := xm_X14_start) (ls := [some _, some _, some _]) rfl rfl rfl ?_
    refine y_aload_n rfl rfl ?_
    refine y_iconst rfl ?_
    refine y_putI rfl (ySh.t hS rfl) (ySh.n hS rfl) rfl (Nat.le_of_ble_eq_true rfl) rfl rfl ?_
    refine y_nameI (fun I4 e4 => ?_)
    have hR1 := (hR0.grow hX).mod0 e4 (by decide) (by decide)
    have hK := (hK.x hRo hno hX).upI (upI e4) (by decide) (by decide) (fun i hi => by have := (hRo.l87.2.2.2.2 i hi).2.1; omega) (by rw [e4, upd2_ne (.inr (by decide))]; exact Int.le_refl _)
    have hth : I4 83 0 = Int32.ofInt (0) := by rw [e4, upd2_self]
    have hzz : ySz8 I I4 := ySz8_of (upI e4) (by rw [e4]; exact ⟨upd2_ne (.inr (by decide)), upd2_ne (.inr (by decide))⟩)
    have hS0 := hS
    have hR0 := hR1
    have hn := Nat.le_refl n
    have h94 := hS0.1
    have hX := @yX.rf n tg I4 R
    have hS := hS0.x hX
    have hR := hR0.x hn hX
    have hz := hX.sz h94
    have hxn := hX.1
    have hN := hR0.1
    have hnb := hR0.2.2.2.2.2.2
    have hthB := hth
    have hb4 : (I4 83 4).toInt = (I 83 4).toInt := by rw [e4, upd2_ne (.inr (by decide))]
    refine y_aload_n rfl rfl ?_
    refine y_iload_n rfl rfl ?_
    refine y_iload_n rfl rfl ?_
    refine y_virt rfl rfl rfl rfl rfl (ySh.t hS rfl) (ySh.n hS rfl) ?_
    refine y_in (M := xm_X14_refuse) (ls := [some _, some _, some _]) rfl rfl rfl ?_
    refine y_iload_n rfl rfl ?_
    refine y_if_eqT rfl j_X14_refuse_16 (by decide) ?_
    refine y_aload_n rfl rfl ?_
    refine y_getIv (v := Int32.ofInt (0)) rfl (ySh.t hS rfl) (ySh.n hS rfl) rfl rfl hth ?_
    refine y_if_leT rfl j_X14_refuse_27 (by decide) ?_
    refine y_iconst rfl ?_
    refine y_ireturn rfl rfl rfl ?_
    refine y_ret1 ?_
    refine y_ireturn rfl rfl rfl ?_
    refine y_ret1 ?_
    refine y_if_eqT rfl j_X14_benchmark_25 (by decide) ?_
    refine y_aload_n rfl rfl ?_
    refine y_getI rfl (ySh.t hS rfl) (ySh.n hS rfl) rfl rfl ?_
    refine y_istore_n (ls' := [some _, some _, some _]) rfl rfl rfl ?_
    refine y_aload_n rfl rfl ?_
    refine y_iload_n rfl rfl ?_
    refine y_putI rfl (ySh.t hS rfl) (ySh.n hS rfl) rfl (Nat.le_of_ble_eq_true rfl) rfl rfl ?_
    refine y_nameI (fun I5 e5 => ?_)
    have hw4 : (I5 83 4).toInt = x1.toInt := by rw [e5, upd2_self]
    have hR1 := (hR0.grow hX).mod0 e5 (by decide) (by decide)
    have hK := (hK.x hRo hno hX).upI (upI e5) (by decide) (by decide) (fun i hi => by have := (hRo.l87.2.2.2.2 i hi).2.1; omega) (by rw [e5, upd2_ne (.inr (by decide))]; exact Int.le_refl _)
    have hth := (show I5 83 0 = I4 83 0 by rw [e5, upd2_ne (.inr (by decide))]).trans hth
    have hzz : ySz I4 I5 := ySz_ofM (upI e5) (by rw [e5]; exact ⟨upd2_ne (.inr (by decide)), upd2_ne (.inr (by decide)), upd2_ne (.inr (by decide))⟩)
    have hS0 := hS
    have hR0 := hR1
    have hn := Nat.le_refl n
    have h94 := hS0.1
    have hX := @yX.rf n tg I5 R
    have hS := hS0.x hX
    have hR := hR0.x hn hX
    have hz := hX.sz h94
    have hxn := hX.1
    have hN := hR0.1
    have hnb := hR0.2.2.2.2.2.2
    have hthB := hth
    refine y_iload_n rfl rfl ?_
    refine y_ireturn rfl rfl rfl ?_
    exact hQ0 (by omega) _ _ _ _ _ _ _ hS ((hR0.grow hX).up (Nat.le_succ K) hk6) (hK.x hRo hno hX) hth ⟨by first | omega | (rw [ysub (by rw [yz_1]; omega) (by rw [yz_1]; omega), yz_1]; omega), by first | omega | (rw [ysub (by rw [yz_1]; omega) (by rw [yz_1]; omega), yz_1]; omega)⟩ (by omega) (by omega)
  · rw [yz_0] at h_3
    rw [yz_99] at h_3
    refine y_ret1 ?_
    refine y_if_neF rfl (by decide) ?_
    refine y_iconst rfl ?_
    refine y_goto rfl j_X14_benchmark_16 ?_
    refine y_iconst rfl ?_
    refine y_virt rfl rfl rfl rfl rfl (ySh.t hS rfl) (ySh.n hS rfl) ?_
    refine y_in (M := xm_X14_start) (ls := [some _, some _, some _]) rfl rfl rfl ?_
    refine y_aload_n rfl rfl ?_
    refine y_iconst rfl ?_
    refine y_putI rfl (ySh.t hS rfl) (ySh.n hS rfl) rfl (Nat.le_of_ble_eq_true rfl) rfl rfl ?_
    refine y_nameI (fun I6 e6 => ?_)
    have hR1 := (hR0.grow hX).mod0 e6 (by decide) (by decide)
    have hK := (hK.x hRo hno hX).upI (upI e6) (by decide) (by decide) (fun i hi => by have := (hRo.l87.2.2.2.2 i hi).2.1; omega) (by rw [e6, upd2_ne (.inr (by decide))]; exact Int.le_refl _)
    have hth : I6 83 0 = Int32.ofInt (0) := by rw [e6, upd2_self]
    have hzz : ySz8 I I6 := ySz8_of (upI e6) (by rw [e6]; exact ⟨upd2_ne (.inr (by decide)), upd2_ne (.inr (by decide))⟩)
    have hS0 := hS
    have hR0 := hR1
    have hn := Nat.le_refl n
    have h94 := hS0.1
    have hX := @yX.rf n tg I6 R
    have hS := hS0.x hX
    have hR := hR0.x hn hX
    have hz := hX.sz h94
    have hxn := hX.1
    have hN := hR0.1
    have hnb := hR0.2.2.2.2.2.2
    have hthB := hth
    have hb4 : (I6 83 4).toInt = (I 83 4).toInt := by rw [e6, upd2_ne (.inr (by decide))]
    refine y_aload_n rfl rfl ?_
    refine y_iload_n rfl rfl ?_
    refine y_iload_n rfl rfl ?_
    refine y_virt rfl rfl rfl rfl rfl (ySh.t hS rfl) (ySh.n hS rfl) ?_
    refine y_in (M := xm_X14_refuse) (ls := [some _, some _, some _]) rfl rfl rfl ?_
    refine y_iload_n rfl rfl ?_
    refine y_if_eqF rfl (by decide) ?_
    refine y_aload_n rfl rfl ?_
    refine y_getIv (v := Int32.ofInt (0)) rfl (ySh.t hS rfl) (ySh.n hS rfl) rfl rfl hth ?_
    refine y_if_neF rfl (by decide) ?_
    refine y_aload_n rfl rfl ?_
    refine y_iload_n rfl rfl ?_
    refine y_putI rfl (ySh.t hS rfl) (ySh.n hS rfl) rfl (Nat.le_of_ble_eq_true rfl) rfl rfl ?_
    refine y_nameI (fun I7 e7 => ?_)
    have hR1 := (hR0.grow hX).mod0 e7 (by decide) (by decide)
    have hK := (hK.x hRo hno hX).upI (upI e7) (by decide) (by decide) (fun i hi => by have := (hRo.l87.2.2.2.2 i hi).2.1; omega) (by rw [e7, upd2_ne (.inr (by decide))]; exact Int.le_refl _)
    have hth : I7 83 0 = Int32.ofInt (1) := by rw [e7, upd2_self]
    have hzz : ySz8 I6 I7 := ySz8_of (upI e7) (by rw [e7]; exact ⟨upd2_ne (.inr (by decide)), upd2_ne (.inr (by decide))⟩)
    have hS0 := hS
    have hR0 := hR1
    have hn := Nat.le_refl n
    have h94 := hS0.1
    have hX := @yX.rf n tg I7 R
    have hS := hS0.x hX
    have hR := hR0.x hn hX
    have hz := hX.sz h94
    have hxn := hX.1
    have hN := hR0.1
    have hnb := hR0.2.2.2.2.2.2
    have hthB := hth
    have hb4 : (I7 83 4).toInt = (I6 83 4).toInt := by rw [e7, upd2_ne (.inr (by decide))]
    refine y_aload_n rfl rfl ?_
    refine y_getIv (v := Int32.ofInt (1)) rfl (ySh.t hS rfl) (ySh.n hS rfl) rfl rfl hth ?_
    refine y_if_leF rfl (by decide) ?_
    refine y_iconst rfl ?_
    refine y_goto rfl j_X14_refuse_28 ?_
    refine y_ireturn rfl rfl rfl ?_
    refine y_ret1 ?_
    refine y_ireturn rfl rfl rfl ?_
    refine y_ret1 ?_
    refine y_if_eqF rfl (by decide) ?_
    refine y_iconst rfl ?_
    refine y_ireturn rfl rfl rfl ?_
    exact hQ1 (by omega) _ _ _ _ _ _ _ hS ((hR0.grow hX).up (Nat.le_succ K) hk6) (hK.x hRo hno hX) hth (by first | omega | (rw [ysub (by rw [yz_1]; omega) (by rw [yz_1]; omega), yz_1]; omega)) (by omega) (by omega)
theorem lm_pass60E (hRo : yRI K n tg I R) (hno : n ≤ n) {x1 x2 dd tt : Int32} (hQ : ∀ n1 tg1 I1 R1, ySh n1 tg1 R1 → yRI K n1 tg1 I1 R1 → yKp n tg I R n1 tg1 I1 R1 → I1 83 1 = dd → I1 83 0 = tt → yW xm_X14_pass xc_X14_pass_89 [some (.ref 83), some (.int x1), some (.int x2), none, none] [] (n1, tg1, I1, R1) c s Q) : ∀ (m : Nat) (x3 : Int32) (n1 : Nat) (tg1 : Nat → yT) (I1 : Nat → Nat → Int32) (R1 : Nat → Nat → Value), ySh n1 tg1 R1 → yRI K n1 tg1 I1 R1 → yKp n tg I R n1 tg1 I1 R1 → (0 ≤ x3.toInt) → (x3.toInt ≤ 8) → (I1 83 1 = dd) → (I1 83 0 = tt) → 8 - x3.toInt < m → yW xm_X14_pass xc_X14_pass_60 [some (.ref 83), some (.int x1), some (.int x2), some (.int x3), none] [] (n1, tg1, I1, R1) c s Q := by
  intro m
  induction m with
  | zero => intro x3 n1 tg1 I1 R1 hS0 hR0 hK i0 i1 i2 i3 hm; have hN := hR0.1; exfalso; omega
  | succ m ih =>
    intro x3 n1 tg1 I1 R1 hS0 hR0 hK i0 i1 i2 i3 hm
    have hn := Nat.le_refl n1
    have hX := @yX.rf n1 tg1 I1 R1
    have hS := hS0
    have hR := hR0
    have h94 : 94 ≤ n1 := hS0.1
    have hz : ySz I1 I1 := hX.sz h94
    have hxn := hX.1
    have hN := hR0.1
    have hnb : 94 ≤ n1 := hR0.2.2.2.2.2.2
    refine y_iload_n rfl rfl ?_
    refine y_aload_n rfl rfl ?_
    refine y_getI rfl (ySh.t hS rfl) (ySh.n hS rfl) rfl rfl ?_
    refine y_icmp_ge rfl j_X14_pass_89 (fun h_1 => ?_) (fun h_2 => ?_)
    · refine y_fgt (ls := [some _, some _, some _, none, none]) ⟨rfl, rfl, rfl, trivial⟩ ?_
      exact hQ _ _ _ _ hS (hR0.grow hX) (hK.x hRo hno hX) (by assumption) (by assumption)
    · refine y_aload_n rfl rfl ?_
      refine y_getR rfl (ySh.t hS rfl) (ySh.n hS rfl) rfl rfl (ySh.r hS rfl) ?_
      refine y_iload_n rfl rfl ?_
      refine y_dup2 rfl rfl rfl ?_
      refine y_iaload rfl (ySh.t hS rfl) (ySh.n hS rfl) (by omega) (by omega) ?_
      refine y_aload_n rfl rfl ?_
      refine y_getR rfl (ySh.t hS rfl) (ySh.n hS rfl) rfl rfl (ySh.r hS rfl) ?_
      refine y_iload_n rfl rfl ?_
      refine y_iaload rfl (ySh.t hS rfl) (ySh.n hS rfl) (by omega) (by omega) ?_
      refine y_iadd rfl ?_
      refine y_iastore rfl (ySh.t hS rfl) (ySh.n hS rfl) (Nat.le_of_ble_eq_true rfl) (by omega) (by omega) ?_
      refine y_nameI (fun I3 e3 => ?_)
      have hR1 := (hR0.grow hX).arr e3 (by decide)
      have hK := (hK.x hRo hno hX).upI (upI e3) (by decide) (by decide) (fun i hi => by have := (hRo.l87.2.2.2.2 i hi).2.1; omega) (by rw [e3, upd2_ne (.inl (by omega))]; exact Int.le_refl _)
      have hzz : ySz I1 I3 := ySz_ofE (upI e3) (by omega)
      have hS0 := hS
      have hR0 := hR1
      have hn := Nat.le_refl n1
      have h94 := hS0.1
      have hX := @yX.rf n1 tg1 I3 R1
      have hS := hS0.x hX
      have hR := hR0.x hn hX
      have hz := hX.sz h94
      have hxn := hX.1
      have hN := hR0.1
      have hnb := hR0.2.2.2.2.2.2
      refine y_iinc (ls' := [some _, some _, some _, some _, _]) rfl rfl rfl rfl ?_
      refine y_goto rfl j_X14_pass_60 ?_
      exact ih _ _ _ _ _ hS (hR0.grow hX) (hK.x hRo hno hX)   (by first | omega | (rw [yinc (by omega)]; omega)) (by first | omega | (rw [yinc (by omega)]; omega)) (by subst_vars; simp [upd2]) (by subst_vars; simp [upd2]) (by first | omega | (rw [yinc (by omega)]; omega))
theorem lm_pass105E (hRo : yRI K n tg I R) (hno : n ≤ n) {x1 x2 dd tt : Int32} (hQ : ∀ n1 tg1 I1 R1, ySh n1 tg1 R1 → yRI K n1 tg1 I1 R1 → yKp n tg I R n1 tg1 I1 R1 → I1 83 1 = dd → I1 83 0 = tt → yW xm_X14_pass xc_X14_pass_178 [some (.ref 83), some (.int x1), some (.int x2), none, none] [] (n1, tg1, I1, R1) c s Q) : ∀ (m : Nat) (x3 : Int32) (n1 : Nat) (tg1 : Nat → yT) (I1 : Nat → Nat → Int32) (R1 : Nat → Nat → Value), ySh n1 tg1 R1 → yRI K n1 tg1 I1 R1 → yKp n tg I R n1 tg1 I1 R1 → (0 ≤ x3.toInt) → (x3.toInt ≤ 8) → (I1 83 1 = dd) → (I1 83 0 = tt) → 8 - x3.toInt < m → yW xm_X14_pass xc_X14_pass_105 [some (.ref 83), some (.int x1), some (.int x2), some (.int x3), none] [] (n1, tg1, I1, R1) c s Q := by
  intro m
  induction m with
  | zero => intro x3 n1 tg1 I1 R1 hS0 hR0 hK i0 i1 i2 i3 hm; have hN := hR0.1; exfalso; omega
  | succ m ih =>
    intro x3 n1 tg1 I1 R1 hS0 hR0 hK i0 i1 i2 i3 hm
    have hn := Nat.le_refl n1
    have hX := @yX.rf n1 tg1 I1 R1
    have hS := hS0
    have hR := hR0
    have h94 : 94 ≤ n1 := hS0.1
    have hz : ySz I1 I1 := hX.sz h94
    have hxn := hX.1
    have hN := hR0.1
    have hnb : 94 ≤ n1 := hR0.2.2.2.2.2.2
    refine y_iload_n rfl rfl ?_
    refine y_aload_n rfl rfl ?_
    refine y_getI rfl (ySh.t hS rfl) (ySh.n hS rfl) rfl rfl ?_
    refine y_icmp_ge rfl j_X14_pass_178 (fun h_1 => ?_) (fun h_2 => ?_)
    · refine y_fgt (ls := [some _, some _, some _, none, none]) ⟨rfl, rfl, rfl, trivial⟩ ?_
      exact hQ _ _ _ _ hS (hR0.grow hX) (hK.x hRo hno hX) (by assumption) (by assumption)
    · refine y_aload_n rfl rfl ?_
      refine y_getI rfl (ySh.t hS rfl) (ySh.n hS rfl) rfl rfl ?_
      refine y_sip rfl (by decide) ?_
      refine y_irem rfl (by decide) ?_
      refine y_if_ne rfl j_X14_pass_178 (fun h_3 => ?_) (fun h_4 => ?_)
      · refine y_fgt (ls := [some _, some _, some _, none, none]) ⟨rfl, rfl, rfl, trivial⟩ ?_
        exact hQ _ _ _ _ hS (hR0.grow hX) (hK.x hRo hno hX) (by assumption) (by assumption)
      · refine y_aload_n rfl rfl ?_
        refine y_getR rfl (ySh.t hS rfl) (ySh.n hS rfl) rfl rfl (ySh.r hS rfl) ?_
        refine y_iload_n rfl rfl ?_
        refine y_iaload rfl (ySh.t hS rfl) (ySh.n hS rfl) (by omega) (by omega) ?_
        refine y_bip rfl (by decide) ?_
        refine y_icmp_lt rfl j_X14_pass_147 (fun h_5 => ?_) (fun h_6 => ?_)
        · rw [yz_85] at h_5
          refine y_iconst rfl ?_
          refine y_istore (ls' := [some _, some _, some _, some _, some _]) rfl rfl rfl ?_
          refine y_aload_n rfl rfl ?_
          refine y_getR rfl (ySh.t hS rfl) (ySh.n hS rfl) rfl rfl (ySh.r hS rfl) ?_
          refine y_iload_n rfl rfl ?_
          refine y_dup2 rfl rfl rfl ?_
          refine y_iaload rfl (ySh.t hS rfl) (ySh.n hS rfl) (by omega) (by omega) ?_
          refine y_iload rfl rfl ?_
          refine y_isub rfl ?_
          refine y_iastore rfl (ySh.t hS rfl) (ySh.n hS rfl) (Nat.le_of_ble_eq_true rfl) (by omega) (by omega) ?_
          refine y_nameI (fun I7 e7 => ?_)
          have hR1 := (hR0.grow hX).arr e7 (by decide)
          have hK := (hK.x hRo hno hX).upI (upI e7) (by decide) (by decide) (fun i hi => by have := (hRo.l87.2.2.2.2 i hi).2.1; omega) (by rw [e7, upd2_ne (.inl (by omega))]; exact Int.le_refl _)
          have hzz : ySz I1 I7 := ySz_ofE (upI e7) (by omega)
          have hS0 := hS
          have hR0 := hR1
          have hn := Nat.le_refl n1
          have h94 := hS0.1
          have hX := @yX.rf n1 tg1 I7 R1
          have hS := hS0.x hX
          have hR := hR0.x hn hX
          have hz := hX.sz h94
          have hxn := hX.1
          have hN := hR0.1
          have hnb := hR0.2.2.2.2.2.2
          refine y_aload_n rfl rfl ?_
          refine y_dup rfl rfl ?_
          refine y_getI rfl (ySh.t hS rfl) (ySh.n hS rfl) rfl rfl ?_
          refine y_iload rfl rfl ?_
          refine y_iadd rfl ?_
          refine y_putI rfl (ySh.t hS rfl) (ySh.n hS rfl) rfl (Nat.le_of_ble_eq_true rfl) rfl rfl ?_
          refine y_nameI (fun I8 e8 => ?_)
          have hR1 := (hR0.grow hX).mod0 e8 (by decide) (by decide)
          have hK := (hK.x hRo hno hX).upI (upI e8) (by decide) (by decide) (fun i hi => by have := (hRo.l87.2.2.2.2 i hi).2.1; omega) (by rw [e8, upd2_ne (.inr (by decide))]; exact Int.le_refl _)
          have hzz : ySz I7 I8 := ySz_ofM (upI e8) (by rw [e8]; exact ⟨upd2_ne (.inr (by decide)), upd2_ne (.inr (by decide)), upd2_ne (.inr (by decide))⟩)
          have hS0 := hS
          have hR0 := hR1
          have hn := Nat.le_refl n1
          have h94 := hS0.1
          have hX := @yX.rf n1 tg1 I8 R1
          have hS := hS0.x hX
          have hR := hR0.x hn hX
          have hz := hX.sz h94
          have hxn := hX.1
          have hN := hR0.1
          have hnb := hR0.2.2.2.2.2.2
          refine y_iinc (ls' := [some _, some _, some _, some _, some _]) rfl rfl rfl rfl ?_
          refine y_goto rfl j_X14_pass_105 ?_
          refine y_fgt (ls := [some _, some _, some _, some _, none]) ⟨rfl, rfl, rfl, rfl, trivial⟩ ?_
          exact ih _ _ _ _ _ hS (hR0.grow hX) (hK.x hRo hno hX)   (by first | omega | (rw [yinc (by omega)]; omega)) (by first | omega | (rw [yinc (by omega)]; omega)) (by subst_vars; simp [upd2]) (by subst_vars; simp [upd2]) (by first | omega | (rw [yinc (by omega)]; omega))
        · rw [yz_85] at h_6
          refine y_aload_n rfl rfl ?_
          refine y_getR rfl (ySh.t hS rfl) (ySh.n hS rfl) rfl rfl (ySh.r hS rfl) ?_
          refine y_iload_n rfl rfl ?_
          refine y_iaload rfl (ySh.t hS rfl) (ySh.n hS rfl) (by omega) (by omega) ?_
          refine y_bip rfl (by decide) ?_
          refine y_idiv rfl (by decide) ?_
          refine y_goto rfl j_X14_pass_148 ?_
          refine y_istore (ls' := [some _, some _, some _, some _, some _]) rfl rfl rfl ?_
          refine y_aload_n rfl rfl ?_
          refine y_getR rfl (ySh.t hS rfl) (ySh.n hS rfl) rfl rfl (ySh.r hS rfl) ?_
          refine y_iload_n rfl rfl ?_
          refine y_dup2 rfl rfl rfl ?_
          refine y_iaload rfl (ySh.t hS rfl) (ySh.n hS rfl) (by omega) (by omega) ?_
          refine y_iload rfl rfl ?_
          refine y_isub rfl ?_
          refine y_iastore rfl (ySh.t hS rfl) (ySh.n hS rfl) (Nat.le_of_ble_eq_true rfl) (by omega) (by omega) ?_
          refine y_nameI (fun I9 e9 => ?_)
          have hR1 := (hR0.grow hX).arr e9 (by decide)
          have hK := (hK.x hRo hno hX).upI (upI e9) (by decide) (by decide) (fun i hi => by have := (hRo.l87.2.2.2.2 i hi).2.1; omega) (by rw [e9, upd2_ne (.inl (by omega))]; exact Int.le_refl _)
          have hzz : ySz I1 I9 := ySz_ofE (upI e9) (by omega)
          have hS0 := hS
          have hR0 := hR1
          have hn := Nat.le_refl n1
          have h94 := hS0.1
          have hX := @yX.rf n1 tg1 I9 R1
          have hS := hS0.x hX
          have hR := hR0.x hn hX
          have hz := hX.sz h94
          have hxn := hX.1
          have hN := hR0.1
          have hnb := hR0.2.2.2.2.2.2
          refine y_aload_n rfl rfl ?_
          refine y_dup rfl rfl ?_
          refine y_getI rfl (ySh.t hS rfl) (ySh.n hS rfl) rfl rfl ?_
          refine y_iload rfl rfl ?_
          refine y_iadd rfl ?_
          refine y_putI rfl (ySh.t hS rfl) (ySh.n hS rfl) rfl (Nat.le_of_ble_eq_true rfl) rfl rfl ?_
          refine y_nameI (fun I10 e10 => ?_)
          have hR1 := (hR0.grow hX).mod0 e10 (by decide) (by decide)
          have hK := (hK.x hRo hno hX).upI (upI e10) (by decide) (by decide) (fun i hi => by have := (hRo.l87.2.2.2.2 i hi).2.1; omega) (by rw [e10, upd2_ne (.inr (by decide))]; exact Int.le_refl _)
          have hzz : ySz I9 I10 := ySz_ofM (upI e10) (by rw [e10]; exact ⟨upd2_ne (.inr (by decide)), upd2_ne (.inr (by decide)), upd2_ne (.inr (by decide))⟩)
          have hS0 := hS
          have hR0 := hR1
          have hn := Nat.le_refl n1
          have h94 := hS0.1
          have hX := @yX.rf n1 tg1 I10 R1
          have hS := hS0.x hX
          have hR := hR0.x hn hX
          have hz := hX.sz h94
          have hxn := hX.1
          have hN := hR0.1
          have hnb := hR0.2.2.2.2.2.2
          refine y_iinc (ls' := [some _, some _, some _, some _, some _]) rfl rfl rfl rfl ?_
          refine y_goto rfl j_X14_pass_105 ?_
          refine y_fgt (ls := [some _, some _, some _, some _, none]) ⟨rfl, rfl, rfl, rfl, trivial⟩ ?_
          exact ih _ _ _ _ _ hS (hR0.grow hX) (hK.x hRo hno hX)   (by first | omega | (rw [yinc (by omega)]; omega)) (by first | omega | (rw [yinc (by omega)]; omega)) (by subst_vars; simp [upd2]) (by subst_vars; simp [upd2]) (by first | omega | (rw [yinc (by omega)]; omega))
theorem lm_pass53E {T0 : Int} {tt : Int32} (hT0 : T0 ≤ 4000) (hRo : yRI K n tg I R) {x1 : Int32} (hx : x1.toInt ≤ 400) (hQ : ∀ (v : Int32) n1 tg1 I1 R1 c1 s1, ySh n1 tg1 R1 → yRI K n1 tg1 I1 R1 → yKp n tg I R n1 tg1 I1 R1 → v.toInt = T0 → (I1 83 1).toInt = T0 → I1 83 0 = tt → c1 ≤ c + 400 → s1 ≤ s + 1600 → Q (.inl (some (.int v))) (n1, tg1, I1, R1) c1 s1) :
    ∀ (m : Nat) (x2 : Int32) (n1 : Nat) (tg1 : Nat → yT) (I1 : Nat → Nat → Int32) (R1 : Nat → Nat → Value) (c1 s1 : Nat), ySh n1 tg1 R1 → yRI K n1 tg1 I1 R1 → yKp n tg I R n1 tg1 I1 R1 → 0 ≤ x2.toInt → x2.toInt ≤ x1.toInt → (I1 83 1).toInt + (x1.toInt - x2.toInt) = T0 → I1 83 0 = tt → (c1 : Int) ≤ (c : Int) + x2.toInt → (s1 : Int) ≤ (s : Int) + 4 * x2.toInt → x1.toInt - x2.toInt < m →
    yW xm_X14_pass xc_X14_pass_53 [some (.ref 83), some (.int x1), some (.int x2), none, none] [] (n1, tg1, I1, R1) c1 s1 Q := by
  intro m
  induction m with
  | zero => intro x2 n1 tg1 I1 R1 c1 s1 hS hR hK i0 i1 i2 iT i3 i4 hm; exfalso; omega
  | succ m ih =>
    intro x2 n1 tg1 I1 R1 c1 s1 hS hR hK i0 i1 i2 iT i3 i4 hm
    refine y_iload_n rfl rfl ?_
    refine y_iload_n rfl rfl ?_
    refine y_icmp_ge rfl j_X14_pass_184 (fun h_1 => ?_) (fun h_2 => ?_)
    · refine y_aload_n rfl rfl ?_
      refine y_getI rfl (ySh.t hS rfl) (ySh.n hS rfl) rfl rfl ?_
      refine y_ireturn rfl rfl rfl ?_
      exact hQ _ _ _ _ _ _ _ hS hR hK (by omega) (by omega) iT (by omega) (by omega)
    · refine y_iconst rfl ?_
      refine y_istore_n (ls' := [some _, some _, some _, some _, none]) rfl rfl rfl ?_
      refine lm_pass60E (dd := I1 83 1) (tt := tt) hRo (Nat.le_refl n) (fun n2 tg2 I2 R2 hS2 hR2 hK2 hd2 ht2 => ?_) 9 _ _ _ _ _ hS hR hK (by decide) (by decide) rfl iT (by decide)
      refine y_aload_n rfl rfl ?_
      refine y_dup rfl rfl ?_
      refine y_getI rfl (ySh.t hS2 rfl) (ySh.n hS2 rfl) rfl rfl ?_
      refine y_iconst rfl ?_
      refine y_iadd rfl ?_
      refine y_putI rfl (ySh.t hS2 rfl) (ySh.n hS2 rfl) rfl (Nat.le_of_ble_eq_true rfl) rfl rfl ?_
      refine y_nameI (fun I3 e3 => ?_)
      have hN2 := hR2.1
      have hi2 : (I2 83 1).toInt = (I1 83 1).toInt := by rw [hd2]
      have ed : (I3 83 1).toInt = (I1 83 1).toInt + 1 := by rw [e3, upd2_self, yinc (by omega), hi2]
      have et : I3 83 0 = tt := by rw [e3, upd2_ne (.inr (by decide))]; exact ht2
      have hR3 := hR2.mod (upI e3) (by rw [e3, upd2_ne (.inr (by decide))]; exact hN2.1) ⟨by omega, by omega⟩
      have hK3 := hK2.upI (upI e3) (by decide) (by decide) (fun i hi => by have := (hRo.l87.2.2.2.2 i hi).2.1; omega) (by omega)
      refine y_aload_n rfl rfl ?_
      refine y_virt rfl rfl rfl rfl rfl (ySh.t hS2 rfl) (ySh.n hS2 rfl) ?_
      refine yC.keep [(18, 0, 83)] rfl rfl hS2 ?_
      refine h_rents hS2 hR3 (fun n4 tg4 I4 R4 hS4 hR4 hK4 hd4 => ⟨hS4, fun hkp _ => ?_⟩)
      have ht4 : I4 83 0 = tt := hkp.1.trans et
      refine y_ret0 ?_
      refine y_iconst rfl ?_
      refine y_istore_n (ls' := [some _, some _, some _, some _, none]) rfl rfl rfl ?_
      refine lm_pass105E (dd := I4 83 1) (tt := tt) hRo (Nat.le_refl n) (fun n5 tg5 I5 R5 hS5 hR5 hK5 hd5 ht5 => ?_) 9 _ _ _ _ _ hS4 hR4 (hK3.trans hK4) (by decide) (by decide) rfl ht4 (by decide)
      have hd6 : (I5 83 1).toInt = (I1 83 1).toInt + 1 := by rw [hd5, hd4]; exact ed
      have hx2 : (x2 + Int32.ofInt 1).toInt = x2.toInt + 1 := yinc (by omega)
      refine y_iinc (ls' := [some _, some _, some _, none, none]) rfl rfl rfl rfl ?_
      refine y_goto rfl j_X14_pass_53 ?_
      exact ih _ _ _ _ _ _ _ hS5 hR5 hK5 (by omega) (by omega) (by omega) ht5 (by omega) (by omega) (by omega)
theorem yadd4 {a b : Int32} (h0 : 0 ≤ a.toInt) (h1 : a.toInt ≤ 4000) (h2 : 1 ≤ b.toInt) (h3 : b.toInt ≤ 400) : (a + b).toInt = a.toInt + b.toInt := yadd (by omega) (by omega)
theorem f_pass (hS0 : ySh n tg R) (hR0 : yRI K n tg I R) (hk6 : K < 600) {x1 : Int32} (hQ0 : (1 ≤ x1.toInt ∧ x1.toInt ≤ 400) ∧ (I 83 1).toInt + x1.toInt ≤ 4000 → ∀ (v : Int32) n1 tg1 I1 R1 c1 s1, ySh n1 tg1 R1 → yRI (K + 1) n1 tg1 I1 R1 → yKp n tg I R n1 tg1 I1 R1 → I1 83 0 = Int32.ofInt 0 → v.toInt = (I 83 1).toInt + x1.toInt ∧ (I1 83 1).toInt = (I 83 1).toInt + x1.toInt → c1 ≤ c + 400 → s1 ≤ s + 1600 → Q (.inl (some (.int v))) (n1, tg1, I1, R1) c1 s1) (hQ1 : ¬ (1 ≤ x1.toInt ∧ x1.toInt ≤ 400) → ∀ (v : Int32) n1 tg1 I1 R1 c1 s1, ySh n1 tg1 R1 → yRI (K + 1) n1 tg1 I1 R1 → yKp n tg I R n1 tg1 I1 R1 → I1 83 0 = Int32.ofInt 1 → (I1 83 1).toInt = (I 83 1).toInt → c1 ≤ c + 400 → s1 ≤ s + 1600 → Q (.inl (some (.int v))) (n1, tg1, I1, R1) c1 s1) (hQ2 : (1 ≤ x1.toInt ∧ x1.toInt ≤ 400) ∧ 4000 < (I 83 1).toInt + x1.toInt → ∀ (v : Int32) n1 tg1 I1 R1 c1 s1, ySh n1 tg1 R1 → yRI (K + 1) n1 tg1 I1 R1 → yKp n tg I R n1 tg1 I1 R1 → I1 83 0 = Int32.ofInt 2 → (I1 83 1).toInt = (I 83 1).toInt → c1 ≤ c + 400 → s1 ≤ s + 1600 → Q (.inl (some (.int v))) (n1, tg1, I1, R1) c1 s1) : yC 226 [.ref 83, .int x1] (n, tg, I, R) c s Q := by
  have hno := Nat.le_refl n
  have hn := hno
  have hRo := hR0
  have hK : yKp n tg I R n tg I R := yKp.rf
  have hX : yX n tg I R n tg I R := yX.rf
  have hS := hS0
  have hR := hR0
  have h94 : 94 ≤ n := hS0.1
  have hz : ySz I I := hX.sz h94
  have hxn := hX.1
  have hN := hR0.1
  have hnb : 94 ≤ n := hR0.2.2.2.2.2.2
  refine y_in (M := xm_X14_pass) (ls := [some _, some _, _, _, _]) rfl rfl rfl ?_
  refine y_aload_n rfl rfl ?_
  refine y_iload_n rfl rfl ?_
  refine y_iconst rfl ?_
  refine y_sip rfl (by decide) ?_
  refine y_static rfl rfl rfl rfl rfl ?_
  refine r_isIn (fun h_1 h_2 => ?_) (fun h_3 => ?_)
  · rw [yz_1] at h_1
    rw [yz_400] at h_2
    refine y_ret1 ?_
    refine y_if_neT rfl j_X14_pass_16 (by decide) ?_
    refine y_iconst rfl ?_
    refine y_iconst rfl ?_
    refine y_virt rfl rfl rfl rfl rfl (ySh.t hS rfl) (ySh.n hS rfl) ?_
    refine y_in (M := xm_X14_start) (ls := [some _, some _, some _]) rfl rfl rfl ?_
    refine y_aload_n rfl rfl ?_
    refine y_iconst rfl ?_
    refine y_putI rfl (ySh.t hS rfl) (ySh.n hS rfl) rfl (Nat.le_of_ble_eq_true rfl) rfl rfl ?_
    refine y_nameI (fun I4 e4 => ?_)
    have hR1 := (hR0.grow hX).mod0 e4 (by decide) (by decide)
    have hK := (hK.x hRo hno hX).upI (upI e4) (by decide) (by decide) (fun i hi => by have := (hRo.l87.2.2.2.2 i hi).2.1; omega) (by rw [e4, upd2_ne (.inr (by decide))]; exact Int.le_refl _)
    have hth : I4 83 0 = Int32.ofInt (0) := by rw [e4, upd2_self]
    have hzz : ySz8 I I4 := ySz8_of (upI e4) (by rw [e4]; exact ⟨upd2_ne (.inr (by decide)), upd2_ne (.inr (by decide))⟩)
    have hS0 := hS
    have hR0 := hR1
    have hn := Nat.le_refl n
    have h94 := hS0.1
    have hX := @yX.rf n tg I4 R
    have hS := hS0.x hX
    have hR := hR0.x hn hX
    have hz := hX.sz h94
    have hxn := hX.1
    have hN := hR0.1
    have hnb := hR0.2.2.2.2.2.2
    have hthB := hth
    refine y_aload_n rfl rfl ?_
    refine y_iload_n rfl rfl ?_
    refine y_iload_n rfl rfl ?_
    refine y_virt rfl rfl rfl rfl rfl (ySh.t hS rfl) (ySh.n hS rfl) ?_
    refine y_in (M := xm_X14_refuse) (ls := [some _, some _, some _]) rfl rfl rfl ?_
    refine y_iload_n rfl rfl ?_
    refine y_if_eqT rfl j_X14_refuse_16 (by decide) ?_
    refine y_aload_n rfl rfl ?_
    refine y_getIv (v := Int32.ofInt (0)) rfl (ySh.t hS rfl) (ySh.n hS rfl) rfl rfl hth ?_
    refine y_if_leT rfl j_X14_refuse_27 (by decide) ?_
    refine y_iconst rfl ?_
    refine y_ireturn rfl rfl rfl ?_
    refine y_ret1 ?_
    refine y_ireturn rfl rfl rfl ?_
    refine y_ret1 ?_
    refine y_if_neF rfl (by decide) ?_
    refine y_aload_n rfl rfl ?_
    refine y_aload_n rfl rfl ?_
    refine y_getI rfl (ySh.t hS rfl) (ySh.n hS rfl) rfl rfl ?_
    refine y_iload_n rfl rfl ?_
    refine y_iadd rfl ?_
    have hsum := yadd4 (a := I4 83 1) (b := x1) (by omega) (by omega) (by omega) (by omega)
    refine y_sip rfl (by decide) ?_
    refine y_icmp_le rfl j_X14_pass_41 (fun h_5 => ?_) (fun h_6 => ?_)
    · rw [yz_4000] at h_5
      refine y_iconst rfl ?_
      refine y_iconst rfl ?_
      refine y_virt rfl rfl rfl rfl rfl (ySh.t hS rfl) (ySh.n hS rfl) ?_
      refine y_in (M := xm_X14_refuse) (ls := [some _, some _, some _]) rfl rfl rfl ?_
      refine y_iload_n rfl rfl ?_
      refine y_if_eqT rfl j_X14_refuse_16 (by decide) ?_
      refine y_aload_n rfl rfl ?_
      refine y_getIv (v := Int32.ofInt (0)) rfl (ySh.t hS rfl) (ySh.n hS rfl) rfl rfl hth ?_
      refine y_if_leT rfl j_X14_refuse_27 (by decide) ?_
      refine y_iconst rfl ?_
      refine y_ireturn rfl rfl rfl ?_
      refine y_ret1 ?_
      refine y_if_eqT rfl j_X14_pass_51 (by decide) ?_
      refine y_iconst rfl ?_
      refine y_istore_n (ls' := [some _, some _, some _, _, _]) rfl rfl rfl ?_
      exact lm_pass53E (T0 := (I 83 1).toInt + x1.toInt) (tt := Int32.ofInt 0) (by omega) hRo (by omega) (fun v n1 tg1 I1 R1 c1 s1 a b d v1 v2 v3 e f => hQ0 (by omega) _ _ _ _ _ _ _ a (b.up (Nat.le_succ K) hk6) d v3 ⟨v1, v2⟩ e f) 401 _ _ _ _ _ _ _ hS (hR0.grow hX) (hK.x hRo hno hX) (by decide) (by show (0 : Int) ≤ _; omega) (by rw [yz_0]; omega) hth (by simp) (by simp) (by show _ - (0 : Int) < 401; omega)
    · rw [yz_4000] at h_6
      refine y_iconst rfl ?_
      refine y_goto rfl j_X14_pass_42 ?_
      refine y_iconst rfl ?_
      refine y_virt rfl rfl rfl rfl rfl (ySh.t hS rfl) (ySh.n hS rfl) ?_
      refine y_in (M := xm_X14_refuse) (ls := [some _, some _, some _]) rfl rfl rfl ?_
      refine y_iload_n rfl rfl ?_
      refine y_if_eqF rfl (by decide) ?_
      refine y_aload_n rfl rfl ?_
      refine y_getIv (v := Int32.ofInt (0)) rfl (ySh.t hS rfl) (ySh.n hS rfl) rfl rfl hth ?_
      refine y_if_neF rfl (by decide) ?_
      refine y_aload_n rfl rfl ?_
      refine y_iload_n rfl rfl ?_
      refine y_putI rfl (ySh.t hS rfl) (ySh.n hS rfl) rfl (Nat.le_of_ble_eq_true rfl) rfl rfl ?_
      refine y_nameI (fun I7 e7 => ?_)
      have hR1 := (hR0.grow hX).mod0 e7 (by decide) (by decide)
      have hK := (hK.x hRo hno hX).upI (upI e7) (by decide) (by decide) (fun i hi => by have := (hRo.l87.2.2.2.2 i hi).2.1; omega) (by rw [e7, upd2_ne (.inr (by decide))]; exact Int.le_refl _)
      have hth : I7 83 0 = Int32.ofInt (2) := by rw [e7, upd2_self]
      have hzz : ySz8 I4 I7 := ySz8_of (upI e7) (by rw [e7]; exact ⟨upd2_ne (.inr (by decide)), upd2_ne (.inr (by decide))⟩)
      have hS0 := hS
      have hR0 := hR1
      have hn := Nat.le_refl n
      have h94 := hS0.1
      have hX := @yX.rf n tg I7 R
      have hS := hS0.x hX
      have hR := hR0.x hn hX
      have hz := hX.sz h94
      have hxn := hX.1
      have hN := hR0.1
      have hnb := hR0.2.2.2.2.2.2
      have hthB := hth
      refine y_aload_n rfl rfl ?_
      refine y_getIv (v := Int32.ofInt (2)) rfl (ySh.t hS rfl) (ySh.n hS rfl) rfl rfl hth ?_
      refine y_if_leF rfl (by decide) ?_
      refine y_iconst rfl ?_
      refine y_goto rfl j_X14_refuse_28 ?_
      refine y_ireturn rfl rfl rfl ?_
      refine y_ret1 ?_
      refine y_if_eqF rfl (by decide) ?_
      refine y_iconst rfl ?_
      refine y_ireturn rfl rfl rfl ?_
      exact hQ2 (by omega) _ _ _ _ _ _ _ hS ((hR0.grow hX).up (Nat.le_succ K) hk6) (hK.x hRo hno hX) hth (by omega) (by omega) (by omega)
  · rw [yz_1] at h_3
    rw [yz_400] at h_3
    refine y_ret1 ?_
    refine y_if_neF rfl (by decide) ?_
    refine y_iconst rfl ?_
    refine y_goto rfl j_X14_pass_17 ?_
    refine y_iconst rfl ?_
    refine y_virt rfl rfl rfl rfl rfl (ySh.t hS rfl) (ySh.n hS rfl) ?_
    refine y_in (M := xm_X14_start) (ls := [some _, some _, some _]) rfl rfl rfl ?_
    refine y_aload_n rfl rfl ?_
    refine y_iconst rfl ?_
    refine y_putI rfl (ySh.t hS rfl) (ySh.n hS rfl) rfl (Nat.le_of_ble_eq_true rfl) rfl rfl ?_
    refine y_nameI (fun I8 e8 => ?_)
    have hR1 := (hR0.grow hX).mod0 e8 (by decide) (by decide)
    have hK := (hK.x hRo hno hX).upI (upI e8) (by decide) (by decide) (fun i hi => by have := (hRo.l87.2.2.2.2 i hi).2.1; omega) (by rw [e8, upd2_ne (.inr (by decide))]; exact Int.le_refl _)
    have hth : I8 83 0 = Int32.ofInt (0) := by rw [e8, upd2_self]
    have hzz : ySz8 I I8 := ySz8_of (upI e8) (by rw [e8]; exact ⟨upd2_ne (.inr (by decide)), upd2_ne (.inr (by decide))⟩)
    have hS0 := hS
    have hR0 := hR1
    have hn := Nat.le_refl n
    have h94 := hS0.1
    have hX := @yX.rf n tg I8 R
    have hS := hS0.x hX
    have hR := hR0.x hn hX
    have hz := hX.sz h94
    have hxn := hX.1
    have hN := hR0.1
    have hnb := hR0.2.2.2.2.2.2
    have hthB := hth
    refine y_aload_n rfl rfl ?_
    refine y_iload_n rfl rfl ?_
    refine y_iload_n rfl rfl ?_
    refine y_virt rfl rfl rfl rfl rfl (ySh.t hS rfl) (ySh.n hS rfl) ?_
    refine y_in (M := xm_X14_refuse) (ls := [some _, some _, some _]) rfl rfl rfl ?_
    refine y_iload_n rfl rfl ?_
    refine y_if_eqF rfl (by decide) ?_
    refine y_aload_n rfl rfl ?_
    refine y_getIv (v := Int32.ofInt (0)) rfl (ySh.t hS rfl) (ySh.n hS rfl) rfl rfl hth ?_
    refine y_if_neF rfl (by decide) ?_
    refine y_aload_n rfl rfl ?_
    refine y_iload_n rfl rfl ?_
    refine y_putI rfl (ySh.t hS rfl) (ySh.n hS rfl) rfl (Nat.le_of_ble_eq_true rfl) rfl rfl ?_
    refine y_nameI (fun I9 e9 => ?_)
    have hR1 := (hR0.grow hX).mod0 e9 (by decide) (by decide)
    have hK := (hK.x hRo hno hX).upI (upI e9) (by decide) (by decide) (fun i hi => by have := (hRo.l87.2.2.2.2 i hi).2.1; omega) (by rw [e9, upd2_ne (.inr (by decide))]; exact Int.le_refl _)
    have hth : I9 83 0 = Int32.ofInt (1) := by rw [e9, upd2_self]
    have hzz : ySz8 I8 I9 := ySz8_of (upI e9) (by rw [e9]; exact ⟨upd2_ne (.inr (by decide)), upd2_ne (.inr (by decide))⟩)
    have hS0 := hS
    have hR0 := hR1
    have hn := Nat.le_refl n
    have h94 := hS0.1
    have hX := @yX.rf n tg I9 R
    have hS := hS0.x hX
    have hR := hR0.x hn hX
    have hz := hX.sz h94
    have hxn := hX.1
    have hN := hR0.1
    have hnb := hR0.2.2.2.2.2.2
    have hthB := hth
    refine y_aload_n rfl rfl ?_
    refine y_getIv (v := Int32.ofInt (1)) rfl (ySh.t hS rfl) (ySh.n hS rfl) rfl rfl hth ?_
    refine y_if_leF rfl (by decide) ?_
    refine y_iconst rfl ?_
    refine y_goto rfl j_X14_refuse_28 ?_
    refine y_ireturn rfl rfl rfl ?_
    refine y_ret1 ?_
    refine y_ireturn rfl rfl rfl ?_
    refine y_ret1 ?_
    refine y_if_neT rfl j_X14_pass_49 (by decide) ?_
    refine y_iconst rfl ?_
    refine y_ireturn rfl rfl rfl ?_
    exact hQ1 (by omega) _ _ _ _ _ _ _ hS ((hR0.grow hX).up (Nat.le_succ K) hk6) (hK.x hRo hno hX) hth (by omega) (by omega) (by omega)
theorem f_hold (hS0 : ySh n tg R) (hR0 : yRI K n tg I R) (hk6 : K < 600) {x1 x2 x3 : Int32} (hE : ¬ ((0 ≤ x1.toInt ∧ x1.toInt ≤ 4) ∧ (0 ≤ x2.toInt ∧ x2.toInt ≤ 4)) → ∀ (v : Int32) n1 tg1 I1 R1 c1 s1, ySh n1 tg1 R1 → yRI (K + 1) n1 tg1 I1 R1 → yKp n tg I R n1 tg1 I1 R1 → I1 83 0 = Int32.ofInt 1 → (I1 88 2).toInt = (I 88 2).toInt ∧ (I1 89 2).toInt = (I 89 2).toInt ∧ (I1 90 2).toInt = (I 90 2).toInt ∧ (I1 91 2).toInt = (I 91 2).toInt ∧ (I1 92 2).toInt = (I 92 2).toInt → c1 ≤ c + 0 → s1 ≤ s + 0 → Q (.inl (some (.int v))) (n1, tg1, I1, R1) c1 s1) (hQ : (0 ≤ x1.toInt ∧ x1.toInt ≤ 4) → (0 ≤ x2.toInt ∧ x2.toInt ≤ 4) → ∀ (v : Int32) n1 tg1 I1 R1 c1 s1, ySh n1 tg1 R1 → yRI (K + 1) n1 tg1 I1 R1 → n ≤ n1 → (∀ a, a < n → tg1 a = tg a) → (∀ a, a < 83 → I1 a = I a) → R1 93 = R 93 → I1 83 0 = Int32.ofInt 0 → (∀ (q : Int) (j : Nat), yHv I1 R1 q j (I1 87 2).toInt.toNat = if x2.toInt = q ∧ x1.toInt = (j : Int) then (if x3.toInt = 0 then 0 else 1) else yHv I R q j (I 87 2).toInt.toNat) → v.toInt = ySum (fun j => yHv I1 R1 x2.toInt j (I1 87 2).toInt.toNat) 5 → (I1 88 2).toInt = (I 88 2).toInt ∧ (I1 89 2).toInt = (I 89 2).toInt ∧ (I1 90 2).toInt = (I 90 2).toInt ∧ (I1 91 2).toInt = (I 91 2).toInt ∧ (I1 92 2).toInt = (I 92 2).toInt → c1 ≤ c + 4 → s1 ≤ s + 1313 → Q (.inl (some (.int v))) (n1, tg1, I1, R1) c1 s1) : yC 194 [.ref 83, .int x1, .int x2, .int x3] (n, tg, I, R) c s Q := by
  have hno := Nat.le_refl n
  have hn := hno
  have hRo := hR0
  have hK : yKp n tg I R n tg I R := yKp.rf
  have hX : yX n tg I R n tg I R := yX.rf
  have hS := hS0
  have hR := hR0
  have h94 : 94 ≤ n := hS0.1
  have hz : ySz I I := hX.sz h94
  have hxn := hX.1
  have hN := hR0.1
  have hnb : 94 ≤ n := hR0.2.2.2.2.2.2
  refine y_in (M := xm_X14_hold) (ls := [some _, some _, some _, some _]) rfl rfl rfl ?_
  refine y_aload_n rfl rfl ?_
  refine y_iload_n rfl rfl ?_
  refine y_iconst rfl ?_
  refine y_iconst rfl ?_
  refine y_static rfl rfl rfl rfl rfl ?_
  refine r_isIn (fun h_1 h_2 => ?_) (fun h_3 => ?_)
  · rw [yz_0] at h_1
    rw [yz_4] at h_2
    refine y_ret1 ?_
    refine y_if_eqF rfl (by decide) ?_
    refine y_iload_n rfl rfl ?_
    refine y_iconst rfl ?_
    refine y_iconst rfl ?_
    refine y_static rfl rfl rfl rfl rfl ?_
    refine r_isIn (fun h_4 h_5 => ?_) (fun h_6 => ?_)
    · rw [yz_0] at h_4
      rw [yz_4] at h_5
      refine y_ret1 ?_
      refine y_if_neT rfl j_X14_hold_23 (by decide) ?_
      refine y_iconst rfl ?_
      refine y_iconst rfl ?_
      refine y_virt rfl rfl rfl rfl rfl (ySh.t hS rfl) (ySh.n hS rfl) ?_
      refine y_in (M := xm_X14_start) (ls := [some _, some _, some _]) rfl rfl rfl ?_
      refine y_aload_n rfl rfl ?_
      refine y_iconst rfl ?_
      refine y_putI rfl (ySh.t hS rfl) (ySh.n hS rfl) rfl (Nat.le_of_ble_eq_true rfl) rfl rfl ?_
      refine y_nameI (fun I7 e7 => ?_)
      have hR1 := (hR0.grow hX).mod0 e7 (by decide) (by decide)
      have hK := (hK.x hRo hno hX).upI (upI e7) (by decide) (by decide) (fun i hi => by have := (hRo.l87.2.2.2.2 i hi).2.1; omega) (by rw [e7, upd2_ne (.inr (by decide))]; exact Int.le_refl _)
      have hth : I7 83 0 = Int32.ofInt (0) := by rw [e7, upd2_self]
      have hzz : ySz8 I I7 := ySz8_of (upI e7) (by rw [e7]; exact ⟨upd2_ne (.inr (by decide)), upd2_ne (.inr (by decide))⟩)
      have hS0 := hS
      have hR0 := hR1
      have hn := Nat.le_refl n
      have h94 := hS0.1
      have hX := @yX.rf n tg I7 R
      have hS := hS0.x hX
      have hR := hR0.x hn hX
      have hz := hX.sz h94
      have hxn := hX.1
      have hN := hR0.1
      have hnb := hR0.2.2.2.2.2.2
      have hthB := hth
      refine y_aload_n rfl rfl ?_
      refine y_iload_n rfl rfl ?_
      refine y_iload_n rfl rfl ?_
      refine y_virt rfl rfl rfl rfl rfl (ySh.t hS rfl) (ySh.n hS rfl) ?_
      refine y_in (M := xm_X14_refuse) (ls := [some _, some _, some _]) rfl rfl rfl ?_
      refine y_iload_n rfl rfl ?_
      refine y_if_eqT rfl j_X14_refuse_16 (by decide) ?_
      refine y_aload_n rfl rfl ?_
      refine y_getIv (v := Int32.ofInt (0)) rfl (ySh.t hS rfl) (ySh.n hS rfl) rfl rfl hth ?_
      refine y_if_leT rfl j_X14_refuse_27 (by decide) ?_
      refine y_iconst rfl ?_
      refine y_ireturn rfl rfl rfl ?_
      refine y_ret1 ?_
      refine y_ireturn rfl rfl rfl ?_
      refine y_ret1 ?_
      refine y_if_eqT rfl j_X14_hold_33 (by decide) ?_
      refine y_aload_n rfl rfl ?_
      refine y_getR rfl (ySh.t hS rfl) (ySh.n hS rfl) rfl rfl (ySh.r hS rfl) ?_
      refine y_iconst rfl ?_
      refine y_newarrL (m := 4) rfl rfl (by decide) (by decide) rfl (fun n8 tg8 I8 R8 hA => ?_)
      have hnA := hA.1
      have ht_f9 : tg8 n = (0, 4) := hA.2.1
      have ha_f9 : n < n8 := by omega
      have hX := hX.trans (hA.x rfl)
      have hS := hS0.x hX
      have hR := hR0.x hn hX
      have hz := hX.sz h94
      have hxn := hX.1
      have hth := (congrFun ((hA.x rfl).2.1 83 (by omega)).2.1 0).trans hth
      refine y_dup rfl rfl ?_
      refine y_iconst rfl ?_
      refine y_aload_n rfl rfl ?_
      refine y_getI rfl (ySh.t hS rfl) (ySh.n hS rfl) rfl rfl ?_
      refine y_iastoreC (j := 0) rfl ht_f9 ha_f9 (Nat.le_trans (by decide) (by omega : 94 ≤ _)) (by decide) (by decide) rfl ?_
      refine y_nameI (fun I10 e10 => ?_)
      have hX := hX.upI (by omega) (upI e10)
      have hS := hS0.x hX
      have hR := hR0.x hn hX
      have hz := hX.sz h94
      have hxn := hX.1
      have hth := (congrFun (upI e10 83 (by omega)) 0).trans hth
      refine y_dup rfl rfl ?_
      refine y_iconst rfl ?_
      refine y_iload_n rfl rfl ?_
      refine y_iastoreC (j := 1) rfl ht_f9 ha_f9 (Nat.le_trans (by decide) (by omega : 94 ≤ _)) (by decide) (by decide) rfl ?_
      refine y_nameI (fun I11 e11 => ?_)
      have hX := hX.upI (by omega) (upI e11)
      have hS := hS0.x hX
      have hR := hR0.x hn hX
      have hz := hX.sz h94
      have hxn := hX.1
      have hth := (congrFun (upI e11 83 (by omega)) 0).trans hth
      refine y_dup rfl rfl ?_
      refine y_iconst rfl ?_
      refine y_iload_n rfl rfl ?_
      refine y_iastoreC (j := 2) rfl ht_f9 ha_f9 (Nat.le_trans (by decide) (by omega : 94 ≤ _)) (by decide) (by decide) rfl ?_
      refine y_nameI (fun I12 e12 => ?_)
      have hX := hX.upI (by omega) (upI e12)
      have hS := hS0.x hX
      have hR := hR0.x hn hX
      have hz := hX.sz h94
      have hxn := hX.1
      have hth := (congrFun (upI e12 83 (by omega)) 0).trans hth
      refine y_dup rfl rfl ?_
      refine y_iconst rfl ?_
      refine y_iload_n rfl rfl ?_
      refine y_static rfl rfl rfl rfl rfl ?_
      refine r_oneE (fun v_one hv_one => ?_)
      refine y_ret1 ?_
      refine y_iastoreC (j := 3) rfl ht_f9 ha_f9 (Nat.le_trans (by decide) (by omega : 94 ≤ _)) (by decide) (by decide) rfl ?_
      refine y_nameI (fun I13 e13 => ?_)
      have hX := hX.upI (by omega) (upI e13)
      have hS := hS0.x hX
      have hR := hR0.x hn hX
      have hz := hX.sz h94
      have hxn := hX.1
      have hth := (congrFun (upI e13 83 (by omega)) 0).trans hth
      refine y_virt rfl rfl rfl rfl rfl (ySh.t hS rfl) (ySh.n hS rfl) ?_
      have hnw : yNw n n8 tg8 n := fun a h1 h2 h3 => hX.2.2 a h1 h2
      have hKo := hK.x hRo hno hX
      refine l_add hS (by decide) (by decide) (ySh.t hS rfl) (Nat.le_trans hn hX.1) hR.l87 (by omega) (by omega) ha_f9 (fun n14 tg14 I14 R14 c_14 s_14 hAd hc_14 hs_14 => ?_)
      have hsA := hAd.sz
      have hnA := hAd.n
      have hsz88 := congrArg Int32.toInt (congrFun (hAd.I 88 (by omega) (by decide)) 2)
      have hsz89 := congrArg Int32.toInt (congrFun (hAd.I 89 (by omega) (by decide)) 2)
      have hsz90 := congrArg Int32.toInt (congrFun (hAd.I 90 (by omega) (by decide)) 2)
      have hsz91 := congrArg Int32.toInt (congrFun (hAd.I 91 (by omega) (by decide)) 2)
      have hsz92 := congrArg Int32.toInt (congrFun (hAd.I 92 (by omega) (by decide)) 2)
      have hNu : yNum (K + 1) I14 := yNum.add (K := K) hR.1 hAd (by omega) (by decide) (by decide) (Nat.le_succ K) (by omega) (fun _ => by omega) (fun h => by omega) (fun h => by omega) (fun h => by omega) (fun h => by omega) (fun h => by omega)
      have htx : tg14 n = (0, 4) := (hAd.tg _ ha_f9).trans ht_f9
      have hIx := hAd.I _ ha_f9 (by omega)
      have hOb : yOb (K + 1) n14 tg14 I14 R14 n := ⟨fun hq => absurd (show (0 : Nat) = 20 from congrArg Prod.fst (htx.symm.trans hq)) (by decide), fun hq => absurd (show (0 : Nat) = 19 from congrArg Prod.fst (htx.symm.trans hq)) (by decide), fun hq => absurd (show (0 : Nat) = 18 from congrArg Prod.fst (htx.symm.trans hq)) (by decide), fun hq => absurd (show (0 : Nat) = 21 from congrArg Prod.fst (htx.symm.trans hq)) (by decide)⟩
      have h83n : (83 : Nat) ≠ n := by omega
      have hw0 : I13 n 0 = I13 83 1 := by simp [e13, e12, e11, e10, upd2, h83n]
      have hw1 : I13 n 1 = x1 := by simp [e13, e12, e11, e10, upd2]
      have hw2 : I13 n 2 = x2 := by simp [e13, e12, e11, e10, upd2]
      have hw3 : (I13 n 3).toInt = if x3.toInt = 0 then 0 else 1 := by rw [show I13 n 3 = v_one by simp [e13, e12, e11, e10, upd2]]; exact hv_one
      have hwd : (87 : Nat) = 87 → (I13 n 0).toInt ≤ (I13 83 1).toInt ∧ (0 ≤ (I13 n 1).toInt ∧ (I13 n 1).toInt < 5) ∧ ((I13 n 3).toInt = 0 ∨ (I13 n 3).toInt = 1) := fun _ => ⟨by rw [hw0]; exact Int.le_refl _, by rw [hw1]; omega, by rw [hw3]; split <;> simp⟩
      have hR1 : yRI (K + 1) n14 tg14 I14 R14 := yRI.add hR (Nat.le_trans hn hX.1) hAd (by decide) (by decide) rfl (by omega) ha_f9 ht_f9 hnw (Nat.le_succ K) hNu hOb (fun h => absurd h (by decide)) hwd
      have hHv : ∀ (q : Int) (j : Nat), yHv I14 R14 q j (I14 87 2).toInt.toNat = if x2.toInt = q ∧ x1.toInt = (j : Int) then (if x3.toInt = 0 then 0 else 1) else yHv I R q j (I 87 2).toInt.toNat := fun q j => by
        rw [yHv_add hR (Nat.le_trans hn hX.1) (by omega) ha_f9 hAd q j, hw1, hw2, hw3, yHv_kp hKo]
      have h93 : R14 93 = R 93 := (hAd.R 93 (by omega) (by decide) (by have := hR.zl 87 (by decide) (by decide); omega)).trans (hX.2.1 93 (by omega)).2.2
      have h83 : ∀ a, a < 83 → I14 a = I a := fun a ha => (hAd.I a (by omega) (by omega)).trans (hKo.2.2.1 a ha)
      have htg : ∀ a, a < n → tg14 a = tg a := fun a ha => (hAd.tg a (by omega)).trans (hX.2.1 a ha).1
      have hth := (congrFun (hAd.I 83 (by omega) (by decide)) 0).trans hth
      have hS := hS.add hAd (by decide) (by decide) (hR.zl 87 (by decide) (by decide))
      have hS0 := hS
      have hR0 := hR1
      have hn := Nat.le_refl n14
      have h94 := hS0.1
      have hX := @yX.rf n14 tg14 I14 R14
      have hS := hS0.x hX
      have hR := hR0.x hn hX
      have hz := hX.sz h94
      have hxn := hX.1
      have hN := hR0.1
      have hnb := hR0.2.2.2.2.2.2
      refine y_ret1 ?_
      refine y_pop rfl rfl ?_
      refine y_aload_n rfl rfl ?_
      refine y_iload_n rfl rfl ?_
      refine y_aload_n rfl rfl ?_
      refine y_getI rfl (ySh.t hS rfl) (ySh.n hS rfl) rfl rfl ?_
      refine y_virt rfl rfl rfl rfl rfl (ySh.t hS rfl) (ySh.n hS rfl) ?_
      refine r_forItE hS hR (Nat.le_trans hn hX.1) (Int.le_refl _) (fun v n15 tg15 I15 R15 c_15 s_15 hv hX1 hc_15 hs_15 => ?_)
      have hxn1 := hX1.1
      have hzf := hX1.sz h94
      refine y_ret1 ?_
      refine y_ireturn rfl rfl rfl ?_
      exact hQ ⟨by omega, by omega⟩ ⟨by omega, by omega⟩ _ _ _ _ _ _ _ (hS.x hX1) (hR0.grow hX1) (by omega) (fun a ha => (hX1.2.1 a (by omega)).1.trans (htg a ha)) (fun a ha => (hX1.2.1 a (by omega)).2.1.trans (h83 a ha)) ((hX1.2.1 93 (by omega)).2.2.trans h93) ((congrFun (hX1.2.1 83 (by omega)).2.1 0).trans hth) (fun q j => (yHv_x hR0 hn hX1).trans (hHv q j)) (hv.trans (ySum_eq fun j _ => (yHv_x hR0 hn hX1).symm)) ⟨by omega, by omega, by omega, by omega, by omega⟩ (by omega) (by omega)
    · rw [yz_0] at h_6
      rw [yz_4] at h_6
      refine y_ret1 ?_
      refine y_if_neF rfl (by decide) ?_
      refine y_iconst rfl ?_
      refine y_goto rfl j_X14_hold_24 ?_
      refine y_iconst rfl ?_
      refine y_virt rfl rfl rfl rfl rfl (ySh.t hS rfl) (ySh.n hS rfl) ?_
      refine y_in (M := xm_X14_start) (ls := [some _, some _, some _]) rfl rfl rfl ?_
      refine y_aload_n rfl rfl ?_
      refine y_iconst rfl ?_
      refine y_putI rfl (ySh.t hS rfl) (ySh.n hS rfl) rfl (Nat.le_of_ble_eq_true rfl) rfl rfl ?_
      refine y_nameI (fun I16 e16 => ?_)
      have hR1 := (hR0.grow hX).mod0 e16 (by decide) (by decide)
      have hK := (hK.x hRo hno hX).upI (upI e16) (by decide) (by decide) (fun i hi => by have := (hRo.l87.2.2.2.2 i hi).2.1; omega) (by rw [e16, upd2_ne (.inr (by decide))]; exact Int.le_refl _)
      have hth : I16 83 0 = Int32.ofInt (0) := by rw [e16, upd2_self]
      have hzz : ySz8 I I16 := ySz8_of (upI e16) (by rw [e16]; exact ⟨upd2_ne (.inr (by decide)), upd2_ne (.inr (by decide))⟩)
      have hS0 := hS
      have hR0 := hR1
      have hn := Nat.le_refl n
      have h94 := hS0.1
      have hX := @yX.rf n tg I16 R
      have hS := hS0.x hX
      have hR := hR0.x hn hX
      have hz := hX.sz h94
      have hxn := hX.1
      have hN := hR0.1
      have hnb := hR0.2.2.2.2.2.2
      have hthB := hth
      refine y_aload_n rfl rfl ?_
      refine y_iload_n rfl rfl ?_
      refine y_iload_n rfl rfl ?_
      refine y_virt rfl rfl rfl rfl rfl (ySh.t hS rfl) (ySh.n hS rfl) ?_
      refine y_in (M := xm_X14_refuse) (ls := [some _, some _, some _]) rfl rfl rfl ?_
      refine y_iload_n rfl rfl ?_
      refine y_if_eqF rfl (by decide) ?_
      refine y_aload_n rfl rfl ?_
      refine y_getIv (v := Int32.ofInt (0)) rfl (ySh.t hS rfl) (ySh.n hS rfl) rfl rfl hth ?_
      refine y_if_neF rfl (by decide) ?_
      refine y_aload_n rfl rfl ?_
      refine y_iload_n rfl rfl ?_
      refine y_putI rfl (ySh.t hS rfl) (ySh.n hS rfl) rfl (Nat.le_of_ble_eq_true rfl) rfl rfl ?_
      refine y_nameI (fun I17 e17 => ?_)
      have hR1 := (hR0.grow hX).mod0 e17 (by decide) (by decide)
      have hK := (hK.x hRo hno hX).upI (upI e17) (by decide) (by decide) (fun i hi => by have := (hRo.l87.2.2.2.2 i hi).2.1; omega) (by rw [e17, upd2_ne (.inr (by decide))]; exact Int.le_refl _)
      have hth : I17 83 0 = Int32.ofInt (1) := by rw [e17, upd2_self]
      have hzz : ySz8 I16 I17 := ySz8_of (upI e17) (by rw [e17]; exact ⟨upd2_ne (.inr (by decide)), upd2_ne (.inr (by decide))⟩)
      have hS0 := hS
      have hR0 := hR1
      have hn := Nat.le_refl n
      have h94 := hS0.1
      have hX := @yX.rf n tg I17 R
      have hS := hS0.x hX
      have hR := hR0.x hn hX
      have hz := hX.sz h94
      have hxn := hX.1
      have hN := hR0.1
      have hnb := hR0.2.2.2.2.2.2
      have hthB := hth
      refine y_aload_n rfl rfl ?_
      refine y_getIv (v := Int32.ofInt (1)) rfl (ySh.t hS rfl) (ySh.n hS rfl) rfl rfl hth ?_
      refine y_if_leF rfl (by decide) ?_
      refine y_iconst rfl ?_
      refine y_goto rfl j_X14_refuse_28 ?_
      refine y_ireturn rfl rfl rfl ?_
      refine y_ret1 ?_
      refine y_ireturn rfl rfl rfl ?_
      refine y_ret1 ?_
      refine y_if_eqF rfl (by decide) ?_
      refine y_iconst rfl ?_
      refine y_ireturn rfl rfl rfl ?_
      exact hE (by omega) _ _ _ _ _ _ _ hS ((hR0.grow hX).up (Nat.le_succ K) hk6) (hK.x hRo hno hX) hth ⟨by omega, by omega, by omega, by omega, by omega⟩ (by omega) (by omega)
  · rw [yz_0] at h_3
    rw [yz_4] at h_3
    refine y_ret1 ?_
    refine y_if_eqT rfl j_X14_hold_19 (by decide) ?_
    refine y_iconst rfl ?_
    refine y_goto rfl j_X14_hold_24 ?_
    refine y_iconst rfl ?_
    refine y_virt rfl rfl rfl rfl rfl (ySh.t hS rfl) (ySh.n hS rfl) ?_
    refine y_in (M := xm_X14_start) (ls := [some _, some _, some _]) rfl rfl rfl ?_
    refine y_aload_n rfl rfl ?_
    refine y_iconst rfl ?_
    refine y_putI rfl (ySh.t hS rfl) (ySh.n hS rfl) rfl (Nat.le_of_ble_eq_true rfl) rfl rfl ?_
    refine y_nameI (fun I18 e18 => ?_)
    have hR1 := (hR0.grow hX).mod0 e18 (by decide) (by decide)
    have hK := (hK.x hRo hno hX).upI (upI e18) (by decide) (by decide) (fun i hi => by have := (hRo.l87.2.2.2.2 i hi).2.1; omega) (by rw [e18, upd2_ne (.inr (by decide))]; exact Int.le_refl _)
    have hth : I18 83 0 = Int32.ofInt (0) := by rw [e18, upd2_self]
    have hzz : ySz8 I I18 := ySz8_of (upI e18) (by rw [e18]; exact ⟨upd2_ne (.inr (by decide)), upd2_ne (.inr (by decide))⟩)
    have hS0 := hS
    have hR0 := hR1
    have hn := Nat.le_refl n
    have h94 := hS0.1
    have hX := @yX.rf n tg I18 R
    have hS := hS0.x hX
    have hR := hR0.x hn hX
    have hz := hX.sz h94
    have hxn := hX.1
    have hN := hR0.1
    have hnb := hR0.2.2.2.2.2.2
    have hthB := hth
    refine y_aload_n rfl rfl ?_
    refine y_iload_n rfl rfl ?_
    refine y_iload_n rfl rfl ?_
    refine y_virt rfl rfl rfl rfl rfl (ySh.t hS rfl) (ySh.n hS rfl) ?_
    refine y_in (M := xm_X14_refuse) (ls := [some _, some _, some _]) rfl rfl rfl ?_
    refine y_iload_n rfl rfl ?_
    refine y_if_eqF rfl (by decide) ?_
    refine y_aload_n rfl rfl ?_
    refine y_getIv (v := Int32.ofInt (0)) rfl (ySh.t hS rfl) (ySh.n hS rfl) rfl rfl hth ?_
    refine y_if_neF rfl (by decide) ?_
    refine y_aload_n rfl rfl ?_
    refine y_iload_n rfl rfl ?_
    refine y_putI rfl (ySh.t hS rfl) (ySh.n hS rfl) rfl (Nat.le_of_ble_eq_true rfl) rfl rfl ?_
    refine y_nameI (fun I19 e19 => ?_)
    have hR1 := (hR0.grow hX).mod0 e19 (by decide) (by decide)
    have hK := (hK.x hRo hno hX).upI (upI e19) (by decide) (by decide) (fun i hi => by have := (hRo.l87.2.2.2.2 i hi).2.1; omega) (by rw [e19, upd2_ne (.inr (by decide))]; exact Int.le_refl _)
    have hth : I19 83 0 = Int32.ofInt (1) := by rw [e19, upd2_self]
    have hzz : ySz8 I18 I19 := ySz8_of (upI e19) (by rw [e19]; exact ⟨upd2_ne (.inr (by decide)), upd2_ne (.inr (by decide))⟩)
    have hS0 := hS
    have hR0 := hR1
    have hn := Nat.le_refl n
    have h94 := hS0.1
    have hX := @yX.rf n tg I19 R
    have hS := hS0.x hX
    have hR := hR0.x hn hX
    have hz := hX.sz h94
    have hxn := hX.1
    have hN := hR0.1
    have hnb := hR0.2.2.2.2.2.2
    have hthB := hth
    refine y_aload_n rfl rfl ?_
    refine y_getIv (v := Int32.ofInt (1)) rfl (ySh.t hS rfl) (ySh.n hS rfl) rfl rfl hth ?_
    refine y_if_leF rfl (by decide) ?_
    refine y_iconst rfl ?_
    refine y_goto rfl j_X14_refuse_28 ?_
    refine y_ireturn rfl rfl rfl ?_
    refine y_ret1 ?_
    refine y_ireturn rfl rfl rfl ?_
    refine y_ret1 ?_
    refine y_if_eqF rfl (by decide) ?_
    refine y_iconst rfl ?_
    refine y_ireturn rfl rfl rfl ?_
    exact hE (by omega) _ _ _ _ _ _ _ hS ((hR0.grow hX).up (Nat.le_succ K) hk6) (hK.x hRo hno hX) hth ⟨by omega, by omega, by omega, by omega, by omega⟩ (by omega) (by omega)
end YEM
