/-! benchmark, exactly, on both sides (by gen_bench.py) -/
section YBE
variable {K n : Nat} {tg : Nat → yT} {I : Nat → Nat → Int32} {R : Nat → Nat → Value} {c s : Nat} {Q : yQ}
theorem e_benchmark (hS : ySh n tg R) {x1 : Int32} (hE : ¬ (0 ≤ x1.toInt ∧ x1.toInt ≤ 99) → Q (.inr "java/lang/IllegalArgumentException") (n, tg, I, R) (c + 1) (s + 6)) (hQ : (0 ≤ x1.toInt ∧ x1.toInt ≤ 99) → Q (.inl (some (.int (I 34 9)))) (n, tg, upd2 I 34 9 x1, R) c s) : yC 129 [.ref 34, .int x1] (n, tg, I, R) c s Q := by
  refine y_in (M := xm_X8_benchmark) (ls := [some _, some _, _]) rfl rfl rfl ?_
  refine y_iload_n rfl rfl ?_
  refine y_iconst rfl ?_
  refine y_bip rfl (by decide) ?_
  refine y_static rfl rfl rfl rfl rfl ?_
  refine y_in (M := xm_X8_isIn) (ls := [some _, some _, some _]) rfl rfl rfl ?_
  refine y_iload_n rfl rfl ?_
  refine y_iload_n rfl rfl ?_
  refine y_icmp_lt rfl j_X8_isIn_14 (fun h_1 => ?_) (fun h_2 => ?_)
  · rw [yz_0] at h_1
    refine y_iconst rfl ?_
    refine y_ireturn rfl rfl rfl ?_
    refine y_ret1 ?_
    refine y_if_neF rfl (by decide) ?_
    refine y_throw rfl rfl rfl ?_
    exact hE (by omega)
  · rw [yz_0] at h_2
    refine y_iload_n rfl rfl ?_
    refine y_iload_n rfl rfl ?_
    refine y_icmp_gt rfl j_X8_isIn_14 (fun h_3 => ?_) (fun h_4 => ?_)
    · rw [yz_99] at h_3
      refine y_iconst rfl ?_
      refine y_ireturn rfl rfl rfl ?_
      refine y_ret1 ?_
      refine y_if_neF rfl (by decide) ?_
      refine y_throw rfl rfl rfl ?_
      exact hE (by omega)
    · rw [yz_99] at h_4
      refine y_iconst rfl ?_
      refine y_goto rfl j_X8_isIn_15 ?_
      refine y_ireturn rfl rfl rfl ?_
      refine y_ret1 ?_
      refine y_if_neT rfl j_X8_benchmark_20 (by decide) ?_
      refine y_aload_n rfl rfl ?_
      refine y_getI rfl (ySh.t hS rfl) (ySh.n hS rfl) rfl rfl ?_
      refine y_istore_n (ls' := [some _, some _, some _]) rfl rfl rfl ?_
      refine y_aload_n rfl rfl ?_
      refine y_iload_n rfl rfl ?_
      refine y_putI rfl (ySh.t hS rfl) (ySh.n hS rfl) rfl (Nat.le_of_ble_eq_true rfl) rfl rfl ?_
      refine y_iload_n rfl rfl ?_
      refine y_ireturn rfl rfl rfl ?_
      exact hQ (by omega)
theorem e_nbench (hS0 : ySh n tg R) (hR0 : yRI K n tg I R) (hk6 : K < 600) {x1 : Int32} (hQ1 : (0 ≤ x1.toInt ∧ x1.toInt ≤ 99) → ∀ (v : Int32) n1 tg1 I1 R1 c1 s1, ySh n1 tg1 R1 → yRI (K + 1) n1 tg1 I1 R1 → yKp n tg I R n1 tg1 I1 R1 → I1 83 0 = Int32.ofInt 0 → R1 = R → v = I 83 4 → I1 83 4 = x1 → c1 ≤ c + 0 → s1 ≤ s + 0 → Q (.inl (some (.int v))) (n1, tg1, I1, R1) c1 s1) (hQ2 : ¬ (0 ≤ x1.toInt ∧ x1.toInt ≤ 99) → ∀ (v : Int32) n1 tg1 I1 R1 c1 s1, ySh n1 tg1 R1 → yRI (K + 1) n1 tg1 I1 R1 → yKp n tg I R n1 tg1 I1 R1 → I1 83 0 = Int32.ofInt 1 → R1 = R → I1 83 4 = I 83 4 → c1 ≤ c + 0 → s1 ≤ s + 0 → Q (.inl (some (.int v))) (n1, tg1, I1, R1) c1 s1) : yC 205 [.ref 83, .int x1] (n, tg, I, R) c s Q := by
  have hno := Nat.le_refl n
  have hn := hno
  have hRo := hR0
  have hK : yKp n tg I R n tg I R := yKp.rf
  have hX : yX n tg I R n tg I R := yX.rf
  have hS := hS0
  have hR := hR0
  have h94 : 94 ≤ n := hS0.1
  have hz : ySz I I := hX.sz h94
  have hxn := hX.1
  have hN := hR0.1
  have hnb : 94 ≤ n := hR0.2.2.2.2.2.2
  refine y_in (M := xm_X14_benchmark) (ls := [some _, some _, _]) rfl rfl rfl ?_
  refine y_aload_n rfl rfl ?_
  refine y_iload_n rfl rfl ?_
  refine y_iconst rfl ?_
  refine y_bip rfl (by decide) ?_
  refine y_static rfl rfl rfl rfl rfl ?_
  refine r_isIn (fun h_1 h_2 => ?_) (fun h_3 => ?_)
  · rw [yz_0] at h_1
    rw [yz_99] at h_2
    refine y_ret1 ?_
    refine y_if_neT rfl j_X14_benchmark_15 (by decide) ?_
    refine y_iconst rfl ?_
    refine y_iconst rfl ?_
    refine y_virt rfl rfl rfl rfl rfl (ySh.t hS rfl) (ySh.n hS rfl) ?_
    refine y_in (M := xm_X14_start) (ls := [some _, some _, some _]) rfl rfl rfl ?_
    refine y_aload_n rfl rfl ?_
    refine y_iconst rfl ?_
    refine y_putI rfl (ySh.t hS rfl) (ySh.n hS rfl) rfl (Nat.le_of_ble_eq_true rfl) rfl rfl ?_
    refine y_nameI (fun I4 e4 => ?_)
    have hR1 := (hR0.grow hX).mod0 e4 (by decide) (by decide)
    have hK := (hK.x hRo hno hX).upI (upI e4) (by decide) (by decide) (fun i hi => by have := (hRo.l87.2.2.2.2 i hi).2.1; omega) (by rw [e4, upd2_ne (.inr (by decide))]; exact Int.le_refl _)
    have hth : I4 83 0 = Int32.ofInt (0) := by rw [e4, upd2_self]
    have hzz : ySz8 I I4 := ySz8_of (upI e4) (by rw [e4]; exact ⟨upd2_ne (.inr (by decide)), upd2_ne (.inr (by decide))⟩)
    have hS0 := hS
    have hR0 := hR1
    have hn := Nat.le_refl n
    have h94 := hS0.1
    have hX := @yX.rf n tg I4 R
    have hS := hS0.x hX
    have hR := hR0.x hn hX
    have hz := hX.sz h94
    have hxn := hX.1
    have hN := hR0.1
    have hnb := hR0.2.2.2.2.2.2
    have hthB := hth
    refine y_aload_n rfl rfl ?_
    refine y_iload_n rfl rfl ?_
    refine y_iload_n rfl rfl ?_
    refine y_virt rfl rfl rfl rfl rfl (ySh.t hS rfl) (ySh.n hS rfl) ?_
    refine y_in (M := xm_X14_refuse) (ls := [some _, some _, some _]) rfl rfl rfl ?_
    refine y_iload_n rfl rfl ?_
    refine y_if_eqT rfl j_X14_refuse_16 (by decide) ?_
    refine y_aload_n rfl rfl ?_
    refine y_getIv (v := Int32.ofInt (0)) rfl (ySh.t hS rfl) (ySh.n hS rfl) rfl rfl hth ?_
    refine y_if_leT rfl j_X14_refuse_27 (by decide) ?_
    refine y_iconst rfl ?_
    refine y_ireturn rfl rfl rfl ?_
    refine y_ret1 ?_
    refine y_ireturn rfl rfl rfl ?_
    refine y_ret1 ?_
    refine y_if_eqT rfl j_X14_benchmark_25 (by decide) ?_
    refine y_aload_n rfl rfl ?_
    refine y_getI rfl (ySh.t hS rfl) (ySh.n hS rfl) rfl rfl ?_
    refine y_istore_n (ls' := [some _, some _, some _]) rfl rfl rfl ?_
    refine y_aload_n rfl rfl ?_
    refine y_iload_n rfl rfl ?_
    refine y_putI rfl (ySh.t hS rfl) (ySh.n hS rfl) rfl (Nat.le_of_ble_eq_true rfl) rfl rfl ?_
    refine y_nameI (fun I5 e5 => ?_)
    have hR1 := (hR0.grow hX).mod0 e5 (by decide) (by decide)
    have hK := (hK.x hRo hno hX).upI (upI e5) (by decide) (by decide) (fun i hi => by have := (hRo.l87.2.2.2.2 i hi).2.1; omega) (by rw [e5, upd2_ne (.inr (by decide))]; exact Int.le_refl _)
    have hth := (show I5 83 0 = I4 83 0 by rw [e5, upd2_ne (.inr (by decide))]).trans hth
    have hzz : ySz I4 I5 := ySz_ofM (upI e5) (by rw [e5]; exact ⟨upd2_ne (.inr (by decide)), upd2_ne (.inr (by decide)), upd2_ne (.inr (by decide))⟩)
    have hS0 := hS
    have hR0 := hR1
    have hn := Nat.le_refl n
    have h94 := hS0.1
    have hX := @yX.rf n tg I5 R
    have hS := hS0.x hX
    have hR := hR0.x hn hX
    have hz := hX.sz h94
    have hxn := hX.1
    have hN := hR0.1
    have hnb := hR0.2.2.2.2.2.2
    have hthB := hth
    refine y_iload_n rfl rfl ?_
    refine y_ireturn rfl rfl rfl ?_
    exact hQ1 (by omega) _ _ _ _ _ _ _ hS ((hR0.grow hX).up (Nat.le_succ K) hk6) (hK.x hRo hno hX) hth rfl (show I4 83 4 = I 83 4 by rw [e4, upd2_ne (.inr (by decide))]) (by rw [e5, upd2_self]) (by omega) (by omega)
  · rw [yz_0] at h_3
    rw [yz_99] at h_3
    refine y_ret1 ?_
    refine y_if_neF rfl (by decide) ?_
    refine y_iconst rfl ?_
    refine y_goto rfl j_X14_benchmark_16 ?_
    refine y_iconst rfl ?_
    refine y_virt rfl rfl rfl rfl rfl (ySh.t hS rfl) (ySh.n hS rfl) ?_
    refine y_in (M := xm_X14_start) (ls := [some _, some _, some _]) rfl rfl rfl ?_
    refine y_aload_n rfl rfl ?_
    refine y_iconst rfl ?_
    refine y_putI rfl (ySh.t hS rfl) (ySh.n hS rfl) rfl (Nat.le_of_ble_eq_true rfl) rfl rfl ?_
    refine y_nameI (fun I6 e6 => ?_)
    have hR1 := (hR0.grow hX).mod0 e6 (by decide) (by decide)
    have hK := (hK.x hRo hno hX).upI (upI e6) (by decide) (by decide) (fun i hi => by have := (hRo.l87.2.2.2.2 i hi).2.1; omega) (by rw [e6, upd2_ne (.inr (by decide))]; exact Int.le_refl _)
    have hth : I6 83 0 = Int32.ofInt (0) := by rw [e6, upd2_self]
    have hzz : ySz8 I I6 := ySz8_of (upI e6) (by rw [e6]; exact ⟨upd2_ne (.inr (by decide)), upd2_ne (.inr (by decide))⟩)
    have hS0 := hS
    have hR0 := hR1
    have hn := Nat.le_refl n
    have h94 := hS0.1
    have hX := @yX.rf n tg I6 R
    have hS := hS0.x hX
    have hR := hR0.x hn hX
    have hz := hX.sz h94
    have hxn := hX.1
    have hN := hR0.1
    have hnb := hR0.2.2.2.2.2.2
    have hthB := hth
    refine y_aload_n rfl rfl ?_
    refine y_iload_n rfl rfl ?_
    refine y_iload_n rfl rfl ?_
    refine y_virt rfl rfl rfl rfl rfl (ySh.t hS rfl) (ySh.n hS rfl) ?_
    refine y_in (M := xm_X14_refuse) (ls := [some _, some _, some _]) rfl rfl rfl ?_
    refine y_iload_n rfl rfl ?_
    refine y_if_eqF rfl (by decide) ?_
    refine y_aload_n rfl rfl ?_
    refine y_getIv (v := Int32.ofInt (0)) rfl (ySh.t hS rfl) (ySh.n hS rfl) rfl rfl hth ?_
    refine y_if_neF rfl (by decide) ?_
    refine y_aload_n rfl rfl ?_
    refine y_iload_n rfl rfl ?_
    refine y_putI rfl (ySh.t hS rfl) (ySh.n hS rfl) rfl (Nat.le_of_ble_eq_true rfl) rfl rfl ?_
    refine y_nameI (fun I7 e7 => ?_)
    have hR1 := (hR0.grow hX).mod0 e7 (by decide) (by decide)
    have hK := (hK.x hRo hno hX).upI (upI e7) (by decide) (by decide) (fun i hi => by have := (hRo.l87.2.2.2.2 i hi).2.1; omega) (by rw [e7, upd2_ne (.inr (by decide))]; exact Int.le_refl _)
    have hth : I7 83 0 = Int32.ofInt (1) := by rw [e7, upd2_self]
    have hzz : ySz8 I6 I7 := ySz8_of (upI e7) (by rw [e7]; exact ⟨upd2_ne (.inr (by decide)), upd2_ne (.inr (by decide))⟩)
    have hS0 := hS
    have hR0 := hR1
    have hn := Nat.le_refl n
    have h94 := hS0.1
    have hX := @yX.rf n tg I7 R
    have hS := hS0.x hX
    have hR := hR0.x hn hX
    have hz := hX.sz h94
    have hxn := hX.1
    have hN := hR0.1
    have hnb := hR0.2.2.2.2.2.2
    have hthB := hth
    refine y_aload_n rfl rfl ?_
    refine y_getIv (v := Int32.ofInt (1)) rfl (ySh.t hS rfl) (ySh.n hS rfl) rfl rfl hth ?_
    refine y_if_leF rfl (by decide) ?_
    refine y_iconst rfl ?_
    refine y_goto rfl j_X14_refuse_28 ?_
    refine y_ireturn rfl rfl rfl ?_
    refine y_ret1 ?_
    refine y_ireturn rfl rfl rfl ?_
    refine y_ret1 ?_
    refine y_if_eqF rfl (by decide) ?_
    refine y_iconst rfl ?_
    refine y_ireturn rfl rfl rfl ?_
    exact hQ2 (by omega) _ _ _ _ _ _ _ hS ((hR0.grow hX).up (Nat.le_succ K) hk6) (hK.x hRo hno hX) hth rfl (by rw [e7, upd2_ne (.inr (by decide)), e6, upd2_ne (.inr (by decide))]) (by omega) (by omega)
end YBE
