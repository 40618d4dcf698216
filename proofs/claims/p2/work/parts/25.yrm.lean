/-! THE REFERENCE: its methods, safe; the class's part and the board stay (by gen25.py) -/
section YRM
variable {K n : Nat} {tg : Nat → yT} {I : Nat → Nat → Int32} {R : Nat → Nat → Value} {c s : Nat} {Q : yQ}
theorem n_benchmark (hS0 : ySh n tg R) (hR0 : yRI K n tg I R) (hk6 : K < 600) {x1 : Int32} (hQ : ∀ (v : Int32) n1 tg1 I1 R1 c1 s1, ySh n1 tg1 R1 → yRI (K + 1) n1 tg1 I1 R1 → yKp n tg I R n1 tg1 I1 R1 → c1 ≤ c + 0 → s1 ≤ s + 0 → Q (.inl (some (.int v))) (n1, tg1, I1, R1) c1 s1) : yC 205 [.ref 83, .int x1] (n, tg, I, R) c s Q := by
  have hno := Nat.le_refl n
  have hn := hno
  have hRo := hR0
  have hK : yKp n tg I R n tg I R := yKp.rf
  have hX : yX n tg I R n tg I R := yX.rf
  have hS := hS0
  have hR := hR0
  have h94 : 94 ≤ n := hS0.1
  have hz : ySz I I := hX.sz h94
  have hxn := hX.1
  have hN := hR0.1
  have hnb : 94 ≤ n := hR0.2.2.2.2.2.2
  refine y_in (M := xm_X14_benchmark) (ls := [some _, some _, _]) rfl rfl rfl ?_
  refine y_aload_n rfl rfl ?_
  refine y_iload_n rfl rfl ?_
  refine y_iconst rfl ?_
  refine y_bip rfl (by decide) ?_
  refine y_static rfl rfl rfl rfl rfl ?_
  refine r_isIn (fun h_1 h_2 => ?_) (fun h_3 => ?_)
  · rw [yz_0] at h_1
    rw [yz_99] at h_2
    refine y_ret1 ?_
    refine y_if_neT rfl j_X14_benchmark_15 (by decide) ?_
    refine y_iconst rfl ?_
    refine y_iconst rfl ?_
    refine y_virt rfl rfl rfl rfl rfl (ySh.t hS rfl) (ySh.n hS rfl) ?_
    refine y_in (M := xm_X14_start) (ls := [some _, some _, some _]) rfl rfl rfl ?_
    refine y_aload_n rfl rfl ?_
    refine y_iconst rfl ?_
    refine y_putI rfl (ySh.t hS rfl) (ySh.n hS rfl) rfl (Nat.le_of_ble_eq_true rfl) rfl rfl ?_
    refine y_nameI (fun I4 e4 => ?_)
    have hR1 := (hR0.grow hX).mod0 e4 (by decide) (by decide)
    have hK := (hK.x hRo hno hX).upI (upI e4) (by decide) (by decide) (fun i hi => by have := (hRo.l87.2.2.2.2 i hi).2.1; omega) (by rw [e4, upd2_ne (.inr (by decide))]; exact Int.le_refl _)
    have hth : I4 83 0 = Int32.ofInt (0) := by rw [e4, upd2_self]
    have hzz : ySz8 I I4 := ySz8_of (upI e4) (by rw [e4]; exact ⟨upd2_ne (.inr (by decide)), upd2_ne (.inr (by decide))⟩)
    have hS0 := hS
    have hR0 := hR1
    have hn := Nat.le_refl n
    have h94 := hS0.1
    have hX := @yX.rf n tg I4 R
    have hS := hS0.x hX
    have hR := hR0.x hn hX
    have hz := hX.sz h94
    have hxn := hX.1
    have hN := hR0.1
    have hnb := hR0.2.2.2.2.2.2
    refine y_aload_n rfl rfl ?_
    refine y_iload_n rfl rfl ?_
    refine y_iload_n rfl rfl ?_
    refine y_virt rfl rfl rfl rfl rfl (ySh.t hS rfl) (ySh.n hS rfl) ?_
    refine y_in (M := xm_X14_refuse) (ls := [some _, some _, some _]) rfl rfl rfl ?_
    refine y_iload_n rfl rfl ?_
    refine y_if_eqT rfl j_X14_refuse_16 (by decide) ?_
    refine y_aload_n rfl rfl ?_
    refine y_getIv (v := Int32.ofInt (0)) rfl (ySh.t hS rfl) (ySh.n hS rfl) rfl rfl hth ?_
    refine y_if_leT rfl j_X14_refuse_27 (by decide) ?_
    refine y_iconst rfl ?_
    refine y_ireturn rfl rfl rfl ?_
    refine y_ret1 ?_
    refine y_ireturn rfl rfl rfl ?_
    refine y_ret1 ?_
    refine y_if_eqT rfl j_X14_benchmark_25 (by decide) ?_
    refine y_aload_n rfl rfl ?_
    refine y_getI rfl (ySh.t hS rfl) (ySh.n hS rfl) rfl rfl ?_
    refine y_istore_n (ls' := [some _, some _, some _]) rfl rfl rfl ?_
    refine y_aload_n rfl rfl ?_
    refine y_iload_n rfl rfl ?_
    refine y_putI rfl (ySh.t hS rfl) (ySh.n hS rfl) rfl (Nat.le_of_ble_eq_true rfl) rfl rfl ?_
    refine y_nameI (fun I5 e5 => ?_)
    have hR1 := (hR0.grow hX).mod0 e5 (by decide) (by decide)
    have hK := (hK.x hRo hno hX).upI (upI e5) (by decide) (by decide) (fun i hi => by have := (hRo.l87.2.2.2.2 i hi).2.1; omega) (by rw [e5, upd2_ne (.inr (by decide))]; exact Int.le_refl _)
    have hth := (show I5 83 0 = I4 83 0 by rw [e5, upd2_ne (.inr (by decide))]).trans hth
    have hzz : ySz I4 I5 := ySz_ofM (upI e5) (by rw [e5]; exact ⟨upd2_ne (.inr (by decide)), upd2_ne (.inr (by decide)), upd2_ne (.inr (by decide))⟩)
    have hS0 := hS
    have hR0 := hR1
    have hn := Nat.le_refl n
    have h94 := hS0.1
    have hX := @yX.rf n tg I5 R
    have hS := hS0.x hX
    have hR := hR0.x hn hX
    have hz := hX.sz h94
    have hxn := hX.1
    have hN := hR0.1
    have hnb := hR0.2.2.2.2.2.2
    refine y_iload_n rfl rfl ?_
    refine y_ireturn rfl rfl rfl ?_
    exact hQ _ _ _ _ _ _ _ hS ((hR0.grow hX).up (Nat.le_succ K) hk6) (hK.x hRo hno hX) (by omega) (by omega)
  · rw [yz_0] at h_3
    rw [yz_99] at h_3
    refine y_ret1 ?_
    refine y_if_neF rfl (by decide) ?_
    refine y_iconst rfl ?_
    refine y_goto rfl j_X14_benchmark_16 ?_
    refine y_iconst rfl ?_
    refine y_virt rfl rfl rfl rfl rfl (ySh.t hS rfl) (ySh.n hS rfl) ?_
    refine y_in (M := xm_X14_start) (ls := [some _, some _, some _]) rfl rfl rfl ?_
    refine y_aload_n rfl rfl ?_
    refine y_iconst rfl ?_
    refine y_putI rfl (ySh.t hS rfl) (ySh.n hS rfl) rfl (Nat.le_of_ble_eq_true rfl) rfl rfl ?_
    refine y_nameI (fun I6 e6 => ?_)
    have hR1 := (hR0.grow hX).mod0 e6 (by decide) (by decide)
    have hK := (hK.x hRo hno hX).upI (upI e6) (by decide) (by decide) (fun i hi => by have := (hRo.l87.2.2.2.2 i hi).2.1; omega) (by rw [e6, upd2_ne (.inr (by decide))]; exact Int.le_refl _)
    have hth : I6 83 0 = Int32.ofInt (0) := by rw [e6, upd2_self]
    have hzz : ySz8 I I6 := ySz8_of (upI e6) (by rw [e6]; exact ⟨upd2_ne (.inr (by decide)), upd2_ne (.inr (by decide))⟩)
    have hS0 := hS
    have hR0 := hR1
    have hn := Nat.le_refl n
    have h94 := hS0.1
    have hX := @yX.rf n tg I6 R
    have hS := hS0.x hX
    have hR := hR0.x hn hX
    have hz := hX.sz h94
    have hxn := hX.1
    have hN := hR0.1
    have hnb := hR0.2.2.2.2.2.2
    refine y_aload_n rfl rfl ?_
    refine y_iload_n rfl rfl ?_
    refine y_iload_n rfl rfl ?_
    refine y_virt rfl rfl rfl rfl rfl (ySh.t hS rfl) (ySh.n hS rfl) ?_
    refine y_in (M := xm_X14_refuse) (ls := [some _, some _, some _]) rfl rfl rfl ?_
    refine y_iload_n rfl rfl ?_
    refine y_if_eqF rfl (by decide) ?_
    refine y_aload_n rfl rfl ?_
    refine y_getIv (v := Int32.ofInt (0)) rfl (ySh.t hS rfl) (ySh.n hS rfl) rfl rfl hth ?_
    refine y_if_neF rfl (by decide) ?_
    refine y_aload_n rfl rfl ?_
    refine y_iload_n rfl rfl ?_
    refine y_putI rfl (ySh.t hS rfl) (ySh.n hS rfl) rfl (Nat.le_of_ble_eq_true rfl) rfl rfl ?_
    refine y_nameI (fun I7 e7 => ?_)
    have hR1 := (hR0.grow hX).mod0 e7 (by decide) (by decide)
    have hK := (hK.x hRo hno hX).upI (upI e7) (by decide) (by decide) (fun i hi => by have := (hRo.l87.2.2.2.2 i hi).2.1; omega) (by rw [e7, upd2_ne (.inr (by decide))]; exact Int.le_refl _)
    have hth : I7 83 0 = Int32.ofInt (1) := by rw [e7, upd2_self]
    have hzz : ySz8 I6 I7 := ySz8_of (upI e7) (by rw [e7]; exact ⟨upd2_ne (.inr (by decide)), upd2_ne (.inr (by decide))⟩)
    have hS0 := hS
    have hR0 := hR1
    have hn := Nat.le_refl n
    have h94 := hS0.1
    have hX := @yX.rf n tg I7 R
    have hS := hS0.x hX
    have hR := hR0.x hn hX
    have hz := hX.sz h94
    have hxn := hX.1
    have hN := hR0.1
    have hnb := hR0.2.2.2.2.2.2
    refine y_aload_n rfl rfl ?_
    refine y_getIv (v := Int32.ofInt (1)) rfl (ySh.t hS rfl) (ySh.n hS rfl) rfl rfl hth ?_
    refine y_if_leF rfl (by decide) ?_
    refine y_iconst rfl ?_
    refine y_goto rfl j_X14_refuse_28 ?_
    refine y_ireturn rfl rfl rfl ?_
    refine y_ret1 ?_
    refine y_ireturn rfl rfl rfl ?_
    refine y_ret1 ?_
    refine y_if_eqF rfl (by decide) ?_
    refine y_iconst rfl ?_
    refine y_ireturn rfl rfl rfl ?_
    exact hQ _ _ _ _ _ _ _ hS ((hR0.grow hX).up (Nat.le_succ K) hk6) (hK.x hRo hno hX) (by omega) (by omega)
theorem n_person (hS0 : ySh n tg R) (hR0 : yRI K n tg I R) (hk6 : K < 600) {x1 : Int32} (hQ : ∀ (v : Int32) n1 tg1 I1 R1 c1 s1, ySh n1 tg1 R1 → yRI (K + 1) n1 tg1 I1 R1 → yKp n tg I R n1 tg1 I1 R1 → c1 ≤ c + 0 → s1 ≤ s + 0 → Q (.inl (some (.int v))) (n1, tg1, I1, R1) c1 s1) : yC 195 [.ref 83, .int x1] (n, tg, I, R) c s Q := by
  have hno := Nat.le_refl n
  have hn := hno
  have hRo := hR0
  have hK : yKp n tg I R n tg I R := yKp.rf
  have hX : yX n tg I R n tg I R := yX.rf
  have hS := hS0
  have hR := hR0
  have h94 : 94 ≤ n := hS0.1
  have hz : ySz I I := hX.sz h94
  have hxn := hX.1
  have hN := hR0.1
  have hnb : 94 ≤ n := hR0.2.2.2.2.2.2
  refine y_in (M := xm_X14_person) (ls := [some _, some _]) rfl rfl rfl ?_
  refine y_aload_n rfl rfl ?_
  refine y_iload_n rfl rfl ?_
  refine y_iconst rfl ?_
  refine y_sip rfl (by decide) ?_
  refine y_static rfl rfl rfl rfl rfl ?_
  refine r_isIn (fun h_1 h_2 => ?_) (fun h_3 => ?_)
  · rw [yz_0] at h_1
    rw [yz_9999] at h_2
    refine y_ret1 ?_
    refine y_if_neT rfl j_X14_person_16 (by decide) ?_
    refine y_iconst rfl ?_
    refine y_iconst rfl ?_
    refine y_virt rfl rfl rfl rfl rfl (ySh.t hS rfl) (ySh.n hS rfl) ?_
    refine y_in (M := xm_X14_start) (ls := [some _, some _, some _]) rfl rfl rfl ?_
    refine y_aload_n rfl rfl ?_
    refine y_iconst rfl ?_
    refine y_putI rfl (ySh.t hS rfl) (ySh.n hS rfl) rfl (Nat.le_of_ble_eq_true rfl) rfl rfl ?_
    refine y_nameI (fun I4 e4 => ?_)
    have hR1 := (hR0.grow hX).mod0 e4 (by decide) (by decide)
    have hK := (hK.x hRo hno hX).upI (upI e4) (by decide) (by decide) (fun i hi => by have := (hRo.l87.2.2.2.2 i hi).2.1; omega) (by rw [e4, upd2_ne (.inr (by decide))]; exact Int.le_refl _)
    have hth : I4 83 0 = Int32.ofInt (0) := by rw [e4, upd2_self]
    have hzz : ySz8 I I4 := ySz8_of (upI e4) (by rw [e4]; exact ⟨upd2_ne (.inr (by decide)), upd2_ne (.inr (by decide))⟩)
    have hS0 := hS
    have hR0 := hR1
    have hn := Nat.le_refl n
    have h94 := hS0.1
    have hX := @yX.rf n tg I4 R
    have hS := hS0.x hX
    have hR := hR0.x hn hX
    have hz := hX.sz h94
    have hxn := hX.1
    have hN := hR0.1
    have hnb := hR0.2.2.2.2.2.2
    refine y_aload_n rfl rfl ?_
    refine y_iload_n rfl rfl ?_
    refine y_iload_n rfl rfl ?_
    refine y_virt rfl rfl rfl rfl rfl (ySh.t hS rfl) (ySh.n hS rfl) ?_
    refine y_in (M := xm_X14_refuse) (ls := [some _, some _, some _]) rfl rfl rfl ?_
    refine y_iload_n rfl rfl ?_
    refine y_if_eqT rfl j_X14_refuse_16 (by decide) ?_
    refine y_aload_n rfl rfl ?_
    refine y_getIv (v := Int32.ofInt (0)) rfl (ySh.t hS rfl) (ySh.n hS rfl) rfl rfl hth ?_
    refine y_if_leT rfl j_X14_refuse_27 (by decide) ?_
    refine y_iconst rfl ?_
    refine y_ireturn rfl rfl rfl ?_
    refine y_ret1 ?_
    refine y_ireturn rfl rfl rfl ?_
    refine y_ret1 ?_
    refine y_if_neF rfl (by decide) ?_
    refine y_aload_n rfl rfl ?_
    refine y_aload_n rfl rfl ?_
    refine y_getI rfl (ySh.t hS rfl) (ySh.n hS rfl) rfl rfl ?_
    refine y_bip rfl (by decide) ?_
    refine y_icmp_ne rfl j_X14_person_38 (fun h_5 => ?_) (fun h_6 => ?_)
    · rw [yz_8] at h_5
      refine y_iconst rfl ?_
      refine y_iconst rfl ?_
      refine y_virt rfl rfl rfl rfl rfl (ySh.t hS rfl) (ySh.n hS rfl) ?_
      refine y_in (M := xm_X14_refuse) (ls := [some _, some _, some _]) rfl rfl rfl ?_
      refine y_iload_n rfl rfl ?_
      refine y_if_eqT rfl j_X14_refuse_16 (by decide) ?_
      refine y_aload_n rfl rfl ?_
      refine y_getIv (v := Int32.ofInt (0)) rfl (ySh.t hS rfl) (ySh.n hS rfl) rfl rfl hth ?_
      refine y_if_leT rfl j_X14_refuse_27 (by decide) ?_
      refine y_iconst rfl ?_
      refine y_ireturn rfl rfl rfl ?_
      refine y_ret1 ?_
      refine y_if_eqT rfl j_X14_person_48 (by decide) ?_
      refine y_aload_n rfl rfl ?_
      refine y_getR rfl (ySh.t hS rfl) (ySh.n hS rfl) rfl rfl (ySh.r hS rfl) ?_
      refine y_aload_n rfl rfl ?_
      refine y_getI rfl (ySh.t hS rfl) (ySh.n hS rfl) rfl rfl ?_
      refine y_iload_n rfl rfl ?_
      refine y_iastore rfl (ySh.t hS rfl) (ySh.n hS rfl) (Nat.le_of_ble_eq_true rfl) (by omega) (by omega) ?_
      refine y_nameI (fun I7 e7 => ?_)
      have hR1 := (hR0.grow hX).arr e7 (by decide)
      have hK := (hK.x hRo hno hX).upI (upI e7) (by decide) (by decide) (fun i hi => by have := (hRo.l87.2.2.2.2 i hi).2.1; omega) (by rw [e7, upd2_ne (.inl (by omega))]; exact Int.le_refl _)
      have hth := (show I7 83 0 = I4 83 0 by rw [e7, upd2_ne (.inl (by omega))]).trans hth
      have hzz : ySz I4 I7 := ySz_ofE (upI e7) (by omega)
      have hS0 := hS
      have hR0 := hR1
      have hn := Nat.le_refl n
      have h94 := hS0.1
      have hX := @yX.rf n tg I7 R
      have hS := hS0.x hX
      have hR := hR0.x hn hX
      have hz := hX.sz h94
      have hxn := hX.1
      have hN := hR0.1
      have hnb := hR0.2.2.2.2.2.2
      refine y_aload_n rfl rfl ?_
      refine y_dup rfl rfl ?_
      refine y_getI rfl (ySh.t hS rfl) (ySh.n hS rfl) rfl rfl ?_
      refine y_iconst rfl ?_
      refine y_iadd rfl ?_
      refine y_putI rfl (ySh.t hS rfl) (ySh.n hS rfl) rfl (Nat.le_of_ble_eq_true rfl) rfl rfl ?_
      refine y_nameI (fun I8 e8 => ?_)
      have hR1 := (hR0.grow hX).mod (upI e8) (by rw [e8, upd2_self, yinc (by omega)]; omega) ⟨by rw [e8, upd2_ne (.inr (by decide))]; exact Int.le_refl _, by rw [e8, upd2_ne (.inr (by decide))]; omega⟩
      have hK := (hK.x hRo hno hX).upI (upI e8) (by decide) (by decide) (fun i hi => by have := (hRo.l87.2.2.2.2 i hi).2.1; omega) (by rw [e8, upd2_ne (.inr (by decide))]; exact Int.le_refl _)
      have hth := (show I8 83 0 = I7 83 0 by rw [e8, upd2_ne (.inr (by decide))]).trans hth
      skip
      have hS0 := hS
      have hR0 := hR1
      have hn := Nat.le_refl n
      have h94 := hS0.1
      have hX := @yX.rf n tg I8 R
      have hS := hS0.x hX
      have hR := hR0.x hn hX
      have hz := hX.sz h94
      have hxn := hX.1
      have hN := hR0.1
      have hnb := hR0.2.2.2.2.2.2
      refine y_aload_n rfl rfl ?_
      refine y_getI rfl (ySh.t hS rfl) (ySh.n hS rfl) rfl rfl ?_
      refine y_iconst rfl ?_
      refine y_isub rfl ?_
      refine y_ireturn rfl rfl rfl ?_
      exact hQ _ _ _ _ _ _ _ hS ((hR0.grow hX).up (Nat.le_succ K) hk6) (hK.x hRo hno hX) (by omega) (by omega)
    · rw [yz_8] at h_6
      refine y_iconst rfl ?_
      refine y_goto rfl j_X14_person_39 ?_
      refine y_iconst rfl ?_
      refine y_virt rfl rfl rfl rfl rfl (ySh.t hS rfl) (ySh.n hS rfl) ?_
      refine y_in (M := xm_X14_refuse) (ls := [some _, some _, some _]) rfl rfl rfl ?_
      refine y_iload_n rfl rfl ?_
      refine y_if_eqF rfl (by decide) ?_
      refine y_aload_n rfl rfl ?_
      refine y_getIv (v := Int32.ofInt (0)) rfl (ySh.t hS rfl) (ySh.n hS rfl) rfl rfl hth ?_
      refine y_if_neF rfl (by decide) ?_
      refine y_aload_n rfl rfl ?_
      refine y_iload_n rfl rfl ?_
      refine y_putI rfl (ySh.t hS rfl) (ySh.n hS rfl) rfl (Nat.le_of_ble_eq_true rfl) rfl rfl ?_
      refine y_nameI (fun I9 e9 => ?_)
      have hR1 := (hR0.grow hX).mod0 e9 (by decide) (by decide)
      have hK := (hK.x hRo hno hX).upI (upI e9) (by decide) (by decide) (fun i hi => by have := (hRo.l87.2.2.2.2 i hi).2.1; omega) (by rw [e9, upd2_ne (.inr (by decide))]; exact Int.le_refl _)
      have hth : I9 83 0 = Int32.ofInt (2) := by rw [e9, upd2_self]
      have hzz : ySz8 I4 I9 := ySz8_of (upI e9) (by rw [e9]; exact ⟨upd2_ne (.inr (by decide)), upd2_ne (.inr (by decide))⟩)
      have hS0 := hS
      have hR0 := hR1
      have hn := Nat.le_refl n
      have h94 := hS0.1
      have hX := @yX.rf n tg I9 R
      have hS := hS0.x hX
      have hR := hR0.x hn hX
      have hz := hX.sz h94
      have hxn := hX.1
      have hN := hR0.1
      have hnb := hR0.2.2.2.2.2.2
      refine y_aload_n rfl rfl ?_
      refine y_getIv (v := Int32.ofInt (2)) rfl (ySh.t hS rfl) (ySh.n hS rfl) rfl rfl hth ?_
      refine y_if_leF rfl (by decide) ?_
      refine y_iconst rfl ?_
      refine y_goto rfl j_X14_refuse_28 ?_
      refine y_ireturn rfl rfl rfl ?_
      refine y_ret1 ?_
      refine y_if_eqF rfl (by decide) ?_
      refine y_iconst rfl ?_
      refine y_ireturn rfl rfl rfl ?_
      exact hQ _ _ _ _ _ _ _ hS ((hR0.grow hX).up (Nat.le_succ K) hk6) (hK.x hRo hno hX) (by omega) (by omega)
  · rw [yz_0] at h_3
    rw [yz_9999] at h_3
    refine y_ret1 ?_
    refine y_if_neF rfl (by decide) ?_
    refine y_iconst rfl ?_
    refine y_goto rfl j_X14_person_17 ?_
    refine y_iconst rfl ?_
    refine y_virt rfl rfl rfl rfl rfl (ySh.t hS rfl) (ySh.n hS rfl) ?_
    refine y_in (M := xm_X14_start) (ls := [some _, some _, some _]) rfl rfl rfl ?_
    refine y_aload_n rfl rfl ?_
    refine y_iconst rfl ?_
    refine y_putI rfl (ySh.t hS rfl) (ySh.n hS rfl) rfl (Nat.le_of_ble_eq_true rfl) rfl rfl ?_
    refine y_nameI (fun I10 e10 => ?_)
    have hR1 := (hR0.grow hX).mod0 e10 (by decide) (by decide)
    have hK := (hK.x hRo hno hX).upI (upI e10) (by decide) (by decide) (fun i hi => by have := (hRo.l87.2.2.2.2 i hi).2.1; omega) (by rw [e10, upd2_ne (.inr (by decide))]; exact Int.le_refl _)
    have hth : I10 83 0 = Int32.ofInt (0) := by rw [e10, upd2_self]
    have hzz : ySz8 I I10 := ySz8_of (upI e10) (by rw [e10]; exact ⟨upd2_ne (.inr (by decide)), upd2_ne (.inr (by decide))⟩)
    have hS0 := hS
    have hR0 := hR1
    have hn := Nat.le_refl n
    have h94 := hS0.1
    have hX := @yX.rf n tg I10 R
    have hS := hS0.x hX
    have hR := hR0.x hn hX
    have hz := hX.sz h94
    have hxn := hX.1
    have hN := hR0.1
    have hnb := hR0.2.2.2.2.2.2
    refine y_aload_n rfl rfl ?_
    refine y_iload_n rfl rfl ?_
    refine y_iload_n rfl rfl ?_
    refine y_virt rfl rfl rfl rfl rfl (ySh.t hS rfl) (ySh.n hS rfl) ?_
    refine y_in (M := xm_X14_refuse) (ls := [some _, some _, some _]) rfl rfl rfl ?_
    refine y_iload_n rfl rfl ?_
    refine y_if_eqF rfl (by decide) ?_
    refine y_aload_n rfl rfl ?_
    refine y_getIv (v := Int32.ofInt (0)) rfl (ySh.t hS rfl) (ySh.n hS rfl) rfl rfl hth ?_
    refine y_if_neF rfl (by decide) ?_
    refine y_aload_n rfl rfl ?_
    refine y_iload_n rfl rfl ?_
    refine y_putI rfl (ySh.t hS rfl) (ySh.n hS rfl) rfl (Nat.le_of_ble_eq_true rfl) rfl rfl ?_
    refine y_nameI (fun I11 e11 => ?_)
    have hR1 := (hR0.grow hX).mod0 e11 (by decide) (by decide)
    have hK := (hK.x hRo hno hX).upI (upI e11) (by decide) (by decide) (fun i hi => by have := (hRo.l87.2.2.2.2 i hi).2.1; omega) (by rw [e11, upd2_ne (.inr (by decide))]; exact Int.le_refl _)
    have hth : I11 83 0 = Int32.ofInt (1) := by rw [e11, upd2_self]
    have hzz : ySz8 I10 I11 := ySz8_of (upI e11) (by rw [e11]; exact ⟨upd2_ne (.inr (by decide)), upd2_ne (.inr (by decide))⟩)
    have hS0 := hS
    have hR0 := hR1
    have hn := Nat.le_refl n
    have h94 := hS0.1
    have hX := @yX.rf n tg I11 R
    have hS := hS0.x hX
    have hR := hR0.x hn hX
    have hz := hX.sz h94
    have hxn := hX.1
    have hN := hR0.1
    have hnb := hR0.2.2.2.2.2.2
    refine y_aload_n rfl rfl ?_
    refine y_getIv (v := Int32.ofInt (1)) rfl (ySh.t hS rfl) (ySh.n hS rfl) rfl rfl hth ?_
    refine y_if_leF rfl (by decide) ?_
    refine y_iconst rfl ?_
    refine y_goto rfl j_X14_refuse_28 ?_
    refine y_ireturn rfl rfl rfl ?_
    refine y_ret1 ?_
    refine y_ireturn rfl rfl rfl ?_
    refine y_ret1 ?_
    refine y_if_neT rfl j_X14_person_46 (by decide) ?_
    refine y_iconst rfl ?_
    refine y_ireturn rfl rfl rfl ?_
    exact hQ _ _ _ _ _ _ _ hS ((hR0.grow hX).up (Nat.le_succ K) hk6) (hK.x hRo hno hX) (by omega) (by omega)
theorem n_deposit (hS0 : ySh n tg R) (hR0 : yRI K n tg I R) (hk6 : K < 600) {x1 x2 : Int32} (hQ : ∀ (v : Int32) n1 tg1 I1 R1 c1 s1, ySh n1 tg1 R1 → yRI (K + 1) n1 tg1 I1 R1 → yKp n tg I R n1 tg1 I1 R1 → c1 ≤ c + 0 → s1 ≤ s + 0 → Q (.inl (some (.int v))) (n1, tg1, I1, R1) c1 s1) : yC 216 [.ref 83, .int x1, .int x2] (n, tg, I, R) c s Q := by
  have hno := Nat.le_refl n
  have hn := hno
  have hRo := hR0
  have hK : yKp n tg I R n tg I R := yKp.rf
  have hX : yX n tg I R n tg I R := yX.rf
  have hS := hS0
  have hR := hR0
  have h94 : 94 ≤ n := hS0.1
  have hz : ySz I I := hX.sz h94
  have hxn := hX.1
  have hN := hR0.1
  have hnb : 94 ≤ n := hR0.2.2.2.2.2.2
  refine y_in (M := xm_X14_deposit) (ls := [some _, some _, some _]) rfl rfl rfl ?_
  refine y_aload_n rfl rfl ?_
  refine y_aload_n rfl rfl ?_
  refine y_iload_n rfl rfl ?_
  refine y_virt rfl rfl rfl rfl rfl (ySh.t hS rfl) (ySh.n hS rfl) ?_
  refine y_in (M := xm_X14_isNobody) (ls := [some _, some _]) rfl rfl rfl ?_
  refine y_iload_n rfl rfl ?_
  refine y_iconst rfl ?_
  refine y_aload_n rfl rfl ?_
  refine y_getI rfl (ySh.t hS rfl) (ySh.n hS rfl) rfl rfl ?_
  refine y_iconst rfl ?_
  refine y_isub rfl ?_
  refine y_static rfl rfl rfl rfl rfl ?_
  refine r_isIn (fun h_1 h_2 => ?_) (fun h_3 => ?_)
  · rw [yz_0] at h_1
    try rw [ysub (by rw [yz_1]; omega) (by rw [yz_1]; omega), yz_1] at h_2
    refine y_ret1 ?_
    refine y_if_neT rfl j_X14_isNobody_18 (by decide) ?_
    refine y_iconst rfl ?_
    refine y_ireturn rfl rfl rfl ?_
    refine y_ret1 ?_
    refine y_iconst rfl ?_
    refine y_virt rfl rfl rfl rfl rfl (ySh.t hS rfl) (ySh.n hS rfl) ?_
    refine y_in (M := xm_X14_start) (ls := [some _, some _, some _]) rfl rfl rfl ?_
    refine y_aload_n rfl rfl ?_
    refine y_iconst rfl ?_
    refine y_putI rfl (ySh.t hS rfl) (ySh.n hS rfl) rfl (Nat.le_of_ble_eq_true rfl) rfl rfl ?_
    refine y_nameI (fun I4 e4 => ?_)
    have hR1 := (hR0.grow hX).mod0 e4 (by decide) (by decide)
    have hK := (hK.x hRo hno hX).upI (upI e4) (by decide) (by decide) (fun i hi => by have := (hRo.l87.2.2.2.2 i hi).2.1; omega) (by rw [e4, upd2_ne (.inr (by decide))]; exact Int.le_refl _)
    have hth : I4 83 0 = Int32.ofInt (0) := by rw [e4, upd2_self]
    have hzz : ySz8 I I4 := ySz8_of (upI e4) (by rw [e4]; exact ⟨upd2_ne (.inr (by decide)), upd2_ne (.inr (by decide))⟩)
    have hS0 := hS
    have hR0 := hR1
    have hn := Nat.le_refl n
    have h94 := hS0.1
    have hX := @yX.rf n tg I4 R
    have hS := hS0.x hX
    have hR := hR0.x hn hX
    have hz := hX.sz h94
    have hxn := hX.1
    have hN := hR0.1
    have hnb := hR0.2.2.2.2.2.2
    refine y_aload_n rfl rfl ?_
    refine y_iload_n rfl rfl ?_
    refine y_iload_n rfl rfl ?_
    refine y_virt rfl rfl rfl rfl rfl (ySh.t hS rfl) (ySh.n hS rfl) ?_
    refine y_in (M := xm_X14_refuse) (ls := [some _, some _, some _]) rfl rfl rfl ?_
    refine y_iload_n rfl rfl ?_
    refine y_if_eqT rfl j_X14_refuse_16 (by decide) ?_
    refine y_aload_n rfl rfl ?_
    refine y_getIv (v := Int32.ofInt (0)) rfl (ySh.t hS rfl) (ySh.n hS rfl) rfl rfl hth ?_
    refine y_if_leT rfl j_X14_refuse_27 (by decide) ?_
    refine y_iconst rfl ?_
    refine y_ireturn rfl rfl rfl ?_
    refine y_ret1 ?_
    refine y_ireturn rfl rfl rfl ?_
    refine y_ret1 ?_
    refine y_if_neF rfl (by decide) ?_
    refine y_aload_n rfl rfl ?_
    refine y_iload_n rfl rfl ?_
    refine y_if_eq rfl j_X14_deposit_31 (fun h_5 => ?_) (fun h_6 => ?_)
    · refine y_iconst rfl ?_
      refine y_goto rfl j_X14_deposit_36 ?_
      refine y_iconst rfl ?_
      refine y_virt rfl rfl rfl rfl rfl (ySh.t hS rfl) (ySh.n hS rfl) ?_
      refine y_in (M := xm_X14_refuse) (ls := [some _, some _, some _]) rfl rfl rfl ?_
      refine y_iload_n rfl rfl ?_
      refine y_if_eqF rfl (by decide) ?_
      refine y_aload_n rfl rfl ?_
      refine y_getIv (v := Int32.ofInt (0)) rfl (ySh.t hS rfl) (ySh.n hS rfl) rfl rfl hth ?_
      refine y_if_neF rfl (by decide) ?_
      refine y_aload_n rfl rfl ?_
      refine y_iload_n rfl rfl ?_
      refine y_putI rfl (ySh.t hS rfl) (ySh.n hS rfl) rfl (Nat.le_of_ble_eq_true rfl) rfl rfl ?_
      refine y_nameI (fun I7 e7 => ?_)
      have hR1 := (hR0.grow hX).mod0 e7 (by decide) (by decide)
      have hK := (hK.x hRo hno hX).upI (upI e7) (by decide) (by decide) (fun i hi => by have := (hRo.l87.2.2.2.2 i hi).2.1; omega) (by rw [e7, upd2_ne (.inr (by decide))]; exact Int.le_refl _)
      have hth : I7 83 0 = Int32.ofInt (2) := by rw [e7, upd2_self]
      have hzz : ySz8 I4 I7 := ySz8_of (upI e7) (by rw [e7]; exact ⟨upd2_ne (.inr (by decide)), upd2_ne (.inr (by decide))⟩)
      have hS0 := hS
      have hR0 := hR1
      have hn := Nat.le_refl n
      have h94 := hS0.1
      have hX := @yX.rf n tg I7 R
      have hS := hS0.x hX
      have hR := hR0.x hn hX
      have hz := hX.sz h94
      have hxn := hX.1
      have hN := hR0.1
      have hnb := hR0.2.2.2.2.2.2
      refine y_aload_n rfl rfl ?_
      refine y_getIv (v := Int32.ofInt (2)) rfl (ySh.t hS rfl) (ySh.n hS rfl) rfl rfl hth ?_
      refine y_if_leF rfl (by decide) ?_
      refine y_iconst rfl ?_
      refine y_goto rfl j_X14_refuse_28 ?_
      refine y_ireturn rfl rfl rfl ?_
      refine y_ret1 ?_
      refine y_if_neT rfl j_X14_deposit_98 (by decide) ?_
      refine y_iconst rfl ?_
      refine y_ireturn rfl rfl rfl ?_
      exact hQ _ _ _ _ _ _ _ hS ((hR0.grow hX).up (Nat.le_succ K) hk6) (hK.x hRo hno hX) (by omega) (by omega)
    · refine y_iload_n rfl rfl ?_
      refine y_sip rfl (by decide) ?_
      refine y_sip rfl (by decide) ?_
      refine y_static rfl rfl rfl rfl rfl ?_
      refine r_isIn (fun h_8 h_9 => ?_) (fun h_10 => ?_)
      · rw [yz_m9999] at h_8
        rw [yz_9999] at h_9
        refine y_ret1 ?_
        refine y_if_neT rfl j_X14_deposit_35 (by decide) ?_
        refine y_iconst rfl ?_
        refine y_iconst rfl ?_
        refine y_virt rfl rfl rfl rfl rfl (ySh.t hS rfl) (ySh.n hS rfl) ?_
        refine y_in (M := xm_X14_refuse) (ls := [some _, some _, some _]) rfl rfl rfl ?_
        refine y_iload_n rfl rfl ?_
        refine y_if_eqT rfl j_X14_refuse_16 (by decide) ?_
        refine y_aload_n rfl rfl ?_
        refine y_getIv (v := Int32.ofInt (0)) rfl (ySh.t hS rfl) (ySh.n hS rfl) rfl rfl hth ?_
        refine y_if_leT rfl j_X14_refuse_27 (by decide) ?_
        refine y_iconst rfl ?_
        refine y_ireturn rfl rfl rfl ?_
        refine y_ret1 ?_
        refine y_if_neF rfl (by decide) ?_
        refine y_aload_n rfl rfl ?_
        refine y_iload_n rfl rfl ?_
        refine y_if_le rfl j_X14_deposit_58 (fun h_11 => ?_) (fun h_12 => ?_)
        · refine y_iload_n rfl rfl ?_
          refine y_if_ge rfl j_X14_deposit_73 (fun h_13 => ?_) (fun h_14 => ?_)
          · refine y_aload_n rfl rfl ?_
            refine y_getR rfl (ySh.t hS rfl) (ySh.n hS rfl) rfl rfl (ySh.r hS rfl) ?_
            refine y_iload_n rfl rfl ?_
            refine y_iaload rfl (ySh.t hS rfl) (ySh.n hS rfl) (by omega) (by omega) ?_
            refine y_iload_n rfl rfl ?_
            refine y_iadd rfl ?_
            refine y_ldcI (v := (99999 : Int)) rfl rfl rfl (by decide) ?_
            refine y_icmp_le rfl j_X14_deposit_90 (fun h_15 => ?_) (fun h_16 => ?_)
            · rw [yz_99999] at h_15
              refine y_iconst rfl ?_
              refine y_iconst rfl ?_
              refine y_virt rfl rfl rfl rfl rfl (ySh.t hS rfl) (ySh.n hS rfl) ?_
              refine y_in (M := xm_X14_refuse) (ls := [some _, some _, some _]) rfl rfl rfl ?_
              refine y_iload_n rfl rfl ?_
              refine y_if_eqT rfl j_X14_refuse_16 (by decide) ?_
              refine y_aload_n rfl rfl ?_
              refine y_getIv (v := Int32.ofInt (0)) rfl (ySh.t hS rfl) (ySh.n hS rfl) rfl rfl hth ?_
              refine y_if_leT rfl j_X14_refuse_27 (by decide) ?_
              refine y_iconst rfl ?_
              refine y_ireturn rfl rfl rfl ?_
              refine y_ret1 ?_
              refine y_if_eqT rfl j_X14_deposit_100 (by decide) ?_
              refine y_aload_n rfl rfl ?_
              refine y_getR rfl (ySh.t hS rfl) (ySh.n hS rfl) rfl rfl (ySh.r hS rfl) ?_
              refine y_iload_n rfl rfl ?_
              refine y_dup2 rfl rfl rfl ?_
              refine y_iaload rfl (ySh.t hS rfl) (ySh.n hS rfl) (by omega) (by omega) ?_
              refine y_iload_n rfl rfl ?_
              refine y_iadd rfl ?_
              refine y_iastore rfl (ySh.t hS rfl) (ySh.n hS rfl) (Nat.le_of_ble_eq_true rfl) (by omega) (by omega) ?_
              refine y_nameI (fun I17 e17 => ?_)
              have hR1 := (hR0.grow hX).arr e17 (by decide)
              have hK := (hK.x hRo hno hX).upI (upI e17) (by decide) (by decide) (fun i hi => by have := (hRo.l87.2.2.2.2 i hi).2.1; omega) (by rw [e17, upd2_ne (.inl (by omega))]; exact Int.le_refl _)
              have hth := (show I17 83 0 = I4 83 0 by rw [e17, upd2_ne (.inl (by omega))]).trans hth
              have hzz : ySz I4 I17 := ySz_ofE (upI e17) (by omega)
              have hS0 := hS
              have hR0 := hR1
              have hn := Nat.le_refl n
              have h94 := hS0.1
              have hX := @yX.rf n tg I17 R
              have hS := hS0.x hX
              have hR := hR0.x hn hX
              have hz := hX.sz h94
              have hxn := hX.1
              have hN := hR0.1
              have hnb := hR0.2.2.2.2.2.2
              refine y_aload_n rfl rfl ?_
              refine y_getR rfl (ySh.t hS rfl) (ySh.n hS rfl) rfl rfl (ySh.r hS rfl) ?_
              refine y_iload_n rfl rfl ?_
              refine y_dup2 rfl rfl rfl ?_
              refine y_iaload rfl (ySh.t hS rfl) (ySh.n hS rfl) (by omega) (by omega) ?_
              refine y_iload_n rfl rfl ?_
              refine y_isub rfl ?_
              refine y_iastore rfl (ySh.t hS rfl) (ySh.n hS rfl) (Nat.le_of_ble_eq_true rfl) (by omega) (by omega) ?_
              refine y_nameI (fun I18 e18 => ?_)
              have hR1 := (hR0.grow hX).arr e18 (by decide)
              have hK := (hK.x hRo hno hX).upI (upI e18) (by decide) (by decide) (fun i hi => by have := (hRo.l87.2.2.2.2 i hi).2.1; omega) (by rw [e18, upd2_ne (.inl (by omega))]; exact Int.le_refl _)
              have hth := (show I18 83 0 = I17 83 0 by rw [e18, upd2_ne (.inl (by omega))]).trans hth
              have hzz : ySz I17 I18 := ySz_ofE (upI e18) (by omega)
              have hS0 := hS
              have hR0 := hR1
              have hn := Nat.le_refl n
              have h94 := hS0.1
              have hX := @yX.rf n tg I18 R
              have hS := hS0.x hX
              have hR := hR0.x hn hX
              have hz := hX.sz h94
              have hxn := hX.1
              have hN := hR0.1
              have hnb := hR0.2.2.2.2.2.2
              refine y_aload_n rfl rfl ?_
              refine y_getR rfl (ySh.t hS rfl) (ySh.n hS rfl) rfl rfl (ySh.r hS rfl) ?_
              refine y_iload_n rfl rfl ?_
              refine y_iaload rfl (ySh.t hS rfl) (ySh.n hS rfl) (by omega) (by omega) ?_
              refine y_ireturn rfl rfl rfl ?_
              exact hQ _ _ _ _ _ _ _ hS ((hR0.grow hX).up (Nat.le_succ K) hk6) (hK.x hRo hno hX) (by omega) (by omega)
            · rw [yz_99999] at h_16
              refine y_iconst rfl ?_
              refine y_goto rfl j_X14_deposit_91 ?_
              refine y_iconst rfl ?_
              refine y_virt rfl rfl rfl rfl rfl (ySh.t hS rfl) (ySh.n hS rfl) ?_
              refine y_in (M := xm_X14_refuse) (ls := [some _, some _, some _]) rfl rfl rfl ?_
              refine y_iload_n rfl rfl ?_
              refine y_if_eqF rfl (by decide) ?_
              refine y_aload_n rfl rfl ?_
              refine y_getIv (v := Int32.ofInt (0)) rfl (ySh.t hS rfl) (ySh.n hS rfl) rfl rfl hth ?_
              refine y_if_neF rfl (by decide) ?_
              refine y_aload_n rfl rfl ?_
              refine y_iload_n rfl rfl ?_
              refine y_putI rfl (ySh.t hS rfl) (ySh.n hS rfl) rfl (Nat.le_of_ble_eq_true rfl) rfl rfl ?_
              refine y_nameI (fun I19 e19 => ?_)
              have hR1 := (hR0.grow hX).mod0 e19 (by decide) (by decide)
              have hK := (hK.x hRo hno hX).upI (upI e19) (by decide) (by decide) (fun i hi => by have := (hRo.l87.2.2.2.2 i hi).2.1; omega) (by rw [e19, upd2_ne (.inr (by decide))]; exact Int.le_refl _)
              have hth : I19 83 0 = Int32.ofInt (3) := by rw [e19, upd2_self]
              have hzz : ySz8 I4 I19 := ySz8_of (upI e19) (by rw [e19]; exact ⟨upd2_ne (.inr (by decide)), upd2_ne (.inr (by decide))⟩)
              have hS0 := hS
              have hR0 := hR1
              have hn := Nat.le_refl n
              have h94 := hS0.1
              have hX := @yX.rf n tg I19 R
              have hS := hS0.x hX
              have hR := hR0.x hn hX
              have hz := hX.sz h94
              have hxn := hX.1
              have hN := hR0.1
              have hnb := hR0.2.2.2.2.2.2
              refine y_aload_n rfl rfl ?_
              refine y_getIv (v := Int32.ofInt (3)) rfl (ySh.t hS rfl) (ySh.n hS rfl) rfl rfl hth ?_
              refine y_if_leF rfl (by decide) ?_
              refine y_iconst rfl ?_
              refine y_goto rfl j_X14_refuse_28 ?_
              refine y_ireturn rfl rfl rfl ?_
              refine y_ret1 ?_
              refine y_if_eqF rfl (by decide) ?_
              refine y_iconst rfl ?_
              refine y_ireturn rfl rfl rfl ?_
              exact hQ _ _ _ _ _ _ _ hS ((hR0.grow hX).up (Nat.le_succ K) hk6) (hK.x hRo hno hX) (by omega) (by omega)
          · refine y_aload_n rfl rfl ?_
            refine y_getR rfl (ySh.t hS rfl) (ySh.n hS rfl) rfl rfl (ySh.r hS rfl) ?_
            refine y_iload_n rfl rfl ?_
            refine y_iaload rfl (ySh.t hS rfl) (ySh.n hS rfl) (by omega) (by omega) ?_
            refine y_iload_n rfl rfl ?_
            refine y_ineg rfl ?_
            refine y_icmp_lt rfl j_X14_deposit_86 (fun h_20 => ?_) (fun h_21 => ?_)
            · refine y_iconst rfl ?_
              refine y_goto rfl j_X14_deposit_91 ?_
              refine y_iconst rfl ?_
              refine y_virt rfl rfl rfl rfl rfl (ySh.t hS rfl) (ySh.n hS rfl) ?_
              refine y_in (M := xm_X14_refuse) (ls := [some _, some _, some _]) rfl rfl rfl ?_
              refine y_iload_n rfl rfl ?_
              refine y_if_eqF rfl (by decide) ?_
              refine y_aload_n rfl rfl ?_
              refine y_getIv (v := Int32.ofInt (0)) rfl (ySh.t hS rfl) (ySh.n hS rfl) rfl rfl hth ?_
              refine y_if_neF rfl (by decide) ?_
              refine y_aload_n rfl rfl ?_
              refine y_iload_n rfl rfl ?_
              refine y_putI rfl (ySh.t hS rfl) (ySh.n hS rfl) rfl (Nat.le_of_ble_eq_true rfl) rfl rfl ?_
              refine y_nameI (fun I22 e22 => ?_)
              have hR1 := (hR0.grow hX).mod0 e22 (by decide) (by decide)
              have hK := (hK.x hRo hno hX).upI (upI e22) (by decide) (by decide) (fun i hi => by have := (hRo.l87.2.2.2.2 i hi).2.1; omega) (by rw [e22, upd2_ne (.inr (by decide))]; exact Int.le_refl _)
              have hth : I22 83 0 = Int32.ofInt (3) := by rw [e22, upd2_self]
              have hzz : ySz8 I4 I22 := ySz8_of (upI e22) (by rw [e22]; exact ⟨upd2_ne (.inr (by decide)), upd2_ne (.inr (by decide))⟩)
              have hS0 := hS
              have hR0 := hR1
              have hn := Nat.le_refl n
              have h94 := hS0.1
              have hX := @yX.rf n tg I22 R
              have hS := hS0.x hX
              have hR := hR0.x hn hX
              have hz := hX.sz h94
              have hxn := hX.1
              have hN := hR0.1
              have hnb := hR0.2.2.2.2.2.2
              refine y_aload_n rfl rfl ?_
              refine y_getIv (v := Int32.ofInt (3)) rfl (ySh.t hS rfl) (ySh.n hS rfl) rfl rfl hth ?_
              refine y_if_leF rfl (by decide) ?_
              refine y_iconst rfl ?_
              refine y_goto rfl j_X14_refuse_28 ?_
              refine y_ireturn rfl rfl rfl ?_
              refine y_ret1 ?_
              refine y_if_eqF rfl (by decide) ?_
              refine y_iconst rfl ?_
              refine y_ireturn rfl rfl rfl ?_
              exact hQ _ _ _ _ _ _ _ hS ((hR0.grow hX).up (Nat.le_succ K) hk6) (hK.x hRo hno hX) (by omega) (by omega)
            · refine y_aload_n rfl rfl ?_
              refine y_getR rfl (ySh.t hS rfl) (ySh.n hS rfl) rfl rfl (ySh.r hS rfl) ?_
              refine y_iload_n rfl rfl ?_
              refine y_iaload rfl (ySh.t hS rfl) (ySh.n hS rfl) (by omega) (by omega) ?_
              refine y_iload_n rfl rfl ?_
              refine y_iadd rfl ?_
              refine y_ldcI (v := (99999 : Int)) rfl rfl rfl (by decide) ?_
              refine y_icmp_le rfl j_X14_deposit_90 (fun h_23 => ?_) (fun h_24 => ?_)
              · rw [yz_99999] at h_23
                refine y_iconst rfl ?_
                refine y_iconst rfl ?_
                refine y_virt rfl rfl rfl rfl rfl (ySh.t hS rfl) (ySh.n hS rfl) ?_
                refine y_in (M := xm_X14_refuse) (ls := [some _, some _, some _]) rfl rfl rfl ?_
                refine y_iload_n rfl rfl ?_
                refine y_if_eqT rfl j_X14_refuse_16 (by decide) ?_
                refine y_aload_n rfl rfl ?_
                refine y_getIv (v := Int32.ofInt (0)) rfl (ySh.t hS rfl) (ySh.n hS rfl) rfl rfl hth ?_
                refine y_if_leT rfl j_X14_refuse_27 (by decide) ?_
                refine y_iconst rfl ?_
                refine y_ireturn rfl rfl rfl ?_
                refine y_ret1 ?_
                refine y_if_eqT rfl j_X14_deposit_100 (by decide) ?_
                refine y_aload_n rfl rfl ?_
                refine y_getR rfl (ySh.t hS rfl) (ySh.n hS rfl) rfl rfl (ySh.r hS rfl) ?_
                refine y_iload_n rfl rfl ?_
                refine y_dup2 rfl rfl rfl ?_
                refine y_iaload rfl (ySh.t hS rfl) (ySh.n hS rfl) (by omega) (by omega) ?_
                refine y_iload_n rfl rfl ?_
                refine y_iadd rfl ?_
                refine y_iastore rfl (ySh.t hS rfl) (ySh.n hS rfl) (Nat.le_of_ble_eq_true rfl) (by omega) (by omega) ?_
                refine y_nameI (fun I25 e25 => ?_)
                have hR1 := (hR0.grow hX).arr e25 (by decide)
                have hK := (hK.x hRo hno hX).upI (upI e25) (by decide) (by decide) (fun i hi => by have := (hRo.l87.2.2.2.2 i hi).2.1; omega) (by rw [e25, upd2_ne (.inl (by omega))]; exact Int.le_refl _)
                have hth := (show I25 83 0 = I4 83 0 by rw [e25, upd2_ne (.inl (by omega))]).trans hth
                have hzz : ySz I4 I25 := ySz_ofE (upI e25) (by omega)
                have hS0 := hS
                have hR0 := hR1
                have hn := Nat.le_refl n
                have h94 := hS0.1
                have hX := @yX.rf n tg I25 R
                have hS := hS0.x hX
                have hR := hR0.x hn hX
                have hz := hX.sz h94
                have hxn := hX.1
                have hN := hR0.1
                have hnb := hR0.2.2.2.2.2.2
                refine y_aload_n rfl rfl ?_
                refine y_getR rfl (ySh.t hS rfl) (ySh.n hS rfl) rfl rfl (ySh.r hS rfl) ?_
                refine y_iload_n rfl rfl ?_
                refine y_dup2 rfl rfl rfl ?_
                refine y_iaload rfl (ySh.t hS rfl) (ySh.n hS rfl) (by omega) (by omega) ?_
                refine y_iload_n rfl rfl ?_
                refine y_isub rfl ?_
                refine y_iastore rfl (ySh.t hS rfl) (ySh.n hS rfl) (Nat.le_of_ble_eq_true rfl) (by omega) (by omega) ?_
                refine y_nameI (fun I26 e26 => ?_)
                have hR1 := (hR0.grow hX).arr e26 (by decide)
                have hK := (hK.x hRo hno hX).upI (upI e26) (by decide) (by decide) (fun i hi => by have := (hRo.l87.2.2.2.2 i hi).2.1; omega) (by rw [e26, upd2_ne (.inl (by omega))]; exact Int.le_refl _)
                have hth := (show I26 83 0 = I25 83 0 by rw [e26, upd2_ne (.inl (by omega))]).trans hth
                have hzz : ySz I25 I26 := ySz_ofE (upI e26) (by omega)
                have hS0 := hS
                have hR0 := hR1
                have hn := Nat.le_refl n
                have h94 := hS0.1
                have hX := @yX.rf n tg I26 R
                have hS := hS0.x hX
                have hR := hR0.x hn hX
                have hz := hX.sz h94
                have hxn := hX.1
                have hN := hR0.1
                have hnb := hR0.2.2.2.2.2.2
                refine y_aload_n rfl rfl ?_
                refine y_getR rfl (ySh.t hS rfl) (ySh.n hS rfl) rfl rfl (ySh.r hS rfl) ?_
                refine y_iload_n rfl rfl ?_
                refine y_iaload rfl (ySh.t hS rfl) (ySh.n hS rfl) (by omega) (by omega) ?_
                refine y_ireturn rfl rfl rfl ?_
                exact hQ _ _ _ _ _ _ _ hS ((hR0.grow hX).up (Nat.le_succ K) hk6) (hK.x hRo hno hX) (by omega) (by omega)
              · rw [yz_99999] at h_24
                refine y_iconst rfl ?_
                refine y_goto rfl j_X14_deposit_91 ?_
                refine y_iconst rfl ?_
                refine y_virt rfl rfl rfl rfl rfl (ySh.t hS rfl) (ySh.n hS rfl) ?_
                refine y_in (M := xm_X14_refuse) (ls := [some _, some _, some _]) rfl rfl rfl ?_
                refine y_iload_n rfl rfl ?_
                refine y_if_eqF rfl (by decide) ?_
                refine y_aload_n rfl rfl ?_
                refine y_getIv (v := Int32.ofInt (0)) rfl (ySh.t hS rfl) (ySh.n hS rfl) rfl rfl hth ?_
                refine y_if_neF rfl (by decide) ?_
                refine y_aload_n rfl rfl ?_
                refine y_iload_n rfl rfl ?_
                refine y_putI rfl (ySh.t hS rfl) (ySh.n hS rfl) rfl (Nat.le_of_ble_eq_true rfl) rfl rfl ?_
                refine y_nameI (fun I27 e27 => ?_)
                have hR1 := (hR0.grow hX).mod0 e27 (by decide) (by decide)
                have hK := (hK.x hRo hno hX).upI (upI e27) (by decide) (by decide) (fun i hi => by have := (hRo.l87.2.2.2.2 i hi).2.1; omega) (by rw [e27, upd2_ne (.inr (by decide))]; exact Int.le_refl _)
                have hth : I27 83 0 = Int32.ofInt (3) := by rw [e27, upd2_self]
                have hzz : ySz8 I4 I27 := ySz8_of (upI e27) (by rw [e27]; exact ⟨upd2_ne (.inr (by decide)), upd2_ne (.inr (by decide))⟩)
                have hS0 := hS
                have hR0 := hR1
                have hn := Nat.le_refl n
                have h94 := hS0.1
                have hX := @yX.rf n tg I27 R
                have hS := hS0.x hX
                have hR := hR0.x hn hX
                have hz := hX.sz h94
                have hxn := hX.1
                have hN := hR0.1
                have hnb := hR0.2.2.2.2.2.2
                refine y_aload_n rfl rfl ?_
                refine y_getIv (v := Int32.ofInt (3)) rfl (ySh.t hS rfl) (ySh.n hS rfl) rfl rfl hth ?_
                refine y_if_leF rfl (by decide) ?_
                refine y_iconst rfl ?_
                refine y_goto rfl j_X14_refuse_28 ?_
                refine y_ireturn rfl rfl rfl ?_
                refine y_ret1 ?_
                refine y_if_eqF rfl (by decide) ?_
                refine y_iconst rfl ?_
                refine y_ireturn rfl rfl rfl ?_
                exact hQ _ _ _ _ _ _ _ hS ((hR0.grow hX).up (Nat.le_succ K) hk6) (hK.x hRo hno hX) (by omega) (by omega)
        · refine y_aload_n rfl rfl ?_
          refine y_getR rfl (ySh.t hS rfl) (ySh.n hS rfl) rfl rfl (ySh.r hS rfl) ?_
          refine y_iload_n rfl rfl ?_
          refine y_iaload rfl (ySh.t hS rfl) (ySh.n hS rfl) (by omega) (by omega) ?_
          refine y_iload_n rfl rfl ?_
          refine y_icmp_lt rfl j_X14_deposit_86 (fun h_28 => ?_) (fun h_29 => ?_)
          · refine y_iconst rfl ?_
            refine y_goto rfl j_X14_deposit_91 ?_
            refine y_iconst rfl ?_
            refine y_virt rfl rfl rfl rfl rfl (ySh.t hS rfl) (ySh.n hS rfl) ?_
            refine y_in (M := xm_X14_refuse) (ls := [some _, some _, some _]) rfl rfl rfl ?_
            refine y_iload_n rfl rfl ?_
            refine y_if_eqF rfl (by decide) ?_
            refine y_aload_n rfl rfl ?_
            refine y_getIv (v := Int32.ofInt (0)) rfl (ySh.t hS rfl) (ySh.n hS rfl) rfl rfl hth ?_
            refine y_if_neF rfl (by decide) ?_
            refine y_aload_n rfl rfl ?_
            refine y_iload_n rfl rfl ?_
            refine y_putI rfl (ySh.t hS rfl) (ySh.n hS rfl) rfl (Nat.le_of_ble_eq_true rfl) rfl rfl ?_
            refine y_nameI (fun I30 e30 => ?_)
            have hR1 := (hR0.grow hX).mod0 e30 (by decide) (by decide)
            have hK := (hK.x hRo hno hX).upI (upI e30) (by decide) (by decide) (fun i hi => by have := (hRo.l87.2.2.2.2 i hi).2.1; omega) (by rw [e30, upd2_ne (.inr (by decide))]; exact Int.le_refl _)
            have hth : I30 83 0 = Int32.ofInt (3) := by rw [e30, upd2_self]
            have hzz : ySz8 I4 I30 := ySz8_of (upI e30) (by rw [e30]; exact ⟨upd2_ne (.inr (by decide)), upd2_ne (.inr (by decide))⟩)
            have hS0 := hS
            have hR0 := hR1
            have hn := Nat.le_refl n
            have h94 := hS0.1
            have hX := @yX.rf n tg I30 R
            have hS := hS0.x hX
            have hR := hR0.x hn hX
            have hz := hX.sz h94
            have hxn := hX.1
            have hN := hR0.1
            have hnb := hR0.2.2.2.2.2.2
            refine y_aload_n rfl rfl ?_
            refine y_getIv (v := Int32.ofInt (3)) rfl (ySh.t hS rfl) (ySh.n hS rfl) rfl rfl hth ?_
            refine y_if_leF rfl (by decide) ?_
            refine y_iconst rfl ?_
            refine y_goto rfl j_X14_refuse_28 ?_
            refine y_ireturn rfl rfl rfl ?_
            refine y_ret1 ?_
            refine y_if_eqF rfl (by decide) ?_
            refine y_iconst rfl ?_
            refine y_ireturn rfl rfl rfl ?_
            exact hQ _ _ _ _ _ _ _ hS ((hR0.grow hX).up (Nat.le_succ K) hk6) (hK.x hRo hno hX) (by omega) (by omega)
          · refine y_iload_n rfl rfl ?_
            refine y_if_ge rfl j_X14_deposit_73 (fun h_31 => ?_) (fun h_32 => ?_)
            · refine y_aload_n rfl rfl ?_
              refine y_getR rfl (ySh.t hS rfl) (ySh.n hS rfl) rfl rfl (ySh.r hS rfl) ?_
              refine y_iload_n rfl rfl ?_
              refine y_iaload rfl (ySh.t hS rfl) (ySh.n hS rfl) (by omega) (by omega) ?_
              refine y_iload_n rfl rfl ?_
              refine y_iadd rfl ?_
              refine y_ldcI (v := (99999 : Int)) rfl rfl rfl (by decide) ?_
              refine y_icmp_le rfl j_X14_deposit_90 (fun h_33 => ?_) (fun h_34 => ?_)
              · rw [yz_99999] at h_33
                refine y_iconst rfl ?_
                refine y_iconst rfl ?_
                refine y_virt rfl rfl rfl rfl rfl (ySh.t hS rfl) (ySh.n hS rfl) ?_
                refine y_in (M := xm_X14_refuse) (ls := [some _, some _, some _]) rfl rfl rfl ?_
                refine y_iload_n rfl rfl ?_
                refine y_if_eqT rfl j_X14_refuse_16 (by decide) ?_
                refine y_aload_n rfl rfl ?_
                refine y_getIv (v := Int32.ofInt (0)) rfl (ySh.t hS rfl) (ySh.n hS rfl) rfl rfl hth ?_
                refine y_if_leT rfl j_X14_refuse_27 (by decide) ?_
                refine y_iconst rfl ?_
                refine y_ireturn rfl rfl rfl ?_
                refine y_ret1 ?_
                refine y_if_eqT rfl j_X14_deposit_100 (by decide) ?_
                refine y_aload_n rfl rfl ?_
                refine y_getR rfl (ySh.t hS rfl) (ySh.n hS rfl) rfl rfl (ySh.r hS rfl) ?_
                refine y_iload_n rfl rfl ?_
                refine y_dup2 rfl rfl rfl ?_
                refine y_iaload rfl (ySh.t hS rfl) (ySh.n hS rfl) (by omega) (by omega) ?_
                refine y_iload_n rfl rfl ?_
                refine y_iadd rfl ?_
                refine y_iastore rfl (ySh.t hS rfl) (ySh.n hS rfl) (Nat.le_of_ble_eq_true rfl) (by omega) (by omega) ?_
                refine y_nameI (fun I35 e35 => ?_)
                have hR1 := (hR0.grow hX).arr e35 (by decide)
                have hK := (hK.x hRo hno hX).upI (upI e35) (by decide) (by decide) (fun i hi => by have := (hRo.l87.2.2.2.2 i hi).2.1; omega) (by rw [e35, upd2_ne (.inl (by omega))]; exact Int.le_refl _)
                have hth := (show I35 83 0 = I4 83 0 by rw [e35, upd2_ne (.inl (by omega))]).trans hth
                have hzz : ySz I4 I35 := ySz_ofE (upI e35) (by omega)
                have hS0 := hS
                have hR0 := hR1
                have hn := Nat.le_refl n
                have h94 := hS0.1
                have hX := @yX.rf n tg I35 R
                have hS := hS0.x hX
                have hR := hR0.x hn hX
                have hz := hX.sz h94
                have hxn := hX.1
                have hN := hR0.1
                have hnb := hR0.2.2.2.2.2.2
                refine y_aload_n rfl rfl ?_
                refine y_getR rfl (ySh.t hS rfl) (ySh.n hS rfl) rfl rfl (ySh.r hS rfl) ?_
                refine y_iload_n rfl rfl ?_
                refine y_dup2 rfl rfl rfl ?_
                refine y_iaload rfl (ySh.t hS rfl) (ySh.n hS rfl) (by omega) (by omega) ?_
                refine y_iload_n rfl rfl ?_
                refine y_isub rfl ?_
                refine y_iastore rfl (ySh.t hS rfl) (ySh.n hS rfl) (Nat.le_of_ble_eq_true rfl) (by omega) (by omega) ?_
                refine y_nameI (fun I36 e36 => ?_)
                have hR1 := (hR0.grow hX).arr e36 (by decide)
                have hK := (hK.x hRo hno hX).upI (upI e36) (by decide) (by decide) (fun i hi => by have := (hRo.l87.2.2.2.2 i hi).2.1; omega) (by rw [e36, upd2_ne (.inl (by omega))]; exact Int.le_refl _)
                have hth := (show I36 83 0 = I35 83 0 by rw [e36, upd2_ne (.inl (by omega))]).trans hth
                have hzz : ySz I35 I36 := ySz_ofE (upI e36) (by omega)
                have hS0 := hS
                have hR0 := hR1
                have hn := Nat.le_refl n
                have h94 := hS0.1
                have hX := @yX.rf n tg I36 R
                have hS := hS0.x hX
                have hR := hR0.x hn hX
                have hz := hX.sz h94
                have hxn := hX.1
                have hN := hR0.1
                have hnb := hR0.2.2.2.2.2.2
                refine y_aload_n rfl rfl ?_
                refine y_getR rfl (ySh.t hS rfl) (ySh.n hS rfl) rfl rfl (ySh.r hS rfl) ?_
                refine y_iload_n rfl rfl ?_
                refine y_iaload rfl (ySh.t hS rfl) (ySh.n hS rfl) (by omega) (by omega) ?_
                refine y_ireturn rfl rfl rfl ?_
                exact hQ _ _ _ _ _ _ _ hS ((hR0.grow hX).up (Nat.le_succ K) hk6) (hK.x hRo hno hX) (by omega) (by omega)
              · rw [yz_99999] at h_34
                refine y_iconst rfl ?_
                refine y_goto rfl j_X14_deposit_91 ?_
                refine y_iconst rfl ?_
                refine y_virt rfl rfl rfl rfl rfl (ySh.t hS rfl) (ySh.n hS rfl) ?_
                refine y_in (M := xm_X14_refuse) (ls := [some _, some _, some _]) rfl rfl rfl ?_
                refine y_iload_n rfl rfl ?_
                refine y_if_eqF rfl (by decide) ?_
                refine y_aload_n rfl rfl ?_
                refine y_getIv (v := Int32.ofInt (0)) rfl (ySh.t hS rfl) (ySh.n hS rfl) rfl rfl hth ?_
                refine y_if_neF rfl (by decide) ?_
                refine y_aload_n rfl rfl ?_
                refine y_iload_n rfl rfl ?_
                refine y_putI rfl (ySh.t hS rfl) (ySh.n hS rfl) rfl (Nat.le_of_ble_eq_true rfl) rfl rfl ?_
                refine y_nameI (fun I37 e37 => ?_)
                have hR1 := (hR0.grow hX).mod0 e37 (by decide) (by decide)
                have hK := (hK.x hRo hno hX).upI (upI e37) (by decide) (by decide) (fun i hi => by have := (hRo.l87.2.2.2.2 i hi).2.1; omega) (by rw [e37, upd2_ne (.inr (by decide))]; exact Int.le_refl _)
                have hth : I37 83 0 = Int32.ofInt (3) := by rw [e37, upd2_self]
                have hzz : ySz8 I4 I37 := ySz8_of (upI e37) (by rw [e37]; exact ⟨upd2_ne (.inr (by decide)), upd2_ne (.inr (by decide))⟩)
                have hS0 := hS
                have hR0 := hR1
                have hn := Nat.le_refl n
                have h94 := hS0.1
                have hX := @yX.rf n tg I37 R
                have hS := hS0.x hX
                have hR := hR0.x hn hX
                have hz := hX.sz h94
                have hxn := hX.1
                have hN := hR0.1
                have hnb := hR0.2.2.2.2.2.2
                refine y_aload_n rfl rfl ?_
                refine y_getIv (v := Int32.ofInt (3)) rfl (ySh.t hS rfl) (ySh.n hS rfl) rfl rfl hth ?_
                refine y_if_leF rfl (by decide) ?_
                refine y_iconst rfl ?_
                refine y_goto rfl j_X14_refuse_28 ?_
                refine y_ireturn rfl rfl rfl ?_
                refine y_ret1 ?_
                refine y_if_eqF rfl (by decide) ?_
                refine y_iconst rfl ?_
                refine y_ireturn rfl rfl rfl ?_
                exact hQ _ _ _ _ _ _ _ hS ((hR0.grow hX).up (Nat.le_succ K) hk6) (hK.x hRo hno hX) (by omega) (by omega)
            · refine y_aload_n rfl rfl ?_
              refine y_getR rfl (ySh.t hS rfl) (ySh.n hS rfl) rfl rfl (ySh.r hS rfl) ?_
              refine y_iload_n rfl rfl ?_
              refine y_iaload rfl (ySh.t hS rfl) (ySh.n hS rfl) (by omega) (by omega) ?_
              refine y_iload_n rfl rfl ?_
              refine y_ineg rfl ?_
              refine y_icmp_lt rfl j_X14_deposit_86 (fun h_38 => ?_) (fun h_39 => ?_)
              · refine y_iconst rfl ?_
                refine y_goto rfl j_X14_deposit_91 ?_
                refine y_iconst rfl ?_
                refine y_virt rfl rfl rfl rfl rfl (ySh.t hS rfl) (ySh.n hS rfl) ?_
                refine y_in (M := xm_X14_refuse) (ls := [some _, some _, some _]) rfl rfl rfl ?_
                refine y_iload_n rfl rfl ?_
                refine y_if_eqF rfl (by decide) ?_
                refine y_aload_n rfl rfl ?_
                refine y_getIv (v := Int32.ofInt (0)) rfl (ySh.t hS rfl) (ySh.n hS rfl) rfl rfl hth ?_
                refine y_if_neF rfl (by decide) ?_
                refine y_aload_n rfl rfl ?_
                refine y_iload_n rfl rfl ?_
                refine y_putI rfl (ySh.t hS rfl) (ySh.n hS rfl) rfl (Nat.le_of_ble_eq_true rfl) rfl rfl ?_
                refine y_nameI (fun I40 e40 => ?_)
                have hR1 := (hR0.grow hX).mod0 e40 (by decide) (by decide)
                have hK := (hK.x hRo hno hX).upI (upI e40) (by decide) (by decide) (fun i hi => by have := (hRo.l87.2.2.2.2 i hi).2.1; omega) (by rw [e40, upd2_ne (.inr (by decide))]; exact Int.le_refl _)
                have hth : I40 83 0 = Int32.ofInt (3) := by rw [e40, upd2_self]
                have hzz : ySz8 I4 I40 := ySz8_of (upI e40) (by rw [e40]; exact ⟨upd2_ne (.inr (by decide)), upd2_ne (.inr (by decide))⟩)
                have hS0 := hS
                have hR0 := hR1
                have hn := Nat.le_refl n
                have h94 := hS0.1
                have hX := @yX.rf n tg I40 R
                have hS := hS0.x hX
                have hR := hR0.x hn hX
                have hz := hX.sz h94
                have hxn := hX.1
                have hN := hR0.1
                have hnb := hR0.2.2.2.2.2.2
                refine y_aload_n rfl rfl ?_
                refine y_getIv (v := Int32.ofInt (3)) rfl (ySh.t hS rfl) (ySh.n hS rfl) rfl rfl hth ?_
                refine y_if_leF rfl (by decide) ?_
                refine y_iconst rfl ?_
                refine y_goto rfl j_X14_refuse_28 ?_
                refine y_ireturn rfl rfl rfl ?_
                refine y_ret1 ?_
                refine y_if_eqF rfl (by decide) ?_
                refine y_iconst rfl ?_
                refine y_ireturn rfl rfl rfl ?_
                exact hQ _ _ _ _ _ _ _ hS ((hR0.grow hX).up (Nat.le_succ K) hk6) (hK.x hRo hno hX) (by omega) (by omega)
              · refine y_aload_n rfl rfl ?_
                refine y_getR rfl (ySh.t hS rfl) (ySh.n hS rfl) rfl rfl (ySh.r hS rfl) ?_
                refine y_iload_n rfl rfl ?_
                refine y_iaload rfl (ySh.t hS rfl) (ySh.n hS rfl) (by omega) (by omega) ?_
                refine y_iload_n rfl rfl ?_
                refine y_iadd rfl ?_
                refine y_ldcI (v := (99999 : Int)) rfl rfl rfl (by decide) ?_
                refine y_icmp_le rfl j_X14_deposit_90 (fun h_41 => ?_) (fun h_42 => ?_)
                · rw [yz_99999] at h_41
                  refine y_iconst rfl ?_
                  refine y_iconst rfl ?_
                  refine y_virt rfl rfl rfl rfl rfl (ySh.t hS rfl) (ySh.n hS rfl) ?_
                  refine y_in (M := xm_X14_refuse) (ls := [some _, some _, some _]) rfl rfl rfl ?_
                  refine y_iload_n rfl rfl ?_
                  refine y_if_eqT rfl j_X14_refuse_16 (by decide) ?_
                  refine y_aload_n rfl rfl ?_
                  refine y_getIv (v := Int32.ofInt (0)) rfl (ySh.t hS rfl) (ySh.n hS rfl) rfl rfl hth ?_
                  refine y_if_leT rfl j_X14_refuse_27 (by decide) ?_
                  refine y_iconst rfl ?_
                  refine y_ireturn rfl rfl rfl ?_
                  refine y_ret1 ?_
                  refine y_if_eqT rfl j_X14_deposit_100 (by decide) ?_
                  refine y_aload_n rfl rfl ?_
                  refine y_getR rfl (ySh.t hS rfl) (ySh.n hS rfl) rfl rfl (ySh.r hS rfl) ?_
                  refine y_iload_n rfl rfl ?_
                  refine y_dup2 rfl rfl rfl ?_
                  refine y_iaload rfl (ySh.t hS rfl) (ySh.n hS rfl) (by omega) (by omega) ?_
                  refine y_iload_n rfl rfl ?_
                  refine y_iadd rfl ?_
                  refine y_iastore rfl (ySh.t hS rfl) (ySh.n hS rfl) (Nat.le_of_ble_eq_true rfl) (by omega) (by omega) ?_
                  refine y_nameI (fun I43 e43 => ?_)
                  have hR1 := (hR0.grow hX).arr e43 (by decide)
                  have hK := (hK.x hRo hno hX).upI (upI e43) (by decide) (by decide) (fun i hi => by have := (hRo.l87.2.2.2.2 i hi).2.1; omega) (by rw [e43, upd2_ne (.inl (by omega))]; exact Int.le_refl _)
                  have hth := (show I43 83 0 = I4 83 0 by rw [e43, upd2_ne (.inl (by omega))]).trans hth
                  have hzz : ySz I4 I43 := ySz_ofE (upI e43) (by omega)
                  have hS0 := hS
                  have hR0 := hR1
                  have hn := Nat.le_refl n
                  have h94 := hS0.1
                  have hX := @yX.rf n tg I43 R
                  have hS := hS0.x hX
                  have hR := hR0.x hn hX
                  have hz := hX.sz h94
                  have hxn := hX.1
                  have hN := hR0.1
                  have hnb := hR0.2.2.2.2.2.2
                  refine y_aload_n rfl rfl ?_
                  refine y_getR rfl (ySh.t hS rfl) (ySh.n hS rfl) rfl rfl (ySh.r hS rfl) ?_
                  refine y_iload_n rfl rfl ?_
                  refine y_dup2 rfl rfl rfl ?_
                  refine y_iaload rfl (ySh.t hS rfl) (ySh.n hS rfl) (by omega) (by omega) ?_
                  refine y_iload_n rfl rfl ?_
                  refine y_isub rfl ?_
                  refine y_iastore rfl (ySh.t hS rfl) (ySh.n hS rfl) (Nat.le_of_ble_eq_true rfl) (by omega) (by omega) ?_
                  refine y_nameI (fun I44 e44 => ?_)
                  have hR1 := (hR0.grow hX).arr e44 (by decide)
                  have hK := (hK.x hRo hno hX).upI (upI e44) (by decide) (by decide) (fun i hi => by have := (hRo.l87.2.2.2.2 i hi).2.1; omega) (by rw [e44, upd2_ne (.inl (by omega))]; exact Int.le_refl _)
                  have hth := (show I44 83 0 = I43 83 0 by rw [e44, upd2_ne (.inl (by omega))]).trans hth
                  have hzz : ySz I43 I44 := ySz_ofE (upI e44) (by omega)
                  have hS0 := hS
                  have hR0 := hR1
                  have hn := Nat.le_refl n
                  have h94 := hS0.1
                  have hX := @yX.rf n tg I44 R
                  have hS := hS0.x hX
                  have hR := hR0.x hn hX
                  have hz := hX.sz h94
                  have hxn := hX.1
                  have hN := hR0.1
                  have hnb := hR0.2.2.2.2.2.2
                  refine y_aload_n rfl rfl ?_
                  refine y_getR rfl (ySh.t hS rfl) (ySh.n hS rfl) rfl rfl (ySh.r hS rfl) ?_
                  refine y_iload_n rfl rfl ?_
                  refine y_iaload rfl (ySh.t hS rfl) (ySh.n hS rfl) (by omega) (by omega) ?_
                  refine y_ireturn rfl rfl rfl ?_
                  exact hQ _ _ _ _ _ _ _ hS ((hR0.grow hX).up (Nat.le_succ K) hk6) (hK.x hRo hno hX) (by omega) (by omega)
                · rw [yz_99999] at h_42
                  refine y_iconst rfl ?_
                  refine y_goto rfl j_X14_deposit_91 ?_
                  refine y_iconst rfl ?_
                  refine y_virt rfl rfl rfl rfl rfl (ySh.t hS rfl) (ySh.n hS rfl) ?_
                  refine y_in (M := xm_X14_refuse) (ls := [some _, some _, some _]) rfl rfl rfl ?_
                  refine y_iload_n rfl rfl ?_
                  refine y_if_eqF rfl (by decide) ?_
                  refine y_aload_n rfl rfl ?_
                  refine y_getIv (v := Int32.ofInt (0)) rfl (ySh.t hS rfl) (ySh.n hS rfl) rfl rfl hth ?_
                  refine y_if_neF rfl (by decide) ?_
                  refine y_aload_n rfl rfl ?_
                  refine y_iload_n rfl rfl ?_
                  refine y_putI rfl (ySh.t hS rfl) (ySh.n hS rfl) rfl (Nat.le_of_ble_eq_true rfl) rfl rfl ?_
                  refine y_nameI (fun I45 e45 => ?_)
                  have hR1 := (hR0.grow hX).mod0 e45 (by decide) (by decide)
                  have hK := (hK.x hRo hno hX).upI (upI e45) (by decide) (by decide) (fun i hi => by have := (hRo.l87.2.2.2.2 i hi).2.1; omega) (by rw [e45, upd2_ne (.inr (by decide))]; exact Int.le_refl _)
                  have hth : I45 83 0 = Int32.ofInt (3) := by rw [e45, upd2_self]
                  have hzz : ySz8 I4 I45 := ySz8_of (upI e45) (by rw [e45]; exact ⟨upd2_ne (.inr (by decide)), upd2_ne (.inr (by decide))⟩)
                  have hS0 := hS
                  have hR0 := hR1
                  have hn := Nat.le_refl n
                  have h94 := hS0.1
                  have hX := @yX.rf n tg I45 R
                  have hS := hS0.x hX
                  have hR := hR0.x hn hX
                  have hz := hX.sz h94
                  have hxn := hX.1
                  have hN := hR0.1
                  have hnb := hR0.2.2.2.2.2.2
                  refine y_aload_n rfl rfl ?_
                  refine y_getIv (v := Int32.ofInt (3)) rfl (ySh.t hS rfl) (ySh.n hS rfl) rfl rfl hth ?_
                  refine y_if_leF rfl (by decide) ?_
                  refine y_iconst rfl ?_
                  refine y_goto rfl j_X14_refuse_28 ?_
                  refine y_ireturn rfl rfl rfl ?_
                  refine y_ret1 ?_
                  refine y_if_eqF rfl (by decide) ?_
                  refine y_iconst rfl ?_
                  refine y_ireturn rfl rfl rfl ?_
                  exact hQ _ _ _ _ _ _ _ hS ((hR0.grow hX).up (Nat.le_succ K) hk6) (hK.x hRo hno hX) (by omega) (by omega)
      · rw [yz_m9999] at h_10
        rw [yz_9999] at h_10
        refine y_ret1 ?_
        refine y_if_neF rfl (by decide) ?_
        refine y_iconst rfl ?_
        refine y_goto rfl j_X14_deposit_36 ?_
        refine y_iconst rfl ?_
        refine y_virt rfl rfl rfl rfl rfl (ySh.t hS rfl) (ySh.n hS rfl) ?_
        refine y_in (M := xm_X14_refuse) (ls := [some _, some _, some _]) rfl rfl rfl ?_
        refine y_iload_n rfl rfl ?_
        refine y_if_eqF rfl (by decide) ?_
        refine y_aload_n rfl rfl ?_
        refine y_getIv (v := Int32.ofInt (0)) rfl (ySh.t hS rfl) (ySh.n hS rfl) rfl rfl hth ?_
        refine y_if_neF rfl (by decide) ?_
        refine y_aload_n rfl rfl ?_
        refine y_iload_n rfl rfl ?_
        refine y_putI rfl (ySh.t hS rfl) (ySh.n hS rfl) rfl (Nat.le_of_ble_eq_true rfl) rfl rfl ?_
        refine y_nameI (fun I46 e46 => ?_)
        have hR1 := (hR0.grow hX).mod0 e46 (by decide) (by decide)
        have hK := (hK.x hRo hno hX).upI (upI e46) (by decide) (by decide) (fun i hi => by have := (hRo.l87.2.2.2.2 i hi).2.1; omega) (by rw [e46, upd2_ne (.inr (by decide))]; exact Int.le_refl _)
        have hth : I46 83 0 = Int32.ofInt (2) := by rw [e46, upd2_self]
        have hzz : ySz8 I4 I46 := ySz8_of (upI e46) (by rw [e46]; exact ⟨upd2_ne (.inr (by decide)), upd2_ne (.inr (by decide))⟩)
        have hS0 := hS
        have hR0 := hR1
        have hn := Nat.le_refl n
        have h94 := hS0.1
        have hX := @yX.rf n tg I46 R
        have hS := hS0.x hX
        have hR := hR0.x hn hX
        have hz := hX.sz h94
        have hxn := hX.1
        have hN := hR0.1
        have hnb := hR0.2.2.2.2.2.2
        refine y_aload_n rfl rfl ?_
        refine y_getIv (v := Int32.ofInt (2)) rfl (ySh.t hS rfl) (ySh.n hS rfl) rfl rfl hth ?_
        refine y_if_leF rfl (by decide) ?_
        refine y_iconst rfl ?_
        refine y_goto rfl j_X14_refuse_28 ?_
        refine y_ireturn rfl rfl rfl ?_
        refine y_ret1 ?_
        refine y_if_neT rfl j_X14_deposit_98 (by decide) ?_
        refine y_iconst rfl ?_
        refine y_ireturn rfl rfl rfl ?_
        exact hQ _ _ _ _ _ _ _ hS ((hR0.grow hX).up (Nat.le_succ K) hk6) (hK.x hRo hno hX) (by omega) (by omega)
  · rw [yz_0] at h_3
    try rw [ysub (by rw [yz_1]; omega) (by rw [yz_1]; omega), yz_1] at h_3
    refine y_ret1 ?_
    refine y_if_neF rfl (by decide) ?_
    refine y_iconst rfl ?_
    refine y_goto rfl j_X14_isNobody_19 ?_
    refine y_ireturn rfl rfl rfl ?_
    refine y_ret1 ?_
    refine y_iconst rfl ?_
    refine y_virt rfl rfl rfl rfl rfl (ySh.t hS rfl) (ySh.n hS rfl) ?_
    refine y_in (M := xm_X14_start) (ls := [some _, some _, some _]) rfl rfl rfl ?_
    refine y_aload_n rfl rfl ?_
    refine y_iconst rfl ?_
    refine y_putI rfl (ySh.t hS rfl) (ySh.n hS rfl) rfl (Nat.le_of_ble_eq_true rfl) rfl rfl ?_
    refine y_nameI (fun I47 e47 => ?_)
    have hR1 := (hR0.grow hX).mod0 e47 (by decide) (by decide)
    have hK := (hK.x hRo hno hX).upI (upI e47) (by decide) (by decide) (fun i hi => by have := (hRo.l87.2.2.2.2 i hi).2.1; omega) (by rw [e47, upd2_ne (.inr (by decide))]; exact Int.le_refl _)
    have hth : I47 83 0 = Int32.ofInt (0) := by rw [e47, upd2_self]
    have hzz : ySz8 I I47 := ySz8_of (upI e47) (by rw [e47]; exact ⟨upd2_ne (.inr (by decide)), upd2_ne (.inr (by decide))⟩)
    have hS0 := hS
    have hR0 := hR1
    have hn := Nat.le_refl n
    have h94 := hS0.1
    have hX := @yX.rf n tg I47 R
    have hS := hS0.x hX
    have hR := hR0.x hn hX
    have hz := hX.sz h94
    have hxn := hX.1
    have hN := hR0.1
    have hnb := hR0.2.2.2.2.2.2
    refine y_aload_n rfl rfl ?_
    refine y_iload_n rfl rfl ?_
    refine y_iload_n rfl rfl ?_
    refine y_virt rfl rfl rfl rfl rfl (ySh.t hS rfl) (ySh.n hS rfl) ?_
    refine y_in (M := xm_X14_refuse) (ls := [some _, some _, some _]) rfl rfl rfl ?_
    refine y_iload_n rfl rfl ?_
    refine y_if_eqF rfl (by decide) ?_
    refine y_aload_n rfl rfl ?_
    refine y_getIv (v := Int32.ofInt (0)) rfl (ySh.t hS rfl) (ySh.n hS rfl) rfl rfl hth ?_
    refine y_if_neF rfl (by decide) ?_
    refine y_aload_n rfl rfl ?_
    refine y_iload_n rfl rfl ?_
    refine y_putI rfl (ySh.t hS rfl) (ySh.n hS rfl) rfl (Nat.le_of_ble_eq_true rfl) rfl rfl ?_
    refine y_nameI (fun I48 e48 => ?_)
    have hR1 := (hR0.grow hX).mod0 e48 (by decide) (by decide)
    have hK := (hK.x hRo hno hX).upI (upI e48) (by decide) (by decide) (fun i hi => by have := (hRo.l87.2.2.2.2 i hi).2.1; omega) (by rw [e48, upd2_ne (.inr (by decide))]; exact Int.le_refl _)
    have hth : I48 83 0 = Int32.ofInt (1) := by rw [e48, upd2_self]
    have hzz : ySz8 I47 I48 := ySz8_of (upI e48) (by rw [e48]; exact ⟨upd2_ne (.inr (by decide)), upd2_ne (.inr (by decide))⟩)
    have hS0 := hS
    have hR0 := hR1
    have hn := Nat.le_refl n
    have h94 := hS0.1
    have hX := @yX.rf n tg I48 R
    have hS := hS0.x hX
    have hR := hR0.x hn hX
    have hz := hX.sz h94
    have hxn := hX.1
    have hN := hR0.1
    have hnb := hR0.2.2.2.2.2.2
    refine y_aload_n rfl rfl ?_
    refine y_getIv (v := Int32.ofInt (1)) rfl (ySh.t hS rfl) (ySh.n hS rfl) rfl rfl hth ?_
    refine y_if_leF rfl (by decide) ?_
    refine y_iconst rfl ?_
    refine y_goto rfl j_X14_refuse_28 ?_
    refine y_ireturn rfl rfl rfl ?_
    refine y_ret1 ?_
    refine y_ireturn rfl rfl rfl ?_
    refine y_ret1 ?_
    refine y_if_neT rfl j_X14_deposit_98 (by decide) ?_
    refine y_iconst rfl ?_
    refine y_ireturn rfl rfl rfl ?_
    exact hQ _ _ _ _ _ _ _ hS ((hR0.grow hX).up (Nat.le_succ K) hk6) (hK.x hRo hno hX) (by omega) (by omega)
theorem n_house (hS0 : ySh n tg R) (hR0 : yRI K n tg I R) (hk6 : K < 600) {x1 : Int32} (hQ : ∀ (v : Int32) n1 tg1 I1 R1 c1 s1, ySh n1 tg1 R1 → yRI (K + 1) n1 tg1 I1 R1 → yKp n tg I R n1 tg1 I1 R1 → c1 ≤ c + 4 → s1 ≤ s + 28 → Q (.inl (some (.int v))) (n1, tg1, I1, R1) c1 s1) : yC 241 [.ref 83, .int x1] (n, tg, I, R) c s Q := by
  have hno := Nat.le_refl n
  have hn := hno
  have hRo := hR0
  have hK : yKp n tg I R n tg I R := yKp.rf
  have hX : yX n tg I R n tg I R := yX.rf
  have hS := hS0
  have hR := hR0
  have h94 : 94 ≤ n := hS0.1
  have hz : ySz I I := hX.sz h94
  have hxn := hX.1
  have hN := hR0.1
  have hnb : 94 ≤ n := hR0.2.2.2.2.2.2
  refine y_in (M := xm_X14_house) (ls := [some _, some _]) rfl rfl rfl ?_
  refine y_aload_n rfl rfl ?_
  refine y_iload_n rfl rfl ?_
  refine y_iconst rfl ?_
  refine y_bip rfl (by decide) ?_
  refine y_static rfl rfl rfl rfl rfl ?_
  refine r_isIn (fun h_1 h_2 => ?_) (fun h_3 => ?_)
  · rw [yz_0] at h_1
    rw [yz_15] at h_2
    refine y_ret1 ?_
    refine y_if_neT rfl j_X14_house_15 (by decide) ?_
    refine y_iconst rfl ?_
    refine y_iconst rfl ?_
    refine y_virt rfl rfl rfl rfl rfl (ySh.t hS rfl) (ySh.n hS rfl) ?_
    refine y_in (M := xm_X14_start) (ls := [some _, some _, some _]) rfl rfl rfl ?_
    refine y_aload_n rfl rfl ?_
    refine y_iconst rfl ?_
    refine y_putI rfl (ySh.t hS rfl) (ySh.n hS rfl) rfl (Nat.le_of_ble_eq_true rfl) rfl rfl ?_
    refine y_nameI (fun I4 e4 => ?_)
    have hR1 := (hR0.grow hX).mod0 e4 (by decide) (by decide)
    have hK := (hK.x hRo hno hX).upI (upI e4) (by decide) (by decide) (fun i hi => by have := (hRo.l87.2.2.2.2 i hi).2.1; omega) (by rw [e4, upd2_ne (.inr (by decide))]; exact Int.le_refl _)
    have hth : I4 83 0 = Int32.ofInt (0) := by rw [e4, upd2_self]
    have hzz : ySz8 I I4 := ySz8_of (upI e4) (by rw [e4]; exact ⟨upd2_ne (.inr (by decide)), upd2_ne (.inr (by decide))⟩)
    have hS0 := hS
    have hR0 := hR1
    have hn := Nat.le_refl n
    have h94 := hS0.1
    have hX := @yX.rf n tg I4 R
    have hS := hS0.x hX
    have hR := hR0.x hn hX
    have hz := hX.sz h94
    have hxn := hX.1
    have hN := hR0.1
    have hnb := hR0.2.2.2.2.2.2
    refine y_aload_n rfl rfl ?_
    refine y_iload_n rfl rfl ?_
    refine y_iload_n rfl rfl ?_
    refine y_virt rfl rfl rfl rfl rfl (ySh.t hS rfl) (ySh.n hS rfl) ?_
    refine y_in (M := xm_X14_refuse) (ls := [some _, some _, some _]) rfl rfl rfl ?_
    refine y_iload_n rfl rfl ?_
    refine y_if_eqT rfl j_X14_refuse_16 (by decide) ?_
    refine y_aload_n rfl rfl ?_
    refine y_getIv (v := Int32.ofInt (0)) rfl (ySh.t hS rfl) (ySh.n hS rfl) rfl rfl hth ?_
    refine y_if_leT rfl j_X14_refuse_27 (by decide) ?_
    refine y_iconst rfl ?_
    refine y_ireturn rfl rfl rfl ?_
    refine y_ret1 ?_
    refine y_ireturn rfl rfl rfl ?_
    refine y_ret1 ?_
    refine y_if_eqT rfl j_X14_house_27 (by decide) ?_
    refine y_aload_n rfl rfl ?_
    refine y_iload_n rfl rfl ?_
    refine y_virt rfl rfl rfl rfl rfl (ySh.t hS rfl) (ySh.n hS rfl) ?_
    refine r_houseTold hS hR (Nat.le_trans hn hX.1) (by omega) (by omega) (fun v_5_0 n5 tg5 I5 R5 c_5 s_5 hX1 hc_5 hs_5 => ?_)
    have hnA := hX1.1
    have hX := hX.trans hX1
    have hS := hS0.x hX
    have hR := hR0.x hn hX
    have hz := hX.sz h94
    have hxn := hX.1
    have hth := (congrFun (hX1.2.1 83 (by omega)).2.1 0).trans hth
    refine y_ret1 ?_
    refine y_ireturn rfl rfl rfl ?_
    exact hQ _ _ _ _ _ _ _ hS ((hR0.grow hX).up (Nat.le_succ K) hk6) (hK.x hRo hno hX) (by omega) (by omega)
  · rw [yz_0] at h_3
    rw [yz_15] at h_3
    refine y_ret1 ?_
    refine y_if_neF rfl (by decide) ?_
    refine y_iconst rfl ?_
    refine y_goto rfl j_X14_house_16 ?_
    refine y_iconst rfl ?_
    refine y_virt rfl rfl rfl rfl rfl (ySh.t hS rfl) (ySh.n hS rfl) ?_
    refine y_in (M := xm_X14_start) (ls := [some _, some _, some _]) rfl rfl rfl ?_
    refine y_aload_n rfl rfl ?_
    refine y_iconst rfl ?_
    refine y_putI rfl (ySh.t hS rfl) (ySh.n hS rfl) rfl (Nat.le_of_ble_eq_true rfl) rfl rfl ?_
    refine y_nameI (fun I6 e6 => ?_)
    have hR1 := (hR0.grow hX).mod0 e6 (by decide) (by decide)
    have hK := (hK.x hRo hno hX).upI (upI e6) (by decide) (by decide) (fun i hi => by have := (hRo.l87.2.2.2.2 i hi).2.1; omega) (by rw [e6, upd2_ne (.inr (by decide))]; exact Int.le_refl _)
    have hth : I6 83 0 = Int32.ofInt (0) := by rw [e6, upd2_self]
    have hzz : ySz8 I I6 := ySz8_of (upI e6) (by rw [e6]; exact ⟨upd2_ne (.inr (by decide)), upd2_ne (.inr (by decide))⟩)
    have hS0 := hS
    have hR0 := hR1
    have hn := Nat.le_refl n
    have h94 := hS0.1
    have hX := @yX.rf n tg I6 R
    have hS := hS0.x hX
    have hR := hR0.x hn hX
    have hz := hX.sz h94
    have hxn := hX.1
    have hN := hR0.1
    have hnb := hR0.2.2.2.2.2.2
    refine y_aload_n rfl rfl ?_
    refine y_iload_n rfl rfl ?_
    refine y_iload_n rfl rfl ?_
    refine y_virt rfl rfl rfl rfl rfl (ySh.t hS rfl) (ySh.n hS rfl) ?_
    refine y_in (M := xm_X14_refuse) (ls := [some _, some _, some _]) rfl rfl rfl ?_
    refine y_iload_n rfl rfl ?_
    refine y_if_eqF rfl (by decide) ?_
    refine y_aload_n rfl rfl ?_
    refine y_getIv (v := Int32.ofInt (0)) rfl (ySh.t hS rfl) (ySh.n hS rfl) rfl rfl hth ?_
    refine y_if_neF rfl (by decide) ?_
    refine y_aload_n rfl rfl ?_
    refine y_iload_n rfl rfl ?_
    refine y_putI rfl (ySh.t hS rfl) (ySh.n hS rfl) rfl (Nat.le_of_ble_eq_true rfl) rfl rfl ?_
    refine y_nameI (fun I7 e7 => ?_)
    have hR1 := (hR0.grow hX).mod0 e7 (by decide) (by decide)
    have hK := (hK.x hRo hno hX).upI (upI e7) (by decide) (by decide) (fun i hi => by have := (hRo.l87.2.2.2.2 i hi).2.1; omega) (by rw [e7, upd2_ne (.inr (by decide))]; exact Int.le_refl _)
    have hth : I7 83 0 = Int32.ofInt (1) := by rw [e7, upd2_self]
    have hzz : ySz8 I6 I7 := ySz8_of (upI e7) (by rw [e7]; exact ⟨upd2_ne (.inr (by decide)), upd2_ne (.inr (by decide))⟩)
    have hS0 := hS
    have hR0 := hR1
    have hn := Nat.le_refl n
    have h94 := hS0.1
    have hX := @yX.rf n tg I7 R
    have hS := hS0.x hX
    have hR := hR0.x hn hX
    have hz := hX.sz h94
    have hxn := hX.1
    have hN := hR0.1
    have hnb := hR0.2.2.2.2.2.2
    refine y_aload_n rfl rfl ?_
    refine y_getIv (v := Int32.ofInt (1)) rfl (ySh.t hS rfl) (ySh.n hS rfl) rfl rfl hth ?_
    refine y_if_leF rfl (by decide) ?_
    refine y_iconst rfl ?_
    refine y_goto rfl j_X14_refuse_28 ?_
    refine y_ireturn rfl rfl rfl ?_
    refine y_ret1 ?_
    refine y_ireturn rfl rfl rfl ?_
    refine y_ret1 ?_
    refine y_if_eqF rfl (by decide) ?_
    refine y_iconst rfl ?_
    refine y_goto rfl j_X14_house_32 ?_
    refine y_ireturn rfl rfl rfl ?_
    exact hQ _ _ _ _ _ _ _ hS ((hR0.grow hX).up (Nat.le_succ K) hk6) (hK.x hRo hno hX) (by omega) (by omega)
theorem n_ofPerson (hS0 : ySh n tg R) (hR0 : yRI K n tg I R) (hk6 : K < 600) {x1 x2 : Int32} (hQ : ∀ (v : Int32) n1 tg1 I1 R1 c1 s1, ySh n1 tg1 R1 → yRI (K + 1) n1 tg1 I1 R1 → yKp n tg I R n1 tg1 I1 R1 → c1 ≤ c + 5 → s1 ≤ s + 24 → Q (.inl (some (.int v))) (n1, tg1, I1, R1) c1 s1) : yC 228 [.ref 83, .int x1, .int x2] (n, tg, I, R) c s Q := by
  have hno := Nat.le_refl n
  have hn := hno
  have hRo := hR0
  have hK : yKp n tg I R n tg I R := yKp.rf
  have hX : yX n tg I R n tg I R := yX.rf
  have hS := hS0
  have hR := hR0
  have h94 : 94 ≤ n := hS0.1
  have hz : ySz I I := hX.sz h94
  have hxn := hX.1
  have hN := hR0.1
  have hnb : 94 ≤ n := hR0.2.2.2.2.2.2
  refine y_in (M := xm_X14_ofPerson) (ls := [some _, some _, some _]) rfl rfl rfl ?_
  refine y_aload_n rfl rfl ?_
  refine y_aload_n rfl rfl ?_
  refine y_iload_n rfl rfl ?_
  refine y_virt rfl rfl rfl rfl rfl (ySh.t hS rfl) (ySh.n hS rfl) ?_
  refine y_in (M := xm_X14_isNobody) (ls := [some _, some _]) rfl rfl rfl ?_
  refine y_iload_n rfl rfl ?_
  refine y_iconst rfl ?_
  refine y_aload_n rfl rfl ?_
  refine y_getI rfl (ySh.t hS rfl) (ySh.n hS rfl) rfl rfl ?_
  refine y_iconst rfl ?_
  refine y_isub rfl ?_
  refine y_static rfl rfl rfl rfl rfl ?_
  refine r_isIn (fun h_1 h_2 => ?_) (fun h_3 => ?_)
  · rw [yz_0] at h_1
    try rw [ysub (by rw [yz_1]; omega) (by rw [yz_1]; omega), yz_1] at h_2
    refine y_ret1 ?_
    refine y_if_neT rfl j_X14_isNobody_18 (by decide) ?_
    refine y_iconst rfl ?_
    refine y_ireturn rfl rfl rfl ?_
    refine y_ret1 ?_
    refine y_iconst rfl ?_
    refine y_virt rfl rfl rfl rfl rfl (ySh.t hS rfl) (ySh.n hS rfl) ?_
    refine y_in (M := xm_X14_start) (ls := [some _, some _, some _]) rfl rfl rfl ?_
    refine y_aload_n rfl rfl ?_
    refine y_iconst rfl ?_
    refine y_putI rfl (ySh.t hS rfl) (ySh.n hS rfl) rfl (Nat.le_of_ble_eq_true rfl) rfl rfl ?_
    refine y_nameI (fun I4 e4 => ?_)
    have hR1 := (hR0.grow hX).mod0 e4 (by decide) (by decide)
    have hK := (hK.x hRo hno hX).upI (upI e4) (by decide) (by decide) (fun i hi => by have := (hRo.l87.2.2.2.2 i hi).2.1; omega) (by rw [e4, upd2_ne (.inr (by decide))]; exact Int.le_refl _)
    have hth : I4 83 0 = Int32.ofInt (0) := by rw [e4, upd2_self]
    have hzz : ySz8 I I4 := ySz8_of (upI e4) (by rw [e4]; exact ⟨upd2_ne (.inr (by decide)), upd2_ne (.inr (by decide))⟩)
    have hS0 := hS
    have hR0 := hR1
    have hn := Nat.le_refl n
    have h94 := hS0.1
    have hX := @yX.rf n tg I4 R
    have hS := hS0.x hX
    have hR := hR0.x hn hX
    have hz := hX.sz h94
    have hxn := hX.1
    have hN := hR0.1
    have hnb := hR0.2.2.2.2.2.2
    refine y_aload_n rfl rfl ?_
    refine y_iload_n rfl rfl ?_
    refine y_iload_n rfl rfl ?_
    refine y_virt rfl rfl rfl rfl rfl (ySh.t hS rfl) (ySh.n hS rfl) ?_
    refine y_in (M := xm_X14_refuse) (ls := [some _, some _, some _]) rfl rfl rfl ?_
    refine y_iload_n rfl rfl ?_
    refine y_if_eqT rfl j_X14_refuse_16 (by decide) ?_
    refine y_aload_n rfl rfl ?_
    refine y_getIv (v := Int32.ofInt (0)) rfl (ySh.t hS rfl) (ySh.n hS rfl) rfl rfl hth ?_
    refine y_if_leT rfl j_X14_refuse_27 (by decide) ?_
    refine y_iconst rfl ?_
    refine y_ireturn rfl rfl rfl ?_
    refine y_ret1 ?_
    refine y_ireturn rfl rfl rfl ?_
    refine y_ret1 ?_
    refine y_if_neF rfl (by decide) ?_
    refine y_aload_n rfl rfl ?_
    refine y_iload_n rfl rfl ?_
    refine y_iconst rfl ?_
    refine y_bip rfl (by decide) ?_
    refine y_static rfl rfl rfl rfl rfl ?_
    refine r_isIn (fun h_5 h_6 => ?_) (fun h_7 => ?_)
    · rw [yz_0] at h_5
      rw [yz_7] at h_6
      refine y_ret1 ?_
      refine y_if_neT rfl j_X14_ofPerson_28 (by decide) ?_
      refine y_iconst rfl ?_
      refine y_iconst rfl ?_
      refine y_virt rfl rfl rfl rfl rfl (ySh.t hS rfl) (ySh.n hS rfl) ?_
      refine y_in (M := xm_X14_refuse) (ls := [some _, some _, some _]) rfl rfl rfl ?_
      refine y_iload_n rfl rfl ?_
      refine y_if_eqT rfl j_X14_refuse_16 (by decide) ?_
      refine y_aload_n rfl rfl ?_
      refine y_getIv (v := Int32.ofInt (0)) rfl (ySh.t hS rfl) (ySh.n hS rfl) rfl rfl hth ?_
      refine y_if_leT rfl j_X14_refuse_27 (by decide) ?_
      refine y_iconst rfl ?_
      refine y_ireturn rfl rfl rfl ?_
      refine y_ret1 ?_
      refine y_if_eqT rfl j_X14_ofPerson_40 (by decide) ?_
      refine y_aload_n rfl rfl ?_
      refine y_iload_n rfl rfl ?_
      refine y_iload_n rfl rfl ?_
      refine y_virt rfl rfl rfl rfl rfl (ySh.t hS rfl) (ySh.n hS rfl) ?_
      refine r_personTold hS hR (Nat.le_trans hn hX.1) (by omega) (by omega) (by omega) (by omega) (fun v_8_0 n8 tg8 I8 R8 c_8 s_8 hX1 hc_8 hs_8 => ?_)
      have hnA := hX1.1
      have hX := hX.trans hX1
      have hS := hS0.x hX
      have hR := hR0.x hn hX
      have hz := hX.sz h94
      have hxn := hX.1
      have hth := (congrFun (hX1.2.1 83 (by omega)).2.1 0).trans hth
      refine y_ret1 ?_
      refine y_ireturn rfl rfl rfl ?_
      exact hQ _ _ _ _ _ _ _ hS ((hR0.grow hX).up (Nat.le_succ K) hk6) (hK.x hRo hno hX) (by omega) (by omega)
    · rw [yz_0] at h_7
      rw [yz_7] at h_7
      refine y_ret1 ?_
      refine y_if_neF rfl (by decide) ?_
      refine y_iconst rfl ?_
      refine y_goto rfl j_X14_ofPerson_29 ?_
      refine y_iconst rfl ?_
      refine y_virt rfl rfl rfl rfl rfl (ySh.t hS rfl) (ySh.n hS rfl) ?_
      refine y_in (M := xm_X14_refuse) (ls := [some _, some _, some _]) rfl rfl rfl ?_
      refine y_iload_n rfl rfl ?_
      refine y_if_eqF rfl (by decide) ?_
      refine y_aload_n rfl rfl ?_
      refine y_getIv (v := Int32.ofInt (0)) rfl (ySh.t hS rfl) (ySh.n hS rfl) rfl rfl hth ?_
      refine y_if_neF rfl (by decide) ?_
      refine y_aload_n rfl rfl ?_
      refine y_iload_n rfl rfl ?_
      refine y_putI rfl (ySh.t hS rfl) (ySh.n hS rfl) rfl (Nat.le_of_ble_eq_true rfl) rfl rfl ?_
      refine y_nameI (fun I9 e9 => ?_)
      have hR1 := (hR0.grow hX).mod0 e9 (by decide) (by decide)
      have hK := (hK.x hRo hno hX).upI (upI e9) (by decide) (by decide) (fun i hi => by have := (hRo.l87.2.2.2.2 i hi).2.1; omega) (by rw [e9, upd2_ne (.inr (by decide))]; exact Int.le_refl _)
      have hth : I9 83 0 = Int32.ofInt (2) := by rw [e9, upd2_self]
      have hzz : ySz8 I4 I9 := ySz8_of (upI e9) (by rw [e9]; exact ⟨upd2_ne (.inr (by decide)), upd2_ne (.inr (by decide))⟩)
      have hS0 := hS
      have hR0 := hR1
      have hn := Nat.le_refl n
      have h94 := hS0.1
      have hX := @yX.rf n tg I9 R
      have hS := hS0.x hX
      have hR := hR0.x hn hX
      have hz := hX.sz h94
      have hxn := hX.1
      have hN := hR0.1
      have hnb := hR0.2.2.2.2.2.2
      refine y_aload_n rfl rfl ?_
      refine y_getIv (v := Int32.ofInt (2)) rfl (ySh.t hS rfl) (ySh.n hS rfl) rfl rfl hth ?_
      refine y_if_leF rfl (by decide) ?_
      refine y_iconst rfl ?_
      refine y_goto rfl j_X14_refuse_28 ?_
      refine y_ireturn rfl rfl rfl ?_
      refine y_ret1 ?_
      refine y_if_eqF rfl (by decide) ?_
      refine y_iconst rfl ?_
      refine y_goto rfl j_X14_ofPerson_46 ?_
      refine y_ireturn rfl rfl rfl ?_
      exact hQ _ _ _ _ _ _ _ hS ((hR0.grow hX).up (Nat.le_succ K) hk6) (hK.x hRo hno hX) (by omega) (by omega)
  · rw [yz_0] at h_3
    try rw [ysub (by rw [yz_1]; omega) (by rw [yz_1]; omega), yz_1] at h_3
    refine y_ret1 ?_
    refine y_if_neF rfl (by decide) ?_
    refine y_iconst rfl ?_
    refine y_goto rfl j_X14_isNobody_19 ?_
    refine y_ireturn rfl rfl rfl ?_
    refine y_ret1 ?_
    refine y_iconst rfl ?_
    refine y_virt rfl rfl rfl rfl rfl (ySh.t hS rfl) (ySh.n hS rfl) ?_
    refine y_in (M := xm_X14_start) (ls := [some _, some _, some _]) rfl rfl rfl ?_
    refine y_aload_n rfl rfl ?_
    refine y_iconst rfl ?_
    refine y_putI rfl (ySh.t hS rfl) (ySh.n hS rfl) rfl (Nat.le_of_ble_eq_true rfl) rfl rfl ?_
    refine y_nameI (fun I10 e10 => ?_)
    have hR1 := (hR0.grow hX).mod0 e10 (by decide) (by decide)
    have hK := (hK.x hRo hno hX).upI (upI e10) (by decide) (by decide) (fun i hi => by have := (hRo.l87.2.2.2.2 i hi).2.1; omega) (by rw [e10, upd2_ne (.inr (by decide))]; exact Int.le_refl _)
    have hth : I10 83 0 = Int32.ofInt (0) := by rw [e10, upd2_self]
    have hzz : ySz8 I I10 := ySz8_of (upI e10) (by rw [e10]; exact ⟨upd2_ne (.inr (by decide)), upd2_ne (.inr (by decide))⟩)
    have hS0 := hS
    have hR0 := hR1
    have hn := Nat.le_refl n
    have h94 := hS0.1
    have hX := @yX.rf n tg I10 R
    have hS := hS0.x hX
    have hR := hR0.x hn hX
    have hz := hX.sz h94
    have hxn := hX.1
    have hN := hR0.1
    have hnb := hR0.2.2.2.2.2.2
    refine y_aload_n rfl rfl ?_
    refine y_iload_n rfl rfl ?_
    refine y_iload_n rfl rfl ?_
    refine y_virt rfl rfl rfl rfl rfl (ySh.t hS rfl) (ySh.n hS rfl) ?_
    refine y_in (M := xm_X14_refuse) (ls := [some _, some _, some _]) rfl rfl rfl ?_
    refine y_iload_n rfl rfl ?_
    refine y_if_eqF rfl (by decide) ?_
    refine y_aload_n rfl rfl ?_
    refine y_getIv (v := Int32.ofInt (0)) rfl (ySh.t hS rfl) (ySh.n hS rfl) rfl rfl hth ?_
    refine y_if_neF rfl (by decide) ?_
    refine y_aload_n rfl rfl ?_
    refine y_iload_n rfl rfl ?_
    refine y_putI rfl (ySh.t hS rfl) (ySh.n hS rfl) rfl (Nat.le_of_ble_eq_true rfl) rfl rfl ?_
    refine y_nameI (fun I11 e11 => ?_)
    have hR1 := (hR0.grow hX).mod0 e11 (by decide) (by decide)
    have hK := (hK.x hRo hno hX).upI (upI e11) (by decide) (by decide) (fun i hi => by have := (hRo.l87.2.2.2.2 i hi).2.1; omega) (by rw [e11, upd2_ne (.inr (by decide))]; exact Int.le_refl _)
    have hth : I11 83 0 = Int32.ofInt (1) := by rw [e11, upd2_self]
    have hzz : ySz8 I10 I11 := ySz8_of (upI e11) (by rw [e11]; exact ⟨upd2_ne (.inr (by decide)), upd2_ne (.inr (by decide))⟩)
    have hS0 := hS
    have hR0 := hR1
    have hn := Nat.le_refl n
    have h94 := hS0.1
    have hX := @yX.rf n tg I11 R
    have hS := hS0.x hX
    have hR := hR0.x hn hX
    have hz := hX.sz h94
    have hxn := hX.1
    have hN := hR0.1
    have hnb := hR0.2.2.2.2.2.2
    refine y_aload_n rfl rfl ?_
    refine y_getIv (v := Int32.ofInt (1)) rfl (ySh.t hS rfl) (ySh.n hS rfl) rfl rfl hth ?_
    refine y_if_leF rfl (by decide) ?_
    refine y_iconst rfl ?_
    refine y_goto rfl j_X14_refuse_28 ?_
    refine y_ireturn rfl rfl rfl ?_
    refine y_ret1 ?_
    refine y_ireturn rfl rfl rfl ?_
    refine y_ret1 ?_
    refine y_if_neT rfl j_X14_ofPerson_36 (by decide) ?_
    refine y_iconst rfl ?_
    refine y_goto rfl j_X14_ofPerson_46 ?_
    refine y_ireturn rfl rfl rfl ?_
    exact hQ _ _ _ _ _ _ _ hS ((hR0.grow hX).up (Nat.le_succ K) hk6) (hK.x hRo hno hX) (by omega) (by omega)
theorem n_best (hS0 : ySh n tg R) (hR0 : yRI K n tg I R) (hk6 : K < 600) {x1 x2 : Int32} (hQ : ∀ (v : Int32) n1 tg1 I1 R1 c1 s1, ySh n1 tg1 R1 → yRI (K + 1) n1 tg1 I1 R1 → yKp n tg I R n1 tg1 I1 R1 → c1 ≤ c + 0 → s1 ≤ s + 0 → Q (.inl (some (.int v))) (n1, tg1, I1, R1) c1 s1) : yC 245 [.ref 83, .int x1, .int x2] (n, tg, I, R) c s Q := by
  have hno := Nat.le_refl n
  have hn := hno
  have hRo := hR0
  have hK : yKp n tg I R n tg I R := yKp.rf
  have hX : yX n tg I R n tg I R := yX.rf
  have hS := hS0
  have hR := hR0
  have h94 : 94 ≤ n := hS0.1
  have hz : ySz I I := hX.sz h94
  have hxn := hX.1
  have hN := hR0.1
  have hnb : 94 ≤ n := hR0.2.2.2.2.2.2
  refine y_in (M := xm_X14_best) (ls := [some _, some _, some _, _]) rfl rfl rfl ?_
  refine y_aload_n rfl rfl ?_
  refine y_iload_n rfl rfl ?_
  refine y_iconst rfl ?_
  refine y_sip rfl (by decide) ?_
  refine y_static rfl rfl rfl rfl rfl ?_
  refine r_isIn (fun h_1 h_2 => ?_) (fun h_3 => ?_)
  · rw [yz_0] at h_1
    rw [yz_999] at h_2
    refine y_ret1 ?_
    refine y_if_neT rfl j_X14_best_16 (by decide) ?_
    refine y_iconst rfl ?_
    refine y_iconst rfl ?_
    refine y_virt rfl rfl rfl rfl rfl (ySh.t hS rfl) (ySh.n hS rfl) ?_
    refine y_in (M := xm_X14_start) (ls := [some _, some _, some _]) rfl rfl rfl ?_
    refine y_aload_n rfl rfl ?_
    refine y_iconst rfl ?_
    refine y_putI rfl (ySh.t hS rfl) (ySh.n hS rfl) rfl (Nat.le_of_ble_eq_true rfl) rfl rfl ?_
    refine y_nameI (fun I4 e4 => ?_)
    have hR1 := (hR0.grow hX).mod0 e4 (by decide) (by decide)
    have hK := (hK.x hRo hno hX).upI (upI e4) (by decide) (by decide) (fun i hi => by have := (hRo.l87.2.2.2.2 i hi).2.1; omega) (by rw [e4, upd2_ne (.inr (by decide))]; exact Int.le_refl _)
    have hth : I4 83 0 = Int32.ofInt (0) := by rw [e4, upd2_self]
    have hzz : ySz8 I I4 := ySz8_of (upI e4) (by rw [e4]; exact ⟨upd2_ne (.inr (by decide)), upd2_ne (.inr (by decide))⟩)
    have hS0 := hS
    have hR0 := hR1
    have hn := Nat.le_refl n
    have h94 := hS0.1
    have hX := @yX.rf n tg I4 R
    have hS := hS0.x hX
    have hR := hR0.x hn hX
    have hz := hX.sz h94
    have hxn := hX.1
    have hN := hR0.1
    have hnb := hR0.2.2.2.2.2.2
    refine y_aload_n rfl rfl ?_
    refine y_iload_n rfl rfl ?_
    refine y_iload_n rfl rfl ?_
    refine y_virt rfl rfl rfl rfl rfl (ySh.t hS rfl) (ySh.n hS rfl) ?_
    refine y_in (M := xm_X14_refuse) (ls := [some _, some _, some _]) rfl rfl rfl ?_
    refine y_iload_n rfl rfl ?_
    refine y_if_eqT rfl j_X14_refuse_16 (by decide) ?_
    refine y_aload_n rfl rfl ?_
    refine y_getIv (v := Int32.ofInt (0)) rfl (ySh.t hS rfl) (ySh.n hS rfl) rfl rfl hth ?_
    refine y_if_leT rfl j_X14_refuse_27 (by decide) ?_
    refine y_iconst rfl ?_
    refine y_ireturn rfl rfl rfl ?_
    refine y_ret1 ?_
    refine y_ireturn rfl rfl rfl ?_
    refine y_ret1 ?_
    refine y_if_eqT rfl j_X14_best_26 (by decide) ?_
    refine y_aload_n rfl rfl ?_
    refine y_iload_n rfl rfl ?_
    refine y_virt rfl rfl rfl rfl rfl (ySh.t hS rfl) (ySh.n hS rfl) ?_
    refine r_bestSet hS hR (Nat.le_trans hn hX.1)  (fun v_5 => ?_)
    refine y_ret1 ?_
    refine y_istore_n (ls' := [some _, some _, some _, some _]) rfl rfl rfl ?_
    refine y_iload_n rfl rfl ?_
    refine y_if_eq rfl j_X14_best_40 (fun h_6 => ?_) (fun h_7 => ?_)
    · refine y_aload_n rfl rfl ?_
      refine y_iload_n rfl rfl ?_
      refine y_iconst rfl ?_
      refine y_virt rfl rfl rfl rfl rfl (ySh.t hS rfl) (ySh.n hS rfl) ?_
      refine r_sumOf hS hR (Nat.le_trans hn hX.1) (by decide) (by decide) (fun v_8 => ?_)
      refine y_ret1 ?_
      refine y_ireturn rfl rfl rfl ?_
      exact hQ _ _ _ _ _ _ _ hS ((hR0.grow hX).up (Nat.le_succ K) hk6) (hK.x hRo hno hX) (by omega) (by omega)
    · refine y_iload_n rfl rfl ?_
      refine y_goto rfl j_X14_best_46 ?_
      refine y_ireturn rfl rfl rfl ?_
      exact hQ _ _ _ _ _ _ _ hS ((hR0.grow hX).up (Nat.le_succ K) hk6) (hK.x hRo hno hX) (by omega) (by omega)
  · rw [yz_0] at h_3
    rw [yz_999] at h_3
    refine y_ret1 ?_
    refine y_if_neF rfl (by decide) ?_
    refine y_iconst rfl ?_
    refine y_goto rfl j_X14_best_17 ?_
    refine y_iconst rfl ?_
    refine y_virt rfl rfl rfl rfl rfl (ySh.t hS rfl) (ySh.n hS rfl) ?_
    refine y_in (M := xm_X14_start) (ls := [some _, some _, some _]) rfl rfl rfl ?_
    refine y_aload_n rfl rfl ?_
    refine y_iconst rfl ?_
    refine y_putI rfl (ySh.t hS rfl) (ySh.n hS rfl) rfl (Nat.le_of_ble_eq_true rfl) rfl rfl ?_
    refine y_nameI (fun I9 e9 => ?_)
    have hR1 := (hR0.grow hX).mod0 e9 (by decide) (by decide)
    have hK := (hK.x hRo hno hX).upI (upI e9) (by decide) (by decide) (fun i hi => by have := (hRo.l87.2.2.2.2 i hi).2.1; omega) (by rw [e9, upd2_ne (.inr (by decide))]; exact Int.le_refl _)
    have hth : I9 83 0 = Int32.ofInt (0) := by rw [e9, upd2_self]
    have hzz : ySz8 I I9 := ySz8_of (upI e9) (by rw [e9]; exact ⟨upd2_ne (.inr (by decide)), upd2_ne (.inr (by decide))⟩)
    have hS0 := hS
    have hR0 := hR1
    have hn := Nat.le_refl n
    have h94 := hS0.1
    have hX := @yX.rf n tg I9 R
    have hS := hS0.x hX
    have hR := hR0.x hn hX
    have hz := hX.sz h94
    have hxn := hX.1
    have hN := hR0.1
    have hnb := hR0.2.2.2.2.2.2
    refine y_aload_n rfl rfl ?_
    refine y_iload_n rfl rfl ?_
    refine y_iload_n rfl rfl ?_
    refine y_virt rfl rfl rfl rfl rfl (ySh.t hS rfl) (ySh.n hS rfl) ?_
    refine y_in (M := xm_X14_refuse) (ls := [some _, some _, some _]) rfl rfl rfl ?_
    refine y_iload_n rfl rfl ?_
    refine y_if_eqF rfl (by decide) ?_
    refine y_aload_n rfl rfl ?_
    refine y_getIv (v := Int32.ofInt (0)) rfl (ySh.t hS rfl) (ySh.n hS rfl) rfl rfl hth ?_
    refine y_if_neF rfl (by decide) ?_
    refine y_aload_n rfl rfl ?_
    refine y_iload_n rfl rfl ?_
    refine y_putI rfl (ySh.t hS rfl) (ySh.n hS rfl) rfl (Nat.le_of_ble_eq_true rfl) rfl rfl ?_
    refine y_nameI (fun I10 e10 => ?_)
    have hR1 := (hR0.grow hX).mod0 e10 (by decide) (by decide)
    have hK := (hK.x hRo hno hX).upI (upI e10) (by decide) (by decide) (fun i hi => by have := (hRo.l87.2.2.2.2 i hi).2.1; omega) (by rw [e10, upd2_ne (.inr (by decide))]; exact Int.le_refl _)
    have hth : I10 83 0 = Int32.ofInt (1) := by rw [e10, upd2_self]
    have hzz : ySz8 I9 I10 := ySz8_of (upI e10) (by rw [e10]; exact ⟨upd2_ne (.inr (by decide)), upd2_ne (.inr (by decide))⟩)
    have hS0 := hS
    have hR0 := hR1
    have hn := Nat.le_refl n
    have h94 := hS0.1
    have hX := @yX.rf n tg I10 R
    have hS := hS0.x hX
    have hR := hR0.x hn hX
    have hz := hX.sz h94
    have hxn := hX.1
    have hN := hR0.1
    have hnb := hR0.2.2.2.2.2.2
    refine y_aload_n rfl rfl ?_
    refine y_getIv (v := Int32.ofInt (1)) rfl (ySh.t hS rfl) (ySh.n hS rfl) rfl rfl hth ?_
    refine y_if_leF rfl (by decide) ?_
    refine y_iconst rfl ?_
    refine y_goto rfl j_X14_refuse_28 ?_
    refine y_ireturn rfl rfl rfl ?_
    refine y_ret1 ?_
    refine y_ireturn rfl rfl rfl ?_
    refine y_ret1 ?_
    refine y_if_eqF rfl (by decide) ?_
    refine y_iconst rfl ?_
    refine y_ireturn rfl rfl rfl ?_
    exact hQ _ _ _ _ _ _ _ hS ((hR0.grow hX).up (Nat.le_succ K) hk6) (hK.x hRo hno hX) (by omega) (by omega)
end YRM
