/-! THE REFERENCE: pass, day by day (by gen32.py) -/
section YRV
variable {K nb n : Nat} {tg : Nat → yT} {I : Nat → Nat → Int32} {R : Nat → Nat → Value} {c s : Nat} {Q : yQ}
theorem lm_pass53 (hRo : yRI K n tg I R) {x1 : Int32} (hx : x1.toInt ≤ 400) (hQ : ∀ (v : Int32) n1 tg1 I1 R1 c1 s1, ySh n1 tg1 R1 → yRI K n1 tg1 I1 R1 → yKp n tg I R n1 tg1 I1 R1 → c1 ≤ c + 400 → s1 ≤ s + 1600 → Q (.inl (some (.int v))) (n1, tg1, I1, R1) c1 s1) :
    ∀ (m : Nat) (x2 : Int32) (n1 : Nat) (tg1 : Nat → yT) (I1 : Nat → Nat → Int32) (R1 : Nat → Nat → Value) (c1 s1 : Nat), ySh n1 tg1 R1 → yRI K n1 tg1 I1 R1 → yKp n tg I R n1 tg1 I1 R1 → 0 ≤ x2.toInt → x2.toInt ≤ x1.toInt → (I1 83 1).toInt + (x1.toInt - x2.toInt) ≤ 4000 → (c1 : Int) ≤ (c : Int) + x2.toInt → (s1 : Int) ≤ (s : Int) + 4 * x2.toInt → x1.toInt - x2.toInt < m →
    yW xm_X14_pass xc_X14_pass_53 [some (.ref 83), some (.int x1), some (.int x2), none, none] [] (n1, tg1, I1, R1) c1 s1 Q := by
  intro m
  induction m with
  | zero => intro x2 n1 tg1 I1 R1 c1 s1 hS hR hK i0 i1 i2 i3 i4 hm; exfalso; omega
  | succ m ih =>
    intro x2 n1 tg1 I1 R1 c1 s1 hS hR hK i0 i1 i2 i3 i4 hm
    refine y_iload_n rfl rfl ?_
    refine y_iload_n rfl rfl ?_
    refine y_icmp_ge rfl j_X14_pass_184 (fun h_1 => ?_) (fun h_2 => ?_)
    · refine y_aload_n rfl rfl ?_
      refine y_getI rfl (ySh.t hS rfl) (ySh.n hS rfl) rfl rfl ?_
      refine y_ireturn rfl rfl rfl ?_
      exact hQ _ _ _ _ _ _ _ hS hR hK (by omega) (by omega)
    · refine y_iconst rfl ?_
      refine y_istore_n (ls' := [some _, some _, some _, some _, none]) rfl rfl rfl ?_
      refine lm_pass60 (dd := I1 83 1) hRo (Nat.le_refl n) (fun n2 tg2 I2 R2 hS2 hR2 hK2 hd2 => ?_) 9 _ _ _ _ _ hS hR hK (by decide) (by decide) rfl (by decide)
      refine y_aload_n rfl rfl ?_
      refine y_dup rfl rfl ?_
      refine y_getI rfl (ySh.t hS2 rfl) (ySh.n hS2 rfl) rfl rfl ?_
      refine y_iconst rfl ?_
      refine y_iadd rfl ?_
      refine y_putI rfl (ySh.t hS2 rfl) (ySh.n hS2 rfl) rfl (Nat.le_of_ble_eq_true rfl) rfl rfl ?_
      refine y_nameI (fun I3 e3 => ?_)
      have hN2 := hR2.1
      have hi2 : (I2 83 1).toInt = (I1 83 1).toInt := by rw [hd2]
      have ed : (I3 83 1).toInt = (I1 83 1).toInt + 1 := by rw [e3, upd2_self, yinc (by omega), hi2]
      have hR3 := hR2.mod (upI e3) (by rw [e3, upd2_ne (.inr (by decide))]; exact hN2.1) ⟨by omega, by omega⟩
      have hK3 := hK2.upI (upI e3) (by decide) (by decide) (fun i hi => by have := (hRo.l87.2.2.2.2 i hi).2.1; omega) (by omega)
      refine y_aload_n rfl rfl ?_
      refine y_virt rfl rfl rfl rfl rfl (ySh.t hS2 rfl) (ySh.n hS2 rfl) ?_
      refine h_rents hS2 hR3 (fun n4 tg4 I4 R4 hS4 hR4 hK4 hd4 => ?_)
      refine y_ret0 ?_
      refine y_iconst rfl ?_
      refine y_istore_n (ls' := [some _, some _, some _, some _, none]) rfl rfl rfl ?_
      refine lm_pass105 (dd := I4 83 1) hRo (Nat.le_refl n) (fun n5 tg5 I5 R5 hS5 hR5 hK5 hd5 => ?_) 9 _ _ _ _ _ hS4 hR4 (hK3.trans hK4) (by decide) (by decide) rfl (by decide)
      have hd6 : (I5 83 1).toInt = (I1 83 1).toInt + 1 := by rw [hd5, hd4]; exact ed
      have hx2 : (x2 + Int32.ofInt 1).toInt = x2.toInt + 1 := yinc (by omega)
      refine y_iinc (ls' := [some _, some _, some _, none, none]) rfl rfl rfl rfl ?_
      refine y_goto rfl j_X14_pass_53 ?_
      exact ih _ _ _ _ _ _ _ hS5 hR5 hK5 (by omega) (by omega) (by omega) (by omega) (by omega) (by omega)
theorem ypass {a b : Int32} (h0 : 0 ≤ a.toInt) (h1 : a.toInt ≤ 4000) (h2 : 1 ≤ b.toInt) (h3 : b.toInt ≤ 400) (h : (a + b).toInt ≤ 4000) : a.toInt + (b.toInt - 0) ≤ 4000 := by
  rw [yadd (by omega) (by omega)] at h; omega
theorem n_pass (hS0 : ySh n tg R) (hR0 : yRI K n tg I R) (hk6 : K < 600) {x1 : Int32} (hQ : ∀ (v : Int32) n1 tg1 I1 R1 c1 s1, ySh n1 tg1 R1 → yRI (K + 1) n1 tg1 I1 R1 → yKp n tg I R n1 tg1 I1 R1 → c1 ≤ c + 400 → s1 ≤ s + 1600 → Q (.inl (some (.int v))) (n1, tg1, I1, R1) c1 s1) : yC 226 [.ref 83, .int x1] (n, tg, I, R) c s Q := by
  have hno := Nat.le_refl n
  have hn := hno
  have hRo := hR0
  have hK : yKp n tg I R n tg I R := yKp.rf
  have hX : yX n tg I R n tg I R := yX.rf
  have hS := hS0
  have hR := hR0
  have h94 : 94 ≤ n := hS0.1
  have hz : ySz I I := hX.sz h94
  have hxn := hX.1
  have hN := hR0.1
  have hnb : 94 ≤ n := hR0.2.2.2.2.2.2
  refine y_in (M := xm_X14_pass) (ls := [some _, some _, _, _, _]) rfl rfl rfl ?_
  refine y_aload_n rfl rfl ?_
  refine y_iload_n rfl rfl ?_
  refine y_iconst rfl ?_
  refine y_sip rfl (by decide) ?_
  refine y_static rfl rfl rfl rfl rfl ?_
  refine r_isIn (fun h_1 h_2 => ?_) (fun h_3 => ?_)
  · rw [yz_1] at h_1
    rw [yz_400] at h_2
    refine y_ret1 ?_
    refine y_if_neT rfl j_X14_pass_16 (by decide) ?_
    refine y_iconst rfl ?_
    refine y_iconst rfl ?_
    refine y_virt rfl rfl rfl rfl rfl (ySh.t hS rfl) (ySh.n hS rfl) ?_
    refine y_in (M := xm_X14_start) (ls := [some _, some _, some _]) rfl rfl rfl ?_
    refine y_aload_n rfl rfl ?_
    refine y_iconst rfl ?_
    refine y_putI rfl (ySh.t hS rfl) (ySh.n hS rfl) rfl (Nat.le_of_ble_eq_true rfl) rfl rfl ?_
    refine y_nameI (fun I4 e4 => ?_)
    have hR1 := (hR0.grow hX).mod0 e4 (by decide) (by decide)
    have hK := (hK.x hRo hno hX).upI (upI e4) (by decide) (by decide) (fun i hi => by have := (hRo.l87.2.2.2.2 i hi).2.1; omega) (by rw [e4, upd2_ne (.inr (by decide))]; exact Int.le_refl _)
    have hth : I4 83 0 = Int32.ofInt (0) := by rw [e4, upd2_self]
    have hzz : ySz8 I I4 := ySz8_of (upI e4) (by rw [e4]; exact ⟨upd2_ne (.inr (by decide)), upd2_ne (.inr (by decide))⟩)
    have hS0 := hS
    have hR0 := hR1
    have hn := Nat.le_refl n
    have h94 := hS0.1
    have hX := @yX.rf n tg I4 R
    have hS := hS0.x hX
    have hR := hR0.x hn hX
    have hz := hX.sz h94
    have hxn := hX.1
    have hN := hR0.1
    have hnb := hR0.2.2.2.2.2.2
    have hthB := hth
    refine y_aload_n rfl rfl ?_
    refine y_iload_n rfl rfl ?_
    refine y_iload_n rfl rfl ?_
    refine y_virt rfl rfl rfl rfl rfl (ySh.t hS rfl) (ySh.n hS rfl) ?_
    refine y_in (M := xm_X14_refuse) (ls := [some _, some _, some _]) rfl rfl rfl ?_
    refine y_iload_n rfl rfl ?_
    refine y_if_eqT rfl j_X14_refuse_16 (by decide) ?_
    refine y_aload_n rfl rfl ?_
    refine y_getIv (v := Int32.ofInt (0)) rfl (ySh.t hS rfl) (ySh.n hS rfl) rfl rfl hth ?_
    refine y_if_leT rfl j_X14_refuse_27 (by decide) ?_
    refine y_iconst rfl ?_
    refine y_ireturn rfl rfl rfl ?_
    refine y_ret1 ?_
    refine y_ireturn rfl rfl rfl ?_
    refine y_ret1 ?_
    refine y_if_neF rfl (by decide) ?_
    refine y_aload_n rfl rfl ?_
    refine y_aload_n rfl rfl ?_
    refine y_getI rfl (ySh.t hS rfl) (ySh.n hS rfl) rfl rfl ?_
    refine y_iload_n rfl rfl ?_
    refine y_iadd rfl ?_
    refine y_sip rfl (by decide) ?_
    refine y_icmp_le rfl j_X14_pass_41 (fun h_5 => ?_) (fun h_6 => ?_)
    · rw [yz_4000] at h_5
      refine y_iconst rfl ?_
      refine y_iconst rfl ?_
      refine y_virt rfl rfl rfl rfl rfl (ySh.t hS rfl) (ySh.n hS rfl) ?_
      refine y_in (M := xm_X14_refuse) (ls := [some _, some _, some _]) rfl rfl rfl ?_
      refine y_iload_n rfl rfl ?_
      refine y_if_eqT rfl j_X14_refuse_16 (by decide) ?_
      refine y_aload_n rfl rfl ?_
      refine y_getIv (v := Int32.ofInt (0)) rfl (ySh.t hS rfl) (ySh.n hS rfl) rfl rfl hth ?_
      refine y_if_leT rfl j_X14_refuse_27 (by decide) ?_
      refine y_iconst rfl ?_
      refine y_ireturn rfl rfl rfl ?_
      refine y_ret1 ?_
      refine y_if_eqT rfl j_X14_pass_51 (by decide) ?_
      refine y_iconst rfl ?_
      refine y_istore_n (ls' := [some _, some _, some _, _, _]) rfl rfl rfl ?_
      exact lm_pass53 hRo (by omega) (fun v n1 tg1 I1 R1 c1 s1 a b d e f => hQ _ _ _ _ _ _ _ a (b.up (Nat.le_succ K) hk6) d e f) 401 _ _ _ _ _ _ _ hS (hR0.grow hX) (hK.x hRo hno hX) (by decide) (by show (0 : Int) ≤ _; omega) (ypass (by omega) (by omega) (by omega) (by omega) (by assumption)) (by simp) (by simp) (by show _ - (0 : Int) < 401; omega)
    · rw [yz_4000] at h_6
      refine y_iconst rfl ?_
      refine y_goto rfl j_X14_pass_42 ?_
      refine y_iconst rfl ?_
      refine y_virt rfl rfl rfl rfl rfl (ySh.t hS rfl) (ySh.n hS rfl) ?_
      refine y_in (M := xm_X14_refuse) (ls := [some _, some _, some _]) rfl rfl rfl ?_
      refine y_iload_n rfl rfl ?_
      refine y_if_eqF rfl (by decide) ?_
      refine y_aload_n rfl rfl ?_
      refine y_getIv (v := Int32.ofInt (0)) rfl (ySh.t hS rfl) (ySh.n hS rfl) rfl rfl hth ?_
      refine y_if_neF rfl (by decide) ?_
      refine y_aload_n rfl rfl ?_
      refine y_iload_n rfl rfl ?_
      refine y_putI rfl (ySh.t hS rfl) (ySh.n hS rfl) rfl (Nat.le_of_ble_eq_true rfl) rfl rfl ?_
      refine y_nameI (fun I7 e7 => ?_)
      have hR1 := (hR0.grow hX).mod0 e7 (by decide) (by decide)
      have hK := (hK.x hRo hno hX).upI (upI e7) (by decide) (by decide) (fun i hi => by have := (hRo.l87.2.2.2.2 i hi).2.1; omega) (by rw [e7, upd2_ne (.inr (by decide))]; exact Int.le_refl _)
      have hth : I7 83 0 = Int32.ofInt (2) := by rw [e7, upd2_self]
      have hzz : ySz8 I4 I7 := ySz8_of (upI e7) (by rw [e7]; exact ⟨upd2_ne (.inr (by decide)), upd2_ne (.inr (by decide))⟩)
      have hS0 := hS
      have hR0 := hR1
      have hn := Nat.le_refl n
      have h94 := hS0.1
      have hX := @yX.rf n tg I7 R
      have hS := hS0.x hX
      have hR := hR0.x hn hX
      have hz := hX.sz h94
      have hxn := hX.1
      have hN := hR0.1
      have hnb := hR0.2.2.2.2.2.2
      have hthB := hth
      refine y_aload_n rfl rfl ?_
      refine y_getIv (v := Int32.ofInt (2)) rfl (ySh.t hS rfl) (ySh.n hS rfl) rfl rfl hth ?_
      refine y_if_leF rfl (by decide) ?_
      refine y_iconst rfl ?_
      refine y_goto rfl j_X14_refuse_28 ?_
      refine y_ireturn rfl rfl rfl ?_
      refine y_ret1 ?_
      refine y_if_eqF rfl (by decide) ?_
      refine y_iconst rfl ?_
      refine y_ireturn rfl rfl rfl ?_
      exact hQ _ _ _ _ _ _ _ hS ((hR0.grow hX).up (Nat.le_succ K) hk6) (hK.x hRo hno hX) (by omega) (by omega)
  · rw [yz_1] at h_3
    rw [yz_400] at h_3
    refine y_ret1 ?_
    refine y_if_neF rfl (by decide) ?_
    refine y_iconst rfl ?_
    refine y_goto rfl j_X14_pass_17 ?_
    refine y_iconst rfl ?_
    refine y_virt rfl rfl rfl rfl rfl (ySh.t hS rfl) (ySh.n hS rfl) ?_
    refine y_in (M := xm_X14_start) (ls := [some _, some _, some _]) rfl rfl rfl ?_
    refine y_aload_n rfl rfl ?_
    refine y_iconst rfl ?_
    refine y_putI rfl (ySh.t hS rfl) (ySh.n hS rfl) rfl (Nat.le_of_ble_eq_true rfl) rfl rfl ?_
    refine y_nameI (fun I8 e8 => ?_)
    have hR1 := (hR0.grow hX).mod0 e8 (by decide) (by decide)
    have hK := (hK.x hRo hno hX).upI (upI e8) (by decide) (by decide) (fun i hi => by have := (hRo.l87.2.2.2.2 i hi).2.1; omega) (by rw [e8, upd2_ne (.inr (by decide))]; exact Int.le_refl _)
    have hth : I8 83 0 = Int32.ofInt (0) := by rw [e8, upd2_self]
    have hzz : ySz8 I I8 := ySz8_of (upI e8) (by rw [e8]; exact ⟨upd2_ne (.inr (by decide)), upd2_ne (.inr (by decide))⟩)
    have hS0 := hS
    have hR0 := hR1
    have hn := Nat.le_refl n
    have h94 := hS0.1
    have hX := @yX.rf n tg I8 R
    have hS := hS0.x hX
    have hR := hR0.x hn hX
    have hz := hX.sz h94
    have hxn := hX.1
    have hN := hR0.1
    have hnb := hR0.2.2.2.2.2.2
    have hthB := hth
    refine y_aload_n rfl rfl ?_
    refine y_iload_n rfl rfl ?_
    refine y_iload_n rfl rfl ?_
    refine y_virt rfl rfl rfl rfl rfl (ySh.t hS rfl) (ySh.n hS rfl) ?_
    refine y_in (M := xm_X14_refuse) (ls := [some _, some _, some _]) rfl rfl rfl ?_
    refine y_iload_n rfl rfl ?_
    refine y_if_eqF rfl (by decide) ?_
    refine y_aload_n rfl rfl ?_
    refine y_getIv (v := Int32.ofInt (0)) rfl (ySh.t hS rfl) (ySh.n hS rfl) rfl rfl hth ?_
    refine y_if_neF rfl (by decide) ?_
    refine y_aload_n rfl rfl ?_
    refine y_iload_n rfl rfl ?_
    refine y_putI rfl (ySh.t hS rfl) (ySh.n hS rfl) rfl (Nat.le_of_ble_eq_true rfl) rfl rfl ?_
    refine y_nameI (fun I9 e9 => ?_)
    have hR1 := (hR0.grow hX).mod0 e9 (by decide) (by decide)
    have hK := (hK.x hRo hno hX).upI (upI e9) (by decide) (by decide) (fun i hi => by have := (hRo.l87.2.2.2.2 i hi).2.1; omega) (by rw [e9, upd2_ne (.inr (by decide))]; exact Int.le_refl _)
    have hth : I9 83 0 = Int32.ofInt (1) := by rw [e9, upd2_self]
    have hzz : ySz8 I8 I9 := ySz8_of (upI e9) (by rw [e9]; exact ⟨upd2_ne (.inr (by decide)), upd2_ne (.inr (by decide))⟩)
    have hS0 := hS
    have hR0 := hR1
    have hn := Nat.le_refl n
    have h94 := hS0.1
    have hX := @yX.rf n tg I9 R
    have hS := hS0.x hX
    have hR := hR0.x hn hX
    have hz := hX.sz h94
    have hxn := hX.1
    have hN := hR0.1
    have hnb := hR0.2.2.2.2.2.2
    have hthB := hth
    refine y_aload_n rfl rfl ?_
    refine y_getIv (v := Int32.ofInt (1)) rfl (ySh.t hS rfl) (ySh.n hS rfl) rfl rfl hth ?_
    refine y_if_leF rfl (by decide) ?_
    refine y_iconst rfl ?_
    refine y_goto rfl j_X14_refuse_28 ?_
    refine y_ireturn rfl rfl rfl ?_
    refine y_ret1 ?_
    refine y_ireturn rfl rfl rfl ?_
    refine y_ret1 ?_
    refine y_if_neT rfl j_X14_pass_49 (by decide) ?_
    refine y_iconst rfl ?_
    refine y_ireturn rfl rfl rfl ?_
    exact hQ _ _ _ _ _ _ _ hS ((hR0.grow hX).up (Nat.le_succ K) hk6) (hK.x hRo hno hX) (by omega) (by omega)
end YRV
