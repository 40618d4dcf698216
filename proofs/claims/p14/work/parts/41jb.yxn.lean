/-! THE SAME, SALES -/
section YXM
variable {K nb n : Nat} {tg : Nat → yT} {I : Nat → Nat → Int32} {R : Nat → Nat → Value} {c s : Nat} {Q : yQ}
theorem h_sell (hS0 : ySh n tg R) (hR0 : yRI K n tg I R) (hk6 : K < 600) {x1 x2 x3 x4 : Int32} {lv : Int} (hlv : yLf I R x1 lv) {al : Int} (hal : ySum (fun j => yHv I R 0 j (I 87 2).toInt.toNat) 5 = al) (hQ1 : ¬ ((0 ≤ x1.toInt ∧ x1.toInt < (I 88 2).toInt) ∧ (0 ≤ x2.toInt ∧ x2.toInt < (I 83 8).toInt)) → ∀ (v : Int32) n1 tg1 I1 R1 c1 s1, ySh n1 tg1 R1 → yRI (K + 1) n1 tg1 I1 R1 → yKp n tg I R n1 tg1 I1 R1 → I1 83 0 = Int32.ofInt 1 → yGm n I1 I → (I1 88 2).toInt = (I 88 2).toInt → (I1 89 2).toInt = (I 89 2).toInt → (I1 90 2).toInt = (I 90 2).toInt → (I1 91 2).toInt = (I 91 2).toInt → (I1 92 2).toInt = (I 92 2).toInt → yLk I R R1 → yRf n I R I1 R1 → c1 ≤ c + 4 → s1 ≤ s + 1330 → Q (.inl (some (.int v))) (n1, tg1, I1, R1) c1 s1) (hQ2 : ((0 ≤ x1.toInt ∧ x1.toInt < (I 88 2).toInt) ∧ (0 ≤ x2.toInt ∧ x2.toInt < (I 83 8).toInt)) ∧ ¬ ((0 ≤ x3.toInt ∧ x3.toInt ≤ 99) ∧ (1 ≤ x4.toInt ∧ x4.toInt ≤ 12)) → ∀ (v : Int32) n1 tg1 I1 R1 c1 s1, ySh n1 tg1 R1 → yRI (K + 1) n1 tg1 I1 R1 → yKp n tg I R n1 tg1 I1 R1 → I1 83 0 = Int32.ofInt 2 → yGm n I1 I → (I1 88 2).toInt = (I 88 2).toInt → (I1 89 2).toInt = (I 89 2).toInt → (I1 90 2).toInt = (I 90 2).toInt → (I1 91 2).toInt = (I 91 2).toInt → (I1 92 2).toInt = (I 92 2).toInt → yLk I R R1 → yRf n I R I1 R1 → c1 ≤ c + 4 → s1 ≤ s + 1330 → Q (.inl (some (.int v))) (n1, tg1, I1, R1) c1 s1) (hQ3 : ((0 ≤ x1.toInt ∧ x1.toInt < (I 88 2).toInt) ∧ (0 ≤ x2.toInt ∧ x2.toInt < (I 83 8).toInt)) ∧ ((0 ≤ x3.toInt ∧ x3.toInt ≤ 99) ∧ (1 ≤ x4.toInt ∧ x4.toInt ≤ 12)) ∧ ¬ ((I 89 2).toInt < 12 ∧ lv = -1) → ∀ (v : Int32) n1 tg1 I1 R1 c1 s1, ySh n1 tg1 R1 → yRI (K + 1) n1 tg1 I1 R1 → yKp n tg I R n1 tg1 I1 R1 → I1 83 0 = Int32.ofInt 3 → yGm n I1 I → (I1 88 2).toInt = (I 88 2).toInt → (I1 89 2).toInt = (I 89 2).toInt → (I1 90 2).toInt = (I 90 2).toInt → (I1 91 2).toInt = (I 91 2).toInt → (I1 92 2).toInt = (I 92 2).toInt → yLk I R R1 → yRf n I R I1 R1 → c1 ≤ c + 4 → s1 ≤ s + 1330 → Q (.inl (some (.int v))) (n1, tg1, I1, R1) c1 s1) (hQ0a : ∀ b, b = yAd R 88 x1.toInt.toNat → ∀ ms : Int32, ms.toInt = yMs (I b 1).toInt (I b 2).toInt al (I b 3).toInt (I b 5).toInt x2.toInt → ms.toInt = 0 → ((0 ≤ x1.toInt ∧ x1.toInt < (I 88 2).toInt) ∧ (0 ≤ x2.toInt ∧ x2.toInt < (I 83 8).toInt)) ∧ ((0 ≤ x3.toInt ∧ x3.toInt ≤ 99) ∧ (1 ≤ x4.toInt ∧ x4.toInt ≤ 12)) ∧ ((I 89 2).toInt < 12 ∧ lv = -1) → ∀ (v : Int32) n1 tg1 I1 R1 c1 s1, ySh n1 tg1 R1 → yRI (K + 1) n1 tg1 I1 R1 → yKp n tg I R n1 tg1 I1 R1 → I1 83 0 = Int32.ofInt 0 → v.toInt = (I 89 2).toInt → yGm n I1 (upd2 (upd2 I b 1 x2) b 2 (Int32.ofInt 1)) → (I1 88 2).toInt = (I 88 2).toInt → (I1 89 2).toInt = (I 89 2).toInt + 1 → (I1 90 2).toInt = (I 90 2).toInt → (I1 91 2).toInt = (I 91 2).toInt → (I1 92 2).toInt = (I 92 2).toInt → yLk I R R1 → ∀ x, x = yAd R1 89 (I 89 2).toInt.toNat → n ≤ x → I1 x 0 = x1 → I1 x 1 = x2 → I1 x 2 = (I b 4 + I b 4 * x3 / Int32.ofInt 100) → I1 x 3 = x3 → I1 x 4 = x4 → I1 x 5 = ms → I1 x 6 = (I 83 1) → I1 x 7 = (Int32.ofInt 0) → I1 x 8 = (Int32.ofInt 0) → I1 x 9 = (Int32.ofInt 0) → y8 I I1 → c1 ≤ c + 4 → s1 ≤ s + 1330 → Q (.inl (some (.int v))) (n1, tg1, I1, R1) c1 s1) (hQ0b : ∀ b, b = yAd R 88 x1.toInt.toNat → ∀ ms : Int32, ms.toInt = yMs (I b 1).toInt (I b 2).toInt al (I b 3).toInt (I b 5).toInt x2.toInt → ms.toInt ≠ 0 → ((0 ≤ x1.toInt ∧ x1.toInt < (I 88 2).toInt) ∧ (0 ≤ x2.toInt ∧ x2.toInt < (I 83 8).toInt)) ∧ ((0 ≤ x3.toInt ∧ x3.toInt ≤ 99) ∧ (1 ≤ x4.toInt ∧ x4.toInt ≤ 12)) ∧ ((I 89 2).toInt < 12 ∧ lv = -1) → ∀ (v : Int32) n1 tg1 I1 R1 c1 s1, ySh n1 tg1 R1 → yRI (K + 1) n1 tg1 I1 R1 → yKp n tg I R n1 tg1 I1 R1 → I1 83 0 = Int32.ofInt 0 → v.toInt = (I 89 2).toInt → yGm n I1 I → (I1 88 2).toInt = (I 88 2).toInt → (I1 89 2).toInt = (I 89 2).toInt + 1 → (I1 90 2).toInt = (I 90 2).toInt → (I1 91 2).toInt = (I 91 2).toInt → (I1 92 2).toInt = (I 92 2).toInt → yLk I R R1 → ∀ x, x = yAd R1 89 (I 89 2).toInt.toNat → n ≤ x → I1 x 0 = x1 → I1 x 1 = x2 → I1 x 2 = (I b 4 + I b 4 * x3 / Int32.ofInt 100) → I1 x 3 = x3 → I1 x 4 = x4 → I1 x 5 = ms → I1 x 6 = (I 83 1) → I1 x 7 = (Int32.ofInt 0) → I1 x 8 = (Int32.ofInt 0) → I1 x 9 = (Int32.ofInt 0) → y8 I I1 → c1 ≤ c + 4 → s1 ≤ s + 1330 → Q (.inl (some (.int v))) (n1, tg1, I1, R1) c1 s1) : yC 202 [.ref 83, .int x1, .int x2, .int x3, .int x4] (n, tg, I, R) c s Q := by
  have hno := Nat.le_refl n
  have hn := hno
  have hRo := hR0
  have hK : yKp n tg I R n tg I R := yKp.rf
  have hX : yX n tg I R n tg I R := yX.rf
  have hS := hS0
  have hR := hR0
  have h94 : 94 ≤ n := hS0.1
  have hz : ySz I I := hX.sz h94
  have hxn := hX.1
  have hN := hR0.1
  have hnb : 94 ≤ n := hR0.2.2.2.2.2.2
  have hg : yGm n I I := yGm.rf
  have hday : I 83 1 = I 83 1 := rfl
  have hb83 : ∀ a, a ≠ 83 → a < n → I a = I a := fun _ _ _ => rfl
  have hRb : ∀ a, a < n → R a = R a := fun _ _ => rfl
  have hB : yX n tg I R n tg I R := yX.rf
  have h8 : ∀ a, 84 ≤ a → a ≤ 86 → I a = I a := fun _ _ _ => rfl
  have h3k : ∀ k, k ≠ 0 → I 83 k = I 83 k := fun _ _ => rfl
  refine y_in (M := xm_X14_sell) (ls := [some _, some _, some _, some _, some _, _, _]) rfl rfl rfl ?_
  refine y_aload_n rfl rfl ?_
  refine y_aload_n rfl rfl ?_
  refine y_iload_n rfl rfl ?_
  refine y_virt rfl rfl rfl rfl rfl (ySh.t hS rfl) (ySh.n hS rfl) ?_
  refine y_in (M := xm_X14_isNoThing) (ls := [some _, some _]) rfl rfl rfl ?_
  refine y_iload_n rfl rfl ?_
  refine y_iconst rfl ?_
  refine y_aload_n rfl rfl ?_
  refine y_getR rfl (ySh.t hS rfl) (ySh.n hS rfl) rfl rfl (ySh.r hS rfl) ?_
  refine y_virt rfl rfl rfl rfl rfl (ySh.t hS rfl) (ySh.n hS rfl) ?_
  refine y_in (M := xm_Jx4a65c_size_8abf5) (ls := [some _]) rfl rfl rfl ?_
  refine y_aload_n rfl rfl ?_
  refine y_getI rfl (ySh.t hS rfl) (ySh.n hS rfl) rfl rfl ?_
  refine y_ireturn rfl rfl rfl ?_
  refine y_ret1 ?_
  refine y_iconst rfl ?_
  refine y_isub rfl ?_
  refine y_static rfl rfl rfl rfl rfl ?_
  refine r_isIn (fun h_1 h_2 => ?_) (fun h_3 => ?_)
  · rw [yz_0] at h_1
    try rw [ysub (by rw [yz_1]; omega) (by rw [yz_1]; omega), yz_1] at h_2
    refine y_ret1 ?_
    refine y_if_neT rfl j_X14_isNoThing_21 (by decide) ?_
    refine y_iconst rfl ?_
    refine y_ireturn rfl rfl rfl ?_
    refine y_ret1 ?_
    refine y_if_neF rfl (by decide) ?_
    refine y_aload_n rfl rfl ?_
    refine y_iload_n rfl rfl ?_
    refine y_virt rfl rfl rfl rfl rfl (ySh.t hS rfl) (ySh.n hS rfl) ?_
    refine y_in (M := xm_X14_isNobody) (ls := [some _, some _]) rfl rfl rfl ?_
    refine y_iload_n rfl rfl ?_
    refine y_iconst rfl ?_
    refine y_aload_n rfl rfl ?_
    refine y_getIv (v := I 83 8) rfl (ySh.t hS rfl) (ySh.n hS rfl) rfl rfl ((congrFun ((hB.trans hX).n (by omega : 83 < n)) 8).trans (by repeat (first | rfl | rw [upd2_ne (by first | exact .inl (by omega) | exact .inr (by decide))]))) ?_
    refine y_iconst rfl ?_
    refine y_isub rfl ?_
    refine y_static rfl rfl rfl rfl rfl ?_
    refine r_isIn (fun h_4 h_5 => ?_) (fun h_6 => ?_)
    · rw [yz_0] at h_4
      try rw [ysub (by rw [yz_1]; omega) (by rw [yz_1]; omega), yz_1] at h_5
      refine y_ret1 ?_
      refine y_if_neT rfl j_X14_isNobody_18 (by decide) ?_
      refine y_iconst rfl ?_
      refine y_ireturn rfl rfl rfl ?_
      refine y_ret1 ?_
      refine y_if_eqT rfl j_X14_sell_21 (by decide) ?_
      refine y_iconst rfl ?_
      refine y_iconst rfl ?_
      refine y_virt rfl rfl rfl rfl rfl (ySh.t hS rfl) (ySh.n hS rfl) ?_
      refine y_in (M := xm_X14_start) (ls := [some _, some _, some _]) rfl rfl rfl ?_
      refine y_aload_n rfl rfl ?_
      refine y_iconst rfl ?_
      refine y_putI rfl (ySh.t hS rfl) (ySh.n hS rfl) rfl (Nat.le_of_ble_eq_true rfl) rfl rfl ?_
      refine y_nameI (fun I7 e7 => ?_)
      have hR1 := (hR0.grow hX).mod0 e7 (by decide) (by decide)
      have hK := (hK.x hRo hno hX).upI (upI e7) (by decide) (by decide) (fun i hi => by have := (hRo.l87.2.2.2.2 i hi).2.1; omega) (by rw [e7, upd2_ne (.inr (by decide))]; exact Int.le_refl _)
      have hth : I7 83 0 = Int32.ofInt (0) := by rw [e7, upd2_self]
      have hzz : ySz8 I I7 := ySz8_of (upI e7) (by rw [e7]; exact ⟨upd2_ne (.inr (by decide)), upd2_ne (.inr (by decide))⟩)
      have hB := (hB.trans hX).wr e7 rfl
      have h8 : ∀ a, 84 ≤ a → a ≤ 86 → I7 a = I a := fun a h1 h2 => (upI e7 a (by omega)).trans ((hX.2.1 a (by omega)).2.1.trans (h8 a h1 h2))
      have h3k : ∀ k, k ≠ 0 → I7 83 k = I 83 k := fun k hk => (congrFun (congrFun e7 83) k).trans ((upd2_ne (.inr hk)).trans ((congrFun (hX.2.1 83 (by omega)).2.1 k).trans (h3k k hk)))
      have hg := (hg.gx hX (by omega)).skip e7 (by decide)
      have hday : I7 83 1 = I 83 1 := (congrFun (congrFun e7 83) 1).trans ((upd2_ne (.inr (by decide))).trans ((congrFun (hX.2.1 83 (by omega)).2.1 1).trans hday))
      have hRb : ∀ a, a < n → R a = R a := fun a ha => (hX.2.1 a (by omega)).2.2.trans (hRb a ha)
      have hb83 : ∀ a, a ≠ 83 → a < n → I7 a = I a := fun a ha hb => (upI e7 a ha).trans ((hX.2.1 a (by omega)).2.1.trans (hb83 a ha hb))
      have hS0 := hS
      have hR0 := hR1
      have hn := Nat.le_refl n
      have h94 := hS0.1
      have hX := @yX.rf n tg I7 R
      have hS := hS0.x hX
      have hR := hR0.x hn hX
      have hz := hX.sz h94
      have hxn := hX.1
      have hN := hR0.1
      have hnb := hR0.2.2.2.2.2.2
      have hthB := hth
      refine y_aload_n rfl rfl ?_
      refine y_iload_n rfl rfl ?_
      refine y_iload_n rfl rfl ?_
      refine y_virt rfl rfl rfl rfl rfl (ySh.t hS rfl) (ySh.n hS rfl) ?_
      refine y_in (M := xm_X14_refuse) (ls := [some _, some _, some _]) rfl rfl rfl ?_
      refine y_iload_n rfl rfl ?_
      refine y_if_eqT rfl j_X14_refuse_16 (by decide) ?_
      refine y_aload_n rfl rfl ?_
      refine y_getIv (v := Int32.ofInt (0)) rfl (ySh.t hS rfl) (ySh.n hS rfl) rfl rfl hth ?_
      refine y_if_leT rfl j_X14_refuse_27 (by decide) ?_
      refine y_iconst rfl ?_
      refine y_ireturn rfl rfl rfl ?_
      refine y_ret1 ?_
      refine y_ireturn rfl rfl rfl ?_
      refine y_ret1 ?_
      refine y_if_neF rfl (by decide) ?_
      refine y_aload_n rfl rfl ?_
      refine y_iload_n rfl rfl ?_
      refine y_iconst rfl ?_
      refine y_bip rfl (by decide) ?_
      refine y_static rfl rfl rfl rfl rfl ?_
      refine r_isIn (fun h_8 h_9 => ?_) (fun h_10 => ?_)
      · rw [yz_0] at h_8
        rw [yz_99] at h_9
        refine y_ret1 ?_
        refine y_if_eqF rfl (by decide) ?_
        refine y_iload rfl rfl ?_
        refine y_iconst rfl ?_
        refine y_bip rfl (by decide) ?_
        refine y_static rfl rfl rfl rfl rfl ?_
        refine r_isIn (fun h_11 h_12 => ?_) (fun h_13 => ?_)
        · rw [yz_1] at h_11
          rw [yz_12] at h_12
          refine y_ret1 ?_
          refine y_if_neT rfl j_X14_sell_55 (by decide) ?_
          refine y_iconst rfl ?_
          refine y_iconst rfl ?_
          refine y_virt rfl rfl rfl rfl rfl (ySh.t hS rfl) (ySh.n hS rfl) ?_
          refine y_in (M := xm_X14_refuse) (ls := [some _, some _, some _]) rfl rfl rfl ?_
          refine y_iload_n rfl rfl ?_
          refine y_if_eqT rfl j_X14_refuse_16 (by decide) ?_
          refine y_aload_n rfl rfl ?_
          refine y_getIv (v := Int32.ofInt (0)) rfl (ySh.t hS rfl) (ySh.n hS rfl) rfl rfl hth ?_
          refine y_if_leT rfl j_X14_refuse_27 (by decide) ?_
          refine y_iconst rfl ?_
          refine y_ireturn rfl rfl rfl ?_
          refine y_ret1 ?_
          refine y_if_neF rfl (by decide) ?_
          refine y_aload_n rfl rfl ?_
          refine y_aload_n rfl rfl ?_
          refine y_getR rfl (ySh.t hS rfl) (ySh.n hS rfl) rfl rfl (ySh.r hS rfl) ?_
          refine y_virt rfl rfl rfl rfl rfl (ySh.t hS rfl) (ySh.n hS rfl) ?_
          refine y_in (M := xm_Jx4a65c_size_8abf5) (ls := [some _]) rfl rfl rfl ?_
          refine y_aload_n rfl rfl ?_
          refine y_getI rfl (ySh.t hS rfl) (ySh.n hS rfl) rfl rfl ?_
          refine y_ireturn rfl rfl rfl ?_
          refine y_ret1 ?_
          refine y_bip rfl (by decide) ?_
          refine y_icmp_eq rfl j_X14_sell_85 (fun h_14 => ?_) (fun h_15 => ?_)
          · rw [yz_12] at h_14
            refine y_iconst rfl ?_
            refine y_goto rfl j_X14_sell_90 ?_
            refine y_iconst rfl ?_
            refine y_virt rfl rfl rfl rfl rfl (ySh.t hS rfl) (ySh.n hS rfl) ?_
            refine y_in (M := xm_X14_refuse) (ls := [some _, some _, some _]) rfl rfl rfl ?_
            refine y_iload_n rfl rfl ?_
            refine y_if_eqF rfl (by decide) ?_
            refine y_aload_n rfl rfl ?_
            refine y_getIv (v := Int32.ofInt (0)) rfl (ySh.t hS rfl) (ySh.n hS rfl) rfl rfl hth ?_
            refine y_if_neF rfl (by decide) ?_
            refine y_aload_n rfl rfl ?_
            refine y_iload_n rfl rfl ?_
            refine y_putI rfl (ySh.t hS rfl) (ySh.n hS rfl) rfl (Nat.le_of_ble_eq_true rfl) rfl rfl ?_
            refine y_nameI (fun I16 e16 => ?_)
            have hR1 := (hR0.grow hX).mod0 e16 (by decide) (by decide)
            have hK := (hK.x hRo hno hX).upI (upI e16) (by decide) (by decide) (fun i hi => by have := (hRo.l87.2.2.2.2 i hi).2.1; omega) (by rw [e16, upd2_ne (.inr (by decide))]; exact Int.le_refl _)
            have hth : I16 83 0 = Int32.ofInt (3) := by rw [e16, upd2_self]
            have hzz : ySz8 I7 I16 := ySz8_of (upI e16) (by rw [e16]; exact ⟨upd2_ne (.inr (by decide)), upd2_ne (.inr (by decide))⟩)
            have hB := (hB.trans hX).wr e16 rfl
            have h8 : ∀ a, 84 ≤ a → a ≤ 86 → I16 a = I a := fun a h1 h2 => (upI e16 a (by omega)).trans ((hX.2.1 a (by omega)).2.1.trans (h8 a h1 h2))
            have h3k : ∀ k, k ≠ 0 → I16 83 k = I 83 k := fun k hk => (congrFun (congrFun e16 83) k).trans ((upd2_ne (.inr hk)).trans ((congrFun (hX.2.1 83 (by omega)).2.1 k).trans (h3k k hk)))
            have hg := (hg.gx hX (by omega)).skip e16 (by decide)
            have hday : I16 83 1 = I 83 1 := (congrFun (congrFun e16 83) 1).trans ((upd2_ne (.inr (by decide))).trans ((congrFun (hX.2.1 83 (by omega)).2.1 1).trans hday))
            have hRb : ∀ a, a < n → R a = R a := fun a ha => (hX.2.1 a (by omega)).2.2.trans (hRb a ha)
            have hb83 : ∀ a, a ≠ 83 → a < n → I16 a = I a := fun a ha hb => (upI e16 a ha).trans ((hX.2.1 a (by omega)).2.1.trans (hb83 a ha hb))
            have hS0 := hS
            have hR0 := hR1
            have hn := Nat.le_refl n
            have h94 := hS0.1
            have hX := @yX.rf n tg I16 R
            have hS := hS0.x hX
            have hR := hR0.x hn hX
            have hz := hX.sz h94
            have hxn := hX.1
            have hN := hR0.1
            have hnb := hR0.2.2.2.2.2.2
            have hthB := hth
            refine y_aload_n rfl rfl ?_
            refine y_getIv (v := Int32.ofInt (3)) rfl (ySh.t hS rfl) (ySh.n hS rfl) rfl rfl hth ?_
            refine y_if_leF rfl (by decide) ?_
            refine y_iconst rfl ?_
            refine y_goto rfl j_X14_refuse_28 ?_
            refine y_ireturn rfl rfl rfl ?_
            refine y_ret1 ?_
            refine y_if_eqF rfl (by decide) ?_
            refine y_iconst rfl ?_
            refine y_ireturn rfl rfl rfl ?_
            exact hQ3 (by omega) _ _ _ _ _ _ _ hS ((hR0.grow hX).up (Nat.le_succ K) hk6) (hK.x hRo hno hX) hth (hg.gx hX (by omega)) (by omega) (by omega) (by omega) (by omega) (by omega) (fun l_ h1_ h2_ i_ _ => yAd_eq ((hX.2.1 l_ (by omega)).2.2.trans (hRb l_ (by omega))) ((hX.2.1 _ (by have := hRo.lt6 l_ h1_ h2_; omega)).2.2.trans (hRb _ (hRo.lt6 l_ h1_ h2_)))) ((hB.trans hX).rf2 (by omega)) (by omega) (by omega)
          · rw [yz_12] at h_15
            refine y_aload_n rfl rfl ?_
            refine y_iload_n rfl rfl ?_
            refine y_virt rfl rfl rfl rfl rfl (ySh.t hS rfl) (ySh.n hS rfl) ?_
            have hlv_c : yLf I7 R x1 lv := hlv.cg (by omega) (fun i hi => by
              have hq_ := hRo.l90.2.2.2.2 i hi
              exact ⟨yAd_eq (hX.2.1 90 (by omega)).2.2 (hX.2.1 _ (by have := hRo.lt6 90 (by decide) (by decide); omega)).2.2, (congrFun ((hg.gx hX (by omega)) _ hq_.2.1 hq_.2.2.1) 0), (congrFun ((hg.gx hX (by omega)) _ hq_.2.1 hq_.2.2.1) 5)⟩)
            refine r_leaseOf hS hR (Nat.le_trans hn hX.1) (fun v_17 hv_17 => ?_)
            have hl_17 := hlv_c v_17 hv_17
            replace hv_17 : v_17.toInt = -1 ∨ 0 ≤ v_17.toInt ∧ v_17.toInt < (I7 90 2).toInt := hv_17.imp (fun q => q.1) (fun q => ⟨q.1, q.2.1⟩)
            refine y_ret1 ?_
            refine y_iconst rfl ?_
            refine y_icmp_eq rfl j_X14_sell_89 (fun h_18 => ?_) (fun h_19 => ?_)
            · rw [yz_m1] at h_18
              refine y_iconst rfl ?_
              refine y_iconst rfl ?_
              refine y_virt rfl rfl rfl rfl rfl (ySh.t hS rfl) (ySh.n hS rfl) ?_
              refine y_in (M := xm_X14_refuse) (ls := [some _, some _, some _]) rfl rfl rfl ?_
              refine y_iload_n rfl rfl ?_
              refine y_if_eqT rfl j_X14_refuse_16 (by decide) ?_
              refine y_aload_n rfl rfl ?_
              refine y_getIv (v := Int32.ofInt (0)) rfl (ySh.t hS rfl) (ySh.n hS rfl) rfl rfl hth ?_
              refine y_if_leT rfl j_X14_refuse_27 (by decide) ?_
              refine y_iconst rfl ?_
              refine y_ireturn rfl rfl rfl ?_
              refine y_ret1 ?_
              refine y_if_eqT rfl j_X14_sell_99 (by decide) ?_
              refine y_aload_n rfl rfl ?_
              refine y_getR rfl (ySh.t hS rfl) (ySh.n hS rfl) rfl rfl (ySh.r hS rfl) ?_
              refine y_iload_n rfl rfl ?_
              refine y_virt rfl rfl rfl rfl rfl (ySh.t hS rfl) (ySh.n hS rfl) ?_
              refine l_get (nb := n) (ySh.t hS rfl) (ySh.n hS rfl) (Nat.le_trans hn hX.1) hR.l88 (by omega) (by omega) (fun b20 eb_b20 hlo_b20 hb0_b20 ht_b20 => ?_)
              have hb_b20 := Nat.lt_of_lt_of_le hb0_b20 hn
              replace ht_b20 := (hX.2.1 _ hb_b20).1.symm.trans ht_b20
              have hw_b20 := hR.thi hlo_b20 hb0_b20 ((hX.2.1 _ hb_b20).1.trans ht_b20)
              have hq_b20_1 := congrArg Int32.toInt (congrFun ((hg.gx hX (by omega)) _ hlo_b20 (by omega)) 1)
              refine y_ret1 ?_
              refine y_cast rfl ((hX.2.1 _ hb_b20).1.trans ht_b20) (Nat.lt_of_lt_of_le hb_b20 hX.1) ?_
              refine y_astore (ls' := [some _, some _, some _, some _, some _, some _, _]) rfl rfl rfl ?_
              refine y_newX rfl rfl rfl (fun n21 tg21 I21 R21 hA => ?_)
              have hnA := hA.1
              have hnw := yNw.al hX hA
              have ht_f22 : tg21 n = (19, 0) := hA.2.1
              have ha_f22 : n < n21 := by omega
              have hX := hX.y.trans hA.y
              have hS := hS0.y hX
              have hR := hR0.y hn hX
              have hz := hX.sz h94
              have hxn := hX.1
              have hw_b20 := hR.thi hlo_b20 hb0_b20 ((hX.2.1 _ hb_b20).1.trans ht_b20)
              have hth := (congrFun (hA.2.2.2.2 83 (by omega)).2.1 0).trans hth
              have hz_f22 : ∀ k, I21 n k = 0 := hA.2.2.1
              refine y_dup rfl rfl ?_
              refine y_iload_n rfl rfl ?_
              refine y_iload_n rfl rfl ?_
              refine y_aload rfl rfl ?_
              refine y_getIv (v := I b20 4) rfl ((hX.2.1 _ hb_b20).1.trans ht_b20) (Nat.lt_of_lt_of_le hb_b20 hX.1) rfl rfl (congrFun ((hg.y hX (by omega)) _ hlo_b20 (by omega)) 4) ?_
              refine y_aload rfl rfl ?_
              refine y_getIv (v := I b20 4) rfl ((hX.2.1 _ hb_b20).1.trans ht_b20) (Nat.lt_of_lt_of_le hb_b20 hX.1) rfl rfl (congrFun ((hg.y hX (by omega)) _ hlo_b20 (by omega)) 4) ?_
              refine y_iload_n rfl rfl ?_
              refine y_imul rfl ?_
              refine y_bip rfl (by decide) ?_
              refine y_idiv rfl (by decide) ?_
              refine y_iadd rfl ?_
              refine y_iload_n rfl rfl ?_
              refine y_iload rfl rfl ?_
              refine y_aload_n rfl rfl ?_
              refine y_aload rfl rfl ?_
              refine y_iload_n rfl rfl ?_
              refine y_virt rfl rfl rfl rfl rfl (ySh.t hS rfl) (ySh.n hS rfl) ?_
              have hal_c : ySum (fun j => yHv I21 R21 0 j (I21 87 2).toInt.toNat) 5 = al := (ySum_eq fun j _ => yHv_kp (hK.y hRo hno hX)).trans hal
              have hrow : I21 b20 = I b20 := (hg.y hX (by omega)) _ hlo_b20 (by omega)
              refine s_missing hS hR (Nat.le_trans hn hX.1) hlo_b20 hb0_b20 ((hX.2.1 _ hb_b20).1.trans ht_b20) hal_c (fun v_m n23 tg23 I23 R23 c_23 s_23 hv_m hX1 hc_23 hs_23 => ?_)
              rw [hrow] at hv_m
              have hnA := hX1.1
              have hz_f22 : ∀ k, I23 n k = 0 := fun k => (congrFun (hX1.2.1 _ ha_f22).2.1 k).trans (hz_f22 k)
              have ht_f22 := (hX1.2.1 _ ha_f22).1.trans ht_f22
              have ha_f22 : n < n23 := by omega
              have hnw := hnw.x hX1
              have hX := hX.trans hX1.y
              have hS := hS0.y hX
              have hR := hR0.y hn hX
              have hz := hX.sz h94
              have hxn := hX.1
              have hw_b20 := hR.thi hlo_b20 hb0_b20 ((hX.2.1 _ hb_b20).1.trans ht_b20)
              have hth := (congrFun (hX1.2.1 83 (by omega)).2.1 0).trans hth
              refine y_ret1 ?_
              refine y_aload_n rfl rfl ?_
              refine y_getIv (v := I 83 1) rfl (ySh.t hS rfl) (ySh.n hS rfl) rfl rfl ((congrFun (hX.2.1 83 (by omega)).2.1 1).trans hday) ?_
              refine y_init rfl rfl rfl rfl rfl ?_
              refine y_in (M := xm_X11_init) (ls := [some _, some _, some _, some _, some _, some _, some _, some _]) rfl rfl rfl ?_
              refine y_aload_n rfl rfl ?_
              refine y_obj rfl ha_f22 rfl ?_
              refine y_aload_n rfl rfl ?_
              refine y_iload_n rfl rfl ?_
              refine y_putI rfl ht_f22 ha_f22 rfl (Nat.le_trans (by decide) (by omega : 94 ≤ _)) rfl rfl ?_
              refine y_nameI (fun I24 e24 => ?_)
              have hX := hX.upI (by omega) (upI e24)
              have hS := hS0.y hX
              have hR := hR0.y hn hX
              have hz := hX.sz h94
              have hxn := hX.1
              have hw_b20 := hR.thi hlo_b20 hb0_b20 ((hX.2.1 _ hb_b20).1.trans ht_b20)
              have hth := (congrFun (upI e24 83 (by omega)) 0).trans hth
              refine y_aload_n rfl rfl ?_
              refine y_iload_n rfl rfl ?_
              refine y_putI rfl ht_f22 ha_f22 rfl (Nat.le_trans (by decide) (by omega : 94 ≤ _)) rfl rfl ?_
              refine y_nameI (fun I25 e25 => ?_)
              have hX := hX.upI (by omega) (upI e25)
              have hS := hS0.y hX
              have hR := hR0.y hn hX
              have hz := hX.sz h94
              have hxn := hX.1
              have hw_b20 := hR.thi hlo_b20 hb0_b20 ((hX.2.1 _ hb_b20).1.trans ht_b20)
              have hth := (congrFun (upI e25 83 (by omega)) 0).trans hth
              refine y_aload_n rfl rfl ?_
              refine y_iload_n rfl rfl ?_
              refine y_putI rfl ht_f22 ha_f22 rfl (Nat.le_trans (by decide) (by omega : 94 ≤ _)) rfl rfl ?_
              refine y_nameI (fun I26 e26 => ?_)
              have hX := hX.upI (by omega) (upI e26)
              have hS := hS0.y hX
              have hR := hR0.y hn hX
              have hz := hX.sz h94
              have hxn := hX.1
              have hw_b20 := hR.thi hlo_b20 hb0_b20 ((hX.2.1 _ hb_b20).1.trans ht_b20)
              have hth := (congrFun (upI e26 83 (by omega)) 0).trans hth
              refine y_aload_n rfl rfl ?_
              refine y_iload rfl rfl ?_
              refine y_putI rfl ht_f22 ha_f22 rfl (Nat.le_trans (by decide) (by omega : 94 ≤ _)) rfl rfl ?_
              refine y_nameI (fun I27 e27 => ?_)
              have hX := hX.upI (by omega) (upI e27)
              have hS := hS0.y hX
              have hR := hR0.y hn hX
              have hz := hX.sz h94
              have hxn := hX.1
              have hw_b20 := hR.thi hlo_b20 hb0_b20 ((hX.2.1 _ hb_b20).1.trans ht_b20)
              have hth := (congrFun (upI e27 83 (by omega)) 0).trans hth
              refine y_aload_n rfl rfl ?_
              refine y_iload rfl rfl ?_
              refine y_putI rfl ht_f22 ha_f22 rfl (Nat.le_trans (by decide) (by omega : 94 ≤ _)) rfl rfl ?_
              refine y_nameI (fun I28 e28 => ?_)
              have hX := hX.upI (by omega) (upI e28)
              have hS := hS0.y hX
              have hR := hR0.y hn hX
              have hz := hX.sz h94
              have hxn := hX.1
              have hw_b20 := hR.thi hlo_b20 hb0_b20 ((hX.2.1 _ hb_b20).1.trans ht_b20)
              have hth := (congrFun (upI e28 83 (by omega)) 0).trans hth
              refine y_aload_n rfl rfl ?_
              refine y_iload rfl rfl ?_
              refine y_putI rfl ht_f22 ha_f22 rfl (Nat.le_trans (by decide) (by omega : 94 ≤ _)) rfl rfl ?_
              refine y_nameI (fun I29 e29 => ?_)
              have hX := hX.upI (by omega) (upI e29)
              have hS := hS0.y hX
              have hR := hR0.y hn hX
              have hz := hX.sz h94
              have hxn := hX.1
              have hw_b20 := hR.thi hlo_b20 hb0_b20 ((hX.2.1 _ hb_b20).1.trans ht_b20)
              have hth := (congrFun (upI e29 83 (by omega)) 0).trans hth
              refine y_aload_n rfl rfl ?_
              refine y_iload rfl rfl ?_
              refine y_putI rfl ht_f22 ha_f22 rfl (Nat.le_trans (by decide) (by omega : 94 ≤ _)) rfl rfl ?_
              refine y_nameI (fun I30 e30 => ?_)
              have hX := hX.upI (by omega) (upI e30)
              have hS := hS0.y hX
              have hR := hR0.y hn hX
              have hz := hX.sz h94
              have hxn := hX.1
              have hw_b20 := hR.thi hlo_b20 hb0_b20 ((hX.2.1 _ hb_b20).1.trans ht_b20)
              have hth := (congrFun (upI e30 83 (by omega)) 0).trans hth
              refine y_return rfl ?_
              refine y_ret0 ?_
              refine y_astore (ls' := [some _, some _, some _, some _, some _, some _, some _]) rfl rfl rfl ?_
              refine y_aload_n rfl rfl ?_
              refine y_getR rfl (ySh.t hS rfl) (ySh.n hS rfl) rfl rfl (ySh.r hS rfl) ?_
              refine y_aload rfl rfl ?_
              refine y_virt rfl rfl rfl rfl rfl (ySh.t hS rfl) (ySh.n hS rfl) ?_
              refine l_add hS (by decide) (by decide) (ySh.t hS rfl) (Nat.le_trans hn hX.1) hR.l89 (by omega) (by omega) ha_f22 (fun n31 tg31 I31 R31 c_31 s_31 hAd hc_31 hs_31 => ?_)
              have hsA := hAd.sz
              have hsz87 := congrArg Int32.toInt (congrFun (hAd.I 87 (by omega) (by decide)) 2)
              have hsz88 := congrArg Int32.toInt (congrFun (hAd.I 88 (by omega) (by decide)) 2)
              have hsz90 := congrArg Int32.toInt (congrFun (hAd.I 90 (by omega) (by decide)) 2)
              have hsz91 := congrArg Int32.toInt (congrFun (hAd.I 91 (by omega) (by decide)) 2)
              have hsz92 := congrArg Int32.toInt (congrFun (hAd.I 92 (by omega) (by decide)) 2)
              have hszp := congrArg Int32.toInt (congrFun (hAd.I 83 (by omega) (by decide)) 8)
              have hLk0 := yAdd.lk hR (Nat.le_trans hn hX.1) hAd (by decide) (by decide)
              have hcs : ∀ l', 87 ≤ l' → l' ≤ 92 → (I30 l' 2).toInt = (I l' 2).toInt := fun l' h1 h2 => by rw [(hX.2.1 l' (by omega)).2.1, hb83 l' (by omega) (by omega)]
              have hLk : yLk I R R31 := fun l' h1 h2 i hi => (hLk0.1 l' h1 h2 i (by rw [hcs l' h1 h2]; exact hi)).trans (yAd_eq ((hX.2.1 l' (by omega)).2.2.trans (hRb l' (by omega))) ((hX.2.1 _ (by have := hRo.lt6 l' h1 h2; omega)).2.2.trans (hRb _ (hRo.lt6 l' h1 h2))))
              have hAx : yAd R31 89 (I 89 2).toInt.toNat = n := by rw [← hcs 89 (by decide) (by decide)]; exact hLk0.2
              have hno_x : n ≤ n := by omega
              have hg := (hg.y hX (by omega)).add hAd (by omega) (by decide)
              have h8 : ∀ a, 84 ≤ a → a ≤ 86 → I31 a = I a := fun a h1 h2 => (hAd.I a (by omega) (by omega)).trans ((hX.2.1 a (by omega)).2.1.trans (h8 a h1 h2))
              have h3k : ∀ k, k ≠ 0 → I31 83 k = I 83 k := fun k hk => (congrFun (hAd.I 83 (by omega) (by decide)) k).trans ((congrFun (hX.2.1 83 (by omega)).2.1 k).trans (h3k k hk))
              have hday := (congrFun (hAd.I 83 (by omega) (by decide)) 1).trans ((congrFun (hX.2.1 83 (by omega)).2.1 1).trans hday)
              have hf0 : I31 n 0 = x1 := by rw [hAd.I _ ha_f22 (by omega)]; simp only [e30, e29, e28, e27, e26, e25, e24, upd2]; first | rfl | (simp; done) | (simp; exact hz_f22 _) | (simp; omega) | exact hz_f22 _
              have hf1 : I31 n 1 = x2 := by rw [hAd.I _ ha_f22 (by omega)]; simp only [e30, e29, e28, e27, e26, e25, e24, upd2]; first | rfl | (simp; done) | (simp; exact hz_f22 _) | (simp; omega) | exact hz_f22 _
              have hf2 : I31 n 2 = (I b20 4 + I b20 4 * x3 / Int32.ofInt 100) := by rw [hAd.I _ ha_f22 (by omega)]; simp only [e30, e29, e28, e27, e26, e25, e24, upd2]; first | rfl | (simp; done) | (simp; exact hz_f22 _) | (simp; omega) | exact hz_f22 _
              have hf3 : I31 n 3 = x3 := by rw [hAd.I _ ha_f22 (by omega)]; simp only [e30, e29, e28, e27, e26, e25, e24, upd2]; first | rfl | (simp; done) | (simp; exact hz_f22 _) | (simp; omega) | exact hz_f22 _
              have hf4 : I31 n 4 = x4 := by rw [hAd.I _ ha_f22 (by omega)]; simp only [e30, e29, e28, e27, e26, e25, e24, upd2]; first | rfl | (simp; done) | (simp; exact hz_f22 _) | (simp; omega) | exact hz_f22 _
              have hf5 : I31 n 5 = v_m := by rw [hAd.I _ ha_f22 (by omega)]; simp only [e30, e29, e28, e27, e26, e25, e24, upd2]; first | rfl | (simp; done) | (simp; exact hz_f22 _) | (simp; omega) | exact hz_f22 _
              have hf6 : I31 n 6 = (I 83 1) := by rw [hAd.I _ ha_f22 (by omega)]; simp only [e30, e29, e28, e27, e26, e25, e24, upd2]; first | rfl | (simp; done) | (simp; exact hz_f22 _) | (simp; omega) | exact hz_f22 _
              have hf7 : I31 n 7 = (Int32.ofInt 0) := by rw [hAd.I _ ha_f22 (by omega)]; simp only [e30, e29, e28, e27, e26, e25, e24, upd2]; first | rfl | (simp; done) | (simp; exact hz_f22 _) | (simp; omega) | exact hz_f22 _
              have hf8 : I31 n 8 = (Int32.ofInt 0) := by rw [hAd.I _ ha_f22 (by omega)]; simp only [e30, e29, e28, e27, e26, e25, e24, upd2]; first | rfl | (simp; done) | (simp; exact hz_f22 _) | (simp; omega) | exact hz_f22 _
              have hf9 : I31 n 9 = (Int32.ofInt 0) := by rw [hAd.I _ ha_f22 (by omega)]; simp only [e30, e29, e28, e27, e26, e25, e24, upd2]; first | rfl | (simp; done) | (simp; exact hz_f22 _) | (simp; omega) | exact hz_f22 _
              have hnA := hAd.n
              have hNu : yNum K I31 := yNum.add (K := K) hR.1 hAd (by omega) (by decide) (by decide) (Nat.le_refl K) (by omega) (fun h => by omega) (fun h => by omega) (fun h => by omega) (fun h => by omega) (fun h => by omega) (fun h => by omega)
              have htx : tg31 n = (19, 0) := (hAd.tg _ ha_f22).trans ht_f22
              have hIx := hAd.I _ ha_f22 (by omega)
              have hOb : yOb K n31 tg31 I31 R31 n := ⟨fun hq => absurd (show (19 : Nat) = 20 from congrArg Prod.fst (htx.symm.trans hq)) (by decide), fun _ => by rw [hIx]; simp only [e30, e29, e28, e27, e26, e25, e24, upd2]; first | omega | (simp; omega) | simp | (simp; decide) | decide, fun hq => absurd (show (19 : Nat) = 18 from congrArg Prod.fst (htx.symm.trans hq)) (by decide), fun hq => absurd (show (19 : Nat) = 21 from congrArg Prod.fst (htx.symm.trans hq)) (by decide)⟩
              have hR1 : yRI K n31 tg31 I31 R31 := yRI.add hR (Nat.le_trans hn hX.1) hAd (by decide) (by decide) rfl (by omega) ha_f22 ht_f22 hnw (Nat.le_refl K) hNu hOb (fun h => absurd h (by decide)) (fun h => absurd h (by decide))
              have hK := (hK.y hRo hno hX).add hRo hno hR.di hAd (by decide) (by decide) (hR.zl 89 (by decide) (by decide))
              have hS := hS.add hAd (by decide) (by decide) (hR.zl 89 (by decide) (by decide))
              have hth := (congrFun (hAd.I 83 (by omega) (by decide)) 0).trans hth
              have ht_b20 := (hAd.tg _ (Nat.lt_of_lt_of_le hb_b20 hX.1)).trans ((hX.2.1 _ hb_b20).1.trans ht_b20)
              have hb_b20 := Nat.lt_of_lt_of_le (Nat.lt_of_lt_of_le hb_b20 hX.1) hAd.n
              have hb0_b20 := hb_b20
              have ht_f22 := (hAd.tg _ ha_f22).trans ht_f22
              have ha_f22 := Nat.lt_of_lt_of_le ha_f22 hAd.n
              have hS0 := hS
              have hR0 := hR1
              have hn := Nat.le_refl n31
              have h94 := hS0.1
              have hX := @yX.rf n31 tg31 I31 R31
              have hS := hS0.x hX
              have hR := hR0.x hn hX
              have hz := hX.sz h94
              have hxn := hX.1
              have hw_b20 := hR.thi hlo_b20 hb0_b20 ((hX.2.1 _ hb_b20).1.trans ht_b20)
              have hN := hR0.1
              have hnb := hR0.2.2.2.2.2.2
              have hthB := hth
              refine y_ret1 ?_
              refine y_pop rfl rfl ?_
              refine y_aload rfl rfl ?_
              refine y_getIv (v := v_m) rfl ht_f22 ha_f22 rfl rfl hf5 ?_
              refine y_if_ne rfl j_X14_sell_177 (fun h_32 => ?_) (fun h_33 => ?_)
              · refine y_aload_n rfl rfl ?_
                refine y_getR rfl (ySh.t hS rfl) (ySh.n hS rfl) rfl rfl (ySh.r hS rfl) ?_
                refine y_virt rfl rfl rfl rfl rfl (ySh.t hS rfl) (ySh.n hS rfl) ?_
                refine y_in (M := xm_Jx4a65c_size_8abf5) (ls := [some _]) rfl rfl rfl ?_
                refine y_aload_n rfl rfl ?_
                refine y_getI rfl (ySh.t hS rfl) (ySh.n hS rfl) rfl rfl ?_
                refine y_ireturn rfl rfl rfl ?_
                refine y_ret1 ?_
                refine y_iconst rfl ?_
                refine y_isub rfl ?_
                refine y_ireturn rfl rfl rfl ?_
                exact hQ0b _ eb_b20 _ hv_m (by omega) (by omega) _ _ _ _ _ _ _ hS ((hR0.grow hX).up (Nat.le_succ K) hk6) (hK.x hRo hno hX) hth (by first | omega | (rw [ysub (by rw [yz_1]; omega) (by rw [yz_1]; omega), yz_1]; omega)) (hg.gx hX (by omega)) (by omega) (by omega) (by omega) (by omega) (by omega) hLk _ hAx.symm hno_x hf0 hf1 hf2 hf3 hf4 hf5 hf6 hf7 hf8 hf9 ⟨fun a_ h1_ h2_ => (hX.2.1 a_ (by omega)).2.1.trans (h8 a_ h1_ h2_), fun k_ hk_ => (congrFun (hX.2.1 83 (by omega)).2.1 k_).trans (h3k k_ hk_)⟩ (by omega) (by omega)
              · refine y_aload rfl rfl ?_
                refine y_iload_n rfl rfl ?_
                refine y_static rfl rfl rfl rfl rfl ?_
                refine y_in (M := xm_X14_give) (ls := [some _, some _]) rfl rfl rfl ?_
                refine y_aload_n rfl rfl ?_
                refine y_iload_n rfl rfl ?_
                refine y_putI rfl ((hX.2.1 _ hb_b20).1.trans ht_b20) (Nat.lt_of_lt_of_le hb_b20 hX.1) rfl (Nat.le_trans (by decide) (by omega : 94 ≤ _)) rfl rfl ?_
                refine y_nameI (fun I34 e34 => ?_)
                have hR1 := (hR0.grow hX).upT e34 hlo_b20 (by omega) ((hX.2.1 _ hb_b20).1.trans ht_b20) (fun _ => ⟨by omega, by omega⟩)
                have hK := (hK.x hRo hno hX).upE hRo hno (upI e34) (by omega) (by omega) (by rw [((hX.2.1 _ hb_b20).1.trans ht_b20)]; decide) (by rw [e34, upd2_ne (.inl (by omega))]; exact Int.le_refl _)
                have hth := (show I34 83 0 = I31 83 0 by rw [e34, upd2_ne (.inl (by omega))]).trans hth
                have hzz : ySz I31 I34 := ySz_ofE (upI e34) (by omega)
                have h8 : ∀ a, 84 ≤ a → a ≤ 86 → I34 a = I a := fun a h1 h2 => (upI e34 a (by omega)).trans ((hX.2.1 a (by omega)).2.1.trans (h8 a h1 h2))
                have h3k : ∀ k, k ≠ 0 → I34 83 k = I 83 k := fun k hk => (congrFun (congrFun e34 83) k).trans ((upd2_ne (.inl (by omega))).trans ((congrFun (hX.2.1 83 (by omega)).2.1 k).trans (h3k k hk)))
                have hg := (hg.gx hX (by omega)).both e34
                have hday : I34 83 1 = I 83 1 := (congrFun (congrFun e34 83) 1).trans ((upd2_ne (.inl (by omega))).trans ((congrFun (hX.2.1 83 (by omega)).2.1 1).trans hday))
                have hS0 := hS
                have hR0 := hR1
                have ht_b20 := (hX.2.1 _ hb_b20).1.trans ht_b20
                have hb_b20 := Nat.lt_of_lt_of_le hb_b20 hX.1
                have hb0_b20 := hb_b20
                have hn := Nat.le_refl n31
                have h94 := hS0.1
                have hX := @yX.rf n31 tg31 I34 R31
                have hS := hS0.x hX
                have hR := hR0.x hn hX
                have hz := hX.sz h94
                have hxn := hX.1
                have hw_b20 := hR.thi hlo_b20 hb0_b20 ((hX.2.1 _ hb_b20).1.trans ht_b20)
                have hN := hR0.1
                have hnb := hR0.2.2.2.2.2.2
                have hthB := hth
                refine y_aload_n rfl rfl ?_
                refine y_iconst rfl ?_
                refine y_putI rfl ((hX.2.1 _ hb_b20).1.trans ht_b20) (Nat.lt_of_lt_of_le hb_b20 hX.1) rfl (Nat.le_trans (by decide) (by omega : 94 ≤ _)) rfl rfl ?_
                refine y_nameI (fun I35 e35 => ?_)
                have hR1 := (hR0.grow hX).upT e35 hlo_b20 (by omega) ((hX.2.1 _ hb_b20).1.trans ht_b20) (fun h => absurd h (by decide))
                have hK := (hK.x hRo hno hX).upE hRo hno (upI e35) (by omega) (by omega) (by rw [((hX.2.1 _ hb_b20).1.trans ht_b20)]; decide) (by rw [e35, upd2_ne (.inl (by omega))]; exact Int.le_refl _)
                have hth := (show I35 83 0 = I34 83 0 by rw [e35, upd2_ne (.inl (by omega))]).trans hth
                have hzz : ySz I34 I35 := ySz_ofE (upI e35) (by omega)
                have h8 : ∀ a, 84 ≤ a → a ≤ 86 → I35 a = I a := fun a h1 h2 => (upI e35 a (by omega)).trans ((hX.2.1 a (by omega)).2.1.trans (h8 a h1 h2))
                have h3k : ∀ k, k ≠ 0 → I35 83 k = I 83 k := fun k hk => (congrFun (congrFun e35 83) k).trans ((upd2_ne (.inl (by omega))).trans ((congrFun (hX.2.1 83 (by omega)).2.1 k).trans (h3k k hk)))
                have hg := (hg.gx hX (by omega)).both e35
                have hday : I35 83 1 = I 83 1 := (congrFun (congrFun e35 83) 1).trans ((upd2_ne (.inl (by omega))).trans ((congrFun (hX.2.1 83 (by omega)).2.1 1).trans hday))
                have hS0 := hS
                have hR0 := hR1
                have ht_b20 := (hX.2.1 _ hb_b20).1.trans ht_b20
                have hb_b20 := Nat.lt_of_lt_of_le hb_b20 hX.1
                have hb0_b20 := hb_b20
                have hn := Nat.le_refl n31
                have h94 := hS0.1
                have hX := @yX.rf n31 tg31 I35 R31
                have hS := hS0.x hX
                have hR := hR0.x hn hX
                have hz := hX.sz h94
                have hxn := hX.1
                have hw_b20 := hR.thi hlo_b20 hb0_b20 ((hX.2.1 _ hb_b20).1.trans ht_b20)
                have hN := hR0.1
                have hnb := hR0.2.2.2.2.2.2
                have hthB := hth
                refine y_return rfl ?_
                refine y_ret0 ?_
                refine y_aload_n rfl rfl ?_
                refine y_getR rfl (ySh.t hS rfl) (ySh.n hS rfl) rfl rfl (ySh.r hS rfl) ?_
                refine y_virt rfl rfl rfl rfl rfl (ySh.t hS rfl) (ySh.n hS rfl) ?_
                refine y_in (M := xm_Jx4a65c_size_8abf5) (ls := [some _]) rfl rfl rfl ?_
                refine y_aload_n rfl rfl ?_
                refine y_getI rfl (ySh.t hS rfl) (ySh.n hS rfl) rfl rfl ?_
                refine y_ireturn rfl rfl rfl ?_
                refine y_ret1 ?_
                refine y_iconst rfl ?_
                refine y_isub rfl ?_
                refine y_ireturn rfl rfl rfl ?_
                have hfx_ : ∀ k, I35 n k = I31 n k := fun k => (congrFun (hX.2.1 _ (by omega)).2.1 k).trans (by rw [e35, upd2_ne (.inl (by omega)), e34, upd2_ne (.inl (by omega))])
                exact hQ0a _ eb_b20 _ hv_m (by omega) (by omega) _ _ _ _ _ _ _ hS ((hR0.grow hX).up (Nat.le_succ K) hk6) (hK.x hRo hno hX) hth (by first | omega | (rw [ysub (by rw [yz_1]; omega) (by rw [yz_1]; omega), yz_1]; omega)) (hg.gx hX (by omega)) (by omega) (by omega) (by omega) (by omega) (by omega) hLk _ hAx.symm hno_x ((hfx_ 0).trans hf0) ((hfx_ 1).trans hf1) ((hfx_ 2).trans hf2) ((hfx_ 3).trans hf3) ((hfx_ 4).trans hf4) ((hfx_ 5).trans hf5) ((hfx_ 6).trans hf6) ((hfx_ 7).trans hf7) ((hfx_ 8).trans hf8) ((hfx_ 9).trans hf9) ⟨fun a_ h1_ h2_ => (hX.2.1 a_ (by omega)).2.1.trans (h8 a_ h1_ h2_), fun k_ hk_ => (congrFun (hX.2.1 83 (by omega)).2.1 k_).trans (h3k k_ hk_)⟩ (by omega) (by omega)
            · rw [yz_m1] at h_19
              refine y_iconst rfl ?_
              refine y_goto rfl j_X14_sell_90 ?_
              refine y_iconst rfl ?_
              refine y_virt rfl rfl rfl rfl rfl (ySh.t hS rfl) (ySh.n hS rfl) ?_
              refine y_in (M := xm_X14_refuse) (ls := [some _, some _, some _]) rfl rfl rfl ?_
              refine y_iload_n rfl rfl ?_
              refine y_if_eqF rfl (by decide) ?_
              refine y_aload_n rfl rfl ?_
              refine y_getIv (v := Int32.ofInt (0)) rfl (ySh.t hS rfl) (ySh.n hS rfl) rfl rfl hth ?_
              refine y_if_neF rfl (by decide) ?_
              refine y_aload_n rfl rfl ?_
              refine y_iload_n rfl rfl ?_
              refine y_putI rfl (ySh.t hS rfl) (ySh.n hS rfl) rfl (Nat.le_of_ble_eq_true rfl) rfl rfl ?_
              refine y_nameI (fun I36 e36 => ?_)
              have hR1 := (hR0.grow hX).mod0 e36 (by decide) (by decide)
              have hK := (hK.x hRo hno hX).upI (upI e36) (by decide) (by decide) (fun i hi => by have := (hRo.l87.2.2.2.2 i hi).2.1; omega) (by rw [e36, upd2_ne (.inr (by decide))]; exact Int.le_refl _)
              have hth : I36 83 0 = Int32.ofInt (3) := by rw [e36, upd2_self]
              have hzz : ySz8 I7 I36 := ySz8_of (upI e36) (by rw [e36]; exact ⟨upd2_ne (.inr (by decide)), upd2_ne (.inr (by decide))⟩)
              have hB := (hB.trans hX).wr e36 rfl
              have h8 : ∀ a, 84 ≤ a → a ≤ 86 → I36 a = I a := fun a h1 h2 => (upI e36 a (by omega)).trans ((hX.2.1 a (by omega)).2.1.trans (h8 a h1 h2))
              have h3k : ∀ k, k ≠ 0 → I36 83 k = I 83 k := fun k hk => (congrFun (congrFun e36 83) k).trans ((upd2_ne (.inr hk)).trans ((congrFun (hX.2.1 83 (by omega)).2.1 k).trans (h3k k hk)))
              have hg := (hg.gx hX (by omega)).skip e36 (by decide)
              have hday : I36 83 1 = I 83 1 := (congrFun (congrFun e36 83) 1).trans ((upd2_ne (.inr (by decide))).trans ((congrFun (hX.2.1 83 (by omega)).2.1 1).trans hday))
              have hRb : ∀ a, a < n → R a = R a := fun a ha => (hX.2.1 a (by omega)).2.2.trans (hRb a ha)
              have hb83 : ∀ a, a ≠ 83 → a < n → I36 a = I a := fun a ha hb => (upI e36 a ha).trans ((hX.2.1 a (by omega)).2.1.trans (hb83 a ha hb))
              have hS0 := hS
              have hR0 := hR1
              have hn := Nat.le_refl n
              have h94 := hS0.1
              have hX := @yX.rf n tg I36 R
              have hS := hS0.x hX
              have hR := hR0.x hn hX
              have hz := hX.sz h94
              have hxn := hX.1
              have hN := hR0.1
              have hnb := hR0.2.2.2.2.2.2
              have hthB := hth
              refine y_aload_n rfl rfl ?_
              refine y_getIv (v := Int32.ofInt (3)) rfl (ySh.t hS rfl) (ySh.n hS rfl) rfl rfl hth ?_
              refine y_if_leF rfl (by decide) ?_
              refine y_iconst rfl ?_
              refine y_goto rfl j_X14_refuse_28 ?_
              refine y_ireturn rfl rfl rfl ?_
              refine y_ret1 ?_
              refine y_if_eqF rfl (by decide) ?_
              refine y_iconst rfl ?_
              refine y_ireturn rfl rfl rfl ?_
              exact hQ3 (by omega) _ _ _ _ _ _ _ hS ((hR0.grow hX).up (Nat.le_succ K) hk6) (hK.x hRo hno hX) hth (hg.gx hX (by omega)) (by omega) (by omega) (by omega) (by omega) (by omega) (fun l_ h1_ h2_ i_ _ => yAd_eq ((hX.2.1 l_ (by omega)).2.2.trans (hRb l_ (by omega))) ((hX.2.1 _ (by have := hRo.lt6 l_ h1_ h2_; omega)).2.2.trans (hRb _ (hRo.lt6 l_ h1_ h2_)))) ((hB.trans hX).rf2 (by omega)) (by omega) (by omega)
        · rw [yz_1] at h_13
          rw [yz_12] at h_13
          refine y_ret1 ?_
          refine y_if_neF rfl (by decide) ?_
          refine y_iconst rfl ?_
          refine y_goto rfl j_X14_sell_56 ?_
          refine y_iconst rfl ?_
          refine y_virt rfl rfl rfl rfl rfl (ySh.t hS rfl) (ySh.n hS rfl) ?_
          refine y_in (M := xm_X14_refuse) (ls := [some _, some _, some _]) rfl rfl rfl ?_
          refine y_iload_n rfl rfl ?_
          refine y_if_eqF rfl (by decide) ?_
          refine y_aload_n rfl rfl ?_
          refine y_getIv (v := Int32.ofInt (0)) rfl (ySh.t hS rfl) (ySh.n hS rfl) rfl rfl hth ?_
          refine y_if_neF rfl (by decide) ?_
          refine y_aload_n rfl rfl ?_
          refine y_iload_n rfl rfl ?_
          refine y_putI rfl (ySh.t hS rfl) (ySh.n hS rfl) rfl (Nat.le_of_ble_eq_true rfl) rfl rfl ?_
          refine y_nameI (fun I37 e37 => ?_)
          have hR1 := (hR0.grow hX).mod0 e37 (by decide) (by decide)
          have hK := (hK.x hRo hno hX).upI (upI e37) (by decide) (by decide) (fun i hi => by have := (hRo.l87.2.2.2.2 i hi).2.1; omega) (by rw [e37, upd2_ne (.inr (by decide))]; exact Int.le_refl _)
          have hth : I37 83 0 = Int32.ofInt (2) := by rw [e37, upd2_self]
          have hzz : ySz8 I7 I37 := ySz8_of (upI e37) (by rw [e37]; exact ⟨upd2_ne (.inr (by decide)), upd2_ne (.inr (by decide))⟩)
          have hB := (hB.trans hX).wr e37 rfl
          have h8 : ∀ a, 84 ≤ a → a ≤ 86 → I37 a = I a := fun a h1 h2 => (upI e37 a (by omega)).trans ((hX.2.1 a (by omega)).2.1.trans (h8 a h1 h2))
          have h3k : ∀ k, k ≠ 0 → I37 83 k = I 83 k := fun k hk => (congrFun (congrFun e37 83) k).trans ((upd2_ne (.inr hk)).trans ((congrFun (hX.2.1 83 (by omega)).2.1 k).trans (h3k k hk)))
          have hg := (hg.gx hX (by omega)).skip e37 (by decide)
          have hday : I37 83 1 = I 83 1 := (congrFun (congrFun e37 83) 1).trans ((upd2_ne (.inr (by decide))).trans ((congrFun (hX.2.1 83 (by omega)).2.1 1).trans hday))
          have hRb : ∀ a, a < n → R a = R a := fun a ha => (hX.2.1 a (by omega)).2.2.trans (hRb a ha)
          have hb83 : ∀ a, a ≠ 83 → a < n → I37 a = I a := fun a ha hb => (upI e37 a ha).trans ((hX.2.1 a (by omega)).2.1.trans (hb83 a ha hb))
          have hS0 := hS
          have hR0 := hR1
          have hn := Nat.le_refl n
          have h94 := hS0.1
          have hX := @yX.rf n tg I37 R
          have hS := hS0.x hX
          have hR := hR0.x hn hX
          have hz := hX.sz h94
          have hxn := hX.1
          have hN := hR0.1
          have hnb := hR0.2.2.2.2.2.2
          have hthB := hth
          refine y_aload_n rfl rfl ?_
          refine y_getIv (v := Int32.ofInt (2)) rfl (ySh.t hS rfl) (ySh.n hS rfl) rfl rfl hth ?_
          refine y_if_leF rfl (by decide) ?_
          refine y_iconst rfl ?_
          refine y_goto rfl j_X14_refuse_28 ?_
          refine y_ireturn rfl rfl rfl ?_
          refine y_ret1 ?_
          refine y_if_neT rfl j_X14_sell_97 (by decide) ?_
          refine y_iconst rfl ?_
          refine y_ireturn rfl rfl rfl ?_
          exact hQ2 (by omega) _ _ _ _ _ _ _ hS ((hR0.grow hX).up (Nat.le_succ K) hk6) (hK.x hRo hno hX) hth (hg.gx hX (by omega)) (by omega) (by omega) (by omega) (by omega) (by omega) (fun l_ h1_ h2_ i_ _ => yAd_eq ((hX.2.1 l_ (by omega)).2.2.trans (hRb l_ (by omega))) ((hX.2.1 _ (by have := hRo.lt6 l_ h1_ h2_; omega)).2.2.trans (hRb _ (hRo.lt6 l_ h1_ h2_)))) ((hB.trans hX).rf2 (by omega)) (by omega) (by omega)
      · rw [yz_0] at h_10
        rw [yz_99] at h_10
        refine y_ret1 ?_
        refine y_if_eqT rfl j_X14_sell_51 (by decide) ?_
        refine y_iconst rfl ?_
        refine y_goto rfl j_X14_sell_56 ?_
        refine y_iconst rfl ?_
        refine y_virt rfl rfl rfl rfl rfl (ySh.t hS rfl) (ySh.n hS rfl) ?_
        refine y_in (M := xm_X14_refuse) (ls := [some _, some _, some _]) rfl rfl rfl ?_
        refine y_iload_n rfl rfl ?_
        refine y_if_eqF rfl (by decide) ?_
        refine y_aload_n rfl rfl ?_
        refine y_getIv (v := Int32.ofInt (0)) rfl (ySh.t hS rfl) (ySh.n hS rfl) rfl rfl hth ?_
        refine y_if_neF rfl (by decide) ?_
        refine y_aload_n rfl rfl ?_
        refine y_iload_n rfl rfl ?_
        refine y_putI rfl (ySh.t hS rfl) (ySh.n hS rfl) rfl (Nat.le_of_ble_eq_true rfl) rfl rfl ?_
        refine y_nameI (fun I38 e38 => ?_)
        have hR1 := (hR0.grow hX).mod0 e38 (by decide) (by decide)
        have hK := (hK.x hRo hno hX).upI (upI e38) (by decide) (by decide) (fun i hi => by have := (hRo.l87.2.2.2.2 i hi).2.1; omega) (by rw [e38, upd2_ne (.inr (by decide))]; exact Int.le_refl _)
        have hth : I38 83 0 = Int32.ofInt (2) := by rw [e38, upd2_self]
        have hzz : ySz8 I7 I38 := ySz8_of (upI e38) (by rw [e38]; exact ⟨upd2_ne (.inr (by decide)), upd2_ne (.inr (by decide))⟩)
        have hB := (hB.trans hX).wr e38 rfl
        have h8 : ∀ a, 84 ≤ a → a ≤ 86 → I38 a = I a := fun a h1 h2 => (upI e38 a (by omega)).trans ((hX.2.1 a (by omega)).2.1.trans (h8 a h1 h2))
        have h3k : ∀ k, k ≠ 0 → I38 83 k = I 83 k := fun k hk => (congrFun (congrFun e38 83) k).trans ((upd2_ne (.inr hk)).trans ((congrFun (hX.2.1 83 (by omega)).2.1 k).trans (h3k k hk)))
        have hg := (hg.gx hX (by omega)).skip e38 (by decide)
        have hday : I38 83 1 = I 83 1 := (congrFun (congrFun e38 83) 1).trans ((upd2_ne (.inr (by decide))).trans ((congrFun (hX.2.1 83 (by omega)).2.1 1).trans hday))
        have hRb : ∀ a, a < n → R a = R a := fun a ha => (hX.2.1 a (by omega)).2.2.trans (hRb a ha)
        have hb83 : ∀ a, a ≠ 83 → a < n → I38 a = I a := fun a ha hb => (upI e38 a ha).trans ((hX.2.1 a (by omega)).2.1.trans (hb83 a ha hb))
        have hS0 := hS
        have hR0 := hR1
        have hn := Nat.le_refl n
        have h94 := hS0.1
        have hX := @yX.rf n tg I38 R
        have hS := hS0.x hX
        have hR := hR0.x hn hX
        have hz := hX.sz h94
        have hxn := hX.1
        have hN := hR0.1
        have hnb := hR0.2.2.2.2.2.2
        have hthB := hth
        refine y_aload_n rfl rfl ?_
        refine y_getIv (v := Int32.ofInt (2)) rfl (ySh.t hS rfl) (ySh.n hS rfl) rfl rfl hth ?_
        refine y_if_leF rfl (by decide) ?_
        refine y_iconst rfl ?_
        refine y_goto rfl j_X14_refuse_28 ?_
        refine y_ireturn rfl rfl rfl ?_
        refine y_ret1 ?_
        refine y_if_neT rfl j_X14_sell_97 (by decide) ?_
        refine y_iconst rfl ?_
        refine y_ireturn rfl rfl rfl ?_
        exact hQ2 (by omega) _ _ _ _ _ _ _ hS ((hR0.grow hX).up (Nat.le_succ K) hk6) (hK.x hRo hno hX) hth (hg.gx hX (by omega)) (by omega) (by omega) (by omega) (by omega) (by omega) (fun l_ h1_ h2_ i_ _ => yAd_eq ((hX.2.1 l_ (by omega)).2.2.trans (hRb l_ (by omega))) ((hX.2.1 _ (by have := hRo.lt6 l_ h1_ h2_; omega)).2.2.trans (hRb _ (hRo.lt6 l_ h1_ h2_)))) ((hB.trans hX).rf2 (by omega)) (by omega) (by omega)
    · rw [yz_0] at h_6
      try rw [ysub (by rw [yz_1]; omega) (by rw [yz_1]; omega), yz_1] at h_6
      refine y_ret1 ?_
      refine y_if_neF rfl (by decide) ?_
      refine y_iconst rfl ?_
      refine y_goto rfl j_X14_isNobody_19 ?_
      refine y_ireturn rfl rfl rfl ?_
      refine y_ret1 ?_
      refine y_if_eqF rfl (by decide) ?_
      refine y_iconst rfl ?_
      refine y_goto rfl j_X14_sell_22 ?_
      refine y_iconst rfl ?_
      refine y_virt rfl rfl rfl rfl rfl (ySh.t hS rfl) (ySh.n hS rfl) ?_
      refine y_in (M := xm_X14_start) (ls := [some _, some _, some _]) rfl rfl rfl ?_
      refine y_aload_n rfl rfl ?_
      refine y_iconst rfl ?_
      refine y_putI rfl (ySh.t hS rfl) (ySh.n hS rfl) rfl (Nat.le_of_ble_eq_true rfl) rfl rfl ?_
      refine y_nameI (fun I39 e39 => ?_)
      have hR1 := (hR0.grow hX).mod0 e39 (by decide) (by decide)
      have hK := (hK.x hRo hno hX).upI (upI e39) (by decide) (by decide) (fun i hi => by have := (hRo.l87.2.2.2.2 i hi).2.1; omega) (by rw [e39, upd2_ne (.inr (by decide))]; exact Int.le_refl _)
      have hth : I39 83 0 = Int32.ofInt (0) := by rw [e39, upd2_self]
      have hzz : ySz8 I I39 := ySz8_of (upI e39) (by rw [e39]; exact ⟨upd2_ne (.inr (by decide)), upd2_ne (.inr (by decide))⟩)
      have hB := (hB.trans hX).wr e39 rfl
      have h8 : ∀ a, 84 ≤ a → a ≤ 86 → I39 a = I a := fun a h1 h2 => (upI e39 a (by omega)).trans ((hX.2.1 a (by omega)).2.1.trans (h8 a h1 h2))
      have h3k : ∀ k, k ≠ 0 → I39 83 k = I 83 k := fun k hk => (congrFun (congrFun e39 83) k).trans ((upd2_ne (.inr hk)).trans ((congrFun (hX.2.1 83 (by omega)).2.1 k).trans (h3k k hk)))
      have hg := (hg.gx hX (by omega)).skip e39 (by decide)
      have hday : I39 83 1 = I 83 1 := (congrFun (congrFun e39 83) 1).trans ((upd2_ne (.inr (by decide))).trans ((congrFun (hX.2.1 83 (by omega)).2.1 1).trans hday))
      have hRb : ∀ a, a < n → R a = R a := fun a ha => (hX.2.1 a (by omega)).2.2.trans (hRb a ha)
      have hb83 : ∀ a, a ≠ 83 → a < n → I39 a = I a := fun a ha hb => (upI e39 a ha).trans ((hX.2.1 a (by omega)).2.1.trans (hb83 a ha hb))
      have hS0 := hS
      have hR0 := hR1
      have hn := Nat.le_refl n
      have h94 := hS0.1
      have hX := @yX.rf n tg I39 R
      have hS := hS0.x hX
      have hR := hR0.x hn hX
      have hz := hX.sz h94
      have hxn := hX.1
      have hN := hR0.1
      have hnb := hR0.2.2.2.2.2.2
      have hthB := hth
      refine y_aload_n rfl rfl ?_
      refine y_iload_n rfl rfl ?_
      refine y_iload_n rfl rfl ?_
      refine y_virt rfl rfl rfl rfl rfl (ySh.t hS rfl) (ySh.n hS rfl) ?_
      refine y_in (M := xm_X14_refuse) (ls := [some _, some _, some _]) rfl rfl rfl ?_
      refine y_iload_n rfl rfl ?_
      refine y_if_eqF rfl (by decide) ?_
      refine y_aload_n rfl rfl ?_
      refine y_getIv (v := Int32.ofInt (0)) rfl (ySh.t hS rfl) (ySh.n hS rfl) rfl rfl hth ?_
      refine y_if_neF rfl (by decide) ?_
      refine y_aload_n rfl rfl ?_
      refine y_iload_n rfl rfl ?_
      refine y_putI rfl (ySh.t hS rfl) (ySh.n hS rfl) rfl (Nat.le_of_ble_eq_true rfl) rfl rfl ?_
      refine y_nameI (fun I40 e40 => ?_)
      have hR1 := (hR0.grow hX).mod0 e40 (by decide) (by decide)
      have hK := (hK.x hRo hno hX).upI (upI e40) (by decide) (by decide) (fun i hi => by have := (hRo.l87.2.2.2.2 i hi).2.1; omega) (by rw [e40, upd2_ne (.inr (by decide))]; exact Int.le_refl _)
      have hth : I40 83 0 = Int32.ofInt (1) := by rw [e40, upd2_self]
      have hzz : ySz8 I39 I40 := ySz8_of (upI e40) (by rw [e40]; exact ⟨upd2_ne (.inr (by decide)), upd2_ne (.inr (by decide))⟩)
      have hB := (hB.trans hX).wr e40 rfl
      have h8 : ∀ a, 84 ≤ a → a ≤ 86 → I40 a = I a := fun a h1 h2 => (upI e40 a (by omega)).trans ((hX.2.1 a (by omega)).2.1.trans (h8 a h1 h2))
      have h3k : ∀ k, k ≠ 0 → I40 83 k = I 83 k := fun k hk => (congrFun (congrFun e40 83) k).trans ((upd2_ne (.inr hk)).trans ((congrFun (hX.2.1 83 (by omega)).2.1 k).trans (h3k k hk)))
      have hg := (hg.gx hX (by omega)).skip e40 (by decide)
      have hday : I40 83 1 = I 83 1 := (congrFun (congrFun e40 83) 1).trans ((upd2_ne (.inr (by decide))).trans ((congrFun (hX.2.1 83 (by omega)).2.1 1).trans hday))
      have hRb : ∀ a, a < n → R a = R a := fun a ha => (hX.2.1 a (by omega)).2.2.trans (hRb a ha)
      have hb83 : ∀ a, a ≠ 83 → a < n → I40 a = I a := fun a ha hb => (upI e40 a ha).trans ((hX.2.1 a (by omega)).2.1.trans (hb83 a ha hb))
      have hS0 := hS
      have hR0 := hR1
      have hn := Nat.le_refl n
      have h94 := hS0.1
      have hX := @yX.rf n tg I40 R
      have hS := hS0.x hX
      have hR := hR0.x hn hX
      have hz := hX.sz h94
      have hxn := hX.1
      have hN := hR0.1
      have hnb := hR0.2.2.2.2.2.2
      have hthB := hth
      refine y_aload_n rfl rfl ?_
      refine y_getIv (v := Int32.ofInt (1)) rfl (ySh.t hS rfl) (ySh.n hS rfl) rfl rfl hth ?_
      refine y_if_leF rfl (by decide) ?_
      refine y_iconst rfl ?_
      refine y_goto rfl j_X14_refuse_28 ?_
      refine y_ireturn rfl rfl rfl ?_
      refine y_ret1 ?_
      refine y_ireturn rfl rfl rfl ?_
      refine y_ret1 ?_
      refine y_if_neT rfl j_X14_sell_97 (by decide) ?_
      refine y_iconst rfl ?_
      refine y_ireturn rfl rfl rfl ?_
      exact hQ1 (by omega) _ _ _ _ _ _ _ hS ((hR0.grow hX).up (Nat.le_succ K) hk6) (hK.x hRo hno hX) hth (hg.gx hX (by omega)) (by omega) (by omega) (by omega) (by omega) (by omega) (fun l_ h1_ h2_ i_ _ => yAd_eq ((hX.2.1 l_ (by omega)).2.2.trans (hRb l_ (by omega))) ((hX.2.1 _ (by have := hRo.lt6 l_ h1_ h2_; omega)).2.2.trans (hRb _ (hRo.lt6 l_ h1_ h2_)))) ((hB.trans hX).rf2 (by omega)) (by omega) (by omega)
  · rw [yz_0] at h_3
    try rw [ysub (by rw [yz_1]; omega) (by rw [yz_1]; omega), yz_1] at h_3
    refine y_ret1 ?_
    refine y_if_neF rfl (by decide) ?_
    refine y_iconst rfl ?_
    refine y_goto rfl j_X14_isNoThing_22 ?_
    refine y_ireturn rfl rfl rfl ?_
    refine y_ret1 ?_
    refine y_if_neT rfl j_X14_sell_17 (by decide) ?_
    refine y_iconst rfl ?_
    refine y_goto rfl j_X14_sell_22 ?_
    refine y_iconst rfl ?_
    refine y_virt rfl rfl rfl rfl rfl (ySh.t hS rfl) (ySh.n hS rfl) ?_
    refine y_in (M := xm_X14_start) (ls := [some _, some _, some _]) rfl rfl rfl ?_
    refine y_aload_n rfl rfl ?_
    refine y_iconst rfl ?_
    refine y_putI rfl (ySh.t hS rfl) (ySh.n hS rfl) rfl (Nat.le_of_ble_eq_true rfl) rfl rfl ?_
    refine y_nameI (fun I41 e41 => ?_)
    have hR1 := (hR0.grow hX).mod0 e41 (by decide) (by decide)
    have hK := (hK.x hRo hno hX).upI (upI e41) (by decide) (by decide) (fun i hi => by have := (hRo.l87.2.2.2.2 i hi).2.1; omega) (by rw [e41, upd2_ne (.inr (by decide))]; exact Int.le_refl _)
    have hth : I41 83 0 = Int32.ofInt (0) := by rw [e41, upd2_self]
    have hzz : ySz8 I I41 := ySz8_of (upI e41) (by rw [e41]; exact ⟨upd2_ne (.inr (by decide)), upd2_ne (.inr (by decide))⟩)
    have hB := (hB.trans hX).wr e41 rfl
    have h8 : ∀ a, 84 ≤ a → a ≤ 86 → I41 a = I a := fun a h1 h2 => (upI e41 a (by omega)).trans ((hX.2.1 a (by omega)).2.1.trans (h8 a h1 h2))
    have h3k : ∀ k, k ≠ 0 → I41 83 k = I 83 k := fun k hk => (congrFun (congrFun e41 83) k).trans ((upd2_ne (.inr hk)).trans ((congrFun (hX.2.1 83 (by omega)).2.1 k).trans (h3k k hk)))
    have hg := (hg.gx hX (by omega)).skip e41 (by decide)
    have hday : I41 83 1 = I 83 1 := (congrFun (congrFun e41 83) 1).trans ((upd2_ne (.inr (by decide))).trans ((congrFun (hX.2.1 83 (by omega)).2.1 1).trans hday))
    have hRb : ∀ a, a < n → R a = R a := fun a ha => (hX.2.1 a (by omega)).2.2.trans (hRb a ha)
    have hb83 : ∀ a, a ≠ 83 → a < n → I41 a = I a := fun a ha hb => (upI e41 a ha).trans ((hX.2.1 a (by omega)).2.1.trans (hb83 a ha hb))
    have hS0 := hS
    have hR0 := hR1
    have hn := Nat.le_refl n
    have h94 := hS0.1
    have hX := @yX.rf n tg I41 R
    have hS := hS0.x hX
    have hR := hR0.x hn hX
    have hz := hX.sz h94
    have hxn := hX.1
    have hN := hR0.1
    have hnb := hR0.2.2.2.2.2.2
    have hthB := hth
    refine y_aload_n rfl rfl ?_
    refine y_iload_n rfl rfl ?_
    refine y_iload_n rfl rfl ?_
    refine y_virt rfl rfl rfl rfl rfl (ySh.t hS rfl) (ySh.n hS rfl) ?_
    refine y_in (M := xm_X14_refuse) (ls := [some _, some _, some _]) rfl rfl rfl ?_
    refine y_iload_n rfl rfl ?_
    refine y_if_eqF rfl (by decide) ?_
    refine y_aload_n rfl rfl ?_
    refine y_getIv (v := Int32.ofInt (0)) rfl (ySh.t hS rfl) (ySh.n hS rfl) rfl rfl hth ?_
    refine y_if_neF rfl (by decide) ?_
    refine y_aload_n rfl rfl ?_
    refine y_iload_n rfl rfl ?_
    refine y_putI rfl (ySh.t hS rfl) (ySh.n hS rfl) rfl (Nat.le_of_ble_eq_true rfl) rfl rfl ?_
    refine y_nameI (fun I42 e42 => ?_)
    have hR1 := (hR0.grow hX).mod0 e42 (by decide) (by decide)
    have hK := (hK.x hRo hno hX).upI (upI e42) (by decide) (by decide) (fun i hi => by have := (hRo.l87.2.2.2.2 i hi).2.1; omega) (by rw [e42, upd2_ne (.inr (by decide))]; exact Int.le_refl _)
    have hth : I42 83 0 = Int32.ofInt (1) := by rw [e42, upd2_self]
    have hzz : ySz8 I41 I42 := ySz8_of (upI e42) (by rw [e42]; exact ⟨upd2_ne (.inr (by decide)), upd2_ne (.inr (by decide))⟩)
    have hB := (hB.trans hX).wr e42 rfl
    have h8 : ∀ a, 84 ≤ a → a ≤ 86 → I42 a = I a := fun a h1 h2 => (upI e42 a (by omega)).trans ((hX.2.1 a (by omega)).2.1.trans (h8 a h1 h2))
    have h3k : ∀ k, k ≠ 0 → I42 83 k = I 83 k := fun k hk => (congrFun (congrFun e42 83) k).trans ((upd2_ne (.inr hk)).trans ((congrFun (hX.2.1 83 (by omega)).2.1 k).trans (h3k k hk)))
    have hg := (hg.gx hX (by omega)).skip e42 (by decide)
    have hday : I42 83 1 = I 83 1 := (congrFun (congrFun e42 83) 1).trans ((upd2_ne (.inr (by decide))).trans ((congrFun (hX.2.1 83 (by omega)).2.1 1).trans hday))
    have hRb : ∀ a, a < n → R a = R a := fun a ha => (hX.2.1 a (by omega)).2.2.trans (hRb a ha)
    have hb83 : ∀ a, a ≠ 83 → a < n → I42 a = I a := fun a ha hb => (upI e42 a ha).trans ((hX.2.1 a (by omega)).2.1.trans (hb83 a ha hb))
    have hS0 := hS
    have hR0 := hR1
    have hn := Nat.le_refl n
    have h94 := hS0.1
    have hX := @yX.rf n tg I42 R
    have hS := hS0.x hX
    have hR := hR0.x hn hX
    have hz := hX.sz h94
    have hxn := hX.1
    have hN := hR0.1
    have hnb := hR0.2.2.2.2.2.2
    have hthB := hth
    refine y_aload_n rfl rfl ?_
    refine y_getIv (v := Int32.ofInt (1)) rfl (ySh.t hS rfl) (ySh.n hS rfl) rfl rfl hth ?_
    refine y_if_leF rfl (by decide) ?_
    refine y_iconst rfl ?_
    refine y_goto rfl j_X14_refuse_28 ?_
    refine y_ireturn rfl rfl rfl ?_
    refine y_ret1 ?_
    refine y_ireturn rfl rfl rfl ?_
    refine y_ret1 ?_
    refine y_if_neT rfl j_X14_sell_97 (by decide) ?_
    refine y_iconst rfl ?_
    refine y_ireturn rfl rfl rfl ?_
    exact hQ1 (by omega) _ _ _ _ _ _ _ hS ((hR0.grow hX).up (Nat.le_succ K) hk6) (hK.x hRo hno hX) hth (hg.gx hX (by omega)) (by omega) (by omega) (by omega) (by omega) (by omega) (fun l_ h1_ h2_ i_ _ => yAd_eq ((hX.2.1 l_ (by omega)).2.2.trans (hRb l_ (by omega))) ((hX.2.1 _ (by have := hRo.lt6 l_ h1_ h2_; omega)).2.2.trans (hRb _ (hRo.lt6 l_ h1_ h2_)))) ((hB.trans hX).rf2 (by omega)) (by omega) (by omega)
theorem s_part (hS0 : ySh n tg R) (hR0 : yRI K nb tg I R) (hn : nb ≤ n) {b : Nat} (hlo_b : 94 ≤ b) (hb0_b : b < nb) (ht_b : tg b = (19, 0)) {x1 : Int32} (hk0 : 0 ≤ x1.toInt) (hk1 : x1.toInt ≤ 12) (hQ : ∀ v : Int32, v = yPa (I b 2) (I b 4) x1 → Q (.inl (some (.int v))) (n, tg, I, R) c s) : yC 176 [.ref b, .int x1] (n, tg, I, R) c s Q := by
  have hX : yX n tg I R n tg I R := yX.rf
  have hS := hS0
  have hR := hR0
  have h94 : 94 ≤ n := hS0.1
  have hz : ySz I I := hX.sz h94
  have hxn := hX.1
  have hN := hR0.1
  have hnb : 94 ≤ nb := hR0.2.2.2.2.2.2
  have hb_b := Nat.lt_of_lt_of_le hb0_b hn
  have hpb := (hR0.sal hlo_b hb0_b ht_b).2.2
  have hq_ := yinc (x := x1) (by omega)
  refine y_in (M := xm_X11_part) (ls := [some _, some _]) rfl rfl rfl ?_
  refine y_iload_n rfl rfl ?_
  refine y_iconst rfl ?_
  refine y_iadd rfl ?_
  refine y_aload_n rfl rfl ?_
  refine y_getIv (v := I b 4) rfl ((hX.2.1 _ hb_b).1.trans ht_b) (Nat.lt_of_lt_of_le hb_b hX.1) rfl rfl (congrFun (hX.2.1 _ hb_b).2.1 4) ?_
  refine y_icmp_ge rfl j_X11_part_22 (fun h_1 => ?_) (fun h_2 => ?_)
  · refine y_aload_n rfl rfl ?_
    refine y_getIv (v := I b 2) rfl ((hX.2.1 _ hb_b).1.trans ht_b) (Nat.lt_of_lt_of_le hb_b hX.1) rfl rfl (congrFun (hX.2.1 _ hb_b).2.1 2) ?_
    refine y_aload_n rfl rfl ?_
    refine y_getIv (v := I b 2) rfl ((hX.2.1 _ hb_b).1.trans ht_b) (Nat.lt_of_lt_of_le hb_b hX.1) rfl rfl (congrFun (hX.2.1 _ hb_b).2.1 2) ?_
    refine y_aload_n rfl rfl ?_
    refine y_getIv (v := I b 4) rfl ((hX.2.1 _ hb_b).1.trans ht_b) (Nat.lt_of_lt_of_le hb_b hX.1) rfl rfl (congrFun (hX.2.1 _ hb_b).2.1 4) ?_
    refine y_idiv rfl (fun h => by rw [h] at hpb; revert hpb; decide) ?_
    refine y_aload_n rfl rfl ?_
    refine y_getIv (v := I b 4) rfl ((hX.2.1 _ hb_b).1.trans ht_b) (Nat.lt_of_lt_of_le hb_b hX.1) rfl rfl (congrFun (hX.2.1 _ hb_b).2.1 4) ?_
    refine y_iconst rfl ?_
    refine y_isub rfl ?_
    refine y_imul rfl ?_
    refine y_isub rfl ?_
    refine y_ireturn rfl rfl rfl ?_
    first | exact hQ _ (if_pos (by omega)).symm | exact hQ _ (if_neg (by omega)).symm
  · refine y_aload_n rfl rfl ?_
    refine y_getIv (v := I b 2) rfl ((hX.2.1 _ hb_b).1.trans ht_b) (Nat.lt_of_lt_of_le hb_b hX.1) rfl rfl (congrFun (hX.2.1 _ hb_b).2.1 2) ?_
    refine y_aload_n rfl rfl ?_
    refine y_getIv (v := I b 4) rfl ((hX.2.1 _ hb_b).1.trans ht_b) (Nat.lt_of_lt_of_le hb_b hX.1) rfl rfl (congrFun (hX.2.1 _ hb_b).2.1 4) ?_
    refine y_idiv rfl (fun h => by rw [h] at hpb; revert hpb; decide) ?_
    refine y_goto rfl j_X11_part_43 ?_
    refine y_ireturn rfl rfl rfl ?_
    first | exact hQ _ (if_pos (by omega)).symm | exact hQ _ (if_neg (by omega)).symm
theorem h_pay (hS0 : ySh n tg R) (hR0 : yRI K n tg I R) (hk6 : K < 600) {x1 : Int32} (hT : ∀ b, b = yAd R 89 x1.toInt.toNat → (0 ≤ x1.toInt ∧ x1.toInt < (I 89 2).toInt) → (1 ≤ (I b 4).toInt ∧ (I b 4).toInt ≤ 12 ∧ 0 ≤ (I b 7).toInt ∧ (I b 7).toInt ≤ 12 ∧ 0 ≤ (I b 3).toInt ∧ (I b 3).toInt ≤ 99)) {al1 : Int} (hal1 : ySum (fun j => yHv I R 1 j (I 87 2).toInt.toNat) 5 = al1) {al2 : Int} (hal2 : ySum (fun j => yHv I R 2 j (I 87 2).toInt.toNat) 5 = al2) (hQ1 : ¬ (0 ≤ x1.toInt ∧ x1.toInt < (I 89 2).toInt) → ∀ (v : Int32) n1 tg1 I1 R1 c1 s1, ySh n1 tg1 R1 → yRI (K + 1) n1 tg1 I1 R1 → yKp n tg I R n1 tg1 I1 R1 → I1 83 0 = Int32.ofInt 1 → yGm n I1 I → yRf n I R I1 R1 → c1 ≤ c + 4 → s1 ≤ s + 18 → Q (.inl (some (.int v))) (n1, tg1, I1, R1) c1 s1) (hQ2 : ∀ b, b = yAd R 89 x1.toInt.toNat → (0 ≤ x1.toInt ∧ x1.toInt < (I 89 2).toInt) ∧ ¬ ((I b 5).toInt = 0 ∧ (I b 7).toInt < (I b 4).toInt) → ∀ (v : Int32) n1 tg1 I1 R1 c1 s1, ySh n1 tg1 R1 → yRI (K + 1) n1 tg1 I1 R1 → yKp n tg I R n1 tg1 I1 R1 → I1 83 0 = Int32.ofInt 2 → yGm n I1 I → yRf n I R I1 R1 → c1 ≤ c + 4 → s1 ≤ s + 18 → Q (.inl (some (.int v))) (n1, tg1, I1, R1) c1 s1) (hQ0 : ∀ b, b = yAd R 89 x1.toInt.toNat → ∀ pt : Int32, pt = yPa (I b 2) (I b 4) (I b 7) → ∀ fe : Int32, fe = yFe (I 83 1 - (I b 6 + Int32.ofInt 30 * (I b 7 + Int32.ofInt 1))) pt al2 → ∀ re : Int32, re = yRb (I 83 1 - (I b 6 + Int32.ofInt 30 * (I b 7 + Int32.ofInt 1))) pt (I b 3) al1 → (0 ≤ x1.toInt ∧ x1.toInt < (I 89 2).toInt) ∧ ((I b 5).toInt = 0 ∧ (I b 7).toInt < (I b 4).toInt) → ∀ (v : Int32) n1 tg1 I1 R1 c1 s1, ySh n1 tg1 R1 → yRI (K + 1) n1 tg1 I1 R1 → yKp n tg I R n1 tg1 I1 R1 → I1 83 0 = Int32.ofInt 0 → v = pt - re → yGm n I1 (upd2 (upd2 (upd2 I b 7 (I b 7 + Int32.ofInt 1)) b 8 (I b 8 + fe)) b 9 (I b 9 + re)) → yX n tg (upd2 (upd2 (upd2 (upd2 (upd2 (upd2 (upd2 I 83 0 (Int32.ofInt 0)) b 7 (I b 7 + Int32.ofInt 1)) b 8 (I b 8 + fe)) b 9 (I b 9 + re)) 83 2 (I 83 2 + fe)) 84 (I b 1).toInt.toNat (I 84 (I b 1).toInt.toNat - (pt - re + fe))) 84 8 ((upd2 (upd2 (upd2 (upd2 (upd2 (upd2 I 83 0 (Int32.ofInt 0)) b 7 (I b 7 + Int32.ofInt 1)) b 8 (I b 8 + fe)) b 9 (I b 9 + re)) 83 2 (I 83 2 + fe)) 84 (I b 1).toInt.toNat (I 84 (I b 1).toInt.toNat - (pt - re + fe))) 84 8 + (pt - re))) R n1 tg1 I1 R1 → c1 ≤ c + 4 → s1 ≤ s + 18 → Q (.inl (some (.int v))) (n1, tg1, I1, R1) c1 s1) : yC 204 [.ref 83, .int x1] (n, tg, I, R) c s Q := by
  have hno := Nat.le_refl n
  have hn := hno
  have hRo := hR0
  have hK : yKp n tg I R n tg I R := yKp.rf
  have hX : yX n tg I R n tg I R := yX.rf
  have hS := hS0
  have hR := hR0
  have h94 : 94 ≤ n := hS0.1
  have hz : ySz I I := hX.sz h94
  have hxn := hX.1
  have hN := hR0.1
  have hnb : 94 ≤ n := hR0.2.2.2.2.2.2
  have hg : yGm n I I := yGm.rf
  have hday : I 83 1 = I 83 1 := rfl
  have hb83 : ∀ a, a ≠ 83 → a < n → I a = I a := fun _ _ _ => rfl
  have hRb : ∀ a, a < n → R a = R a := fun _ _ => rfl
  have hB : yX n tg I R n tg I R := yX.rf
  have h8 : ∀ a, 84 ≤ a → a ≤ 86 → I a = I a := fun _ _ _ => rfl
  have h3k : ∀ k, k ≠ 0 → I 83 k = I 83 k := fun _ _ => rfl
  refine y_in (M := xm_X14_pay) (ls := [some _, some _, _, _, _, _, _]) rfl rfl rfl ?_
  refine y_aload_n rfl rfl ?_
  refine y_iload_n rfl rfl ?_
  refine y_iconst rfl ?_
  refine y_aload_n rfl rfl ?_
  refine y_getR rfl (ySh.t hS rfl) (ySh.n hS rfl) rfl rfl (ySh.r hS rfl) ?_
  refine y_virt rfl rfl rfl rfl rfl (ySh.t hS rfl) (ySh.n hS rfl) ?_
  refine y_in (M := xm_Jx4a65c_size_8abf5) (ls := [some _]) rfl rfl rfl ?_
  refine y_aload_n rfl rfl ?_
  refine y_getI rfl (ySh.t hS rfl) (ySh.n hS rfl) rfl rfl ?_
  refine y_ireturn rfl rfl rfl ?_
  refine y_ret1 ?_
  refine y_iconst rfl ?_
  refine y_isub rfl ?_
  refine y_static rfl rfl rfl rfl rfl ?_
  refine r_isIn (fun h_1 h_2 => ?_) (fun h_3 => ?_)
  · rw [yz_0] at h_1
    try rw [ysub (by rw [yz_1]; omega) (by rw [yz_1]; omega), yz_1] at h_2
    refine y_ret1 ?_
    refine y_if_neT rfl j_X14_pay_22 (by decide) ?_
    refine y_iconst rfl ?_
    refine y_iconst rfl ?_
    refine y_virt rfl rfl rfl rfl rfl (ySh.t hS rfl) (ySh.n hS rfl) ?_
    refine y_in (M := xm_X14_start) (ls := [some _, some _, some _]) rfl rfl rfl ?_
    refine y_aload_n rfl rfl ?_
    refine y_iconst rfl ?_
    refine y_putI rfl (ySh.t hS rfl) (ySh.n hS rfl) rfl (Nat.le_of_ble_eq_true rfl) rfl rfl ?_
    refine y_nameI (fun I4 e4 => ?_)
    have hR1 := (hR0.grow hX).mod0 e4 (by decide) (by decide)
    have hK := (hK.x hRo hno hX).upI (upI e4) (by decide) (by decide) (fun i hi => by have := (hRo.l87.2.2.2.2 i hi).2.1; omega) (by rw [e4, upd2_ne (.inr (by decide))]; exact Int.le_refl _)
    have hth : I4 83 0 = Int32.ofInt (0) := by rw [e4, upd2_self]
    have hzz : ySz8 I I4 := ySz8_of (upI e4) (by rw [e4]; exact ⟨upd2_ne (.inr (by decide)), upd2_ne (.inr (by decide))⟩)
    have hB := (hB.trans hX).wr e4 rfl
    have h8 : ∀ a, 84 ≤ a → a ≤ 86 → I4 a = I a := fun a h1 h2 => (upI e4 a (by omega)).trans ((hX.2.1 a (by omega)).2.1.trans (h8 a h1 h2))
    have h3k : ∀ k, k ≠ 0 → I4 83 k = I 83 k := fun k hk => (congrFun (congrFun e4 83) k).trans ((upd2_ne (.inr hk)).trans ((congrFun (hX.2.1 83 (by omega)).2.1 k).trans (h3k k hk)))
    have hg := (hg.gx hX (by omega)).skip e4 (by decide)
    have hday : I4 83 1 = I 83 1 := (congrFun (congrFun e4 83) 1).trans ((upd2_ne (.inr (by decide))).trans ((congrFun (hX.2.1 83 (by omega)).2.1 1).trans hday))
    have hRb : ∀ a, a < n → R a = R a := fun a ha => (hX.2.1 a (by omega)).2.2.trans (hRb a ha)
    have hb83 : ∀ a, a ≠ 83 → a < n → I4 a = I a := fun a ha hb => (upI e4 a ha).trans ((hX.2.1 a (by omega)).2.1.trans (hb83 a ha hb))
    have hS0 := hS
    have hR0 := hR1
    have hn := Nat.le_refl n
    have h94 := hS0.1
    have hX := @yX.rf n tg I4 R
    have hS := hS0.x hX
    have hR := hR0.x hn hX
    have hz := hX.sz h94
    have hxn := hX.1
    have hN := hR0.1
    have hnb := hR0.2.2.2.2.2.2
    have hthB := hth
    refine y_aload_n rfl rfl ?_
    refine y_iload_n rfl rfl ?_
    refine y_iload_n rfl rfl ?_
    refine y_virt rfl rfl rfl rfl rfl (ySh.t hS rfl) (ySh.n hS rfl) ?_
    refine y_in (M := xm_X14_refuse) (ls := [some _, some _, some _]) rfl rfl rfl ?_
    refine y_iload_n rfl rfl ?_
    refine y_if_eqT rfl j_X14_refuse_16 (by decide) ?_
    refine y_aload_n rfl rfl ?_
    refine y_getIv (v := Int32.ofInt (0)) rfl (ySh.t hS rfl) (ySh.n hS rfl) rfl rfl hth ?_
    refine y_if_leT rfl j_X14_refuse_27 (by decide) ?_
    refine y_iconst rfl ?_
    refine y_ireturn rfl rfl rfl ?_
    refine y_ret1 ?_
    refine y_ireturn rfl rfl rfl ?_
    refine y_ret1 ?_
    refine y_if_neF rfl (by decide) ?_
    refine y_aload_n rfl rfl ?_
    refine y_aload_n rfl rfl ?_
    refine y_getR rfl (ySh.t hS rfl) (ySh.n hS rfl) rfl rfl (ySh.r hS rfl) ?_
    refine y_iload_n rfl rfl ?_
    refine y_virt rfl rfl rfl rfl rfl (ySh.t hS rfl) (ySh.n hS rfl) ?_
    refine l_get (nb := n) (ySh.t hS rfl) (ySh.n hS rfl) (Nat.le_trans hn hX.1) hR.l89 (by omega) (by omega) (fun b5 eb_b5 hlo_b5 hb0_b5 ht_b5 => ?_)
    have hb_b5 := Nat.lt_of_lt_of_le hb0_b5 hn
    replace ht_b5 := (hX.2.1 _ hb_b5).1.symm.trans ht_b5
    have hw_b5 := hR.sal hlo_b5 hb0_b5 ((hX.2.1 _ hb_b5).1.trans ht_b5)
    have hq_b5_0 := congrArg Int32.toInt (congrFun ((hg.gx hX (by omega)) _ hlo_b5 (by omega)) 0)
    have hq_b5_1 := congrArg Int32.toInt (congrFun ((hg.gx hX (by omega)) _ hlo_b5 (by omega)) 1)
    have hq_b5_3 := congrArg Int32.toInt (congrFun ((hg.gx hX (by omega)) _ hlo_b5 (by omega)) 3)
    have hq_b5_4 := congrArg Int32.toInt (congrFun ((hg.gx hX (by omega)) _ hlo_b5 (by omega)) 4)
    have hT_b5 := hT _ eb_b5 ⟨by omega, by omega⟩
    refine y_ret1 ?_
    refine y_cast rfl ((hX.2.1 _ hb_b5).1.trans ht_b5) (Nat.lt_of_lt_of_le hb_b5 hX.1) ?_
    refine y_virt rfl rfl rfl rfl rfl ((hX.2.1 _ hb_b5).1.trans ht_b5) (Nat.lt_of_lt_of_le hb_b5 hX.1) ?_
    refine y_in (M := xm_X11_isOpen) (ls := [some _]) rfl rfl rfl ?_
    refine y_aload_n rfl rfl ?_
    refine y_getIv (v := I b5 5) rfl ((hX.2.1 _ hb_b5).1.trans ht_b5) (Nat.lt_of_lt_of_le hb_b5 hX.1) rfl rfl (congrFun ((hg.gx hX (by omega)) _ hlo_b5 (by omega)) 5) ?_
    refine y_if_ne rfl j_X11_isOpen_22 (fun h_6 => ?_) (fun h_7 => ?_)
    · refine y_iconst rfl ?_
      refine y_ireturn rfl rfl rfl ?_
      refine y_ret1 ?_
      refine y_if_neF rfl (by decide) ?_
      refine y_iconst rfl ?_
      refine y_goto rfl j_X14_pay_53 ?_
      refine y_iconst rfl ?_
      refine y_virt rfl rfl rfl rfl rfl (ySh.t hS rfl) (ySh.n hS rfl) ?_
      refine y_in (M := xm_X14_refuse) (ls := [some _, some _, some _]) rfl rfl rfl ?_
      refine y_iload_n rfl rfl ?_
      refine y_if_eqF rfl (by decide) ?_
      refine y_aload_n rfl rfl ?_
      refine y_getIv (v := Int32.ofInt (0)) rfl (ySh.t hS rfl) (ySh.n hS rfl) rfl rfl hth ?_
      refine y_if_neF rfl (by decide) ?_
      refine y_aload_n rfl rfl ?_
      refine y_iload_n rfl rfl ?_
      refine y_putI rfl (ySh.t hS rfl) (ySh.n hS rfl) rfl (Nat.le_of_ble_eq_true rfl) rfl rfl ?_
      refine y_nameI (fun I8 e8 => ?_)
      have hR1 := (hR0.grow hX).mod0 e8 (by decide) (by decide)
      have hK := (hK.x hRo hno hX).upI (upI e8) (by decide) (by decide) (fun i hi => by have := (hRo.l87.2.2.2.2 i hi).2.1; omega) (by rw [e8, upd2_ne (.inr (by decide))]; exact Int.le_refl _)
      have hth : I8 83 0 = Int32.ofInt (2) := by rw [e8, upd2_self]
      have hzz : ySz8 I4 I8 := ySz8_of (upI e8) (by rw [e8]; exact ⟨upd2_ne (.inr (by decide)), upd2_ne (.inr (by decide))⟩)
      have hB := (hB.trans hX).wr e8 rfl
      have h8 : ∀ a, 84 ≤ a → a ≤ 86 → I8 a = I a := fun a h1 h2 => (upI e8 a (by omega)).trans ((hX.2.1 a (by omega)).2.1.trans (h8 a h1 h2))
      have h3k : ∀ k, k ≠ 0 → I8 83 k = I 83 k := fun k hk => (congrFun (congrFun e8 83) k).trans ((upd2_ne (.inr hk)).trans ((congrFun (hX.2.1 83 (by omega)).2.1 k).trans (h3k k hk)))
      have hg := (hg.gx hX (by omega)).skip e8 (by decide)
      have hday : I8 83 1 = I 83 1 := (congrFun (congrFun e8 83) 1).trans ((upd2_ne (.inr (by decide))).trans ((congrFun (hX.2.1 83 (by omega)).2.1 1).trans hday))
      have hRb : ∀ a, a < n → R a = R a := fun a ha => (hX.2.1 a (by omega)).2.2.trans (hRb a ha)
      have hb83 : ∀ a, a ≠ 83 → a < n → I8 a = I a := fun a ha hb => (upI e8 a ha).trans ((hX.2.1 a (by omega)).2.1.trans (hb83 a ha hb))
      have hS0 := hS
      have hR0 := hR1
      have ht_b5 := (hX.2.1 _ hb_b5).1.trans ht_b5
      have hb_b5 := Nat.lt_of_lt_of_le hb_b5 hX.1
      have hb0_b5 := hb_b5
      have hn := Nat.le_refl n
      have h94 := hS0.1
      have hX := @yX.rf n tg I8 R
      have hS := hS0.x hX
      have hR := hR0.x hn hX
      have hz := hX.sz h94
      have hxn := hX.1
      have hw_b5 := hR.sal hlo_b5 hb0_b5 ((hX.2.1 _ hb_b5).1.trans ht_b5)
      have hN := hR0.1
      have hnb := hR0.2.2.2.2.2.2
      have hthB := hth
      refine y_aload_n rfl rfl ?_
      refine y_getIv (v := Int32.ofInt (2)) rfl (ySh.t hS rfl) (ySh.n hS rfl) rfl rfl hth ?_
      refine y_if_leF rfl (by decide) ?_
      refine y_iconst rfl ?_
      refine y_goto rfl j_X14_refuse_28 ?_
      refine y_ireturn rfl rfl rfl ?_
      refine y_ret1 ?_
      refine y_if_eqF rfl (by decide) ?_
      refine y_iconst rfl ?_
      refine y_ireturn rfl rfl rfl ?_
      first | (exfalso; omega) | (exact hQ2 _ eb_b5 (by omega) _ _ _ _ _ _ _ hS ((hR0.grow hX).up (Nat.le_succ K) hk6) (hK.x hRo hno hX) hth (hg.gx hX (by omega)) ((hB.trans hX).rf2 (by omega)) (by omega) (by omega))
    · refine y_aload_n rfl rfl ?_
      refine y_getIv (v := I b5 7) rfl ((hX.2.1 _ hb_b5).1.trans ht_b5) (Nat.lt_of_lt_of_le hb_b5 hX.1) rfl rfl (congrFun ((hg.gx hX (by omega)) _ hlo_b5 (by omega)) 7) ?_
      refine y_aload_n rfl rfl ?_
      refine y_getIv (v := I b5 4) rfl ((hX.2.1 _ hb_b5).1.trans ht_b5) (Nat.lt_of_lt_of_le hb_b5 hX.1) rfl rfl (congrFun ((hg.gx hX (by omega)) _ hlo_b5 (by omega)) 4) ?_
      refine y_icmp_ge rfl j_X11_isOpen_22 (fun h_9 => ?_) (fun h_10 => ?_)
      · refine y_iconst rfl ?_
        refine y_ireturn rfl rfl rfl ?_
        refine y_ret1 ?_
        refine y_if_neF rfl (by decide) ?_
        refine y_iconst rfl ?_
        refine y_goto rfl j_X14_pay_53 ?_
        refine y_iconst rfl ?_
        refine y_virt rfl rfl rfl rfl rfl (ySh.t hS rfl) (ySh.n hS rfl) ?_
        refine y_in (M := xm_X14_refuse) (ls := [some _, some _, some _]) rfl rfl rfl ?_
        refine y_iload_n rfl rfl ?_
        refine y_if_eqF rfl (by decide) ?_
        refine y_aload_n rfl rfl ?_
        refine y_getIv (v := Int32.ofInt (0)) rfl (ySh.t hS rfl) (ySh.n hS rfl) rfl rfl hth ?_
        refine y_if_neF rfl (by decide) ?_
        refine y_aload_n rfl rfl ?_
        refine y_iload_n rfl rfl ?_
        refine y_putI rfl (ySh.t hS rfl) (ySh.n hS rfl) rfl (Nat.le_of_ble_eq_true rfl) rfl rfl ?_
        refine y_nameI (fun I11 e11 => ?_)
        have hR1 := (hR0.grow hX).mod0 e11 (by decide) (by decide)
        have hK := (hK.x hRo hno hX).upI (upI e11) (by decide) (by decide) (fun i hi => by have := (hRo.l87.2.2.2.2 i hi).2.1; omega) (by rw [e11, upd2_ne (.inr (by decide))]; exact Int.le_refl _)
        have hth : I11 83 0 = Int32.ofInt (2) := by rw [e11, upd2_self]
        have hzz : ySz8 I4 I11 := ySz8_of (upI e11) (by rw [e11]; exact ⟨upd2_ne (.inr (by decide)), upd2_ne (.inr (by decide))⟩)
        have hB := (hB.trans hX).wr e11 rfl
        have h8 : ∀ a, 84 ≤ a → a ≤ 86 → I11 a = I a := fun a h1 h2 => (upI e11 a (by omega)).trans ((hX.2.1 a (by omega)).2.1.trans (h8 a h1 h2))
        have h3k : ∀ k, k ≠ 0 → I11 83 k = I 83 k := fun k hk => (congrFun (congrFun e11 83) k).trans ((upd2_ne (.inr hk)).trans ((congrFun (hX.2.1 83 (by omega)).2.1 k).trans (h3k k hk)))
        have hg := (hg.gx hX (by omega)).skip e11 (by decide)
        have hday : I11 83 1 = I 83 1 := (congrFun (congrFun e11 83) 1).trans ((upd2_ne (.inr (by decide))).trans ((congrFun (hX.2.1 83 (by omega)).2.1 1).trans hday))
        have hRb : ∀ a, a < n → R a = R a := fun a ha => (hX.2.1 a (by omega)).2.2.trans (hRb a ha)
        have hb83 : ∀ a, a ≠ 83 → a < n → I11 a = I a := fun a ha hb => (upI e11 a ha).trans ((hX.2.1 a (by omega)).2.1.trans (hb83 a ha hb))
        have hS0 := hS
        have hR0 := hR1
        have ht_b5 := (hX.2.1 _ hb_b5).1.trans ht_b5
        have hb_b5 := Nat.lt_of_lt_of_le hb_b5 hX.1
        have hb0_b5 := hb_b5
        have hn := Nat.le_refl n
        have h94 := hS0.1
        have hX := @yX.rf n tg I11 R
        have hS := hS0.x hX
        have hR := hR0.x hn hX
        have hz := hX.sz h94
        have hxn := hX.1
        have hw_b5 := hR.sal hlo_b5 hb0_b5 ((hX.2.1 _ hb_b5).1.trans ht_b5)
        have hN := hR0.1
        have hnb := hR0.2.2.2.2.2.2
        have hthB := hth
        refine y_aload_n rfl rfl ?_
        refine y_getIv (v := Int32.ofInt (2)) rfl (ySh.t hS rfl) (ySh.n hS rfl) rfl rfl hth ?_
        refine y_if_leF rfl (by decide) ?_
        refine y_iconst rfl ?_
        refine y_goto rfl j_X14_refuse_28 ?_
        refine y_ireturn rfl rfl rfl ?_
        refine y_ret1 ?_
        refine y_if_eqF rfl (by decide) ?_
        refine y_iconst rfl ?_
        refine y_ireturn rfl rfl rfl ?_
        first | (exfalso; omega) | (exact hQ2 _ eb_b5 (by omega) _ _ _ _ _ _ _ hS ((hR0.grow hX).up (Nat.le_succ K) hk6) (hK.x hRo hno hX) hth (hg.gx hX (by omega)) ((hB.trans hX).rf2 (by omega)) (by omega) (by omega))
      · refine y_iconst rfl ?_
        refine y_goto rfl j_X11_isOpen_23 ?_
        refine y_ireturn rfl rfl rfl ?_
        refine y_ret1 ?_
        refine y_if_neT rfl j_X14_pay_52 (by decide) ?_
        refine y_iconst rfl ?_
        refine y_iconst rfl ?_
        refine y_virt rfl rfl rfl rfl rfl (ySh.t hS rfl) (ySh.n hS rfl) ?_
        refine y_in (M := xm_X14_refuse) (ls := [some _, some _, some _]) rfl rfl rfl ?_
        refine y_iload_n rfl rfl ?_
        refine y_if_eqT rfl j_X14_refuse_16 (by decide) ?_
        refine y_aload_n rfl rfl ?_
        refine y_getIv (v := Int32.ofInt (0)) rfl (ySh.t hS rfl) (ySh.n hS rfl) rfl rfl hth ?_
        refine y_if_leT rfl j_X14_refuse_27 (by decide) ?_
        refine y_iconst rfl ?_
        refine y_ireturn rfl rfl rfl ?_
        refine y_ret1 ?_
        refine y_if_eqT rfl j_X14_pay_62 (by decide) ?_
        refine y_aload_n rfl rfl ?_
        refine y_getR rfl (ySh.t hS rfl) (ySh.n hS rfl) rfl rfl (ySh.r hS rfl) ?_
        refine y_iload_n rfl rfl ?_
        refine y_virt rfl rfl rfl rfl rfl (ySh.t hS rfl) (ySh.n hS rfl) ?_
        refine l_get (nb := n) (ySh.t hS rfl) (ySh.n hS rfl) (Nat.le_trans hn hX.1) hR.l89 (by omega) (by omega) (fun c12 eb_c12 _ _ _ => ?_)
        rw [show c12 = b5 from eb_c12.trans eb_b5.symm]
        refine y_ret1 ?_
        refine y_cast rfl ((hX.2.1 _ hb_b5).1.trans ht_b5) (Nat.lt_of_lt_of_le hb_b5 hX.1) ?_
        refine y_astore_n (ls' := [some _, some _, some _, _, _, _, _]) rfl rfl rfl ?_
        refine y_aload_n rfl rfl ?_
        refine y_aload_n rfl rfl ?_
        refine y_getIv (v := I b5 7) rfl ((hX.2.1 _ hb_b5).1.trans ht_b5) (Nat.lt_of_lt_of_le hb_b5 hX.1) rfl rfl (congrFun ((hg.gx hX (by omega)) _ hlo_b5 (by omega)) 7) ?_
        refine y_virt rfl rfl rfl rfl rfl ((hX.2.1 _ hb_b5).1.trans ht_b5) (Nat.lt_of_lt_of_le hb_b5 hX.1) ?_
        have hrow : I4 b5 = I b5 := (hg.gx hX (by omega)) _ hlo_b5 (by omega)
        refine s_part hS hR (Nat.le_trans hn hX.1) hlo_b5 hb0_b5 ((hX.2.1 _ hb_b5).1.trans ht_b5) (by omega) (by omega) (fun v_13 hv_13 => ?_)
        rw [hrow] at hv_13
        refine y_ret1 ?_
        refine y_istore_n (ls' := [some _, some _, some _, some _, _, _, _]) rfl rfl rfl ?_
        refine y_aload_n rfl rfl ?_
        refine y_getIv (v := I 83 1) rfl (ySh.t hS rfl) (ySh.n hS rfl) rfl rfl ((congrFun (hX.2.1 83 (by omega)).2.1 1).trans hday) ?_
        refine y_aload_n rfl rfl ?_
        refine y_virt rfl rfl rfl rfl rfl ((hX.2.1 _ hb_b5).1.trans ht_b5) (Nat.lt_of_lt_of_le hb_b5 hX.1) ?_
        refine y_in (M := xm_X11_due) (ls := [some _]) rfl rfl rfl ?_
        refine y_aload_n rfl rfl ?_
        refine y_getIv (v := I b5 6) rfl ((hX.2.1 _ hb_b5).1.trans ht_b5) (Nat.lt_of_lt_of_le hb_b5 hX.1) rfl rfl (congrFun ((hg.gx hX (by omega)) _ hlo_b5 (by omega)) 6) ?_
        refine y_bip rfl (by decide) ?_
        refine y_aload_n rfl rfl ?_
        refine y_getIv (v := I b5 7) rfl ((hX.2.1 _ hb_b5).1.trans ht_b5) (Nat.lt_of_lt_of_le hb_b5 hX.1) rfl rfl (congrFun ((hg.gx hX (by omega)) _ hlo_b5 (by omega)) 7) ?_
        refine y_iconst rfl ?_
        refine y_iadd rfl ?_
        refine y_imul rfl ?_
        refine y_iadd rfl ?_
        refine y_ireturn rfl rfl rfl ?_
        refine y_ret1 ?_
        refine y_isub rfl ?_
        refine y_istore (ls' := [some _, some _, some _, some _, some _, _, _]) rfl rfl rfl ?_
        refine y_iload rfl rfl ?_
        refine y_bip rfl (by decide) ?_
        refine y_icmp_le rfl j_X14_pay_126 (fun h_14 => ?_) (fun h_15 => ?_)
        · rw [yz_10] at h_14
          refine y_iconst rfl ?_
          refine y_istore (ls' := [some _, some _, some _, some _, some _, some _, _]) rfl rfl rfl ?_
          refine y_iload rfl rfl ?_
          refine y_bip rfl (by decide) ?_
          refine y_icmp_gt rfl j_X14_pay_167 (fun h_16 => ?_) (fun h_17 => ?_)
          · rw [yz_m10] at h_16
            refine y_iconst rfl ?_
            refine y_istore (ls' := [some _, some _, some _, some _, some _, some _, some _]) rfl rfl rfl ?_
            refine y_aload_n rfl rfl ?_
            refine y_dup rfl rfl ?_
            refine y_getIv (v := I b5 7) rfl ((hX.2.1 _ hb_b5).1.trans ht_b5) (Nat.lt_of_lt_of_le hb_b5 hX.1) rfl rfl (congrFun ((hg.gx hX (by omega)) _ hlo_b5 (by omega)) 7) ?_
            refine y_iconst rfl ?_
            refine y_iadd rfl ?_
            refine y_putI rfl ((hX.2.1 _ hb_b5).1.trans ht_b5) (Nat.lt_of_lt_of_le hb_b5 hX.1) rfl (Nat.le_trans (by decide) (by omega : 94 ≤ _)) rfl rfl ?_
            refine y_nameI (fun I18 e18 => ?_)
            have hR1 := (hR0.grow hX).upS e18 hlo_b5 (by omega) ((hX.2.1 _ hb_b5).1.trans ht_b5) (by decide)
            have hK := (hK.x hRo hno hX).upE hRo hno (upI e18) (by omega) (by omega) (by rw [((hX.2.1 _ hb_b5).1.trans ht_b5)]; decide) (by rw [e18, upd2_ne (.inl (by omega))]; exact Int.le_refl _)
            have hth := (show I18 83 0 = I4 83 0 by rw [e18, upd2_ne (.inl (by omega))]).trans hth
            have hzz : ySz I4 I18 := ySz_ofE (upI e18) (by omega)
            have hB := (hB.trans hX).wr e18 rfl
            have h8 : ∀ a, 84 ≤ a → a ≤ 86 → I18 a = I a := fun a h1 h2 => (upI e18 a (by omega)).trans ((hX.2.1 a (by omega)).2.1.trans (h8 a h1 h2))
            have h3k : ∀ k, k ≠ 0 → I18 83 k = I 83 k := fun k hk => (congrFun (congrFun e18 83) k).trans ((upd2_ne (.inl (by omega))).trans ((congrFun (hX.2.1 83 (by omega)).2.1 k).trans (h3k k hk)))
            have hg := (hg.gx hX (by omega)).both e18
            have hday : I18 83 1 = I 83 1 := (congrFun (congrFun e18 83) 1).trans ((upd2_ne (.inl (by omega))).trans ((congrFun (hX.2.1 83 (by omega)).2.1 1).trans hday))
            have hRb : ∀ a, a < n → R a = R a := fun a ha => (hX.2.1 a (by omega)).2.2.trans (hRb a ha)
            have hS0 := hS
            have hR0 := hR1
            have ht_b5 := (hX.2.1 _ hb_b5).1.trans ht_b5
            have hb_b5 := Nat.lt_of_lt_of_le hb_b5 hX.1
            have hb0_b5 := hb_b5
            have hn := Nat.le_refl n
            have h94 := hS0.1
            have hX := @yX.rf n tg I18 R
            have hS := hS0.x hX
            have hR := hR0.x hn hX
            have hz := hX.sz h94
            have hxn := hX.1
            have hw_b5 := hR.sal hlo_b5 hb0_b5 ((hX.2.1 _ hb_b5).1.trans ht_b5)
            have hN := hR0.1
            have hnb := hR0.2.2.2.2.2.2
            have hthB := hth
            refine y_aload_n rfl rfl ?_
            refine y_dup rfl rfl ?_
            refine y_getIv (v := I b5 8) rfl ((hX.2.1 _ hb_b5).1.trans ht_b5) (Nat.lt_of_lt_of_le hb_b5 hX.1) rfl rfl ((congrFun ((hg.gx hX (by omega)) _ hlo_b5 (by omega)) 8).trans (by rw [upd2_ne (.inr (by decide))])) ?_
            refine y_iload rfl rfl ?_
            refine y_iadd rfl ?_
            refine y_putI rfl ((hX.2.1 _ hb_b5).1.trans ht_b5) (Nat.lt_of_lt_of_le hb_b5 hX.1) rfl (Nat.le_trans (by decide) (by omega : 94 ≤ _)) rfl rfl ?_
            refine y_nameI (fun I19 e19 => ?_)
            have hR1 := (hR0.grow hX).upS e19 hlo_b5 (by omega) ((hX.2.1 _ hb_b5).1.trans ht_b5) (by decide)
            have hK := (hK.x hRo hno hX).upE hRo hno (upI e19) (by omega) (by omega) (by rw [((hX.2.1 _ hb_b5).1.trans ht_b5)]; decide) (by rw [e19, upd2_ne (.inl (by omega))]; exact Int.le_refl _)
            have hth := (show I19 83 0 = I18 83 0 by rw [e19, upd2_ne (.inl (by omega))]).trans hth
            have hzz : ySz I18 I19 := ySz_ofE (upI e19) (by omega)
            have hB := (hB.trans hX).wr e19 rfl
            have h8 : ∀ a, 84 ≤ a → a ≤ 86 → I19 a = I a := fun a h1 h2 => (upI e19 a (by omega)).trans ((hX.2.1 a (by omega)).2.1.trans (h8 a h1 h2))
            have h3k : ∀ k, k ≠ 0 → I19 83 k = I 83 k := fun k hk => (congrFun (congrFun e19 83) k).trans ((upd2_ne (.inl (by omega))).trans ((congrFun (hX.2.1 83 (by omega)).2.1 k).trans (h3k k hk)))
            have hg := (hg.gx hX (by omega)).both e19
            have hday : I19 83 1 = I 83 1 := (congrFun (congrFun e19 83) 1).trans ((upd2_ne (.inl (by omega))).trans ((congrFun (hX.2.1 83 (by omega)).2.1 1).trans hday))
            have hRb : ∀ a, a < n → R a = R a := fun a ha => (hX.2.1 a (by omega)).2.2.trans (hRb a ha)
            have hS0 := hS
            have hR0 := hR1
            have ht_b5 := (hX.2.1 _ hb_b5).1.trans ht_b5
            have hb_b5 := Nat.lt_of_lt_of_le hb_b5 hX.1
            have hb0_b5 := hb_b5
            have hn := Nat.le_refl n
            have h94 := hS0.1
            have hX := @yX.rf n tg I19 R
            have hS := hS0.x hX
            have hR := hR0.x hn hX
            have hz := hX.sz h94
            have hxn := hX.1
            have hw_b5 := hR.sal hlo_b5 hb0_b5 ((hX.2.1 _ hb_b5).1.trans ht_b5)
            have hN := hR0.1
            have hnb := hR0.2.2.2.2.2.2
            have hthB := hth
            refine y_aload_n rfl rfl ?_
            refine y_dup rfl rfl ?_
            refine y_getIv (v := I b5 9) rfl ((hX.2.1 _ hb_b5).1.trans ht_b5) (Nat.lt_of_lt_of_le hb_b5 hX.1) rfl rfl ((congrFun ((hg.gx hX (by omega)) _ hlo_b5 (by omega)) 9).trans (by rw [upd2_ne (.inr (by decide)), upd2_ne (.inr (by decide))])) ?_
            refine y_iload rfl rfl ?_
            refine y_iadd rfl ?_
            refine y_putI rfl ((hX.2.1 _ hb_b5).1.trans ht_b5) (Nat.lt_of_lt_of_le hb_b5 hX.1) rfl (Nat.le_trans (by decide) (by omega : 94 ≤ _)) rfl rfl ?_
            refine y_nameI (fun I20 e20 => ?_)
            have hR1 := (hR0.grow hX).upS e20 hlo_b5 (by omega) ((hX.2.1 _ hb_b5).1.trans ht_b5) (by decide)
            have hK := (hK.x hRo hno hX).upE hRo hno (upI e20) (by omega) (by omega) (by rw [((hX.2.1 _ hb_b5).1.trans ht_b5)]; decide) (by rw [e20, upd2_ne (.inl (by omega))]; exact Int.le_refl _)
            have hth := (show I20 83 0 = I19 83 0 by rw [e20, upd2_ne (.inl (by omega))]).trans hth
            have hzz : ySz I19 I20 := ySz_ofE (upI e20) (by omega)
            have hB := (hB.trans hX).wr e20 rfl
            have h8 : ∀ a, 84 ≤ a → a ≤ 86 → I20 a = I a := fun a h1 h2 => (upI e20 a (by omega)).trans ((hX.2.1 a (by omega)).2.1.trans (h8 a h1 h2))
            have h3k : ∀ k, k ≠ 0 → I20 83 k = I 83 k := fun k hk => (congrFun (congrFun e20 83) k).trans ((upd2_ne (.inl (by omega))).trans ((congrFun (hX.2.1 83 (by omega)).2.1 k).trans (h3k k hk)))
            have hg := (hg.gx hX (by omega)).both e20
            have hday : I20 83 1 = I 83 1 := (congrFun (congrFun e20 83) 1).trans ((upd2_ne (.inl (by omega))).trans ((congrFun (hX.2.1 83 (by omega)).2.1 1).trans hday))
            have hRb : ∀ a, a < n → R a = R a := fun a ha => (hX.2.1 a (by omega)).2.2.trans (hRb a ha)
            have hS0 := hS
            have hR0 := hR1
            have ht_b5 := (hX.2.1 _ hb_b5).1.trans ht_b5
            have hb_b5 := Nat.lt_of_lt_of_le hb_b5 hX.1
            have hb0_b5 := hb_b5
            have hn := Nat.le_refl n
            have h94 := hS0.1
            have hX := @yX.rf n tg I20 R
            have hS := hS0.x hX
            have hR := hR0.x hn hX
            have hz := hX.sz h94
            have hxn := hX.1
            have hw_b5 := hR.sal hlo_b5 hb0_b5 ((hX.2.1 _ hb_b5).1.trans ht_b5)
            have hN := hR0.1
            have hnb := hR0.2.2.2.2.2.2
            have hthB := hth
            refine y_aload_n rfl rfl ?_
            refine y_dup rfl rfl ?_
            refine y_getIv (v := I 83 2) rfl (ySh.t hS rfl) (ySh.n hS rfl) rfl rfl ((congrFun ((hB.trans hX).n (by omega : 83 < n)) 2).trans (by repeat (first | rfl | rw [upd2_ne (by first | exact .inl (by omega) | exact .inr (by decide))]))) ?_
            refine y_iload rfl rfl ?_
            refine y_iadd rfl ?_
            refine y_putI rfl (ySh.t hS rfl) (ySh.n hS rfl) rfl (Nat.le_of_ble_eq_true rfl) rfl rfl ?_
            refine y_nameI (fun I21 e21 => ?_)
            have hR1 := (hR0.grow hX).mod0 e21 (by decide) (by decide)
            have hK := (hK.x hRo hno hX).upI (upI e21) (by decide) (by decide) (fun i hi => by have := (hRo.l87.2.2.2.2 i hi).2.1; omega) (by rw [e21, upd2_ne (.inr (by decide))]; exact Int.le_refl _)
            have hth := (show I21 83 0 = I20 83 0 by rw [e21, upd2_ne (.inr (by decide))]).trans hth
            have hzz : ySz I20 I21 := ySz_ofM (upI e21) (by rw [e21]; exact ⟨upd2_ne (.inr (by decide)), upd2_ne (.inr (by decide)), upd2_ne (.inr (by decide))⟩)
            have hB := (hB.trans hX).wr e21 rfl
            have h8 : ∀ a, 84 ≤ a → a ≤ 86 → I21 a = I a := fun a h1 h2 => (upI e21 a (by omega)).trans ((hX.2.1 a (by omega)).2.1.trans (h8 a h1 h2))
            have hg := (hg.gx hX (by omega)).skip e21 (by decide)
            have hday : I21 83 1 = I 83 1 := (congrFun (congrFun e21 83) 1).trans ((upd2_ne (.inr (by decide))).trans ((congrFun (hX.2.1 83 (by omega)).2.1 1).trans hday))
            have hRb : ∀ a, a < n → R a = R a := fun a ha => (hX.2.1 a (by omega)).2.2.trans (hRb a ha)
            have hS0 := hS
            have hR0 := hR1
            have ht_b5 := (hX.2.1 _ hb_b5).1.trans ht_b5
            have hb_b5 := Nat.lt_of_lt_of_le hb_b5 hX.1
            have hb0_b5 := hb_b5
            have hn := Nat.le_refl n
            have h94 := hS0.1
            have hX := @yX.rf n tg I21 R
            have hS := hS0.x hX
            have hR := hR0.x hn hX
            have hz := hX.sz h94
            have hxn := hX.1
            have hw_b5 := hR.sal hlo_b5 hb0_b5 ((hX.2.1 _ hb_b5).1.trans ht_b5)
            have hN := hR0.1
            have hnb := hR0.2.2.2.2.2.2
            have hthB := hth
            refine y_aload_n rfl rfl ?_
            refine y_getR rfl (ySh.t hS rfl) (ySh.n hS rfl) rfl rfl (ySh.r hS rfl) ?_
            refine y_aload_n rfl rfl ?_
            refine y_getIv (v := I b5 1) rfl ((hX.2.1 _ hb_b5).1.trans ht_b5) (Nat.lt_of_lt_of_le hb_b5 hX.1) rfl rfl ((congrFun ((hg.gx hX (by omega)) _ hlo_b5 (by omega)) 1).trans (by rw [upd2_ne (.inr (by decide)), upd2_ne (.inr (by decide)), upd2_ne (.inr (by decide))])) ?_
            refine y_dup2 rfl rfl rfl ?_
            refine y_ialoadv (J := I 84) rfl (ySh.t hS rfl) (ySh.n hS rfl) (by omega) (by omega) (((hB.trans hX).n (by omega)).trans (by repeat (first | rfl | (rw [upd2_row (by first | decide | omega)]) | refine upd2_cg ?_))) ?_
            refine y_iload_n rfl rfl ?_
            refine y_iload rfl rfl ?_
            refine y_isub rfl ?_
            refine y_iload rfl rfl ?_
            refine y_iadd rfl ?_
            refine y_isub rfl ?_
            refine y_iastore rfl (ySh.t hS rfl) (ySh.n hS rfl) (Nat.le_of_ble_eq_true rfl) (by omega) (by omega) ?_
            refine y_nameI (fun I22 e22 => ?_)
            have hR1 := (hR0.grow hX).arr e22 (by decide)
            have hK := (hK.x hRo hno hX).upI (upI e22) (by decide) (by decide) (fun i hi => by have := (hRo.l87.2.2.2.2 i hi).2.1; omega) (by rw [e22, upd2_ne (.inl (by omega))]; exact Int.le_refl _)
            have hth := (show I22 83 0 = I21 83 0 by rw [e22, upd2_ne (.inl (by omega))]).trans hth
            have hzz : ySz I21 I22 := ySz_ofE (upI e22) (by omega)
            have hB := (hB.trans hX).wr e22 rfl
            have hg := (hg.gx hX (by omega)).skip e22 (by decide)
            have hday : I22 83 1 = I 83 1 := (congrFun (congrFun e22 83) 1).trans ((upd2_ne (.inl (by omega))).trans ((congrFun (hX.2.1 83 (by omega)).2.1 1).trans hday))
            have hRb : ∀ a, a < n → R a = R a := fun a ha => (hX.2.1 a (by omega)).2.2.trans (hRb a ha)
            have hS0 := hS
            have hR0 := hR1
            have ht_b5 := (hX.2.1 _ hb_b5).1.trans ht_b5
            have hb_b5 := Nat.lt_of_lt_of_le hb_b5 hX.1
            have hb0_b5 := hb_b5
            have hn := Nat.le_refl n
            have h94 := hS0.1
            have hX := @yX.rf n tg I22 R
            have hS := hS0.x hX
            have hR := hR0.x hn hX
            have hz := hX.sz h94
            have hxn := hX.1
            have hw_b5 := hR.sal hlo_b5 hb0_b5 ((hX.2.1 _ hb_b5).1.trans ht_b5)
            have hN := hR0.1
            have hnb := hR0.2.2.2.2.2.2
            have hthB := hth
            refine y_aload_n rfl rfl ?_
            refine y_getR rfl (ySh.t hS rfl) (ySh.n hS rfl) rfl rfl (ySh.r hS rfl) ?_
            refine y_bip rfl (by decide) ?_
            refine y_dup2 rfl rfl rfl ?_
            refine y_ialoadw (j := 8) (J := _) rfl (ySh.t hS rfl) (ySh.n hS rfl) (by decide) (by decide) rfl ((hB.trans hX).n (by omega)) ?_
            refine y_iload_n rfl rfl ?_
            refine y_iload rfl rfl ?_
            refine y_isub rfl ?_
            refine y_iadd rfl ?_
            refine y_iastoreC (j := 8) rfl (ySh.t hS rfl) (ySh.n hS rfl) (Nat.le_of_ble_eq_true rfl) (by decide) (by decide) rfl ?_
            refine y_nameI (fun I23 e23 => ?_)
            have hR1 := (hR0.grow hX).arr e23 (by decide)
            have hK := (hK.x hRo hno hX).upI (upI e23) (by decide) (by decide) (fun i hi => by have := (hRo.l87.2.2.2.2 i hi).2.1; omega) (by rw [e23, upd2_ne (.inl (by omega))]; exact Int.le_refl _)
            have hth := (show I23 83 0 = I22 83 0 by rw [e23, upd2_ne (.inl (by omega))]).trans hth
            have hzz : ySz I22 I23 := ySz_ofE (upI e23) (by omega)
            have hB := (hB.trans hX).wr e23 rfl
            have hg := (hg.gx hX (by omega)).skip e23 (by decide)
            have hday : I23 83 1 = I 83 1 := (congrFun (congrFun e23 83) 1).trans ((upd2_ne (.inl (by omega))).trans ((congrFun (hX.2.1 83 (by omega)).2.1 1).trans hday))
            have hRb : ∀ a, a < n → R a = R a := fun a ha => (hX.2.1 a (by omega)).2.2.trans (hRb a ha)
            have hS0 := hS
            have hR0 := hR1
            have ht_b5 := (hX.2.1 _ hb_b5).1.trans ht_b5
            have hb_b5 := Nat.lt_of_lt_of_le hb_b5 hX.1
            have hb0_b5 := hb_b5
            have hn := Nat.le_refl n
            have h94 := hS0.1
            have hX := @yX.rf n tg I23 R
            have hS := hS0.x hX
            have hR := hR0.x hn hX
            have hz := hX.sz h94
            have hxn := hX.1
            have hw_b5 := hR.sal hlo_b5 hb0_b5 ((hX.2.1 _ hb_b5).1.trans ht_b5)
            have hN := hR0.1
            have hnb := hR0.2.2.2.2.2.2
            have hthB := hth
            refine y_iload_n rfl rfl ?_
            refine y_iload rfl rfl ?_
            refine y_isub rfl ?_
            refine y_ireturn rfl rfl rfl ?_
            first | (exfalso; omega) | (exact hQ0 _ eb_b5 _ hv_13 _ (show Int32.ofInt 0 = yFe (I 83 1 - (I b5 6 + Int32.ofInt 30 * (I b5 7 + Int32.ofInt 1))) v_13 al2 from (if_neg (by omega)).symm) _ (show Int32.ofInt 0 = yRb (I 83 1 - (I b5 6 + Int32.ofInt 30 * (I b5 7 + Int32.ofInt 1))) v_13 (I b5 3) al1 from (if_neg (by omega)).symm) (by omega) _ _ _ _ _ _ _ hS ((hR0.grow hX).up (Nat.le_succ K) hk6) (hK.x hRo hno hX) hth rfl (hg.gx hX (by omega)) (hB.trans hX) (by omega) (by omega))
          · rw [yz_m10] at h_17
            refine y_aload_n rfl rfl ?_
            refine y_iconst rfl ?_
            refine y_aload_n rfl rfl ?_
            refine y_getIv (v := I 83 1) rfl (ySh.t hS rfl) (ySh.n hS rfl) rfl rfl ((congrFun (hX.2.1 83 (by omega)).2.1 1).trans hday) ?_
            refine y_virt rfl rfl rfl rfl rfl (ySh.t hS rfl) (ySh.n hS rfl) ?_
            have hal_c : ySum (fun j => yHv I4 R (Int32.ofInt 1).toInt j (I4 87 2).toInt.toNat) 5 = al1 := (ySum_eq fun j _ => yHv_kp (hK.x hRo hno hX)).trans hal1
            refine s_isAllowed hS hR (Nat.le_trans hn hX.1) (Int.le_of_eq (congrArg Int32.toInt ((congrFun (hX.2.1 83 (by omega)).2.1 1).trans hday))) (fun ha_24 n24 tg24 I24 R24 c_24 s_24 hX1 hc_24 hs_24 => ?_) (fun ha_25 n25 tg25 I25 R25 c_25 s_25 hX1 hc_25 hs_25 => ?_)
            · rw [hal_c] at ha_24
              have hnA := hX1.1
              have hX := hX.trans hX1
              have hS := hS0.x hX
              have hR := hR0.x hn hX
              have hz := hX.sz h94
              have hxn := hX.1
              have hw_b5 := hR.sal hlo_b5 hb0_b5 ((hX.2.1 _ hb_b5).1.trans ht_b5)
              have hth := (congrFun (hX1.2.1 83 (by omega)).2.1 0).trans hth
              refine y_ret1 ?_
              refine y_if_eqF rfl (by decide) ?_
              refine y_aload_n rfl rfl ?_
              refine y_getIv (v := I b5 3) rfl ((hX.2.1 _ hb_b5).1.trans ht_b5) (Nat.lt_of_lt_of_le hb_b5 hX.1) rfl rfl (congrFun ((hg.gx hX (by omega)) _ hlo_b5 (by omega)) 3) ?_
              refine y_iload_n rfl rfl ?_
              refine y_imul rfl ?_
              refine y_bip rfl (by decide) ?_
              refine y_aload_n rfl rfl ?_
              refine y_getIv (v := I b5 3) rfl ((hX.2.1 _ hb_b5).1.trans ht_b5) (Nat.lt_of_lt_of_le hb_b5 hX.1) rfl rfl (congrFun ((hg.gx hX (by omega)) _ hlo_b5 (by omega)) 3) ?_
              refine y_iadd rfl ?_
              refine y_idiv rfl (by first | decide | exact i32ne (by rw [yadd (by rw [yz_100]; omega) (by rw [yz_100]; omega), yz_100]; show _ ≠ (0 : Int); omega)) ?_
              refine y_iconst rfl ?_
              refine y_idiv rfl (by first | decide | exact i32ne (by rw [yadd (by rw [yz_100]; omega) (by rw [yz_100]; omega), yz_100]; show _ ≠ (0 : Int); omega)) ?_
              refine y_goto rfl j_X14_pay_168 ?_
              refine y_istore (ls' := [some _, some _, some _, some _, some _, some _, some _]) rfl rfl rfl ?_
              refine y_aload_n rfl rfl ?_
              refine y_dup rfl rfl ?_
              refine y_getIv (v := I b5 7) rfl ((hX.2.1 _ hb_b5).1.trans ht_b5) (Nat.lt_of_lt_of_le hb_b5 hX.1) rfl rfl (congrFun ((hg.gx hX (by omega)) _ hlo_b5 (by omega)) 7) ?_
              refine y_iconst rfl ?_
              refine y_iadd rfl ?_
              refine y_putI rfl ((hX.2.1 _ hb_b5).1.trans ht_b5) (Nat.lt_of_lt_of_le hb_b5 hX.1) rfl (Nat.le_trans (by decide) (by omega : 94 ≤ _)) rfl rfl ?_
              refine y_nameI (fun I26 e26 => ?_)
              have hR1 := (hR0.grow hX).upS e26 hlo_b5 (by omega) ((hX.2.1 _ hb_b5).1.trans ht_b5) (by decide)
              have hK := (hK.x hRo hno hX).upE hRo hno (upI e26) (by omega) (by omega) (by rw [((hX.2.1 _ hb_b5).1.trans ht_b5)]; decide) (by rw [e26, upd2_ne (.inl (by omega))]; exact Int.le_refl _)
              have hth := (show I26 83 0 = I24 83 0 by rw [e26, upd2_ne (.inl (by omega))]).trans hth
              have hzz : ySz I24 I26 := ySz_ofE (upI e26) (by omega)
              have hB := (hB.trans hX).wr e26 rfl
              have h8 : ∀ a, 84 ≤ a → a ≤ 86 → I26 a = I a := fun a h1 h2 => (upI e26 a (by omega)).trans ((hX.2.1 a (by omega)).2.1.trans (h8 a h1 h2))
              have h3k : ∀ k, k ≠ 0 → I26 83 k = I 83 k := fun k hk => (congrFun (congrFun e26 83) k).trans ((upd2_ne (.inl (by omega))).trans ((congrFun (hX.2.1 83 (by omega)).2.1 k).trans (h3k k hk)))
              have hg := (hg.gx hX (by omega)).both e26
              have hday : I26 83 1 = I 83 1 := (congrFun (congrFun e26 83) 1).trans ((upd2_ne (.inl (by omega))).trans ((congrFun (hX.2.1 83 (by omega)).2.1 1).trans hday))
              have hRb : ∀ a, a < n → R24 a = R a := fun a ha => (hX.2.1 a (by omega)).2.2.trans (hRb a ha)
              have hS0 := hS
              have hR0 := hR1
              have ht_b5 := (hX.2.1 _ hb_b5).1.trans ht_b5
              have hb_b5 := Nat.lt_of_lt_of_le hb_b5 hX.1
              have hb0_b5 := hb_b5
              have hn := Nat.le_refl n24
              have h94 := hS0.1
              have hX := @yX.rf n24 tg24 I26 R24
              have hS := hS0.x hX
              have hR := hR0.x hn hX
              have hz := hX.sz h94
              have hxn := hX.1
              have hw_b5 := hR.sal hlo_b5 hb0_b5 ((hX.2.1 _ hb_b5).1.trans ht_b5)
              have hN := hR0.1
              have hnb := hR0.2.2.2.2.2.2
              have hthB := hth
              refine y_aload_n rfl rfl ?_
              refine y_dup rfl rfl ?_
              refine y_getIv (v := I b5 8) rfl ((hX.2.1 _ hb_b5).1.trans ht_b5) (Nat.lt_of_lt_of_le hb_b5 hX.1) rfl rfl ((congrFun ((hg.gx hX (by omega)) _ hlo_b5 (by omega)) 8).trans (by rw [upd2_ne (.inr (by decide))])) ?_
              refine y_iload rfl rfl ?_
              refine y_iadd rfl ?_
              refine y_putI rfl ((hX.2.1 _ hb_b5).1.trans ht_b5) (Nat.lt_of_lt_of_le hb_b5 hX.1) rfl (Nat.le_trans (by decide) (by omega : 94 ≤ _)) rfl rfl ?_
              refine y_nameI (fun I27 e27 => ?_)
              have hR1 := (hR0.grow hX).upS e27 hlo_b5 (by omega) ((hX.2.1 _ hb_b5).1.trans ht_b5) (by decide)
              have hK := (hK.x hRo hno hX).upE hRo hno (upI e27) (by omega) (by omega) (by rw [((hX.2.1 _ hb_b5).1.trans ht_b5)]; decide) (by rw [e27, upd2_ne (.inl (by omega))]; exact Int.le_refl _)
              have hth := (show I27 83 0 = I26 83 0 by rw [e27, upd2_ne (.inl (by omega))]).trans hth
              have hzz : ySz I26 I27 := ySz_ofE (upI e27) (by omega)
              have hB := (hB.trans hX).wr e27 rfl
              have h8 : ∀ a, 84 ≤ a → a ≤ 86 → I27 a = I a := fun a h1 h2 => (upI e27 a (by omega)).trans ((hX.2.1 a (by omega)).2.1.trans (h8 a h1 h2))
              have h3k : ∀ k, k ≠ 0 → I27 83 k = I 83 k := fun k hk => (congrFun (congrFun e27 83) k).trans ((upd2_ne (.inl (by omega))).trans ((congrFun (hX.2.1 83 (by omega)).2.1 k).trans (h3k k hk)))
              have hg := (hg.gx hX (by omega)).both e27
              have hday : I27 83 1 = I 83 1 := (congrFun (congrFun e27 83) 1).trans ((upd2_ne (.inl (by omega))).trans ((congrFun (hX.2.1 83 (by omega)).2.1 1).trans hday))
              have hRb : ∀ a, a < n → R24 a = R a := fun a ha => (hX.2.1 a (by omega)).2.2.trans (hRb a ha)
              have hS0 := hS
              have hR0 := hR1
              have ht_b5 := (hX.2.1 _ hb_b5).1.trans ht_b5
              have hb_b5 := Nat.lt_of_lt_of_le hb_b5 hX.1
              have hb0_b5 := hb_b5
              have hn := Nat.le_refl n24
              have h94 := hS0.1
              have hX := @yX.rf n24 tg24 I27 R24
              have hS := hS0.x hX
              have hR := hR0.x hn hX
              have hz := hX.sz h94
              have hxn := hX.1
              have hw_b5 := hR.sal hlo_b5 hb0_b5 ((hX.2.1 _ hb_b5).1.trans ht_b5)
              have hN := hR0.1
              have hnb := hR0.2.2.2.2.2.2
              have hthB := hth
              refine y_aload_n rfl rfl ?_
              refine y_dup rfl rfl ?_
              refine y_getIv (v := I b5 9) rfl ((hX.2.1 _ hb_b5).1.trans ht_b5) (Nat.lt_of_lt_of_le hb_b5 hX.1) rfl rfl ((congrFun ((hg.gx hX (by omega)) _ hlo_b5 (by omega)) 9).trans (by rw [upd2_ne (.inr (by decide)), upd2_ne (.inr (by decide))])) ?_
              refine y_iload rfl rfl ?_
              refine y_iadd rfl ?_
              refine y_putI rfl ((hX.2.1 _ hb_b5).1.trans ht_b5) (Nat.lt_of_lt_of_le hb_b5 hX.1) rfl (Nat.le_trans (by decide) (by omega : 94 ≤ _)) rfl rfl ?_
              refine y_nameI (fun I28 e28 => ?_)
              have hR1 := (hR0.grow hX).upS e28 hlo_b5 (by omega) ((hX.2.1 _ hb_b5).1.trans ht_b5) (by decide)
              have hK := (hK.x hRo hno hX).upE hRo hno (upI e28) (by omega) (by omega) (by rw [((hX.2.1 _ hb_b5).1.trans ht_b5)]; decide) (by rw [e28, upd2_ne (.inl (by omega))]; exact Int.le_refl _)
              have hth := (show I28 83 0 = I27 83 0 by rw [e28, upd2_ne (.inl (by omega))]).trans hth
              have hzz : ySz I27 I28 := ySz_ofE (upI e28) (by omega)
              have hB := (hB.trans hX).wr e28 rfl
              have h8 : ∀ a, 84 ≤ a → a ≤ 86 → I28 a = I a := fun a h1 h2 => (upI e28 a (by omega)).trans ((hX.2.1 a (by omega)).2.1.trans (h8 a h1 h2))
              have h3k : ∀ k, k ≠ 0 → I28 83 k = I 83 k := fun k hk => (congrFun (congrFun e28 83) k).trans ((upd2_ne (.inl (by omega))).trans ((congrFun (hX.2.1 83 (by omega)).2.1 k).trans (h3k k hk)))
              have hg := (hg.gx hX (by omega)).both e28
              have hday : I28 83 1 = I 83 1 := (congrFun (congrFun e28 83) 1).trans ((upd2_ne (.inl (by omega))).trans ((congrFun (hX.2.1 83 (by omega)).2.1 1).trans hday))
              have hRb : ∀ a, a < n → R24 a = R a := fun a ha => (hX.2.1 a (by omega)).2.2.trans (hRb a ha)
              have hS0 := hS
              have hR0 := hR1
              have ht_b5 := (hX.2.1 _ hb_b5).1.trans ht_b5
              have hb_b5 := Nat.lt_of_lt_of_le hb_b5 hX.1
              have hb0_b5 := hb_b5
              have hn := Nat.le_refl n24
              have h94 := hS0.1
              have hX := @yX.rf n24 tg24 I28 R24
              have hS := hS0.x hX
              have hR := hR0.x hn hX
              have hz := hX.sz h94
              have hxn := hX.1
              have hw_b5 := hR.sal hlo_b5 hb0_b5 ((hX.2.1 _ hb_b5).1.trans ht_b5)
              have hN := hR0.1
              have hnb := hR0.2.2.2.2.2.2
              have hthB := hth
              refine y_aload_n rfl rfl ?_
              refine y_dup rfl rfl ?_
              refine y_getIv (v := I 83 2) rfl (ySh.t hS rfl) (ySh.n hS rfl) rfl rfl ((congrFun ((hB.trans hX).n (by omega : 83 < n)) 2).trans (by repeat (first | rfl | rw [upd2_ne (by first | exact .inl (by omega) | exact .inr (by decide))]))) ?_
              refine y_iload rfl rfl ?_
              refine y_iadd rfl ?_
              refine y_putI rfl (ySh.t hS rfl) (ySh.n hS rfl) rfl (Nat.le_of_ble_eq_true rfl) rfl rfl ?_
              refine y_nameI (fun I29 e29 => ?_)
              have hR1 := (hR0.grow hX).mod0 e29 (by decide) (by decide)
              have hK := (hK.x hRo hno hX).upI (upI e29) (by decide) (by decide) (fun i hi => by have := (hRo.l87.2.2.2.2 i hi).2.1; omega) (by rw [e29, upd2_ne (.inr (by decide))]; exact Int.le_refl _)
              have hth := (show I29 83 0 = I28 83 0 by rw [e29, upd2_ne (.inr (by decide))]).trans hth
              have hzz : ySz I28 I29 := ySz_ofM (upI e29) (by rw [e29]; exact ⟨upd2_ne (.inr (by decide)), upd2_ne (.inr (by decide)), upd2_ne (.inr (by decide))⟩)
              have hB := (hB.trans hX).wr e29 rfl
              have h8 : ∀ a, 84 ≤ a → a ≤ 86 → I29 a = I a := fun a h1 h2 => (upI e29 a (by omega)).trans ((hX.2.1 a (by omega)).2.1.trans (h8 a h1 h2))
              have hg := (hg.gx hX (by omega)).skip e29 (by decide)
              have hday : I29 83 1 = I 83 1 := (congrFun (congrFun e29 83) 1).trans ((upd2_ne (.inr (by decide))).trans ((congrFun (hX.2.1 83 (by omega)).2.1 1).trans hday))
              have hRb : ∀ a, a < n → R24 a = R a := fun a ha => (hX.2.1 a (by omega)).2.2.trans (hRb a ha)
              have hS0 := hS
              have hR0 := hR1
              have ht_b5 := (hX.2.1 _ hb_b5).1.trans ht_b5
              have hb_b5 := Nat.lt_of_lt_of_le hb_b5 hX.1
              have hb0_b5 := hb_b5
              have hn := Nat.le_refl n24
              have h94 := hS0.1
              have hX := @yX.rf n24 tg24 I29 R24
              have hS := hS0.x hX
              have hR := hR0.x hn hX
              have hz := hX.sz h94
              have hxn := hX.1
              have hw_b5 := hR.sal hlo_b5 hb0_b5 ((hX.2.1 _ hb_b5).1.trans ht_b5)
              have hN := hR0.1
              have hnb := hR0.2.2.2.2.2.2
              have hthB := hth
              refine y_aload_n rfl rfl ?_
              refine y_getR rfl (ySh.t hS rfl) (ySh.n hS rfl) rfl rfl (ySh.r hS rfl) ?_
              refine y_aload_n rfl rfl ?_
              refine y_getIv (v := I b5 1) rfl ((hX.2.1 _ hb_b5).1.trans ht_b5) (Nat.lt_of_lt_of_le hb_b5 hX.1) rfl rfl ((congrFun ((hg.gx hX (by omega)) _ hlo_b5 (by omega)) 1).trans (by rw [upd2_ne (.inr (by decide)), upd2_ne (.inr (by decide)), upd2_ne (.inr (by decide))])) ?_
              refine y_dup2 rfl rfl rfl ?_
              refine y_ialoadv (J := I 84) rfl (ySh.t hS rfl) (ySh.n hS rfl) (by omega) (by omega) (((hB.trans hX).n (by omega)).trans (by repeat (first | rfl | (rw [upd2_row (by first | decide | omega)]) | refine upd2_cg ?_))) ?_
              refine y_iload_n rfl rfl ?_
              refine y_iload rfl rfl ?_
              refine y_isub rfl ?_
              refine y_iload rfl rfl ?_
              refine y_iadd rfl ?_
              refine y_isub rfl ?_
              refine y_iastore rfl (ySh.t hS rfl) (ySh.n hS rfl) (Nat.le_of_ble_eq_true rfl) (by omega) (by omega) ?_
              refine y_nameI (fun I30 e30 => ?_)
              have hR1 := (hR0.grow hX).arr e30 (by decide)
              have hK := (hK.x hRo hno hX).upI (upI e30) (by decide) (by decide) (fun i hi => by have := (hRo.l87.2.2.2.2 i hi).2.1; omega) (by rw [e30, upd2_ne (.inl (by omega))]; exact Int.le_refl _)
              have hth := (show I30 83 0 = I29 83 0 by rw [e30, upd2_ne (.inl (by omega))]).trans hth
              have hzz : ySz I29 I30 := ySz_ofE (upI e30) (by omega)
              have hB := (hB.trans hX).wr e30 rfl
              have hg := (hg.gx hX (by omega)).skip e30 (by decide)
              have hday : I30 83 1 = I 83 1 := (congrFun (congrFun e30 83) 1).trans ((upd2_ne (.inl (by omega))).trans ((congrFun (hX.2.1 83 (by omega)).2.1 1).trans hday))
              have hRb : ∀ a, a < n → R24 a = R a := fun a ha => (hX.2.1 a (by omega)).2.2.trans (hRb a ha)
              have hS0 := hS
              have hR0 := hR1
              have ht_b5 := (hX.2.1 _ hb_b5).1.trans ht_b5
              have hb_b5 := Nat.lt_of_lt_of_le hb_b5 hX.1
              have hb0_b5 := hb_b5
              have hn := Nat.le_refl n24
              have h94 := hS0.1
              have hX := @yX.rf n24 tg24 I30 R24
              have hS := hS0.x hX
              have hR := hR0.x hn hX
              have hz := hX.sz h94
              have hxn := hX.1
              have hw_b5 := hR.sal hlo_b5 hb0_b5 ((hX.2.1 _ hb_b5).1.trans ht_b5)
              have hN := hR0.1
              have hnb := hR0.2.2.2.2.2.2
              have hthB := hth
              refine y_aload_n rfl rfl ?_
              refine y_getR rfl (ySh.t hS rfl) (ySh.n hS rfl) rfl rfl (ySh.r hS rfl) ?_
              refine y_bip rfl (by decide) ?_
              refine y_dup2 rfl rfl rfl ?_
              refine y_ialoadw (j := 8) (J := _) rfl (ySh.t hS rfl) (ySh.n hS rfl) (by decide) (by decide) rfl ((hB.trans hX).n (by omega)) ?_
              refine y_iload_n rfl rfl ?_
              refine y_iload rfl rfl ?_
              refine y_isub rfl ?_
              refine y_iadd rfl ?_
              refine y_iastoreC (j := 8) rfl (ySh.t hS rfl) (ySh.n hS rfl) (Nat.le_of_ble_eq_true rfl) (by decide) (by decide) rfl ?_
              refine y_nameI (fun I31 e31 => ?_)
              have hR1 := (hR0.grow hX).arr e31 (by decide)
              have hK := (hK.x hRo hno hX).upI (upI e31) (by decide) (by decide) (fun i hi => by have := (hRo.l87.2.2.2.2 i hi).2.1; omega) (by rw [e31, upd2_ne (.inl (by omega))]; exact Int.le_refl _)
              have hth := (show I31 83 0 = I30 83 0 by rw [e31, upd2_ne (.inl (by omega))]).trans hth
              have hzz : ySz I30 I31 := ySz_ofE (upI e31) (by omega)
              have hB := (hB.trans hX).wr e31 rfl
              have hg := (hg.gx hX (by omega)).skip e31 (by decide)
              have hday : I31 83 1 = I 83 1 := (congrFun (congrFun e31 83) 1).trans ((upd2_ne (.inl (by omega))).trans ((congrFun (hX.2.1 83 (by omega)).2.1 1).trans hday))
              have hRb : ∀ a, a < n → R24 a = R a := fun a ha => (hX.2.1 a (by omega)).2.2.trans (hRb a ha)
              have hS0 := hS
              have hR0 := hR1
              have ht_b5 := (hX.2.1 _ hb_b5).1.trans ht_b5
              have hb_b5 := Nat.lt_of_lt_of_le hb_b5 hX.1
              have hb0_b5 := hb_b5
              have hn := Nat.le_refl n24
              have h94 := hS0.1
              have hX := @yX.rf n24 tg24 I31 R24
              have hS := hS0.x hX
              have hR := hR0.x hn hX
              have hz := hX.sz h94
              have hxn := hX.1
              have hw_b5 := hR.sal hlo_b5 hb0_b5 ((hX.2.1 _ hb_b5).1.trans ht_b5)
              have hN := hR0.1
              have hnb := hR0.2.2.2.2.2.2
              have hthB := hth
              refine y_iload_n rfl rfl ?_
              refine y_iload rfl rfl ?_
              refine y_isub rfl ?_
              refine y_ireturn rfl rfl rfl ?_
              first | (exfalso; omega) | (exact hQ0 _ eb_b5 _ hv_13 _ (show Int32.ofInt 0 = yFe (I 83 1 - (I b5 6 + Int32.ofInt 30 * (I b5 7 + Int32.ofInt 1))) v_13 al2 from (if_neg (by omega)).symm) _ (show _ = yRb (I 83 1 - (I b5 6 + Int32.ofInt 30 * (I b5 7 + Int32.ofInt 1))) v_13 (I b5 3) al1 from (if_pos (by omega)).symm) (by omega) _ _ _ _ _ _ _ hS ((hR0.grow hX).up (Nat.le_succ K) hk6) (hK.x hRo hno hX) hth rfl (hg.gx hX (by omega)) (hB.trans hX) (by omega) (by omega))
            · rw [hal_c] at ha_25
              have hnA := hX1.1
              have hX := hX.trans hX1
              have hS := hS0.x hX
              have hR := hR0.x hn hX
              have hz := hX.sz h94
              have hxn := hX.1
              have hw_b5 := hR.sal hlo_b5 hb0_b5 ((hX.2.1 _ hb_b5).1.trans ht_b5)
              have hth := (congrFun (hX1.2.1 83 (by omega)).2.1 0).trans hth
              refine y_ret1 ?_
              refine y_if_eqT rfl j_X14_pay_167 (by decide) ?_
              refine y_iconst rfl ?_
              refine y_istore (ls' := [some _, some _, some _, some _, some _, some _, some _]) rfl rfl rfl ?_
              refine y_aload_n rfl rfl ?_
              refine y_dup rfl rfl ?_
              refine y_getIv (v := I b5 7) rfl ((hX.2.1 _ hb_b5).1.trans ht_b5) (Nat.lt_of_lt_of_le hb_b5 hX.1) rfl rfl (congrFun ((hg.gx hX (by omega)) _ hlo_b5 (by omega)) 7) ?_
              refine y_iconst rfl ?_
              refine y_iadd rfl ?_
              refine y_putI rfl ((hX.2.1 _ hb_b5).1.trans ht_b5) (Nat.lt_of_lt_of_le hb_b5 hX.1) rfl (Nat.le_trans (by decide) (by omega : 94 ≤ _)) rfl rfl ?_
              refine y_nameI (fun I32 e32 => ?_)
              have hR1 := (hR0.grow hX).upS e32 hlo_b5 (by omega) ((hX.2.1 _ hb_b5).1.trans ht_b5) (by decide)
              have hK := (hK.x hRo hno hX).upE hRo hno (upI e32) (by omega) (by omega) (by rw [((hX.2.1 _ hb_b5).1.trans ht_b5)]; decide) (by rw [e32, upd2_ne (.inl (by omega))]; exact Int.le_refl _)
              have hth := (show I32 83 0 = I25 83 0 by rw [e32, upd2_ne (.inl (by omega))]).trans hth
              have hzz : ySz I25 I32 := ySz_ofE (upI e32) (by omega)
              have hB := (hB.trans hX).wr e32 rfl
              have h8 : ∀ a, 84 ≤ a → a ≤ 86 → I32 a = I a := fun a h1 h2 => (upI e32 a (by omega)).trans ((hX.2.1 a (by omega)).2.1.trans (h8 a h1 h2))
              have h3k : ∀ k, k ≠ 0 → I32 83 k = I 83 k := fun k hk => (congrFun (congrFun e32 83) k).trans ((upd2_ne (.inl (by omega))).trans ((congrFun (hX.2.1 83 (by omega)).2.1 k).trans (h3k k hk)))
              have hg := (hg.gx hX (by omega)).both e32
              have hday : I32 83 1 = I 83 1 := (congrFun (congrFun e32 83) 1).trans ((upd2_ne (.inl (by omega))).trans ((congrFun (hX.2.1 83 (by omega)).2.1 1).trans hday))
              have hRb : ∀ a, a < n → R25 a = R a := fun a ha => (hX.2.1 a (by omega)).2.2.trans (hRb a ha)
              have hS0 := hS
              have hR0 := hR1
              have ht_b5 := (hX.2.1 _ hb_b5).1.trans ht_b5
              have hb_b5 := Nat.lt_of_lt_of_le hb_b5 hX.1
              have hb0_b5 := hb_b5
              have hn := Nat.le_refl n25
              have h94 := hS0.1
              have hX := @yX.rf n25 tg25 I32 R25
              have hS := hS0.x hX
              have hR := hR0.x hn hX
              have hz := hX.sz h94
              have hxn := hX.1
              have hw_b5 := hR.sal hlo_b5 hb0_b5 ((hX.2.1 _ hb_b5).1.trans ht_b5)
              have hN := hR0.1
              have hnb := hR0.2.2.2.2.2.2
              have hthB := hth
              refine y_aload_n rfl rfl ?_
              refine y_dup rfl rfl ?_
              refine y_getIv (v := I b5 8) rfl ((hX.2.1 _ hb_b5).1.trans ht_b5) (Nat.lt_of_lt_of_le hb_b5 hX.1) rfl rfl ((congrFun ((hg.gx hX (by omega)) _ hlo_b5 (by omega)) 8).trans (by rw [upd2_ne (.inr (by decide))])) ?_
              refine y_iload rfl rfl ?_
              refine y_iadd rfl ?_
              refine y_putI rfl ((hX.2.1 _ hb_b5).1.trans ht_b5) (Nat.lt_of_lt_of_le hb_b5 hX.1) rfl (Nat.le_trans (by decide) (by omega : 94 ≤ _)) rfl rfl ?_
              refine y_nameI (fun I33 e33 => ?_)
              have hR1 := (hR0.grow hX).upS e33 hlo_b5 (by omega) ((hX.2.1 _ hb_b5).1.trans ht_b5) (by decide)
              have hK := (hK.x hRo hno hX).upE hRo hno (upI e33) (by omega) (by omega) (by rw [((hX.2.1 _ hb_b5).1.trans ht_b5)]; decide) (by rw [e33, upd2_ne (.inl (by omega))]; exact Int.le_refl _)
              have hth := (show I33 83 0 = I32 83 0 by rw [e33, upd2_ne (.inl (by omega))]).trans hth
              have hzz : ySz I32 I33 := ySz_ofE (upI e33) (by omega)
              have hB := (hB.trans hX).wr e33 rfl
              have h8 : ∀ a, 84 ≤ a → a ≤ 86 → I33 a = I a := fun a h1 h2 => (upI e33 a (by omega)).trans ((hX.2.1 a (by omega)).2.1.trans (h8 a h1 h2))
              have h3k : ∀ k, k ≠ 0 → I33 83 k = I 83 k := fun k hk => (congrFun (congrFun e33 83) k).trans ((upd2_ne (.inl (by omega))).trans ((congrFun (hX.2.1 83 (by omega)).2.1 k).trans (h3k k hk)))
              have hg := (hg.gx hX (by omega)).both e33
              have hday : I33 83 1 = I 83 1 := (congrFun (congrFun e33 83) 1).trans ((upd2_ne (.inl (by omega))).trans ((congrFun (hX.2.1 83 (by omega)).2.1 1).trans hday))
              have hRb : ∀ a, a < n → R25 a = R a := fun a ha => (hX.2.1 a (by omega)).2.2.trans (hRb a ha)
              have hS0 := hS
              have hR0 := hR1
              have ht_b5 := (hX.2.1 _ hb_b5).1.trans ht_b5
              have hb_b5 := Nat.lt_of_lt_of_le hb_b5 hX.1
              have hb0_b5 := hb_b5
              have hn := Nat.le_refl n25
              have h94 := hS0.1
              have hX := @yX.rf n25 tg25 I33 R25
              have hS := hS0.x hX
              have hR := hR0.x hn hX
              have hz := hX.sz h94
              have hxn := hX.1
              have hw_b5 := hR.sal hlo_b5 hb0_b5 ((hX.2.1 _ hb_b5).1.trans ht_b5)
              have hN := hR0.1
              have hnb := hR0.2.2.2.2.2.2
              have hthB := hth
              refine y_aload_n rfl rfl ?_
              refine y_dup rfl rfl ?_
              refine y_getIv (v := I b5 9) rfl ((hX.2.1 _ hb_b5).1.trans ht_b5) (Nat.lt_of_lt_of_le hb_b5 hX.1) rfl rfl ((congrFun ((hg.gx hX (by omega)) _ hlo_b5 (by omega)) 9).trans (by rw [upd2_ne (.inr (by decide)), upd2_ne (.inr (by decide))])) ?_
              refine y_iload rfl rfl ?_
              refine y_iadd rfl ?_
              refine y_putI rfl ((hX.2.1 _ hb_b5).1.trans ht_b5) (Nat.lt_of_lt_of_le hb_b5 hX.1) rfl (Nat.le_trans (by decide) (by omega : 94 ≤ _)) rfl rfl ?_
              refine y_nameI (fun I34 e34 => ?_)
              have hR1 := (hR0.grow hX).upS e34 hlo_b5 (by omega) ((hX.2.1 _ hb_b5).1.trans ht_b5) (by decide)
              have hK := (hK.x hRo hno hX).upE hRo hno (upI e34) (by omega) (by omega) (by rw [((hX.2.1 _ hb_b5).1.trans ht_b5)]; decide) (by rw [e34, upd2_ne (.inl (by omega))]; exact Int.le_refl _)
              have hth := (show I34 83 0 = I33 83 0 by rw [e34, upd2_ne (.inl (by omega))]).trans hth
              have hzz : ySz I33 I34 := ySz_ofE (upI e34) (by omega)
              have hB := (hB.trans hX).wr e34 rfl
              have h8 : ∀ a, 84 ≤ a → a ≤ 86 → I34 a = I a := fun a h1 h2 => (upI e34 a (by omega)).trans ((hX.2.1 a (by omega)).2.1.trans (h8 a h1 h2))
              have h3k : ∀ k, k ≠ 0 → I34 83 k = I 83 k := fun k hk => (congrFun (congrFun e34 83) k).trans ((upd2_ne (.inl (by omega))).trans ((congrFun (hX.2.1 83 (by omega)).2.1 k).trans (h3k k hk)))
              have hg := (hg.gx hX (by omega)).both e34
              have hday : I34 83 1 = I 83 1 := (congrFun (congrFun e34 83) 1).trans ((upd2_ne (.inl (by omega))).trans ((congrFun (hX.2.1 83 (by omega)).2.1 1).trans hday))
              have hRb : ∀ a, a < n → R25 a = R a := fun a ha => (hX.2.1 a (by omega)).2.2.trans (hRb a ha)
              have hS0 := hS
              have hR0 := hR1
              have ht_b5 := (hX.2.1 _ hb_b5).1.trans ht_b5
              have hb_b5 := Nat.lt_of_lt_of_le hb_b5 hX.1
              have hb0_b5 := hb_b5
              have hn := Nat.le_refl n25
              have h94 := hS0.1
              have hX := @yX.rf n25 tg25 I34 R25
              have hS := hS0.x hX
              have hR := hR0.x hn hX
              have hz := hX.sz h94
              have hxn := hX.1
              have hw_b5 := hR.sal hlo_b5 hb0_b5 ((hX.2.1 _ hb_b5).1.trans ht_b5)
              have hN := hR0.1
              have hnb := hR0.2.2.2.2.2.2
              have hthB := hth
              refine y_aload_n rfl rfl ?_
              refine y_dup rfl rfl ?_
              refine y_getIv (v := I 83 2) rfl (ySh.t hS rfl) (ySh.n hS rfl) rfl rfl ((congrFun ((hB.trans hX).n (by omega : 83 < n)) 2).trans (by repeat (first | rfl | rw [upd2_ne (by first | exact .inl (by omega) | exact .inr (by decide))]))) ?_
              refine y_iload rfl rfl ?_
              refine y_iadd rfl ?_
              refine y_putI rfl (ySh.t hS rfl) (ySh.n hS rfl) rfl (Nat.le_of_ble_eq_true rfl) rfl rfl ?_
              refine y_nameI (fun I35 e35 => ?_)
              have hR1 := (hR0.grow hX).mod0 e35 (by decide) (by decide)
              have hK := (hK.x hRo hno hX).upI (upI e35) (by decide) (by decide) (fun i hi => by have := (hRo.l87.2.2.2.2 i hi).2.1; omega) (by rw [e35, upd2_ne (.inr (by decide))]; exact Int.le_refl _)
              have hth := (show I35 83 0 = I34 83 0 by rw [e35, upd2_ne (.inr (by decide))]).trans hth
              have hzz : ySz I34 I35 := ySz_ofM (upI e35) (by rw [e35]; exact ⟨upd2_ne (.inr (by decide)), upd2_ne (.inr (by decide)), upd2_ne (.inr (by decide))⟩)
              have hB := (hB.trans hX).wr e35 rfl
              have h8 : ∀ a, 84 ≤ a → a ≤ 86 → I35 a = I a := fun a h1 h2 => (upI e35 a (by omega)).trans ((hX.2.1 a (by omega)).2.1.trans (h8 a h1 h2))
              have hg := (hg.gx hX (by omega)).skip e35 (by decide)
              have hday : I35 83 1 = I 83 1 := (congrFun (congrFun e35 83) 1).trans ((upd2_ne (.inr (by decide))).trans ((congrFun (hX.2.1 83 (by omega)).2.1 1).trans hday))
              have hRb : ∀ a, a < n → R25 a = R a := fun a ha => (hX.2.1 a (by omega)).2.2.trans (hRb a ha)
              have hS0 := hS
              have hR0 := hR1
              have ht_b5 := (hX.2.1 _ hb_b5).1.trans ht_b5
              have hb_b5 := Nat.lt_of_lt_of_le hb_b5 hX.1
              have hb0_b5 := hb_b5
              have hn := Nat.le_refl n25
              have h94 := hS0.1
              have hX := @yX.rf n25 tg25 I35 R25
              have hS := hS0.x hX
              have hR := hR0.x hn hX
              have hz := hX.sz h94
              have hxn := hX.1
              have hw_b5 := hR.sal hlo_b5 hb0_b5 ((hX.2.1 _ hb_b5).1.trans ht_b5)
              have hN := hR0.1
              have hnb := hR0.2.2.2.2.2.2
              have hthB := hth
              refine y_aload_n rfl rfl ?_
              refine y_getR rfl (ySh.t hS rfl) (ySh.n hS rfl) rfl rfl (ySh.r hS rfl) ?_
              refine y_aload_n rfl rfl ?_
              refine y_getIv (v := I b5 1) rfl ((hX.2.1 _ hb_b5).1.trans ht_b5) (Nat.lt_of_lt_of_le hb_b5 hX.1) rfl rfl ((congrFun ((hg.gx hX (by omega)) _ hlo_b5 (by omega)) 1).trans (by rw [upd2_ne (.inr (by decide)), upd2_ne (.inr (by decide)), upd2_ne (.inr (by decide))])) ?_
              refine y_dup2 rfl rfl rfl ?_
              refine y_ialoadv (J := I 84) rfl (ySh.t hS rfl) (ySh.n hS rfl) (by omega) (by omega) (((hB.trans hX).n (by omega)).trans (by repeat (first | rfl | (rw [upd2_row (by first | decide | omega)]) | refine upd2_cg ?_))) ?_
              refine y_iload_n rfl rfl ?_
              refine y_iload rfl rfl ?_
              refine y_isub rfl ?_
              refine y_iload rfl rfl ?_
              refine y_iadd rfl ?_
              refine y_isub rfl ?_
              refine y_iastore rfl (ySh.t hS rfl) (ySh.n hS rfl) (Nat.le_of_ble_eq_true rfl) (by omega) (by omega) ?_
              refine y_nameI (fun I36 e36 => ?_)
              have hR1 := (hR0.grow hX).arr e36 (by decide)
              have hK := (hK.x hRo hno hX).upI (upI e36) (by decide) (by decide) (fun i hi => by have := (hRo.l87.2.2.2.2 i hi).2.1; omega) (by rw [e36, upd2_ne (.inl (by omega))]; exact Int.le_refl _)
              have hth := (show I36 83 0 = I35 83 0 by rw [e36, upd2_ne (.inl (by omega))]).trans hth
              have hzz : ySz I35 I36 := ySz_ofE (upI e36) (by omega)
              have hB := (hB.trans hX).wr e36 rfl
              have hg := (hg.gx hX (by omega)).skip e36 (by decide)
              have hday : I36 83 1 = I 83 1 := (congrFun (congrFun e36 83) 1).trans ((upd2_ne (.inl (by omega))).trans ((congrFun (hX.2.1 83 (by omega)).2.1 1).trans hday))
              have hRb : ∀ a, a < n → R25 a = R a := fun a ha => (hX.2.1 a (by omega)).2.2.trans (hRb a ha)
              have hS0 := hS
              have hR0 := hR1
              have ht_b5 := (hX.2.1 _ hb_b5).1.trans ht_b5
              have hb_b5 := Nat.lt_of_lt_of_le hb_b5 hX.1
              have hb0_b5 := hb_b5
              have hn := Nat.le_refl n25
              have h94 := hS0.1
              have hX := @yX.rf n25 tg25 I36 R25
              have hS := hS0.x hX
              have hR := hR0.x hn hX
              have hz := hX.sz h94
              have hxn := hX.1
              have hw_b5 := hR.sal hlo_b5 hb0_b5 ((hX.2.1 _ hb_b5).1.trans ht_b5)
              have hN := hR0.1
              have hnb := hR0.2.2.2.2.2.2
              have hthB := hth
              refine y_aload_n rfl rfl ?_
              refine y_getR rfl (ySh.t hS rfl) (ySh.n hS rfl) rfl rfl (ySh.r hS rfl) ?_
              refine y_bip rfl (by decide) ?_
              refine y_dup2 rfl rfl rfl ?_
              refine y_ialoadw (j := 8) (J := _) rfl (ySh.t hS rfl) (ySh.n hS rfl) (by decide) (by decide) rfl ((hB.trans hX).n (by omega)) ?_
              refine y_iload_n rfl rfl ?_
              refine y_iload rfl rfl ?_
              refine y_isub rfl ?_
              refine y_iadd rfl ?_
              refine y_iastoreC (j := 8) rfl (ySh.t hS rfl) (ySh.n hS rfl) (Nat.le_of_ble_eq_true rfl) (by decide) (by decide) rfl ?_
              refine y_nameI (fun I37 e37 => ?_)
              have hR1 := (hR0.grow hX).arr e37 (by decide)
              have hK := (hK.x hRo hno hX).upI (upI e37) (by decide) (by decide) (fun i hi => by have := (hRo.l87.2.2.2.2 i hi).2.1; omega) (by rw [e37, upd2_ne (.inl (by omega))]; exact Int.le_refl _)
              have hth := (show I37 83 0 = I36 83 0 by rw [e37, upd2_ne (.inl (by omega))]).trans hth
              have hzz : ySz I36 I37 := ySz_ofE (upI e37) (by omega)
              have hB := (hB.trans hX).wr e37 rfl
              have hg := (hg.gx hX (by omega)).skip e37 (by decide)
              have hday : I37 83 1 = I 83 1 := (congrFun (congrFun e37 83) 1).trans ((upd2_ne (.inl (by omega))).trans ((congrFun (hX.2.1 83 (by omega)).2.1 1).trans hday))
              have hRb : ∀ a, a < n → R25 a = R a := fun a ha => (hX.2.1 a (by omega)).2.2.trans (hRb a ha)
              have hS0 := hS
              have hR0 := hR1
              have ht_b5 := (hX.2.1 _ hb_b5).1.trans ht_b5
              have hb_b5 := Nat.lt_of_lt_of_le hb_b5 hX.1
              have hb0_b5 := hb_b5
              have hn := Nat.le_refl n25
              have h94 := hS0.1
              have hX := @yX.rf n25 tg25 I37 R25
              have hS := hS0.x hX
              have hR := hR0.x hn hX
              have hz := hX.sz h94
              have hxn := hX.1
              have hw_b5 := hR.sal hlo_b5 hb0_b5 ((hX.2.1 _ hb_b5).1.trans ht_b5)
              have hN := hR0.1
              have hnb := hR0.2.2.2.2.2.2
              have hthB := hth
              refine y_iload_n rfl rfl ?_
              refine y_iload rfl rfl ?_
              refine y_isub rfl ?_
              refine y_ireturn rfl rfl rfl ?_
              first | (exfalso; omega) | (exact hQ0 _ eb_b5 _ hv_13 _ (show Int32.ofInt 0 = yFe (I 83 1 - (I b5 6 + Int32.ofInt 30 * (I b5 7 + Int32.ofInt 1))) v_13 al2 from (if_neg (by omega)).symm) _ (show Int32.ofInt 0 = yRb (I 83 1 - (I b5 6 + Int32.ofInt 30 * (I b5 7 + Int32.ofInt 1))) v_13 (I b5 3) al1 from (if_neg (by omega)).symm) (by omega) _ _ _ _ _ _ _ hS ((hR0.grow hX).up (Nat.le_succ K) hk6) (hK.x hRo hno hX) hth rfl (hg.gx hX (by omega)) (hB.trans hX) (by omega) (by omega))
        · rw [yz_10] at h_15
          refine y_aload_n rfl rfl ?_
          refine y_iconst rfl ?_
          refine y_aload_n rfl rfl ?_
          refine y_getIv (v := I 83 1) rfl (ySh.t hS rfl) (ySh.n hS rfl) rfl rfl ((congrFun (hX.2.1 83 (by omega)).2.1 1).trans hday) ?_
          refine y_virt rfl rfl rfl rfl rfl (ySh.t hS rfl) (ySh.n hS rfl) ?_
          have hal_c : ySum (fun j => yHv I4 R (Int32.ofInt 2).toInt j (I4 87 2).toInt.toNat) 5 = al2 := (ySum_eq fun j _ => yHv_kp (hK.x hRo hno hX)).trans hal2
          refine s_isAllowed hS hR (Nat.le_trans hn hX.1) (Int.le_of_eq (congrArg Int32.toInt ((congrFun (hX.2.1 83 (by omega)).2.1 1).trans hday))) (fun ha_38 n38 tg38 I38 R38 c_38 s_38 hX1 hc_38 hs_38 => ?_) (fun ha_39 n39 tg39 I39 R39 c_39 s_39 hX1 hc_39 hs_39 => ?_)
          · rw [hal_c] at ha_38
            have hnA := hX1.1
            have hX := hX.trans hX1
            have hS := hS0.x hX
            have hR := hR0.x hn hX
            have hz := hX.sz h94
            have hxn := hX.1
            have hw_b5 := hR.sal hlo_b5 hb0_b5 ((hX.2.1 _ hb_b5).1.trans ht_b5)
            have hth := (congrFun (hX1.2.1 83 (by omega)).2.1 0).trans hth
            refine y_ret1 ?_
            refine y_if_eqF rfl (by decide) ?_
            refine y_iconst rfl ?_
            refine y_iload_n rfl rfl ?_
            refine y_iconst rfl ?_
            refine y_imul rfl ?_
            refine y_bip rfl (by decide) ?_
            refine y_idiv rfl (by first | decide | exact i32ne (by rw [yadd (by rw [yz_100]; omega) (by rw [yz_100]; omega), yz_100]; show _ ≠ (0 : Int); omega)) ?_
            refine y_max rfl rfl ?_
            refine y_goto rfl j_X14_pay_127 ?_
            refine y_istore (ls' := [some _, some _, some _, some _, some _, some _, _]) rfl rfl rfl ?_
            refine y_iload rfl rfl ?_
            refine y_bip rfl (by decide) ?_
            refine y_icmp_gt rfl j_X14_pay_167 (fun h_40 => ?_) (fun h_41 => ?_)
            · rw [yz_m10] at h_40
              refine y_iconst rfl ?_
              refine y_istore (ls' := [some _, some _, some _, some _, some _, some _, some _]) rfl rfl rfl ?_
              refine y_aload_n rfl rfl ?_
              refine y_dup rfl rfl ?_
              refine y_getIv (v := I b5 7) rfl ((hX.2.1 _ hb_b5).1.trans ht_b5) (Nat.lt_of_lt_of_le hb_b5 hX.1) rfl rfl (congrFun ((hg.gx hX (by omega)) _ hlo_b5 (by omega)) 7) ?_
              refine y_iconst rfl ?_
              refine y_iadd rfl ?_
              refine y_putI rfl ((hX.2.1 _ hb_b5).1.trans ht_b5) (Nat.lt_of_lt_of_le hb_b5 hX.1) rfl (Nat.le_trans (by decide) (by omega : 94 ≤ _)) rfl rfl ?_
              refine y_nameI (fun I42 e42 => ?_)
              have hR1 := (hR0.grow hX).upS e42 hlo_b5 (by omega) ((hX.2.1 _ hb_b5).1.trans ht_b5) (by decide)
              have hK := (hK.x hRo hno hX).upE hRo hno (upI e42) (by omega) (by omega) (by rw [((hX.2.1 _ hb_b5).1.trans ht_b5)]; decide) (by rw [e42, upd2_ne (.inl (by omega))]; exact Int.le_refl _)
              have hth := (show I42 83 0 = I38 83 0 by rw [e42, upd2_ne (.inl (by omega))]).trans hth
              have hzz : ySz I38 I42 := ySz_ofE (upI e42) (by omega)
              have hB := (hB.trans hX).wr e42 rfl
              have h8 : ∀ a, 84 ≤ a → a ≤ 86 → I42 a = I a := fun a h1 h2 => (upI e42 a (by omega)).trans ((hX.2.1 a (by omega)).2.1.trans (h8 a h1 h2))
              have h3k : ∀ k, k ≠ 0 → I42 83 k = I 83 k := fun k hk => (congrFun (congrFun e42 83) k).trans ((upd2_ne (.inl (by omega))).trans ((congrFun (hX.2.1 83 (by omega)).2.1 k).trans (h3k k hk)))
              have hg := (hg.gx hX (by omega)).both e42
              have hday : I42 83 1 = I 83 1 := (congrFun (congrFun e42 83) 1).trans ((upd2_ne (.inl (by omega))).trans ((congrFun (hX.2.1 83 (by omega)).2.1 1).trans hday))
              have hRb : ∀ a, a < n → R38 a = R a := fun a ha => (hX.2.1 a (by omega)).2.2.trans (hRb a ha)
              have hS0 := hS
              have hR0 := hR1
              have ht_b5 := (hX.2.1 _ hb_b5).1.trans ht_b5
              have hb_b5 := Nat.lt_of_lt_of_le hb_b5 hX.1
              have hb0_b5 := hb_b5
              have hn := Nat.le_refl n38
              have h94 := hS0.1
              have hX := @yX.rf n38 tg38 I42 R38
              have hS := hS0.x hX
              have hR := hR0.x hn hX
              have hz := hX.sz h94
              have hxn := hX.1
              have hw_b5 := hR.sal hlo_b5 hb0_b5 ((hX.2.1 _ hb_b5).1.trans ht_b5)
              have hN := hR0.1
              have hnb := hR0.2.2.2.2.2.2
              have hthB := hth
              refine y_aload_n rfl rfl ?_
              refine y_dup rfl rfl ?_
              refine y_getIv (v := I b5 8) rfl ((hX.2.1 _ hb_b5).1.trans ht_b5) (Nat.lt_of_lt_of_le hb_b5 hX.1) rfl rfl ((congrFun ((hg.gx hX (by omega)) _ hlo_b5 (by omega)) 8).trans (by rw [upd2_ne (.inr (by decide))])) ?_
              refine y_iload rfl rfl ?_
              refine y_iadd rfl ?_
              refine y_putI rfl ((hX.2.1 _ hb_b5).1.trans ht_b5) (Nat.lt_of_lt_of_le hb_b5 hX.1) rfl (Nat.le_trans (by decide) (by omega : 94 ≤ _)) rfl rfl ?_
              refine y_nameI (fun I43 e43 => ?_)
              have hR1 := (hR0.grow hX).upS e43 hlo_b5 (by omega) ((hX.2.1 _ hb_b5).1.trans ht_b5) (by decide)
              have hK := (hK.x hRo hno hX).upE hRo hno (upI e43) (by omega) (by omega) (by rw [((hX.2.1 _ hb_b5).1.trans ht_b5)]; decide) (by rw [e43, upd2_ne (.inl (by omega))]; exact Int.le_refl _)
              have hth := (show I43 83 0 = I42 83 0 by rw [e43, upd2_ne (.inl (by omega))]).trans hth
              have hzz : ySz I42 I43 := ySz_ofE (upI e43) (by omega)
              have hB := (hB.trans hX).wr e43 rfl
              have h8 : ∀ a, 84 ≤ a → a ≤ 86 → I43 a = I a := fun a h1 h2 => (upI e43 a (by omega)).trans ((hX.2.1 a (by omega)).2.1.trans (h8 a h1 h2))
              have h3k : ∀ k, k ≠ 0 → I43 83 k = I 83 k := fun k hk => (congrFun (congrFun e43 83) k).trans ((upd2_ne (.inl (by omega))).trans ((congrFun (hX.2.1 83 (by omega)).2.1 k).trans (h3k k hk)))
              have hg := (hg.gx hX (by omega)).both e43
              have hday : I43 83 1 = I 83 1 := (congrFun (congrFun e43 83) 1).trans ((upd2_ne (.inl (by omega))).trans ((congrFun (hX.2.1 83 (by omega)).2.1 1).trans hday))
              have hRb : ∀ a, a < n → R38 a = R a := fun a ha => (hX.2.1 a (by omega)).2.2.trans (hRb a ha)
              have hS0 := hS
              have hR0 := hR1
              have ht_b5 := (hX.2.1 _ hb_b5).1.trans ht_b5
              have hb_b5 := Nat.lt_of_lt_of_le hb_b5 hX.1
              have hb0_b5 := hb_b5
              have hn := Nat.le_refl n38
              have h94 := hS0.1
              have hX := @yX.rf n38 tg38 I43 R38
              have hS := hS0.x hX
              have hR := hR0.x hn hX
              have hz := hX.sz h94
              have hxn := hX.1
              have hw_b5 := hR.sal hlo_b5 hb0_b5 ((hX.2.1 _ hb_b5).1.trans ht_b5)
              have hN := hR0.1
              have hnb := hR0.2.2.2.2.2.2
              have hthB := hth
              refine y_aload_n rfl rfl ?_
              refine y_dup rfl rfl ?_
              refine y_getIv (v := I b5 9) rfl ((hX.2.1 _ hb_b5).1.trans ht_b5) (Nat.lt_of_lt_of_le hb_b5 hX.1) rfl rfl ((congrFun ((hg.gx hX (by omega)) _ hlo_b5 (by omega)) 9).trans (by rw [upd2_ne (.inr (by decide)), upd2_ne (.inr (by decide))])) ?_
              refine y_iload rfl rfl ?_
              refine y_iadd rfl ?_
              refine y_putI rfl ((hX.2.1 _ hb_b5).1.trans ht_b5) (Nat.lt_of_lt_of_le hb_b5 hX.1) rfl (Nat.le_trans (by decide) (by omega : 94 ≤ _)) rfl rfl ?_
              refine y_nameI (fun I44 e44 => ?_)
              have hR1 := (hR0.grow hX).upS e44 hlo_b5 (by omega) ((hX.2.1 _ hb_b5).1.trans ht_b5) (by decide)
              have hK := (hK.x hRo hno hX).upE hRo hno (upI e44) (by omega) (by omega) (by rw [((hX.2.1 _ hb_b5).1.trans ht_b5)]; decide) (by rw [e44, upd2_ne (.inl (by omega))]; exact Int.le_refl _)
              have hth := (show I44 83 0 = I43 83 0 by rw [e44, upd2_ne (.inl (by omega))]).trans hth
              have hzz : ySz I43 I44 := ySz_ofE (upI e44) (by omega)
              have hB := (hB.trans hX).wr e44 rfl
              have h8 : ∀ a, 84 ≤ a → a ≤ 86 → I44 a = I a := fun a h1 h2 => (upI e44 a (by omega)).trans ((hX.2.1 a (by omega)).2.1.trans (h8 a h1 h2))
              have h3k : ∀ k, k ≠ 0 → I44 83 k = I 83 k := fun k hk => (congrFun (congrFun e44 83) k).trans ((upd2_ne (.inl (by omega))).trans ((congrFun (hX.2.1 83 (by omega)).2.1 k).trans (h3k k hk)))
              have hg := (hg.gx hX (by omega)).both e44
              have hday : I44 83 1 = I 83 1 := (congrFun (congrFun e44 83) 1).trans ((upd2_ne (.inl (by omega))).trans ((congrFun (hX.2.1 83 (by omega)).2.1 1).trans hday))
              have hRb : ∀ a, a < n → R38 a = R a := fun a ha => (hX.2.1 a (by omega)).2.2.trans (hRb a ha)
              have hS0 := hS
              have hR0 := hR1
              have ht_b5 := (hX.2.1 _ hb_b5).1.trans ht_b5
              have hb_b5 := Nat.lt_of_lt_of_le hb_b5 hX.1
              have hb0_b5 := hb_b5
              have hn := Nat.le_refl n38
              have h94 := hS0.1
              have hX := @yX.rf n38 tg38 I44 R38
              have hS := hS0.x hX
              have hR := hR0.x hn hX
              have hz := hX.sz h94
              have hxn := hX.1
              have hw_b5 := hR.sal hlo_b5 hb0_b5 ((hX.2.1 _ hb_b5).1.trans ht_b5)
              have hN := hR0.1
              have hnb := hR0.2.2.2.2.2.2
              have hthB := hth
              refine y_aload_n rfl rfl ?_
              refine y_dup rfl rfl ?_
              refine y_getIv (v := I 83 2) rfl (ySh.t hS rfl) (ySh.n hS rfl) rfl rfl ((congrFun ((hB.trans hX).n (by omega : 83 < n)) 2).trans (by repeat (first | rfl | rw [upd2_ne (by first | exact .inl (by omega) | exact .inr (by decide))]))) ?_
              refine y_iload rfl rfl ?_
              refine y_iadd rfl ?_
              refine y_putI rfl (ySh.t hS rfl) (ySh.n hS rfl) rfl (Nat.le_of_ble_eq_true rfl) rfl rfl ?_
              refine y_nameI (fun I45 e45 => ?_)
              have hR1 := (hR0.grow hX).mod0 e45 (by decide) (by decide)
              have hK := (hK.x hRo hno hX).upI (upI e45) (by decide) (by decide) (fun i hi => by have := (hRo.l87.2.2.2.2 i hi).2.1; omega) (by rw [e45, upd2_ne (.inr (by decide))]; exact Int.le_refl _)
              have hth := (show I45 83 0 = I44 83 0 by rw [e45, upd2_ne (.inr (by decide))]).trans hth
              have hzz : ySz I44 I45 := ySz_ofM (upI e45) (by rw [e45]; exact ⟨upd2_ne (.inr (by decide)), upd2_ne (.inr (by decide)), upd2_ne (.inr (by decide))⟩)
              have hB := (hB.trans hX).wr e45 rfl
              have h8 : ∀ a, 84 ≤ a → a ≤ 86 → I45 a = I a := fun a h1 h2 => (upI e45 a (by omega)).trans ((hX.2.1 a (by omega)).2.1.trans (h8 a h1 h2))
              have hg := (hg.gx hX (by omega)).skip e45 (by decide)
              have hday : I45 83 1 = I 83 1 := (congrFun (congrFun e45 83) 1).trans ((upd2_ne (.inr (by decide))).trans ((congrFun (hX.2.1 83 (by omega)).2.1 1).trans hday))
              have hRb : ∀ a, a < n → R38 a = R a := fun a ha => (hX.2.1 a (by omega)).2.2.trans (hRb a ha)
              have hS0 := hS
              have hR0 := hR1
              have ht_b5 := (hX.2.1 _ hb_b5).1.trans ht_b5
              have hb_b5 := Nat.lt_of_lt_of_le hb_b5 hX.1
              have hb0_b5 := hb_b5
              have hn := Nat.le_refl n38
              have h94 := hS0.1
              have hX := @yX.rf n38 tg38 I45 R38
              have hS := hS0.x hX
              have hR := hR0.x hn hX
              have hz := hX.sz h94
              have hxn := hX.1
              have hw_b5 := hR.sal hlo_b5 hb0_b5 ((hX.2.1 _ hb_b5).1.trans ht_b5)
              have hN := hR0.1
              have hnb := hR0.2.2.2.2.2.2
              have hthB := hth
              refine y_aload_n rfl rfl ?_
              refine y_getR rfl (ySh.t hS rfl) (ySh.n hS rfl) rfl rfl (ySh.r hS rfl) ?_
              refine y_aload_n rfl rfl ?_
              refine y_getIv (v := I b5 1) rfl ((hX.2.1 _ hb_b5).1.trans ht_b5) (Nat.lt_of_lt_of_le hb_b5 hX.1) rfl rfl ((congrFun ((hg.gx hX (by omega)) _ hlo_b5 (by omega)) 1).trans (by rw [upd2_ne (.inr (by decide)), upd2_ne (.inr (by decide)), upd2_ne (.inr (by decide))])) ?_
              refine y_dup2 rfl rfl rfl ?_
              refine y_ialoadv (J := I 84) rfl (ySh.t hS rfl) (ySh.n hS rfl) (by omega) (by omega) (((hB.trans hX).n (by omega)).trans (by repeat (first | rfl | (rw [upd2_row (by first | decide | omega)]) | refine upd2_cg ?_))) ?_
              refine y_iload_n rfl rfl ?_
              refine y_iload rfl rfl ?_
              refine y_isub rfl ?_
              refine y_iload rfl rfl ?_
              refine y_iadd rfl ?_
              refine y_isub rfl ?_
              refine y_iastore rfl (ySh.t hS rfl) (ySh.n hS rfl) (Nat.le_of_ble_eq_true rfl) (by omega) (by omega) ?_
              refine y_nameI (fun I46 e46 => ?_)
              have hR1 := (hR0.grow hX).arr e46 (by decide)
              have hK := (hK.x hRo hno hX).upI (upI e46) (by decide) (by decide) (fun i hi => by have := (hRo.l87.2.2.2.2 i hi).2.1; omega) (by rw [e46, upd2_ne (.inl (by omega))]; exact Int.le_refl _)
              have hth := (show I46 83 0 = I45 83 0 by rw [e46, upd2_ne (.inl (by omega))]).trans hth
              have hzz : ySz I45 I46 := ySz_ofE (upI e46) (by omega)
              have hB := (hB.trans hX).wr e46 rfl
              have hg := (hg.gx hX (by omega)).skip e46 (by decide)
              have hday : I46 83 1 = I 83 1 := (congrFun (congrFun e46 83) 1).trans ((upd2_ne (.inl (by omega))).trans ((congrFun (hX.2.1 83 (by omega)).2.1 1).trans hday))
              have hRb : ∀ a, a < n → R38 a = R a := fun a ha => (hX.2.1 a (by omega)).2.2.trans (hRb a ha)
              have hS0 := hS
              have hR0 := hR1
              have ht_b5 := (hX.2.1 _ hb_b5).1.trans ht_b5
              have hb_b5 := Nat.lt_of_lt_of_le hb_b5 hX.1
              have hb0_b5 := hb_b5
              have hn := Nat.le_refl n38
              have h94 := hS0.1
              have hX := @yX.rf n38 tg38 I46 R38
              have hS := hS0.x hX
              have hR := hR0.x hn hX
              have hz := hX.sz h94
              have hxn := hX.1
              have hw_b5 := hR.sal hlo_b5 hb0_b5 ((hX.2.1 _ hb_b5).1.trans ht_b5)
              have hN := hR0.1
              have hnb := hR0.2.2.2.2.2.2
              have hthB := hth
              refine y_aload_n rfl rfl ?_
              refine y_getR rfl (ySh.t hS rfl) (ySh.n hS rfl) rfl rfl (ySh.r hS rfl) ?_
              refine y_bip rfl (by decide) ?_
              refine y_dup2 rfl rfl rfl ?_
              refine y_ialoadw (j := 8) (J := _) rfl (ySh.t hS rfl) (ySh.n hS rfl) (by decide) (by decide) rfl ((hB.trans hX).n (by omega)) ?_
              refine y_iload_n rfl rfl ?_
              refine y_iload rfl rfl ?_
              refine y_isub rfl ?_
              refine y_iadd rfl ?_
              refine y_iastoreC (j := 8) rfl (ySh.t hS rfl) (ySh.n hS rfl) (Nat.le_of_ble_eq_true rfl) (by decide) (by decide) rfl ?_
              refine y_nameI (fun I47 e47 => ?_)
              have hR1 := (hR0.grow hX).arr e47 (by decide)
              have hK := (hK.x hRo hno hX).upI (upI e47) (by decide) (by decide) (fun i hi => by have := (hRo.l87.2.2.2.2 i hi).2.1; omega) (by rw [e47, upd2_ne (.inl (by omega))]; exact Int.le_refl _)
              have hth := (show I47 83 0 = I46 83 0 by rw [e47, upd2_ne (.inl (by omega))]).trans hth
              have hzz : ySz I46 I47 := ySz_ofE (upI e47) (by omega)
              have hB := (hB.trans hX).wr e47 rfl
              have hg := (hg.gx hX (by omega)).skip e47 (by decide)
              have hday : I47 83 1 = I 83 1 := (congrFun (congrFun e47 83) 1).trans ((upd2_ne (.inl (by omega))).trans ((congrFun (hX.2.1 83 (by omega)).2.1 1).trans hday))
              have hRb : ∀ a, a < n → R38 a = R a := fun a ha => (hX.2.1 a (by omega)).2.2.trans (hRb a ha)
              have hS0 := hS
              have hR0 := hR1
              have ht_b5 := (hX.2.1 _ hb_b5).1.trans ht_b5
              have hb_b5 := Nat.lt_of_lt_of_le hb_b5 hX.1
              have hb0_b5 := hb_b5
              have hn := Nat.le_refl n38
              have h94 := hS0.1
              have hX := @yX.rf n38 tg38 I47 R38
              have hS := hS0.x hX
              have hR := hR0.x hn hX
              have hz := hX.sz h94
              have hxn := hX.1
              have hw_b5 := hR.sal hlo_b5 hb0_b5 ((hX.2.1 _ hb_b5).1.trans ht_b5)
              have hN := hR0.1
              have hnb := hR0.2.2.2.2.2.2
              have hthB := hth
              refine y_iload_n rfl rfl ?_
              refine y_iload rfl rfl ?_
              refine y_isub rfl ?_
              refine y_ireturn rfl rfl rfl ?_
              first | (exfalso; omega) | (exact hQ0 _ eb_b5 _ hv_13 _ (yMx_comm.trans (show _ = yFe (I 83 1 - (I b5 6 + Int32.ofInt 30 * (I b5 7 + Int32.ofInt 1))) v_13 al2 from (if_pos (by omega)).symm)) _ (show Int32.ofInt 0 = yRb (I 83 1 - (I b5 6 + Int32.ofInt 30 * (I b5 7 + Int32.ofInt 1))) v_13 (I b5 3) al1 from (if_neg (by omega)).symm) (by omega) _ _ _ _ _ _ _ hS ((hR0.grow hX).up (Nat.le_succ K) hk6) (hK.x hRo hno hX) hth rfl (hg.gx hX (by omega)) (hB.trans hX) (by omega) (by omega))
            · rw [yz_m10] at h_41
              refine y_aload_n rfl rfl ?_
              refine y_iconst rfl ?_
              refine y_aload_n rfl rfl ?_
              refine y_getIv (v := I 83 1) rfl (ySh.t hS rfl) (ySh.n hS rfl) rfl rfl ((congrFun (hX.2.1 83 (by omega)).2.1 1).trans hday) ?_
              refine y_virt rfl rfl rfl rfl rfl (ySh.t hS rfl) (ySh.n hS rfl) ?_
              have hal_c : ySum (fun j => yHv I38 R38 (Int32.ofInt 1).toInt j (I38 87 2).toInt.toNat) 5 = al1 := (ySum_eq fun j _ => yHv_kp (hK.x hRo hno hX)).trans hal1
              refine s_isAllowed hS hR (Nat.le_trans hn hX.1) (Int.le_of_eq (congrArg Int32.toInt ((congrFun (hX.2.1 83 (by omega)).2.1 1).trans hday))) (fun ha_48 n48 tg48 I48 R48 c_48 s_48 hX1 hc_48 hs_48 => ?_) (fun ha_49 n49 tg49 I49 R49 c_49 s_49 hX1 hc_49 hs_49 => ?_)
              · rw [hal_c] at ha_48
                have hnA := hX1.1
                have hX := hX.trans hX1
                have hS := hS0.x hX
                have hR := hR0.x hn hX
                have hz := hX.sz h94
                have hxn := hX.1
                have hw_b5 := hR.sal hlo_b5 hb0_b5 ((hX.2.1 _ hb_b5).1.trans ht_b5)
                have hth := (congrFun (hX1.2.1 83 (by omega)).2.1 0).trans hth
                refine y_ret1 ?_
                refine y_if_eqF rfl (by decide) ?_
                refine y_aload_n rfl rfl ?_
                refine y_getIv (v := I b5 3) rfl ((hX.2.1 _ hb_b5).1.trans ht_b5) (Nat.lt_of_lt_of_le hb_b5 hX.1) rfl rfl (congrFun ((hg.gx hX (by omega)) _ hlo_b5 (by omega)) 3) ?_
                refine y_iload_n rfl rfl ?_
                refine y_imul rfl ?_
                refine y_bip rfl (by decide) ?_
                refine y_aload_n rfl rfl ?_
                refine y_getIv (v := I b5 3) rfl ((hX.2.1 _ hb_b5).1.trans ht_b5) (Nat.lt_of_lt_of_le hb_b5 hX.1) rfl rfl (congrFun ((hg.gx hX (by omega)) _ hlo_b5 (by omega)) 3) ?_
                refine y_iadd rfl ?_
                refine y_idiv rfl (by first | decide | exact i32ne (by rw [yadd (by rw [yz_100]; omega) (by rw [yz_100]; omega), yz_100]; show _ ≠ (0 : Int); omega)) ?_
                refine y_iconst rfl ?_
                refine y_idiv rfl (by first | decide | exact i32ne (by rw [yadd (by rw [yz_100]; omega) (by rw [yz_100]; omega), yz_100]; show _ ≠ (0 : Int); omega)) ?_
                refine y_goto rfl j_X14_pay_168 ?_
                refine y_istore (ls' := [some _, some _, some _, some _, some _, some _, some _]) rfl rfl rfl ?_
                refine y_aload_n rfl rfl ?_
                refine y_dup rfl rfl ?_
                refine y_getIv (v := I b5 7) rfl ((hX.2.1 _ hb_b5).1.trans ht_b5) (Nat.lt_of_lt_of_le hb_b5 hX.1) rfl rfl (congrFun ((hg.gx hX (by omega)) _ hlo_b5 (by omega)) 7) ?_
                refine y_iconst rfl ?_
                refine y_iadd rfl ?_
                refine y_putI rfl ((hX.2.1 _ hb_b5).1.trans ht_b5) (Nat.lt_of_lt_of_le hb_b5 hX.1) rfl (Nat.le_trans (by decide) (by omega : 94 ≤ _)) rfl rfl ?_
                refine y_nameI (fun I50 e50 => ?_)
                have hR1 := (hR0.grow hX).upS e50 hlo_b5 (by omega) ((hX.2.1 _ hb_b5).1.trans ht_b5) (by decide)
                have hK := (hK.x hRo hno hX).upE hRo hno (upI e50) (by omega) (by omega) (by rw [((hX.2.1 _ hb_b5).1.trans ht_b5)]; decide) (by rw [e50, upd2_ne (.inl (by omega))]; exact Int.le_refl _)
                have hth := (show I50 83 0 = I48 83 0 by rw [e50, upd2_ne (.inl (by omega))]).trans hth
                have hzz : ySz I48 I50 := ySz_ofE (upI e50) (by omega)
                have hB := (hB.trans hX).wr e50 rfl
                have h8 : ∀ a, 84 ≤ a → a ≤ 86 → I50 a = I a := fun a h1 h2 => (upI e50 a (by omega)).trans ((hX.2.1 a (by omega)).2.1.trans (h8 a h1 h2))
                have h3k : ∀ k, k ≠ 0 → I50 83 k = I 83 k := fun k hk => (congrFun (congrFun e50 83) k).trans ((upd2_ne (.inl (by omega))).trans ((congrFun (hX.2.1 83 (by omega)).2.1 k).trans (h3k k hk)))
                have hg := (hg.gx hX (by omega)).both e50
                have hday : I50 83 1 = I 83 1 := (congrFun (congrFun e50 83) 1).trans ((upd2_ne (.inl (by omega))).trans ((congrFun (hX.2.1 83 (by omega)).2.1 1).trans hday))
                have hRb : ∀ a, a < n → R48 a = R a := fun a ha => (hX.2.1 a (by omega)).2.2.trans (hRb a ha)
                have hS0 := hS
                have hR0 := hR1
                have ht_b5 := (hX.2.1 _ hb_b5).1.trans ht_b5
                have hb_b5 := Nat.lt_of_lt_of_le hb_b5 hX.1
                have hb0_b5 := hb_b5
                have hn := Nat.le_refl n48
                have h94 := hS0.1
                have hX := @yX.rf n48 tg48 I50 R48
                have hS := hS0.x hX
                have hR := hR0.x hn hX
                have hz := hX.sz h94
                have hxn := hX.1
                have hw_b5 := hR.sal hlo_b5 hb0_b5 ((hX.2.1 _ hb_b5).1.trans ht_b5)
                have hN := hR0.1
                have hnb := hR0.2.2.2.2.2.2
                have hthB := hth
                refine y_aload_n rfl rfl ?_
                refine y_dup rfl rfl ?_
                refine y_getIv (v := I b5 8) rfl ((hX.2.1 _ hb_b5).1.trans ht_b5) (Nat.lt_of_lt_of_le hb_b5 hX.1) rfl rfl ((congrFun ((hg.gx hX (by omega)) _ hlo_b5 (by omega)) 8).trans (by rw [upd2_ne (.inr (by decide))])) ?_
                refine y_iload rfl rfl ?_
                refine y_iadd rfl ?_
                refine y_putI rfl ((hX.2.1 _ hb_b5).1.trans ht_b5) (Nat.lt_of_lt_of_le hb_b5 hX.1) rfl (Nat.le_trans (by decide) (by omega : 94 ≤ _)) rfl rfl ?_
                refine y_nameI (fun I51 e51 => ?_)
                have hR1 := (hR0.grow hX).upS e51 hlo_b5 (by omega) ((hX.2.1 _ hb_b5).1.trans ht_b5) (by decide)
                have hK := (hK.x hRo hno hX).upE hRo hno (upI e51) (by omega) (by omega) (by rw [((hX.2.1 _ hb_b5).1.trans ht_b5)]; decide) (by rw [e51, upd2_ne (.inl (by omega))]; exact Int.le_refl _)
                have hth := (show I51 83 0 = I50 83 0 by rw [e51, upd2_ne (.inl (by omega))]).trans hth
                have hzz : ySz I50 I51 := ySz_ofE (upI e51) (by omega)
                have hB := (hB.trans hX).wr e51 rfl
                have h8 : ∀ a, 84 ≤ a → a ≤ 86 → I51 a = I a := fun a h1 h2 => (upI e51 a (by omega)).trans ((hX.2.1 a (by omega)).2.1.trans (h8 a h1 h2))
                have h3k : ∀ k, k ≠ 0 → I51 83 k = I 83 k := fun k hk => (congrFun (congrFun e51 83) k).trans ((upd2_ne (.inl (by omega))).trans ((congrFun (hX.2.1 83 (by omega)).2.1 k).trans (h3k k hk)))
                have hg := (hg.gx hX (by omega)).both e51
                have hday : I51 83 1 = I 83 1 := (congrFun (congrFun e51 83) 1).trans ((upd2_ne (.inl (by omega))).trans ((congrFun (hX.2.1 83 (by omega)).2.1 1).trans hday))
                have hRb : ∀ a, a < n → R48 a = R a := fun a ha => (hX.2.1 a (by omega)).2.2.trans (hRb a ha)
                have hS0 := hS
                have hR0 := hR1
                have ht_b5 := (hX.2.1 _ hb_b5).1.trans ht_b5
                have hb_b5 := Nat.lt_of_lt_of_le hb_b5 hX.1
                have hb0_b5 := hb_b5
                have hn := Nat.le_refl n48
                have h94 := hS0.1
                have hX := @yX.rf n48 tg48 I51 R48
                have hS := hS0.x hX
                have hR := hR0.x hn hX
                have hz := hX.sz h94
                have hxn := hX.1
                have hw_b5 := hR.sal hlo_b5 hb0_b5 ((hX.2.1 _ hb_b5).1.trans ht_b5)
                have hN := hR0.1
                have hnb := hR0.2.2.2.2.2.2
                have hthB := hth
                refine y_aload_n rfl rfl ?_
                refine y_dup rfl rfl ?_
                refine y_getIv (v := I b5 9) rfl ((hX.2.1 _ hb_b5).1.trans ht_b5) (Nat.lt_of_lt_of_le hb_b5 hX.1) rfl rfl ((congrFun ((hg.gx hX (by omega)) _ hlo_b5 (by omega)) 9).trans (by rw [upd2_ne (.inr (by decide)), upd2_ne (.inr (by decide))])) ?_
                refine y_iload rfl rfl ?_
                refine y_iadd rfl ?_
                refine y_putI rfl ((hX.2.1 _ hb_b5).1.trans ht_b5) (Nat.lt_of_lt_of_le hb_b5 hX.1) rfl (Nat.le_trans (by decide) (by omega : 94 ≤ _)) rfl rfl ?_
                refine y_nameI (fun I52 e52 => ?_)
                have hR1 := (hR0.grow hX).upS e52 hlo_b5 (by omega) ((hX.2.1 _ hb_b5).1.trans ht_b5) (by decide)
                have hK := (hK.x hRo hno hX).upE hRo hno (upI e52) (by omega) (by omega) (by rw [((hX.2.1 _ hb_b5).1.trans ht_b5)]; decide) (by rw [e52, upd2_ne (.inl (by omega))]; exact Int.le_refl _)
                have hth := (show I52 83 0 = I51 83 0 by rw [e52, upd2_ne (.inl (by omega))]).trans hth
                have hzz : ySz I51 I52 := ySz_ofE (upI e52) (by omega)
                have hB := (hB.trans hX).wr e52 rfl
                have h8 : ∀ a, 84 ≤ a → a ≤ 86 → I52 a = I a := fun a h1 h2 => (upI e52 a (by omega)).trans ((hX.2.1 a (by omega)).2.1.trans (h8 a h1 h2))
                have h3k : ∀ k, k ≠ 0 → I52 83 k = I 83 k := fun k hk => (congrFun (congrFun e52 83) k).trans ((upd2_ne (.inl (by omega))).trans ((congrFun (hX.2.1 83 (by omega)).2.1 k).trans (h3k k hk)))
                have hg := (hg.gx hX (by omega)).both e52
                have hday : I52 83 1 = I 83 1 := (congrFun (congrFun e52 83) 1).trans ((upd2_ne (.inl (by omega))).trans ((congrFun (hX.2.1 83 (by omega)).2.1 1).trans hday))
                have hRb : ∀ a, a < n → R48 a = R a := fun a ha => (hX.2.1 a (by omega)).2.2.trans (hRb a ha)
                have hS0 := hS
                have hR0 := hR1
                have ht_b5 := (hX.2.1 _ hb_b5).1.trans ht_b5
                have hb_b5 := Nat.lt_of_lt_of_le hb_b5 hX.1
                have hb0_b5 := hb_b5
                have hn := Nat.le_refl n48
                have h94 := hS0.1
                have hX := @yX.rf n48 tg48 I52 R48
                have hS := hS0.x hX
                have hR := hR0.x hn hX
                have hz := hX.sz h94
                have hxn := hX.1
                have hw_b5 := hR.sal hlo_b5 hb0_b5 ((hX.2.1 _ hb_b5).1.trans ht_b5)
                have hN := hR0.1
                have hnb := hR0.2.2.2.2.2.2
                have hthB := hth
                refine y_aload_n rfl rfl ?_
                refine y_dup rfl rfl ?_
                refine y_getIv (v := I 83 2) rfl (ySh.t hS rfl) (ySh.n hS rfl) rfl rfl ((congrFun ((hB.trans hX).n (by omega : 83 < n)) 2).trans (by repeat (first | rfl | rw [upd2_ne (by first | exact .inl (by omega) | exact .inr (by decide))]))) ?_
                refine y_iload rfl rfl ?_
                refine y_iadd rfl ?_
                refine y_putI rfl (ySh.t hS rfl) (ySh.n hS rfl) rfl (Nat.le_of_ble_eq_true rfl) rfl rfl ?_
                refine y_nameI (fun I53 e53 => ?_)
                have hR1 := (hR0.grow hX).mod0 e53 (by decide) (by decide)
                have hK := (hK.x hRo hno hX).upI (upI e53) (by decide) (by decide) (fun i hi => by have := (hRo.l87.2.2.2.2 i hi).2.1; omega) (by rw [e53, upd2_ne (.inr (by decide))]; exact Int.le_refl _)
                have hth := (show I53 83 0 = I52 83 0 by rw [e53, upd2_ne (.inr (by decide))]).trans hth
                have hzz : ySz I52 I53 := ySz_ofM (upI e53) (by rw [e53]; exact ⟨upd2_ne (.inr (by decide)), upd2_ne (.inr (by decide)), upd2_ne (.inr (by decide))⟩)
                have hB := (hB.trans hX).wr e53 rfl
                have h8 : ∀ a, 84 ≤ a → a ≤ 86 → I53 a = I a := fun a h1 h2 => (upI e53 a (by omega)).trans ((hX.2.1 a (by omega)).2.1.trans (h8 a h1 h2))
                have hg := (hg.gx hX (by omega)).skip e53 (by decide)
                have hday : I53 83 1 = I 83 1 := (congrFun (congrFun e53 83) 1).trans ((upd2_ne (.inr (by decide))).trans ((congrFun (hX.2.1 83 (by omega)).2.1 1).trans hday))
                have hRb : ∀ a, a < n → R48 a = R a := fun a ha => (hX.2.1 a (by omega)).2.2.trans (hRb a ha)
                have hS0 := hS
                have hR0 := hR1
                have ht_b5 := (hX.2.1 _ hb_b5).1.trans ht_b5
                have hb_b5 := Nat.lt_of_lt_of_le hb_b5 hX.1
                have hb0_b5 := hb_b5
                have hn := Nat.le_refl n48
                have h94 := hS0.1
                have hX := @yX.rf n48 tg48 I53 R48
                have hS := hS0.x hX
                have hR := hR0.x hn hX
                have hz := hX.sz h94
                have hxn := hX.1
                have hw_b5 := hR.sal hlo_b5 hb0_b5 ((hX.2.1 _ hb_b5).1.trans ht_b5)
                have hN := hR0.1
                have hnb := hR0.2.2.2.2.2.2
                have hthB := hth
                refine y_aload_n rfl rfl ?_
                refine y_getR rfl (ySh.t hS rfl) (ySh.n hS rfl) rfl rfl (ySh.r hS rfl) ?_
                refine y_aload_n rfl rfl ?_
                refine y_getIv (v := I b5 1) rfl ((hX.2.1 _ hb_b5).1.trans ht_b5) (Nat.lt_of_lt_of_le hb_b5 hX.1) rfl rfl ((congrFun ((hg.gx hX (by omega)) _ hlo_b5 (by omega)) 1).trans (by rw [upd2_ne (.inr (by decide)), upd2_ne (.inr (by decide)), upd2_ne (.inr (by decide))])) ?_
                refine y_dup2 rfl rfl rfl ?_
                refine y_ialoadv (J := I 84) rfl (ySh.t hS rfl) (ySh.n hS rfl) (by omega) (by omega) (((hB.trans hX).n (by omega)).trans (by repeat (first | rfl | (rw [upd2_row (by first | decide | omega)]) | refine upd2_cg ?_))) ?_
                refine y_iload_n rfl rfl ?_
                refine y_iload rfl rfl ?_
                refine y_isub rfl ?_
                refine y_iload rfl rfl ?_
                refine y_iadd rfl ?_
                refine y_isub rfl ?_
                refine y_iastore rfl (ySh.t hS rfl) (ySh.n hS rfl) (Nat.le_of_ble_eq_true rfl) (by omega) (by omega) ?_
                refine y_nameI (fun I54 e54 => ?_)
                have hR1 := (hR0.grow hX).arr e54 (by decide)
                have hK := (hK.x hRo hno hX).upI (upI e54) (by decide) (by decide) (fun i hi => by have := (hRo.l87.2.2.2.2 i hi).2.1; omega) (by rw [e54, upd2_ne (.inl (by omega))]; exact Int.le_refl _)
                have hth := (show I54 83 0 = I53 83 0 by rw [e54, upd2_ne (.inl (by omega))]).trans hth
                have hzz : ySz I53 I54 := ySz_ofE (upI e54) (by omega)
                have hB := (hB.trans hX).wr e54 rfl
                have hg := (hg.gx hX (by omega)).skip e54 (by decide)
                have hday : I54 83 1 = I 83 1 := (congrFun (congrFun e54 83) 1).trans ((upd2_ne (.inl (by omega))).trans ((congrFun (hX.2.1 83 (by omega)).2.1 1).trans hday))
                have hRb : ∀ a, a < n → R48 a = R a := fun a ha => (hX.2.1 a (by omega)).2.2.trans (hRb a ha)
                have hS0 := hS
                have hR0 := hR1
                have ht_b5 := (hX.2.1 _ hb_b5).1.trans ht_b5
                have hb_b5 := Nat.lt_of_lt_of_le hb_b5 hX.1
                have hb0_b5 := hb_b5
                have hn := Nat.le_refl n48
                have h94 := hS0.1
                have hX := @yX.rf n48 tg48 I54 R48
                have hS := hS0.x hX
                have hR := hR0.x hn hX
                have hz := hX.sz h94
                have hxn := hX.1
                have hw_b5 := hR.sal hlo_b5 hb0_b5 ((hX.2.1 _ hb_b5).1.trans ht_b5)
                have hN := hR0.1
                have hnb := hR0.2.2.2.2.2.2
                have hthB := hth
                refine y_aload_n rfl rfl ?_
                refine y_getR rfl (ySh.t hS rfl) (ySh.n hS rfl) rfl rfl (ySh.r hS rfl) ?_
                refine y_bip rfl (by decide) ?_
                refine y_dup2 rfl rfl rfl ?_
                refine y_ialoadw (j := 8) (J := _) rfl (ySh.t hS rfl) (ySh.n hS rfl) (by decide) (by decide) rfl ((hB.trans hX).n (by omega)) ?_
                refine y_iload_n rfl rfl ?_
                refine y_iload rfl rfl ?_
                refine y_isub rfl ?_
                refine y_iadd rfl ?_
                refine y_iastoreC (j := 8) rfl (ySh.t hS rfl) (ySh.n hS rfl) (Nat.le_of_ble_eq_true rfl) (by decide) (by decide) rfl ?_
                refine y_nameI (fun I55 e55 => ?_)
                have hR1 := (hR0.grow hX).arr e55 (by decide)
                have hK := (hK.x hRo hno hX).upI (upI e55) (by decide) (by decide) (fun i hi => by have := (hRo.l87.2.2.2.2 i hi).2.1; omega) (by rw [e55, upd2_ne (.inl (by omega))]; exact Int.le_refl _)
                have hth := (show I55 83 0 = I54 83 0 by rw [e55, upd2_ne (.inl (by omega))]).trans hth
                have hzz : ySz I54 I55 := ySz_ofE (upI e55) (by omega)
                have hB := (hB.trans hX).wr e55 rfl
                have hg := (hg.gx hX (by omega)).skip e55 (by decide)
                have hday : I55 83 1 = I 83 1 := (congrFun (congrFun e55 83) 1).trans ((upd2_ne (.inl (by omega))).trans ((congrFun (hX.2.1 83 (by omega)).2.1 1).trans hday))
                have hRb : ∀ a, a < n → R48 a = R a := fun a ha => (hX.2.1 a (by omega)).2.2.trans (hRb a ha)
                have hS0 := hS
                have hR0 := hR1
                have ht_b5 := (hX.2.1 _ hb_b5).1.trans ht_b5
                have hb_b5 := Nat.lt_of_lt_of_le hb_b5 hX.1
                have hb0_b5 := hb_b5
                have hn := Nat.le_refl n48
                have h94 := hS0.1
                have hX := @yX.rf n48 tg48 I55 R48
                have hS := hS0.x hX
                have hR := hR0.x hn hX
                have hz := hX.sz h94
                have hxn := hX.1
                have hw_b5 := hR.sal hlo_b5 hb0_b5 ((hX.2.1 _ hb_b5).1.trans ht_b5)
                have hN := hR0.1
                have hnb := hR0.2.2.2.2.2.2
                have hthB := hth
                refine y_iload_n rfl rfl ?_
                refine y_iload rfl rfl ?_
                refine y_isub rfl ?_
                refine y_ireturn rfl rfl rfl ?_
                first | (exfalso; omega) | (exact hQ0 _ eb_b5 _ hv_13 _ (yMx_comm.trans (show _ = yFe (I 83 1 - (I b5 6 + Int32.ofInt 30 * (I b5 7 + Int32.ofInt 1))) v_13 al2 from (if_pos (by omega)).symm)) _ (show _ = yRb (I 83 1 - (I b5 6 + Int32.ofInt 30 * (I b5 7 + Int32.ofInt 1))) v_13 (I b5 3) al1 from (if_pos (by omega)).symm) (by omega) _ _ _ _ _ _ _ hS ((hR0.grow hX).up (Nat.le_succ K) hk6) (hK.x hRo hno hX) hth rfl (hg.gx hX (by omega)) (hB.trans hX) (by omega) (by omega))
              · rw [hal_c] at ha_49
                have hnA := hX1.1
                have hX := hX.trans hX1
                have hS := hS0.x hX
                have hR := hR0.x hn hX
                have hz := hX.sz h94
                have hxn := hX.1
                have hw_b5 := hR.sal hlo_b5 hb0_b5 ((hX.2.1 _ hb_b5).1.trans ht_b5)
                have hth := (congrFun (hX1.2.1 83 (by omega)).2.1 0).trans hth
                refine y_ret1 ?_
                refine y_if_eqT rfl j_X14_pay_167 (by decide) ?_
                refine y_iconst rfl ?_
                refine y_istore (ls' := [some _, some _, some _, some _, some _, some _, some _]) rfl rfl rfl ?_
                refine y_aload_n rfl rfl ?_
                refine y_dup rfl rfl ?_
                refine y_getIv (v := I b5 7) rfl ((hX.2.1 _ hb_b5).1.trans ht_b5) (Nat.lt_of_lt_of_le hb_b5 hX.1) rfl rfl (congrFun ((hg.gx hX (by omega)) _ hlo_b5 (by omega)) 7) ?_
                refine y_iconst rfl ?_
                refine y_iadd rfl ?_
                refine y_putI rfl ((hX.2.1 _ hb_b5).1.trans ht_b5) (Nat.lt_of_lt_of_le hb_b5 hX.1) rfl (Nat.le_trans (by decide) (by omega : 94 ≤ _)) rfl rfl ?_
                refine y_nameI (fun I56 e56 => ?_)
                have hR1 := (hR0.grow hX).upS e56 hlo_b5 (by omega) ((hX.2.1 _ hb_b5).1.trans ht_b5) (by decide)
                have hK := (hK.x hRo hno hX).upE hRo hno (upI e56) (by omega) (by omega) (by rw [((hX.2.1 _ hb_b5).1.trans ht_b5)]; decide) (by rw [e56, upd2_ne (.inl (by omega))]; exact Int.le_refl _)
                have hth := (show I56 83 0 = I49 83 0 by rw [e56, upd2_ne (.inl (by omega))]).trans hth
                have hzz : ySz I49 I56 := ySz_ofE (upI e56) (by omega)
                have hB := (hB.trans hX).wr e56 rfl
                have h8 : ∀ a, 84 ≤ a → a ≤ 86 → I56 a = I a := fun a h1 h2 => (upI e56 a (by omega)).trans ((hX.2.1 a (by omega)).2.1.trans (h8 a h1 h2))
                have h3k : ∀ k, k ≠ 0 → I56 83 k = I 83 k := fun k hk => (congrFun (congrFun e56 83) k).trans ((upd2_ne (.inl (by omega))).trans ((congrFun (hX.2.1 83 (by omega)).2.1 k).trans (h3k k hk)))
                have hg := (hg.gx hX (by omega)).both e56
                have hday : I56 83 1 = I 83 1 := (congrFun (congrFun e56 83) 1).trans ((upd2_ne (.inl (by omega))).trans ((congrFun (hX.2.1 83 (by omega)).2.1 1).trans hday))
                have hRb : ∀ a, a < n → R49 a = R a := fun a ha => (hX.2.1 a (by omega)).2.2.trans (hRb a ha)
                have hS0 := hS
                have hR0 := hR1
                have ht_b5 := (hX.2.1 _ hb_b5).1.trans ht_b5
                have hb_b5 := Nat.lt_of_lt_of_le hb_b5 hX.1
                have hb0_b5 := hb_b5
                have hn := Nat.le_refl n49
                have h94 := hS0.1
                have hX := @yX.rf n49 tg49 I56 R49
                have hS := hS0.x hX
                have hR := hR0.x hn hX
                have hz := hX.sz h94
                have hxn := hX.1
                have hw_b5 := hR.sal hlo_b5 hb0_b5 ((hX.2.1 _ hb_b5).1.trans ht_b5)
                have hN := hR0.1
                have hnb := hR0.2.2.2.2.2.2
                have hthB := hth
                refine y_aload_n rfl rfl ?_
                refine y_dup rfl rfl ?_
                refine y_getIv (v := I b5 8) rfl ((hX.2.1 _ hb_b5).1.trans ht_b5) (Nat.lt_of_lt_of_le hb_b5 hX.1) rfl rfl ((congrFun ((hg.gx hX (by omega)) _ hlo_b5 (by omega)) 8).trans (by rw [upd2_ne (.inr (by decide))])) ?_
                refine y_iload rfl rfl ?_
                refine y_iadd rfl ?_
                refine y_putI rfl ((hX.2.1 _ hb_b5).1.trans ht_b5) (Nat.lt_of_lt_of_le hb_b5 hX.1) rfl (Nat.le_trans (by decide) (by omega : 94 ≤ _)) rfl rfl ?_
                refine y_nameI (fun I57 e57 => ?_)
                have hR1 := (hR0.grow hX).upS e57 hlo_b5 (by omega) ((hX.2.1 _ hb_b5).1.trans ht_b5) (by decide)
                have hK := (hK.x hRo hno hX).upE hRo hno (upI e57) (by omega) (by omega) (by rw [((hX.2.1 _ hb_b5).1.trans ht_b5)]; decide) (by rw [e57, upd2_ne (.inl (by omega))]; exact Int.le_refl _)
                have hth := (show I57 83 0 = I56 83 0 by rw [e57, upd2_ne (.inl (by omega))]).trans hth
                have hzz : ySz I56 I57 := ySz_ofE (upI e57) (by omega)
                have hB := (hB.trans hX).wr e57 rfl
                have h8 : ∀ a, 84 ≤ a → a ≤ 86 → I57 a = I a := fun a h1 h2 => (upI e57 a (by omega)).trans ((hX.2.1 a (by omega)).2.1.trans (h8 a h1 h2))
                have h3k : ∀ k, k ≠ 0 → I57 83 k = I 83 k := fun k hk => (congrFun (congrFun e57 83) k).trans ((upd2_ne (.inl (by omega))).trans ((congrFun (hX.2.1 83 (by omega)).2.1 k).trans (h3k k hk)))
                have hg := (hg.gx hX (by omega)).both e57
                have hday : I57 83 1 = I 83 1 := (congrFun (congrFun e57 83) 1).trans ((upd2_ne (.inl (by omega))).trans ((congrFun (hX.2.1 83 (by omega)).2.1 1).trans hday))
                have hRb : ∀ a, a < n → R49 a = R a := fun a ha => (hX.2.1 a (by omega)).2.2.trans (hRb a ha)
                have hS0 := hS
                have hR0 := hR1
                have ht_b5 := (hX.2.1 _ hb_b5).1.trans ht_b5
                have hb_b5 := Nat.lt_of_lt_of_le hb_b5 hX.1
                have hb0_b5 := hb_b5
                have hn := Nat.le_refl n49
                have h94 := hS0.1
                have hX := @yX.rf n49 tg49 I57 R49
                have hS := hS0.x hX
                have hR := hR0.x hn hX
                have hz := hX.sz h94
                have hxn := hX.1
                have hw_b5 := hR.sal hlo_b5 hb0_b5 ((hX.2.1 _ hb_b5).1.trans ht_b5)
                have hN := hR0.1
                have hnb := hR0.2.2.2.2.2.2
                have hthB := hth
                refine y_aload_n rfl rfl ?_
                refine y_dup rfl rfl ?_
                refine y_getIv (v := I b5 9) rfl ((hX.2.1 _ hb_b5).1.trans ht_b5) (Nat.lt_of_lt_of_le hb_b5 hX.1) rfl rfl ((congrFun ((hg.gx hX (by omega)) _ hlo_b5 (by omega)) 9).trans (by rw [upd2_ne (.inr (by decide)), upd2_ne (.inr (by decide))])) ?_
                refine y_iload rfl rfl ?_
                refine y_iadd rfl ?_
                refine y_putI rfl ((hX.2.1 _ hb_b5).1.trans ht_b5) (Nat.lt_of_lt_of_le hb_b5 hX.1) rfl (Nat.le_trans (by decide) (by omega : 94 ≤ _)) rfl rfl ?_
                refine y_nameI (fun I58 e58 => ?_)
                have hR1 := (hR0.grow hX).upS e58 hlo_b5 (by omega) ((hX.2.1 _ hb_b5).1.trans ht_b5) (by decide)
                have hK := (hK.x hRo hno hX).upE hRo hno (upI e58) (by omega) (by omega) (by rw [((hX.2.1 _ hb_b5).1.trans ht_b5)]; decide) (by rw [e58, upd2_ne (.inl (by omega))]; exact Int.le_refl _)
                have hth := (show I58 83 0 = I57 83 0 by rw [e58, upd2_ne (.inl (by omega))]).trans hth
                have hzz : ySz I57 I58 := ySz_ofE (upI e58) (by omega)
                have hB := (hB.trans hX).wr e58 rfl
                have h8 : ∀ a, 84 ≤ a → a ≤ 86 → I58 a = I a := fun a h1 h2 => (upI e58 a (by omega)).trans ((hX.2.1 a (by omega)).2.1.trans (h8 a h1 h2))
                have h3k : ∀ k, k ≠ 0 → I58 83 k = I 83 k := fun k hk => (congrFun (congrFun e58 83) k).trans ((upd2_ne (.inl (by omega))).trans ((congrFun (hX.2.1 83 (by omega)).2.1 k).trans (h3k k hk)))
                have hg := (hg.gx hX (by omega)).both e58
                have hday : I58 83 1 = I 83 1 := (congrFun (congrFun e58 83) 1).trans ((upd2_ne (.inl (by omega))).trans ((congrFun (hX.2.1 83 (by omega)).2.1 1).trans hday))
                have hRb : ∀ a, a < n → R49 a = R a := fun a ha => (hX.2.1 a (by omega)).2.2.trans (hRb a ha)
                have hS0 := hS
                have hR0 := hR1
                have ht_b5 := (hX.2.1 _ hb_b5).1.trans ht_b5
                have hb_b5 := Nat.lt_of_lt_of_le hb_b5 hX.1
                have hb0_b5 := hb_b5
                have hn := Nat.le_refl n49
                have h94 := hS0.1
                have hX := @yX.rf n49 tg49 I58 R49
                have hS := hS0.x hX
                have hR := hR0.x hn hX
                have hz := hX.sz h94
                have hxn := hX.1
                have hw_b5 := hR.sal hlo_b5 hb0_b5 ((hX.2.1 _ hb_b5).1.trans ht_b5)
                have hN := hR0.1
                have hnb := hR0.2.2.2.2.2.2
                have hthB := hth
                refine y_aload_n rfl rfl ?_
                refine y_dup rfl rfl ?_
                refine y_getIv (v := I 83 2) rfl (ySh.t hS rfl) (ySh.n hS rfl) rfl rfl ((congrFun ((hB.trans hX).n (by omega : 83 < n)) 2).trans (by repeat (first | rfl | rw [upd2_ne (by first | exact .inl (by omega) | exact .inr (by decide))]))) ?_
                refine y_iload rfl rfl ?_
                refine y_iadd rfl ?_
                refine y_putI rfl (ySh.t hS rfl) (ySh.n hS rfl) rfl (Nat.le_of_ble_eq_true rfl) rfl rfl ?_
                refine y_nameI (fun I59 e59 => ?_)
                have hR1 := (hR0.grow hX).mod0 e59 (by decide) (by decide)
                have hK := (hK.x hRo hno hX).upI (upI e59) (by decide) (by decide) (fun i hi => by have := (hRo.l87.2.2.2.2 i hi).2.1; omega) (by rw [e59, upd2_ne (.inr (by decide))]; exact Int.le_refl _)
                have hth := (show I59 83 0 = I58 83 0 by rw [e59, upd2_ne (.inr (by decide))]).trans hth
                have hzz : ySz I58 I59 := ySz_ofM (upI e59) (by rw [e59]; exact ⟨upd2_ne (.inr (by decide)), upd2_ne (.inr (by decide)), upd2_ne (.inr (by decide))⟩)
                have hB := (hB.trans hX).wr e59 rfl
                have h8 : ∀ a, 84 ≤ a → a ≤ 86 → I59 a = I a := fun a h1 h2 => (upI e59 a (by omega)).trans ((hX.2.1 a (by omega)).2.1.trans (h8 a h1 h2))
                have hg := (hg.gx hX (by omega)).skip e59 (by decide)
                have hday : I59 83 1 = I 83 1 := (congrFun (congrFun e59 83) 1).trans ((upd2_ne (.inr (by decide))).trans ((congrFun (hX.2.1 83 (by omega)).2.1 1).trans hday))
                have hRb : ∀ a, a < n → R49 a = R a := fun a ha => (hX.2.1 a (by omega)).2.2.trans (hRb a ha)
                have hS0 := hS
                have hR0 := hR1
                have ht_b5 := (hX.2.1 _ hb_b5).1.trans ht_b5
                have hb_b5 := Nat.lt_of_lt_of_le hb_b5 hX.1
                have hb0_b5 := hb_b5
                have hn := Nat.le_refl n49
                have h94 := hS0.1
                have hX := @yX.rf n49 tg49 I59 R49
                have hS := hS0.x hX
                have hR := hR0.x hn hX
                have hz := hX.sz h94
                have hxn := hX.1
                have hw_b5 := hR.sal hlo_b5 hb0_b5 ((hX.2.1 _ hb_b5).1.trans ht_b5)
                have hN := hR0.1
                have hnb := hR0.2.2.2.2.2.2
                have hthB := hth
                refine y_aload_n rfl rfl ?_
                refine y_getR rfl (ySh.t hS rfl) (ySh.n hS rfl) rfl rfl (ySh.r hS rfl) ?_
                refine y_aload_n rfl rfl ?_
                refine y_getIv (v := I b5 1) rfl ((hX.2.1 _ hb_b5).1.trans ht_b5) (Nat.lt_of_lt_of_le hb_b5 hX.1) rfl rfl ((congrFun ((hg.gx hX (by omega)) _ hlo_b5 (by omega)) 1).trans (by rw [upd2_ne (.inr (by decide)), upd2_ne (.inr (by decide)), upd2_ne (.inr (by decide))])) ?_
                refine y_dup2 rfl rfl rfl ?_
                refine y_ialoadv (J := I 84) rfl (ySh.t hS rfl) (ySh.n hS rfl) (by omega) (by omega) (((hB.trans hX).n (by omega)).trans (by repeat (first | rfl | (rw [upd2_row (by first | decide | omega)]) | refine upd2_cg ?_))) ?_
                refine y_iload_n rfl rfl ?_
                refine y_iload rfl rfl ?_
                refine y_isub rfl ?_
                refine y_iload rfl rfl ?_
                refine y_iadd rfl ?_
                refine y_isub rfl ?_
                refine y_iastore rfl (ySh.t hS rfl) (ySh.n hS rfl) (Nat.le_of_ble_eq_true rfl) (by omega) (by omega) ?_
                refine y_nameI (fun I60 e60 => ?_)
                have hR1 := (hR0.grow hX).arr e60 (by decide)
                have hK := (hK.x hRo hno hX).upI (upI e60) (by decide) (by decide) (fun i hi => by have := (hRo.l87.2.2.2.2 i hi).2.1; omega) (by rw [e60, upd2_ne (.inl (by omega))]; exact Int.le_refl _)
                have hth := (show I60 83 0 = I59 83 0 by rw [e60, upd2_ne (.inl (by omega))]).trans hth
                have hzz : ySz I59 I60 := ySz_ofE (upI e60) (by omega)
                have hB := (hB.trans hX).wr e60 rfl
                have hg := (hg.gx hX (by omega)).skip e60 (by decide)
                have hday : I60 83 1 = I 83 1 := (congrFun (congrFun e60 83) 1).trans ((upd2_ne (.inl (by omega))).trans ((congrFun (hX.2.1 83 (by omega)).2.1 1).trans hday))
                have hRb : ∀ a, a < n → R49 a = R a := fun a ha => (hX.2.1 a (by omega)).2.2.trans (hRb a ha)
                have hS0 := hS
                have hR0 := hR1
                have ht_b5 := (hX.2.1 _ hb_b5).1.trans ht_b5
                have hb_b5 := Nat.lt_of_lt_of_le hb_b5 hX.1
                have hb0_b5 := hb_b5
                have hn := Nat.le_refl n49
                have h94 := hS0.1
                have hX := @yX.rf n49 tg49 I60 R49
                have hS := hS0.x hX
                have hR := hR0.x hn hX
                have hz := hX.sz h94
                have hxn := hX.1
                have hw_b5 := hR.sal hlo_b5 hb0_b5 ((hX.2.1 _ hb_b5).1.trans ht_b5)
                have hN := hR0.1
                have hnb := hR0.2.2.2.2.2.2
                have hthB := hth
                refine y_aload_n rfl rfl ?_
                refine y_getR rfl (ySh.t hS rfl) (ySh.n hS rfl) rfl rfl (ySh.r hS rfl) ?_
                refine y_bip rfl (by decide) ?_
                refine y_dup2 rfl rfl rfl ?_
                refine y_ialoadw (j := 8) (J := _) rfl (ySh.t hS rfl) (ySh.n hS rfl) (by decide) (by decide) rfl ((hB.trans hX).n (by omega)) ?_
                refine y_iload_n rfl rfl ?_
                refine y_iload rfl rfl ?_
                refine y_isub rfl ?_
                refine y_iadd rfl ?_
                refine y_iastoreC (j := 8) rfl (ySh.t hS rfl) (ySh.n hS rfl) (Nat.le_of_ble_eq_true rfl) (by decide) (by decide) rfl ?_
                refine y_nameI (fun I61 e61 => ?_)
                have hR1 := (hR0.grow hX).arr e61 (by decide)
                have hK := (hK.x hRo hno hX).upI (upI e61) (by decide) (by decide) (fun i hi => by have := (hRo.l87.2.2.2.2 i hi).2.1; omega) (by rw [e61, upd2_ne (.inl (by omega))]; exact Int.le_refl _)
                have hth := (show I61 83 0 = I60 83 0 by rw [e61, upd2_ne (.inl (by omega))]).trans hth
                have hzz : ySz I60 I61 := ySz_ofE (upI e61) (by omega)
                have hB := (hB.trans hX).wr e61 rfl
                have hg := (hg.gx hX (by omega)).skip e61 (by decide)
                have hday : I61 83 1 = I 83 1 := (congrFun (congrFun e61 83) 1).trans ((upd2_ne (.inl (by omega))).trans ((congrFun (hX.2.1 83 (by omega)).2.1 1).trans hday))
                have hRb : ∀ a, a < n → R49 a = R a := fun a ha => (hX.2.1 a (by omega)).2.2.trans (hRb a ha)
                have hS0 := hS
                have hR0 := hR1
                have ht_b5 := (hX.2.1 _ hb_b5).1.trans ht_b5
                have hb_b5 := Nat.lt_of_lt_of_le hb_b5 hX.1
                have hb0_b5 := hb_b5
                have hn := Nat.le_refl n49
                have h94 := hS0.1
                have hX := @yX.rf n49 tg49 I61 R49
                have hS := hS0.x hX
                have hR := hR0.x hn hX
                have hz := hX.sz h94
                have hxn := hX.1
                have hw_b5 := hR.sal hlo_b5 hb0_b5 ((hX.2.1 _ hb_b5).1.trans ht_b5)
                have hN := hR0.1
                have hnb := hR0.2.2.2.2.2.2
                have hthB := hth
                refine y_iload_n rfl rfl ?_
                refine y_iload rfl rfl ?_
                refine y_isub rfl ?_
                refine y_ireturn rfl rfl rfl ?_
                first | (exfalso; omega) | (exact hQ0 _ eb_b5 _ hv_13 _ (yMx_comm.trans (show _ = yFe (I 83 1 - (I b5 6 + Int32.ofInt 30 * (I b5 7 + Int32.ofInt 1))) v_13 al2 from (if_pos (by omega)).symm)) _ (show Int32.ofInt 0 = yRb (I 83 1 - (I b5 6 + Int32.ofInt 30 * (I b5 7 + Int32.ofInt 1))) v_13 (I b5 3) al1 from (if_neg (by omega)).symm) (by omega) _ _ _ _ _ _ _ hS ((hR0.grow hX).up (Nat.le_succ K) hk6) (hK.x hRo hno hX) hth rfl (hg.gx hX (by omega)) (hB.trans hX) (by omega) (by omega))
          · rw [hal_c] at ha_39
            have hnA := hX1.1
            have hX := hX.trans hX1
            have hS := hS0.x hX
            have hR := hR0.x hn hX
            have hz := hX.sz h94
            have hxn := hX.1
            have hw_b5 := hR.sal hlo_b5 hb0_b5 ((hX.2.1 _ hb_b5).1.trans ht_b5)
            have hth := (congrFun (hX1.2.1 83 (by omega)).2.1 0).trans hth
            refine y_ret1 ?_
            refine y_if_eqT rfl j_X14_pay_126 (by decide) ?_
            refine y_iconst rfl ?_
            refine y_istore (ls' := [some _, some _, some _, some _, some _, some _, _]) rfl rfl rfl ?_
            refine y_iload rfl rfl ?_
            refine y_bip rfl (by decide) ?_
            refine y_icmp_gt rfl j_X14_pay_167 (fun h_62 => ?_) (fun h_63 => ?_)
            · rw [yz_m10] at h_62
              refine y_iconst rfl ?_
              refine y_istore (ls' := [some _, some _, some _, some _, some _, some _, some _]) rfl rfl rfl ?_
              refine y_aload_n rfl rfl ?_
              refine y_dup rfl rfl ?_
              refine y_getIv (v := I b5 7) rfl ((hX.2.1 _ hb_b5).1.trans ht_b5) (Nat.lt_of_lt_of_le hb_b5 hX.1) rfl rfl (congrFun ((hg.gx hX (by omega)) _ hlo_b5 (by omega)) 7) ?_
              refine y_iconst rfl ?_
              refine y_iadd rfl ?_
              refine y_putI rfl ((hX.2.1 _ hb_b5).1.trans ht_b5) (Nat.lt_of_lt_of_le hb_b5 hX.1) rfl (Nat.le_trans (by decide) (by omega : 94 ≤ _)) rfl rfl ?_
              refine y_nameI (fun I64 e64 => ?_)
              have hR1 := (hR0.grow hX).upS e64 hlo_b5 (by omega) ((hX.2.1 _ hb_b5).1.trans ht_b5) (by decide)
              have hK := (hK.x hRo hno hX).upE hRo hno (upI e64) (by omega) (by omega) (by rw [((hX.2.1 _ hb_b5).1.trans ht_b5)]; decide) (by rw [e64, upd2_ne (.inl (by omega))]; exact Int.le_refl _)
              have hth := (show I64 83 0 = I39 83 0 by rw [e64, upd2_ne (.inl (by omega))]).trans hth
              have hzz : ySz I39 I64 := ySz_ofE (upI e64) (by omega)
              have hB := (hB.trans hX).wr e64 rfl
              have h8 : ∀ a, 84 ≤ a → a ≤ 86 → I64 a = I a := fun a h1 h2 => (upI e64 a (by omega)).trans ((hX.2.1 a (by omega)).2.1.trans (h8 a h1 h2))
              have h3k : ∀ k, k ≠ 0 → I64 83 k = I 83 k := fun k hk => (congrFun (congrFun e64 83) k).trans ((upd2_ne (.inl (by omega))).trans ((congrFun (hX.2.1 83 (by omega)).2.1 k).trans (h3k k hk)))
              have hg := (hg.gx hX (by omega)).both e64
              have hday : I64 83 1 = I 83 1 := (congrFun (congrFun e64 83) 1).trans ((upd2_ne (.inl (by omega))).trans ((congrFun (hX.2.1 83 (by omega)).2.1 1).trans hday))
              have hRb : ∀ a, a < n → R39 a = R a := fun a ha => (hX.2.1 a (by omega)).2.2.trans (hRb a ha)
              have hS0 := hS
              have hR0 := hR1
              have ht_b5 := (hX.2.1 _ hb_b5).1.trans ht_b5
              have hb_b5 := Nat.lt_of_lt_of_le hb_b5 hX.1
              have hb0_b5 := hb_b5
              have hn := Nat.le_refl n39
              have h94 := hS0.1
              have hX := @yX.rf n39 tg39 I64 R39
              have hS := hS0.x hX
              have hR := hR0.x hn hX
              have hz := hX.sz h94
              have hxn := hX.1
              have hw_b5 := hR.sal hlo_b5 hb0_b5 ((hX.2.1 _ hb_b5).1.trans ht_b5)
              have hN := hR0.1
              have hnb := hR0.2.2.2.2.2.2
              have hthB := hth
              refine y_aload_n rfl rfl ?_
              refine y_dup rfl rfl ?_
              refine y_getIv (v := I b5 8) rfl ((hX.2.1 _ hb_b5).1.trans ht_b5) (Nat.lt_of_lt_of_le hb_b5 hX.1) rfl rfl ((congrFun ((hg.gx hX (by omega)) _ hlo_b5 (by omega)) 8).trans (by rw [upd2_ne (.inr (by decide))])) ?_
              refine y_iload rfl rfl ?_
              refine y_iadd rfl ?_
              refine y_putI rfl ((hX.2.1 _ hb_b5).1.trans ht_b5) (Nat.lt_of_lt_of_le hb_b5 hX.1) rfl (Nat.le_trans (by decide) (by omega : 94 ≤ _)) rfl rfl ?_
              refine y_nameI (fun I65 e65 => ?_)
              have hR1 := (hR0.grow hX).upS e65 hlo_b5 (by omega) ((hX.2.1 _ hb_b5).1.trans ht_b5) (by decide)
              have hK := (hK.x hRo hno hX).upE hRo hno (upI e65) (by omega) (by omega) (by rw [((hX.2.1 _ hb_b5).1.trans ht_b5)]; decide) (by rw [e65, upd2_ne (.inl (by omega))]; exact Int.le_refl _)
              have hth := (show I65 83 0 = I64 83 0 by rw [e65, upd2_ne (.inl (by omega))]).trans hth
              have hzz : ySz I64 I65 := ySz_ofE (upI e65) (by omega)
              have hB := (hB.trans hX).wr e65 rfl
              have h8 : ∀ a, 84 ≤ a → a ≤ 86 → I65 a = I a := fun a h1 h2 => (upI e65 a (by omega)).trans ((hX.2.1 a (by omega)).2.1.trans (h8 a h1 h2))
              have h3k : ∀ k, k ≠ 0 → I65 83 k = I 83 k := fun k hk => (congrFun (congrFun e65 83) k).trans ((upd2_ne (.inl (by omega))).trans ((congrFun (hX.2.1 83 (by omega)).2.1 k).trans (h3k k hk)))
              have hg := (hg.gx hX (by omega)).both e65
              have hday : I65 83 1 = I 83 1 := (congrFun (congrFun e65 83) 1).trans ((upd2_ne (.inl (by omega))).trans ((congrFun (hX.2.1 83 (by omega)).2.1 1).trans hday))
              have hRb : ∀ a, a < n → R39 a = R a := fun a ha => (hX.2.1 a (by omega)).2.2.trans (hRb a ha)
              have hS0 := hS
              have hR0 := hR1
              have ht_b5 := (hX.2.1 _ hb_b5).1.trans ht_b5
              have hb_b5 := Nat.lt_of_lt_of_le hb_b5 hX.1
              have hb0_b5 := hb_b5
              have hn := Nat.le_refl n39
              have h94 := hS0.1
              have hX := @yX.rf n39 tg39 I65 R39
              have hS := hS0.x hX
              have hR := hR0.x hn hX
              have hz := hX.sz h94
              have hxn := hX.1
              have hw_b5 := hR.sal hlo_b5 hb0_b5 ((hX.2.1 _ hb_b5).1.trans ht_b5)
              have hN := hR0.1
              have hnb := hR0.2.2.2.2.2.2
              have hthB := hth
              refine y_aload_n rfl rfl ?_
              refine y_dup rfl rfl ?_
              refine y_getIv (v := I b5 9) rfl ((hX.2.1 _ hb_b5).1.trans ht_b5) (Nat.lt_of_lt_of_le hb_b5 hX.1) rfl rfl ((congrFun ((hg.gx hX (by omega)) _ hlo_b5 (by omega)) 9).trans (by rw [upd2_ne (.inr (by decide)), upd2_ne (.inr (by decide))])) ?_
              refine y_iload rfl rfl ?_
              refine y_iadd rfl ?_
              refine y_putI rfl ((hX.2.1 _ hb_b5).1.trans ht_b5) (Nat.lt_of_lt_of_le hb_b5 hX.1) rfl (Nat.le_trans (by decide) (by omega : 94 ≤ _)) rfl rfl ?_
              refine y_nameI (fun I66 e66 => ?_)
              have hR1 := (hR0.grow hX).upS e66 hlo_b5 (by omega) ((hX.2.1 _ hb_b5).1.trans ht_b5) (by decide)
              have hK := (hK.x hRo hno hX).upE hRo hno (upI e66) (by omega) (by omega) (by rw [((hX.2.1 _ hb_b5).1.trans ht_b5)]; decide) (by rw [e66, upd2_ne (.inl (by omega))]; exact Int.le_refl _)
              have hth := (show I66 83 0 = I65 83 0 by rw [e66, upd2_ne (.inl (by omega))]).trans hth
              have hzz : ySz I65 I66 := ySz_ofE (upI e66) (by omega)
              have hB := (hB.trans hX).wr e66 rfl
              have h8 : ∀ a, 84 ≤ a → a ≤ 86 → I66 a = I a := fun a h1 h2 => (upI e66 a (by omega)).trans ((hX.2.1 a (by omega)).2.1.trans (h8 a h1 h2))
              have h3k : ∀ k, k ≠ 0 → I66 83 k = I 83 k := fun k hk => (congrFun (congrFun e66 83) k).trans ((upd2_ne (.inl (by omega))).trans ((congrFun (hX.2.1 83 (by omega)).2.1 k).trans (h3k k hk)))
              have hg := (hg.gx hX (by omega)).both e66
              have hday : I66 83 1 = I 83 1 := (congrFun (congrFun e66 83) 1).trans ((upd2_ne (.inl (by omega))).trans ((congrFun (hX.2.1 83 (by omega)).2.1 1).trans hday))
              have hRb : ∀ a, a < n → R39 a = R a := fun a ha => (hX.2.1 a (by omega)).2.2.trans (hRb a ha)
              have hS0 := hS
              have hR0 := hR1
              have ht_b5 := (hX.2.1 _ hb_b5).1.trans ht_b5
              have hb_b5 := Nat.lt_of_lt_of_le hb_b5 hX.1
              have hb0_b5 := hb_b5
              have hn := Nat.le_refl n39
              have h94 := hS0.1
              have hX := @yX.rf n39 tg39 I66 R39
              have hS := hS0.x hX
              have hR := hR0.x hn hX
              have hz := hX.sz h94
              have hxn := hX.1
              have hw_b5 := hR.sal hlo_b5 hb0_b5 ((hX.2.1 _ hb_b5).1.trans ht_b5)
              have hN := hR0.1
              have hnb := hR0.2.2.2.2.2.2
              have hthB := hth
              refine y_aload_n rfl rfl ?_
              refine y_dup rfl rfl ?_
              refine y_getIv (v := I 83 2) rfl (ySh.t hS rfl) (ySh.n hS rfl) rfl rfl ((congrFun ((hB.trans hX).n (by omega : 83 < n)) 2).trans (by repeat (first | rfl | rw [upd2_ne (by first | exact .inl (by omega) | exact .inr (by decide))]))) ?_
              refine y_iload rfl rfl ?_
              refine y_iadd rfl ?_
              refine y_putI rfl (ySh.t hS rfl) (ySh.n hS rfl) rfl (Nat.le_of_ble_eq_true rfl) rfl rfl ?_
              refine y_nameI (fun I67 e67 => ?_)
              have hR1 := (hR0.grow hX).mod0 e67 (by decide) (by decide)
              have hK := (hK.x hRo hno hX).upI (upI e67) (by decide) (by decide) (fun i hi => by have := (hRo.l87.2.2.2.2 i hi).2.1; omega) (by rw [e67, upd2_ne (.inr (by decide))]; exact Int.le_refl _)
              have hth := (show I67 83 0 = I66 83 0 by rw [e67, upd2_ne (.inr (by decide))]).trans hth
              have hzz : ySz I66 I67 := ySz_ofM (upI e67) (by rw [e67]; exact ⟨upd2_ne (.inr (by decide)), upd2_ne (.inr (by decide)), upd2_ne (.inr (by decide))⟩)
              have hB := (hB.trans hX).wr e67 rfl
              have h8 : ∀ a, 84 ≤ a → a ≤ 86 → I67 a = I a := fun a h1 h2 => (upI e67 a (by omega)).trans ((hX.2.1 a (by omega)).2.1.trans (h8 a h1 h2))
              have hg := (hg.gx hX (by omega)).skip e67 (by decide)
              have hday : I67 83 1 = I 83 1 := (congrFun (congrFun e67 83) 1).trans ((upd2_ne (.inr (by decide))).trans ((congrFun (hX.2.1 83 (by omega)).2.1 1).trans hday))
              have hRb : ∀ a, a < n → R39 a = R a := fun a ha => (hX.2.1 a (by omega)).2.2.trans (hRb a ha)
              have hS0 := hS
              have hR0 := hR1
              have ht_b5 := (hX.2.1 _ hb_b5).1.trans ht_b5
              have hb_b5 := Nat.lt_of_lt_of_le hb_b5 hX.1
              have hb0_b5 := hb_b5
              have hn := Nat.le_refl n39
              have h94 := hS0.1
              have hX := @yX.rf n39 tg39 I67 R39
              have hS := hS0.x hX
              have hR := hR0.x hn hX
              have hz := hX.sz h94
              have hxn := hX.1
              have hw_b5 := hR.sal hlo_b5 hb0_b5 ((hX.2.1 _ hb_b5).1.trans ht_b5)
              have hN := hR0.1
              have hnb := hR0.2.2.2.2.2.2
              have hthB := hth
              refine y_aload_n rfl rfl ?_
              refine y_getR rfl (ySh.t hS rfl) (ySh.n hS rfl) rfl rfl (ySh.r hS rfl) ?_
              refine y_aload_n rfl rfl ?_
              refine y_getIv (v := I b5 1) rfl ((hX.2.1 _ hb_b5).1.trans ht_b5) (Nat.lt_of_lt_of_le hb_b5 hX.1) rfl rfl ((congrFun ((hg.gx hX (by omega)) _ hlo_b5 (by omega)) 1).trans (by rw [upd2_ne (.inr (by decide)), upd2_ne (.inr (by decide)), upd2_ne (.inr (by decide))])) ?_
              refine y_dup2 rfl rfl rfl ?_
              refine y_ialoadv (J := I 84) rfl (ySh.t hS rfl) (ySh.n hS rfl) (by omega) (by omega) (((hB.trans hX).n (by omega)).trans (by repeat (first | rfl | (rw [upd2_row (by first | decide | omega)]) | refine upd2_cg ?_))) ?_
              refine y_iload_n rfl rfl ?_
              refine y_iload rfl rfl ?_
              refine y_isub rfl ?_
              refine y_iload rfl rfl ?_
              refine y_iadd rfl ?_
              refine y_isub rfl ?_
              refine y_iastore rfl (ySh.t hS rfl) (ySh.n hS rfl) (Nat.le_of_ble_eq_true rfl) (by omega) (by omega) ?_
              refine y_nameI (fun I68 e68 => ?_)
              have hR1 := (hR0.grow hX).arr e68 (by decide)
              have hK := (hK.x hRo hno hX).upI (upI e68) (by decide) (by decide) (fun i hi => by have := (hRo.l87.2.2.2.2 i hi).2.1; omega) (by rw [e68, upd2_ne (.inl (by omega))]; exact Int.le_refl _)
              have hth := (show I68 83 0 = I67 83 0 by rw [e68, upd2_ne (.inl (by omega))]).trans hth
              have hzz : ySz I67 I68 := ySz_ofE (upI e68) (by omega)
              have hB := (hB.trans hX).wr e68 rfl
              have hg := (hg.gx hX (by omega)).skip e68 (by decide)
              have hday : I68 83 1 = I 83 1 := (congrFun (congrFun e68 83) 1).trans ((upd2_ne (.inl (by omega))).trans ((congrFun (hX.2.1 83 (by omega)).2.1 1).trans hday))
              have hRb : ∀ a, a < n → R39 a = R a := fun a ha => (hX.2.1 a (by omega)).2.2.trans (hRb a ha)
              have hS0 := hS
              have hR0 := hR1
              have ht_b5 := (hX.2.1 _ hb_b5).1.trans ht_b5
              have hb_b5 := Nat.lt_of_lt_of_le hb_b5 hX.1
              have hb0_b5 := hb_b5
              have hn := Nat.le_refl n39
              have h94 := hS0.1
              have hX := @yX.rf n39 tg39 I68 R39
              have hS := hS0.x hX
              have hR := hR0.x hn hX
              have hz := hX.sz h94
              have hxn := hX.1
              have hw_b5 := hR.sal hlo_b5 hb0_b5 ((hX.2.1 _ hb_b5).1.trans ht_b5)
              have hN := hR0.1
              have hnb := hR0.2.2.2.2.2.2
              have hthB := hth
              refine y_aload_n rfl rfl ?_
              refine y_getR rfl (ySh.t hS rfl) (ySh.n hS rfl) rfl rfl (ySh.r hS rfl) ?_
              refine y_bip rfl (by decide) ?_
              refine y_dup2 rfl rfl rfl ?_
              refine y_ialoadw (j := 8) (J := _) rfl (ySh.t hS rfl) (ySh.n hS rfl) (by decide) (by decide) rfl ((hB.trans hX).n (by omega)) ?_
              refine y_iload_n rfl rfl ?_
              refine y_iload rfl rfl ?_
              refine y_isub rfl ?_
              refine y_iadd rfl ?_
              refine y_iastoreC (j := 8) rfl (ySh.t hS rfl) (ySh.n hS rfl) (Nat.le_of_ble_eq_true rfl) (by decide) (by decide) rfl ?_
              refine y_nameI (fun I69 e69 => ?_)
              have hR1 := (hR0.grow hX).arr e69 (by decide)
              have hK := (hK.x hRo hno hX).upI (upI e69) (by decide) (by decide) (fun i hi => by have := (hRo.l87.2.2.2.2 i hi).2.1; omega) (by rw [e69, upd2_ne (.inl (by omega))]; exact Int.le_refl _)
              have hth := (show I69 83 0 = I68 83 0 by rw [e69, upd2_ne (.inl (by omega))]).trans hth
              have hzz : ySz I68 I69 := ySz_ofE (upI e69) (by omega)
              have hB := (hB.trans hX).wr e69 rfl
              have hg := (hg.gx hX (by omega)).skip e69 (by decide)
              have hday : I69 83 1 = I 83 1 := (congrFun (congrFun e69 83) 1).trans ((upd2_ne (.inl (by omega))).trans ((congrFun (hX.2.1 83 (by omega)).2.1 1).trans hday))
              have hRb : ∀ a, a < n → R39 a = R a := fun a ha => (hX.2.1 a (by omega)).2.2.trans (hRb a ha)
              have hS0 := hS
              have hR0 := hR1
              have ht_b5 := (hX.2.1 _ hb_b5).1.trans ht_b5
              have hb_b5 := Nat.lt_of_lt_of_le hb_b5 hX.1
              have hb0_b5 := hb_b5
              have hn := Nat.le_refl n39
              have h94 := hS0.1
              have hX := @yX.rf n39 tg39 I69 R39
              have hS := hS0.x hX
              have hR := hR0.x hn hX
              have hz := hX.sz h94
              have hxn := hX.1
              have hw_b5 := hR.sal hlo_b5 hb0_b5 ((hX.2.1 _ hb_b5).1.trans ht_b5)
              have hN := hR0.1
              have hnb := hR0.2.2.2.2.2.2
              have hthB := hth
              refine y_iload_n rfl rfl ?_
              refine y_iload rfl rfl ?_
              refine y_isub rfl ?_
              refine y_ireturn rfl rfl rfl ?_
              first | (exfalso; omega) | (exact hQ0 _ eb_b5 _ hv_13 _ (show Int32.ofInt 0 = yFe (I 83 1 - (I b5 6 + Int32.ofInt 30 * (I b5 7 + Int32.ofInt 1))) v_13 al2 from (if_neg (by omega)).symm) _ (show Int32.ofInt 0 = yRb (I 83 1 - (I b5 6 + Int32.ofInt 30 * (I b5 7 + Int32.ofInt 1))) v_13 (I b5 3) al1 from (if_neg (by omega)).symm) (by omega) _ _ _ _ _ _ _ hS ((hR0.grow hX).up (Nat.le_succ K) hk6) (hK.x hRo hno hX) hth rfl (hg.gx hX (by omega)) (hB.trans hX) (by omega) (by omega))
            · rw [yz_m10] at h_63
              refine y_aload_n rfl rfl ?_
              refine y_iconst rfl ?_
              refine y_aload_n rfl rfl ?_
              refine y_getIv (v := I 83 1) rfl (ySh.t hS rfl) (ySh.n hS rfl) rfl rfl ((congrFun (hX.2.1 83 (by omega)).2.1 1).trans hday) ?_
              refine y_virt rfl rfl rfl rfl rfl (ySh.t hS rfl) (ySh.n hS rfl) ?_
              have hal_c : ySum (fun j => yHv I39 R39 (Int32.ofInt 1).toInt j (I39 87 2).toInt.toNat) 5 = al1 := (ySum_eq fun j _ => yHv_kp (hK.x hRo hno hX)).trans hal1
              refine s_isAllowed hS hR (Nat.le_trans hn hX.1) (Int.le_of_eq (congrArg Int32.toInt ((congrFun (hX.2.1 83 (by omega)).2.1 1).trans hday))) (fun ha_70 n70 tg70 I70 R70 c_70 s_70 hX1 hc_70 hs_70 => ?_) (fun ha_71 n71 tg71 I71 R71 c_71 s_71 hX1 hc_71 hs_71 => ?_)
              · rw [hal_c] at ha_70
                have hnA := hX1.1
                have hX := hX.trans hX1
                have hS := hS0.x hX
                have hR := hR0.x hn hX
                have hz := hX.sz h94
                have hxn := hX.1
                have hw_b5 := hR.sal hlo_b5 hb0_b5 ((hX.2.1 _ hb_b5).1.trans ht_b5)
                have hth := (congrFun (hX1.2.1 83 (by omega)).2.1 0).trans hth
                refine y_ret1 ?_
                refine y_if_eqF rfl (by decide) ?_
                refine y_aload_n rfl rfl ?_
                refine y_getIv (v := I b5 3) rfl ((hX.2.1 _ hb_b5).1.trans ht_b5) (Nat.lt_of_lt_of_le hb_b5 hX.1) rfl rfl (congrFun ((hg.gx hX (by omega)) _ hlo_b5 (by omega)) 3) ?_
                refine y_iload_n rfl rfl ?_
                refine y_imul rfl ?_
                refine y_bip rfl (by decide) ?_
                refine y_aload_n rfl rfl ?_
                refine y_getIv (v := I b5 3) rfl ((hX.2.1 _ hb_b5).1.trans ht_b5) (Nat.lt_of_lt_of_le hb_b5 hX.1) rfl rfl (congrFun ((hg.gx hX (by omega)) _ hlo_b5 (by omega)) 3) ?_
                refine y_iadd rfl ?_
                refine y_idiv rfl (by first | decide | exact i32ne (by rw [yadd (by rw [yz_100]; omega) (by rw [yz_100]; omega), yz_100]; show _ ≠ (0 : Int); omega)) ?_
                refine y_iconst rfl ?_
                refine y_idiv rfl (by first | decide | exact i32ne (by rw [yadd (by rw [yz_100]; omega) (by rw [yz_100]; omega), yz_100]; show _ ≠ (0 : Int); omega)) ?_
                refine y_goto rfl j_X14_pay_168 ?_
                refine y_istore (ls' := [some _, some _, some _, some _, some _, some _, some _]) rfl rfl rfl ?_
                refine y_aload_n rfl rfl ?_
                refine y_dup rfl rfl ?_
                refine y_getIv (v := I b5 7) rfl ((hX.2.1 _ hb_b5).1.trans ht_b5) (Nat.lt_of_lt_of_le hb_b5 hX.1) rfl rfl (congrFun ((hg.gx hX (by omega)) _ hlo_b5 (by omega)) 7) ?_
                refine y_iconst rfl ?_
                refine y_iadd rfl ?_
                refine y_putI rfl ((hX.2.1 _ hb_b5).1.trans ht_b5) (Nat.lt_of_lt_of_le hb_b5 hX.1) rfl (Nat.le_trans (by decide) (by omega : 94 ≤ _)) rfl rfl ?_
                refine y_nameI (fun I72 e72 => ?_)
                have hR1 := (hR0.grow hX).upS e72 hlo_b5 (by omega) ((hX.2.1 _ hb_b5).1.trans ht_b5) (by decide)
                have hK := (hK.x hRo hno hX).upE hRo hno (upI e72) (by omega) (by omega) (by rw [((hX.2.1 _ hb_b5).1.trans ht_b5)]; decide) (by rw [e72, upd2_ne (.inl (by omega))]; exact Int.le_refl _)
                have hth := (show I72 83 0 = I70 83 0 by rw [e72, upd2_ne (.inl (by omega))]).trans hth
                have hzz : ySz I70 I72 := ySz_ofE (upI e72) (by omega)
                have hB := (hB.trans hX).wr e72 rfl
                have h8 : ∀ a, 84 ≤ a → a ≤ 86 → I72 a = I a := fun a h1 h2 => (upI e72 a (by omega)).trans ((hX.2.1 a (by omega)).2.1.trans (h8 a h1 h2))
                have h3k : ∀ k, k ≠ 0 → I72 83 k = I 83 k := fun k hk => (congrFun (congrFun e72 83) k).trans ((upd2_ne (.inl (by omega))).trans ((congrFun (hX.2.1 83 (by omega)).2.1 k).trans (h3k k hk)))
                have hg := (hg.gx hX (by omega)).both e72
                have hday : I72 83 1 = I 83 1 := (congrFun (congrFun e72 83) 1).trans ((upd2_ne (.inl (by omega))).trans ((congrFun (hX.2.1 83 (by omega)).2.1 1).trans hday))
                have hRb : ∀ a, a < n → R70 a = R a := fun a ha => (hX.2.1 a (by omega)).2.2.trans (hRb a ha)
                have hS0 := hS
                have hR0 := hR1
                have ht_b5 := (hX.2.1 _ hb_b5).1.trans ht_b5
                have hb_b5 := Nat.lt_of_lt_of_le hb_b5 hX.1
                have hb0_b5 := hb_b5
                have hn := Nat.le_refl n70
                have h94 := hS0.1
                have hX := @yX.rf n70 tg70 I72 R70
                have hS := hS0.x hX
                have hR := hR0.x hn hX
                have hz := hX.sz h94
                have hxn := hX.1
                have hw_b5 := hR.sal hlo_b5 hb0_b5 ((hX.2.1 _ hb_b5).1.trans ht_b5)
                have hN := hR0.1
                have hnb := hR0.2.2.2.2.2.2
                have hthB := hth
                refine y_aload_n rfl rfl ?_
                refine y_dup rfl rfl ?_
                refine y_getIv (v := I b5 8) rfl ((hX.2.1 _ hb_b5).1.trans ht_b5) (Nat.lt_of_lt_of_le hb_b5 hX.1) rfl rfl ((congrFun ((hg.gx hX (by omega)) _ hlo_b5 (by omega)) 8).trans (by rw [upd2_ne (.inr (by decide))])) ?_
                refine y_iload rfl rfl ?_
                refine y_iadd rfl ?_
                refine y_putI rfl ((hX.2.1 _ hb_b5).1.trans ht_b5) (Nat.lt_of_lt_of_le hb_b5 hX.1) rfl (Nat.le_trans (by decide) (by omega : 94 ≤ _)) rfl rfl ?_
                refine y_nameI (fun I73 e73 => ?_)
                have hR1 := (hR0.grow hX).upS e73 hlo_b5 (by omega) ((hX.2.1 _ hb_b5).1.trans ht_b5) (by decide)
                have hK := (hK.x hRo hno hX).upE hRo hno (upI e73) (by omega) (by omega) (by rw [((hX.2.1 _ hb_b5).1.trans ht_b5)]; decide) (by rw [e73, upd2_ne (.inl (by omega))]; exact Int.le_refl _)
                have hth := (show I73 83 0 = I72 83 0 by rw [e73, upd2_ne (.inl (by omega))]).trans hth
                have hzz : ySz I72 I73 := ySz_ofE (upI e73) (by omega)
                have hB := (hB.trans hX).wr e73 rfl
                have h8 : ∀ a, 84 ≤ a → a ≤ 86 → I73 a = I a := fun a h1 h2 => (upI e73 a (by omega)).trans ((hX.2.1 a (by omega)).2.1.trans (h8 a h1 h2))
                have h3k : ∀ k, k ≠ 0 → I73 83 k = I 83 k := fun k hk => (congrFun (congrFun e73 83) k).trans ((upd2_ne (.inl (by omega))).trans ((congrFun (hX.2.1 83 (by omega)).2.1 k).trans (h3k k hk)))
                have hg := (hg.gx hX (by omega)).both e73
                have hday : I73 83 1 = I 83 1 := (congrFun (congrFun e73 83) 1).trans ((upd2_ne (.inl (by omega))).trans ((congrFun (hX.2.1 83 (by omega)).2.1 1).trans hday))
                have hRb : ∀ a, a < n → R70 a = R a := fun a ha => (hX.2.1 a (by omega)).2.2.trans (hRb a ha)
                have hS0 := hS
                have hR0 := hR1
                have ht_b5 := (hX.2.1 _ hb_b5).1.trans ht_b5
                have hb_b5 := Nat.lt_of_lt_of_le hb_b5 hX.1
                have hb0_b5 := hb_b5
                have hn := Nat.le_refl n70
                have h94 := hS0.1
                have hX := @yX.rf n70 tg70 I73 R70
                have hS := hS0.x hX
                have hR := hR0.x hn hX
                have hz := hX.sz h94
                have hxn := hX.1
                have hw_b5 := hR.sal hlo_b5 hb0_b5 ((hX.2.1 _ hb_b5).1.trans ht_b5)
                have hN := hR0.1
                have hnb := hR0.2.2.2.2.2.2
                have hthB := hth
                refine y_aload_n rfl rfl ?_
                refine y_dup rfl rfl ?_
                refine y_getIv (v := I b5 9) rfl ((hX.2.1 _ hb_b5).1.trans ht_b5) (Nat.lt_of_lt_of_le hb_b5 hX.1) rfl rfl ((congrFun ((hg.gx hX (by omega)) _ hlo_b5 (by omega)) 9).trans (by rw [upd2_ne (.inr (by decide)), upd2_ne (.inr (by decide))])) ?_
                refine y_iload rfl rfl ?_
                refine y_iadd rfl ?_
                refine y_putI rfl ((hX.2.1 _ hb_b5).1.trans ht_b5) (Nat.lt_of_lt_of_le hb_b5 hX.1) rfl (Nat.le_trans (by decide) (by omega : 94 ≤ _)) rfl rfl ?_
                refine y_nameI (fun I74 e74 => ?_)
                have hR1 := (hR0.grow hX).upS e74 hlo_b5 (by omega) ((hX.2.1 _ hb_b5).1.trans ht_b5) (by decide)
                have hK := (hK.x hRo hno hX).upE hRo hno (upI e74) (by omega) (by omega) (by rw [((hX.2.1 _ hb_b5).1.trans ht_b5)]; decide) (by rw [e74, upd2_ne (.inl (by omega))]; exact Int.le_refl _)
                have hth := (show I74 83 0 = I73 83 0 by rw [e74, upd2_ne (.inl (by omega))]).trans hth
                have hzz : ySz I73 I74 := ySz_ofE (upI e74) (by omega)
                have hB := (hB.trans hX).wr e74 rfl
                have h8 : ∀ a, 84 ≤ a → a ≤ 86 → I74 a = I a := fun a h1 h2 => (upI e74 a (by omega)).trans ((hX.2.1 a (by omega)).2.1.trans (h8 a h1 h2))
                have h3k : ∀ k, k ≠ 0 → I74 83 k = I 83 k := fun k hk => (congrFun (congrFun e74 83) k).trans ((upd2_ne (.inl (by omega))).trans ((congrFun (hX.2.1 83 (by omega)).2.1 k).trans (h3k k hk)))
                have hg := (hg.gx hX (by omega)).both e74
                have hday : I74 83 1 = I 83 1 := (congrFun (congrFun e74 83) 1).trans ((upd2_ne (.inl (by omega))).trans ((congrFun (hX.2.1 83 (by omega)).2.1 1).trans hday))
                have hRb : ∀ a, a < n → R70 a = R a := fun a ha => (hX.2.1 a (by omega)).2.2.trans (hRb a ha)
                have hS0 := hS
                have hR0 := hR1
                have ht_b5 := (hX.2.1 _ hb_b5).1.trans ht_b5
                have hb_b5 := Nat.lt_of_lt_of_le hb_b5 hX.1
                have hb0_b5 := hb_b5
                have hn := Nat.le_refl n70
                have h94 := hS0.1
                have hX := @yX.rf n70 tg70 I74 R70
                have hS := hS0.x hX
                have hR := hR0.x hn hX
                have hz := hX.sz h94
                have hxn := hX.1
                have hw_b5 := hR.sal hlo_b5 hb0_b5 ((hX.2.1 _ hb_b5).1.trans ht_b5)
                have hN := hR0.1
                have hnb := hR0.2.2.2.2.2.2
                have hthB := hth
                refine y_aload_n rfl rfl ?_
                refine y_dup rfl rfl ?_
                refine y_getIv (v := I 83 2) rfl (ySh.t hS rfl) (ySh.n hS rfl) rfl rfl ((congrFun ((hB.trans hX).n (by omega : 83 < n)) 2).trans (by repeat (first | rfl | rw [upd2_ne (by first | exact .inl (by omega) | exact .inr (by decide))]))) ?_
                refine y_iload rfl rfl ?_
                refine y_iadd rfl ?_
                refine y_putI rfl (ySh.t hS rfl) (ySh.n hS rfl) rfl (Nat.le_of_ble_eq_true rfl) rfl rfl ?_
                refine y_nameI (fun I75 e75 => ?_)
                have hR1 := (hR0.grow hX).mod0 e75 (by decide) (by decide)
                have hK := (hK.x hRo hno hX).upI (upI e75) (by decide) (by decide) (fun i hi => by have := (hRo.l87.2.2.2.2 i hi).2.1; omega) (by rw [e75, upd2_ne (.inr (by decide))]; exact Int.le_refl _)
                have hth := (show I75 83 0 = I74 83 0 by rw [e75, upd2_ne (.inr (by decide))]).trans hth
                have hzz : ySz I74 I75 := ySz_ofM (upI e75) (by rw [e75]; exact ⟨upd2_ne (.inr (by decide)), upd2_ne (.inr (by decide)), upd2_ne (.inr (by decide))⟩)
                have hB := (hB.trans hX).wr e75 rfl
                have h8 : ∀ a, 84 ≤ a → a ≤ 86 → I75 a = I a := fun a h1 h2 => (upI e75 a (by omega)).trans ((hX.2.1 a (by omega)).2.1.trans (h8 a h1 h2))
                have hg := (hg.gx hX (by omega)).skip e75 (by decide)
                have hday : I75 83 1 = I 83 1 := (congrFun (congrFun e75 83) 1).trans ((upd2_ne (.inr (by decide))).trans ((congrFun (hX.2.1 83 (by omega)).2.1 1).trans hday))
                have hRb : ∀ a, a < n → R70 a = R a := fun a ha => (hX.2.1 a (by omega)).2.2.trans (hRb a ha)
                have hS0 := hS
                have hR0 := hR1
                have ht_b5 := (hX.2.1 _ hb_b5).1.trans ht_b5
                have hb_b5 := Nat.lt_of_lt_of_le hb_b5 hX.1
                have hb0_b5 := hb_b5
                have hn := Nat.le_refl n70
                have h94 := hS0.1
                have hX := @yX.rf n70 tg70 I75 R70
                have hS := hS0.x hX
                have hR := hR0.x hn hX
                have hz := hX.sz h94
                have hxn := hX.1
                have hw_b5 := hR.sal hlo_b5 hb0_b5 ((hX.2.1 _ hb_b5).1.trans ht_b5)
                have hN := hR0.1
                have hnb := hR0.2.2.2.2.2.2
                have hthB := hth
                refine y_aload_n rfl rfl ?_
                refine y_getR rfl (ySh.t hS rfl) (ySh.n hS rfl) rfl rfl (ySh.r hS rfl) ?_
                refine y_aload_n rfl rfl ?_
                refine y_getIv (v := I b5 1) rfl ((hX.2.1 _ hb_b5).1.trans ht_b5) (Nat.lt_of_lt_of_le hb_b5 hX.1) rfl rfl ((congrFun ((hg.gx hX (by omega)) _ hlo_b5 (by omega)) 1).trans (by rw [upd2_ne (.inr (by decide)), upd2_ne (.inr (by decide)), upd2_ne (.inr (by decide))])) ?_
                refine y_dup2 rfl rfl rfl ?_
                refine y_ialoadv (J := I 84) rfl (ySh.t hS rfl) (ySh.n hS rfl) (by omega) (by omega) (((hB.trans hX).n (by omega)).trans (by repeat (first | rfl | (rw [upd2_row (by first | decide | omega)]) | refine upd2_cg ?_))) ?_
                refine y_iload_n rfl rfl ?_
                refine y_iload rfl rfl ?_
                refine y_isub rfl ?_
                refine y_iload rfl rfl ?_
                refine y_iadd rfl ?_
                refine y_isub rfl ?_
                refine y_iastore rfl (ySh.t hS rfl) (ySh.n hS rfl) (Nat.le_of_ble_eq_true rfl) (by omega) (by omega) ?_
                refine y_nameI (fun I76 e76 => ?_)
                have hR1 := (hR0.grow hX).arr e76 (by decide)
                have hK := (hK.x hRo hno hX).upI (upI e76) (by decide) (by decide) (fun i hi => by have := (hRo.l87.2.2.2.2 i hi).2.1; omega) (by rw [e76, upd2_ne (.inl (by omega))]; exact Int.le_refl _)
                have hth := (show I76 83 0 = I75 83 0 by rw [e76, upd2_ne (.inl (by omega))]).trans hth
                have hzz : ySz I75 I76 := ySz_ofE (upI e76) (by omega)
                have hB := (hB.trans hX).wr e76 rfl
                have hg := (hg.gx hX (by omega)).skip e76 (by decide)
                have hday : I76 83 1 = I 83 1 := (congrFun (congrFun e76 83) 1).trans ((upd2_ne (.inl (by omega))).trans ((congrFun (hX.2.1 83 (by omega)).2.1 1).trans hday))
                have hRb : ∀ a, a < n → R70 a = R a := fun a ha => (hX.2.1 a (by omega)).2.2.trans (hRb a ha)
                have hS0 := hS
                have hR0 := hR1
                have ht_b5 := (hX.2.1 _ hb_b5).1.trans ht_b5
                have hb_b5 := Nat.lt_of_lt_of_le hb_b5 hX.1
                have hb0_b5 := hb_b5
                have hn := Nat.le_refl n70
                have h94 := hS0.1
                have hX := @yX.rf n70 tg70 I76 R70
                have hS := hS0.x hX
                have hR := hR0.x hn hX
                have hz := hX.sz h94
                have hxn := hX.1
                have hw_b5 := hR.sal hlo_b5 hb0_b5 ((hX.2.1 _ hb_b5).1.trans ht_b5)
                have hN := hR0.1
                have hnb := hR0.2.2.2.2.2.2
                have hthB := hth
                refine y_aload_n rfl rfl ?_
                refine y_getR rfl (ySh.t hS rfl) (ySh.n hS rfl) rfl rfl (ySh.r hS rfl) ?_
                refine y_bip rfl (by decide) ?_
                refine y_dup2 rfl rfl rfl ?_
                refine y_ialoadw (j := 8) (J := _) rfl (ySh.t hS rfl) (ySh.n hS rfl) (by decide) (by decide) rfl ((hB.trans hX).n (by omega)) ?_
                refine y_iload_n rfl rfl ?_
                refine y_iload rfl rfl ?_
                refine y_isub rfl ?_
                refine y_iadd rfl ?_
                refine y_iastoreC (j := 8) rfl (ySh.t hS rfl) (ySh.n hS rfl) (Nat.le_of_ble_eq_true rfl) (by decide) (by decide) rfl ?_
                refine y_nameI (fun I77 e77 => ?_)
                have hR1 := (hR0.grow hX).arr e77 (by decide)
                have hK := (hK.x hRo hno hX).upI (upI e77) (by decide) (by decide) (fun i hi => by have := (hRo.l87.2.2.2.2 i hi).2.1; omega) (by rw [e77, upd2_ne (.inl (by omega))]; exact Int.le_refl _)
                have hth := (show I77 83 0 = I76 83 0 by rw [e77, upd2_ne (.inl (by omega))]).trans hth
                have hzz : ySz I76 I77 := ySz_ofE (upI e77) (by omega)
                have hB := (hB.trans hX).wr e77 rfl
                have hg := (hg.gx hX (by omega)).skip e77 (by decide)
                have hday : I77 83 1 = I 83 1 := (congrFun (congrFun e77 83) 1).trans ((upd2_ne (.inl (by omega))).trans ((congrFun (hX.2.1 83 (by omega)).2.1 1).trans hday))
                have hRb : ∀ a, a < n → R70 a = R a := fun a ha => (hX.2.1 a (by omega)).2.2.trans (hRb a ha)
                have hS0 := hS
                have hR0 := hR1
                have ht_b5 := (hX.2.1 _ hb_b5).1.trans ht_b5
                have hb_b5 := Nat.lt_of_lt_of_le hb_b5 hX.1
                have hb0_b5 := hb_b5
                have hn := Nat.le_refl n70
                have h94 := hS0.1
                have hX := @yX.rf n70 tg70 I77 R70
                have hS := hS0.x hX
                have hR := hR0.x hn hX
                have hz := hX.sz h94
                have hxn := hX.1
                have hw_b5 := hR.sal hlo_b5 hb0_b5 ((hX.2.1 _ hb_b5).1.trans ht_b5)
                have hN := hR0.1
                have hnb := hR0.2.2.2.2.2.2
                have hthB := hth
                refine y_iload_n rfl rfl ?_
                refine y_iload rfl rfl ?_
                refine y_isub rfl ?_
                refine y_ireturn rfl rfl rfl ?_
                first | (exfalso; omega) | (exact hQ0 _ eb_b5 _ hv_13 _ (show Int32.ofInt 0 = yFe (I 83 1 - (I b5 6 + Int32.ofInt 30 * (I b5 7 + Int32.ofInt 1))) v_13 al2 from (if_neg (by omega)).symm) _ (show _ = yRb (I 83 1 - (I b5 6 + Int32.ofInt 30 * (I b5 7 + Int32.ofInt 1))) v_13 (I b5 3) al1 from (if_pos (by omega)).symm) (by omega) _ _ _ _ _ _ _ hS ((hR0.grow hX).up (Nat.le_succ K) hk6) (hK.x hRo hno hX) hth rfl (hg.gx hX (by omega)) (hB.trans hX) (by omega) (by omega))
              · rw [hal_c] at ha_71
                have hnA := hX1.1
                have hX := hX.trans hX1
                have hS := hS0.x hX
                have hR := hR0.x hn hX
                have hz := hX.sz h94
                have hxn := hX.1
                have hw_b5 := hR.sal hlo_b5 hb0_b5 ((hX.2.1 _ hb_b5).1.trans ht_b5)
                have hth := (congrFun (hX1.2.1 83 (by omega)).2.1 0).trans hth
                refine y_ret1 ?_
                refine y_if_eqT rfl j_X14_pay_167 (by decide) ?_
                refine y_iconst rfl ?_
                refine y_istore (ls' := [some _, some _, some _, some _, some _, some _, some _]) rfl rfl rfl ?_
                refine y_aload_n rfl rfl ?_
                refine y_dup rfl rfl ?_
                refine y_getIv (v := I b5 7) rfl ((hX.2.1 _ hb_b5).1.trans ht_b5) (Nat.lt_of_lt_of_le hb_b5 hX.1) rfl rfl (congrFun ((hg.gx hX (by omega)) _ hlo_b5 (by omega)) 7) ?_
                refine y_iconst rfl ?_
                refine y_iadd rfl ?_
                refine y_putI rfl ((hX.2.1 _ hb_b5).1.trans ht_b5) (Nat.lt_of_lt_of_le hb_b5 hX.1) rfl (Nat.le_trans (by decide) (by omega : 94 ≤ _)) rfl rfl ?_
                refine y_nameI (fun I78 e78 => ?_)
                have hR1 := (hR0.grow hX).upS e78 hlo_b5 (by omega) ((hX.2.1 _ hb_b5).1.trans ht_b5) (by decide)
                have hK := (hK.x hRo hno hX).upE hRo hno (upI e78) (by omega) (by omega) (by rw [((hX.2.1 _ hb_b5).1.trans ht_b5)]; decide) (by rw [e78, upd2_ne (.inl (by omega))]; exact Int.le_refl _)
                have hth := (show I78 83 0 = I71 83 0 by rw [e78, upd2_ne (.inl (by omega))]).trans hth
                have hzz : ySz I71 I78 := ySz_ofE (upI e78) (by omega)
                have hB := (hB.trans hX).wr e78 rfl
                have h8 : ∀ a, 84 ≤ a → a ≤ 86 → I78 a = I a := fun a h1 h2 => (upI e78 a (by omega)).trans ((hX.2.1 a (by omega)).2.1.trans (h8 a h1 h2))
                have h3k : ∀ k, k ≠ 0 → I78 83 k = I 83 k := fun k hk => (congrFun (congrFun e78 83) k).trans ((upd2_ne (.inl (by omega))).trans ((congrFun (hX.2.1 83 (by omega)).2.1 k).trans (h3k k hk)))
                have hg := (hg.gx hX (by omega)).both e78
                have hday : I78 83 1 = I 83 1 := (congrFun (congrFun e78 83) 1).trans ((upd2_ne (.inl (by omega))).trans ((congrFun (hX.2.1 83 (by omega)).2.1 1).trans hday))
                have hRb : ∀ a, a < n → R71 a = R a := fun a ha => (hX.2.1 a (by omega)).2.2.trans (hRb a ha)
                have hS0 := hS
                have hR0 := hR1
                have ht_b5 := (hX.2.1 _ hb_b5).1.trans ht_b5
                have hb_b5 := Nat.lt_of_lt_of_le hb_b5 hX.1
                have hb0_b5 := hb_b5
                have hn := Nat.le_refl n71
                have h94 := hS0.1
                have hX := @yX.rf n71 tg71 I78 R71
                have hS := hS0.x hX
                have hR := hR0.x hn hX
                have hz := hX.sz h94
                have hxn := hX.1
                have hw_b5 := hR.sal hlo_b5 hb0_b5 ((hX.2.1 _ hb_b5).1.trans ht_b5)
                have hN := hR0.1
                have hnb := hR0.2.2.2.2.2.2
                have hthB := hth
                refine y_aload_n rfl rfl ?_
                refine y_dup rfl rfl ?_
                refine y_getIv (v := I b5 8) rfl ((hX.2.1 _ hb_b5).1.trans ht_b5) (Nat.lt_of_lt_of_le hb_b5 hX.1) rfl rfl ((congrFun ((hg.gx hX (by omega)) _ hlo_b5 (by omega)) 8).trans (by rw [upd2_ne (.inr (by decide))])) ?_
                refine y_iload rfl rfl ?_
                refine y_iadd rfl ?_
                refine y_putI rfl ((hX.2.1 _ hb_b5).1.trans ht_b5) (Nat.lt_of_lt_of_le hb_b5 hX.1) rfl (Nat.le_trans (by decide) (by omega : 94 ≤ _)) rfl rfl ?_
                refine y_nameI (fun I79 e79 => ?_)
                have hR1 := (hR0.grow hX).upS e79 hlo_b5 (by omega) ((hX.2.1 _ hb_b5).1.trans ht_b5) (by decide)
                have hK := (hK.x hRo hno hX).upE hRo hno (upI e79) (by omega) (by omega) (by rw [((hX.2.1 _ hb_b5).1.trans ht_b5)]; decide) (by rw [e79, upd2_ne (.inl (by omega))]; exact Int.le_refl _)
                have hth := (show I79 83 0 = I78 83 0 by rw [e79, upd2_ne (.inl (by omega))]).trans hth
                have hzz : ySz I78 I79 := ySz_ofE (upI e79) (by omega)
                have hB := (hB.trans hX).wr e79 rfl
                have h8 : ∀ a, 84 ≤ a → a ≤ 86 → I79 a = I a := fun a h1 h2 => (upI e79 a (by omega)).trans ((hX.2.1 a (by omega)).2.1.trans (h8 a h1 h2))
                have h3k : ∀ k, k ≠ 0 → I79 83 k = I 83 k := fun k hk => (congrFun (congrFun e79 83) k).trans ((upd2_ne (.inl (by omega))).trans ((congrFun (hX.2.1 83 (by omega)).2.1 k).trans (h3k k hk)))
                have hg := (hg.gx hX (by omega)).both e79
                have hday : I79 83 1 = I 83 1 := (congrFun (congrFun e79 83) 1).trans ((upd2_ne (.inl (by omega))).trans ((congrFun (hX.2.1 83 (by omega)).2.1 1).trans hday))
                have hRb : ∀ a, a < n → R71 a = R a := fun a ha => (hX.2.1 a (by omega)).2.2.trans (hRb a ha)
                have hS0 := hS
                have hR0 := hR1
                have ht_b5 := (hX.2.1 _ hb_b5).1.trans ht_b5
                have hb_b5 := Nat.lt_of_lt_of_le hb_b5 hX.1
                have hb0_b5 := hb_b5
                have hn := Nat.le_refl n71
                have h94 := hS0.1
                have hX := @yX.rf n71 tg71 I79 R71
                have hS := hS0.x hX
                have hR := hR0.x hn hX
                have hz := hX.sz h94
                have hxn := hX.1
                have hw_b5 := hR.sal hlo_b5 hb0_b5 ((hX.2.1 _ hb_b5).1.trans ht_b5)
                have hN := hR0.1
                have hnb := hR0.2.2.2.2.2.2
                have hthB := hth
                refine y_aload_n rfl rfl ?_
                refine y_dup rfl rfl ?_
                refine y_getIv (v := I b5 9) rfl ((hX.2.1 _ hb_b5).1.trans ht_b5) (Nat.lt_of_lt_of_le hb_b5 hX.1) rfl rfl ((congrFun ((hg.gx hX (by omega)) _ hlo_b5 (by omega)) 9).trans (by rw [upd2_ne (.inr (by decide)), upd2_ne (.inr (by decide))])) ?_
                refine y_iload rfl rfl ?_
                refine y_iadd rfl ?_
                refine y_putI rfl ((hX.2.1 _ hb_b5).1.trans ht_b5) (Nat.lt_of_lt_of_le hb_b5 hX.1) rfl (Nat.le_trans (by decide) (by omega : 94 ≤ _)) rfl rfl ?_
                refine y_nameI (fun I80 e80 => ?_)
                have hR1 := (hR0.grow hX).upS e80 hlo_b5 (by omega) ((hX.2.1 _ hb_b5).1.trans ht_b5) (by decide)
                have hK := (hK.x hRo hno hX).upE hRo hno (upI e80) (by omega) (by omega) (by rw [((hX.2.1 _ hb_b5).1.trans ht_b5)]; decide) (by rw [e80, upd2_ne (.inl (by omega))]; exact Int.le_refl _)
                have hth := (show I80 83 0 = I79 83 0 by rw [e80, upd2_ne (.inl (by omega))]).trans hth
                have hzz : ySz I79 I80 := ySz_ofE (upI e80) (by omega)
                have hB := (hB.trans hX).wr e80 rfl
                have h8 : ∀ a, 84 ≤ a → a ≤ 86 → I80 a = I a := fun a h1 h2 => (upI e80 a (by omega)).trans ((hX.2.1 a (by omega)).2.1.trans (h8 a h1 h2))
                have h3k : ∀ k, k ≠ 0 → I80 83 k = I 83 k := fun k hk => (congrFun (congrFun e80 83) k).trans ((upd2_ne (.inl (by omega))).trans ((congrFun (hX.2.1 83 (by omega)).2.1 k).trans (h3k k hk)))
                have hg := (hg.gx hX (by omega)).both e80
                have hday : I80 83 1 = I 83 1 := (congrFun (congrFun e80 83) 1).trans ((upd2_ne (.inl (by omega))).trans ((congrFun (hX.2.1 83 (by omega)).2.1 1).trans hday))
                have hRb : ∀ a, a < n → R71 a = R a := fun a ha => (hX.2.1 a (by omega)).2.2.trans (hRb a ha)
                have hS0 := hS
                have hR0 := hR1
                have ht_b5 := (hX.2.1 _ hb_b5).1.trans ht_b5
                have hb_b5 := Nat.lt_of_lt_of_le hb_b5 hX.1
                have hb0_b5 := hb_b5
                have hn := Nat.le_refl n71
                have h94 := hS0.1
                have hX := @yX.rf n71 tg71 I80 R71
                have hS := hS0.x hX
                have hR := hR0.x hn hX
                have hz := hX.sz h94
                have hxn := hX.1
                have hw_b5 := hR.sal hlo_b5 hb0_b5 ((hX.2.1 _ hb_b5).1.trans ht_b5)
                have hN := hR0.1
                have hnb := hR0.2.2.2.2.2.2
                have hthB := hth
                refine y_aload_n rfl rfl ?_
                refine y_dup rfl rfl ?_
                refine y_getIv (v := I 83 2) rfl (ySh.t hS rfl) (ySh.n hS rfl) rfl rfl ((congrFun ((hB.trans hX).n (by omega : 83 < n)) 2).trans (by repeat (first | rfl | rw [upd2_ne (by first | exact .inl (by omega) | exact .inr (by decide))]))) ?_
                refine y_iload rfl rfl ?_
                refine y_iadd rfl ?_
                refine y_putI rfl (ySh.t hS rfl) (ySh.n hS rfl) rfl (Nat.le_of_ble_eq_true rfl) rfl rfl ?_
                refine y_nameI (fun I81 e81 => ?_)
                have hR1 := (hR0.grow hX).mod0 e81 (by decide) (by decide)
                have hK := (hK.x hRo hno hX).upI (upI e81) (by decide) (by decide) (fun i hi => by have := (hRo.l87.2.2.2.2 i hi).2.1; omega) (by rw [e81, upd2_ne (.inr (by decide))]; exact Int.le_refl _)
                have hth := (show I81 83 0 = I80 83 0 by rw [e81, upd2_ne (.inr (by decide))]).trans hth
                have hzz : ySz I80 I81 := ySz_ofM (upI e81) (by rw [e81]; exact ⟨upd2_ne (.inr (by decide)), upd2_ne (.inr (by decide)), upd2_ne (.inr (by decide))⟩)
                have hB := (hB.trans hX).wr e81 rfl
                have h8 : ∀ a, 84 ≤ a → a ≤ 86 → I81 a = I a := fun a h1 h2 => (upI e81 a (by omega)).trans ((hX.2.1 a (by omega)).2.1.trans (h8 a h1 h2))
                have hg := (hg.gx hX (by omega)).skip e81 (by decide)
                have hday : I81 83 1 = I 83 1 := (congrFun (congrFun e81 83) 1).trans ((upd2_ne (.inr (by decide))).trans ((congrFun (hX.2.1 83 (by omega)).2.1 1).trans hday))
                have hRb : ∀ a, a < n → R71 a = R a := fun a ha => (hX.2.1 a (by omega)).2.2.trans (hRb a ha)
                have hS0 := hS
                have hR0 := hR1
                have ht_b5 := (hX.2.1 _ hb_b5).1.trans ht_b5
                have hb_b5 := Nat.lt_of_lt_of_le hb_b5 hX.1
                have hb0_b5 := hb_b5
                have hn := Nat.le_refl n71
                have h94 := hS0.1
                have hX := @yX.rf n71 tg71 I81 R71
                have hS := hS0.x hX
                have hR := hR0.x hn hX
                have hz := hX.sz h94
                have hxn := hX.1
                have hw_b5 := hR.sal hlo_b5 hb0_b5 ((hX.2.1 _ hb_b5).1.trans ht_b5)
                have hN := hR0.1
                have hnb := hR0.2.2.2.2.2.2
                have hthB := hth
                refine y_aload_n rfl rfl ?_
                refine y_getR rfl (ySh.t hS rfl) (ySh.n hS rfl) rfl rfl (ySh.r hS rfl) ?_
                refine y_aload_n rfl rfl ?_
                refine y_getIv (v := I b5 1) rfl ((hX.2.1 _ hb_b5).1.trans ht_b5) (Nat.lt_of_lt_of_le hb_b5 hX.1) rfl rfl ((congrFun ((hg.gx hX (by omega)) _ hlo_b5 (by omega)) 1).trans (by rw [upd2_ne (.inr (by decide)), upd2_ne (.inr (by decide)), upd2_ne (.inr (by decide))])) ?_
                refine y_dup2 rfl rfl rfl ?_
                refine y_ialoadv (J := I 84) rfl (ySh.t hS rfl) (ySh.n hS rfl) (by omega) (by omega) (((hB.trans hX).n (by omega)).trans (by repeat (first | rfl | (rw [upd2_row (by first | decide | omega)]) | refine upd2_cg ?_))) ?_
                refine y_iload_n rfl rfl ?_
                refine y_iload rfl rfl ?_
                refine y_isub rfl ?_
                refine y_iload rfl rfl ?_
                refine y_iadd rfl ?_
                refine y_isub rfl ?_
                refine y_iastore rfl (ySh.t hS rfl) (ySh.n hS rfl) (Nat.le_of_ble_eq_true rfl) (by omega) (by omega) ?_
                refine y_nameI (fun I82 e82 => ?_)
                have hR1 := (hR0.grow hX).arr e82 (by decide)
                have hK := (hK.x hRo hno hX).upI (upI e82) (by decide) (by decide) (fun i hi => by have := (hRo.l87.2.2.2.2 i hi).2.1; omega) (by rw [e82, upd2_ne (.inl (by omega))]; exact Int.le_refl _)
                have hth := (show I82 83 0 = I81 83 0 by rw [e82, upd2_ne (.inl (by omega))]).trans hth
                have hzz : ySz I81 I82 := ySz_ofE (upI e82) (by omega)
                have hB := (hB.trans hX).wr e82 rfl
                have hg := (hg.gx hX (by omega)).skip e82 (by decide)
                have hday : I82 83 1 = I 83 1 := (congrFun (congrFun e82 83) 1).trans ((upd2_ne (.inl (by omega))).trans ((congrFun (hX.2.1 83 (by omega)).2.1 1).trans hday))
                have hRb : ∀ a, a < n → R71 a = R a := fun a ha => (hX.2.1 a (by omega)).2.2.trans (hRb a ha)
                have hS0 := hS
                have hR0 := hR1
                have ht_b5 := (hX.2.1 _ hb_b5).1.trans ht_b5
                have hb_b5 := Nat.lt_of_lt_of_le hb_b5 hX.1
                have hb0_b5 := hb_b5
                have hn := Nat.le_refl n71
                have h94 := hS0.1
                have hX := @yX.rf n71 tg71 I82 R71
                have hS := hS0.x hX
                have hR := hR0.x hn hX
                have hz := hX.sz h94
                have hxn := hX.1
                have hw_b5 := hR.sal hlo_b5 hb0_b5 ((hX.2.1 _ hb_b5).1.trans ht_b5)
                have hN := hR0.1
                have hnb := hR0.2.2.2.2.2.2
                have hthB := hth
                refine y_aload_n rfl rfl ?_
                refine y_getR rfl (ySh.t hS rfl) (ySh.n hS rfl) rfl rfl (ySh.r hS rfl) ?_
                refine y_bip rfl (by decide) ?_
                refine y_dup2 rfl rfl rfl ?_
                refine y_ialoadw (j := 8) (J := _) rfl (ySh.t hS rfl) (ySh.n hS rfl) (by decide) (by decide) rfl ((hB.trans hX).n (by omega)) ?_
                refine y_iload_n rfl rfl ?_
                refine y_iload rfl rfl ?_
                refine y_isub rfl ?_
                refine y_iadd rfl ?_
                refine y_iastoreC (j := 8) rfl (ySh.t hS rfl) (ySh.n hS rfl) (Nat.le_of_ble_eq_true rfl) (by decide) (by decide) rfl ?_
                refine y_nameI (fun I83 e83 => ?_)
                have hR1 := (hR0.grow hX).arr e83 (by decide)
                have hK := (hK.x hRo hno hX).upI (upI e83) (by decide) (by decide) (fun i hi => by have := (hRo.l87.2.2.2.2 i hi).2.1; omega) (by rw [e83, upd2_ne (.inl (by omega))]; exact Int.le_refl _)
                have hth := (show I83 83 0 = I82 83 0 by rw [e83, upd2_ne (.inl (by omega))]).trans hth
                have hzz : ySz I82 I83 := ySz_ofE (upI e83) (by omega)
                have hB := (hB.trans hX).wr e83 rfl
                have hg := (hg.gx hX (by omega)).skip e83 (by decide)
                have hday : I83 83 1 = I 83 1 := (congrFun (congrFun e83 83) 1).trans ((upd2_ne (.inl (by omega))).trans ((congrFun (hX.2.1 83 (by omega)).2.1 1).trans hday))
                have hRb : ∀ a, a < n → R71 a = R a := fun a ha => (hX.2.1 a (by omega)).2.2.trans (hRb a ha)
                have hS0 := hS
                have hR0 := hR1
                have ht_b5 := (hX.2.1 _ hb_b5).1.trans ht_b5
                have hb_b5 := Nat.lt_of_lt_of_le hb_b5 hX.1
                have hb0_b5 := hb_b5
                have hn := Nat.le_refl n71
                have h94 := hS0.1
                have hX := @yX.rf n71 tg71 I83 R71
                have hS := hS0.x hX
                have hR := hR0.x hn hX
                have hz := hX.sz h94
                have hxn := hX.1
                have hw_b5 := hR.sal hlo_b5 hb0_b5 ((hX.2.1 _ hb_b5).1.trans ht_b5)
                have hN := hR0.1
                have hnb := hR0.2.2.2.2.2.2
                have hthB := hth
                refine y_iload_n rfl rfl ?_
                refine y_iload rfl rfl ?_
                refine y_isub rfl ?_
                refine y_ireturn rfl rfl rfl ?_
                first | (exfalso; omega) | (exact hQ0 _ eb_b5 _ hv_13 _ (show Int32.ofInt 0 = yFe (I 83 1 - (I b5 6 + Int32.ofInt 30 * (I b5 7 + Int32.ofInt 1))) v_13 al2 from (if_neg (by omega)).symm) _ (show Int32.ofInt 0 = yRb (I 83 1 - (I b5 6 + Int32.ofInt 30 * (I b5 7 + Int32.ofInt 1))) v_13 (I b5 3) al1 from (if_neg (by omega)).symm) (by omega) _ _ _ _ _ _ _ hS ((hR0.grow hX).up (Nat.le_succ K) hk6) (hK.x hRo hno hX) hth rfl (hg.gx hX (by omega)) (hB.trans hX) (by omega) (by omega))
  · rw [yz_0] at h_3
    try rw [ysub (by rw [yz_1]; omega) (by rw [yz_1]; omega), yz_1] at h_3
    refine y_ret1 ?_
    refine y_if_neF rfl (by decide) ?_
    refine y_iconst rfl ?_
    refine y_goto rfl j_X14_pay_23 ?_
    refine y_iconst rfl ?_
    refine y_virt rfl rfl rfl rfl rfl (ySh.t hS rfl) (ySh.n hS rfl) ?_
    refine y_in (M := xm_X14_start) (ls := [some _, some _, some _]) rfl rfl rfl ?_
    refine y_aload_n rfl rfl ?_
    refine y_iconst rfl ?_
    refine y_putI rfl (ySh.t hS rfl) (ySh.n hS rfl) rfl (Nat.le_of_ble_eq_true rfl) rfl rfl ?_
    refine y_nameI (fun I84 e84 => ?_)
    have hR1 := (hR0.grow hX).mod0 e84 (by decide) (by decide)
    have hK := (hK.x hRo hno hX).upI (upI e84) (by decide) (by decide) (fun i hi => by have := (hRo.l87.2.2.2.2 i hi).2.1; omega) (by rw [e84, upd2_ne (.inr (by decide))]; exact Int.le_refl _)
    have hth : I84 83 0 = Int32.ofInt (0) := by rw [e84, upd2_self]
    have hzz : ySz8 I I84 := ySz8_of (upI e84) (by rw [e84]; exact ⟨upd2_ne (.inr (by decide)), upd2_ne (.inr (by decide))⟩)
    have hB := (hB.trans hX).wr e84 rfl
    have h8 : ∀ a, 84 ≤ a → a ≤ 86 → I84 a = I a := fun a h1 h2 => (upI e84 a (by omega)).trans ((hX.2.1 a (by omega)).2.1.trans (h8 a h1 h2))
    have h3k : ∀ k, k ≠ 0 → I84 83 k = I 83 k := fun k hk => (congrFun (congrFun e84 83) k).trans ((upd2_ne (.inr hk)).trans ((congrFun (hX.2.1 83 (by omega)).2.1 k).trans (h3k k hk)))
    have hg := (hg.gx hX (by omega)).skip e84 (by decide)
    have hday : I84 83 1 = I 83 1 := (congrFun (congrFun e84 83) 1).trans ((upd2_ne (.inr (by decide))).trans ((congrFun (hX.2.1 83 (by omega)).2.1 1).trans hday))
    have hRb : ∀ a, a < n → R a = R a := fun a ha => (hX.2.1 a (by omega)).2.2.trans (hRb a ha)
    have hb83 : ∀ a, a ≠ 83 → a < n → I84 a = I a := fun a ha hb => (upI e84 a ha).trans ((hX.2.1 a (by omega)).2.1.trans (hb83 a ha hb))
    have hS0 := hS
    have hR0 := hR1
    have hn := Nat.le_refl n
    have h94 := hS0.1
    have hX := @yX.rf n tg I84 R
    have hS := hS0.x hX
    have hR := hR0.x hn hX
    have hz := hX.sz h94
    have hxn := hX.1
    have hN := hR0.1
    have hnb := hR0.2.2.2.2.2.2
    have hthB := hth
    refine y_aload_n rfl rfl ?_
    refine y_iload_n rfl rfl ?_
    refine y_iload_n rfl rfl ?_
    refine y_virt rfl rfl rfl rfl rfl (ySh.t hS rfl) (ySh.n hS rfl) ?_
    refine y_in (M := xm_X14_refuse) (ls := [some _, some _, some _]) rfl rfl rfl ?_
    refine y_iload_n rfl rfl ?_
    refine y_if_eqF rfl (by decide) ?_
    refine y_aload_n rfl rfl ?_
    refine y_getIv (v := Int32.ofInt (0)) rfl (ySh.t hS rfl) (ySh.n hS rfl) rfl rfl hth ?_
    refine y_if_neF rfl (by decide) ?_
    refine y_aload_n rfl rfl ?_
    refine y_iload_n rfl rfl ?_
    refine y_putI rfl (ySh.t hS rfl) (ySh.n hS rfl) rfl (Nat.le_of_ble_eq_true rfl) rfl rfl ?_
    refine y_nameI (fun I85 e85 => ?_)
    have hR1 := (hR0.grow hX).mod0 e85 (by decide) (by decide)
    have hK := (hK.x hRo hno hX).upI (upI e85) (by decide) (by decide) (fun i hi => by have := (hRo.l87.2.2.2.2 i hi).2.1; omega) (by rw [e85, upd2_ne (.inr (by decide))]; exact Int.le_refl _)
    have hth : I85 83 0 = Int32.ofInt (1) := by rw [e85, upd2_self]
    have hzz : ySz8 I84 I85 := ySz8_of (upI e85) (by rw [e85]; exact ⟨upd2_ne (.inr (by decide)), upd2_ne (.inr (by decide))⟩)
    have hB := (hB.trans hX).wr e85 rfl
    have h8 : ∀ a, 84 ≤ a → a ≤ 86 → I85 a = I a := fun a h1 h2 => (upI e85 a (by omega)).trans ((hX.2.1 a (by omega)).2.1.trans (h8 a h1 h2))
    have h3k : ∀ k, k ≠ 0 → I85 83 k = I 83 k := fun k hk => (congrFun (congrFun e85 83) k).trans ((upd2_ne (.inr hk)).trans ((congrFun (hX.2.1 83 (by omega)).2.1 k).trans (h3k k hk)))
    have hg := (hg.gx hX (by omega)).skip e85 (by decide)
    have hday : I85 83 1 = I 83 1 := (congrFun (congrFun e85 83) 1).trans ((upd2_ne (.inr (by decide))).trans ((congrFun (hX.2.1 83 (by omega)).2.1 1).trans hday))
    have hRb : ∀ a, a < n → R a = R a := fun a ha => (hX.2.1 a (by omega)).2.2.trans (hRb a ha)
    have hb83 : ∀ a, a ≠ 83 → a < n → I85 a = I a := fun a ha hb => (upI e85 a ha).trans ((hX.2.1 a (by omega)).2.1.trans (hb83 a ha hb))
    have hS0 := hS
    have hR0 := hR1
    have hn := Nat.le_refl n
    have h94 := hS0.1
    have hX := @yX.rf n tg I85 R
    have hS := hS0.x hX
    have hR := hR0.x hn hX
    have hz := hX.sz h94
    have hxn := hX.1
    have hN := hR0.1
    have hnb := hR0.2.2.2.2.2.2
    have hthB := hth
    refine y_aload_n rfl rfl ?_
    refine y_getIv (v := Int32.ofInt (1)) rfl (ySh.t hS rfl) (ySh.n hS rfl) rfl rfl hth ?_
    refine y_if_leF rfl (by decide) ?_
    refine y_iconst rfl ?_
    refine y_goto rfl j_X14_refuse_28 ?_
    refine y_ireturn rfl rfl rfl ?_
    refine y_ret1 ?_
    refine y_ireturn rfl rfl rfl ?_
    refine y_ret1 ?_
    refine y_if_neT rfl j_X14_pay_60 (by decide) ?_
    refine y_iconst rfl ?_
    refine y_ireturn rfl rfl rfl ?_
    first | (exfalso; omega) | (exact hQ1 (by omega) _ _ _ _ _ _ _ hS ((hR0.grow hX).up (Nat.le_succ K) hk6) (hK.x hRo hno hX) hth (hg.gx hX (by omega)) ((hB.trans hX).rf2 (by omega)) (by omega) (by omega))
end YXM
