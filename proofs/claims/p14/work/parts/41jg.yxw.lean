/-! THE REFERENCE'S VENTURES, EXACTLY (by ex7w.py) -/
section YXW
variable {K nb n : Nat} {tg : Nat → yT} {I : Nat → Nat → Int32} {R : Nat → Nat → Value} {c s : Nat} {Q : yQ}
theorem lp_r_allX {a b : Nat} (ht_pa : tg a = (0, 9)) (ha_pa : a < n) (hQ : ∀ v : Int32, v = yFz (I a) 9 → Q (.inl (some (.int v))) (n, tg, I, R) c s) : ∀ (m : Nat) (x2 : Int32) (x4 : Int32) (x5 : Int32), (x4.toInt = 9) → (0 ≤ x5.toInt) → (x5.toInt ≤ 9) → (x2 = yFz (I a) x5.toInt.toNat) → 9 - x5.toInt < m → yW xm_X13_all xc_X13_all_11 [some (.ref b), some (.ref a), some (.int x2), some (.ref a), some (.int x4), some (.int x5), none] [] (n, tg, I, R) c s Q := by
  intro m
  induction m with
  | zero => intro x2 x4 x5 i0 i1 i2 i3 hm; exfalso; omega
  | succ m ih =>
    intro x2 x4 x5 i0 i1 i2 i3 hm
    refine y_iload rfl rfl ?_
    refine y_iload rfl rfl ?_
    refine y_icmp_ge rfl j_X13_all_35 (fun h_1 => ?_) (fun h_2 => ?_)
    · refine y_iload_n rfl rfl ?_
      refine y_ireturn rfl rfl rfl ?_
      exact hQ _ (by have h9 : x5.toInt.toNat = 9 := (by omega); simp only [h9] at *; assumption)
    · refine y_aload_n rfl rfl ?_
      refine y_iload rfl rfl ?_
      refine y_iaload rfl ht_pa ha_pa (by omega) (by omega) ?_
      refine y_istore (ls' := [some _, some _, some _, some _, some _, some _, some _]) rfl rfl rfl ?_
      refine y_iload_n rfl rfl ?_
      refine y_iload rfl rfl ?_
      refine y_iadd rfl ?_
      refine y_istore_n (ls' := [some _, some _, some _, some _, some _, some _, some _]) rfl rfl rfl ?_
      refine y_iinc (ls' := [some _, some _, some _, some _, some _, some _, some _]) rfl rfl rfl rfl ?_
      refine y_goto rfl j_X13_all_11 ?_
      refine y_fgt (ls := [some _, some _, some _, some _, some _, some _, none]) ⟨rfl, rfl, rfl, rfl, rfl, rfl, trivial⟩ ?_
      exact ih _ _ _ (by assumption) (by first | omega | (rw [yinc (by omega)]; omega)) (by first | omega | (rw [yinc (by omega)]; omega)) (yFs_nx (by omega) (by assumption) rfl) (by first | omega | (rw [yinc (by omega)]; omega))
theorem r_allX {a b : Nat} (ht_pa : tg a = (0, 9)) (ha_pa : a < n) (hQ : ∀ v : Int32, v = yFz (I a) 9 → Q (.inl (some (.int v))) (n, tg, I, R) c s) : yC 181 [.ref b, .ref a] (n, tg, I, R) c s Q := by
  refine y_in (M := xm_X13_all) (ls := [some _, some _, _, _, _, _, _]) rfl rfl rfl ?_
  refine y_iconst rfl ?_
  refine y_istore_n (ls' := [some _, some _, some _, _, _, _, _]) rfl rfl rfl ?_
  refine y_aload_n rfl rfl ?_
  refine y_astore_n (ls' := [some _, some _, some _, some _, _, _, _]) rfl rfl rfl ?_
  refine y_aload_n rfl rfl ?_
  refine y_alenI (v := 9) rfl ht_pa rfl ha_pa (by decide) ?_
  refine y_istore (ls' := [some _, some _, some _, some _, some _, _, _]) rfl rfl rfl ?_
  refine y_iconst rfl ?_
  refine y_istore (ls' := [some _, some _, some _, some _, some _, some _, _]) rfl rfl rfl ?_
  exact lp_r_allX ht_pa ha_pa hQ 100 _ _ _ (by decide) (by decide) (by decide) rfl (by decide)
theorem h_join (hS0 : ySh n tg R) (hR0 : yRI K n tg I R) (hk6 : K < 600) {x1 x2 x3 x4 : Int32} (hQ1 : ¬ ((0 ≤ x1.toInt ∧ x1.toInt < (I 91 2).toInt) ∧ (x2.toInt = -1 ∨ 0 ≤ x2.toInt ∧ x2.toInt < (I 83 8).toInt)) → ∀ (v : Int32) n1 tg1 I1 R1 c1 s1, ySh n1 tg1 R1 → yRI (K + 1) n1 tg1 I1 R1 → yKp n tg I R n1 tg1 I1 R1 → I1 83 0 = Int32.ofInt 1 → yRf n I R I1 R1 → c1 ≤ c + 0 → s1 ≤ s + 0 → Q (.inl (some (.int v))) (n1, tg1, I1, R1) c1 s1) (hQ2 : ((0 ≤ x1.toInt ∧ x1.toInt < (I 91 2).toInt) ∧ (x2.toInt = -1 ∨ 0 ≤ x2.toInt ∧ x2.toInt < (I 83 8).toInt)) ∧ ¬ ((1 ≤ x3.toInt ∧ x3.toInt ≤ 999) ∧ (0 ≤ x4.toInt ∧ x4.toInt ≤ 100)) → ∀ (v : Int32) n1 tg1 I1 R1 c1 s1, ySh n1 tg1 R1 → yRI (K + 1) n1 tg1 I1 R1 → yKp n tg I R n1 tg1 I1 R1 → I1 83 0 = Int32.ofInt 2 → yRf n I R I1 R1 → c1 ≤ c + 0 → s1 ≤ s + 0 → Q (.inl (some (.int v))) (n1, tg1, I1, R1) c1 s1) (hQ3 : ∀ b, b = yAd R 91 x1.toInt.toNat → ((0 ≤ x1.toInt ∧ x1.toInt < (I 91 2).toInt) ∧ (x2.toInt = -1 ∨ 0 ≤ x2.toInt ∧ x2.toInt < (I 83 8).toInt)) ∧ ((1 ≤ x3.toInt ∧ x3.toInt ≤ 999) ∧ (0 ≤ x4.toInt ∧ x4.toInt ≤ 100)) ∧ ¬ ((I (b + 1 + 0) (ySeat x2).toInt.toNat).toInt = 0 ∧ x3.toInt ≤ (I 84 (ySeat x2).toInt.toNat).toInt ∧ (yFz (I (b + 1 + 2)) 9 + x4).toInt ≤ 100) → ∀ (v : Int32) n1 tg1 I1 R1 c1 s1, ySh n1 tg1 R1 → yRI (K + 1) n1 tg1 I1 R1 → yKp n tg I R n1 tg1 I1 R1 → I1 83 0 = Int32.ofInt 3 → yRf n I R I1 R1 → c1 ≤ c + 0 → s1 ≤ s + 0 → Q (.inl (some (.int v))) (n1, tg1, I1, R1) c1 s1) (hQ0 : ∀ b, b = yAd R 91 x1.toInt.toNat → ((0 ≤ x1.toInt ∧ x1.toInt < (I 91 2).toInt) ∧ (x2.toInt = -1 ∨ 0 ≤ x2.toInt ∧ x2.toInt < (I 83 8).toInt)) ∧ ((1 ≤ x3.toInt ∧ x3.toInt ≤ 999) ∧ (0 ≤ x4.toInt ∧ x4.toInt ≤ 100)) ∧ ((I (b + 1 + 0) (ySeat x2).toInt.toNat).toInt = 0 ∧ x3.toInt ≤ (I 84 (ySeat x2).toInt.toNat).toInt ∧ (yFz (I (b + 1 + 2)) 9 + x4).toInt ≤ 100) → ∀ (v : Int32) n1 tg1 I1 R1 c1 s1, ySh n1 tg1 R1 → yRI (K + 1) n1 tg1 I1 R1 → yKp n tg I R n1 tg1 I1 R1 → I1 83 0 = Int32.ofInt 0 → v = yFz (I1 (b + 1 + 2)) 9 → yX n tg (upd2 (upd2 (upd2 (upd2 (upd2 I 83 0 (Int32.ofInt 0)) (b + 1 + 0) (ySeat x2).toInt.toNat (Int32.ofInt 1)) (b + 1 + 1) (ySeat x2).toInt.toNat x3) (b + 1 + 2) (ySeat x2).toInt.toNat x4) 84 (ySeat x2).toInt.toNat (I 84 (ySeat x2).toInt.toNat - x3)) R n1 tg1 I1 R1 → c1 ≤ c + 0 → s1 ≤ s + 0 → Q (.inl (some (.int v))) (n1, tg1, I1, R1) c1 s1) : yC 212 [.ref 83, .int x1, .int x2, .int x3, .int x4] (n, tg, I, R) c s Q := by
  have hno := Nat.le_refl n
  have hn := hno
  have hRo := hR0
  have hK : yKp n tg I R n tg I R := yKp.rf
  have hX : yX n tg I R n tg I R := yX.rf
  have hS := hS0
  have hR := hR0
  have h94 : 94 ≤ n := hS0.1
  have hz : ySz I I := hX.sz h94
  have hxn := hX.1
  have hN := hR0.1
  have hnb : 94 ≤ n := hR0.2.2.2.2.2.2
  have hg : yGm n I I := yGm.rf
  have hday : I 83 1 = I 83 1 := rfl
  have hb83 : ∀ a, a ≠ 83 → a < n → I a = I a := fun _ _ _ => rfl
  have hRb : ∀ a, a < n → R a = R a := fun _ _ => rfl
  have hB : yX n tg I R n tg I R := yX.rf
  have h8 : ∀ a, 84 ≤ a → a ≤ 86 → I a = I a := fun _ _ _ => rfl
  have h3k : ∀ k, k ≠ 0 → I 83 k = I 83 k := fun _ _ => rfl
  refine y_in (M := xm_X14_join) (ls := [some _, some _, some _, some _, some _, _, _]) rfl rfl rfl ?_
  refine y_aload_n rfl rfl ?_
  refine y_aload_n rfl rfl ?_
  refine y_iload_n rfl rfl ?_
  refine y_virt rfl rfl rfl rfl rfl (ySh.t hS rfl) (ySh.n hS rfl) ?_
  refine y_in (M := xm_X14_isNoVenture) (ls := [some _, some _]) rfl rfl rfl ?_
  refine y_iload_n rfl rfl ?_
  refine y_iconst rfl ?_
  refine y_aload_n rfl rfl ?_
  refine y_getR rfl (ySh.t hS rfl) (ySh.n hS rfl) rfl rfl (ySh.r hS rfl) ?_
  refine y_virt rfl rfl rfl rfl rfl (ySh.t hS rfl) (ySh.n hS rfl) ?_
  refine y_in (M := xm_Jx4a65c_size_8abf5) (ls := [some _]) rfl rfl rfl ?_
  refine y_aload_n rfl rfl ?_
  refine y_getI rfl (ySh.t hS rfl) (ySh.n hS rfl) rfl rfl ?_
  refine y_ireturn rfl rfl rfl ?_
  refine y_ret1 ?_
  refine y_iconst rfl ?_
  refine y_isub rfl ?_
  refine y_static rfl rfl rfl rfl rfl ?_
  refine r_isIn (fun h_1 h_2 => ?_) (fun h_3 => ?_)
  · rw [yz_0] at h_1
    try rw [ysub (by rw [yz_1]; omega) (by rw [yz_1]; omega), yz_1] at h_2
    refine y_ret1 ?_
    refine y_if_neT rfl j_X14_isNoVenture_21 (by decide) ?_
    refine y_iconst rfl ?_
    refine y_ireturn rfl rfl rfl ?_
    refine y_ret1 ?_
    refine y_if_neF rfl (by decide) ?_
    refine y_aload_n rfl rfl ?_
    refine y_iload_n rfl rfl ?_
    refine y_virt rfl rfl rfl rfl rfl (ySh.t hS rfl) (ySh.n hS rfl) ?_
    refine y_in (M := xm_X14_isNoOne) (ls := [some _, some _]) rfl rfl rfl ?_
    refine y_iload_n rfl rfl ?_
    refine y_iconst rfl ?_
    refine y_icmp_eq rfl j_X14_isNoOne_17 (fun h_4 => ?_) (fun h_5 => ?_)
    · rw [yz_m1] at h_4
      refine y_iconst rfl ?_
      refine y_ireturn rfl rfl rfl ?_
      refine y_ret1 ?_
      refine y_if_eqT rfl j_X14_join_21 (by decide) ?_
      refine y_iconst rfl ?_
      refine y_iconst rfl ?_
      refine y_virt rfl rfl rfl rfl rfl (ySh.t hS rfl) (ySh.n hS rfl) ?_
      refine y_in (M := xm_X14_start) (ls := [some _, some _, some _]) rfl rfl rfl ?_
      refine y_aload_n rfl rfl ?_
      refine y_iconst rfl ?_
      refine y_putI rfl (ySh.t hS rfl) (ySh.n hS rfl) rfl (Nat.le_of_ble_eq_true rfl) rfl rfl ?_
      refine y_nameI (fun I6 e6 => ?_)
      have hR1 := (hR0.grow hX).mod0 e6 (by decide) (by decide)
      have hK := (hK.x hRo hno hX).upI (upI e6) (by decide) (by decide) (fun i hi => by have := (hRo.l87.2.2.2.2 i hi).2.1; omega) (by rw [e6, upd2_ne (.inr (by decide))]; exact Int.le_refl _)
      have hth : I6 83 0 = Int32.ofInt (0) := by rw [e6, upd2_self]
      have hzz : ySz8 I I6 := ySz8_of (upI e6) (by rw [e6]; exact ⟨upd2_ne (.inr (by decide)), upd2_ne (.inr (by decide))⟩)
      have hB := (hB.trans hX).wr e6 rfl
      have h8 : ∀ a, 84 ≤ a → a ≤ 86 → I6 a = I a := fun a h1 h2 => (upI e6 a (by omega)).trans ((hX.2.1 a (by omega)).2.1.trans (h8 a h1 h2))
      have h3k : ∀ k, k ≠ 0 → I6 83 k = I 83 k := fun k hk => (congrFun (congrFun e6 83) k).trans ((upd2_ne (.inr hk)).trans ((congrFun (hX.2.1 83 (by omega)).2.1 k).trans (h3k k hk)))
      have hg := (hg.gx hX (by omega)).skip e6 (by decide)
      have hday : I6 83 1 = I 83 1 := (congrFun (congrFun e6 83) 1).trans ((upd2_ne (.inr (by decide))).trans ((congrFun (hX.2.1 83 (by omega)).2.1 1).trans hday))
      have hRb : ∀ a, a < n → R a = R a := fun a ha => (hX.2.1 a (by omega)).2.2.trans (hRb a ha)
      have hb83 : ∀ a, a ≠ 83 → a < n → I6 a = I a := fun a ha hb => (upI e6 a ha).trans ((hX.2.1 a (by omega)).2.1.trans (hb83 a ha hb))
      have hS0 := hS
      have hR0 := hR1
      have hn := Nat.le_refl n
      have h94 := hS0.1
      have hX := @yX.rf n tg I6 R
      have hS := hS0.x hX
      have hR := hR0.x hn hX
      have hz := hX.sz h94
      have hxn := hX.1
      have hN := hR0.1
      have hnb := hR0.2.2.2.2.2.2
      have hthB := hth
      refine y_aload_n rfl rfl ?_
      refine y_iload_n rfl rfl ?_
      refine y_iload_n rfl rfl ?_
      refine y_virt rfl rfl rfl rfl rfl (ySh.t hS rfl) (ySh.n hS rfl) ?_
      refine y_in (M := xm_X14_refuse) (ls := [some _, some _, some _]) rfl rfl rfl ?_
      refine y_iload_n rfl rfl ?_
      refine y_if_eqT rfl j_X14_refuse_16 (by decide) ?_
      refine y_aload_n rfl rfl ?_
      refine y_getIv (v := Int32.ofInt (0)) rfl (ySh.t hS rfl) (ySh.n hS rfl) rfl rfl hth ?_
      refine y_if_leT rfl j_X14_refuse_27 (by decide) ?_
      refine y_iconst rfl ?_
      refine y_ireturn rfl rfl rfl ?_
      refine y_ret1 ?_
      refine y_ireturn rfl rfl rfl ?_
      refine y_ret1 ?_
      refine y_if_neF rfl (by decide) ?_
      refine y_aload_n rfl rfl ?_
      refine y_iload_n rfl rfl ?_
      refine y_iconst rfl ?_
      refine y_sip rfl (by decide) ?_
      refine y_static rfl rfl rfl rfl rfl ?_
      refine r_isIn (fun h_7 h_8 => ?_) (fun h_9 => ?_)
      · rw [yz_1] at h_7
        rw [yz_999] at h_8
        refine y_ret1 ?_
        refine y_if_eqF rfl (by decide) ?_
        refine y_iload rfl rfl ?_
        refine y_iconst rfl ?_
        refine y_bip rfl (by decide) ?_
        refine y_static rfl rfl rfl rfl rfl ?_
        refine r_isIn (fun h_10 h_11 => ?_) (fun h_12 => ?_)
        · rw [yz_0] at h_10
          rw [yz_100] at h_11
          refine y_ret1 ?_
          refine y_if_neT rfl j_X14_join_56 (by decide) ?_
          refine y_iconst rfl ?_
          refine y_iconst rfl ?_
          refine y_virt rfl rfl rfl rfl rfl (ySh.t hS rfl) (ySh.n hS rfl) ?_
          refine y_in (M := xm_X14_refuse) (ls := [some _, some _, some _]) rfl rfl rfl ?_
          refine y_iload_n rfl rfl ?_
          refine y_if_eqT rfl j_X14_refuse_16 (by decide) ?_
          refine y_aload_n rfl rfl ?_
          refine y_getIv (v := Int32.ofInt (0)) rfl (ySh.t hS rfl) (ySh.n hS rfl) rfl rfl hth ?_
          refine y_if_leT rfl j_X14_refuse_27 (by decide) ?_
          refine y_iconst rfl ?_
          refine y_ireturn rfl rfl rfl ?_
          refine y_ret1 ?_
          refine y_if_eqT rfl j_X14_join_66 (by decide) ?_
          refine y_aload_n rfl rfl ?_
          refine y_getR rfl (ySh.t hS rfl) (ySh.n hS rfl) rfl rfl (ySh.r hS rfl) ?_
          refine y_iload_n rfl rfl ?_
          refine y_virt rfl rfl rfl rfl rfl (ySh.t hS rfl) (ySh.n hS rfl) ?_
          refine l_get (nb := n) (ySh.t hS rfl) (ySh.n hS rfl) (Nat.le_trans hn hX.1) hR.l91 (by omega) (by omega) (fun b13 eb_b13 hlo_b13 hb0_b13 ht_b13 => ?_)
          have hb_b13 := Nat.lt_of_lt_of_le hb0_b13 hn
          replace ht_b13 := (hX.2.1 _ hb_b13).1.symm.trans ht_b13
          refine y_ret1 ?_
          refine y_cast rfl ((hX.2.1 _ hb_b13).1.trans ht_b13) (Nat.lt_of_lt_of_le hb_b13 hX.1) ?_
          refine y_astore (ls' := [some _, some _, some _, some _, some _, some _, _]) rfl rfl rfl ?_
          refine y_iload_n rfl rfl ?_
          refine y_static rfl rfl rfl rfl rfl ?_
          refine y_in (M := xm_X14_seat) (ls := [some _]) rfl rfl rfl ?_
          refine y_iload_n rfl rfl ?_
          refine y_iconst rfl ?_
          refine y_icmp_ne rfl j_X14_seat_10 (fun h_14 => ?_) (fun h_15 => ?_)
          · rw [yz_m1] at h_14
            refine y_iload_n rfl rfl ?_
            refine y_ireturn rfl rfl rfl ?_
            refine y_ret1 ?_
            refine y_istore (ls' := [some _, some _, some _, some _, some _, some _, some _]) rfl rfl rfl ?_
            refine y_aload_n rfl rfl ?_
            refine y_aload rfl rfl ?_
            obtain ⟨hR_v16, hb_v16, ht_v16⟩ := hR0.ven hlo_b13 hb0_b13 ht_b13 (j := 0) (by decide)
            have hb0_v16 := hb_v16
            have hb_v16 := Nat.lt_of_lt_of_le hb_v16 hn
            have hlo_v16 : 94 ≤ b13 + 1 + 0 := by omega
            have hR2_v16 := (congrFun (hX.2.1 b13 hb_b13).2.2 0).trans hR_v16
            refine y_getR rfl ((hX.2.1 _ hb_b13).1.trans ht_b13) (Nat.lt_of_lt_of_le hb_b13 hX.1) rfl rfl hR2_v16 ?_
            refine y_iload rfl rfl ?_
            refine y_baloadv (J := I (b13 + 1 + 0)) rfl ((hX.2.1 _ hb_v16).1.trans ht_v16) rfl (Nat.lt_of_lt_of_le hb_v16 hX.1) (by omega) (by omega) (((hB.trans hX).n (by omega)).trans (by repeat (first | rfl | (rw [upd2_row (by first | decide | omega)]) | refine upd2_cg ?_))) ?_
            refine y_if_ne rfl j_X14_join_126 (fun h_17 => ?_) (fun h_18 => ?_)
            · refine y_iconst rfl ?_
              refine y_goto rfl j_X14_join_131 ?_
              refine y_iconst rfl ?_
              refine y_virt rfl rfl rfl rfl rfl (ySh.t hS rfl) (ySh.n hS rfl) ?_
              refine y_in (M := xm_X14_refuse) (ls := [some _, some _, some _]) rfl rfl rfl ?_
              refine y_iload_n rfl rfl ?_
              refine y_if_eqF rfl (by decide) ?_
              refine y_aload_n rfl rfl ?_
              refine y_getIv (v := Int32.ofInt (0)) rfl (ySh.t hS rfl) (ySh.n hS rfl) rfl rfl hth ?_
              refine y_if_neF rfl (by decide) ?_
              refine y_aload_n rfl rfl ?_
              refine y_iload_n rfl rfl ?_
              refine y_putI rfl (ySh.t hS rfl) (ySh.n hS rfl) rfl (Nat.le_of_ble_eq_true rfl) rfl rfl ?_
              refine y_nameI (fun I19 e19 => ?_)
              have hR1 := (hR0.grow hX).mod0 e19 (by decide) (by decide)
              have hK := (hK.x hRo hno hX).upI (upI e19) (by decide) (by decide) (fun i hi => by have := (hRo.l87.2.2.2.2 i hi).2.1; omega) (by rw [e19, upd2_ne (.inr (by decide))]; exact Int.le_refl _)
              have hth : I19 83 0 = Int32.ofInt (3) := by rw [e19, upd2_self]
              have hzz : ySz8 I6 I19 := ySz8_of (upI e19) (by rw [e19]; exact ⟨upd2_ne (.inr (by decide)), upd2_ne (.inr (by decide))⟩)
              have hB := (hB.trans hX).wr e19 rfl
              have h8 : ∀ a, 84 ≤ a → a ≤ 86 → I19 a = I a := fun a h1 h2 => (upI e19 a (by omega)).trans ((hX.2.1 a (by omega)).2.1.trans (h8 a h1 h2))
              have h3k : ∀ k, k ≠ 0 → I19 83 k = I 83 k := fun k hk => (congrFun (congrFun e19 83) k).trans ((upd2_ne (.inr hk)).trans ((congrFun (hX.2.1 83 (by omega)).2.1 k).trans (h3k k hk)))
              have hg := (hg.gx hX (by omega)).skip e19 (by decide)
              have hday : I19 83 1 = I 83 1 := (congrFun (congrFun e19 83) 1).trans ((upd2_ne (.inr (by decide))).trans ((congrFun (hX.2.1 83 (by omega)).2.1 1).trans hday))
              have hRb : ∀ a, a < n → R a = R a := fun a ha => (hX.2.1 a (by omega)).2.2.trans (hRb a ha)
              have hb83 : ∀ a, a ≠ 83 → a < n → I19 a = I a := fun a ha hb => (upI e19 a ha).trans ((hX.2.1 a (by omega)).2.1.trans (hb83 a ha hb))
              have hS0 := hS
              have hR0 := hR1
              have ht_b13 := (hX.2.1 _ hb_b13).1.trans ht_b13
              have hb_b13 := Nat.lt_of_lt_of_le hb_b13 hX.1
              have hb0_b13 := hb_b13
              have ht_v16 := (hX.2.1 _ hb_v16).1.trans ht_v16
              have hb_v16 := Nat.lt_of_lt_of_le hb_v16 hX.1
              have hb0_v16 := hb_v16
              have hn := Nat.le_refl n
              have h94 := hS0.1
              have hX := @yX.rf n tg I19 R
              have hS := hS0.x hX
              have hR := hR0.x hn hX
              have hz := hX.sz h94
              have hxn := hX.1
              have hN := hR0.1
              have hnb := hR0.2.2.2.2.2.2
              have hthB := hth
              refine y_aload_n rfl rfl ?_
              refine y_getIv (v := Int32.ofInt (3)) rfl (ySh.t hS rfl) (ySh.n hS rfl) rfl rfl hth ?_
              refine y_if_leF rfl (by decide) ?_
              refine y_iconst rfl ?_
              refine y_goto rfl j_X14_refuse_28 ?_
              refine y_ireturn rfl rfl rfl ?_
              refine y_ret1 ?_
              refine y_if_eqF rfl (by decide) ?_
              refine y_iconst rfl ?_
              refine y_ireturn rfl rfl rfl ?_
              exact hQ3 _ eb_b13 (by first | omega | (simp only [show ySeat x2 = x2 from if_neg (by omega)]; omega) | (simp only [show ySeat x2 = Int32.ofInt 8 from if_pos (by omega), show (Int32.ofInt 8).toInt.toNat = 8 from by decide]; omega)) _ _ _ _ _ _ _ hS ((hR0.grow hX).up (Nat.le_succ K) hk6) (hK.x hRo hno hX) hth ((hB.trans hX).rf2 (by omega)) (by omega) (by omega)
            · refine y_aload_n rfl rfl ?_
              refine y_getR rfl (ySh.t hS rfl) (ySh.n hS rfl) rfl rfl (ySh.r hS rfl) ?_
              refine y_iload rfl rfl ?_
              refine y_ialoadv (J := I 84) rfl (ySh.t hS rfl) (ySh.n hS rfl) (by omega) (by omega) (((hB.trans hX).n (by omega)).trans (by repeat (first | rfl | (rw [upd2_row (by first | decide | omega)]) | refine upd2_cg ?_))) ?_
              refine y_iload_n rfl rfl ?_
              refine y_icmp_lt rfl j_X14_join_126 (fun h_20 => ?_) (fun h_21 => ?_)
              · refine y_iconst rfl ?_
                refine y_goto rfl j_X14_join_131 ?_
                refine y_iconst rfl ?_
                refine y_virt rfl rfl rfl rfl rfl (ySh.t hS rfl) (ySh.n hS rfl) ?_
                refine y_in (M := xm_X14_refuse) (ls := [some _, some _, some _]) rfl rfl rfl ?_
                refine y_iload_n rfl rfl ?_
                refine y_if_eqF rfl (by decide) ?_
                refine y_aload_n rfl rfl ?_
                refine y_getIv (v := Int32.ofInt (0)) rfl (ySh.t hS rfl) (ySh.n hS rfl) rfl rfl hth ?_
                refine y_if_neF rfl (by decide) ?_
                refine y_aload_n rfl rfl ?_
                refine y_iload_n rfl rfl ?_
                refine y_putI rfl (ySh.t hS rfl) (ySh.n hS rfl) rfl (Nat.le_of_ble_eq_true rfl) rfl rfl ?_
                refine y_nameI (fun I22 e22 => ?_)
                have hR1 := (hR0.grow hX).mod0 e22 (by decide) (by decide)
                have hK := (hK.x hRo hno hX).upI (upI e22) (by decide) (by decide) (fun i hi => by have := (hRo.l87.2.2.2.2 i hi).2.1; omega) (by rw [e22, upd2_ne (.inr (by decide))]; exact Int.le_refl _)
                have hth : I22 83 0 = Int32.ofInt (3) := by rw [e22, upd2_self]
                have hzz : ySz8 I6 I22 := ySz8_of (upI e22) (by rw [e22]; exact ⟨upd2_ne (.inr (by decide)), upd2_ne (.inr (by decide))⟩)
                have hB := (hB.trans hX).wr e22 rfl
                have h8 : ∀ a, 84 ≤ a → a ≤ 86 → I22 a = I a := fun a h1 h2 => (upI e22 a (by omega)).trans ((hX.2.1 a (by omega)).2.1.trans (h8 a h1 h2))
                have h3k : ∀ k, k ≠ 0 → I22 83 k = I 83 k := fun k hk => (congrFun (congrFun e22 83) k).trans ((upd2_ne (.inr hk)).trans ((congrFun (hX.2.1 83 (by omega)).2.1 k).trans (h3k k hk)))
                have hg := (hg.gx hX (by omega)).skip e22 (by decide)
                have hday : I22 83 1 = I 83 1 := (congrFun (congrFun e22 83) 1).trans ((upd2_ne (.inr (by decide))).trans ((congrFun (hX.2.1 83 (by omega)).2.1 1).trans hday))
                have hRb : ∀ a, a < n → R a = R a := fun a ha => (hX.2.1 a (by omega)).2.2.trans (hRb a ha)
                have hb83 : ∀ a, a ≠ 83 → a < n → I22 a = I a := fun a ha hb => (upI e22 a ha).trans ((hX.2.1 a (by omega)).2.1.trans (hb83 a ha hb))
                have hS0 := hS
                have hR0 := hR1
                have ht_b13 := (hX.2.1 _ hb_b13).1.trans ht_b13
                have hb_b13 := Nat.lt_of_lt_of_le hb_b13 hX.1
                have hb0_b13 := hb_b13
                have ht_v16 := (hX.2.1 _ hb_v16).1.trans ht_v16
                have hb_v16 := Nat.lt_of_lt_of_le hb_v16 hX.1
                have hb0_v16 := hb_v16
                have hn := Nat.le_refl n
                have h94 := hS0.1
                have hX := @yX.rf n tg I22 R
                have hS := hS0.x hX
                have hR := hR0.x hn hX
                have hz := hX.sz h94
                have hxn := hX.1
                have hN := hR0.1
                have hnb := hR0.2.2.2.2.2.2
                have hthB := hth
                refine y_aload_n rfl rfl ?_
                refine y_getIv (v := Int32.ofInt (3)) rfl (ySh.t hS rfl) (ySh.n hS rfl) rfl rfl hth ?_
                refine y_if_leF rfl (by decide) ?_
                refine y_iconst rfl ?_
                refine y_goto rfl j_X14_refuse_28 ?_
                refine y_ireturn rfl rfl rfl ?_
                refine y_ret1 ?_
                refine y_if_eqF rfl (by decide) ?_
                refine y_iconst rfl ?_
                refine y_ireturn rfl rfl rfl ?_
                exact hQ3 _ eb_b13 (by first | omega | (simp only [show ySeat x2 = x2 from if_neg (by omega)]; omega) | (simp only [show ySeat x2 = Int32.ofInt 8 from if_pos (by omega), show (Int32.ofInt 8).toInt.toNat = 8 from by decide]; omega)) _ _ _ _ _ _ _ hS ((hR0.grow hX).up (Nat.le_succ K) hk6) (hK.x hRo hno hX) hth ((hB.trans hX).rf2 (by omega)) (by omega) (by omega)
              · refine y_aload rfl rfl ?_
                refine y_aload rfl rfl ?_
                obtain ⟨hR_v23, hb_v23, ht_v23⟩ := hR0.ven hlo_b13 hb0_b13 ht_b13 (j := 2) (by decide)
                have hb0_v23 := hb_v23
                have hb_v23 := Nat.lt_of_lt_of_le hb_v23 hn
                have hlo_v23 : 94 ≤ b13 + 1 + 2 := by omega
                have hR2_v23 := (congrFun (hX.2.1 b13 hb_b13).2.2 2).trans hR_v23
                refine y_getR rfl ((hX.2.1 _ hb_b13).1.trans ht_b13) (Nat.lt_of_lt_of_le hb_b13 hX.1) rfl rfl hR2_v23 ?_
                refine y_virt rfl rfl rfl rfl rfl ((hX.2.1 _ hb_b13).1.trans ht_b13) (Nat.lt_of_lt_of_le hb_b13 hX.1) ?_
                refine r_allX ((hX.2.1 _ hb_v23).1.trans ht_v23) (Nat.lt_of_lt_of_le hb_v23 hX.1) (fun v_24 hv_24 => ?_)
                rw [show I6 (b13 + 1 + 2) = I (b13 + 1 + 2) from (((hB.trans hX).n (by omega)).trans (by repeat (first | rfl | (rw [upd2_row (by first | decide | omega)]) | refine upd2_cg ?_)))] at hv_24
                subst hv_24
                refine y_ret1 ?_
                refine y_iload rfl rfl ?_
                refine y_iadd rfl ?_
                refine y_bip rfl (by decide) ?_
                refine y_icmp_le rfl j_X14_join_130 (fun h_25 => ?_) (fun h_26 => ?_)
                · rw [yz_100] at h_25
                  refine y_iconst rfl ?_
                  refine y_iconst rfl ?_
                  refine y_virt rfl rfl rfl rfl rfl (ySh.t hS rfl) (ySh.n hS rfl) ?_
                  refine y_in (M := xm_X14_refuse) (ls := [some _, some _, some _]) rfl rfl rfl ?_
                  refine y_iload_n rfl rfl ?_
                  refine y_if_eqT rfl j_X14_refuse_16 (by decide) ?_
                  refine y_aload_n rfl rfl ?_
                  refine y_getIv (v := Int32.ofInt (0)) rfl (ySh.t hS rfl) (ySh.n hS rfl) rfl rfl hth ?_
                  refine y_if_leT rfl j_X14_refuse_27 (by decide) ?_
                  refine y_iconst rfl ?_
                  refine y_ireturn rfl rfl rfl ?_
                  refine y_ret1 ?_
                  refine y_if_eqT rfl j_X14_join_140 (by decide) ?_
                  refine y_aload rfl rfl ?_
                  obtain ⟨hR_v27, hb_v27, ht_v27⟩ := hR0.ven hlo_b13 hb0_b13 ht_b13 (j := 0) (by decide)
                  have hb0_v27 := hb_v27
                  have hb_v27 := Nat.lt_of_lt_of_le hb_v27 hn
                  have hlo_v27 : 94 ≤ b13 + 1 + 0 := by omega
                  have hR2_v27 := (congrFun (hX.2.1 b13 hb_b13).2.2 0).trans hR_v27
                  refine y_getR rfl ((hX.2.1 _ hb_b13).1.trans ht_b13) (Nat.lt_of_lt_of_le hb_b13 hX.1) rfl rfl hR2_v27 ?_
                  refine y_iload rfl rfl ?_
                  refine y_iconst rfl ?_
                  refine y_zastore rfl ((hX.2.1 _ hb_v27).1.trans ht_v27) (Nat.lt_of_lt_of_le hb_v27 hX.1) (Nat.le_trans (by decide) (by omega : 94 ≤ _)) (by omega) (by omega) rfl ?_
                  refine y_nameI (fun I28 e28 => ?_)
                  have hR1 := (hR0.grow hX).upV hlo_b13 (by omega) ((hX.2.1 _ hb_b13).1.trans ht_b13) (j := 0) (by decide) e28
                  have hK := (hK.x hRo hno hX).upE hRo hno (upI e28) (by omega) (by omega) (by rw [((hX.2.1 _ hb_v27).1.trans ht_v27)]; decide) (by rw [e28, upd2_ne (.inl (by omega))]; exact Int.le_refl _)
                  have hth := (show I28 83 0 = I6 83 0 by rw [e28, upd2_ne (.inl (by omega))]).trans hth
                  have hzz : ySz I6 I28 := ySz_ofE (upI e28) (by omega)
                  have hB := (hB.trans hX).wr e28 rfl
                  have h8 : ∀ a, 84 ≤ a → a ≤ 86 → I28 a = I a := fun a h1 h2 => (upI e28 a (by omega)).trans ((hX.2.1 a (by omega)).2.1.trans (h8 a h1 h2))
                  have h3k : ∀ k, k ≠ 0 → I28 83 k = I 83 k := fun k hk => (congrFun (congrFun e28 83) k).trans ((upd2_ne (.inl (by omega))).trans ((congrFun (hX.2.1 83 (by omega)).2.1 k).trans (h3k k hk)))
                  have hg := (hg.gx hX (by omega)).both e28
                  have hday : I28 83 1 = I 83 1 := (congrFun (congrFun e28 83) 1).trans ((upd2_ne (.inl (by omega))).trans ((congrFun (hX.2.1 83 (by omega)).2.1 1).trans hday))
                  have hRb : ∀ a, a < n → R a = R a := fun a ha => (hX.2.1 a (by omega)).2.2.trans (hRb a ha)
                  have hS0 := hS
                  have hR0 := hR1
                  have ht_b13 := (hX.2.1 _ hb_b13).1.trans ht_b13
                  have hb_b13 := Nat.lt_of_lt_of_le hb_b13 hX.1
                  have hb0_b13 := hb_b13
                  have ht_v16 := (hX.2.1 _ hb_v16).1.trans ht_v16
                  have hb_v16 := Nat.lt_of_lt_of_le hb_v16 hX.1
                  have hb0_v16 := hb_v16
                  have ht_v23 := (hX.2.1 _ hb_v23).1.trans ht_v23
                  have hb_v23 := Nat.lt_of_lt_of_le hb_v23 hX.1
                  have hb0_v23 := hb_v23
                  have ht_v27 := (hX.2.1 _ hb_v27).1.trans ht_v27
                  have hb_v27 := Nat.lt_of_lt_of_le hb_v27 hX.1
                  have hb0_v27 := hb_v27
                  have hn := Nat.le_refl n
                  have h94 := hS0.1
                  have hX := @yX.rf n tg I28 R
                  have hS := hS0.x hX
                  have hR := hR0.x hn hX
                  have hz := hX.sz h94
                  have hxn := hX.1
                  have hN := hR0.1
                  have hnb := hR0.2.2.2.2.2.2
                  have hthB := hth
                  refine y_aload rfl rfl ?_
                  obtain ⟨hR_v29, hb_v29, ht_v29⟩ := hR0.ven hlo_b13 hb0_b13 ht_b13 (j := 1) (by decide)
                  have hb0_v29 := hb_v29
                  have hb_v29 := Nat.lt_of_lt_of_le hb_v29 hn
                  have hlo_v29 : 94 ≤ b13 + 1 + 1 := by omega
                  have hR2_v29 := (congrFun (hX.2.1 b13 hb_b13).2.2 1).trans hR_v29
                  refine y_getR rfl ((hX.2.1 _ hb_b13).1.trans ht_b13) (Nat.lt_of_lt_of_le hb_b13 hX.1) rfl rfl hR2_v29 ?_
                  refine y_iload rfl rfl ?_
                  refine y_iload_n rfl rfl ?_
                  refine y_iastore rfl ((hX.2.1 _ hb_v29).1.trans ht_v29) (Nat.lt_of_lt_of_le hb_v29 hX.1) (Nat.le_trans (by decide) (by omega : 94 ≤ _)) (by omega) (by omega) ?_
                  refine y_nameI (fun I30 e30 => ?_)
                  have hR1 := (hR0.grow hX).capJ hlo_b13 (by omega) ((hX.2.1 _ hb_b13).1.trans ht_b13) (by omega) ⟨by omega, by omega⟩ e30 hk6
                  have hK := (hK.x hRo hno hX).upE hRo hno (upI e30) (by omega) (by omega) (by rw [((hX.2.1 _ hb_v29).1.trans ht_v29)]; decide) (by rw [e30, upd2_ne (.inl (by omega))]; exact Int.le_refl _)
                  have hth := (show I30 83 0 = I28 83 0 by rw [e30, upd2_ne (.inl (by omega))]).trans hth
                  have hzz : ySz I28 I30 := ySz_ofE (upI e30) (by omega)
                  have hB := (hB.trans hX).wr e30 rfl
                  have h8 : ∀ a, 84 ≤ a → a ≤ 86 → I30 a = I a := fun a h1 h2 => (upI e30 a (by omega)).trans ((hX.2.1 a (by omega)).2.1.trans (h8 a h1 h2))
                  have h3k : ∀ k, k ≠ 0 → I30 83 k = I 83 k := fun k hk => (congrFun (congrFun e30 83) k).trans ((upd2_ne (.inl (by omega))).trans ((congrFun (hX.2.1 83 (by omega)).2.1 k).trans (h3k k hk)))
                  have hg := (hg.gx hX (by omega)).both e30
                  have hday : I30 83 1 = I 83 1 := (congrFun (congrFun e30 83) 1).trans ((upd2_ne (.inl (by omega))).trans ((congrFun (hX.2.1 83 (by omega)).2.1 1).trans hday))
                  have hRb : ∀ a, a < n → R a = R a := fun a ha => (hX.2.1 a (by omega)).2.2.trans (hRb a ha)
                  have hS0 := hS
                  have hR0 := hR1
                  have ht_b13 := (hX.2.1 _ hb_b13).1.trans ht_b13
                  have hb_b13 := Nat.lt_of_lt_of_le hb_b13 hX.1
                  have hb0_b13 := hb_b13
                  have ht_v16 := (hX.2.1 _ hb_v16).1.trans ht_v16
                  have hb_v16 := Nat.lt_of_lt_of_le hb_v16 hX.1
                  have hb0_v16 := hb_v16
                  have ht_v23 := (hX.2.1 _ hb_v23).1.trans ht_v23
                  have hb_v23 := Nat.lt_of_lt_of_le hb_v23 hX.1
                  have hb0_v23 := hb_v23
                  have ht_v27 := (hX.2.1 _ hb_v27).1.trans ht_v27
                  have hb_v27 := Nat.lt_of_lt_of_le hb_v27 hX.1
                  have hb0_v27 := hb_v27
                  have ht_v29 := (hX.2.1 _ hb_v29).1.trans ht_v29
                  have hb_v29 := Nat.lt_of_lt_of_le hb_v29 hX.1
                  have hb0_v29 := hb_v29
                  have hn := Nat.le_refl n
                  have h94 := hS0.1
                  have hX := @yX.rf n tg I30 R
                  have hS := hS0.x hX
                  have hR := hR0.x hn hX
                  have hz := hX.sz h94
                  have hxn := hX.1
                  have hN := hR0.1
                  have hnb := hR0.2.2.2.2.2.2
                  have hthB := hth
                  refine y_aload rfl rfl ?_
                  obtain ⟨hR_v31, hb_v31, ht_v31⟩ := hR0.ven hlo_b13 hb0_b13 ht_b13 (j := 2) (by decide)
                  have hb0_v31 := hb_v31
                  have hb_v31 := Nat.lt_of_lt_of_le hb_v31 hn
                  have hlo_v31 : 94 ≤ b13 + 1 + 2 := by omega
                  have hR2_v31 := (congrFun (hX.2.1 b13 hb_b13).2.2 2).trans hR_v31
                  refine y_getR rfl ((hX.2.1 _ hb_b13).1.trans ht_b13) (Nat.lt_of_lt_of_le hb_b13 hX.1) rfl rfl hR2_v31 ?_
                  refine y_iload rfl rfl ?_
                  refine y_iload rfl rfl ?_
                  refine y_iastore rfl ((hX.2.1 _ hb_v31).1.trans ht_v31) (Nat.lt_of_lt_of_le hb_v31 hX.1) (Nat.le_trans (by decide) (by omega : 94 ≤ _)) (by omega) (by omega) ?_
                  refine y_nameI (fun I32 e32 => ?_)
                  have hR1 := (hR0.grow hX).upV hlo_b13 (by omega) ((hX.2.1 _ hb_b13).1.trans ht_b13) (j := 2) (by decide) e32
                  have hK := (hK.x hRo hno hX).upE hRo hno (upI e32) (by omega) (by omega) (by rw [((hX.2.1 _ hb_v31).1.trans ht_v31)]; decide) (by rw [e32, upd2_ne (.inl (by omega))]; exact Int.le_refl _)
                  have hth := (show I32 83 0 = I30 83 0 by rw [e32, upd2_ne (.inl (by omega))]).trans hth
                  have hzz : ySz I30 I32 := ySz_ofE (upI e32) (by omega)
                  have hB := (hB.trans hX).wr e32 rfl
                  have h8 : ∀ a, 84 ≤ a → a ≤ 86 → I32 a = I a := fun a h1 h2 => (upI e32 a (by omega)).trans ((hX.2.1 a (by omega)).2.1.trans (h8 a h1 h2))
                  have h3k : ∀ k, k ≠ 0 → I32 83 k = I 83 k := fun k hk => (congrFun (congrFun e32 83) k).trans ((upd2_ne (.inl (by omega))).trans ((congrFun (hX.2.1 83 (by omega)).2.1 k).trans (h3k k hk)))
                  have hg := (hg.gx hX (by omega)).both e32
                  have hday : I32 83 1 = I 83 1 := (congrFun (congrFun e32 83) 1).trans ((upd2_ne (.inl (by omega))).trans ((congrFun (hX.2.1 83 (by omega)).2.1 1).trans hday))
                  have hRb : ∀ a, a < n → R a = R a := fun a ha => (hX.2.1 a (by omega)).2.2.trans (hRb a ha)
                  have hS0 := hS
                  have hR0 := hR1
                  have ht_b13 := (hX.2.1 _ hb_b13).1.trans ht_b13
                  have hb_b13 := Nat.lt_of_lt_of_le hb_b13 hX.1
                  have hb0_b13 := hb_b13
                  have ht_v16 := (hX.2.1 _ hb_v16).1.trans ht_v16
                  have hb_v16 := Nat.lt_of_lt_of_le hb_v16 hX.1
                  have hb0_v16 := hb_v16
                  have ht_v23 := (hX.2.1 _ hb_v23).1.trans ht_v23
                  have hb_v23 := Nat.lt_of_lt_of_le hb_v23 hX.1
                  have hb0_v23 := hb_v23
                  have ht_v27 := (hX.2.1 _ hb_v27).1.trans ht_v27
                  have hb_v27 := Nat.lt_of_lt_of_le hb_v27 hX.1
                  have hb0_v27 := hb_v27
                  have ht_v29 := (hX.2.1 _ hb_v29).1.trans ht_v29
                  have hb_v29 := Nat.lt_of_lt_of_le hb_v29 hX.1
                  have hb0_v29 := hb_v29
                  have ht_v31 := (hX.2.1 _ hb_v31).1.trans ht_v31
                  have hb_v31 := Nat.lt_of_lt_of_le hb_v31 hX.1
                  have hb0_v31 := hb_v31
                  have hn := Nat.le_refl n
                  have h94 := hS0.1
                  have hX := @yX.rf n tg I32 R
                  have hS := hS0.x hX
                  have hR := hR0.x hn hX
                  have hz := hX.sz h94
                  have hxn := hX.1
                  have hN := hR0.1
                  have hnb := hR0.2.2.2.2.2.2
                  have hthB := hth
                  refine y_aload_n rfl rfl ?_
                  refine y_getR rfl (ySh.t hS rfl) (ySh.n hS rfl) rfl rfl (ySh.r hS rfl) ?_
                  refine y_iload rfl rfl ?_
                  refine y_dup2 rfl rfl rfl ?_
                  refine y_ialoadv (J := I 84) rfl (ySh.t hS rfl) (ySh.n hS rfl) (by omega) (by omega) (((hB.trans hX).n (by omega)).trans (by repeat (first | rfl | (rw [upd2_row (by first | decide | omega)]) | refine upd2_cg ?_))) ?_
                  refine y_iload_n rfl rfl ?_
                  refine y_isub rfl ?_
                  refine y_iastore rfl (ySh.t hS rfl) (ySh.n hS rfl) (Nat.le_of_ble_eq_true rfl) (by omega) (by omega) ?_
                  refine y_nameI (fun I33 e33 => ?_)
                  have hR1 := (hR0.grow hX).arr e33 (by decide)
                  have hK := (hK.x hRo hno hX).upI (upI e33) (by decide) (by decide) (fun i hi => by have := (hRo.l87.2.2.2.2 i hi).2.1; omega) (by rw [e33, upd2_ne (.inl (by omega))]; exact Int.le_refl _)
                  have hth := (show I33 83 0 = I32 83 0 by rw [e33, upd2_ne (.inl (by omega))]).trans hth
                  have hzz : ySz I32 I33 := ySz_ofE (upI e33) (by omega)
                  have hB := (hB.trans hX).wr e33 rfl
                  have h3k : ∀ k, k ≠ 0 → I33 83 k = I 83 k := fun k hk => (congrFun (congrFun e33 83) k).trans ((upd2_ne (.inl (by omega))).trans ((congrFun (hX.2.1 83 (by omega)).2.1 k).trans (h3k k hk)))
                  have hg := (hg.gx hX (by omega)).skip e33 (by decide)
                  have hday : I33 83 1 = I 83 1 := (congrFun (congrFun e33 83) 1).trans ((upd2_ne (.inl (by omega))).trans ((congrFun (hX.2.1 83 (by omega)).2.1 1).trans hday))
                  have hRb : ∀ a, a < n → R a = R a := fun a ha => (hX.2.1 a (by omega)).2.2.trans (hRb a ha)
                  have hS0 := hS
                  have hR0 := hR1
                  have ht_b13 := (hX.2.1 _ hb_b13).1.trans ht_b13
                  have hb_b13 := Nat.lt_of_lt_of_le hb_b13 hX.1
                  have hb0_b13 := hb_b13
                  have ht_v16 := (hX.2.1 _ hb_v16).1.trans ht_v16
                  have hb_v16 := Nat.lt_of_lt_of_le hb_v16 hX.1
                  have hb0_v16 := hb_v16
                  have ht_v23 := (hX.2.1 _ hb_v23).1.trans ht_v23
                  have hb_v23 := Nat.lt_of_lt_of_le hb_v23 hX.1
                  have hb0_v23 := hb_v23
                  have ht_v27 := (hX.2.1 _ hb_v27).1.trans ht_v27
                  have hb_v27 := Nat.lt_of_lt_of_le hb_v27 hX.1
                  have hb0_v27 := hb_v27
                  have ht_v29 := (hX.2.1 _ hb_v29).1.trans ht_v29
                  have hb_v29 := Nat.lt_of_lt_of_le hb_v29 hX.1
                  have hb0_v29 := hb_v29
                  have ht_v31 := (hX.2.1 _ hb_v31).1.trans ht_v31
                  have hb_v31 := Nat.lt_of_lt_of_le hb_v31 hX.1
                  have hb0_v31 := hb_v31
                  have hn := Nat.le_refl n
                  have h94 := hS0.1
                  have hX := @yX.rf n tg I33 R
                  have hS := hS0.x hX
                  have hR := hR0.x hn hX
                  have hz := hX.sz h94
                  have hxn := hX.1
                  have hN := hR0.1
                  have hnb := hR0.2.2.2.2.2.2
                  have hthB := hth
                  refine y_aload rfl rfl ?_
                  refine y_aload rfl rfl ?_
                  obtain ⟨hR_v34, hb_v34, ht_v34⟩ := hR0.ven hlo_b13 hb0_b13 ht_b13 (j := 2) (by decide)
                  have hb0_v34 := hb_v34
                  have hb_v34 := Nat.lt_of_lt_of_le hb_v34 hn
                  have hlo_v34 : 94 ≤ b13 + 1 + 2 := by omega
                  have hR2_v34 := (congrFun (hX.2.1 b13 hb_b13).2.2 2).trans hR_v34
                  refine y_getR rfl ((hX.2.1 _ hb_b13).1.trans ht_b13) (Nat.lt_of_lt_of_le hb_b13 hX.1) rfl rfl hR2_v34 ?_
                  refine y_virt rfl rfl rfl rfl rfl ((hX.2.1 _ hb_b13).1.trans ht_b13) (Nat.lt_of_lt_of_le hb_b13 hX.1) ?_
                  refine r_allX ((hX.2.1 _ hb_v34).1.trans ht_v34) (Nat.lt_of_lt_of_le hb_v34 hX.1) (fun v_35 hv_35 => ?_)
                  subst hv_35
                  refine y_ret1 ?_
                  refine y_ireturn rfl rfl rfl ?_
                  exact hQ0 _ eb_b13 (by first | omega | (simp only [show ySeat x2 = x2 from if_neg (by omega)]; omega) | (simp only [show ySeat x2 = Int32.ofInt 8 from if_pos (by omega), show (Int32.ofInt 8).toInt.toNat = 8 from by decide]; omega)) _ _ _ _ _ _ _ hS (hR0.grow hX) (hK.x hRo hno hX) hth (by first | rfl | (exact congrArg (fun f => yFz f 9) ((hB.trans hX).n (by omega)).symm)) (by first | (exact hB.trans hX) | (simp only [show ySeat x2 = x2 from if_neg (by omega)]; exact hB.trans hX) | (simp only [show ySeat x2 = Int32.ofInt 8 from if_pos (by omega), show (Int32.ofInt 8).toInt.toNat = 8 from by decide]; exact hB.trans hX)) (by omega) (by omega)
                · rw [yz_100] at h_26
                  refine y_iconst rfl ?_
                  refine y_goto rfl j_X14_join_131 ?_
                  refine y_iconst rfl ?_
                  refine y_virt rfl rfl rfl rfl rfl (ySh.t hS rfl) (ySh.n hS rfl) ?_
                  refine y_in (M := xm_X14_refuse) (ls := [some _, some _, some _]) rfl rfl rfl ?_
                  refine y_iload_n rfl rfl ?_
                  refine y_if_eqF rfl (by decide) ?_
                  refine y_aload_n rfl rfl ?_
                  refine y_getIv (v := Int32.ofInt (0)) rfl (ySh.t hS rfl) (ySh.n hS rfl) rfl rfl hth ?_
                  refine y_if_neF rfl (by decide) ?_
                  refine y_aload_n rfl rfl ?_
                  refine y_iload_n rfl rfl ?_
                  refine y_putI rfl (ySh.t hS rfl) (ySh.n hS rfl) rfl (Nat.le_of_ble_eq_true rfl) rfl rfl ?_
                  refine y_nameI (fun I36 e36 => ?_)
                  have hR1 := (hR0.grow hX).mod0 e36 (by decide) (by decide)
                  have hK := (hK.x hRo hno hX).upI (upI e36) (by decide) (by decide) (fun i hi => by have := (hRo.l87.2.2.2.2 i hi).2.1; omega) (by rw [e36, upd2_ne (.inr (by decide))]; exact Int.le_refl _)
                  have hth : I36 83 0 = Int32.ofInt (3) := by rw [e36, upd2_self]
                  have hzz : ySz8 I6 I36 := ySz8_of (upI e36) (by rw [e36]; exact ⟨upd2_ne (.inr (by decide)), upd2_ne (.inr (by decide))⟩)
                  have hB := (hB.trans hX).wr e36 rfl
                  have h8 : ∀ a, 84 ≤ a → a ≤ 86 → I36 a = I a := fun a h1 h2 => (upI e36 a (by omega)).trans ((hX.2.1 a (by omega)).2.1.trans (h8 a h1 h2))
                  have h3k : ∀ k, k ≠ 0 → I36 83 k = I 83 k := fun k hk => (congrFun (congrFun e36 83) k).trans ((upd2_ne (.inr hk)).trans ((congrFun (hX.2.1 83 (by omega)).2.1 k).trans (h3k k hk)))
                  have hg := (hg.gx hX (by omega)).skip e36 (by decide)
                  have hday : I36 83 1 = I 83 1 := (congrFun (congrFun e36 83) 1).trans ((upd2_ne (.inr (by decide))).trans ((congrFun (hX.2.1 83 (by omega)).2.1 1).trans hday))
                  have hRb : ∀ a, a < n → R a = R a := fun a ha => (hX.2.1 a (by omega)).2.2.trans (hRb a ha)
                  have hb83 : ∀ a, a ≠ 83 → a < n → I36 a = I a := fun a ha hb => (upI e36 a ha).trans ((hX.2.1 a (by omega)).2.1.trans (hb83 a ha hb))
                  have hS0 := hS
                  have hR0 := hR1
                  have ht_b13 := (hX.2.1 _ hb_b13).1.trans ht_b13
                  have hb_b13 := Nat.lt_of_lt_of_le hb_b13 hX.1
                  have hb0_b13 := hb_b13
                  have ht_v16 := (hX.2.1 _ hb_v16).1.trans ht_v16
                  have hb_v16 := Nat.lt_of_lt_of_le hb_v16 hX.1
                  have hb0_v16 := hb_v16
                  have ht_v23 := (hX.2.1 _ hb_v23).1.trans ht_v23
                  have hb_v23 := Nat.lt_of_lt_of_le hb_v23 hX.1
                  have hb0_v23 := hb_v23
                  have hn := Nat.le_refl n
                  have h94 := hS0.1
                  have hX := @yX.rf n tg I36 R
                  have hS := hS0.x hX
                  have hR := hR0.x hn hX
                  have hz := hX.sz h94
                  have hxn := hX.1
                  have hN := hR0.1
                  have hnb := hR0.2.2.2.2.2.2
                  have hthB := hth
                  refine y_aload_n rfl rfl ?_
                  refine y_getIv (v := Int32.ofInt (3)) rfl (ySh.t hS rfl) (ySh.n hS rfl) rfl rfl hth ?_
                  refine y_if_leF rfl (by decide) ?_
                  refine y_iconst rfl ?_
                  refine y_goto rfl j_X14_refuse_28 ?_
                  refine y_ireturn rfl rfl rfl ?_
                  refine y_ret1 ?_
                  refine y_if_eqF rfl (by decide) ?_
                  refine y_iconst rfl ?_
                  refine y_ireturn rfl rfl rfl ?_
                  exact hQ3 _ eb_b13 (by first | omega | (simp only [show ySeat x2 = x2 from if_neg (by omega)]; omega) | (simp only [show ySeat x2 = Int32.ofInt 8 from if_pos (by omega), show (Int32.ofInt 8).toInt.toNat = 8 from by decide]; omega)) _ _ _ _ _ _ _ hS ((hR0.grow hX).up (Nat.le_succ K) hk6) (hK.x hRo hno hX) hth ((hB.trans hX).rf2 (by omega)) (by omega) (by omega)
          · rw [yz_m1] at h_15
            refine y_bip rfl (by decide) ?_
            refine y_goto rfl j_X14_seat_11 ?_
            refine y_ireturn rfl rfl rfl ?_
            refine y_ret1 ?_
            refine y_istore (ls' := [some _, some _, some _, some _, some _, some _, some _]) rfl rfl rfl ?_
            refine y_aload_n rfl rfl ?_
            refine y_aload rfl rfl ?_
            obtain ⟨hR_v37, hb_v37, ht_v37⟩ := hR0.ven hlo_b13 hb0_b13 ht_b13 (j := 0) (by decide)
            have hb0_v37 := hb_v37
            have hb_v37 := Nat.lt_of_lt_of_le hb_v37 hn
            have hlo_v37 : 94 ≤ b13 + 1 + 0 := by omega
            have hR2_v37 := (congrFun (hX.2.1 b13 hb_b13).2.2 0).trans hR_v37
            refine y_getR rfl ((hX.2.1 _ hb_b13).1.trans ht_b13) (Nat.lt_of_lt_of_le hb_b13 hX.1) rfl rfl hR2_v37 ?_
            refine y_iload rfl rfl ?_
            refine y_baloadw (j := 8) (J := I (b13 + 1 + 0)) rfl ((hX.2.1 _ hb_v37).1.trans ht_v37) rfl (Nat.lt_of_lt_of_le hb_v37 hX.1) (by decide) (by decide) rfl (((hB.trans hX).n (by omega)).trans (by repeat (first | rfl | (rw [upd2_row (by first | decide | omega)]) | refine upd2_cg ?_))) ?_
            refine y_if_ne rfl j_X14_join_126 (fun h_38 => ?_) (fun h_39 => ?_)
            · refine y_iconst rfl ?_
              refine y_goto rfl j_X14_join_131 ?_
              refine y_iconst rfl ?_
              refine y_virt rfl rfl rfl rfl rfl (ySh.t hS rfl) (ySh.n hS rfl) ?_
              refine y_in (M := xm_X14_refuse) (ls := [some _, some _, some _]) rfl rfl rfl ?_
              refine y_iload_n rfl rfl ?_
              refine y_if_eqF rfl (by decide) ?_
              refine y_aload_n rfl rfl ?_
              refine y_getIv (v := Int32.ofInt (0)) rfl (ySh.t hS rfl) (ySh.n hS rfl) rfl rfl hth ?_
              refine y_if_neF rfl (by decide) ?_
              refine y_aload_n rfl rfl ?_
              refine y_iload_n rfl rfl ?_
              refine y_putI rfl (ySh.t hS rfl) (ySh.n hS rfl) rfl (Nat.le_of_ble_eq_true rfl) rfl rfl ?_
              refine y_nameI (fun I40 e40 => ?_)
              have hR1 := (hR0.grow hX).mod0 e40 (by decide) (by decide)
              have hK := (hK.x hRo hno hX).upI (upI e40) (by decide) (by decide) (fun i hi => by have := (hRo.l87.2.2.2.2 i hi).2.1; omega) (by rw [e40, upd2_ne (.inr (by decide))]; exact Int.le_refl _)
              have hth : I40 83 0 = Int32.ofInt (3) := by rw [e40, upd2_self]
              have hzz : ySz8 I6 I40 := ySz8_of (upI e40) (by rw [e40]; exact ⟨upd2_ne (.inr (by decide)), upd2_ne (.inr (by decide))⟩)
              have hB := (hB.trans hX).wr e40 rfl
              have h8 : ∀ a, 84 ≤ a → a ≤ 86 → I40 a = I a := fun a h1 h2 => (upI e40 a (by omega)).trans ((hX.2.1 a (by omega)).2.1.trans (h8 a h1 h2))
              have h3k : ∀ k, k ≠ 0 → I40 83 k = I 83 k := fun k hk => (congrFun (congrFun e40 83) k).trans ((upd2_ne (.inr hk)).trans ((congrFun (hX.2.1 83 (by omega)).2.1 k).trans (h3k k hk)))
              have hg := (hg.gx hX (by omega)).skip e40 (by decide)
              have hday : I40 83 1 = I 83 1 := (congrFun (congrFun e40 83) 1).trans ((upd2_ne (.inr (by decide))).trans ((congrFun (hX.2.1 83 (by omega)).2.1 1).trans hday))
              have hRb : ∀ a, a < n → R a = R a := fun a ha => (hX.2.1 a (by omega)).2.2.trans (hRb a ha)
              have hb83 : ∀ a, a ≠ 83 → a < n → I40 a = I a := fun a ha hb => (upI e40 a ha).trans ((hX.2.1 a (by omega)).2.1.trans (hb83 a ha hb))
              have hS0 := hS
              have hR0 := hR1
              have ht_b13 := (hX.2.1 _ hb_b13).1.trans ht_b13
              have hb_b13 := Nat.lt_of_lt_of_le hb_b13 hX.1
              have hb0_b13 := hb_b13
              have ht_v37 := (hX.2.1 _ hb_v37).1.trans ht_v37
              have hb_v37 := Nat.lt_of_lt_of_le hb_v37 hX.1
              have hb0_v37 := hb_v37
              have hn := Nat.le_refl n
              have h94 := hS0.1
              have hX := @yX.rf n tg I40 R
              have hS := hS0.x hX
              have hR := hR0.x hn hX
              have hz := hX.sz h94
              have hxn := hX.1
              have hN := hR0.1
              have hnb := hR0.2.2.2.2.2.2
              have hthB := hth
              refine y_aload_n rfl rfl ?_
              refine y_getIv (v := Int32.ofInt (3)) rfl (ySh.t hS rfl) (ySh.n hS rfl) rfl rfl hth ?_
              refine y_if_leF rfl (by decide) ?_
              refine y_iconst rfl ?_
              refine y_goto rfl j_X14_refuse_28 ?_
              refine y_ireturn rfl rfl rfl ?_
              refine y_ret1 ?_
              refine y_if_eqF rfl (by decide) ?_
              refine y_iconst rfl ?_
              refine y_ireturn rfl rfl rfl ?_
              exact hQ3 _ eb_b13 (by first | omega | (simp only [show ySeat x2 = x2 from if_neg (by omega)]; omega) | (simp only [show ySeat x2 = Int32.ofInt 8 from if_pos (by omega), show (Int32.ofInt 8).toInt.toNat = 8 from by decide]; omega)) _ _ _ _ _ _ _ hS ((hR0.grow hX).up (Nat.le_succ K) hk6) (hK.x hRo hno hX) hth ((hB.trans hX).rf2 (by omega)) (by omega) (by omega)
            · refine y_aload_n rfl rfl ?_
              refine y_getR rfl (ySh.t hS rfl) (ySh.n hS rfl) rfl rfl (ySh.r hS rfl) ?_
              refine y_iload rfl rfl ?_
              refine y_ialoadw (j := 8) (J := I 84) rfl (ySh.t hS rfl) (ySh.n hS rfl) (by decide) (by decide) rfl (((hB.trans hX).n (by omega)).trans (by repeat (first | rfl | (rw [upd2_row (by first | decide | omega)]) | refine upd2_cg ?_))) ?_
              refine y_iload_n rfl rfl ?_
              refine y_icmp_lt rfl j_X14_join_126 (fun h_41 => ?_) (fun h_42 => ?_)
              · refine y_iconst rfl ?_
                refine y_goto rfl j_X14_join_131 ?_
                refine y_iconst rfl ?_
                refine y_virt rfl rfl rfl rfl rfl (ySh.t hS rfl) (ySh.n hS rfl) ?_
                refine y_in (M := xm_X14_refuse) (ls := [some _, some _, some _]) rfl rfl rfl ?_
                refine y_iload_n rfl rfl ?_
                refine y_if_eqF rfl (by decide) ?_
                refine y_aload_n rfl rfl ?_
                refine y_getIv (v := Int32.ofInt (0)) rfl (ySh.t hS rfl) (ySh.n hS rfl) rfl rfl hth ?_
                refine y_if_neF rfl (by decide) ?_
                refine y_aload_n rfl rfl ?_
                refine y_iload_n rfl rfl ?_
                refine y_putI rfl (ySh.t hS rfl) (ySh.n hS rfl) rfl (Nat.le_of_ble_eq_true rfl) rfl rfl ?_
                refine y_nameI (fun I43 e43 => ?_)
                have hR1 := (hR0.grow hX).mod0 e43 (by decide) (by decide)
                have hK := (hK.x hRo hno hX).upI (upI e43) (by decide) (by decide) (fun i hi => by have := (hRo.l87.2.2.2.2 i hi).2.1; omega) (by rw [e43, upd2_ne (.inr (by decide))]; exact Int.le_refl _)
                have hth : I43 83 0 = Int32.ofInt (3) := by rw [e43, upd2_self]
                have hzz : ySz8 I6 I43 := ySz8_of (upI e43) (by rw [e43]; exact ⟨upd2_ne (.inr (by decide)), upd2_ne (.inr (by decide))⟩)
                have hB := (hB.trans hX).wr e43 rfl
                have h8 : ∀ a, 84 ≤ a → a ≤ 86 → I43 a = I a := fun a h1 h2 => (upI e43 a (by omega)).trans ((hX.2.1 a (by omega)).2.1.trans (h8 a h1 h2))
                have h3k : ∀ k, k ≠ 0 → I43 83 k = I 83 k := fun k hk => (congrFun (congrFun e43 83) k).trans ((upd2_ne (.inr hk)).trans ((congrFun (hX.2.1 83 (by omega)).2.1 k).trans (h3k k hk)))
                have hg := (hg.gx hX (by omega)).skip e43 (by decide)
                have hday : I43 83 1 = I 83 1 := (congrFun (congrFun e43 83) 1).trans ((upd2_ne (.inr (by decide))).trans ((congrFun (hX.2.1 83 (by omega)).2.1 1).trans hday))
                have hRb : ∀ a, a < n → R a = R a := fun a ha => (hX.2.1 a (by omega)).2.2.trans (hRb a ha)
                have hb83 : ∀ a, a ≠ 83 → a < n → I43 a = I a := fun a ha hb => (upI e43 a ha).trans ((hX.2.1 a (by omega)).2.1.trans (hb83 a ha hb))
                have hS0 := hS
                have hR0 := hR1
                have ht_b13 := (hX.2.1 _ hb_b13).1.trans ht_b13
                have hb_b13 := Nat.lt_of_lt_of_le hb_b13 hX.1
                have hb0_b13 := hb_b13
                have ht_v37 := (hX.2.1 _ hb_v37).1.trans ht_v37
                have hb_v37 := Nat.lt_of_lt_of_le hb_v37 hX.1
                have hb0_v37 := hb_v37
                have hn := Nat.le_refl n
                have h94 := hS0.1
                have hX := @yX.rf n tg I43 R
                have hS := hS0.x hX
                have hR := hR0.x hn hX
                have hz := hX.sz h94
                have hxn := hX.1
                have hN := hR0.1
                have hnb := hR0.2.2.2.2.2.2
                have hthB := hth
                refine y_aload_n rfl rfl ?_
                refine y_getIv (v := Int32.ofInt (3)) rfl (ySh.t hS rfl) (ySh.n hS rfl) rfl rfl hth ?_
                refine y_if_leF rfl (by decide) ?_
                refine y_iconst rfl ?_
                refine y_goto rfl j_X14_refuse_28 ?_
                refine y_ireturn rfl rfl rfl ?_
                refine y_ret1 ?_
                refine y_if_eqF rfl (by decide) ?_
                refine y_iconst rfl ?_
                refine y_ireturn rfl rfl rfl ?_
                exact hQ3 _ eb_b13 (by first | omega | (simp only [show ySeat x2 = x2 from if_neg (by omega)]; omega) | (simp only [show ySeat x2 = Int32.ofInt 8 from if_pos (by omega), show (Int32.ofInt 8).toInt.toNat = 8 from by decide]; omega)) _ _ _ _ _ _ _ hS ((hR0.grow hX).up (Nat.le_succ K) hk6) (hK.x hRo hno hX) hth ((hB.trans hX).rf2 (by omega)) (by omega) (by omega)
              · refine y_aload rfl rfl ?_
                refine y_aload rfl rfl ?_
                obtain ⟨hR_v44, hb_v44, ht_v44⟩ := hR0.ven hlo_b13 hb0_b13 ht_b13 (j := 2) (by decide)
                have hb0_v44 := hb_v44
                have hb_v44 := Nat.lt_of_lt_of_le hb_v44 hn
                have hlo_v44 : 94 ≤ b13 + 1 + 2 := by omega
                have hR2_v44 := (congrFun (hX.2.1 b13 hb_b13).2.2 2).trans hR_v44
                refine y_getR rfl ((hX.2.1 _ hb_b13).1.trans ht_b13) (Nat.lt_of_lt_of_le hb_b13 hX.1) rfl rfl hR2_v44 ?_
                refine y_virt rfl rfl rfl rfl rfl ((hX.2.1 _ hb_b13).1.trans ht_b13) (Nat.lt_of_lt_of_le hb_b13 hX.1) ?_
                refine r_allX ((hX.2.1 _ hb_v44).1.trans ht_v44) (Nat.lt_of_lt_of_le hb_v44 hX.1) (fun v_45 hv_45 => ?_)
                rw [show I6 (b13 + 1 + 2) = I (b13 + 1 + 2) from (((hB.trans hX).n (by omega)).trans (by repeat (first | rfl | (rw [upd2_row (by first | decide | omega)]) | refine upd2_cg ?_)))] at hv_45
                subst hv_45
                refine y_ret1 ?_
                refine y_iload rfl rfl ?_
                refine y_iadd rfl ?_
                refine y_bip rfl (by decide) ?_
                refine y_icmp_le rfl j_X14_join_130 (fun h_46 => ?_) (fun h_47 => ?_)
                · rw [yz_100] at h_46
                  refine y_iconst rfl ?_
                  refine y_iconst rfl ?_
                  refine y_virt rfl rfl rfl rfl rfl (ySh.t hS rfl) (ySh.n hS rfl) ?_
                  refine y_in (M := xm_X14_refuse) (ls := [some _, some _, some _]) rfl rfl rfl ?_
                  refine y_iload_n rfl rfl ?_
                  refine y_if_eqT rfl j_X14_refuse_16 (by decide) ?_
                  refine y_aload_n rfl rfl ?_
                  refine y_getIv (v := Int32.ofInt (0)) rfl (ySh.t hS rfl) (ySh.n hS rfl) rfl rfl hth ?_
                  refine y_if_leT rfl j_X14_refuse_27 (by decide) ?_
                  refine y_iconst rfl ?_
                  refine y_ireturn rfl rfl rfl ?_
                  refine y_ret1 ?_
                  refine y_if_eqT rfl j_X14_join_140 (by decide) ?_
                  refine y_aload rfl rfl ?_
                  obtain ⟨hR_v48, hb_v48, ht_v48⟩ := hR0.ven hlo_b13 hb0_b13 ht_b13 (j := 0) (by decide)
                  have hb0_v48 := hb_v48
                  have hb_v48 := Nat.lt_of_lt_of_le hb_v48 hn
                  have hlo_v48 : 94 ≤ b13 + 1 + 0 := by omega
                  have hR2_v48 := (congrFun (hX.2.1 b13 hb_b13).2.2 0).trans hR_v48
                  refine y_getR rfl ((hX.2.1 _ hb_b13).1.trans ht_b13) (Nat.lt_of_lt_of_le hb_b13 hX.1) rfl rfl hR2_v48 ?_
                  refine y_iload rfl rfl ?_
                  refine y_iconst rfl ?_
                  refine y_zastore rfl ((hX.2.1 _ hb_v48).1.trans ht_v48) (Nat.lt_of_lt_of_le hb_v48 hX.1) (Nat.le_trans (by decide) (by omega : 94 ≤ _)) (by decide) (by decide) rfl ?_
                  refine y_nameI (fun I49 e49 => ?_)
                  have hR1 := (hR0.grow hX).upV hlo_b13 (by omega) ((hX.2.1 _ hb_b13).1.trans ht_b13) (j := 0) (by decide) e49
                  have hK := (hK.x hRo hno hX).upE hRo hno (upI e49) (by omega) (by omega) (by rw [((hX.2.1 _ hb_v48).1.trans ht_v48)]; decide) (by rw [e49, upd2_ne (.inl (by omega))]; exact Int.le_refl _)
                  have hth := (show I49 83 0 = I6 83 0 by rw [e49, upd2_ne (.inl (by omega))]).trans hth
                  have hzz : ySz I6 I49 := ySz_ofE (upI e49) (by omega)
                  have hB := (hB.trans hX).wr e49 rfl
                  have h8 : ∀ a, 84 ≤ a → a ≤ 86 → I49 a = I a := fun a h1 h2 => (upI e49 a (by omega)).trans ((hX.2.1 a (by omega)).2.1.trans (h8 a h1 h2))
                  have h3k : ∀ k, k ≠ 0 → I49 83 k = I 83 k := fun k hk => (congrFun (congrFun e49 83) k).trans ((upd2_ne (.inl (by omega))).trans ((congrFun (hX.2.1 83 (by omega)).2.1 k).trans (h3k k hk)))
                  have hg := (hg.gx hX (by omega)).both e49
                  have hday : I49 83 1 = I 83 1 := (congrFun (congrFun e49 83) 1).trans ((upd2_ne (.inl (by omega))).trans ((congrFun (hX.2.1 83 (by omega)).2.1 1).trans hday))
                  have hRb : ∀ a, a < n → R a = R a := fun a ha => (hX.2.1 a (by omega)).2.2.trans (hRb a ha)
                  have hS0 := hS
                  have hR0 := hR1
                  have ht_b13 := (hX.2.1 _ hb_b13).1.trans ht_b13
                  have hb_b13 := Nat.lt_of_lt_of_le hb_b13 hX.1
                  have hb0_b13 := hb_b13
                  have ht_v37 := (hX.2.1 _ hb_v37).1.trans ht_v37
                  have hb_v37 := Nat.lt_of_lt_of_le hb_v37 hX.1
                  have hb0_v37 := hb_v37
                  have ht_v44 := (hX.2.1 _ hb_v44).1.trans ht_v44
                  have hb_v44 := Nat.lt_of_lt_of_le hb_v44 hX.1
                  have hb0_v44 := hb_v44
                  have ht_v48 := (hX.2.1 _ hb_v48).1.trans ht_v48
                  have hb_v48 := Nat.lt_of_lt_of_le hb_v48 hX.1
                  have hb0_v48 := hb_v48
                  have hn := Nat.le_refl n
                  have h94 := hS0.1
                  have hX := @yX.rf n tg I49 R
                  have hS := hS0.x hX
                  have hR := hR0.x hn hX
                  have hz := hX.sz h94
                  have hxn := hX.1
                  have hN := hR0.1
                  have hnb := hR0.2.2.2.2.2.2
                  have hthB := hth
                  refine y_aload rfl rfl ?_
                  obtain ⟨hR_v50, hb_v50, ht_v50⟩ := hR0.ven hlo_b13 hb0_b13 ht_b13 (j := 1) (by decide)
                  have hb0_v50 := hb_v50
                  have hb_v50 := Nat.lt_of_lt_of_le hb_v50 hn
                  have hlo_v50 : 94 ≤ b13 + 1 + 1 := by omega
                  have hR2_v50 := (congrFun (hX.2.1 b13 hb_b13).2.2 1).trans hR_v50
                  refine y_getR rfl ((hX.2.1 _ hb_b13).1.trans ht_b13) (Nat.lt_of_lt_of_le hb_b13 hX.1) rfl rfl hR2_v50 ?_
                  refine y_iload rfl rfl ?_
                  refine y_iload_n rfl rfl ?_
                  refine y_iastoreC (j := 8) rfl ((hX.2.1 _ hb_v50).1.trans ht_v50) (Nat.lt_of_lt_of_le hb_v50 hX.1) (Nat.le_trans (by decide) (by omega : 94 ≤ _)) (by decide) (by decide) rfl ?_
                  refine y_nameI (fun I51 e51 => ?_)
                  have hR1 := (hR0.grow hX).capJ hlo_b13 (by omega) ((hX.2.1 _ hb_b13).1.trans ht_b13) (by omega) ⟨by omega, by omega⟩ e51 hk6
                  have hK := (hK.x hRo hno hX).upE hRo hno (upI e51) (by omega) (by omega) (by rw [((hX.2.1 _ hb_v50).1.trans ht_v50)]; decide) (by rw [e51, upd2_ne (.inl (by omega))]; exact Int.le_refl _)
                  have hth := (show I51 83 0 = I49 83 0 by rw [e51, upd2_ne (.inl (by omega))]).trans hth
                  have hzz : ySz I49 I51 := ySz_ofE (upI e51) (by omega)
                  have hB := (hB.trans hX).wr e51 rfl
                  have h8 : ∀ a, 84 ≤ a → a ≤ 86 → I51 a = I a := fun a h1 h2 => (upI e51 a (by omega)).trans ((hX.2.1 a (by omega)).2.1.trans (h8 a h1 h2))
                  have h3k : ∀ k, k ≠ 0 → I51 83 k = I 83 k := fun k hk => (congrFun (congrFun e51 83) k).trans ((upd2_ne (.inl (by omega))).trans ((congrFun (hX.2.1 83 (by omega)).2.1 k).trans (h3k k hk)))
                  have hg := (hg.gx hX (by omega)).both e51
                  have hday : I51 83 1 = I 83 1 := (congrFun (congrFun e51 83) 1).trans ((upd2_ne (.inl (by omega))).trans ((congrFun (hX.2.1 83 (by omega)).2.1 1).trans hday))
                  have hRb : ∀ a, a < n → R a = R a := fun a ha => (hX.2.1 a (by omega)).2.2.trans (hRb a ha)
                  have hS0 := hS
                  have hR0 := hR1
                  have ht_b13 := (hX.2.1 _ hb_b13).1.trans ht_b13
                  have hb_b13 := Nat.lt_of_lt_of_le hb_b13 hX.1
                  have hb0_b13 := hb_b13
                  have ht_v37 := (hX.2.1 _ hb_v37).1.trans ht_v37
                  have hb_v37 := Nat.lt_of_lt_of_le hb_v37 hX.1
                  have hb0_v37 := hb_v37
                  have ht_v44 := (hX.2.1 _ hb_v44).1.trans ht_v44
                  have hb_v44 := Nat.lt_of_lt_of_le hb_v44 hX.1
                  have hb0_v44 := hb_v44
                  have ht_v48 := (hX.2.1 _ hb_v48).1.trans ht_v48
                  have hb_v48 := Nat.lt_of_lt_of_le hb_v48 hX.1
                  have hb0_v48 := hb_v48
                  have ht_v50 := (hX.2.1 _ hb_v50).1.trans ht_v50
                  have hb_v50 := Nat.lt_of_lt_of_le hb_v50 hX.1
                  have hb0_v50 := hb_v50
                  have hn := Nat.le_refl n
                  have h94 := hS0.1
                  have hX := @yX.rf n tg I51 R
                  have hS := hS0.x hX
                  have hR := hR0.x hn hX
                  have hz := hX.sz h94
                  have hxn := hX.1
                  have hN := hR0.1
                  have hnb := hR0.2.2.2.2.2.2
                  have hthB := hth
                  refine y_aload rfl rfl ?_
                  obtain ⟨hR_v52, hb_v52, ht_v52⟩ := hR0.ven hlo_b13 hb0_b13 ht_b13 (j := 2) (by decide)
                  have hb0_v52 := hb_v52
                  have hb_v52 := Nat.lt_of_lt_of_le hb_v52 hn
                  have hlo_v52 : 94 ≤ b13 + 1 + 2 := by omega
                  have hR2_v52 := (congrFun (hX.2.1 b13 hb_b13).2.2 2).trans hR_v52
                  refine y_getR rfl ((hX.2.1 _ hb_b13).1.trans ht_b13) (Nat.lt_of_lt_of_le hb_b13 hX.1) rfl rfl hR2_v52 ?_
                  refine y_iload rfl rfl ?_
                  refine y_iload rfl rfl ?_
                  refine y_iastoreC (j := 8) rfl ((hX.2.1 _ hb_v52).1.trans ht_v52) (Nat.lt_of_lt_of_le hb_v52 hX.1) (Nat.le_trans (by decide) (by omega : 94 ≤ _)) (by decide) (by decide) rfl ?_
                  refine y_nameI (fun I53 e53 => ?_)
                  have hR1 := (hR0.grow hX).upV hlo_b13 (by omega) ((hX.2.1 _ hb_b13).1.trans ht_b13) (j := 2) (by decide) e53
                  have hK := (hK.x hRo hno hX).upE hRo hno (upI e53) (by omega) (by omega) (by rw [((hX.2.1 _ hb_v52).1.trans ht_v52)]; decide) (by rw [e53, upd2_ne (.inl (by omega))]; exact Int.le_refl _)
                  have hth := (show I53 83 0 = I51 83 0 by rw [e53, upd2_ne (.inl (by omega))]).trans hth
                  have hzz : ySz I51 I53 := ySz_ofE (upI e53) (by omega)
                  have hB := (hB.trans hX).wr e53 rfl
                  have h8 : ∀ a, 84 ≤ a → a ≤ 86 → I53 a = I a := fun a h1 h2 => (upI e53 a (by omega)).trans ((hX.2.1 a (by omega)).2.1.trans (h8 a h1 h2))
                  have h3k : ∀ k, k ≠ 0 → I53 83 k = I 83 k := fun k hk => (congrFun (congrFun e53 83) k).trans ((upd2_ne (.inl (by omega))).trans ((congrFun (hX.2.1 83 (by omega)).2.1 k).trans (h3k k hk)))
                  have hg := (hg.gx hX (by omega)).both e53
                  have hday : I53 83 1 = I 83 1 := (congrFun (congrFun e53 83) 1).trans ((upd2_ne (.inl (by omega))).trans ((congrFun (hX.2.1 83 (by omega)).2.1 1).trans hday))
                  have hRb : ∀ a, a < n → R a = R a := fun a ha => (hX.2.1 a (by omega)).2.2.trans (hRb a ha)
                  have hS0 := hS
                  have hR0 := hR1
                  have ht_b13 := (hX.2.1 _ hb_b13).1.trans ht_b13
                  have hb_b13 := Nat.lt_of_lt_of_le hb_b13 hX.1
                  have hb0_b13 := hb_b13
                  have ht_v37 := (hX.2.1 _ hb_v37).1.trans ht_v37
                  have hb_v37 := Nat.lt_of_lt_of_le hb_v37 hX.1
                  have hb0_v37 := hb_v37
                  have ht_v44 := (hX.2.1 _ hb_v44).1.trans ht_v44
                  have hb_v44 := Nat.lt_of_lt_of_le hb_v44 hX.1
                  have hb0_v44 := hb_v44
                  have ht_v48 := (hX.2.1 _ hb_v48).1.trans ht_v48
                  have hb_v48 := Nat.lt_of_lt_of_le hb_v48 hX.1
                  have hb0_v48 := hb_v48
                  have ht_v50 := (hX.2.1 _ hb_v50).1.trans ht_v50
                  have hb_v50 := Nat.lt_of_lt_of_le hb_v50 hX.1
                  have hb0_v50 := hb_v50
                  have ht_v52 := (hX.2.1 _ hb_v52).1.trans ht_v52
                  have hb_v52 := Nat.lt_of_lt_of_le hb_v52 hX.1
                  have hb0_v52 := hb_v52
                  have hn := Nat.le_refl n
                  have h94 := hS0.1
                  have hX := @yX.rf n tg I53 R
                  have hS := hS0.x hX
                  have hR := hR0.x hn hX
                  have hz := hX.sz h94
                  have hxn := hX.1
                  have hN := hR0.1
                  have hnb := hR0.2.2.2.2.2.2
                  have hthB := hth
                  refine y_aload_n rfl rfl ?_
                  refine y_getR rfl (ySh.t hS rfl) (ySh.n hS rfl) rfl rfl (ySh.r hS rfl) ?_
                  refine y_iload rfl rfl ?_
                  refine y_dup2 rfl rfl rfl ?_
                  refine y_ialoadw (j := 8) (J := I 84) rfl (ySh.t hS rfl) (ySh.n hS rfl) (by decide) (by decide) rfl (((hB.trans hX).n (by omega)).trans (by repeat (first | rfl | (rw [upd2_row (by first | decide | omega)]) | refine upd2_cg ?_))) ?_
                  refine y_iload_n rfl rfl ?_
                  refine y_isub rfl ?_
                  refine y_iastoreC (j := 8) rfl (ySh.t hS rfl) (ySh.n hS rfl) (Nat.le_of_ble_eq_true rfl) (by decide) (by decide) rfl ?_
                  refine y_nameI (fun I54 e54 => ?_)
                  have hR1 := (hR0.grow hX).arr e54 (by decide)
                  have hK := (hK.x hRo hno hX).upI (upI e54) (by decide) (by decide) (fun i hi => by have := (hRo.l87.2.2.2.2 i hi).2.1; omega) (by rw [e54, upd2_ne (.inl (by omega))]; exact Int.le_refl _)
                  have hth := (show I54 83 0 = I53 83 0 by rw [e54, upd2_ne (.inl (by omega))]).trans hth
                  have hzz : ySz I53 I54 := ySz_ofE (upI e54) (by omega)
                  have hB := (hB.trans hX).wr e54 rfl
                  have h3k : ∀ k, k ≠ 0 → I54 83 k = I 83 k := fun k hk => (congrFun (congrFun e54 83) k).trans ((upd2_ne (.inl (by omega))).trans ((congrFun (hX.2.1 83 (by omega)).2.1 k).trans (h3k k hk)))
                  have hg := (hg.gx hX (by omega)).skip e54 (by decide)
                  have hday : I54 83 1 = I 83 1 := (congrFun (congrFun e54 83) 1).trans ((upd2_ne (.inl (by omega))).trans ((congrFun (hX.2.1 83 (by omega)).2.1 1).trans hday))
                  have hRb : ∀ a, a < n → R a = R a := fun a ha => (hX.2.1 a (by omega)).2.2.trans (hRb a ha)
                  have hS0 := hS
                  have hR0 := hR1
                  have ht_b13 := (hX.2.1 _ hb_b13).1.trans ht_b13
                  have hb_b13 := Nat.lt_of_lt_of_le hb_b13 hX.1
                  have hb0_b13 := hb_b13
                  have ht_v37 := (hX.2.1 _ hb_v37).1.trans ht_v37
                  have hb_v37 := Nat.lt_of_lt_of_le hb_v37 hX.1
                  have hb0_v37 := hb_v37
                  have ht_v44 := (hX.2.1 _ hb_v44).1.trans ht_v44
                  have hb_v44 := Nat.lt_of_lt_of_le hb_v44 hX.1
                  have hb0_v44 := hb_v44
                  have ht_v48 := (hX.2.1 _ hb_v48).1.trans ht_v48
                  have hb_v48 := Nat.lt_of_lt_of_le hb_v48 hX.1
                  have hb0_v48 := hb_v48
                  have ht_v50 := (hX.2.1 _ hb_v50).1.trans ht_v50
                  have hb_v50 := Nat.lt_of_lt_of_le hb_v50 hX.1
                  have hb0_v50 := hb_v50
                  have ht_v52 := (hX.2.1 _ hb_v52).1.trans ht_v52
                  have hb_v52 := Nat.lt_of_lt_of_le hb_v52 hX.1
                  have hb0_v52 := hb_v52
                  have hn := Nat.le_refl n
                  have h94 := hS0.1
                  have hX := @yX.rf n tg I54 R
                  have hS := hS0.x hX
                  have hR := hR0.x hn hX
                  have hz := hX.sz h94
                  have hxn := hX.1
                  have hN := hR0.1
                  have hnb := hR0.2.2.2.2.2.2
                  have hthB := hth
                  refine y_aload rfl rfl ?_
                  refine y_aload rfl rfl ?_
                  obtain ⟨hR_v55, hb_v55, ht_v55⟩ := hR0.ven hlo_b13 hb0_b13 ht_b13 (j := 2) (by decide)
                  have hb0_v55 := hb_v55
                  have hb_v55 := Nat.lt_of_lt_of_le hb_v55 hn
                  have hlo_v55 : 94 ≤ b13 + 1 + 2 := by omega
                  have hR2_v55 := (congrFun (hX.2.1 b13 hb_b13).2.2 2).trans hR_v55
                  refine y_getR rfl ((hX.2.1 _ hb_b13).1.trans ht_b13) (Nat.lt_of_lt_of_le hb_b13 hX.1) rfl rfl hR2_v55 ?_
                  refine y_virt rfl rfl rfl rfl rfl ((hX.2.1 _ hb_b13).1.trans ht_b13) (Nat.lt_of_lt_of_le hb_b13 hX.1) ?_
                  refine r_allX ((hX.2.1 _ hb_v55).1.trans ht_v55) (Nat.lt_of_lt_of_le hb_v55 hX.1) (fun v_56 hv_56 => ?_)
                  subst hv_56
                  refine y_ret1 ?_
                  refine y_ireturn rfl rfl rfl ?_
                  exact hQ0 _ eb_b13 (by first | omega | (simp only [show ySeat x2 = x2 from if_neg (by omega)]; omega) | (simp only [show ySeat x2 = Int32.ofInt 8 from if_pos (by omega), show (Int32.ofInt 8).toInt.toNat = 8 from by decide]; omega)) _ _ _ _ _ _ _ hS (hR0.grow hX) (hK.x hRo hno hX) hth (by first | rfl | (exact congrArg (fun f => yFz f 9) ((hB.trans hX).n (by omega)).symm)) (by first | (exact hB.trans hX) | (simp only [show ySeat x2 = x2 from if_neg (by omega)]; exact hB.trans hX) | (simp only [show ySeat x2 = Int32.ofInt 8 from if_pos (by omega), show (Int32.ofInt 8).toInt.toNat = 8 from by decide]; exact hB.trans hX)) (by omega) (by omega)
                · rw [yz_100] at h_47
                  refine y_iconst rfl ?_
                  refine y_goto rfl j_X14_join_131 ?_
                  refine y_iconst rfl ?_
                  refine y_virt rfl rfl rfl rfl rfl (ySh.t hS rfl) (ySh.n hS rfl) ?_
                  refine y_in (M := xm_X14_refuse) (ls := [some _, some _, some _]) rfl rfl rfl ?_
                  refine y_iload_n rfl rfl ?_
                  refine y_if_eqF rfl (by decide) ?_
                  refine y_aload_n rfl rfl ?_
                  refine y_getIv (v := Int32.ofInt (0)) rfl (ySh.t hS rfl) (ySh.n hS rfl) rfl rfl hth ?_
                  refine y_if_neF rfl (by decide) ?_
                  refine y_aload_n rfl rfl ?_
                  refine y_iload_n rfl rfl ?_
                  refine y_putI rfl (ySh.t hS rfl) (ySh.n hS rfl) rfl (Nat.le_of_ble_eq_true rfl) rfl rfl ?_
                  refine y_nameI (fun I57 e57 => ?_)
                  have hR1 := (hR0.grow hX).mod0 e57 (by decide) (by decide)
                  have hK := (hK.x hRo hno hX).upI (upI e57) (by decide) (by decide) (fun i hi => by have := (hRo.l87.2.2.2.2 i hi).2.1; omega) (by rw [e57, upd2_ne (.inr (by decide))]; exact Int.le_refl _)
                  have hth : I57 83 0 = Int32.ofInt (3) := by rw [e57, upd2_self]
                  have hzz : ySz8 I6 I57 := ySz8_of (upI e57) (by rw [e57]; exact ⟨upd2_ne (.inr (by decide)), upd2_ne (.inr (by decide))⟩)
                  have hB := (hB.trans hX).wr e57 rfl
                  have h8 : ∀ a, 84 ≤ a → a ≤ 86 → I57 a = I a := fun a h1 h2 => (upI e57 a (by omega)).trans ((hX.2.1 a (by omega)).2.1.trans (h8 a h1 h2))
                  have h3k : ∀ k, k ≠ 0 → I57 83 k = I 83 k := fun k hk => (congrFun (congrFun e57 83) k).trans ((upd2_ne (.inr hk)).trans ((congrFun (hX.2.1 83 (by omega)).2.1 k).trans (h3k k hk)))
                  have hg := (hg.gx hX (by omega)).skip e57 (by decide)
                  have hday : I57 83 1 = I 83 1 := (congrFun (congrFun e57 83) 1).trans ((upd2_ne (.inr (by decide))).trans ((congrFun (hX.2.1 83 (by omega)).2.1 1).trans hday))
                  have hRb : ∀ a, a < n → R a = R a := fun a ha => (hX.2.1 a (by omega)).2.2.trans (hRb a ha)
                  have hb83 : ∀ a, a ≠ 83 → a < n → I57 a = I a := fun a ha hb => (upI e57 a ha).trans ((hX.2.1 a (by omega)).2.1.trans (hb83 a ha hb))
                  have hS0 := hS
                  have hR0 := hR1
                  have ht_b13 := (hX.2.1 _ hb_b13).1.trans ht_b13
                  have hb_b13 := Nat.lt_of_lt_of_le hb_b13 hX.1
                  have hb0_b13 := hb_b13
                  have ht_v37 := (hX.2.1 _ hb_v37).1.trans ht_v37
                  have hb_v37 := Nat.lt_of_lt_of_le hb_v37 hX.1
                  have hb0_v37 := hb_v37
                  have ht_v44 := (hX.2.1 _ hb_v44).1.trans ht_v44
                  have hb_v44 := Nat.lt_of_lt_of_le hb_v44 hX.1
                  have hb0_v44 := hb_v44
                  have hn := Nat.le_refl n
                  have h94 := hS0.1
                  have hX := @yX.rf n tg I57 R
                  have hS := hS0.x hX
                  have hR := hR0.x hn hX
                  have hz := hX.sz h94
                  have hxn := hX.1
                  have hN := hR0.1
                  have hnb := hR0.2.2.2.2.2.2
                  have hthB := hth
                  refine y_aload_n rfl rfl ?_
                  refine y_getIv (v := Int32.ofInt (3)) rfl (ySh.t hS rfl) (ySh.n hS rfl) rfl rfl hth ?_
                  refine y_if_leF rfl (by decide) ?_
                  refine y_iconst rfl ?_
                  refine y_goto rfl j_X14_refuse_28 ?_
                  refine y_ireturn rfl rfl rfl ?_
                  refine y_ret1 ?_
                  refine y_if_eqF rfl (by decide) ?_
                  refine y_iconst rfl ?_
                  refine y_ireturn rfl rfl rfl ?_
                  exact hQ3 _ eb_b13 (by first | omega | (simp only [show ySeat x2 = x2 from if_neg (by omega)]; omega) | (simp only [show ySeat x2 = Int32.ofInt 8 from if_pos (by omega), show (Int32.ofInt 8).toInt.toNat = 8 from by decide]; omega)) _ _ _ _ _ _ _ hS ((hR0.grow hX).up (Nat.le_succ K) hk6) (hK.x hRo hno hX) hth ((hB.trans hX).rf2 (by omega)) (by omega) (by omega)
        · rw [yz_0] at h_12
          rw [yz_100] at h_12
          refine y_ret1 ?_
          refine y_if_neF rfl (by decide) ?_
          refine y_iconst rfl ?_
          refine y_goto rfl j_X14_join_57 ?_
          refine y_iconst rfl ?_
          refine y_virt rfl rfl rfl rfl rfl (ySh.t hS rfl) (ySh.n hS rfl) ?_
          refine y_in (M := xm_X14_refuse) (ls := [some _, some _, some _]) rfl rfl rfl ?_
          refine y_iload_n rfl rfl ?_
          refine y_if_eqF rfl (by decide) ?_
          refine y_aload_n rfl rfl ?_
          refine y_getIv (v := Int32.ofInt (0)) rfl (ySh.t hS rfl) (ySh.n hS rfl) rfl rfl hth ?_
          refine y_if_neF rfl (by decide) ?_
          refine y_aload_n rfl rfl ?_
          refine y_iload_n rfl rfl ?_
          refine y_putI rfl (ySh.t hS rfl) (ySh.n hS rfl) rfl (Nat.le_of_ble_eq_true rfl) rfl rfl ?_
          refine y_nameI (fun I58 e58 => ?_)
          have hR1 := (hR0.grow hX).mod0 e58 (by decide) (by decide)
          have hK := (hK.x hRo hno hX).upI (upI e58) (by decide) (by decide) (fun i hi => by have := (hRo.l87.2.2.2.2 i hi).2.1; omega) (by rw [e58, upd2_ne (.inr (by decide))]; exact Int.le_refl _)
          have hth : I58 83 0 = Int32.ofInt (2) := by rw [e58, upd2_self]
          have hzz : ySz8 I6 I58 := ySz8_of (upI e58) (by rw [e58]; exact ⟨upd2_ne (.inr (by decide)), upd2_ne (.inr (by decide))⟩)
          have hB := (hB.trans hX).wr e58 rfl
          have h8 : ∀ a, 84 ≤ a → a ≤ 86 → I58 a = I a := fun a h1 h2 => (upI e58 a (by omega)).trans ((hX.2.1 a (by omega)).2.1.trans (h8 a h1 h2))
          have h3k : ∀ k, k ≠ 0 → I58 83 k = I 83 k := fun k hk => (congrFun (congrFun e58 83) k).trans ((upd2_ne (.inr hk)).trans ((congrFun (hX.2.1 83 (by omega)).2.1 k).trans (h3k k hk)))
          have hg := (hg.gx hX (by omega)).skip e58 (by decide)
          have hday : I58 83 1 = I 83 1 := (congrFun (congrFun e58 83) 1).trans ((upd2_ne (.inr (by decide))).trans ((congrFun (hX.2.1 83 (by omega)).2.1 1).trans hday))
          have hRb : ∀ a, a < n → R a = R a := fun a ha => (hX.2.1 a (by omega)).2.2.trans (hRb a ha)
          have hb83 : ∀ a, a ≠ 83 → a < n → I58 a = I a := fun a ha hb => (upI e58 a ha).trans ((hX.2.1 a (by omega)).2.1.trans (hb83 a ha hb))
          have hS0 := hS
          have hR0 := hR1
          have hn := Nat.le_refl n
          have h94 := hS0.1
          have hX := @yX.rf n tg I58 R
          have hS := hS0.x hX
          have hR := hR0.x hn hX
          have hz := hX.sz h94
          have hxn := hX.1
          have hN := hR0.1
          have hnb := hR0.2.2.2.2.2.2
          have hthB := hth
          refine y_aload_n rfl rfl ?_
          refine y_getIv (v := Int32.ofInt (2)) rfl (ySh.t hS rfl) (ySh.n hS rfl) rfl rfl hth ?_
          refine y_if_leF rfl (by decide) ?_
          refine y_iconst rfl ?_
          refine y_goto rfl j_X14_refuse_28 ?_
          refine y_ireturn rfl rfl rfl ?_
          refine y_ret1 ?_
          refine y_if_eqF rfl (by decide) ?_
          refine y_iconst rfl ?_
          refine y_ireturn rfl rfl rfl ?_
          exact hQ2 (by first | omega | (simp only [show ySeat x2 = x2 from if_neg (by omega)]; omega) | (simp only [show ySeat x2 = Int32.ofInt 8 from if_pos (by omega), show (Int32.ofInt 8).toInt.toNat = 8 from by decide]; omega)) _ _ _ _ _ _ _ hS ((hR0.grow hX).up (Nat.le_succ K) hk6) (hK.x hRo hno hX) hth ((hB.trans hX).rf2 (by omega)) (by omega) (by omega)
      · rw [yz_1] at h_9
        rw [yz_999] at h_9
        refine y_ret1 ?_
        refine y_if_eqT rfl j_X14_join_52 (by decide) ?_
        refine y_iconst rfl ?_
        refine y_goto rfl j_X14_join_57 ?_
        refine y_iconst rfl ?_
        refine y_virt rfl rfl rfl rfl rfl (ySh.t hS rfl) (ySh.n hS rfl) ?_
        refine y_in (M := xm_X14_refuse) (ls := [some _, some _, some _]) rfl rfl rfl ?_
        refine y_iload_n rfl rfl ?_
        refine y_if_eqF rfl (by decide) ?_
        refine y_aload_n rfl rfl ?_
        refine y_getIv (v := Int32.ofInt (0)) rfl (ySh.t hS rfl) (ySh.n hS rfl) rfl rfl hth ?_
        refine y_if_neF rfl (by decide) ?_
        refine y_aload_n rfl rfl ?_
        refine y_iload_n rfl rfl ?_
        refine y_putI rfl (ySh.t hS rfl) (ySh.n hS rfl) rfl (Nat.le_of_ble_eq_true rfl) rfl rfl ?_
        refine y_nameI (fun I59 e59 => ?_)
        have hR1 := (hR0.grow hX).mod0 e59 (by decide) (by decide)
        have hK := (hK.x hRo hno hX).upI (upI e59) (by decide) (by decide) (fun i hi => by have := (hRo.l87.2.2.2.2 i hi).2.1; omega) (by rw [e59, upd2_ne (.inr (by decide))]; exact Int.le_refl _)
        have hth : I59 83 0 = Int32.ofInt (2) := by rw [e59, upd2_self]
        have hzz : ySz8 I6 I59 := ySz8_of (upI e59) (by rw [e59]; exact ⟨upd2_ne (.inr (by decide)), upd2_ne (.inr (by decide))⟩)
        have hB := (hB.trans hX).wr e59 rfl
        have h8 : ∀ a, 84 ≤ a → a ≤ 86 → I59 a = I a := fun a h1 h2 => (upI e59 a (by omega)).trans ((hX.2.1 a (by omega)).2.1.trans (h8 a h1 h2))
        have h3k : ∀ k, k ≠ 0 → I59 83 k = I 83 k := fun k hk => (congrFun (congrFun e59 83) k).trans ((upd2_ne (.inr hk)).trans ((congrFun (hX.2.1 83 (by omega)).2.1 k).trans (h3k k hk)))
        have hg := (hg.gx hX (by omega)).skip e59 (by decide)
        have hday : I59 83 1 = I 83 1 := (congrFun (congrFun e59 83) 1).trans ((upd2_ne (.inr (by decide))).trans ((congrFun (hX.2.1 83 (by omega)).2.1 1).trans hday))
        have hRb : ∀ a, a < n → R a = R a := fun a ha => (hX.2.1 a (by omega)).2.2.trans (hRb a ha)
        have hb83 : ∀ a, a ≠ 83 → a < n → I59 a = I a := fun a ha hb => (upI e59 a ha).trans ((hX.2.1 a (by omega)).2.1.trans (hb83 a ha hb))
        have hS0 := hS
        have hR0 := hR1
        have hn := Nat.le_refl n
        have h94 := hS0.1
        have hX := @yX.rf n tg I59 R
        have hS := hS0.x hX
        have hR := hR0.x hn hX
        have hz := hX.sz h94
        have hxn := hX.1
        have hN := hR0.1
        have hnb := hR0.2.2.2.2.2.2
        have hthB := hth
        refine y_aload_n rfl rfl ?_
        refine y_getIv (v := Int32.ofInt (2)) rfl (ySh.t hS rfl) (ySh.n hS rfl) rfl rfl hth ?_
        refine y_if_leF rfl (by decide) ?_
        refine y_iconst rfl ?_
        refine y_goto rfl j_X14_refuse_28 ?_
        refine y_ireturn rfl rfl rfl ?_
        refine y_ret1 ?_
        refine y_if_eqF rfl (by decide) ?_
        refine y_iconst rfl ?_
        refine y_ireturn rfl rfl rfl ?_
        exact hQ2 (by first | omega | (simp only [show ySeat x2 = x2 from if_neg (by omega)]; omega) | (simp only [show ySeat x2 = Int32.ofInt 8 from if_pos (by omega), show (Int32.ofInt 8).toInt.toNat = 8 from by decide]; omega)) _ _ _ _ _ _ _ hS ((hR0.grow hX).up (Nat.le_succ K) hk6) (hK.x hRo hno hX) hth ((hB.trans hX).rf2 (by omega)) (by omega) (by omega)
    · rw [yz_m1] at h_5
      refine y_aload_n rfl rfl ?_
      refine y_iload_n rfl rfl ?_
      refine y_virt rfl rfl rfl rfl rfl (ySh.t hS rfl) (ySh.n hS rfl) ?_
      refine y_in (M := xm_X14_isNobody) (ls := [some _, some _]) rfl rfl rfl ?_
      refine y_iload_n rfl rfl ?_
      refine y_iconst rfl ?_
      refine y_aload_n rfl rfl ?_
      refine y_getIv (v := I 83 8) rfl (ySh.t hS rfl) (ySh.n hS rfl) rfl rfl ((congrFun ((hB.trans hX).n (by omega : 83 < n)) 8).trans (by repeat (first | rfl | rw [upd2_ne (by first | exact .inl (by omega) | exact .inr (by decide))]))) ?_
      refine y_iconst rfl ?_
      refine y_isub rfl ?_
      refine y_static rfl rfl rfl rfl rfl ?_
      refine r_isIn (fun h_60 h_61 => ?_) (fun h_62 => ?_)
      · rw [yz_0] at h_60
        try rw [ysub (by rw [yz_1]; omega) (by rw [yz_1]; omega), yz_1] at h_61
        refine y_ret1 ?_
        refine y_if_neT rfl j_X14_isNobody_18 (by decide) ?_
        refine y_iconst rfl ?_
        refine y_ireturn rfl rfl rfl ?_
        refine y_ret1 ?_
        refine y_if_eqT rfl j_X14_isNoOne_17 (by decide) ?_
        refine y_iconst rfl ?_
        refine y_ireturn rfl rfl rfl ?_
        refine y_ret1 ?_
        refine y_if_eqT rfl j_X14_join_21 (by decide) ?_
        refine y_iconst rfl ?_
        refine y_iconst rfl ?_
        refine y_virt rfl rfl rfl rfl rfl (ySh.t hS rfl) (ySh.n hS rfl) ?_
        refine y_in (M := xm_X14_start) (ls := [some _, some _, some _]) rfl rfl rfl ?_
        refine y_aload_n rfl rfl ?_
        refine y_iconst rfl ?_
        refine y_putI rfl (ySh.t hS rfl) (ySh.n hS rfl) rfl (Nat.le_of_ble_eq_true rfl) rfl rfl ?_
        refine y_nameI (fun I63 e63 => ?_)
        have hR1 := (hR0.grow hX).mod0 e63 (by decide) (by decide)
        have hK := (hK.x hRo hno hX).upI (upI e63) (by decide) (by decide) (fun i hi => by have := (hRo.l87.2.2.2.2 i hi).2.1; omega) (by rw [e63, upd2_ne (.inr (by decide))]; exact Int.le_refl _)
        have hth : I63 83 0 = Int32.ofInt (0) := by rw [e63, upd2_self]
        have hzz : ySz8 I I63 := ySz8_of (upI e63) (by rw [e63]; exact ⟨upd2_ne (.inr (by decide)), upd2_ne (.inr (by decide))⟩)
        have hB := (hB.trans hX).wr e63 rfl
        have h8 : ∀ a, 84 ≤ a → a ≤ 86 → I63 a = I a := fun a h1 h2 => (upI e63 a (by omega)).trans ((hX.2.1 a (by omega)).2.1.trans (h8 a h1 h2))
        have h3k : ∀ k, k ≠ 0 → I63 83 k = I 83 k := fun k hk => (congrFun (congrFun e63 83) k).trans ((upd2_ne (.inr hk)).trans ((congrFun (hX.2.1 83 (by omega)).2.1 k).trans (h3k k hk)))
        have hg := (hg.gx hX (by omega)).skip e63 (by decide)
        have hday : I63 83 1 = I 83 1 := (congrFun (congrFun e63 83) 1).trans ((upd2_ne (.inr (by decide))).trans ((congrFun (hX.2.1 83 (by omega)).2.1 1).trans hday))
        have hRb : ∀ a, a < n → R a = R a := fun a ha => (hX.2.1 a (by omega)).2.2.trans (hRb a ha)
        have hb83 : ∀ a, a ≠ 83 → a < n → I63 a = I a := fun a ha hb => (upI e63 a ha).trans ((hX.2.1 a (by omega)).2.1.trans (hb83 a ha hb))
        have hS0 := hS
        have hR0 := hR1
        have hn := Nat.le_refl n
        have h94 := hS0.1
        have hX := @yX.rf n tg I63 R
        have hS := hS0.x hX
        have hR := hR0.x hn hX
        have hz := hX.sz h94
        have hxn := hX.1
        have hN := hR0.1
        have hnb := hR0.2.2.2.2.2.2
        have hthB := hth
        refine y_aload_n rfl rfl ?_
        refine y_iload_n rfl rfl ?_
        refine y_iload_n rfl rfl ?_
        refine y_virt rfl rfl rfl rfl rfl (ySh.t hS rfl) (ySh.n hS rfl) ?_
        refine y_in (M := xm_X14_refuse) (ls := [some _, some _, some _]) rfl rfl rfl ?_
        refine y_iload_n rfl rfl ?_
        refine y_if_eqT rfl j_X14_refuse_16 (by decide) ?_
        refine y_aload_n rfl rfl ?_
        refine y_getIv (v := Int32.ofInt (0)) rfl (ySh.t hS rfl) (ySh.n hS rfl) rfl rfl hth ?_
        refine y_if_leT rfl j_X14_refuse_27 (by decide) ?_
        refine y_iconst rfl ?_
        refine y_ireturn rfl rfl rfl ?_
        refine y_ret1 ?_
        refine y_ireturn rfl rfl rfl ?_
        refine y_ret1 ?_
        refine y_if_neF rfl (by decide) ?_
        refine y_aload_n rfl rfl ?_
        refine y_iload_n rfl rfl ?_
        refine y_iconst rfl ?_
        refine y_sip rfl (by decide) ?_
        refine y_static rfl rfl rfl rfl rfl ?_
        refine r_isIn (fun h_64 h_65 => ?_) (fun h_66 => ?_)
        · rw [yz_1] at h_64
          rw [yz_999] at h_65
          refine y_ret1 ?_
          refine y_if_eqF rfl (by decide) ?_
          refine y_iload rfl rfl ?_
          refine y_iconst rfl ?_
          refine y_bip rfl (by decide) ?_
          refine y_static rfl rfl rfl rfl rfl ?_
          refine r_isIn (fun h_67 h_68 => ?_) (fun h_69 => ?_)
          · rw [yz_0] at h_67
            rw [yz_100] at h_68
            refine y_ret1 ?_
            refine y_if_neT rfl j_X14_join_56 (by decide) ?_
            refine y_iconst rfl ?_
            refine y_iconst rfl ?_
            refine y_virt rfl rfl rfl rfl rfl (ySh.t hS rfl) (ySh.n hS rfl) ?_
            refine y_in (M := xm_X14_refuse) (ls := [some _, some _, some _]) rfl rfl rfl ?_
            refine y_iload_n rfl rfl ?_
            refine y_if_eqT rfl j_X14_refuse_16 (by decide) ?_
            refine y_aload_n rfl rfl ?_
            refine y_getIv (v := Int32.ofInt (0)) rfl (ySh.t hS rfl) (ySh.n hS rfl) rfl rfl hth ?_
            refine y_if_leT rfl j_X14_refuse_27 (by decide) ?_
            refine y_iconst rfl ?_
            refine y_ireturn rfl rfl rfl ?_
            refine y_ret1 ?_
            refine y_if_eqT rfl j_X14_join_66 (by decide) ?_
            refine y_aload_n rfl rfl ?_
            refine y_getR rfl (ySh.t hS rfl) (ySh.n hS rfl) rfl rfl (ySh.r hS rfl) ?_
            refine y_iload_n rfl rfl ?_
            refine y_virt rfl rfl rfl rfl rfl (ySh.t hS rfl) (ySh.n hS rfl) ?_
            refine l_get (nb := n) (ySh.t hS rfl) (ySh.n hS rfl) (Nat.le_trans hn hX.1) hR.l91 (by omega) (by omega) (fun b70 eb_b70 hlo_b70 hb0_b70 ht_b70 => ?_)
            have hb_b70 := Nat.lt_of_lt_of_le hb0_b70 hn
            replace ht_b70 := (hX.2.1 _ hb_b70).1.symm.trans ht_b70
            refine y_ret1 ?_
            refine y_cast rfl ((hX.2.1 _ hb_b70).1.trans ht_b70) (Nat.lt_of_lt_of_le hb_b70 hX.1) ?_
            refine y_astore (ls' := [some _, some _, some _, some _, some _, some _, _]) rfl rfl rfl ?_
            refine y_iload_n rfl rfl ?_
            refine y_static rfl rfl rfl rfl rfl ?_
            refine y_in (M := xm_X14_seat) (ls := [some _]) rfl rfl rfl ?_
            refine y_iload_n rfl rfl ?_
            refine y_iconst rfl ?_
            refine y_icmp_ne rfl j_X14_seat_10 (fun h_71 => ?_) (fun h_72 => ?_)
            · rw [yz_m1] at h_71
              refine y_iload_n rfl rfl ?_
              refine y_ireturn rfl rfl rfl ?_
              refine y_ret1 ?_
              refine y_istore (ls' := [some _, some _, some _, some _, some _, some _, some _]) rfl rfl rfl ?_
              refine y_aload_n rfl rfl ?_
              refine y_aload rfl rfl ?_
              obtain ⟨hR_v73, hb_v73, ht_v73⟩ := hR0.ven hlo_b70 hb0_b70 ht_b70 (j := 0) (by decide)
              have hb0_v73 := hb_v73
              have hb_v73 := Nat.lt_of_lt_of_le hb_v73 hn
              have hlo_v73 : 94 ≤ b70 + 1 + 0 := by omega
              have hR2_v73 := (congrFun (hX.2.1 b70 hb_b70).2.2 0).trans hR_v73
              refine y_getR rfl ((hX.2.1 _ hb_b70).1.trans ht_b70) (Nat.lt_of_lt_of_le hb_b70 hX.1) rfl rfl hR2_v73 ?_
              refine y_iload rfl rfl ?_
              refine y_baloadv (J := I (b70 + 1 + 0)) rfl ((hX.2.1 _ hb_v73).1.trans ht_v73) rfl (Nat.lt_of_lt_of_le hb_v73 hX.1) (by omega) (by omega) (((hB.trans hX).n (by omega)).trans (by repeat (first | rfl | (rw [upd2_row (by first | decide | omega)]) | refine upd2_cg ?_))) ?_
              refine y_if_ne rfl j_X14_join_126 (fun h_74 => ?_) (fun h_75 => ?_)
              · refine y_iconst rfl ?_
                refine y_goto rfl j_X14_join_131 ?_
                refine y_iconst rfl ?_
                refine y_virt rfl rfl rfl rfl rfl (ySh.t hS rfl) (ySh.n hS rfl) ?_
                refine y_in (M := xm_X14_refuse) (ls := [some _, some _, some _]) rfl rfl rfl ?_
                refine y_iload_n rfl rfl ?_
                refine y_if_eqF rfl (by decide) ?_
                refine y_aload_n rfl rfl ?_
                refine y_getIv (v := Int32.ofInt (0)) rfl (ySh.t hS rfl) (ySh.n hS rfl) rfl rfl hth ?_
                refine y_if_neF rfl (by decide) ?_
                refine y_aload_n rfl rfl ?_
                refine y_iload_n rfl rfl ?_
                refine y_putI rfl (ySh.t hS rfl) (ySh.n hS rfl) rfl (Nat.le_of_ble_eq_true rfl) rfl rfl ?_
                refine y_nameI (fun I76 e76 => ?_)
                have hR1 := (hR0.grow hX).mod0 e76 (by decide) (by decide)
                have hK := (hK.x hRo hno hX).upI (upI e76) (by decide) (by decide) (fun i hi => by have := (hRo.l87.2.2.2.2 i hi).2.1; omega) (by rw [e76, upd2_ne (.inr (by decide))]; exact Int.le_refl _)
                have hth : I76 83 0 = Int32.ofInt (3) := by rw [e76, upd2_self]
                have hzz : ySz8 I63 I76 := ySz8_of (upI e76) (by rw [e76]; exact ⟨upd2_ne (.inr (by decide)), upd2_ne (.inr (by decide))⟩)
                have hB := (hB.trans hX).wr e76 rfl
                have h8 : ∀ a, 84 ≤ a → a ≤ 86 → I76 a = I a := fun a h1 h2 => (upI e76 a (by omega)).trans ((hX.2.1 a (by omega)).2.1.trans (h8 a h1 h2))
                have h3k : ∀ k, k ≠ 0 → I76 83 k = I 83 k := fun k hk => (congrFun (congrFun e76 83) k).trans ((upd2_ne (.inr hk)).trans ((congrFun (hX.2.1 83 (by omega)).2.1 k).trans (h3k k hk)))
                have hg := (hg.gx hX (by omega)).skip e76 (by decide)
                have hday : I76 83 1 = I 83 1 := (congrFun (congrFun e76 83) 1).trans ((upd2_ne (.inr (by decide))).trans ((congrFun (hX.2.1 83 (by omega)).2.1 1).trans hday))
                have hRb : ∀ a, a < n → R a = R a := fun a ha => (hX.2.1 a (by omega)).2.2.trans (hRb a ha)
                have hb83 : ∀ a, a ≠ 83 → a < n → I76 a = I a := fun a ha hb => (upI e76 a ha).trans ((hX.2.1 a (by omega)).2.1.trans (hb83 a ha hb))
                have hS0 := hS
                have hR0 := hR1
                have ht_b70 := (hX.2.1 _ hb_b70).1.trans ht_b70
                have hb_b70 := Nat.lt_of_lt_of_le hb_b70 hX.1
                have hb0_b70 := hb_b70
                have ht_v73 := (hX.2.1 _ hb_v73).1.trans ht_v73
                have hb_v73 := Nat.lt_of_lt_of_le hb_v73 hX.1
                have hb0_v73 := hb_v73
                have hn := Nat.le_refl n
                have h94 := hS0.1
                have hX := @yX.rf n tg I76 R
                have hS := hS0.x hX
                have hR := hR0.x hn hX
                have hz := hX.sz h94
                have hxn := hX.1
                have hN := hR0.1
                have hnb := hR0.2.2.2.2.2.2
                have hthB := hth
                refine y_aload_n rfl rfl ?_
                refine y_getIv (v := Int32.ofInt (3)) rfl (ySh.t hS rfl) (ySh.n hS rfl) rfl rfl hth ?_
                refine y_if_leF rfl (by decide) ?_
                refine y_iconst rfl ?_
                refine y_goto rfl j_X14_refuse_28 ?_
                refine y_ireturn rfl rfl rfl ?_
                refine y_ret1 ?_
                refine y_if_eqF rfl (by decide) ?_
                refine y_iconst rfl ?_
                refine y_ireturn rfl rfl rfl ?_
                exact hQ3 _ eb_b70 (by first | omega | (simp only [show ySeat x2 = x2 from if_neg (by omega)]; omega) | (simp only [show ySeat x2 = Int32.ofInt 8 from if_pos (by omega), show (Int32.ofInt 8).toInt.toNat = 8 from by decide]; omega)) _ _ _ _ _ _ _ hS ((hR0.grow hX).up (Nat.le_succ K) hk6) (hK.x hRo hno hX) hth ((hB.trans hX).rf2 (by omega)) (by omega) (by omega)
              · refine y_aload_n rfl rfl ?_
                refine y_getR rfl (ySh.t hS rfl) (ySh.n hS rfl) rfl rfl (ySh.r hS rfl) ?_
                refine y_iload rfl rfl ?_
                refine y_ialoadv (J := I 84) rfl (ySh.t hS rfl) (ySh.n hS rfl) (by omega) (by omega) (((hB.trans hX).n (by omega)).trans (by repeat (first | rfl | (rw [upd2_row (by first | decide | omega)]) | refine upd2_cg ?_))) ?_
                refine y_iload_n rfl rfl ?_
                refine y_icmp_lt rfl j_X14_join_126 (fun h_77 => ?_) (fun h_78 => ?_)
                · refine y_iconst rfl ?_
                  refine y_goto rfl j_X14_join_131 ?_
                  refine y_iconst rfl ?_
                  refine y_virt rfl rfl rfl rfl rfl (ySh.t hS rfl) (ySh.n hS rfl) ?_
                  refine y_in (M := xm_X14_refuse) (ls := [some _, some _, some _]) rfl rfl rfl ?_
                  refine y_iload_n rfl rfl ?_
                  refine y_if_eqF rfl (by decide) ?_
                  refine y_aload_n rfl rfl ?_
                  refine y_getIv (v := Int32.ofInt (0)) rfl (ySh.t hS rfl) (ySh.n hS rfl) rfl rfl hth ?_
                  refine y_if_neF rfl (by decide) ?_
                  refine y_aload_n rfl rfl ?_
                  refine y_iload_n rfl rfl ?_
                  refine y_putI rfl (ySh.t hS rfl) (ySh.n hS rfl) rfl (Nat.le_of_ble_eq_true rfl) rfl rfl ?_
                  refine y_nameI (fun I79 e79 => ?_)
                  have hR1 := (hR0.grow hX).mod0 e79 (by decide) (by decide)
                  have hK := (hK.x hRo hno hX).upI (upI e79) (by decide) (by decide) (fun i hi => by have := (hRo.l87.2.2.2.2 i hi).2.1; omega) (by rw [e79, upd2_ne (.inr (by decide))]; exact Int.le_refl _)
                  have hth : I79 83 0 = Int32.ofInt (3) := by rw [e79, upd2_self]
                  have hzz : ySz8 I63 I79 := ySz8_of (upI e79) (by rw [e79]; exact ⟨upd2_ne (.inr (by decide)), upd2_ne (.inr (by decide))⟩)
                  have hB := (hB.trans hX).wr e79 rfl
                  have h8 : ∀ a, 84 ≤ a → a ≤ 86 → I79 a = I a := fun a h1 h2 => (upI e79 a (by omega)).trans ((hX.2.1 a (by omega)).2.1.trans (h8 a h1 h2))
                  have h3k : ∀ k, k ≠ 0 → I79 83 k = I 83 k := fun k hk => (congrFun (congrFun e79 83) k).trans ((upd2_ne (.inr hk)).trans ((congrFun (hX.2.1 83 (by omega)).2.1 k).trans (h3k k hk)))
                  have hg := (hg.gx hX (by omega)).skip e79 (by decide)
                  have hday : I79 83 1 = I 83 1 := (congrFun (congrFun e79 83) 1).trans ((upd2_ne (.inr (by decide))).trans ((congrFun (hX.2.1 83 (by omega)).2.1 1).trans hday))
                  have hRb : ∀ a, a < n → R a = R a := fun a ha => (hX.2.1 a (by omega)).2.2.trans (hRb a ha)
                  have hb83 : ∀ a, a ≠ 83 → a < n → I79 a = I a := fun a ha hb => (upI e79 a ha).trans ((hX.2.1 a (by omega)).2.1.trans (hb83 a ha hb))
                  have hS0 := hS
                  have hR0 := hR1
                  have ht_b70 := (hX.2.1 _ hb_b70).1.trans ht_b70
                  have hb_b70 := Nat.lt_of_lt_of_le hb_b70 hX.1
                  have hb0_b70 := hb_b70
                  have ht_v73 := (hX.2.1 _ hb_v73).1.trans ht_v73
                  have hb_v73 := Nat.lt_of_lt_of_le hb_v73 hX.1
                  have hb0_v73 := hb_v73
                  have hn := Nat.le_refl n
                  have h94 := hS0.1
                  have hX := @yX.rf n tg I79 R
                  have hS := hS0.x hX
                  have hR := hR0.x hn hX
                  have hz := hX.sz h94
                  have hxn := hX.1
                  have hN := hR0.1
                  have hnb := hR0.2.2.2.2.2.2
                  have hthB := hth
                  refine y_aload_n rfl rfl ?_
                  refine y_getIv (v := Int32.ofInt (3)) rfl (ySh.t hS rfl) (ySh.n hS rfl) rfl rfl hth ?_
                  refine y_if_leF rfl (by decide) ?_
                  refine y_iconst rfl ?_
                  refine y_goto rfl j_X14_refuse_28 ?_
                  refine y_ireturn rfl rfl rfl ?_
                  refine y_ret1 ?_
                  refine y_if_eqF rfl (by decide) ?_
                  refine y_iconst rfl ?_
                  refine y_ireturn rfl rfl rfl ?_
                  exact hQ3 _ eb_b70 (by first | omega | (simp only [show ySeat x2 = x2 from if_neg (by omega)]; omega) | (simp only [show ySeat x2 = Int32.ofInt 8 from if_pos (by omega), show (Int32.ofInt 8).toInt.toNat = 8 from by decide]; omega)) _ _ _ _ _ _ _ hS ((hR0.grow hX).up (Nat.le_succ K) hk6) (hK.x hRo hno hX) hth ((hB.trans hX).rf2 (by omega)) (by omega) (by omega)
                · refine y_aload rfl rfl ?_
                  refine y_aload rfl rfl ?_
                  obtain ⟨hR_v80, hb_v80, ht_v80⟩ := hR0.ven hlo_b70 hb0_b70 ht_b70 (j := 2) (by decide)
                  have hb0_v80 := hb_v80
                  have hb_v80 := Nat.lt_of_lt_of_le hb_v80 hn
                  have hlo_v80 : 94 ≤ b70 + 1 + 2 := by omega
                  have hR2_v80 := (congrFun (hX.2.1 b70 hb_b70).2.2 2).trans hR_v80
                  refine y_getR rfl ((hX.2.1 _ hb_b70).1.trans ht_b70) (Nat.lt_of_lt_of_le hb_b70 hX.1) rfl rfl hR2_v80 ?_
                  refine y_virt rfl rfl rfl rfl rfl ((hX.2.1 _ hb_b70).1.trans ht_b70) (Nat.lt_of_lt_of_le hb_b70 hX.1) ?_
                  refine r_allX ((hX.2.1 _ hb_v80).1.trans ht_v80) (Nat.lt_of_lt_of_le hb_v80 hX.1) (fun v_81 hv_81 => ?_)
                  rw [show I63 (b70 + 1 + 2) = I (b70 + 1 + 2) from (((hB.trans hX).n (by omega)).trans (by repeat (first | rfl | (rw [upd2_row (by first | decide | omega)]) | refine upd2_cg ?_)))] at hv_81
                  subst hv_81
                  refine y_ret1 ?_
                  refine y_iload rfl rfl ?_
                  refine y_iadd rfl ?_
                  refine y_bip rfl (by decide) ?_
                  refine y_icmp_le rfl j_X14_join_130 (fun h_82 => ?_) (fun h_83 => ?_)
                  · rw [yz_100] at h_82
                    refine y_iconst rfl ?_
                    refine y_iconst rfl ?_
                    refine y_virt rfl rfl rfl rfl rfl (ySh.t hS rfl) (ySh.n hS rfl) ?_
                    refine y_in (M := xm_X14_refuse) (ls := [some _, some _, some _]) rfl rfl rfl ?_
                    refine y_iload_n rfl rfl ?_
                    refine y_if_eqT rfl j_X14_refuse_16 (by decide) ?_
                    refine y_aload_n rfl rfl ?_
                    refine y_getIv (v := Int32.ofInt (0)) rfl (ySh.t hS rfl) (ySh.n hS rfl) rfl rfl hth ?_
                    refine y_if_leT rfl j_X14_refuse_27 (by decide) ?_
                    refine y_iconst rfl ?_
                    refine y_ireturn rfl rfl rfl ?_
                    refine y_ret1 ?_
                    refine y_if_eqT rfl j_X14_join_140 (by decide) ?_
                    refine y_aload rfl rfl ?_
                    obtain ⟨hR_v84, hb_v84, ht_v84⟩ := hR0.ven hlo_b70 hb0_b70 ht_b70 (j := 0) (by decide)
                    have hb0_v84 := hb_v84
                    have hb_v84 := Nat.lt_of_lt_of_le hb_v84 hn
                    have hlo_v84 : 94 ≤ b70 + 1 + 0 := by omega
                    have hR2_v84 := (congrFun (hX.2.1 b70 hb_b70).2.2 0).trans hR_v84
                    refine y_getR rfl ((hX.2.1 _ hb_b70).1.trans ht_b70) (Nat.lt_of_lt_of_le hb_b70 hX.1) rfl rfl hR2_v84 ?_
                    refine y_iload rfl rfl ?_
                    refine y_iconst rfl ?_
                    refine y_zastore rfl ((hX.2.1 _ hb_v84).1.trans ht_v84) (Nat.lt_of_lt_of_le hb_v84 hX.1) (Nat.le_trans (by decide) (by omega : 94 ≤ _)) (by omega) (by omega) rfl ?_
                    refine y_nameI (fun I85 e85 => ?_)
                    have hR1 := (hR0.grow hX).upV hlo_b70 (by omega) ((hX.2.1 _ hb_b70).1.trans ht_b70) (j := 0) (by decide) e85
                    have hK := (hK.x hRo hno hX).upE hRo hno (upI e85) (by omega) (by omega) (by rw [((hX.2.1 _ hb_v84).1.trans ht_v84)]; decide) (by rw [e85, upd2_ne (.inl (by omega))]; exact Int.le_refl _)
                    have hth := (show I85 83 0 = I63 83 0 by rw [e85, upd2_ne (.inl (by omega))]).trans hth
                    have hzz : ySz I63 I85 := ySz_ofE (upI e85) (by omega)
                    have hB := (hB.trans hX).wr e85 rfl
                    have h8 : ∀ a, 84 ≤ a → a ≤ 86 → I85 a = I a := fun a h1 h2 => (upI e85 a (by omega)).trans ((hX.2.1 a (by omega)).2.1.trans (h8 a h1 h2))
                    have h3k : ∀ k, k ≠ 0 → I85 83 k = I 83 k := fun k hk => (congrFun (congrFun e85 83) k).trans ((upd2_ne (.inl (by omega))).trans ((congrFun (hX.2.1 83 (by omega)).2.1 k).trans (h3k k hk)))
                    have hg := (hg.gx hX (by omega)).both e85
                    have hday : I85 83 1 = I 83 1 := (congrFun (congrFun e85 83) 1).trans ((upd2_ne (.inl (by omega))).trans ((congrFun (hX.2.1 83 (by omega)).2.1 1).trans hday))
                    have hRb : ∀ a, a < n → R a = R a := fun a ha => (hX.2.1 a (by omega)).2.2.trans (hRb a ha)
                    have hS0 := hS
                    have hR0 := hR1
                    have ht_b70 := (hX.2.1 _ hb_b70).1.trans ht_b70
                    have hb_b70 := Nat.lt_of_lt_of_le hb_b70 hX.1
                    have hb0_b70 := hb_b70
                    have ht_v73 := (hX.2.1 _ hb_v73).1.trans ht_v73
                    have hb_v73 := Nat.lt_of_lt_of_le hb_v73 hX.1
                    have hb0_v73 := hb_v73
                    have ht_v80 := (hX.2.1 _ hb_v80).1.trans ht_v80
                    have hb_v80 := Nat.lt_of_lt_of_le hb_v80 hX.1
                    have hb0_v80 := hb_v80
                    have ht_v84 := (hX.2.1 _ hb_v84).1.trans ht_v84
                    have hb_v84 := Nat.lt_of_lt_of_le hb_v84 hX.1
                    have hb0_v84 := hb_v84
                    have hn := Nat.le_refl n
                    have h94 := hS0.1
                    have hX := @yX.rf n tg I85 R
                    have hS := hS0.x hX
                    have hR := hR0.x hn hX
                    have hz := hX.sz h94
                    have hxn := hX.1
                    have hN := hR0.1
                    have hnb := hR0.2.2.2.2.2.2
                    have hthB := hth
                    refine y_aload rfl rfl ?_
                    obtain ⟨hR_v86, hb_v86, ht_v86⟩ := hR0.ven hlo_b70 hb0_b70 ht_b70 (j := 1) (by decide)
                    have hb0_v86 := hb_v86
                    have hb_v86 := Nat.lt_of_lt_of_le hb_v86 hn
                    have hlo_v86 : 94 ≤ b70 + 1 + 1 := by omega
                    have hR2_v86 := (congrFun (hX.2.1 b70 hb_b70).2.2 1).trans hR_v86
                    refine y_getR rfl ((hX.2.1 _ hb_b70).1.trans ht_b70) (Nat.lt_of_lt_of_le hb_b70 hX.1) rfl rfl hR2_v86 ?_
                    refine y_iload rfl rfl ?_
                    refine y_iload_n rfl rfl ?_
                    refine y_iastore rfl ((hX.2.1 _ hb_v86).1.trans ht_v86) (Nat.lt_of_lt_of_le hb_v86 hX.1) (Nat.le_trans (by decide) (by omega : 94 ≤ _)) (by omega) (by omega) ?_
                    refine y_nameI (fun I87 e87 => ?_)
                    have hR1 := (hR0.grow hX).capJ hlo_b70 (by omega) ((hX.2.1 _ hb_b70).1.trans ht_b70) (by omega) ⟨by omega, by omega⟩ e87 hk6
                    have hK := (hK.x hRo hno hX).upE hRo hno (upI e87) (by omega) (by omega) (by rw [((hX.2.1 _ hb_v86).1.trans ht_v86)]; decide) (by rw [e87, upd2_ne (.inl (by omega))]; exact Int.le_refl _)
                    have hth := (show I87 83 0 = I85 83 0 by rw [e87, upd2_ne (.inl (by omega))]).trans hth
                    have hzz : ySz I85 I87 := ySz_ofE (upI e87) (by omega)
                    have hB := (hB.trans hX).wr e87 rfl
                    have h8 : ∀ a, 84 ≤ a → a ≤ 86 → I87 a = I a := fun a h1 h2 => (upI e87 a (by omega)).trans ((hX.2.1 a (by omega)).2.1.trans (h8 a h1 h2))
                    have h3k : ∀ k, k ≠ 0 → I87 83 k = I 83 k := fun k hk => (congrFun (congrFun e87 83) k).trans ((upd2_ne (.inl (by omega))).trans ((congrFun (hX.2.1 83 (by omega)).2.1 k).trans (h3k k hk)))
                    have hg := (hg.gx hX (by omega)).both e87
                    have hday : I87 83 1 = I 83 1 := (congrFun (congrFun e87 83) 1).trans ((upd2_ne (.inl (by omega))).trans ((congrFun (hX.2.1 83 (by omega)).2.1 1).trans hday))
                    have hRb : ∀ a, a < n → R a = R a := fun a ha => (hX.2.1 a (by omega)).2.2.trans (hRb a ha)
                    have hS0 := hS
                    have hR0 := hR1
                    have ht_b70 := (hX.2.1 _ hb_b70).1.trans ht_b70
                    have hb_b70 := Nat.lt_of_lt_of_le hb_b70 hX.1
                    have hb0_b70 := hb_b70
                    have ht_v73 := (hX.2.1 _ hb_v73).1.trans ht_v73
                    have hb_v73 := Nat.lt_of_lt_of_le hb_v73 hX.1
                    have hb0_v73 := hb_v73
                    have ht_v80 := (hX.2.1 _ hb_v80).1.trans ht_v80
                    have hb_v80 := Nat.lt_of_lt_of_le hb_v80 hX.1
                    have hb0_v80 := hb_v80
                    have ht_v84 := (hX.2.1 _ hb_v84).1.trans ht_v84
                    have hb_v84 := Nat.lt_of_lt_of_le hb_v84 hX.1
                    have hb0_v84 := hb_v84
                    have ht_v86 := (hX.2.1 _ hb_v86).1.trans ht_v86
                    have hb_v86 := Nat.lt_of_lt_of_le hb_v86 hX.1
                    have hb0_v86 := hb_v86
                    have hn := Nat.le_refl n
                    have h94 := hS0.1
                    have hX := @yX.rf n tg I87 R
                    have hS := hS0.x hX
                    have hR := hR0.x hn hX
                    have hz := hX.sz h94
                    have hxn := hX.1
                    have hN := hR0.1
                    have hnb := hR0.2.2.2.2.2.2
                    have hthB := hth
                    refine y_aload rfl rfl ?_
                    obtain ⟨hR_v88, hb_v88, ht_v88⟩ := hR0.ven hlo_b70 hb0_b70 ht_b70 (j := 2) (by decide)
                    have hb0_v88 := hb_v88
                    have hb_v88 := Nat.lt_of_lt_of_le hb_v88 hn
                    have hlo_v88 : 94 ≤ b70 + 1 + 2 := by omega
                    have hR2_v88 := (congrFun (hX.2.1 b70 hb_b70).2.2 2).trans hR_v88
                    refine y_getR rfl ((hX.2.1 _ hb_b70).1.trans ht_b70) (Nat.lt_of_lt_of_le hb_b70 hX.1) rfl rfl hR2_v88 ?_
                    refine y_iload rfl rfl ?_
                    refine y_iload rfl rfl ?_
                    refine y_iastore rfl ((hX.2.1 _ hb_v88).1.trans ht_v88) (Nat.lt_of_lt_of_le hb_v88 hX.1) (Nat.le_trans (by decide) (by omega : 94 ≤ _)) (by omega) (by omega) ?_
                    refine y_nameI (fun I89 e89 => ?_)
                    have hR1 := (hR0.grow hX).upV hlo_b70 (by omega) ((hX.2.1 _ hb_b70).1.trans ht_b70) (j := 2) (by decide) e89
                    have hK := (hK.x hRo hno hX).upE hRo hno (upI e89) (by omega) (by omega) (by rw [((hX.2.1 _ hb_v88).1.trans ht_v88)]; decide) (by rw [e89, upd2_ne (.inl (by omega))]; exact Int.le_refl _)
                    have hth := (show I89 83 0 = I87 83 0 by rw [e89, upd2_ne (.inl (by omega))]).trans hth
                    have hzz : ySz I87 I89 := ySz_ofE (upI e89) (by omega)
                    have hB := (hB.trans hX).wr e89 rfl
                    have h8 : ∀ a, 84 ≤ a → a ≤ 86 → I89 a = I a := fun a h1 h2 => (upI e89 a (by omega)).trans ((hX.2.1 a (by omega)).2.1.trans (h8 a h1 h2))
                    have h3k : ∀ k, k ≠ 0 → I89 83 k = I 83 k := fun k hk => (congrFun (congrFun e89 83) k).trans ((upd2_ne (.inl (by omega))).trans ((congrFun (hX.2.1 83 (by omega)).2.1 k).trans (h3k k hk)))
                    have hg := (hg.gx hX (by omega)).both e89
                    have hday : I89 83 1 = I 83 1 := (congrFun (congrFun e89 83) 1).trans ((upd2_ne (.inl (by omega))).trans ((congrFun (hX.2.1 83 (by omega)).2.1 1).trans hday))
                    have hRb : ∀ a, a < n → R a = R a := fun a ha => (hX.2.1 a (by omega)).2.2.trans (hRb a ha)
                    have hS0 := hS
                    have hR0 := hR1
                    have ht_b70 := (hX.2.1 _ hb_b70).1.trans ht_b70
                    have hb_b70 := Nat.lt_of_lt_of_le hb_b70 hX.1
                    have hb0_b70 := hb_b70
                    have ht_v73 := (hX.2.1 _ hb_v73).1.trans ht_v73
                    have hb_v73 := Nat.lt_of_lt_of_le hb_v73 hX.1
                    have hb0_v73 := hb_v73
                    have ht_v80 := (hX.2.1 _ hb_v80).1.trans ht_v80
                    have hb_v80 := Nat.lt_of_lt_of_le hb_v80 hX.1
                    have hb0_v80 := hb_v80
                    have ht_v84 := (hX.2.1 _ hb_v84).1.trans ht_v84
                    have hb_v84 := Nat.lt_of_lt_of_le hb_v84 hX.1
                    have hb0_v84 := hb_v84
                    have ht_v86 := (hX.2.1 _ hb_v86).1.trans ht_v86
                    have hb_v86 := Nat.lt_of_lt_of_le hb_v86 hX.1
                    have hb0_v86 := hb_v86
                    have ht_v88 := (hX.2.1 _ hb_v88).1.trans ht_v88
                    have hb_v88 := Nat.lt_of_lt_of_le hb_v88 hX.1
                    have hb0_v88 := hb_v88
                    have hn := Nat.le_refl n
                    have h94 := hS0.1
                    have hX := @yX.rf n tg I89 R
                    have hS := hS0.x hX
                    have hR := hR0.x hn hX
                    have hz := hX.sz h94
                    have hxn := hX.1
                    have hN := hR0.1
                    have hnb := hR0.2.2.2.2.2.2
                    have hthB := hth
                    refine y_aload_n rfl rfl ?_
                    refine y_getR rfl (ySh.t hS rfl) (ySh.n hS rfl) rfl rfl (ySh.r hS rfl) ?_
                    refine y_iload rfl rfl ?_
                    refine y_dup2 rfl rfl rfl ?_
                    refine y_ialoadv (J := I 84) rfl (ySh.t hS rfl) (ySh.n hS rfl) (by omega) (by omega) (((hB.trans hX).n (by omega)).trans (by repeat (first | rfl | (rw [upd2_row (by first | decide | omega)]) | refine upd2_cg ?_))) ?_
                    refine y_iload_n rfl rfl ?_
                    refine y_isub rfl ?_
                    refine y_iastore rfl (ySh.t hS rfl) (ySh.n hS rfl) (Nat.le_of_ble_eq_true rfl) (by omega) (by omega) ?_
                    refine y_nameI (fun I90 e90 => ?_)
                    have hR1 := (hR0.grow hX).arr e90 (by decide)
                    have hK := (hK.x hRo hno hX).upI (upI e90) (by decide) (by decide) (fun i hi => by have := (hRo.l87.2.2.2.2 i hi).2.1; omega) (by rw [e90, upd2_ne (.inl (by omega))]; exact Int.le_refl _)
                    have hth := (show I90 83 0 = I89 83 0 by rw [e90, upd2_ne (.inl (by omega))]).trans hth
                    have hzz : ySz I89 I90 := ySz_ofE (upI e90) (by omega)
                    have hB := (hB.trans hX).wr e90 rfl
                    have h3k : ∀ k, k ≠ 0 → I90 83 k = I 83 k := fun k hk => (congrFun (congrFun e90 83) k).trans ((upd2_ne (.inl (by omega))).trans ((congrFun (hX.2.1 83 (by omega)).2.1 k).trans (h3k k hk)))
                    have hg := (hg.gx hX (by omega)).skip e90 (by decide)
                    have hday : I90 83 1 = I 83 1 := (congrFun (congrFun e90 83) 1).trans ((upd2_ne (.inl (by omega))).trans ((congrFun (hX.2.1 83 (by omega)).2.1 1).trans hday))
                    have hRb : ∀ a, a < n → R a = R a := fun a ha => (hX.2.1 a (by omega)).2.2.trans (hRb a ha)
                    have hS0 := hS
                    have hR0 := hR1
                    have ht_b70 := (hX.2.1 _ hb_b70).1.trans ht_b70
                    have hb_b70 := Nat.lt_of_lt_of_le hb_b70 hX.1
                    have hb0_b70 := hb_b70
                    have ht_v73 := (hX.2.1 _ hb_v73).1.trans ht_v73
                    have hb_v73 := Nat.lt_of_lt_of_le hb_v73 hX.1
                    have hb0_v73 := hb_v73
                    have ht_v80 := (hX.2.1 _ hb_v80).1.trans ht_v80
                    have hb_v80 := Nat.lt_of_lt_of_le hb_v80 hX.1
                    have hb0_v80 := hb_v80
                    have ht_v84 := (hX.2.1 _ hb_v84).1.trans ht_v84
                    have hb_v84 := Nat.lt_of_lt_of_le hb_v84 hX.1
                    have hb0_v84 := hb_v84
                    have ht_v86 := (hX.2.1 _ hb_v86).1.trans ht_v86
                    have hb_v86 := Nat.lt_of_lt_of_le hb_v86 hX.1
                    have hb0_v86 := hb_v86
                    have ht_v88 := (hX.2.1 _ hb_v88).1.trans ht_v88
                    have hb_v88 := Nat.lt_of_lt_of_le hb_v88 hX.1
                    have hb0_v88 := hb_v88
                    have hn := Nat.le_refl n
                    have h94 := hS0.1
                    have hX := @yX.rf n tg I90 R
                    have hS := hS0.x hX
                    have hR := hR0.x hn hX
                    have hz := hX.sz h94
                    have hxn := hX.1
                    have hN := hR0.1
                    have hnb := hR0.2.2.2.2.2.2
                    have hthB := hth
                    refine y_aload rfl rfl ?_
                    refine y_aload rfl rfl ?_
                    obtain ⟨hR_v91, hb_v91, ht_v91⟩ := hR0.ven hlo_b70 hb0_b70 ht_b70 (j := 2) (by decide)
                    have hb0_v91 := hb_v91
                    have hb_v91 := Nat.lt_of_lt_of_le hb_v91 hn
                    have hlo_v91 : 94 ≤ b70 + 1 + 2 := by omega
                    have hR2_v91 := (congrFun (hX.2.1 b70 hb_b70).2.2 2).trans hR_v91
                    refine y_getR rfl ((hX.2.1 _ hb_b70).1.trans ht_b70) (Nat.lt_of_lt_of_le hb_b70 hX.1) rfl rfl hR2_v91 ?_
                    refine y_virt rfl rfl rfl rfl rfl ((hX.2.1 _ hb_b70).1.trans ht_b70) (Nat.lt_of_lt_of_le hb_b70 hX.1) ?_
                    refine r_allX ((hX.2.1 _ hb_v91).1.trans ht_v91) (Nat.lt_of_lt_of_le hb_v91 hX.1) (fun v_92 hv_92 => ?_)
                    subst hv_92
                    refine y_ret1 ?_
                    refine y_ireturn rfl rfl rfl ?_
                    exact hQ0 _ eb_b70 (by first | omega | (simp only [show ySeat x2 = x2 from if_neg (by omega)]; omega) | (simp only [show ySeat x2 = Int32.ofInt 8 from if_pos (by omega), show (Int32.ofInt 8).toInt.toNat = 8 from by decide]; omega)) _ _ _ _ _ _ _ hS (hR0.grow hX) (hK.x hRo hno hX) hth (by first | rfl | (exact congrArg (fun f => yFz f 9) ((hB.trans hX).n (by omega)).symm)) (by first | (exact hB.trans hX) | (simp only [show ySeat x2 = x2 from if_neg (by omega)]; exact hB.trans hX) | (simp only [show ySeat x2 = Int32.ofInt 8 from if_pos (by omega), show (Int32.ofInt 8).toInt.toNat = 8 from by decide]; exact hB.trans hX)) (by omega) (by omega)
                  · rw [yz_100] at h_83
                    refine y_iconst rfl ?_
                    refine y_goto rfl j_X14_join_131 ?_
                    refine y_iconst rfl ?_
                    refine y_virt rfl rfl rfl rfl rfl (ySh.t hS rfl) (ySh.n hS rfl) ?_
                    refine y_in (M := xm_X14_refuse) (ls := [some _, some _, some _]) rfl rfl rfl ?_
                    refine y_iload_n rfl rfl ?_
                    refine y_if_eqF rfl (by decide) ?_
                    refine y_aload_n rfl rfl ?_
                    refine y_getIv (v := Int32.ofInt (0)) rfl (ySh.t hS rfl) (ySh.n hS rfl) rfl rfl hth ?_
                    refine y_if_neF rfl (by decide) ?_
                    refine y_aload_n rfl rfl ?_
                    refine y_iload_n rfl rfl ?_
                    refine y_putI rfl (ySh.t hS rfl) (ySh.n hS rfl) rfl (Nat.le_of_ble_eq_true rfl) rfl rfl ?_
                    refine y_nameI (fun I93 e93 => ?_)
                    have hR1 := (hR0.grow hX).mod0 e93 (by decide) (by decide)
                    have hK := (hK.x hRo hno hX).upI (upI e93) (by decide) (by decide) (fun i hi => by have := (hRo.l87.2.2.2.2 i hi).2.1; omega) (by rw [e93, upd2_ne (.inr (by decide))]; exact Int.le_refl _)
                    have hth : I93 83 0 = Int32.ofInt (3) := by rw [e93, upd2_self]
                    have hzz : ySz8 I63 I93 := ySz8_of (upI e93) (by rw [e93]; exact ⟨upd2_ne (.inr (by decide)), upd2_ne (.inr (by decide))⟩)
                    have hB := (hB.trans hX).wr e93 rfl
                    have h8 : ∀ a, 84 ≤ a → a ≤ 86 → I93 a = I a := fun a h1 h2 => (upI e93 a (by omega)).trans ((hX.2.1 a (by omega)).2.1.trans (h8 a h1 h2))
                    have h3k : ∀ k, k ≠ 0 → I93 83 k = I 83 k := fun k hk => (congrFun (congrFun e93 83) k).trans ((upd2_ne (.inr hk)).trans ((congrFun (hX.2.1 83 (by omega)).2.1 k).trans (h3k k hk)))
                    have hg := (hg.gx hX (by omega)).skip e93 (by decide)
                    have hday : I93 83 1 = I 83 1 := (congrFun (congrFun e93 83) 1).trans ((upd2_ne (.inr (by decide))).trans ((congrFun (hX.2.1 83 (by omega)).2.1 1).trans hday))
                    have hRb : ∀ a, a < n → R a = R a := fun a ha => (hX.2.1 a (by omega)).2.2.trans (hRb a ha)
                    have hb83 : ∀ a, a ≠ 83 → a < n → I93 a = I a := fun a ha hb => (upI e93 a ha).trans ((hX.2.1 a (by omega)).2.1.trans (hb83 a ha hb))
                    have hS0 := hS
                    have hR0 := hR1
                    have ht_b70 := (hX.2.1 _ hb_b70).1.trans ht_b70
                    have hb_b70 := Nat.lt_of_lt_of_le hb_b70 hX.1
                    have hb0_b70 := hb_b70
                    have ht_v73 := (hX.2.1 _ hb_v73).1.trans ht_v73
                    have hb_v73 := Nat.lt_of_lt_of_le hb_v73 hX.1
                    have hb0_v73 := hb_v73
                    have ht_v80 := (hX.2.1 _ hb_v80).1.trans ht_v80
                    have hb_v80 := Nat.lt_of_lt_of_le hb_v80 hX.1
                    have hb0_v80 := hb_v80
                    have hn := Nat.le_refl n
                    have h94 := hS0.1
                    have hX := @yX.rf n tg I93 R
                    have hS := hS0.x hX
                    have hR := hR0.x hn hX
                    have hz := hX.sz h94
                    have hxn := hX.1
                    have hN := hR0.1
                    have hnb := hR0.2.2.2.2.2.2
                    have hthB := hth
                    refine y_aload_n rfl rfl ?_
                    refine y_getIv (v := Int32.ofInt (3)) rfl (ySh.t hS rfl) (ySh.n hS rfl) rfl rfl hth ?_
                    refine y_if_leF rfl (by decide) ?_
                    refine y_iconst rfl ?_
                    refine y_goto rfl j_X14_refuse_28 ?_
                    refine y_ireturn rfl rfl rfl ?_
                    refine y_ret1 ?_
                    refine y_if_eqF rfl (by decide) ?_
                    refine y_iconst rfl ?_
                    refine y_ireturn rfl rfl rfl ?_
                    exact hQ3 _ eb_b70 (by first | omega | (simp only [show ySeat x2 = x2 from if_neg (by omega)]; omega) | (simp only [show ySeat x2 = Int32.ofInt 8 from if_pos (by omega), show (Int32.ofInt 8).toInt.toNat = 8 from by decide]; omega)) _ _ _ _ _ _ _ hS ((hR0.grow hX).up (Nat.le_succ K) hk6) (hK.x hRo hno hX) hth ((hB.trans hX).rf2 (by omega)) (by omega) (by omega)
            · rw [yz_m1] at h_72
              refine y_bip rfl (by decide) ?_
              refine y_goto rfl j_X14_seat_11 ?_
              refine y_ireturn rfl rfl rfl ?_
              refine y_ret1 ?_
              refine y_istore (ls' := [some _, some _, some _, some _, some _, some _, some _]) rfl rfl rfl ?_
              refine y_aload_n rfl rfl ?_
              refine y_aload rfl rfl ?_
              obtain ⟨hR_v94, hb_v94, ht_v94⟩ := hR0.ven hlo_b70 hb0_b70 ht_b70 (j := 0) (by decide)
              have hb0_v94 := hb_v94
              have hb_v94 := Nat.lt_of_lt_of_le hb_v94 hn
              have hlo_v94 : 94 ≤ b70 + 1 + 0 := by omega
              have hR2_v94 := (congrFun (hX.2.1 b70 hb_b70).2.2 0).trans hR_v94
              refine y_getR rfl ((hX.2.1 _ hb_b70).1.trans ht_b70) (Nat.lt_of_lt_of_le hb_b70 hX.1) rfl rfl hR2_v94 ?_
              refine y_iload rfl rfl ?_
              refine y_baloadw (j := 8) (J := I (b70 + 1 + 0)) rfl ((hX.2.1 _ hb_v94).1.trans ht_v94) rfl (Nat.lt_of_lt_of_le hb_v94 hX.1) (by decide) (by decide) rfl (((hB.trans hX).n (by omega)).trans (by repeat (first | rfl | (rw [upd2_row (by first | decide | omega)]) | refine upd2_cg ?_))) ?_
              refine y_if_ne rfl j_X14_join_126 (fun h_95 => ?_) (fun h_96 => ?_)
              · refine y_iconst rfl ?_
                refine y_goto rfl j_X14_join_131 ?_
                refine y_iconst rfl ?_
                refine y_virt rfl rfl rfl rfl rfl (ySh.t hS rfl) (ySh.n hS rfl) ?_
                refine y_in (M := xm_X14_refuse) (ls := [some _, some _, some _]) rfl rfl rfl ?_
                refine y_iload_n rfl rfl ?_
                refine y_if_eqF rfl (by decide) ?_
                refine y_aload_n rfl rfl ?_
                refine y_getIv (v := Int32.ofInt (0)) rfl (ySh.t hS rfl) (ySh.n hS rfl) rfl rfl hth ?_
                refine y_if_neF rfl (by decide) ?_
                refine y_aload_n rfl rfl ?_
                refine y_iload_n rfl rfl ?_
                refine y_putI rfl (ySh.t hS rfl) (ySh.n hS rfl) rfl (Nat.le_of_ble_eq_true rfl) rfl rfl ?_
                refine y_nameI (fun I97 e97 => ?_)
                have hR1 := (hR0.grow hX).mod0 e97 (by decide) (by decide)
                have hK := (hK.x hRo hno hX).upI (upI e97) (by decide) (by decide) (fun i hi => by have := (hRo.l87.2.2.2.2 i hi).2.1; omega) (by rw [e97, upd2_ne (.inr (by decide))]; exact Int.le_refl _)
                have hth : I97 83 0 = Int32.ofInt (3) := by rw [e97, upd2_self]
                have hzz : ySz8 I63 I97 := ySz8_of (upI e97) (by rw [e97]; exact ⟨upd2_ne (.inr (by decide)), upd2_ne (.inr (by decide))⟩)
                have hB := (hB.trans hX).wr e97 rfl
                have h8 : ∀ a, 84 ≤ a → a ≤ 86 → I97 a = I a := fun a h1 h2 => (upI e97 a (by omega)).trans ((hX.2.1 a (by omega)).2.1.trans (h8 a h1 h2))
                have h3k : ∀ k, k ≠ 0 → I97 83 k = I 83 k := fun k hk => (congrFun (congrFun e97 83) k).trans ((upd2_ne (.inr hk)).trans ((congrFun (hX.2.1 83 (by omega)).2.1 k).trans (h3k k hk)))
                have hg := (hg.gx hX (by omega)).skip e97 (by decide)
                have hday : I97 83 1 = I 83 1 := (congrFun (congrFun e97 83) 1).trans ((upd2_ne (.inr (by decide))).trans ((congrFun (hX.2.1 83 (by omega)).2.1 1).trans hday))
                have hRb : ∀ a, a < n → R a = R a := fun a ha => (hX.2.1 a (by omega)).2.2.trans (hRb a ha)
                have hb83 : ∀ a, a ≠ 83 → a < n → I97 a = I a := fun a ha hb => (upI e97 a ha).trans ((hX.2.1 a (by omega)).2.1.trans (hb83 a ha hb))
                have hS0 := hS
                have hR0 := hR1
                have ht_b70 := (hX.2.1 _ hb_b70).1.trans ht_b70
                have hb_b70 := Nat.lt_of_lt_of_le hb_b70 hX.1
                have hb0_b70 := hb_b70
                have ht_v94 := (hX.2.1 _ hb_v94).1.trans ht_v94
                have hb_v94 := Nat.lt_of_lt_of_le hb_v94 hX.1
                have hb0_v94 := hb_v94
                have hn := Nat.le_refl n
                have h94 := hS0.1
                have hX := @yX.rf n tg I97 R
                have hS := hS0.x hX
                have hR := hR0.x hn hX
                have hz := hX.sz h94
                have hxn := hX.1
                have hN := hR0.1
                have hnb := hR0.2.2.2.2.2.2
                have hthB := hth
                refine y_aload_n rfl rfl ?_
                refine y_getIv (v := Int32.ofInt (3)) rfl (ySh.t hS rfl) (ySh.n hS rfl) rfl rfl hth ?_
                refine y_if_leF rfl (by decide) ?_
                refine y_iconst rfl ?_
                refine y_goto rfl j_X14_refuse_28 ?_
                refine y_ireturn rfl rfl rfl ?_
                refine y_ret1 ?_
                refine y_if_eqF rfl (by decide) ?_
                refine y_iconst rfl ?_
                refine y_ireturn rfl rfl rfl ?_
                exact hQ3 _ eb_b70 (by first | omega | (simp only [show ySeat x2 = x2 from if_neg (by omega)]; omega) | (simp only [show ySeat x2 = Int32.ofInt 8 from if_pos (by omega), show (Int32.ofInt 8).toInt.toNat = 8 from by decide]; omega)) _ _ _ _ _ _ _ hS ((hR0.grow hX).up (Nat.le_succ K) hk6) (hK.x hRo hno hX) hth ((hB.trans hX).rf2 (by omega)) (by omega) (by omega)
              · refine y_aload_n rfl rfl ?_
                refine y_getR rfl (ySh.t hS rfl) (ySh.n hS rfl) rfl rfl (ySh.r hS rfl) ?_
                refine y_iload rfl rfl ?_
                refine y_ialoadw (j := 8) (J := I 84) rfl (ySh.t hS rfl) (ySh.n hS rfl) (by decide) (by decide) rfl (((hB.trans hX).n (by omega)).trans (by repeat (first | rfl | (rw [upd2_row (by first | decide | omega)]) | refine upd2_cg ?_))) ?_
                refine y_iload_n rfl rfl ?_
                refine y_icmp_lt rfl j_X14_join_126 (fun h_98 => ?_) (fun h_99 => ?_)
                · refine y_iconst rfl ?_
                  refine y_goto rfl j_X14_join_131 ?_
                  refine y_iconst rfl ?_
                  refine y_virt rfl rfl rfl rfl rfl (ySh.t hS rfl) (ySh.n hS rfl) ?_
                  refine y_in (M := xm_X14_refuse) (ls := [some _, some _, some _]) rfl rfl rfl ?_
                  refine y_iload_n rfl rfl ?_
                  refine y_if_eqF rfl (by decide) ?_
                  refine y_aload_n rfl rfl ?_
                  refine y_getIv (v := Int32.ofInt (0)) rfl (ySh.t hS rfl) (ySh.n hS rfl) rfl rfl hth ?_
                  refine y_if_neF rfl (by decide) ?_
                  refine y_aload_n rfl rfl ?_
                  refine y_iload_n rfl rfl ?_
                  refine y_putI rfl (ySh.t hS rfl) (ySh.n hS rfl) rfl (Nat.le_of_ble_eq_true rfl) rfl rfl ?_
                  refine y_nameI (fun I100 e100 => ?_)
                  have hR1 := (hR0.grow hX).mod0 e100 (by decide) (by decide)
                  have hK := (hK.x hRo hno hX).upI (upI e100) (by decide) (by decide) (fun i hi => by have := (hRo.l87.2.2.2.2 i hi).2.1; omega) (by rw [e100, upd2_ne (.inr (by decide))]; exact Int.le_refl _)
                  have hth : I100 83 0 = Int32.ofInt (3) := by rw [e100, upd2_self]
                  have hzz : ySz8 I63 I100 := ySz8_of (upI e100) (by rw [e100]; exact ⟨upd2_ne (.inr (by decide)), upd2_ne (.inr (by decide))⟩)
                  have hB := (hB.trans hX).wr e100 rfl
                  have h8 : ∀ a, 84 ≤ a → a ≤ 86 → I100 a = I a := fun a h1 h2 => (upI e100 a (by omega)).trans ((hX.2.1 a (by omega)).2.1.trans (h8 a h1 h2))
                  have h3k : ∀ k, k ≠ 0 → I100 83 k = I 83 k := fun k hk => (congrFun (congrFun e100 83) k).trans ((upd2_ne (.inr hk)).trans ((congrFun (hX.2.1 83 (by omega)).2.1 k).trans (h3k k hk)))
                  have hg := (hg.gx hX (by omega)).skip e100 (by decide)
                  have hday : I100 83 1 = I 83 1 := (congrFun (congrFun e100 83) 1).trans ((upd2_ne (.inr (by decide))).trans ((congrFun (hX.2.1 83 (by omega)).2.1 1).trans hday))
                  have hRb : ∀ a, a < n → R a = R a := fun a ha => (hX.2.1 a (by omega)).2.2.trans (hRb a ha)
                  have hb83 : ∀ a, a ≠ 83 → a < n → I100 a = I a := fun a ha hb => (upI e100 a ha).trans ((hX.2.1 a (by omega)).2.1.trans (hb83 a ha hb))
                  have hS0 := hS
                  have hR0 := hR1
                  have ht_b70 := (hX.2.1 _ hb_b70).1.trans ht_b70
                  have hb_b70 := Nat.lt_of_lt_of_le hb_b70 hX.1
                  have hb0_b70 := hb_b70
                  have ht_v94 := (hX.2.1 _ hb_v94).1.trans ht_v94
                  have hb_v94 := Nat.lt_of_lt_of_le hb_v94 hX.1
                  have hb0_v94 := hb_v94
                  have hn := Nat.le_refl n
                  have h94 := hS0.1
                  have hX := @yX.rf n tg I100 R
                  have hS := hS0.x hX
                  have hR := hR0.x hn hX
                  have hz := hX.sz h94
                  have hxn := hX.1
                  have hN := hR0.1
                  have hnb := hR0.2.2.2.2.2.2
                  have hthB := hth
                  refine y_aload_n rfl rfl ?_
                  refine y_getIv (v := Int32.ofInt (3)) rfl (ySh.t hS rfl) (ySh.n hS rfl) rfl rfl hth ?_
                  refine y_if_leF rfl (by decide) ?_
                  refine y_iconst rfl ?_
                  refine y_goto rfl j_X14_refuse_28 ?_
                  refine y_ireturn rfl rfl rfl ?_
                  refine y_ret1 ?_
                  refine y_if_eqF rfl (by decide) ?_
                  refine y_iconst rfl ?_
                  refine y_ireturn rfl rfl rfl ?_
                  exact hQ3 _ eb_b70 (by first | omega | (simp only [show ySeat x2 = x2 from if_neg (by omega)]; omega) | (simp only [show ySeat x2 = Int32.ofInt 8 from if_pos (by omega), show (Int32.ofInt 8).toInt.toNat = 8 from by decide]; omega)) _ _ _ _ _ _ _ hS ((hR0.grow hX).up (Nat.le_succ K) hk6) (hK.x hRo hno hX) hth ((hB.trans hX).rf2 (by omega)) (by omega) (by omega)
                · refine y_aload rfl rfl ?_
                  refine y_aload rfl rfl ?_
                  obtain ⟨hR_v101, hb_v101, ht_v101⟩ := hR0.ven hlo_b70 hb0_b70 ht_b70 (j := 2) (by decide)
                  have hb0_v101 := hb_v101
                  have hb_v101 := Nat.lt_of_lt_of_le hb_v101 hn
                  have hlo_v101 : 94 ≤ b70 + 1 + 2 := by omega
                  have hR2_v101 := (congrFun (hX.2.1 b70 hb_b70).2.2 2).trans hR_v101
                  refine y_getR rfl ((hX.2.1 _ hb_b70).1.trans ht_b70) (Nat.lt_of_lt_of_le hb_b70 hX.1) rfl rfl hR2_v101 ?_
                  refine y_virt rfl rfl rfl rfl rfl ((hX.2.1 _ hb_b70).1.trans ht_b70) (Nat.lt_of_lt_of_le hb_b70 hX.1) ?_
                  refine r_allX ((hX.2.1 _ hb_v101).1.trans ht_v101) (Nat.lt_of_lt_of_le hb_v101 hX.1) (fun v_102 hv_102 => ?_)
                  rw [show I63 (b70 + 1 + 2) = I (b70 + 1 + 2) from (((hB.trans hX).n (by omega)).trans (by repeat (first | rfl | (rw [upd2_row (by first | decide | omega)]) | refine upd2_cg ?_)))] at hv_102
                  subst hv_102
                  refine y_ret1 ?_
                  refine y_iload rfl rfl ?_
                  refine y_iadd rfl ?_
                  refine y_bip rfl (by decide) ?_
                  refine y_icmp_le rfl j_X14_join_130 (fun h_103 => ?_) (fun h_104 => ?_)
                  · rw [yz_100] at h_103
                    refine y_iconst rfl ?_
                    refine y_iconst rfl ?_
                    refine y_virt rfl rfl rfl rfl rfl (ySh.t hS rfl) (ySh.n hS rfl) ?_
                    refine y_in (M := xm_X14_refuse) (ls := [some _, some _, some _]) rfl rfl rfl ?_
                    refine y_iload_n rfl rfl ?_
                    refine y_if_eqT rfl j_X14_refuse_16 (by decide) ?_
                    refine y_aload_n rfl rfl ?_
                    refine y_getIv (v := Int32.ofInt (0)) rfl (ySh.t hS rfl) (ySh.n hS rfl) rfl rfl hth ?_
                    refine y_if_leT rfl j_X14_refuse_27 (by decide) ?_
                    refine y_iconst rfl ?_
                    refine y_ireturn rfl rfl rfl ?_
                    refine y_ret1 ?_
                    refine y_if_eqT rfl j_X14_join_140 (by decide) ?_
                    refine y_aload rfl rfl ?_
                    obtain ⟨hR_v105, hb_v105, ht_v105⟩ := hR0.ven hlo_b70 hb0_b70 ht_b70 (j := 0) (by decide)
                    have hb0_v105 := hb_v105
                    have hb_v105 := Nat.lt_of_lt_of_le hb_v105 hn
                    have hlo_v105 : 94 ≤ b70 + 1 + 0 := by omega
                    have hR2_v105 := (congrFun (hX.2.1 b70 hb_b70).2.2 0).trans hR_v105
                    refine y_getR rfl ((hX.2.1 _ hb_b70).1.trans ht_b70) (Nat.lt_of_lt_of_le hb_b70 hX.1) rfl rfl hR2_v105 ?_
                    refine y_iload rfl rfl ?_
                    refine y_iconst rfl ?_
                    refine y_zastore rfl ((hX.2.1 _ hb_v105).1.trans ht_v105) (Nat.lt_of_lt_of_le hb_v105 hX.1) (Nat.le_trans (by decide) (by omega : 94 ≤ _)) (by decide) (by decide) rfl ?_
                    refine y_nameI (fun I106 e106 => ?_)
                    have hR1 := (hR0.grow hX).upV hlo_b70 (by omega) ((hX.2.1 _ hb_b70).1.trans ht_b70) (j := 0) (by decide) e106
                    have hK := (hK.x hRo hno hX).upE hRo hno (upI e106) (by omega) (by omega) (by rw [((hX.2.1 _ hb_v105).1.trans ht_v105)]; decide) (by rw [e106, upd2_ne (.inl (by omega))]; exact Int.le_refl _)
                    have hth := (show I106 83 0 = I63 83 0 by rw [e106, upd2_ne (.inl (by omega))]).trans hth
                    have hzz : ySz I63 I106 := ySz_ofE (upI e106) (by omega)
                    have hB := (hB.trans hX).wr e106 rfl
                    have h8 : ∀ a, 84 ≤ a → a ≤ 86 → I106 a = I a := fun a h1 h2 => (upI e106 a (by omega)).trans ((hX.2.1 a (by omega)).2.1.trans (h8 a h1 h2))
                    have h3k : ∀ k, k ≠ 0 → I106 83 k = I 83 k := fun k hk => (congrFun (congrFun e106 83) k).trans ((upd2_ne (.inl (by omega))).trans ((congrFun (hX.2.1 83 (by omega)).2.1 k).trans (h3k k hk)))
                    have hg := (hg.gx hX (by omega)).both e106
                    have hday : I106 83 1 = I 83 1 := (congrFun (congrFun e106 83) 1).trans ((upd2_ne (.inl (by omega))).trans ((congrFun (hX.2.1 83 (by omega)).2.1 1).trans hday))
                    have hRb : ∀ a, a < n → R a = R a := fun a ha => (hX.2.1 a (by omega)).2.2.trans (hRb a ha)
                    have hS0 := hS
                    have hR0 := hR1
                    have ht_b70 := (hX.2.1 _ hb_b70).1.trans ht_b70
                    have hb_b70 := Nat.lt_of_lt_of_le hb_b70 hX.1
                    have hb0_b70 := hb_b70
                    have ht_v94 := (hX.2.1 _ hb_v94).1.trans ht_v94
                    have hb_v94 := Nat.lt_of_lt_of_le hb_v94 hX.1
                    have hb0_v94 := hb_v94
                    have ht_v101 := (hX.2.1 _ hb_v101).1.trans ht_v101
                    have hb_v101 := Nat.lt_of_lt_of_le hb_v101 hX.1
                    have hb0_v101 := hb_v101
                    have ht_v105 := (hX.2.1 _ hb_v105).1.trans ht_v105
                    have hb_v105 := Nat.lt_of_lt_of_le hb_v105 hX.1
                    have hb0_v105 := hb_v105
                    have hn := Nat.le_refl n
                    have h94 := hS0.1
                    have hX := @yX.rf n tg I106 R
                    have hS := hS0.x hX
                    have hR := hR0.x hn hX
                    have hz := hX.sz h94
                    have hxn := hX.1
                    have hN := hR0.1
                    have hnb := hR0.2.2.2.2.2.2
                    have hthB := hth
                    refine y_aload rfl rfl ?_
                    obtain ⟨hR_v107, hb_v107, ht_v107⟩ := hR0.ven hlo_b70 hb0_b70 ht_b70 (j := 1) (by decide)
                    have hb0_v107 := hb_v107
                    have hb_v107 := Nat.lt_of_lt_of_le hb_v107 hn
                    have hlo_v107 : 94 ≤ b70 + 1 + 1 := by omega
                    have hR2_v107 := (congrFun (hX.2.1 b70 hb_b70).2.2 1).trans hR_v107
                    refine y_getR rfl ((hX.2.1 _ hb_b70).1.trans ht_b70) (Nat.lt_of_lt_of_le hb_b70 hX.1) rfl rfl hR2_v107 ?_
                    refine y_iload rfl rfl ?_
                    refine y_iload_n rfl rfl ?_
                    refine y_iastoreC (j := 8) rfl ((hX.2.1 _ hb_v107).1.trans ht_v107) (Nat.lt_of_lt_of_le hb_v107 hX.1) (Nat.le_trans (by decide) (by omega : 94 ≤ _)) (by decide) (by decide) rfl ?_
                    refine y_nameI (fun I108 e108 => ?_)
                    have hR1 := (hR0.grow hX).capJ hlo_b70 (by omega) ((hX.2.1 _ hb_b70).1.trans ht_b70) (by omega) ⟨by omega, by omega⟩ e108 hk6
                    have hK := (hK.x hRo hno hX).upE hRo hno (upI e108) (by omega) (by omega) (by rw [((hX.2.1 _ hb_v107).1.trans ht_v107)]; decide) (by rw [e108, upd2_ne (.inl (by omega))]; exact Int.le_refl _)
                    have hth := (show I108 83 0 = I106 83 0 by rw [e108, upd2_ne (.inl (by omega))]).trans hth
                    have hzz : ySz I106 I108 := ySz_ofE (upI e108) (by omega)
                    have hB := (hB.trans hX).wr e108 rfl
                    have h8 : ∀ a, 84 ≤ a → a ≤ 86 → I108 a = I a := fun a h1 h2 => (upI e108 a (by omega)).trans ((hX.2.1 a (by omega)).2.1.trans (h8 a h1 h2))
                    have h3k : ∀ k, k ≠ 0 → I108 83 k = I 83 k := fun k hk => (congrFun (congrFun e108 83) k).trans ((upd2_ne (.inl (by omega))).trans ((congrFun (hX.2.1 83 (by omega)).2.1 k).trans (h3k k hk)))
                    have hg := (hg.gx hX (by omega)).both e108
                    have hday : I108 83 1 = I 83 1 := (congrFun (congrFun e108 83) 1).trans ((upd2_ne (.inl (by omega))).trans ((congrFun (hX.2.1 83 (by omega)).2.1 1).trans hday))
                    have hRb : ∀ a, a < n → R a = R a := fun a ha => (hX.2.1 a (by omega)).2.2.trans (hRb a ha)
                    have hS0 := hS
                    have hR0 := hR1
                    have ht_b70 := (hX.2.1 _ hb_b70).1.trans ht_b70
                    have hb_b70 := Nat.lt_of_lt_of_le hb_b70 hX.1
                    have hb0_b70 := hb_b70
                    have ht_v94 := (hX.2.1 _ hb_v94).1.trans ht_v94
                    have hb_v94 := Nat.lt_of_lt_of_le hb_v94 hX.1
                    have hb0_v94 := hb_v94
                    have ht_v101 := (hX.2.1 _ hb_v101).1.trans ht_v101
                    have hb_v101 := Nat.lt_of_lt_of_le hb_v101 hX.1
                    have hb0_v101 := hb_v101
                    have ht_v105 := (hX.2.1 _ hb_v105).1.trans ht_v105
                    have hb_v105 := Nat.lt_of_lt_of_le hb_v105 hX.1
                    have hb0_v105 := hb_v105
                    have ht_v107 := (hX.2.1 _ hb_v107).1.trans ht_v107
                    have hb_v107 := Nat.lt_of_lt_of_le hb_v107 hX.1
                    have hb0_v107 := hb_v107
                    have hn := Nat.le_refl n
                    have h94 := hS0.1
                    have hX := @yX.rf n tg I108 R
                    have hS := hS0.x hX
                    have hR := hR0.x hn hX
                    have hz := hX.sz h94
                    have hxn := hX.1
                    have hN := hR0.1
                    have hnb := hR0.2.2.2.2.2.2
                    have hthB := hth
                    refine y_aload rfl rfl ?_
                    obtain ⟨hR_v109, hb_v109, ht_v109⟩ := hR0.ven hlo_b70 hb0_b70 ht_b70 (j := 2) (by decide)
                    have hb0_v109 := hb_v109
                    have hb_v109 := Nat.lt_of_lt_of_le hb_v109 hn
                    have hlo_v109 : 94 ≤ b70 + 1 + 2 := by omega
                    have hR2_v109 := (congrFun (hX.2.1 b70 hb_b70).2.2 2).trans hR_v109
                    refine y_getR rfl ((hX.2.1 _ hb_b70).1.trans ht_b70) (Nat.lt_of_lt_of_le hb_b70 hX.1) rfl rfl hR2_v109 ?_
                    refine y_iload rfl rfl ?_
                    refine y_iload rfl rfl ?_
                    refine y_iastoreC (j := 8) rfl ((hX.2.1 _ hb_v109).1.trans ht_v109) (Nat.lt_of_lt_of_le hb_v109 hX.1) (Nat.le_trans (by decide) (by omega : 94 ≤ _)) (by decide) (by decide) rfl ?_
                    refine y_nameI (fun I110 e110 => ?_)
                    have hR1 := (hR0.grow hX).upV hlo_b70 (by omega) ((hX.2.1 _ hb_b70).1.trans ht_b70) (j := 2) (by decide) e110
                    have hK := (hK.x hRo hno hX).upE hRo hno (upI e110) (by omega) (by omega) (by rw [((hX.2.1 _ hb_v109).1.trans ht_v109)]; decide) (by rw [e110, upd2_ne (.inl (by omega))]; exact Int.le_refl _)
                    have hth := (show I110 83 0 = I108 83 0 by rw [e110, upd2_ne (.inl (by omega))]).trans hth
                    have hzz : ySz I108 I110 := ySz_ofE (upI e110) (by omega)
                    have hB := (hB.trans hX).wr e110 rfl
                    have h8 : ∀ a, 84 ≤ a → a ≤ 86 → I110 a = I a := fun a h1 h2 => (upI e110 a (by omega)).trans ((hX.2.1 a (by omega)).2.1.trans (h8 a h1 h2))
                    have h3k : ∀ k, k ≠ 0 → I110 83 k = I 83 k := fun k hk => (congrFun (congrFun e110 83) k).trans ((upd2_ne (.inl (by omega))).trans ((congrFun (hX.2.1 83 (by omega)).2.1 k).trans (h3k k hk)))
                    have hg := (hg.gx hX (by omega)).both e110
                    have hday : I110 83 1 = I 83 1 := (congrFun (congrFun e110 83) 1).trans ((upd2_ne (.inl (by omega))).trans ((congrFun (hX.2.1 83 (by omega)).2.1 1).trans hday))
                    have hRb : ∀ a, a < n → R a = R a := fun a ha => (hX.2.1 a (by omega)).2.2.trans (hRb a ha)
                    have hS0 := hS
                    have hR0 := hR1
                    have ht_b70 := (hX.2.1 _ hb_b70).1.trans ht_b70
                    have hb_b70 := Nat.lt_of_lt_of_le hb_b70 hX.1
                    have hb0_b70 := hb_b70
                    have ht_v94 := (hX.2.1 _ hb_v94).1.trans ht_v94
                    have hb_v94 := Nat.lt_of_lt_of_le hb_v94 hX.1
                    have hb0_v94 := hb_v94
                    have ht_v101 := (hX.2.1 _ hb_v101).1.trans ht_v101
                    have hb_v101 := Nat.lt_of_lt_of_le hb_v101 hX.1
                    have hb0_v101 := hb_v101
                    have ht_v105 := (hX.2.1 _ hb_v105).1.trans ht_v105
                    have hb_v105 := Nat.lt_of_lt_of_le hb_v105 hX.1
                    have hb0_v105 := hb_v105
                    have ht_v107 := (hX.2.1 _ hb_v107).1.trans ht_v107
                    have hb_v107 := Nat.lt_of_lt_of_le hb_v107 hX.1
                    have hb0_v107 := hb_v107
                    have ht_v109 := (hX.2.1 _ hb_v109).1.trans ht_v109
                    have hb_v109 := Nat.lt_of_lt_of_le hb_v109 hX.1
                    have hb0_v109 := hb_v109
                    have hn := Nat.le_refl n
                    have h94 := hS0.1
                    have hX := @yX.rf n tg I110 R
                    have hS := hS0.x hX
                    have hR := hR0.x hn hX
                    have hz := hX.sz h94
                    have hxn := hX.1
                    have hN := hR0.1
                    have hnb := hR0.2.2.2.2.2.2
                    have hthB := hth
                    refine y_aload_n rfl rfl ?_
                    refine y_getR rfl (ySh.t hS rfl) (ySh.n hS rfl) rfl rfl (ySh.r hS rfl) ?_
                    refine y_iload rfl rfl ?_
                    refine y_dup2 rfl rfl rfl ?_
                    refine y_ialoadw (j := 8) (J := I 84) rfl (ySh.t hS rfl) (ySh.n hS rfl) (by decide) (by decide) rfl (((hB.trans hX).n (by omega)).trans (by repeat (first | rfl | (rw [upd2_row (by first | decide | omega)]) | refine upd2_cg ?_))) ?_
                    refine y_iload_n rfl rfl ?_
                    refine y_isub rfl ?_
                    refine y_iastoreC (j := 8) rfl (ySh.t hS rfl) (ySh.n hS rfl) (Nat.le_of_ble_eq_true rfl) (by decide) (by decide) rfl ?_
                    refine y_nameI (fun I111 e111 => ?_)
                    have hR1 := (hR0.grow hX).arr e111 (by decide)
                    have hK := (hK.x hRo hno hX).upI (upI e111) (by decide) (by decide) (fun i hi => by have := (hRo.l87.2.2.2.2 i hi).2.1; omega) (by rw [e111, upd2_ne (.inl (by omega))]; exact Int.le_refl _)
                    have hth := (show I111 83 0 = I110 83 0 by rw [e111, upd2_ne (.inl (by omega))]).trans hth
                    have hzz : ySz I110 I111 := ySz_ofE (upI e111) (by omega)
                    have hB := (hB.trans hX).wr e111 rfl
                    have h3k : ∀ k, k ≠ 0 → I111 83 k = I 83 k := fun k hk => (congrFun (congrFun e111 83) k).trans ((upd2_ne (.inl (by omega))).trans ((congrFun (hX.2.1 83 (by omega)).2.1 k).trans (h3k k hk)))
                    have hg := (hg.gx hX (by omega)).skip e111 (by decide)
                    have hday : I111 83 1 = I 83 1 := (congrFun (congrFun e111 83) 1).trans ((upd2_ne (.inl (by omega))).trans ((congrFun (hX.2.1 83 (by omega)).2.1 1).trans hday))
                    have hRb : ∀ a, a < n → R a = R a := fun a ha => (hX.2.1 a (by omega)).2.2.trans (hRb a ha)
                    have hS0 := hS
                    have hR0 := hR1
                    have ht_b70 := (hX.2.1 _ hb_b70).1.trans ht_b70
                    have hb_b70 := Nat.lt_of_lt_of_le hb_b70 hX.1
                    have hb0_b70 := hb_b70
                    have ht_v94 := (hX.2.1 _ hb_v94).1.trans ht_v94
                    have hb_v94 := Nat.lt_of_lt_of_le hb_v94 hX.1
                    have hb0_v94 := hb_v94
                    have ht_v101 := (hX.2.1 _ hb_v101).1.trans ht_v101
                    have hb_v101 := Nat.lt_of_lt_of_le hb_v101 hX.1
                    have hb0_v101 := hb_v101
                    have ht_v105 := (hX.2.1 _ hb_v105).1.trans ht_v105
                    have hb_v105 := Nat.lt_of_lt_of_le hb_v105 hX.1
                    have hb0_v105 := hb_v105
                    have ht_v107 := (hX.2.1 _ hb_v107).1.trans ht_v107
                    have hb_v107 := Nat.lt_of_lt_of_le hb_v107 hX.1
                    have hb0_v107 := hb_v107
                    have ht_v109 := (hX.2.1 _ hb_v109).1.trans ht_v109
                    have hb_v109 := Nat.lt_of_lt_of_le hb_v109 hX.1
                    have hb0_v109 := hb_v109
                    have hn := Nat.le_refl n
                    have h94 := hS0.1
                    have hX := @yX.rf n tg I111 R
                    have hS := hS0.x hX
                    have hR := hR0.x hn hX
                    have hz := hX.sz h94
                    have hxn := hX.1
                    have hN := hR0.1
                    have hnb := hR0.2.2.2.2.2.2
                    have hthB := hth
                    refine y_aload rfl rfl ?_
                    refine y_aload rfl rfl ?_
                    obtain ⟨hR_v112, hb_v112, ht_v112⟩ := hR0.ven hlo_b70 hb0_b70 ht_b70 (j := 2) (by decide)
                    have hb0_v112 := hb_v112
                    have hb_v112 := Nat.lt_of_lt_of_le hb_v112 hn
                    have hlo_v112 : 94 ≤ b70 + 1 + 2 := by omega
                    have hR2_v112 := (congrFun (hX.2.1 b70 hb_b70).2.2 2).trans hR_v112
                    refine y_getR rfl ((hX.2.1 _ hb_b70).1.trans ht_b70) (Nat.lt_of_lt_of_le hb_b70 hX.1) rfl rfl hR2_v112 ?_
                    refine y_virt rfl rfl rfl rfl rfl ((hX.2.1 _ hb_b70).1.trans ht_b70) (Nat.lt_of_lt_of_le hb_b70 hX.1) ?_
                    refine r_allX ((hX.2.1 _ hb_v112).1.trans ht_v112) (Nat.lt_of_lt_of_le hb_v112 hX.1) (fun v_113 hv_113 => ?_)
                    subst hv_113
                    refine y_ret1 ?_
                    refine y_ireturn rfl rfl rfl ?_
                    exact hQ0 _ eb_b70 (by first | omega | (simp only [show ySeat x2 = x2 from if_neg (by omega)]; omega) | (simp only [show ySeat x2 = Int32.ofInt 8 from if_pos (by omega), show (Int32.ofInt 8).toInt.toNat = 8 from by decide]; omega)) _ _ _ _ _ _ _ hS (hR0.grow hX) (hK.x hRo hno hX) hth (by first | rfl | (exact congrArg (fun f => yFz f 9) ((hB.trans hX).n (by omega)).symm)) (by first | (exact hB.trans hX) | (simp only [show ySeat x2 = x2 from if_neg (by omega)]; exact hB.trans hX) | (simp only [show ySeat x2 = Int32.ofInt 8 from if_pos (by omega), show (Int32.ofInt 8).toInt.toNat = 8 from by decide]; exact hB.trans hX)) (by omega) (by omega)
                  · rw [yz_100] at h_104
                    refine y_iconst rfl ?_
                    refine y_goto rfl j_X14_join_131 ?_
                    refine y_iconst rfl ?_
                    refine y_virt rfl rfl rfl rfl rfl (ySh.t hS rfl) (ySh.n hS rfl) ?_
                    refine y_in (M := xm_X14_refuse) (ls := [some _, some _, some _]) rfl rfl rfl ?_
                    refine y_iload_n rfl rfl ?_
                    refine y_if_eqF rfl (by decide) ?_
                    refine y_aload_n rfl rfl ?_
                    refine y_getIv (v := Int32.ofInt (0)) rfl (ySh.t hS rfl) (ySh.n hS rfl) rfl rfl hth ?_
                    refine y_if_neF rfl (by decide) ?_
                    refine y_aload_n rfl rfl ?_
                    refine y_iload_n rfl rfl ?_
                    refine y_putI rfl (ySh.t hS rfl) (ySh.n hS rfl) rfl (Nat.le_of_ble_eq_true rfl) rfl rfl ?_
                    refine y_nameI (fun I114 e114 => ?_)
                    have hR1 := (hR0.grow hX).mod0 e114 (by decide) (by decide)
                    have hK := (hK.x hRo hno hX).upI (upI e114) (by decide) (by decide) (fun i hi => by have := (hRo.l87.2.2.2.2 i hi).2.1; omega) (by rw [e114, upd2_ne (.inr (by decide))]; exact Int.le_refl _)
                    have hth : I114 83 0 = Int32.ofInt (3) := by rw [e114, upd2_self]
                    have hzz : ySz8 I63 I114 := ySz8_of (upI e114) (by rw [e114]; exact ⟨upd2_ne (.inr (by decide)), upd2_ne (.inr (by decide))⟩)
                    have hB := (hB.trans hX).wr e114 rfl
                    have h8 : ∀ a, 84 ≤ a → a ≤ 86 → I114 a = I a := fun a h1 h2 => (upI e114 a (by omega)).trans ((hX.2.1 a (by omega)).2.1.trans (h8 a h1 h2))
                    have h3k : ∀ k, k ≠ 0 → I114 83 k = I 83 k := fun k hk => (congrFun (congrFun e114 83) k).trans ((upd2_ne (.inr hk)).trans ((congrFun (hX.2.1 83 (by omega)).2.1 k).trans (h3k k hk)))
                    have hg := (hg.gx hX (by omega)).skip e114 (by decide)
                    have hday : I114 83 1 = I 83 1 := (congrFun (congrFun e114 83) 1).trans ((upd2_ne (.inr (by decide))).trans ((congrFun (hX.2.1 83 (by omega)).2.1 1).trans hday))
                    have hRb : ∀ a, a < n → R a = R a := fun a ha => (hX.2.1 a (by omega)).2.2.trans (hRb a ha)
                    have hb83 : ∀ a, a ≠ 83 → a < n → I114 a = I a := fun a ha hb => (upI e114 a ha).trans ((hX.2.1 a (by omega)).2.1.trans (hb83 a ha hb))
                    have hS0 := hS
                    have hR0 := hR1
                    have ht_b70 := (hX.2.1 _ hb_b70).1.trans ht_b70
                    have hb_b70 := Nat.lt_of_lt_of_le hb_b70 hX.1
                    have hb0_b70 := hb_b70
                    have ht_v94 := (hX.2.1 _ hb_v94).1.trans ht_v94
                    have hb_v94 := Nat.lt_of_lt_of_le hb_v94 hX.1
                    have hb0_v94 := hb_v94
                    have ht_v101 := (hX.2.1 _ hb_v101).1.trans ht_v101
                    have hb_v101 := Nat.lt_of_lt_of_le hb_v101 hX.1
                    have hb0_v101 := hb_v101
                    have hn := Nat.le_refl n
                    have h94 := hS0.1
                    have hX := @yX.rf n tg I114 R
                    have hS := hS0.x hX
                    have hR := hR0.x hn hX
                    have hz := hX.sz h94
                    have hxn := hX.1
                    have hN := hR0.1
                    have hnb := hR0.2.2.2.2.2.2
                    have hthB := hth
                    refine y_aload_n rfl rfl ?_
                    refine y_getIv (v := Int32.ofInt (3)) rfl (ySh.t hS rfl) (ySh.n hS rfl) rfl rfl hth ?_
                    refine y_if_leF rfl (by decide) ?_
                    refine y_iconst rfl ?_
                    refine y_goto rfl j_X14_refuse_28 ?_
                    refine y_ireturn rfl rfl rfl ?_
                    refine y_ret1 ?_
                    refine y_if_eqF rfl (by decide) ?_
                    refine y_iconst rfl ?_
                    refine y_ireturn rfl rfl rfl ?_
                    exact hQ3 _ eb_b70 (by first | omega | (simp only [show ySeat x2 = x2 from if_neg (by omega)]; omega) | (simp only [show ySeat x2 = Int32.ofInt 8 from if_pos (by omega), show (Int32.ofInt 8).toInt.toNat = 8 from by decide]; omega)) _ _ _ _ _ _ _ hS ((hR0.grow hX).up (Nat.le_succ K) hk6) (hK.x hRo hno hX) hth ((hB.trans hX).rf2 (by omega)) (by omega) (by omega)
          · rw [yz_0] at h_69
            rw [yz_100] at h_69
            refine y_ret1 ?_
            refine y_if_neF rfl (by decide) ?_
            refine y_iconst rfl ?_
            refine y_goto rfl j_X14_join_57 ?_
            refine y_iconst rfl ?_
            refine y_virt rfl rfl rfl rfl rfl (ySh.t hS rfl) (ySh.n hS rfl) ?_
            refine y_in (M := xm_X14_refuse) (ls := [some _, some _, some _]) rfl rfl rfl ?_
            refine y_iload_n rfl rfl ?_
            refine y_if_eqF rfl (by decide) ?_
            refine y_aload_n rfl rfl ?_
            refine y_getIv (v := Int32.ofInt (0)) rfl (ySh.t hS rfl) (ySh.n hS rfl) rfl rfl hth ?_
            refine y_if_neF rfl (by decide) ?_
            refine y_aload_n rfl rfl ?_
            refine y_iload_n rfl rfl ?_
            refine y_putI rfl (ySh.t hS rfl) (ySh.n hS rfl) rfl (Nat.le_of_ble_eq_true rfl) rfl rfl ?_
            refine y_nameI (fun I115 e115 => ?_)
            have hR1 := (hR0.grow hX).mod0 e115 (by decide) (by decide)
            have hK := (hK.x hRo hno hX).upI (upI e115) (by decide) (by decide) (fun i hi => by have := (hRo.l87.2.2.2.2 i hi).2.1; omega) (by rw [e115, upd2_ne (.inr (by decide))]; exact Int.le_refl _)
            have hth : I115 83 0 = Int32.ofInt (2) := by rw [e115, upd2_self]
            have hzz : ySz8 I63 I115 := ySz8_of (upI e115) (by rw [e115]; exact ⟨upd2_ne (.inr (by decide)), upd2_ne (.inr (by decide))⟩)
            have hB := (hB.trans hX).wr e115 rfl
            have h8 : ∀ a, 84 ≤ a → a ≤ 86 → I115 a = I a := fun a h1 h2 => (upI e115 a (by omega)).trans ((hX.2.1 a (by omega)).2.1.trans (h8 a h1 h2))
            have h3k : ∀ k, k ≠ 0 → I115 83 k = I 83 k := fun k hk => (congrFun (congrFun e115 83) k).trans ((upd2_ne (.inr hk)).trans ((congrFun (hX.2.1 83 (by omega)).2.1 k).trans (h3k k hk)))
            have hg := (hg.gx hX (by omega)).skip e115 (by decide)
            have hday : I115 83 1 = I 83 1 := (congrFun (congrFun e115 83) 1).trans ((upd2_ne (.inr (by decide))).trans ((congrFun (hX.2.1 83 (by omega)).2.1 1).trans hday))
            have hRb : ∀ a, a < n → R a = R a := fun a ha => (hX.2.1 a (by omega)).2.2.trans (hRb a ha)
            have hb83 : ∀ a, a ≠ 83 → a < n → I115 a = I a := fun a ha hb => (upI e115 a ha).trans ((hX.2.1 a (by omega)).2.1.trans (hb83 a ha hb))
            have hS0 := hS
            have hR0 := hR1
            have hn := Nat.le_refl n
            have h94 := hS0.1
            have hX := @yX.rf n tg I115 R
            have hS := hS0.x hX
            have hR := hR0.x hn hX
            have hz := hX.sz h94
            have hxn := hX.1
            have hN := hR0.1
            have hnb := hR0.2.2.2.2.2.2
            have hthB := hth
            refine y_aload_n rfl rfl ?_
            refine y_getIv (v := Int32.ofInt (2)) rfl (ySh.t hS rfl) (ySh.n hS rfl) rfl rfl hth ?_
            refine y_if_leF rfl (by decide) ?_
            refine y_iconst rfl ?_
            refine y_goto rfl j_X14_refuse_28 ?_
            refine y_ireturn rfl rfl rfl ?_
            refine y_ret1 ?_
            refine y_if_eqF rfl (by decide) ?_
            refine y_iconst rfl ?_
            refine y_ireturn rfl rfl rfl ?_
            exact hQ2 (by first | omega | (simp only [show ySeat x2 = x2 from if_neg (by omega)]; omega) | (simp only [show ySeat x2 = Int32.ofInt 8 from if_pos (by omega), show (Int32.ofInt 8).toInt.toNat = 8 from by decide]; omega)) _ _ _ _ _ _ _ hS ((hR0.grow hX).up (Nat.le_succ K) hk6) (hK.x hRo hno hX) hth ((hB.trans hX).rf2 (by omega)) (by omega) (by omega)
        · rw [yz_1] at h_66
          rw [yz_999] at h_66
          refine y_ret1 ?_
          refine y_if_eqT rfl j_X14_join_52 (by decide) ?_
          refine y_iconst rfl ?_
          refine y_goto rfl j_X14_join_57 ?_
          refine y_iconst rfl ?_
          refine y_virt rfl rfl rfl rfl rfl (ySh.t hS rfl) (ySh.n hS rfl) ?_
          refine y_in (M := xm_X14_refuse) (ls := [some _, some _, some _]) rfl rfl rfl ?_
          refine y_iload_n rfl rfl ?_
          refine y_if_eqF rfl (by decide) ?_
          refine y_aload_n rfl rfl ?_
          refine y_getIv (v := Int32.ofInt (0)) rfl (ySh.t hS rfl) (ySh.n hS rfl) rfl rfl hth ?_
          refine y_if_neF rfl (by decide) ?_
          refine y_aload_n rfl rfl ?_
          refine y_iload_n rfl rfl ?_
          refine y_putI rfl (ySh.t hS rfl) (ySh.n hS rfl) rfl (Nat.le_of_ble_eq_true rfl) rfl rfl ?_
          refine y_nameI (fun I116 e116 => ?_)
          have hR1 := (hR0.grow hX).mod0 e116 (by decide) (by decide)
          have hK := (hK.x hRo hno hX).upI (upI e116) (by decide) (by decide) (fun i hi => by have := (hRo.l87.2.2.2.2 i hi).2.1; omega) (by rw [e116, upd2_ne (.inr (by decide))]; exact Int.le_refl _)
          have hth : I116 83 0 = Int32.ofInt (2) := by rw [e116, upd2_self]
          have hzz : ySz8 I63 I116 := ySz8_of (upI e116) (by rw [e116]; exact ⟨upd2_ne (.inr (by decide)), upd2_ne (.inr (by decide))⟩)
          have hB := (hB.trans hX).wr e116 rfl
          have h8 : ∀ a, 84 ≤ a → a ≤ 86 → I116 a = I a := fun a h1 h2 => (upI e116 a (by omega)).trans ((hX.2.1 a (by omega)).2.1.trans (h8 a h1 h2))
          have h3k : ∀ k, k ≠ 0 → I116 83 k = I 83 k := fun k hk => (congrFun (congrFun e116 83) k).trans ((upd2_ne (.inr hk)).trans ((congrFun (hX.2.1 83 (by omega)).2.1 k).trans (h3k k hk)))
          have hg := (hg.gx hX (by omega)).skip e116 (by decide)
          have hday : I116 83 1 = I 83 1 := (congrFun (congrFun e116 83) 1).trans ((upd2_ne (.inr (by decide))).trans ((congrFun (hX.2.1 83 (by omega)).2.1 1).trans hday))
          have hRb : ∀ a, a < n → R a = R a := fun a ha => (hX.2.1 a (by omega)).2.2.trans (hRb a ha)
          have hb83 : ∀ a, a ≠ 83 → a < n → I116 a = I a := fun a ha hb => (upI e116 a ha).trans ((hX.2.1 a (by omega)).2.1.trans (hb83 a ha hb))
          have hS0 := hS
          have hR0 := hR1
          have hn := Nat.le_refl n
          have h94 := hS0.1
          have hX := @yX.rf n tg I116 R
          have hS := hS0.x hX
          have hR := hR0.x hn hX
          have hz := hX.sz h94
          have hxn := hX.1
          have hN := hR0.1
          have hnb := hR0.2.2.2.2.2.2
          have hthB := hth
          refine y_aload_n rfl rfl ?_
          refine y_getIv (v := Int32.ofInt (2)) rfl (ySh.t hS rfl) (ySh.n hS rfl) rfl rfl hth ?_
          refine y_if_leF rfl (by decide) ?_
          refine y_iconst rfl ?_
          refine y_goto rfl j_X14_refuse_28 ?_
          refine y_ireturn rfl rfl rfl ?_
          refine y_ret1 ?_
          refine y_if_eqF rfl (by decide) ?_
          refine y_iconst rfl ?_
          refine y_ireturn rfl rfl rfl ?_
          exact hQ2 (by first | omega | (simp only [show ySeat x2 = x2 from if_neg (by omega)]; omega) | (simp only [show ySeat x2 = Int32.ofInt 8 from if_pos (by omega), show (Int32.ofInt 8).toInt.toNat = 8 from by decide]; omega)) _ _ _ _ _ _ _ hS ((hR0.grow hX).up (Nat.le_succ K) hk6) (hK.x hRo hno hX) hth ((hB.trans hX).rf2 (by omega)) (by omega) (by omega)
      · rw [yz_0] at h_62
        try rw [ysub (by rw [yz_1]; omega) (by rw [yz_1]; omega), yz_1] at h_62
        refine y_ret1 ?_
        refine y_if_neF rfl (by decide) ?_
        refine y_iconst rfl ?_
        refine y_goto rfl j_X14_isNobody_19 ?_
        refine y_ireturn rfl rfl rfl ?_
        refine y_ret1 ?_
        refine y_if_eqF rfl (by decide) ?_
        refine y_iconst rfl ?_
        refine y_goto rfl j_X14_isNoOne_18 ?_
        refine y_ireturn rfl rfl rfl ?_
        refine y_ret1 ?_
        refine y_if_eqF rfl (by decide) ?_
        refine y_iconst rfl ?_
        refine y_goto rfl j_X14_join_22 ?_
        refine y_iconst rfl ?_
        refine y_virt rfl rfl rfl rfl rfl (ySh.t hS rfl) (ySh.n hS rfl) ?_
        refine y_in (M := xm_X14_start) (ls := [some _, some _, some _]) rfl rfl rfl ?_
        refine y_aload_n rfl rfl ?_
        refine y_iconst rfl ?_
        refine y_putI rfl (ySh.t hS rfl) (ySh.n hS rfl) rfl (Nat.le_of_ble_eq_true rfl) rfl rfl ?_
        refine y_nameI (fun I117 e117 => ?_)
        have hR1 := (hR0.grow hX).mod0 e117 (by decide) (by decide)
        have hK := (hK.x hRo hno hX).upI (upI e117) (by decide) (by decide) (fun i hi => by have := (hRo.l87.2.2.2.2 i hi).2.1; omega) (by rw [e117, upd2_ne (.inr (by decide))]; exact Int.le_refl _)
        have hth : I117 83 0 = Int32.ofInt (0) := by rw [e117, upd2_self]
        have hzz : ySz8 I I117 := ySz8_of (upI e117) (by rw [e117]; exact ⟨upd2_ne (.inr (by decide)), upd2_ne (.inr (by decide))⟩)
        have hB := (hB.trans hX).wr e117 rfl
        have h8 : ∀ a, 84 ≤ a → a ≤ 86 → I117 a = I a := fun a h1 h2 => (upI e117 a (by omega)).trans ((hX.2.1 a (by omega)).2.1.trans (h8 a h1 h2))
        have h3k : ∀ k, k ≠ 0 → I117 83 k = I 83 k := fun k hk => (congrFun (congrFun e117 83) k).trans ((upd2_ne (.inr hk)).trans ((congrFun (hX.2.1 83 (by omega)).2.1 k).trans (h3k k hk)))
        have hg := (hg.gx hX (by omega)).skip e117 (by decide)
        have hday : I117 83 1 = I 83 1 := (congrFun (congrFun e117 83) 1).trans ((upd2_ne (.inr (by decide))).trans ((congrFun (hX.2.1 83 (by omega)).2.1 1).trans hday))
        have hRb : ∀ a, a < n → R a = R a := fun a ha => (hX.2.1 a (by omega)).2.2.trans (hRb a ha)
        have hb83 : ∀ a, a ≠ 83 → a < n → I117 a = I a := fun a ha hb => (upI e117 a ha).trans ((hX.2.1 a (by omega)).2.1.trans (hb83 a ha hb))
        have hS0 := hS
        have hR0 := hR1
        have hn := Nat.le_refl n
        have h94 := hS0.1
        have hX := @yX.rf n tg I117 R
        have hS := hS0.x hX
        have hR := hR0.x hn hX
        have hz := hX.sz h94
        have hxn := hX.1
        have hN := hR0.1
        have hnb := hR0.2.2.2.2.2.2
        have hthB := hth
        refine y_aload_n rfl rfl ?_
        refine y_iload_n rfl rfl ?_
        refine y_iload_n rfl rfl ?_
        refine y_virt rfl rfl rfl rfl rfl (ySh.t hS rfl) (ySh.n hS rfl) ?_
        refine y_in (M := xm_X14_refuse) (ls := [some _, some _, some _]) rfl rfl rfl ?_
        refine y_iload_n rfl rfl ?_
        refine y_if_eqF rfl (by decide) ?_
        refine y_aload_n rfl rfl ?_
        refine y_getIv (v := Int32.ofInt (0)) rfl (ySh.t hS rfl) (ySh.n hS rfl) rfl rfl hth ?_
        refine y_if_neF rfl (by decide) ?_
        refine y_aload_n rfl rfl ?_
        refine y_iload_n rfl rfl ?_
        refine y_putI rfl (ySh.t hS rfl) (ySh.n hS rfl) rfl (Nat.le_of_ble_eq_true rfl) rfl rfl ?_
        refine y_nameI (fun I118 e118 => ?_)
        have hR1 := (hR0.grow hX).mod0 e118 (by decide) (by decide)
        have hK := (hK.x hRo hno hX).upI (upI e118) (by decide) (by decide) (fun i hi => by have := (hRo.l87.2.2.2.2 i hi).2.1; omega) (by rw [e118, upd2_ne (.inr (by decide))]; exact Int.le_refl _)
        have hth : I118 83 0 = Int32.ofInt (1) := by rw [e118, upd2_self]
        have hzz : ySz8 I117 I118 := ySz8_of (upI e118) (by rw [e118]; exact ⟨upd2_ne (.inr (by decide)), upd2_ne (.inr (by decide))⟩)
        have hB := (hB.trans hX).wr e118 rfl
        have h8 : ∀ a, 84 ≤ a → a ≤ 86 → I118 a = I a := fun a h1 h2 => (upI e118 a (by omega)).trans ((hX.2.1 a (by omega)).2.1.trans (h8 a h1 h2))
        have h3k : ∀ k, k ≠ 0 → I118 83 k = I 83 k := fun k hk => (congrFun (congrFun e118 83) k).trans ((upd2_ne (.inr hk)).trans ((congrFun (hX.2.1 83 (by omega)).2.1 k).trans (h3k k hk)))
        have hg := (hg.gx hX (by omega)).skip e118 (by decide)
        have hday : I118 83 1 = I 83 1 := (congrFun (congrFun e118 83) 1).trans ((upd2_ne (.inr (by decide))).trans ((congrFun (hX.2.1 83 (by omega)).2.1 1).trans hday))
        have hRb : ∀ a, a < n → R a = R a := fun a ha => (hX.2.1 a (by omega)).2.2.trans (hRb a ha)
        have hb83 : ∀ a, a ≠ 83 → a < n → I118 a = I a := fun a ha hb => (upI e118 a ha).trans ((hX.2.1 a (by omega)).2.1.trans (hb83 a ha hb))
        have hS0 := hS
        have hR0 := hR1
        have hn := Nat.le_refl n
        have h94 := hS0.1
        have hX := @yX.rf n tg I118 R
        have hS := hS0.x hX
        have hR := hR0.x hn hX
        have hz := hX.sz h94
        have hxn := hX.1
        have hN := hR0.1
        have hnb := hR0.2.2.2.2.2.2
        have hthB := hth
        refine y_aload_n rfl rfl ?_
        refine y_getIv (v := Int32.ofInt (1)) rfl (ySh.t hS rfl) (ySh.n hS rfl) rfl rfl hth ?_
        refine y_if_leF rfl (by decide) ?_
        refine y_iconst rfl ?_
        refine y_goto rfl j_X14_refuse_28 ?_
        refine y_ireturn rfl rfl rfl ?_
        refine y_ret1 ?_
        refine y_ireturn rfl rfl rfl ?_
        refine y_ret1 ?_
        refine y_if_neT rfl j_X14_join_64 (by decide) ?_
        refine y_iconst rfl ?_
        refine y_ireturn rfl rfl rfl ?_
        exact hQ1 (by first | omega | (simp only [show ySeat x2 = x2 from if_neg (by omega)]; omega) | (simp only [show ySeat x2 = Int32.ofInt 8 from if_pos (by omega), show (Int32.ofInt 8).toInt.toNat = 8 from by decide]; omega)) _ _ _ _ _ _ _ hS ((hR0.grow hX).up (Nat.le_succ K) hk6) (hK.x hRo hno hX) hth ((hB.trans hX).rf2 (by omega)) (by omega) (by omega)
  · rw [yz_0] at h_3
    try rw [ysub (by rw [yz_1]; omega) (by rw [yz_1]; omega), yz_1] at h_3
    refine y_ret1 ?_
    refine y_if_neF rfl (by decide) ?_
    refine y_iconst rfl ?_
    refine y_goto rfl j_X14_isNoVenture_22 ?_
    refine y_ireturn rfl rfl rfl ?_
    refine y_ret1 ?_
    refine y_if_neT rfl j_X14_join_17 (by decide) ?_
    refine y_iconst rfl ?_
    refine y_goto rfl j_X14_join_22 ?_
    refine y_iconst rfl ?_
    refine y_virt rfl rfl rfl rfl rfl (ySh.t hS rfl) (ySh.n hS rfl) ?_
    refine y_in (M := xm_X14_start) (ls := [some _, some _, some _]) rfl rfl rfl ?_
    refine y_aload_n rfl rfl ?_
    refine y_iconst rfl ?_
    refine y_putI rfl (ySh.t hS rfl) (ySh.n hS rfl) rfl (Nat.le_of_ble_eq_true rfl) rfl rfl ?_
    refine y_nameI (fun I119 e119 => ?_)
    have hR1 := (hR0.grow hX).mod0 e119 (by decide) (by decide)
    have hK := (hK.x hRo hno hX).upI (upI e119) (by decide) (by decide) (fun i hi => by have := (hRo.l87.2.2.2.2 i hi).2.1; omega) (by rw [e119, upd2_ne (.inr (by decide))]; exact Int.le_refl _)
    have hth : I119 83 0 = Int32.ofInt (0) := by rw [e119, upd2_self]
    have hzz : ySz8 I I119 := ySz8_of (upI e119) (by rw [e119]; exact ⟨upd2_ne (.inr (by decide)), upd2_ne (.inr (by decide))⟩)
    have hB := (hB.trans hX).wr e119 rfl
    have h8 : ∀ a, 84 ≤ a → a ≤ 86 → I119 a = I a := fun a h1 h2 => (upI e119 a (by omega)).trans ((hX.2.1 a (by omega)).2.1.trans (h8 a h1 h2))
    have h3k : ∀ k, k ≠ 0 → I119 83 k = I 83 k := fun k hk => (congrFun (congrFun e119 83) k).trans ((upd2_ne (.inr hk)).trans ((congrFun (hX.2.1 83 (by omega)).2.1 k).trans (h3k k hk)))
    have hg := (hg.gx hX (by omega)).skip e119 (by decide)
    have hday : I119 83 1 = I 83 1 := (congrFun (congrFun e119 83) 1).trans ((upd2_ne (.inr (by decide))).trans ((congrFun (hX.2.1 83 (by omega)).2.1 1).trans hday))
    have hRb : ∀ a, a < n → R a = R a := fun a ha => (hX.2.1 a (by omega)).2.2.trans (hRb a ha)
    have hb83 : ∀ a, a ≠ 83 → a < n → I119 a = I a := fun a ha hb => (upI e119 a ha).trans ((hX.2.1 a (by omega)).2.1.trans (hb83 a ha hb))
    have hS0 := hS
    have hR0 := hR1
    have hn := Nat.le_refl n
    have h94 := hS0.1
    have hX := @yX.rf n tg I119 R
    have hS := hS0.x hX
    have hR := hR0.x hn hX
    have hz := hX.sz h94
    have hxn := hX.1
    have hN := hR0.1
    have hnb := hR0.2.2.2.2.2.2
    have hthB := hth
    refine y_aload_n rfl rfl ?_
    refine y_iload_n rfl rfl ?_
    refine y_iload_n rfl rfl ?_
    refine y_virt rfl rfl rfl rfl rfl (ySh.t hS rfl) (ySh.n hS rfl) ?_
    refine y_in (M := xm_X14_refuse) (ls := [some _, some _, some _]) rfl rfl rfl ?_
    refine y_iload_n rfl rfl ?_
    refine y_if_eqF rfl (by decide) ?_
    refine y_aload_n rfl rfl ?_
    refine y_getIv (v := Int32.ofInt (0)) rfl (ySh.t hS rfl) (ySh.n hS rfl) rfl rfl hth ?_
    refine y_if_neF rfl (by decide) ?_
    refine y_aload_n rfl rfl ?_
    refine y_iload_n rfl rfl ?_
    refine y_putI rfl (ySh.t hS rfl) (ySh.n hS rfl) rfl (Nat.le_of_ble_eq_true rfl) rfl rfl ?_
    refine y_nameI (fun I120 e120 => ?_)
    have hR1 := (hR0.grow hX).mod0 e120 (by decide) (by decide)
    have hK := (hK.x hRo hno hX).upI (upI e120) (by decide) (by decide) (fun i hi => by have := (hRo.l87.2.2.2.2 i hi).2.1; omega) (by rw [e120, upd2_ne (.inr (by decide))]; exact Int.le_refl _)
    have hth : I120 83 0 = Int32.ofInt (1) := by rw [e120, upd2_self]
    have hzz : ySz8 I119 I120 := ySz8_of (upI e120) (by rw [e120]; exact ⟨upd2_ne (.inr (by decide)), upd2_ne (.inr (by decide))⟩)
    have hB := (hB.trans hX).wr e120 rfl
    have h8 : ∀ a, 84 ≤ a → a ≤ 86 → I120 a = I a := fun a h1 h2 => (upI e120 a (by omega)).trans ((hX.2.1 a (by omega)).2.1.trans (h8 a h1 h2))
    have h3k : ∀ k, k ≠ 0 → I120 83 k = I 83 k := fun k hk => (congrFun (congrFun e120 83) k).trans ((upd2_ne (.inr hk)).trans ((congrFun (hX.2.1 83 (by omega)).2.1 k).trans (h3k k hk)))
    have hg := (hg.gx hX (by omega)).skip e120 (by decide)
    have hday : I120 83 1 = I 83 1 := (congrFun (congrFun e120 83) 1).trans ((upd2_ne (.inr (by decide))).trans ((congrFun (hX.2.1 83 (by omega)).2.1 1).trans hday))
    have hRb : ∀ a, a < n → R a = R a := fun a ha => (hX.2.1 a (by omega)).2.2.trans (hRb a ha)
    have hb83 : ∀ a, a ≠ 83 → a < n → I120 a = I a := fun a ha hb => (upI e120 a ha).trans ((hX.2.1 a (by omega)).2.1.trans (hb83 a ha hb))
    have hS0 := hS
    have hR0 := hR1
    have hn := Nat.le_refl n
    have h94 := hS0.1
    have hX := @yX.rf n tg I120 R
    have hS := hS0.x hX
    have hR := hR0.x hn hX
    have hz := hX.sz h94
    have hxn := hX.1
    have hN := hR0.1
    have hnb := hR0.2.2.2.2.2.2
    have hthB := hth
    refine y_aload_n rfl rfl ?_
    refine y_getIv (v := Int32.ofInt (1)) rfl (ySh.t hS rfl) (ySh.n hS rfl) rfl rfl hth ?_
    refine y_if_leF rfl (by decide) ?_
    refine y_iconst rfl ?_
    refine y_goto rfl j_X14_refuse_28 ?_
    refine y_ireturn rfl rfl rfl ?_
    refine y_ret1 ?_
    refine y_ireturn rfl rfl rfl ?_
    refine y_ret1 ?_
    refine y_if_neT rfl j_X14_join_64 (by decide) ?_
    refine y_iconst rfl ?_
    refine y_ireturn rfl rfl rfl ?_
    exact hQ1 (by first | omega | (simp only [show ySeat x2 = x2 from if_neg (by omega)]; omega) | (simp only [show ySeat x2 = Int32.ofInt 8 from if_pos (by omega), show (Int32.ofInt 8).toInt.toNat = 8 from by decide]; omega)) _ _ _ _ _ _ _ hS ((hR0.grow hX).up (Nat.le_succ K) hk6) (hK.x hRo hno hX) hth ((hB.trans hX).rf2 (by omega)) (by omega) (by omega)
theorem yRI.capB1x {b k : Nat} {I' : Nat → Nat → Int32} {x z : Int32} (h : yRI K nb tg I R) (h1 : 94 ≤ b) (h2 : b < nb) (h3 : tg b = (21, 0)) (hk : k < 9) (e : I' = upd2 I (b + 1 + 1) k z) (hz : z = I (b + 1 + 1) k - x) (hx : 0 ≤ x.toInt ∧ x.toInt ≤ (I (b + 1 + 1) k).toInt) : yRI K nb tg I' R ∧ ySum (fun j => (I' (b + 2) j).toInt) 9 + x.toInt ≤ 999 * (K : Int) ∧ ∀ j, j < 9 → 0 ≤ (I' (b + 2) j).toInt := by
  subst hz; exact h.capB1 h1 h2 h3 hk hx e
theorem yRI.capB2x {b k : Nat} {I' : Nat → Nat → Int32} {x z : Int32} (h : yRI K nb tg I R) (h1 : 94 ≤ b) (h2 : b < nb) (h3 : tg b = (21, 0)) (hk : k < 9) (hx : 0 ≤ x.toInt) (hsum : ySum (fun j => (I (b + 2) j).toInt) 9 + x.toInt ≤ 999 * (K : Int)) (e : I' = upd2 I (b + 1 + 1) k z) (hz : z = I (b + 1 + 1) k + x) : yRI K nb tg I' R := by
  subst hz; exact h.capB2 h1 h2 h3 hk hx hsum e
theorem h_buyOut (hS0 : ySh n tg R) (hR0 : yRI K n tg I R) (hk6 : K < 600) {x1 x2 x3 x4 : Int32} (hQ1 : ¬ ((0 ≤ x1.toInt ∧ x1.toInt < (I 91 2).toInt) ∧ (x2.toInt = -1 ∨ 0 ≤ x2.toInt ∧ x2.toInt < (I 83 8).toInt) ∧ (x3.toInt = -1 ∨ 0 ≤ x3.toInt ∧ x3.toInt < (I 83 8).toInt)) → ∀ (v : Int32) n1 tg1 I1 R1 c1 s1, ySh n1 tg1 R1 → yRI (K + 1) n1 tg1 I1 R1 → yKp n tg I R n1 tg1 I1 R1 → I1 83 0 = Int32.ofInt 1 → yRf n I R I1 R1 → c1 ≤ c + 0 → s1 ≤ s + 0 → Q (.inl (some (.int v))) (n1, tg1, I1, R1) c1 s1) (hQ2 : ((0 ≤ x1.toInt ∧ x1.toInt < (I 91 2).toInt) ∧ (x2.toInt = -1 ∨ 0 ≤ x2.toInt ∧ x2.toInt < (I 83 8).toInt) ∧ (x3.toInt = -1 ∨ 0 ≤ x3.toInt ∧ x3.toInt < (I 83 8).toInt)) ∧ ¬ (¬ x2.toInt = x3.toInt ∧ (1 ≤ x4.toInt ∧ x4.toInt ≤ 999)) → ∀ (v : Int32) n1 tg1 I1 R1 c1 s1, ySh n1 tg1 R1 → yRI (K + 1) n1 tg1 I1 R1 → yKp n tg I R n1 tg1 I1 R1 → I1 83 0 = Int32.ofInt 2 → yRf n I R I1 R1 → c1 ≤ c + 0 → s1 ≤ s + 0 → Q (.inl (some (.int v))) (n1, tg1, I1, R1) c1 s1) (hQ3 : ∀ b, b = yAd R 91 x1.toInt.toNat → ((0 ≤ x1.toInt ∧ x1.toInt < (I 91 2).toInt) ∧ (x2.toInt = -1 ∨ 0 ≤ x2.toInt ∧ x2.toInt < (I 83 8).toInt) ∧ (x3.toInt = -1 ∨ 0 ≤ x3.toInt ∧ x3.toInt < (I 83 8).toInt)) ∧ (¬ x2.toInt = x3.toInt ∧ (1 ≤ x4.toInt ∧ x4.toInt ≤ 999)) ∧ ¬ (¬ (I (b + 1 + 0) (ySeat x2).toInt.toNat).toInt = 0 ∧ ¬ (I (b + 1 + 0) (ySeat x3).toInt.toNat).toInt = 0 ∧ x4.toInt ≤ (I (b + 1 + 1) (ySeat x2).toInt.toNat).toInt ∧ x4.toInt ≤ (I 84 (ySeat x3).toInt.toNat).toInt) → ∀ (v : Int32) n1 tg1 I1 R1 c1 s1, ySh n1 tg1 R1 → yRI (K + 1) n1 tg1 I1 R1 → yKp n tg I R n1 tg1 I1 R1 → I1 83 0 = Int32.ofInt 3 → yRf n I R I1 R1 → c1 ≤ c + 0 → s1 ≤ s + 0 → Q (.inl (some (.int v))) (n1, tg1, I1, R1) c1 s1) (hQ0 : ∀ b, b = yAd R 91 x1.toInt.toNat → ((0 ≤ x1.toInt ∧ x1.toInt < (I 91 2).toInt) ∧ (x2.toInt = -1 ∨ 0 ≤ x2.toInt ∧ x2.toInt < (I 83 8).toInt) ∧ (x3.toInt = -1 ∨ 0 ≤ x3.toInt ∧ x3.toInt < (I 83 8).toInt)) ∧ (¬ x2.toInt = x3.toInt ∧ (1 ≤ x4.toInt ∧ x4.toInt ≤ 999)) ∧ (¬ (I (b + 1 + 0) (ySeat x2).toInt.toNat).toInt = 0 ∧ ¬ (I (b + 1 + 0) (ySeat x3).toInt.toNat).toInt = 0 ∧ x4.toInt ≤ (I (b + 1 + 1) (ySeat x2).toInt.toNat).toInt ∧ x4.toInt ≤ (I 84 (ySeat x3).toInt.toNat).toInt) → ∀ (v : Int32) n1 tg1 I1 R1 c1 s1, ySh n1 tg1 R1 → yRI (K + 1) n1 tg1 I1 R1 → yKp n tg I R n1 tg1 I1 R1 → I1 83 0 = Int32.ofInt 0 → v = I1 (b + 1 + 1) (ySeat x2).toInt.toNat → yX n tg (upd2 (upd2 (upd2 (upd2 (upd2 I 83 0 (Int32.ofInt 0)) (b + 1 + 1) (ySeat x2).toInt.toNat (I (b + 1 + 1) (ySeat x2).toInt.toNat - x4)) (b + 1 + 1) (ySeat x3).toInt.toNat ((upd2 (upd2 I 83 0 (Int32.ofInt 0)) (b + 1 + 1) (ySeat x2).toInt.toNat (I (b + 1 + 1) (ySeat x2).toInt.toNat - x4)) (b + 1 + 1) (ySeat x3).toInt.toNat + x4)) 84 (ySeat x2).toInt.toNat (I 84 (ySeat x2).toInt.toNat + x4)) 84 (ySeat x3).toInt.toNat ((upd2 (upd2 (upd2 (upd2 I 83 0 (Int32.ofInt 0)) (b + 1 + 1) (ySeat x2).toInt.toNat (I (b + 1 + 1) (ySeat x2).toInt.toNat - x4)) (b + 1 + 1) (ySeat x3).toInt.toNat ((upd2 (upd2 I 83 0 (Int32.ofInt 0)) (b + 1 + 1) (ySeat x2).toInt.toNat (I (b + 1 + 1) (ySeat x2).toInt.toNat - x4)) (b + 1 + 1) (ySeat x3).toInt.toNat + x4)) 84 (ySeat x2).toInt.toNat (I 84 (ySeat x2).toInt.toNat + x4)) 84 (ySeat x3).toInt.toNat - x4)) R n1 tg1 I1 R1 → c1 ≤ c + 0 → s1 ≤ s + 0 → Q (.inl (some (.int v))) (n1, tg1, I1, R1) c1 s1) : yC 215 [.ref 83, .int x1, .int x2, .int x3, .int x4] (n, tg, I, R) c s Q := by
  have hno := Nat.le_refl n
  have hn := hno
  have hRo := hR0
  have hK : yKp n tg I R n tg I R := yKp.rf
  have hX : yX n tg I R n tg I R := yX.rf
  have hS := hS0
  have hR := hR0
  have h94 : 94 ≤ n := hS0.1
  have hz : ySz I I := hX.sz h94
  have hxn := hX.1
  have hN := hR0.1
  have hnb : 94 ≤ n := hR0.2.2.2.2.2.2
  have hg : yGm n I I := yGm.rf
  have hday : I 83 1 = I 83 1 := rfl
  have hb83 : ∀ a, a ≠ 83 → a < n → I a = I a := fun _ _ _ => rfl
  have hRb : ∀ a, a < n → R a = R a := fun _ _ => rfl
  have hB : yX n tg I R n tg I R := yX.rf
  have h8 : ∀ a, 84 ≤ a → a ≤ 86 → I a = I a := fun _ _ _ => rfl
  have h3k : ∀ k, k ≠ 0 → I 83 k = I 83 k := fun _ _ => rfl
  refine y_in (M := xm_X14_buyOut) (ls := [some _, some _, some _, some _, some _, _, _, _]) rfl rfl rfl ?_
  refine y_aload_n rfl rfl ?_
  refine y_aload_n rfl rfl ?_
  refine y_iload_n rfl rfl ?_
  refine y_virt rfl rfl rfl rfl rfl (ySh.t hS rfl) (ySh.n hS rfl) ?_
  refine y_in (M := xm_X14_isNoVenture) (ls := [some _, some _]) rfl rfl rfl ?_
  refine y_iload_n rfl rfl ?_
  refine y_iconst rfl ?_
  refine y_aload_n rfl rfl ?_
  refine y_getR rfl (ySh.t hS rfl) (ySh.n hS rfl) rfl rfl (ySh.r hS rfl) ?_
  refine y_virt rfl rfl rfl rfl rfl (ySh.t hS rfl) (ySh.n hS rfl) ?_
  refine y_in (M := xm_Jx4a65c_size_8abf5) (ls := [some _]) rfl rfl rfl ?_
  refine y_aload_n rfl rfl ?_
  refine y_getI rfl (ySh.t hS rfl) (ySh.n hS rfl) rfl rfl ?_
  refine y_ireturn rfl rfl rfl ?_
  refine y_ret1 ?_
  refine y_iconst rfl ?_
  refine y_isub rfl ?_
  refine y_static rfl rfl rfl rfl rfl ?_
  refine r_isIn (fun h_1 h_2 => ?_) (fun h_3 => ?_)
  · rw [yz_0] at h_1
    try rw [ysub (by rw [yz_1]; omega) (by rw [yz_1]; omega), yz_1] at h_2
    refine y_ret1 ?_
    refine y_if_neT rfl j_X14_isNoVenture_21 (by decide) ?_
    refine y_iconst rfl ?_
    refine y_ireturn rfl rfl rfl ?_
    refine y_ret1 ?_
    refine y_if_neF rfl (by decide) ?_
    refine y_aload_n rfl rfl ?_
    refine y_iload_n rfl rfl ?_
    refine y_virt rfl rfl rfl rfl rfl (ySh.t hS rfl) (ySh.n hS rfl) ?_
    refine y_in (M := xm_X14_isNoOne) (ls := [some _, some _]) rfl rfl rfl ?_
    refine y_iload_n rfl rfl ?_
    refine y_iconst rfl ?_
    refine y_icmp_eq rfl j_X14_isNoOne_17 (fun h_4 => ?_) (fun h_5 => ?_)
    · rw [yz_m1] at h_4
      refine y_iconst rfl ?_
      refine y_ireturn rfl rfl rfl ?_
      refine y_ret1 ?_
      refine y_if_neF rfl (by decide) ?_
      refine y_aload_n rfl rfl ?_
      refine y_iload_n rfl rfl ?_
      refine y_virt rfl rfl rfl rfl rfl (ySh.t hS rfl) (ySh.n hS rfl) ?_
      refine y_in (M := xm_X14_isNoOne) (ls := [some _, some _]) rfl rfl rfl ?_
      refine y_iload_n rfl rfl ?_
      refine y_iconst rfl ?_
      refine y_icmp_eq rfl j_X14_isNoOne_17 (fun h_6 => ?_) (fun h_7 => ?_)
      · rw [yz_m1] at h_6
        refine y_iconst rfl ?_
        refine y_ireturn rfl rfl rfl ?_
        refine y_ret1 ?_
        refine y_if_eqT rfl j_X14_buyOut_29 (by decide) ?_
        refine y_iconst rfl ?_
        refine y_iconst rfl ?_
        refine y_virt rfl rfl rfl rfl rfl (ySh.t hS rfl) (ySh.n hS rfl) ?_
        refine y_in (M := xm_X14_start) (ls := [some _, some _, some _]) rfl rfl rfl ?_
        refine y_aload_n rfl rfl ?_
        refine y_iconst rfl ?_
        refine y_putI rfl (ySh.t hS rfl) (ySh.n hS rfl) rfl (Nat.le_of_ble_eq_true rfl) rfl rfl ?_
        refine y_nameI (fun I8 e8 => ?_)
        have hR1 := (hR0.grow hX).mod0 e8 (by decide) (by decide)
        have hK := (hK.x hRo hno hX).upI (upI e8) (by decide) (by decide) (fun i hi => by have := (hRo.l87.2.2.2.2 i hi).2.1; omega) (by rw [e8, upd2_ne (.inr (by decide))]; exact Int.le_refl _)
        have hth : I8 83 0 = Int32.ofInt (0) := by rw [e8, upd2_self]
        have hzz : ySz8 I I8 := ySz8_of (upI e8) (by rw [e8]; exact ⟨upd2_ne (.inr (by decide)), upd2_ne (.inr (by decide))⟩)
        have hB := (hB.trans hX).wr e8 rfl
        have h8 : ∀ a, 84 ≤ a → a ≤ 86 → I8 a = I a := fun a h1 h2 => (upI e8 a (by omega)).trans ((hX.2.1 a (by omega)).2.1.trans (h8 a h1 h2))
        have h3k : ∀ k, k ≠ 0 → I8 83 k = I 83 k := fun k hk => (congrFun (congrFun e8 83) k).trans ((upd2_ne (.inr hk)).trans ((congrFun (hX.2.1 83 (by omega)).2.1 k).trans (h3k k hk)))
        have hg := (hg.gx hX (by omega)).skip e8 (by decide)
        have hday : I8 83 1 = I 83 1 := (congrFun (congrFun e8 83) 1).trans ((upd2_ne (.inr (by decide))).trans ((congrFun (hX.2.1 83 (by omega)).2.1 1).trans hday))
        have hRb : ∀ a, a < n → R a = R a := fun a ha => (hX.2.1 a (by omega)).2.2.trans (hRb a ha)
        have hb83 : ∀ a, a ≠ 83 → a < n → I8 a = I a := fun a ha hb => (upI e8 a ha).trans ((hX.2.1 a (by omega)).2.1.trans (hb83 a ha hb))
        have hS0 := hS
        have hR0 := hR1
        have hn := Nat.le_refl n
        have h94 := hS0.1
        have hX := @yX.rf n tg I8 R
        have hS := hS0.x hX
        have hR := hR0.x hn hX
        have hz := hX.sz h94
        have hxn := hX.1
        have hN := hR0.1
        have hnb := hR0.2.2.2.2.2.2
        have hthB := hth
        refine y_aload_n rfl rfl ?_
        refine y_iload_n rfl rfl ?_
        refine y_iload_n rfl rfl ?_
        refine y_virt rfl rfl rfl rfl rfl (ySh.t hS rfl) (ySh.n hS rfl) ?_
        refine y_in (M := xm_X14_refuse) (ls := [some _, some _, some _]) rfl rfl rfl ?_
        refine y_iload_n rfl rfl ?_
        refine y_if_eqT rfl j_X14_refuse_16 (by decide) ?_
        refine y_aload_n rfl rfl ?_
        refine y_getIv (v := Int32.ofInt (0)) rfl (ySh.t hS rfl) (ySh.n hS rfl) rfl rfl hth ?_
        refine y_if_leT rfl j_X14_refuse_27 (by decide) ?_
        refine y_iconst rfl ?_
        refine y_ireturn rfl rfl rfl ?_
        refine y_ret1 ?_
        refine y_ireturn rfl rfl rfl ?_
        refine y_ret1 ?_
        refine y_if_neF rfl (by decide) ?_
        refine y_aload_n rfl rfl ?_
        refine y_iload_n rfl rfl ?_
        refine y_iload_n rfl rfl ?_
        refine y_icmp_eq rfl j_X14_buyOut_55 (fun h_9 => ?_) (fun h_10 => ?_)
        · refine y_iconst rfl ?_
          refine y_goto rfl j_X14_buyOut_60 ?_
          refine y_iconst rfl ?_
          refine y_virt rfl rfl rfl rfl rfl (ySh.t hS rfl) (ySh.n hS rfl) ?_
          refine y_in (M := xm_X14_refuse) (ls := [some _, some _, some _]) rfl rfl rfl ?_
          refine y_iload_n rfl rfl ?_
          refine y_if_eqF rfl (by decide) ?_
          refine y_aload_n rfl rfl ?_
          refine y_getIv (v := Int32.ofInt (0)) rfl (ySh.t hS rfl) (ySh.n hS rfl) rfl rfl hth ?_
          refine y_if_neF rfl (by decide) ?_
          refine y_aload_n rfl rfl ?_
          refine y_iload_n rfl rfl ?_
          refine y_putI rfl (ySh.t hS rfl) (ySh.n hS rfl) rfl (Nat.le_of_ble_eq_true rfl) rfl rfl ?_
          refine y_nameI (fun I11 e11 => ?_)
          have hR1 := (hR0.grow hX).mod0 e11 (by decide) (by decide)
          have hK := (hK.x hRo hno hX).upI (upI e11) (by decide) (by decide) (fun i hi => by have := (hRo.l87.2.2.2.2 i hi).2.1; omega) (by rw [e11, upd2_ne (.inr (by decide))]; exact Int.le_refl _)
          have hth : I11 83 0 = Int32.ofInt (2) := by rw [e11, upd2_self]
          have hzz : ySz8 I8 I11 := ySz8_of (upI e11) (by rw [e11]; exact ⟨upd2_ne (.inr (by decide)), upd2_ne (.inr (by decide))⟩)
          have hB := (hB.trans hX).wr e11 rfl
          have h8 : ∀ a, 84 ≤ a → a ≤ 86 → I11 a = I a := fun a h1 h2 => (upI e11 a (by omega)).trans ((hX.2.1 a (by omega)).2.1.trans (h8 a h1 h2))
          have h3k : ∀ k, k ≠ 0 → I11 83 k = I 83 k := fun k hk => (congrFun (congrFun e11 83) k).trans ((upd2_ne (.inr hk)).trans ((congrFun (hX.2.1 83 (by omega)).2.1 k).trans (h3k k hk)))
          have hg := (hg.gx hX (by omega)).skip e11 (by decide)
          have hday : I11 83 1 = I 83 1 := (congrFun (congrFun e11 83) 1).trans ((upd2_ne (.inr (by decide))).trans ((congrFun (hX.2.1 83 (by omega)).2.1 1).trans hday))
          have hRb : ∀ a, a < n → R a = R a := fun a ha => (hX.2.1 a (by omega)).2.2.trans (hRb a ha)
          have hb83 : ∀ a, a ≠ 83 → a < n → I11 a = I a := fun a ha hb => (upI e11 a ha).trans ((hX.2.1 a (by omega)).2.1.trans (hb83 a ha hb))
          have hS0 := hS
          have hR0 := hR1
          have hn := Nat.le_refl n
          have h94 := hS0.1
          have hX := @yX.rf n tg I11 R
          have hS := hS0.x hX
          have hR := hR0.x hn hX
          have hz := hX.sz h94
          have hxn := hX.1
          have hN := hR0.1
          have hnb := hR0.2.2.2.2.2.2
          have hthB := hth
          refine y_aload_n rfl rfl ?_
          refine y_getIv (v := Int32.ofInt (2)) rfl (ySh.t hS rfl) (ySh.n hS rfl) rfl rfl hth ?_
          refine y_if_leF rfl (by decide) ?_
          refine y_iconst rfl ?_
          refine y_goto rfl j_X14_refuse_28 ?_
          refine y_ireturn rfl rfl rfl ?_
          refine y_ret1 ?_
          refine y_if_eqF rfl (by decide) ?_
          refine y_iconst rfl ?_
          refine y_ireturn rfl rfl rfl ?_
          exact hQ2 (by first | omega | (simp only [show ySeat x2 = x2 from if_neg (by omega), show ySeat x3 = x3 from if_neg (by omega)]; omega) | (simp only [show ySeat x2 = x2 from if_neg (by omega), show ySeat x3 = Int32.ofInt 8 from if_pos (by omega), show (Int32.ofInt 8).toInt.toNat = 8 from by decide]; omega) | (simp only [show ySeat x2 = Int32.ofInt 8 from if_pos (by omega), show ySeat x3 = x3 from if_neg (by omega), show (Int32.ofInt 8).toInt.toNat = 8 from by decide]; omega) | (simp only [show ySeat x2 = Int32.ofInt 8 from if_pos (by omega), show ySeat x3 = Int32.ofInt 8 from if_pos (by omega), show (Int32.ofInt 8).toInt.toNat = 8 from by decide]; omega)) _ _ _ _ _ _ _ hS ((hR0.grow hX).up (Nat.le_succ K) hk6) (hK.x hRo hno hX) hth ((hB.trans hX).rf2 (by omega)) (by omega) (by omega)
        · refine y_iload rfl rfl ?_
          refine y_iconst rfl ?_
          refine y_sip rfl (by decide) ?_
          refine y_static rfl rfl rfl rfl rfl ?_
          refine r_isIn (fun h_12 h_13 => ?_) (fun h_14 => ?_)
          · rw [yz_1] at h_12
            rw [yz_999] at h_13
            refine y_ret1 ?_
            refine y_if_neT rfl j_X14_buyOut_59 (by decide) ?_
            refine y_iconst rfl ?_
            refine y_iconst rfl ?_
            refine y_virt rfl rfl rfl rfl rfl (ySh.t hS rfl) (ySh.n hS rfl) ?_
            refine y_in (M := xm_X14_refuse) (ls := [some _, some _, some _]) rfl rfl rfl ?_
            refine y_iload_n rfl rfl ?_
            refine y_if_eqT rfl j_X14_refuse_16 (by decide) ?_
            refine y_aload_n rfl rfl ?_
            refine y_getIv (v := Int32.ofInt (0)) rfl (ySh.t hS rfl) (ySh.n hS rfl) rfl rfl hth ?_
            refine y_if_leT rfl j_X14_refuse_27 (by decide) ?_
            refine y_iconst rfl ?_
            refine y_ireturn rfl rfl rfl ?_
            refine y_ret1 ?_
            refine y_if_eqT rfl j_X14_buyOut_69 (by decide) ?_
            refine y_aload_n rfl rfl ?_
            refine y_getR rfl (ySh.t hS rfl) (ySh.n hS rfl) rfl rfl (ySh.r hS rfl) ?_
            refine y_iload_n rfl rfl ?_
            refine y_virt rfl rfl rfl rfl rfl (ySh.t hS rfl) (ySh.n hS rfl) ?_
            refine l_get (nb := n) (ySh.t hS rfl) (ySh.n hS rfl) (Nat.le_trans hn hX.1) hR.l91 (by omega) (by omega) (fun b15 eb_b15 hlo_b15 hb0_b15 ht_b15 => ?_)
            have hb_b15 := Nat.lt_of_lt_of_le hb0_b15 hn
            replace ht_b15 := (hX.2.1 _ hb_b15).1.symm.trans ht_b15
            refine y_ret1 ?_
            refine y_cast rfl ((hX.2.1 _ hb_b15).1.trans ht_b15) (Nat.lt_of_lt_of_le hb_b15 hX.1) ?_
            refine y_astore (ls' := [some _, some _, some _, some _, some _, some _, _, _]) rfl rfl rfl ?_
            refine y_iload_n rfl rfl ?_
            refine y_static rfl rfl rfl rfl rfl ?_
            refine y_in (M := xm_X14_seat) (ls := [some _]) rfl rfl rfl ?_
            refine y_iload_n rfl rfl ?_
            refine y_iconst rfl ?_
            refine y_icmp_ne rfl j_X14_seat_10 (fun h_16 => ?_) (fun h_17 => ?_)
            · rw [yz_m1] at h_16
              refine y_iload_n rfl rfl ?_
              refine y_ireturn rfl rfl rfl ?_
              refine y_ret1 ?_
              refine y_istore (ls' := [some _, some _, some _, some _, some _, some _, some _, _]) rfl rfl rfl ?_
              refine y_iload_n rfl rfl ?_
              refine y_static rfl rfl rfl rfl rfl ?_
              refine y_in (M := xm_X14_seat) (ls := [some _]) rfl rfl rfl ?_
              refine y_iload_n rfl rfl ?_
              refine y_iconst rfl ?_
              refine y_icmp_ne rfl j_X14_seat_10 (fun h_18 => ?_) (fun h_19 => ?_)
              · rw [yz_m1] at h_18
                refine y_iload_n rfl rfl ?_
                refine y_ireturn rfl rfl rfl ?_
                refine y_ret1 ?_
                refine y_istore (ls' := [some _, some _, some _, some _, some _, some _, some _, some _]) rfl rfl rfl ?_
                refine y_aload_n rfl rfl ?_
                refine y_aload rfl rfl ?_
                obtain ⟨hR_v20, hb_v20, ht_v20⟩ := hR0.ven hlo_b15 hb0_b15 ht_b15 (j := 0) (by decide)
                have hb0_v20 := hb_v20
                have hb_v20 := Nat.lt_of_lt_of_le hb_v20 hn
                have hlo_v20 : 94 ≤ b15 + 1 + 0 := by omega
                have hR2_v20 := (congrFun (hX.2.1 b15 hb_b15).2.2 0).trans hR_v20
                refine y_getR rfl ((hX.2.1 _ hb_b15).1.trans ht_b15) (Nat.lt_of_lt_of_le hb_b15 hX.1) rfl rfl hR2_v20 ?_
                refine y_iload rfl rfl ?_
                refine y_baloadv (J := I (b15 + 1 + 0)) rfl ((hX.2.1 _ hb_v20).1.trans ht_v20) rfl (Nat.lt_of_lt_of_le hb_v20 hX.1) (by omega) (by omega) (((hB.trans hX).n (by omega)).trans (by repeat (first | rfl | (rw [upd2_row (by first | decide | omega)]) | refine upd2_cg ?_))) ?_
                refine y_if_eq rfl j_X14_buyOut_142 (fun h_21 => ?_) (fun h_22 => ?_)
                · refine y_iconst rfl ?_
                  refine y_goto rfl j_X14_buyOut_147 ?_
                  refine y_iconst rfl ?_
                  refine y_virt rfl rfl rfl rfl rfl (ySh.t hS rfl) (ySh.n hS rfl) ?_
                  refine y_in (M := xm_X14_refuse) (ls := [some _, some _, some _]) rfl rfl rfl ?_
                  refine y_iload_n rfl rfl ?_
                  refine y_if_eqF rfl (by decide) ?_
                  refine y_aload_n rfl rfl ?_
                  refine y_getIv (v := Int32.ofInt (0)) rfl (ySh.t hS rfl) (ySh.n hS rfl) rfl rfl hth ?_
                  refine y_if_neF rfl (by decide) ?_
                  refine y_aload_n rfl rfl ?_
                  refine y_iload_n rfl rfl ?_
                  refine y_putI rfl (ySh.t hS rfl) (ySh.n hS rfl) rfl (Nat.le_of_ble_eq_true rfl) rfl rfl ?_
                  refine y_nameI (fun I23 e23 => ?_)
                  have hR1 := (hR0.grow hX).mod0 e23 (by decide) (by decide)
                  have hK := (hK.x hRo hno hX).upI (upI e23) (by decide) (by decide) (fun i hi => by have := (hRo.l87.2.2.2.2 i hi).2.1; omega) (by rw [e23, upd2_ne (.inr (by decide))]; exact Int.le_refl _)
                  have hth : I23 83 0 = Int32.ofInt (3) := by rw [e23, upd2_self]
                  have hzz : ySz8 I8 I23 := ySz8_of (upI e23) (by rw [e23]; exact ⟨upd2_ne (.inr (by decide)), upd2_ne (.inr (by decide))⟩)
                  have hB := (hB.trans hX).wr e23 rfl
                  have h8 : ∀ a, 84 ≤ a → a ≤ 86 → I23 a = I a := fun a h1 h2 => (upI e23 a (by omega)).trans ((hX.2.1 a (by omega)).2.1.trans (h8 a h1 h2))
                  have h3k : ∀ k, k ≠ 0 → I23 83 k = I 83 k := fun k hk => (congrFun (congrFun e23 83) k).trans ((upd2_ne (.inr hk)).trans ((congrFun (hX.2.1 83 (by omega)).2.1 k).trans (h3k k hk)))
                  have hg := (hg.gx hX (by omega)).skip e23 (by decide)
                  have hday : I23 83 1 = I 83 1 := (congrFun (congrFun e23 83) 1).trans ((upd2_ne (.inr (by decide))).trans ((congrFun (hX.2.1 83 (by omega)).2.1 1).trans hday))
                  have hRb : ∀ a, a < n → R a = R a := fun a ha => (hX.2.1 a (by omega)).2.2.trans (hRb a ha)
                  have hb83 : ∀ a, a ≠ 83 → a < n → I23 a = I a := fun a ha hb => (upI e23 a ha).trans ((hX.2.1 a (by omega)).2.1.trans (hb83 a ha hb))
                  have hS0 := hS
                  have hR0 := hR1
                  have ht_b15 := (hX.2.1 _ hb_b15).1.trans ht_b15
                  have hb_b15 := Nat.lt_of_lt_of_le hb_b15 hX.1
                  have hb0_b15 := hb_b15
                  have ht_v20 := (hX.2.1 _ hb_v20).1.trans ht_v20
                  have hb_v20 := Nat.lt_of_lt_of_le hb_v20 hX.1
                  have hb0_v20 := hb_v20
                  have hn := Nat.le_refl n
                  have h94 := hS0.1
                  have hX := @yX.rf n tg I23 R
                  have hS := hS0.x hX
                  have hR := hR0.x hn hX
                  have hz := hX.sz h94
                  have hxn := hX.1
                  have hN := hR0.1
                  have hnb := hR0.2.2.2.2.2.2
                  have hthB := hth
                  refine y_aload_n rfl rfl ?_
                  refine y_getIv (v := Int32.ofInt (3)) rfl (ySh.t hS rfl) (ySh.n hS rfl) rfl rfl hth ?_
                  refine y_if_leF rfl (by decide) ?_
                  refine y_iconst rfl ?_
                  refine y_goto rfl j_X14_refuse_28 ?_
                  refine y_ireturn rfl rfl rfl ?_
                  refine y_ret1 ?_
                  refine y_if_eqF rfl (by decide) ?_
                  refine y_iconst rfl ?_
                  refine y_ireturn rfl rfl rfl ?_
                  exact hQ3 _ eb_b15 (by first | omega | (simp only [show ySeat x2 = x2 from if_neg (by omega), show ySeat x3 = x3 from if_neg (by omega)]; omega) | (simp only [show ySeat x2 = x2 from if_neg (by omega), show ySeat x3 = Int32.ofInt 8 from if_pos (by omega), show (Int32.ofInt 8).toInt.toNat = 8 from by decide]; omega) | (simp only [show ySeat x2 = Int32.ofInt 8 from if_pos (by omega), show ySeat x3 = x3 from if_neg (by omega), show (Int32.ofInt 8).toInt.toNat = 8 from by decide]; omega) | (simp only [show ySeat x2 = Int32.ofInt 8 from if_pos (by omega), show ySeat x3 = Int32.ofInt 8 from if_pos (by omega), show (Int32.ofInt 8).toInt.toNat = 8 from by decide]; omega)) _ _ _ _ _ _ _ hS ((hR0.grow hX).up (Nat.le_succ K) hk6) (hK.x hRo hno hX) hth ((hB.trans hX).rf2 (by omega)) (by omega) (by omega)
                · refine y_aload rfl rfl ?_
                  obtain ⟨hR_v24, hb_v24, ht_v24⟩ := hR0.ven hlo_b15 hb0_b15 ht_b15 (j := 0) (by decide)
                  have hb0_v24 := hb_v24
                  have hb_v24 := Nat.lt_of_lt_of_le hb_v24 hn
                  have hlo_v24 : 94 ≤ b15 + 1 + 0 := by omega
                  have hR2_v24 := (congrFun (hX.2.1 b15 hb_b15).2.2 0).trans hR_v24
                  refine y_getR rfl ((hX.2.1 _ hb_b15).1.trans ht_b15) (Nat.lt_of_lt_of_le hb_b15 hX.1) rfl rfl hR2_v24 ?_
                  refine y_iload rfl rfl ?_
                  refine y_baloadv (J := I (b15 + 1 + 0)) rfl ((hX.2.1 _ hb_v24).1.trans ht_v24) rfl (Nat.lt_of_lt_of_le hb_v24 hX.1) (by omega) (by omega) (((hB.trans hX).n (by omega)).trans (by repeat (first | rfl | (rw [upd2_row (by first | decide | omega)]) | refine upd2_cg ?_))) ?_
                  refine y_if_eq rfl j_X14_buyOut_142 (fun h_25 => ?_) (fun h_26 => ?_)
                  · refine y_iconst rfl ?_
                    refine y_goto rfl j_X14_buyOut_147 ?_
                    refine y_iconst rfl ?_
                    refine y_virt rfl rfl rfl rfl rfl (ySh.t hS rfl) (ySh.n hS rfl) ?_
                    refine y_in (M := xm_X14_refuse) (ls := [some _, some _, some _]) rfl rfl rfl ?_
                    refine y_iload_n rfl rfl ?_
                    refine y_if_eqF rfl (by decide) ?_
                    refine y_aload_n rfl rfl ?_
                    refine y_getIv (v := Int32.ofInt (0)) rfl (ySh.t hS rfl) (ySh.n hS rfl) rfl rfl hth ?_
                    refine y_if_neF rfl (by decide) ?_
                    refine y_aload_n rfl rfl ?_
                    refine y_iload_n rfl rfl ?_
                    refine y_putI rfl (ySh.t hS rfl) (ySh.n hS rfl) rfl (Nat.le_of_ble_eq_true rfl) rfl rfl ?_
                    refine y_nameI (fun I27 e27 => ?_)
                    have hR1 := (hR0.grow hX).mod0 e27 (by decide) (by decide)
                    have hK := (hK.x hRo hno hX).upI (upI e27) (by decide) (by decide) (fun i hi => by have := (hRo.l87.2.2.2.2 i hi).2.1; omega) (by rw [e27, upd2_ne (.inr (by decide))]; exact Int.le_refl _)
                    have hth : I27 83 0 = Int32.ofInt (3) := by rw [e27, upd2_self]
                    have hzz : ySz8 I8 I27 := ySz8_of (upI e27) (by rw [e27]; exact ⟨upd2_ne (.inr (by decide)), upd2_ne (.inr (by decide))⟩)
                    have hB := (hB.trans hX).wr e27 rfl
                    have h8 : ∀ a, 84 ≤ a → a ≤ 86 → I27 a = I a := fun a h1 h2 => (upI e27 a (by omega)).trans ((hX.2.1 a (by omega)).2.1.trans (h8 a h1 h2))
                    have h3k : ∀ k, k ≠ 0 → I27 83 k = I 83 k := fun k hk => (congrFun (congrFun e27 83) k).trans ((upd2_ne (.inr hk)).trans ((congrFun (hX.2.1 83 (by omega)).2.1 k).trans (h3k k hk)))
                    have hg := (hg.gx hX (by omega)).skip e27 (by decide)
                    have hday : I27 83 1 = I 83 1 := (congrFun (congrFun e27 83) 1).trans ((upd2_ne (.inr (by decide))).trans ((congrFun (hX.2.1 83 (by omega)).2.1 1).trans hday))
                    have hRb : ∀ a, a < n → R a = R a := fun a ha => (hX.2.1 a (by omega)).2.2.trans (hRb a ha)
                    have hb83 : ∀ a, a ≠ 83 → a < n → I27 a = I a := fun a ha hb => (upI e27 a ha).trans ((hX.2.1 a (by omega)).2.1.trans (hb83 a ha hb))
                    have hS0 := hS
                    have hR0 := hR1
                    have ht_b15 := (hX.2.1 _ hb_b15).1.trans ht_b15
                    have hb_b15 := Nat.lt_of_lt_of_le hb_b15 hX.1
                    have hb0_b15 := hb_b15
                    have ht_v20 := (hX.2.1 _ hb_v20).1.trans ht_v20
                    have hb_v20 := Nat.lt_of_lt_of_le hb_v20 hX.1
                    have hb0_v20 := hb_v20
                    have ht_v24 := (hX.2.1 _ hb_v24).1.trans ht_v24
                    have hb_v24 := Nat.lt_of_lt_of_le hb_v24 hX.1
                    have hb0_v24 := hb_v24
                    have hn := Nat.le_refl n
                    have h94 := hS0.1
                    have hX := @yX.rf n tg I27 R
                    have hS := hS0.x hX
                    have hR := hR0.x hn hX
                    have hz := hX.sz h94
                    have hxn := hX.1
                    have hN := hR0.1
                    have hnb := hR0.2.2.2.2.2.2
                    have hthB := hth
                    refine y_aload_n rfl rfl ?_
                    refine y_getIv (v := Int32.ofInt (3)) rfl (ySh.t hS rfl) (ySh.n hS rfl) rfl rfl hth ?_
                    refine y_if_leF rfl (by decide) ?_
                    refine y_iconst rfl ?_
                    refine y_goto rfl j_X14_refuse_28 ?_
                    refine y_ireturn rfl rfl rfl ?_
                    refine y_ret1 ?_
                    refine y_if_eqF rfl (by decide) ?_
                    refine y_iconst rfl ?_
                    refine y_ireturn rfl rfl rfl ?_
                    exact hQ3 _ eb_b15 (by first | omega | (simp only [show ySeat x2 = x2 from if_neg (by omega), show ySeat x3 = x3 from if_neg (by omega)]; omega) | (simp only [show ySeat x2 = x2 from if_neg (by omega), show ySeat x3 = Int32.ofInt 8 from if_pos (by omega), show (Int32.ofInt 8).toInt.toNat = 8 from by decide]; omega) | (simp only [show ySeat x2 = Int32.ofInt 8 from if_pos (by omega), show ySeat x3 = x3 from if_neg (by omega), show (Int32.ofInt 8).toInt.toNat = 8 from by decide]; omega) | (simp only [show ySeat x2 = Int32.ofInt 8 from if_pos (by omega), show ySeat x3 = Int32.ofInt 8 from if_pos (by omega), show (Int32.ofInt 8).toInt.toNat = 8 from by decide]; omega)) _ _ _ _ _ _ _ hS ((hR0.grow hX).up (Nat.le_succ K) hk6) (hK.x hRo hno hX) hth ((hB.trans hX).rf2 (by omega)) (by omega) (by omega)
                  · refine y_aload rfl rfl ?_
                    obtain ⟨hR_v28, hb_v28, ht_v28⟩ := hR0.ven hlo_b15 hb0_b15 ht_b15 (j := 1) (by decide)
                    have hb0_v28 := hb_v28
                    have hb_v28 := Nat.lt_of_lt_of_le hb_v28 hn
                    have hlo_v28 : 94 ≤ b15 + 1 + 1 := by omega
                    have hR2_v28 := (congrFun (hX.2.1 b15 hb_b15).2.2 1).trans hR_v28
                    refine y_getR rfl ((hX.2.1 _ hb_b15).1.trans ht_b15) (Nat.lt_of_lt_of_le hb_b15 hX.1) rfl rfl hR2_v28 ?_
                    refine y_iload rfl rfl ?_
                    refine y_ialoadv (J := I (b15 + 1 + 1)) rfl ((hX.2.1 _ hb_v28).1.trans ht_v28) (Nat.lt_of_lt_of_le hb_v28 hX.1) (by omega) (by omega) (((hB.trans hX).n (by omega)).trans (by repeat (first | rfl | (rw [upd2_row (by first | decide | omega)]) | refine upd2_cg ?_))) ?_
                    refine y_iload rfl rfl ?_
                    refine y_icmp_lt rfl j_X14_buyOut_142 (fun h_29 => ?_) (fun h_30 => ?_)
                    · refine y_iconst rfl ?_
                      refine y_goto rfl j_X14_buyOut_147 ?_
                      refine y_iconst rfl ?_
                      refine y_virt rfl rfl rfl rfl rfl (ySh.t hS rfl) (ySh.n hS rfl) ?_
                      refine y_in (M := xm_X14_refuse) (ls := [some _, some _, some _]) rfl rfl rfl ?_
                      refine y_iload_n rfl rfl ?_
                      refine y_if_eqF rfl (by decide) ?_
                      refine y_aload_n rfl rfl ?_
                      refine y_getIv (v := Int32.ofInt (0)) rfl (ySh.t hS rfl) (ySh.n hS rfl) rfl rfl hth ?_
                      refine y_if_neF rfl (by decide) ?_
                      refine y_aload_n rfl rfl ?_
                      refine y_iload_n rfl rfl ?_
                      refine y_putI rfl (ySh.t hS rfl) (ySh.n hS rfl) rfl (Nat.le_of_ble_eq_true rfl) rfl rfl ?_
                      refine y_nameI (fun I31 e31 => ?_)
                      have hR1 := (hR0.grow hX).mod0 e31 (by decide) (by decide)
                      have hK := (hK.x hRo hno hX).upI (upI e31) (by decide) (by decide) (fun i hi => by have := (hRo.l87.2.2.2.2 i hi).2.1; omega) (by rw [e31, upd2_ne (.inr (by decide))]; exact Int.le_refl _)
                      have hth : I31 83 0 = Int32.ofInt (3) := by rw [e31, upd2_self]
                      have hzz : ySz8 I8 I31 := ySz8_of (upI e31) (by rw [e31]; exact ⟨upd2_ne (.inr (by decide)), upd2_ne (.inr (by decide))⟩)
                      have hB := (hB.trans hX).wr e31 rfl
                      have h8 : ∀ a, 84 ≤ a → a ≤ 86 → I31 a = I a := fun a h1 h2 => (upI e31 a (by omega)).trans ((hX.2.1 a (by omega)).2.1.trans (h8 a h1 h2))
                      have h3k : ∀ k, k ≠ 0 → I31 83 k = I 83 k := fun k hk => (congrFun (congrFun e31 83) k).trans ((upd2_ne (.inr hk)).trans ((congrFun (hX.2.1 83 (by omega)).2.1 k).trans (h3k k hk)))
                      have hg := (hg.gx hX (by omega)).skip e31 (by decide)
                      have hday : I31 83 1 = I 83 1 := (congrFun (congrFun e31 83) 1).trans ((upd2_ne (.inr (by decide))).trans ((congrFun (hX.2.1 83 (by omega)).2.1 1).trans hday))
                      have hRb : ∀ a, a < n → R a = R a := fun a ha => (hX.2.1 a (by omega)).2.2.trans (hRb a ha)
                      have hb83 : ∀ a, a ≠ 83 → a < n → I31 a = I a := fun a ha hb => (upI e31 a ha).trans ((hX.2.1 a (by omega)).2.1.trans (hb83 a ha hb))
                      have hS0 := hS
                      have hR0 := hR1
                      have ht_b15 := (hX.2.1 _ hb_b15).1.trans ht_b15
                      have hb_b15 := Nat.lt_of_lt_of_le hb_b15 hX.1
                      have hb0_b15 := hb_b15
                      have ht_v20 := (hX.2.1 _ hb_v20).1.trans ht_v20
                      have hb_v20 := Nat.lt_of_lt_of_le hb_v20 hX.1
                      have hb0_v20 := hb_v20
                      have ht_v24 := (hX.2.1 _ hb_v24).1.trans ht_v24
                      have hb_v24 := Nat.lt_of_lt_of_le hb_v24 hX.1
                      have hb0_v24 := hb_v24
                      have ht_v28 := (hX.2.1 _ hb_v28).1.trans ht_v28
                      have hb_v28 := Nat.lt_of_lt_of_le hb_v28 hX.1
                      have hb0_v28 := hb_v28
                      have hn := Nat.le_refl n
                      have h94 := hS0.1
                      have hX := @yX.rf n tg I31 R
                      have hS := hS0.x hX
                      have hR := hR0.x hn hX
                      have hz := hX.sz h94
                      have hxn := hX.1
                      have hN := hR0.1
                      have hnb := hR0.2.2.2.2.2.2
                      have hthB := hth
                      refine y_aload_n rfl rfl ?_
                      refine y_getIv (v := Int32.ofInt (3)) rfl (ySh.t hS rfl) (ySh.n hS rfl) rfl rfl hth ?_
                      refine y_if_leF rfl (by decide) ?_
                      refine y_iconst rfl ?_
                      refine y_goto rfl j_X14_refuse_28 ?_
                      refine y_ireturn rfl rfl rfl ?_
                      refine y_ret1 ?_
                      refine y_if_eqF rfl (by decide) ?_
                      refine y_iconst rfl ?_
                      refine y_ireturn rfl rfl rfl ?_
                      exact hQ3 _ eb_b15 (by first | omega | (simp only [show ySeat x2 = x2 from if_neg (by omega), show ySeat x3 = x3 from if_neg (by omega)]; omega) | (simp only [show ySeat x2 = x2 from if_neg (by omega), show ySeat x3 = Int32.ofInt 8 from if_pos (by omega), show (Int32.ofInt 8).toInt.toNat = 8 from by decide]; omega) | (simp only [show ySeat x2 = Int32.ofInt 8 from if_pos (by omega), show ySeat x3 = x3 from if_neg (by omega), show (Int32.ofInt 8).toInt.toNat = 8 from by decide]; omega) | (simp only [show ySeat x2 = Int32.ofInt 8 from if_pos (by omega), show ySeat x3 = Int32.ofInt 8 from if_pos (by omega), show (Int32.ofInt 8).toInt.toNat = 8 from by decide]; omega)) _ _ _ _ _ _ _ hS ((hR0.grow hX).up (Nat.le_succ K) hk6) (hK.x hRo hno hX) hth ((hB.trans hX).rf2 (by omega)) (by omega) (by omega)
                    · refine y_aload_n rfl rfl ?_
                      refine y_getR rfl (ySh.t hS rfl) (ySh.n hS rfl) rfl rfl (ySh.r hS rfl) ?_
                      refine y_iload rfl rfl ?_
                      refine y_ialoadv (J := I 84) rfl (ySh.t hS rfl) (ySh.n hS rfl) (by omega) (by omega) (((hB.trans hX).n (by omega)).trans (by repeat (first | rfl | (rw [upd2_row (by first | decide | omega)]) | refine upd2_cg ?_))) ?_
                      refine y_iload rfl rfl ?_
                      refine y_icmp_ge rfl j_X14_buyOut_146 (fun h_32 => ?_) (fun h_33 => ?_)
                      · refine y_iconst rfl ?_
                        refine y_iconst rfl ?_
                        refine y_virt rfl rfl rfl rfl rfl (ySh.t hS rfl) (ySh.n hS rfl) ?_
                        refine y_in (M := xm_X14_refuse) (ls := [some _, some _, some _]) rfl rfl rfl ?_
                        refine y_iload_n rfl rfl ?_
                        refine y_if_eqT rfl j_X14_refuse_16 (by decide) ?_
                        refine y_aload_n rfl rfl ?_
                        refine y_getIv (v := Int32.ofInt (0)) rfl (ySh.t hS rfl) (ySh.n hS rfl) rfl rfl hth ?_
                        refine y_if_leT rfl j_X14_refuse_27 (by decide) ?_
                        refine y_iconst rfl ?_
                        refine y_ireturn rfl rfl rfl ?_
                        refine y_ret1 ?_
                        refine y_if_eqT rfl j_X14_buyOut_156 (by decide) ?_
                        refine y_aload rfl rfl ?_
                        obtain ⟨hR_v34, hb_v34, ht_v34⟩ := hR0.ven hlo_b15 hb0_b15 ht_b15 (j := 1) (by decide)
                        have hb0_v34 := hb_v34
                        have hb_v34 := Nat.lt_of_lt_of_le hb_v34 hn
                        have hlo_v34 : 94 ≤ b15 + 1 + 1 := by omega
                        have hR2_v34 := (congrFun (hX.2.1 b15 hb_b15).2.2 1).trans hR_v34
                        refine y_getR rfl ((hX.2.1 _ hb_b15).1.trans ht_b15) (Nat.lt_of_lt_of_le hb_b15 hX.1) rfl rfl hR2_v34 ?_
                        refine y_iload rfl rfl ?_
                        refine y_dup2 rfl rfl rfl ?_
                        refine y_ialoadv (J := I (b15 + 1 + 1)) rfl ((hX.2.1 _ hb_v34).1.trans ht_v34) (Nat.lt_of_lt_of_le hb_v34 hX.1) (by omega) (by omega) (((hB.trans hX).n (by omega)).trans (by repeat (first | rfl | (rw [upd2_row (by first | decide | omega)]) | refine upd2_cg ?_))) ?_
                        refine y_iload rfl rfl ?_
                        refine y_isub rfl ?_
                        refine y_iastore rfl ((hX.2.1 _ hb_v34).1.trans ht_v34) (Nat.lt_of_lt_of_le hb_v34 hX.1) (Nat.le_trans (by decide) (by omega : 94 ≤ _)) (by omega) (by omega) ?_
                        refine y_nameI (fun I35 e35 => ?_)
                        have hB1 := (hR0.grow hX).capB1x hlo_b15 (by omega) ((hX.2.1 _ hb_b15).1.trans ht_b15) (by omega) e35 (by rw [show I8 (b15 + 1 + 1) = I (b15 + 1 + 1) from ((hB.trans hX).n (by omega)).trans (by repeat (first | rfl | (rw [upd2_row (by first | decide | omega)]) | refine upd2_cg ?_))]) ⟨by omega, by rw [show I8 (b15 + 1 + 1) = I (b15 + 1 + 1) from ((hB.trans hX).n (by omega)).trans (by repeat (first | rfl | (rw [upd2_row (by first | decide | omega)]) | refine upd2_cg ?_))]; omega⟩
                        have hR1 := hB1.1
                        have hK := (hK.x hRo hno hX).upE hRo hno (upI e35) (by omega) (by omega) (by rw [((hX.2.1 _ hb_v34).1.trans ht_v34)]; decide) (by rw [e35, upd2_ne (.inl (by omega))]; exact Int.le_refl _)
                        have hth := (show I35 83 0 = I8 83 0 by rw [e35, upd2_ne (.inl (by omega))]).trans hth
                        have hzz : ySz I8 I35 := ySz_ofE (upI e35) (by omega)
                        have hB := (hB.trans hX).wr e35 rfl
                        have h8 : ∀ a, 84 ≤ a → a ≤ 86 → I35 a = I a := fun a h1 h2 => (upI e35 a (by omega)).trans ((hX.2.1 a (by omega)).2.1.trans (h8 a h1 h2))
                        have h3k : ∀ k, k ≠ 0 → I35 83 k = I 83 k := fun k hk => (congrFun (congrFun e35 83) k).trans ((upd2_ne (.inl (by omega))).trans ((congrFun (hX.2.1 83 (by omega)).2.1 k).trans (h3k k hk)))
                        have hg := (hg.gx hX (by omega)).both e35
                        have hday : I35 83 1 = I 83 1 := (congrFun (congrFun e35 83) 1).trans ((upd2_ne (.inl (by omega))).trans ((congrFun (hX.2.1 83 (by omega)).2.1 1).trans hday))
                        have hRb : ∀ a, a < n → R a = R a := fun a ha => (hX.2.1 a (by omega)).2.2.trans (hRb a ha)
                        have hS0 := hS
                        have hR0 := hR1
                        have ht_b15 := (hX.2.1 _ hb_b15).1.trans ht_b15
                        have hb_b15 := Nat.lt_of_lt_of_le hb_b15 hX.1
                        have hb0_b15 := hb_b15
                        have ht_v20 := (hX.2.1 _ hb_v20).1.trans ht_v20
                        have hb_v20 := Nat.lt_of_lt_of_le hb_v20 hX.1
                        have hb0_v20 := hb_v20
                        have ht_v24 := (hX.2.1 _ hb_v24).1.trans ht_v24
                        have hb_v24 := Nat.lt_of_lt_of_le hb_v24 hX.1
                        have hb0_v24 := hb_v24
                        have ht_v28 := (hX.2.1 _ hb_v28).1.trans ht_v28
                        have hb_v28 := Nat.lt_of_lt_of_le hb_v28 hX.1
                        have hb0_v28 := hb_v28
                        have ht_v34 := (hX.2.1 _ hb_v34).1.trans ht_v34
                        have hb_v34 := Nat.lt_of_lt_of_le hb_v34 hX.1
                        have hb0_v34 := hb_v34
                        have hn := Nat.le_refl n
                        have h94 := hS0.1
                        have hX := @yX.rf n tg I35 R
                        have hS := hS0.x hX
                        have hR := hR0.x hn hX
                        have hz := hX.sz h94
                        have hxn := hX.1
                        have hN := hR0.1
                        have hnb := hR0.2.2.2.2.2.2
                        have hthB := hth
                        refine y_aload rfl rfl ?_
                        obtain ⟨hR_v36, hb_v36, ht_v36⟩ := hR0.ven hlo_b15 hb0_b15 ht_b15 (j := 1) (by decide)
                        have hb0_v36 := hb_v36
                        have hb_v36 := Nat.lt_of_lt_of_le hb_v36 hn
                        have hlo_v36 : 94 ≤ b15 + 1 + 1 := by omega
                        have hR2_v36 := (congrFun (hX.2.1 b15 hb_b15).2.2 1).trans hR_v36
                        refine y_getR rfl ((hX.2.1 _ hb_b15).1.trans ht_b15) (Nat.lt_of_lt_of_le hb_b15 hX.1) rfl rfl hR2_v36 ?_
                        refine y_iload rfl rfl ?_
                        refine y_dup2 rfl rfl rfl ?_
                        refine y_ialoadv (J := _) rfl ((hX.2.1 _ hb_v36).1.trans ht_v36) (Nat.lt_of_lt_of_le hb_v36 hX.1) (by omega) (by omega) ((hB.trans hX).n (by omega)) ?_
                        refine y_iload rfl rfl ?_
                        refine y_iadd rfl ?_
                        refine y_iastore rfl ((hX.2.1 _ hb_v36).1.trans ht_v36) (Nat.lt_of_lt_of_le hb_v36 hX.1) (Nat.le_trans (by decide) (by omega : 94 ≤ _)) (by omega) (by omega) ?_
                        refine y_nameI (fun I37 e37 => ?_)
                        have hR1 := (hR0.grow hX).capB2x hlo_b15 (by omega) ((hX.2.1 _ hb_b15).1.trans ht_b15) (by omega) (by omega) hB1.2.1 e37 (by rw [show I35 (b15 + 1 + 1) = _ from ((hB.trans hX).n (by omega))])
                        have hK := (hK.x hRo hno hX).upE hRo hno (upI e37) (by omega) (by omega) (by rw [((hX.2.1 _ hb_v36).1.trans ht_v36)]; decide) (by rw [e37, upd2_ne (.inl (by omega))]; exact Int.le_refl _)
                        have hth := (show I37 83 0 = I35 83 0 by rw [e37, upd2_ne (.inl (by omega))]).trans hth
                        have hzz : ySz I35 I37 := ySz_ofE (upI e37) (by omega)
                        have hB := (hB.trans hX).wr e37 rfl
                        have h8 : ∀ a, 84 ≤ a → a ≤ 86 → I37 a = I a := fun a h1 h2 => (upI e37 a (by omega)).trans ((hX.2.1 a (by omega)).2.1.trans (h8 a h1 h2))
                        have h3k : ∀ k, k ≠ 0 → I37 83 k = I 83 k := fun k hk => (congrFun (congrFun e37 83) k).trans ((upd2_ne (.inl (by omega))).trans ((congrFun (hX.2.1 83 (by omega)).2.1 k).trans (h3k k hk)))
                        have hg := (hg.gx hX (by omega)).both e37
                        have hday : I37 83 1 = I 83 1 := (congrFun (congrFun e37 83) 1).trans ((upd2_ne (.inl (by omega))).trans ((congrFun (hX.2.1 83 (by omega)).2.1 1).trans hday))
                        have hRb : ∀ a, a < n → R a = R a := fun a ha => (hX.2.1 a (by omega)).2.2.trans (hRb a ha)
                        have hS0 := hS
                        have hR0 := hR1
                        have ht_b15 := (hX.2.1 _ hb_b15).1.trans ht_b15
                        have hb_b15 := Nat.lt_of_lt_of_le hb_b15 hX.1
                        have hb0_b15 := hb_b15
                        have ht_v20 := (hX.2.1 _ hb_v20).1.trans ht_v20
                        have hb_v20 := Nat.lt_of_lt_of_le hb_v20 hX.1
                        have hb0_v20 := hb_v20
                        have ht_v24 := (hX.2.1 _ hb_v24).1.trans ht_v24
                        have hb_v24 := Nat.lt_of_lt_of_le hb_v24 hX.1
                        have hb0_v24 := hb_v24
                        have ht_v28 := (hX.2.1 _ hb_v28).1.trans ht_v28
                        have hb_v28 := Nat.lt_of_lt_of_le hb_v28 hX.1
                        have hb0_v28 := hb_v28
                        have ht_v34 := (hX.2.1 _ hb_v34).1.trans ht_v34
                        have hb_v34 := Nat.lt_of_lt_of_le hb_v34 hX.1
                        have hb0_v34 := hb_v34
                        have ht_v36 := (hX.2.1 _ hb_v36).1.trans ht_v36
                        have hb_v36 := Nat.lt_of_lt_of_le hb_v36 hX.1
                        have hb0_v36 := hb_v36
                        have hn := Nat.le_refl n
                        have h94 := hS0.1
                        have hX := @yX.rf n tg I37 R
                        have hS := hS0.x hX
                        have hR := hR0.x hn hX
                        have hz := hX.sz h94
                        have hxn := hX.1
                        have hN := hR0.1
                        have hnb := hR0.2.2.2.2.2.2
                        have hthB := hth
                        refine y_aload_n rfl rfl ?_
                        refine y_getR rfl (ySh.t hS rfl) (ySh.n hS rfl) rfl rfl (ySh.r hS rfl) ?_
                        refine y_iload rfl rfl ?_
                        refine y_dup2 rfl rfl rfl ?_
                        refine y_ialoadv (J := I 84) rfl (ySh.t hS rfl) (ySh.n hS rfl) (by omega) (by omega) (((hB.trans hX).n (by omega)).trans (by repeat (first | rfl | (rw [upd2_row (by first | decide | omega)]) | refine upd2_cg ?_))) ?_
                        refine y_iload rfl rfl ?_
                        refine y_iadd rfl ?_
                        refine y_iastore rfl (ySh.t hS rfl) (ySh.n hS rfl) (Nat.le_of_ble_eq_true rfl) (by omega) (by omega) ?_
                        refine y_nameI (fun I38 e38 => ?_)
                        have hR1 := (hR0.grow hX).arr e38 (by decide)
                        have hK := (hK.x hRo hno hX).upI (upI e38) (by decide) (by decide) (fun i hi => by have := (hRo.l87.2.2.2.2 i hi).2.1; omega) (by rw [e38, upd2_ne (.inl (by omega))]; exact Int.le_refl _)
                        have hth := (show I38 83 0 = I37 83 0 by rw [e38, upd2_ne (.inl (by omega))]).trans hth
                        have hzz : ySz I37 I38 := ySz_ofE (upI e38) (by omega)
                        have hB := (hB.trans hX).wr e38 rfl
                        have h3k : ∀ k, k ≠ 0 → I38 83 k = I 83 k := fun k hk => (congrFun (congrFun e38 83) k).trans ((upd2_ne (.inl (by omega))).trans ((congrFun (hX.2.1 83 (by omega)).2.1 k).trans (h3k k hk)))
                        have hg := (hg.gx hX (by omega)).skip e38 (by decide)
                        have hday : I38 83 1 = I 83 1 := (congrFun (congrFun e38 83) 1).trans ((upd2_ne (.inl (by omega))).trans ((congrFun (hX.2.1 83 (by omega)).2.1 1).trans hday))
                        have hRb : ∀ a, a < n → R a = R a := fun a ha => (hX.2.1 a (by omega)).2.2.trans (hRb a ha)
                        have hS0 := hS
                        have hR0 := hR1
                        have ht_b15 := (hX.2.1 _ hb_b15).1.trans ht_b15
                        have hb_b15 := Nat.lt_of_lt_of_le hb_b15 hX.1
                        have hb0_b15 := hb_b15
                        have ht_v20 := (hX.2.1 _ hb_v20).1.trans ht_v20
                        have hb_v20 := Nat.lt_of_lt_of_le hb_v20 hX.1
                        have hb0_v20 := hb_v20
                        have ht_v24 := (hX.2.1 _ hb_v24).1.trans ht_v24
                        have hb_v24 := Nat.lt_of_lt_of_le hb_v24 hX.1
                        have hb0_v24 := hb_v24
                        have ht_v28 := (hX.2.1 _ hb_v28).1.trans ht_v28
                        have hb_v28 := Nat.lt_of_lt_of_le hb_v28 hX.1
                        have hb0_v28 := hb_v28
                        have ht_v34 := (hX.2.1 _ hb_v34).1.trans ht_v34
                        have hb_v34 := Nat.lt_of_lt_of_le hb_v34 hX.1
                        have hb0_v34 := hb_v34
                        have ht_v36 := (hX.2.1 _ hb_v36).1.trans ht_v36
                        have hb_v36 := Nat.lt_of_lt_of_le hb_v36 hX.1
                        have hb0_v36 := hb_v36
                        have hn := Nat.le_refl n
                        have h94 := hS0.1
                        have hX := @yX.rf n tg I38 R
                        have hS := hS0.x hX
                        have hR := hR0.x hn hX
                        have hz := hX.sz h94
                        have hxn := hX.1
                        have hN := hR0.1
                        have hnb := hR0.2.2.2.2.2.2
                        have hthB := hth
                        refine y_aload_n rfl rfl ?_
                        refine y_getR rfl (ySh.t hS rfl) (ySh.n hS rfl) rfl rfl (ySh.r hS rfl) ?_
                        refine y_iload rfl rfl ?_
                        refine y_dup2 rfl rfl rfl ?_
                        refine y_ialoadv (J := _) rfl (ySh.t hS rfl) (ySh.n hS rfl) (by omega) (by omega) ((hB.trans hX).n (by omega)) ?_
                        refine y_iload rfl rfl ?_
                        refine y_isub rfl ?_
                        refine y_iastore rfl (ySh.t hS rfl) (ySh.n hS rfl) (Nat.le_of_ble_eq_true rfl) (by omega) (by omega) ?_
                        refine y_nameI (fun I39 e39 => ?_)
                        have hR1 := (hR0.grow hX).arr e39 (by decide)
                        have hK := (hK.x hRo hno hX).upI (upI e39) (by decide) (by decide) (fun i hi => by have := (hRo.l87.2.2.2.2 i hi).2.1; omega) (by rw [e39, upd2_ne (.inl (by omega))]; exact Int.le_refl _)
                        have hth := (show I39 83 0 = I38 83 0 by rw [e39, upd2_ne (.inl (by omega))]).trans hth
                        have hzz : ySz I38 I39 := ySz_ofE (upI e39) (by omega)
                        have hB := (hB.trans hX).wr e39 rfl
                        have h3k : ∀ k, k ≠ 0 → I39 83 k = I 83 k := fun k hk => (congrFun (congrFun e39 83) k).trans ((upd2_ne (.inl (by omega))).trans ((congrFun (hX.2.1 83 (by omega)).2.1 k).trans (h3k k hk)))
                        have hg := (hg.gx hX (by omega)).skip e39 (by decide)
                        have hday : I39 83 1 = I 83 1 := (congrFun (congrFun e39 83) 1).trans ((upd2_ne (.inl (by omega))).trans ((congrFun (hX.2.1 83 (by omega)).2.1 1).trans hday))
                        have hRb : ∀ a, a < n → R a = R a := fun a ha => (hX.2.1 a (by omega)).2.2.trans (hRb a ha)
                        have hS0 := hS
                        have hR0 := hR1
                        have ht_b15 := (hX.2.1 _ hb_b15).1.trans ht_b15
                        have hb_b15 := Nat.lt_of_lt_of_le hb_b15 hX.1
                        have hb0_b15 := hb_b15
                        have ht_v20 := (hX.2.1 _ hb_v20).1.trans ht_v20
                        have hb_v20 := Nat.lt_of_lt_of_le hb_v20 hX.1
                        have hb0_v20 := hb_v20
                        have ht_v24 := (hX.2.1 _ hb_v24).1.trans ht_v24
                        have hb_v24 := Nat.lt_of_lt_of_le hb_v24 hX.1
                        have hb0_v24 := hb_v24
                        have ht_v28 := (hX.2.1 _ hb_v28).1.trans ht_v28
                        have hb_v28 := Nat.lt_of_lt_of_le hb_v28 hX.1
                        have hb0_v28 := hb_v28
                        have ht_v34 := (hX.2.1 _ hb_v34).1.trans ht_v34
                        have hb_v34 := Nat.lt_of_lt_of_le hb_v34 hX.1
                        have hb0_v34 := hb_v34
                        have ht_v36 := (hX.2.1 _ hb_v36).1.trans ht_v36
                        have hb_v36 := Nat.lt_of_lt_of_le hb_v36 hX.1
                        have hb0_v36 := hb_v36
                        have hn := Nat.le_refl n
                        have h94 := hS0.1
                        have hX := @yX.rf n tg I39 R
                        have hS := hS0.x hX
                        have hR := hR0.x hn hX
                        have hz := hX.sz h94
                        have hxn := hX.1
                        have hN := hR0.1
                        have hnb := hR0.2.2.2.2.2.2
                        have hthB := hth
                        refine y_aload rfl rfl ?_
                        obtain ⟨hR_v40, hb_v40, ht_v40⟩ := hR0.ven hlo_b15 hb0_b15 ht_b15 (j := 1) (by decide)
                        have hb0_v40 := hb_v40
                        have hb_v40 := Nat.lt_of_lt_of_le hb_v40 hn
                        have hlo_v40 : 94 ≤ b15 + 1 + 1 := by omega
                        have hR2_v40 := (congrFun (hX.2.1 b15 hb_b15).2.2 1).trans hR_v40
                        refine y_getR rfl ((hX.2.1 _ hb_b15).1.trans ht_b15) (Nat.lt_of_lt_of_le hb_b15 hX.1) rfl rfl hR2_v40 ?_
                        refine y_iload rfl rfl ?_
                        refine y_ialoadv (J := _) rfl ((hX.2.1 _ hb_v40).1.trans ht_v40) (Nat.lt_of_lt_of_le hb_v40 hX.1) (by omega) (by omega) ((hB.trans hX).n (by omega)) ?_
                        refine y_ireturn rfl rfl rfl ?_
                        exact hQ0 _ eb_b15 (by first | omega | (simp only [show ySeat x2 = x2 from if_neg (by omega), show ySeat x3 = x3 from if_neg (by omega)]; omega) | (simp only [show ySeat x2 = x2 from if_neg (by omega), show ySeat x3 = Int32.ofInt 8 from if_pos (by omega), show (Int32.ofInt 8).toInt.toNat = 8 from by decide]; omega) | (simp only [show ySeat x2 = Int32.ofInt 8 from if_pos (by omega), show ySeat x3 = x3 from if_neg (by omega), show (Int32.ofInt 8).toInt.toNat = 8 from by decide]; omega) | (simp only [show ySeat x2 = Int32.ofInt 8 from if_pos (by omega), show ySeat x3 = Int32.ofInt 8 from if_pos (by omega), show (Int32.ofInt 8).toInt.toNat = 8 from by decide]; omega)) _ _ _ _ _ _ _ hS ((hR0.grow hX).up (Nat.le_succ K) hk6) (hK.x hRo hno hX) hth (by first | exact (congrFun ((hB.trans hX).n (by omega)) _).symm | (simp only [show ySeat x2 = x2 from if_neg (by omega), show ySeat x3 = x3 from if_neg (by omega)]; exact (congrFun ((hB.trans hX).n (by omega)) _).symm) | (simp only [show ySeat x2 = x2 from if_neg (by omega), show ySeat x3 = Int32.ofInt 8 from if_pos (by omega), show (Int32.ofInt 8).toInt.toNat = 8 from by decide]; exact (congrFun ((hB.trans hX).n (by omega)) _).symm) | (simp only [show ySeat x2 = Int32.ofInt 8 from if_pos (by omega), show ySeat x3 = x3 from if_neg (by omega), show (Int32.ofInt 8).toInt.toNat = 8 from by decide]; exact (congrFun ((hB.trans hX).n (by omega)) _).symm) | (simp only [show ySeat x2 = Int32.ofInt 8 from if_pos (by omega), show ySeat x3 = Int32.ofInt 8 from if_pos (by omega), show (Int32.ofInt 8).toInt.toNat = 8 from by decide]; exact (congrFun ((hB.trans hX).n (by omega)) _).symm)) (by first | (exact hB.trans hX) | (simp only [show ySeat x2 = x2 from if_neg (by omega), show ySeat x3 = x3 from if_neg (by omega)]; exact hB.trans hX) | (simp only [show ySeat x2 = x2 from if_neg (by omega), show ySeat x3 = Int32.ofInt 8 from if_pos (by omega), show (Int32.ofInt 8).toInt.toNat = 8 from by decide]; exact hB.trans hX) | (simp only [show ySeat x2 = Int32.ofInt 8 from if_pos (by omega), show ySeat x3 = x3 from if_neg (by omega), show (Int32.ofInt 8).toInt.toNat = 8 from by decide]; exact hB.trans hX) | (simp only [show ySeat x2 = Int32.ofInt 8 from if_pos (by omega), show ySeat x3 = Int32.ofInt 8 from if_pos (by omega), show (Int32.ofInt 8).toInt.toNat = 8 from by decide]; exact hB.trans hX)) (by omega) (by omega)
                      · refine y_iconst rfl ?_
                        refine y_goto rfl j_X14_buyOut_147 ?_
                        refine y_iconst rfl ?_
                        refine y_virt rfl rfl rfl rfl rfl (ySh.t hS rfl) (ySh.n hS rfl) ?_
                        refine y_in (M := xm_X14_refuse) (ls := [some _, some _, some _]) rfl rfl rfl ?_
                        refine y_iload_n rfl rfl ?_
                        refine y_if_eqF rfl (by decide) ?_
                        refine y_aload_n rfl rfl ?_
                        refine y_getIv (v := Int32.ofInt (0)) rfl (ySh.t hS rfl) (ySh.n hS rfl) rfl rfl hth ?_
                        refine y_if_neF rfl (by decide) ?_
                        refine y_aload_n rfl rfl ?_
                        refine y_iload_n rfl rfl ?_
                        refine y_putI rfl (ySh.t hS rfl) (ySh.n hS rfl) rfl (Nat.le_of_ble_eq_true rfl) rfl rfl ?_
                        refine y_nameI (fun I41 e41 => ?_)
                        have hR1 := (hR0.grow hX).mod0 e41 (by decide) (by decide)
                        have hK := (hK.x hRo hno hX).upI (upI e41) (by decide) (by decide) (fun i hi => by have := (hRo.l87.2.2.2.2 i hi).2.1; omega) (by rw [e41, upd2_ne (.inr (by decide))]; exact Int.le_refl _)
                        have hth : I41 83 0 = Int32.ofInt (3) := by rw [e41, upd2_self]
                        have hzz : ySz8 I8 I41 := ySz8_of (upI e41) (by rw [e41]; exact ⟨upd2_ne (.inr (by decide)), upd2_ne (.inr (by decide))⟩)
                        have hB := (hB.trans hX).wr e41 rfl
                        have h8 : ∀ a, 84 ≤ a → a ≤ 86 → I41 a = I a := fun a h1 h2 => (upI e41 a (by omega)).trans ((hX.2.1 a (by omega)).2.1.trans (h8 a h1 h2))
                        have h3k : ∀ k, k ≠ 0 → I41 83 k = I 83 k := fun k hk => (congrFun (congrFun e41 83) k).trans ((upd2_ne (.inr hk)).trans ((congrFun (hX.2.1 83 (by omega)).2.1 k).trans (h3k k hk)))
                        have hg := (hg.gx hX (by omega)).skip e41 (by decide)
                        have hday : I41 83 1 = I 83 1 := (congrFun (congrFun e41 83) 1).trans ((upd2_ne (.inr (by decide))).trans ((congrFun (hX.2.1 83 (by omega)).2.1 1).trans hday))
                        have hRb : ∀ a, a < n → R a = R a := fun a ha => (hX.2.1 a (by omega)).2.2.trans (hRb a ha)
                        have hb83 : ∀ a, a ≠ 83 → a < n → I41 a = I a := fun a ha hb => (upI e41 a ha).trans ((hX.2.1 a (by omega)).2.1.trans (hb83 a ha hb))
                        have hS0 := hS
                        have hR0 := hR1
                        have ht_b15 := (hX.2.1 _ hb_b15).1.trans ht_b15
                        have hb_b15 := Nat.lt_of_lt_of_le hb_b15 hX.1
                        have hb0_b15 := hb_b15
                        have ht_v20 := (hX.2.1 _ hb_v20).1.trans ht_v20
                        have hb_v20 := Nat.lt_of_lt_of_le hb_v20 hX.1
                        have hb0_v20 := hb_v20
                        have ht_v24 := (hX.2.1 _ hb_v24).1.trans ht_v24
                        have hb_v24 := Nat.lt_of_lt_of_le hb_v24 hX.1
                        have hb0_v24 := hb_v24
                        have ht_v28 := (hX.2.1 _ hb_v28).1.trans ht_v28
                        have hb_v28 := Nat.lt_of_lt_of_le hb_v28 hX.1
                        have hb0_v28 := hb_v28
                        have hn := Nat.le_refl n
                        have h94 := hS0.1
                        have hX := @yX.rf n tg I41 R
                        have hS := hS0.x hX
                        have hR := hR0.x hn hX
                        have hz := hX.sz h94
                        have hxn := hX.1
                        have hN := hR0.1
                        have hnb := hR0.2.2.2.2.2.2
                        have hthB := hth
                        refine y_aload_n rfl rfl ?_
                        refine y_getIv (v := Int32.ofInt (3)) rfl (ySh.t hS rfl) (ySh.n hS rfl) rfl rfl hth ?_
                        refine y_if_leF rfl (by decide) ?_
                        refine y_iconst rfl ?_
                        refine y_goto rfl j_X14_refuse_28 ?_
                        refine y_ireturn rfl rfl rfl ?_
                        refine y_ret1 ?_
                        refine y_if_eqF rfl (by decide) ?_
                        refine y_iconst rfl ?_
                        refine y_ireturn rfl rfl rfl ?_
                        exact hQ3 _ eb_b15 (by first | omega | (simp only [show ySeat x2 = x2 from if_neg (by omega), show ySeat x3 = x3 from if_neg (by omega)]; omega) | (simp only [show ySeat x2 = x2 from if_neg (by omega), show ySeat x3 = Int32.ofInt 8 from if_pos (by omega), show (Int32.ofInt 8).toInt.toNat = 8 from by decide]; omega) | (simp only [show ySeat x2 = Int32.ofInt 8 from if_pos (by omega), show ySeat x3 = x3 from if_neg (by omega), show (Int32.ofInt 8).toInt.toNat = 8 from by decide]; omega) | (simp only [show ySeat x2 = Int32.ofInt 8 from if_pos (by omega), show ySeat x3 = Int32.ofInt 8 from if_pos (by omega), show (Int32.ofInt 8).toInt.toNat = 8 from by decide]; omega)) _ _ _ _ _ _ _ hS ((hR0.grow hX).up (Nat.le_succ K) hk6) (hK.x hRo hno hX) hth ((hB.trans hX).rf2 (by omega)) (by omega) (by omega)
              · rw [yz_m1] at h_19
                refine y_bip rfl (by decide) ?_
                refine y_goto rfl j_X14_seat_11 ?_
                refine y_ireturn rfl rfl rfl ?_
                refine y_ret1 ?_
                refine y_istore (ls' := [some _, some _, some _, some _, some _, some _, some _, some _]) rfl rfl rfl ?_
                refine y_aload_n rfl rfl ?_
                refine y_aload rfl rfl ?_
                obtain ⟨hR_v42, hb_v42, ht_v42⟩ := hR0.ven hlo_b15 hb0_b15 ht_b15 (j := 0) (by decide)
                have hb0_v42 := hb_v42
                have hb_v42 := Nat.lt_of_lt_of_le hb_v42 hn
                have hlo_v42 : 94 ≤ b15 + 1 + 0 := by omega
                have hR2_v42 := (congrFun (hX.2.1 b15 hb_b15).2.2 0).trans hR_v42
                refine y_getR rfl ((hX.2.1 _ hb_b15).1.trans ht_b15) (Nat.lt_of_lt_of_le hb_b15 hX.1) rfl rfl hR2_v42 ?_
                refine y_iload rfl rfl ?_
                refine y_baloadv (J := I (b15 + 1 + 0)) rfl ((hX.2.1 _ hb_v42).1.trans ht_v42) rfl (Nat.lt_of_lt_of_le hb_v42 hX.1) (by omega) (by omega) (((hB.trans hX).n (by omega)).trans (by repeat (first | rfl | (rw [upd2_row (by first | decide | omega)]) | refine upd2_cg ?_))) ?_
                refine y_if_eq rfl j_X14_buyOut_142 (fun h_43 => ?_) (fun h_44 => ?_)
                · refine y_iconst rfl ?_
                  refine y_goto rfl j_X14_buyOut_147 ?_
                  refine y_iconst rfl ?_
                  refine y_virt rfl rfl rfl rfl rfl (ySh.t hS rfl) (ySh.n hS rfl) ?_
                  refine y_in (M := xm_X14_refuse) (ls := [some _, some _, some _]) rfl rfl rfl ?_
                  refine y_iload_n rfl rfl ?_
                  refine y_if_eqF rfl (by decide) ?_
                  refine y_aload_n rfl rfl ?_
                  refine y_getIv (v := Int32.ofInt (0)) rfl (ySh.t hS rfl) (ySh.n hS rfl) rfl rfl hth ?_
                  refine y_if_neF rfl (by decide) ?_
                  refine y_aload_n rfl rfl ?_
                  refine y_iload_n rfl rfl ?_
                  refine y_putI rfl (ySh.t hS rfl) (ySh.n hS rfl) rfl (Nat.le_of_ble_eq_true rfl) rfl rfl ?_
                  refine y_nameI (fun I45 e45 => ?_)
                  have hR1 := (hR0.grow hX).mod0 e45 (by decide) (by decide)
                  have hK := (hK.x hRo hno hX).upI (upI e45) (by decide) (by decide) (fun i hi => by have := (hRo.l87.2.2.2.2 i hi).2.1; omega) (by rw [e45, upd2_ne (.inr (by decide))]; exact Int.le_refl _)
                  have hth : I45 83 0 = Int32.ofInt (3) := by rw [e45, upd2_self]
                  have hzz : ySz8 I8 I45 := ySz8_of (upI e45) (by rw [e45]; exact ⟨upd2_ne (.inr (by decide)), upd2_ne (.inr (by decide))⟩)
                  have hB := (hB.trans hX).wr e45 rfl
                  have h8 : ∀ a, 84 ≤ a → a ≤ 86 → I45 a = I a := fun a h1 h2 => (upI e45 a (by omega)).trans ((hX.2.1 a (by omega)).2.1.trans (h8 a h1 h2))
                  have h3k : ∀ k, k ≠ 0 → I45 83 k = I 83 k := fun k hk => (congrFun (congrFun e45 83) k).trans ((upd2_ne (.inr hk)).trans ((congrFun (hX.2.1 83 (by omega)).2.1 k).trans (h3k k hk)))
                  have hg := (hg.gx hX (by omega)).skip e45 (by decide)
                  have hday : I45 83 1 = I 83 1 := (congrFun (congrFun e45 83) 1).trans ((upd2_ne (.inr (by decide))).trans ((congrFun (hX.2.1 83 (by omega)).2.1 1).trans hday))
                  have hRb : ∀ a, a < n → R a = R a := fun a ha => (hX.2.1 a (by omega)).2.2.trans (hRb a ha)
                  have hb83 : ∀ a, a ≠ 83 → a < n → I45 a = I a := fun a ha hb => (upI e45 a ha).trans ((hX.2.1 a (by omega)).2.1.trans (hb83 a ha hb))
                  have hS0 := hS
                  have hR0 := hR1
                  have ht_b15 := (hX.2.1 _ hb_b15).1.trans ht_b15
                  have hb_b15 := Nat.lt_of_lt_of_le hb_b15 hX.1
                  have hb0_b15 := hb_b15
                  have ht_v42 := (hX.2.1 _ hb_v42).1.trans ht_v42
                  have hb_v42 := Nat.lt_of_lt_of_le hb_v42 hX.1
                  have hb0_v42 := hb_v42
                  have hn := Nat.le_refl n
                  have h94 := hS0.1
                  have hX := @yX.rf n tg I45 R
                  have hS := hS0.x hX
                  have hR := hR0.x hn hX
                  have hz := hX.sz h94
                  have hxn := hX.1
                  have hN := hR0.1
                  have hnb := hR0.2.2.2.2.2.2
                  have hthB := hth
                  refine y_aload_n rfl rfl ?_
                  refine y_getIv (v := Int32.ofInt (3)) rfl (ySh.t hS rfl) (ySh.n hS rfl) rfl rfl hth ?_
                  refine y_if_leF rfl (by decide) ?_
                  refine y_iconst rfl ?_
                  refine y_goto rfl j_X14_refuse_28 ?_
                  refine y_ireturn rfl rfl rfl ?_
                  refine y_ret1 ?_
                  refine y_if_eqF rfl (by decide) ?_
                  refine y_iconst rfl ?_
                  refine y_ireturn rfl rfl rfl ?_
                  exact hQ3 _ eb_b15 (by first | omega | (simp only [show ySeat x2 = x2 from if_neg (by omega), show ySeat x3 = x3 from if_neg (by omega)]; omega) | (simp only [show ySeat x2 = x2 from if_neg (by omega), show ySeat x3 = Int32.ofInt 8 from if_pos (by omega), show (Int32.ofInt 8).toInt.toNat = 8 from by decide]; omega) | (simp only [show ySeat x2 = Int32.ofInt 8 from if_pos (by omega), show ySeat x3 = x3 from if_neg (by omega), show (Int32.ofInt 8).toInt.toNat = 8 from by decide]; omega) | (simp only [show ySeat x2 = Int32.ofInt 8 from if_pos (by omega), show ySeat x3 = Int32.ofInt 8 from if_pos (by omega), show (Int32.ofInt 8).toInt.toNat = 8 from by decide]; omega)) _ _ _ _ _ _ _ hS ((hR0.grow hX).up (Nat.le_succ K) hk6) (hK.x hRo hno hX) hth ((hB.trans hX).rf2 (by omega)) (by omega) (by omega)
                · refine y_aload rfl rfl ?_
                  obtain ⟨hR_v46, hb_v46, ht_v46⟩ := hR0.ven hlo_b15 hb0_b15 ht_b15 (j := 0) (by decide)
                  have hb0_v46 := hb_v46
                  have hb_v46 := Nat.lt_of_lt_of_le hb_v46 hn
                  have hlo_v46 : 94 ≤ b15 + 1 + 0 := by omega
                  have hR2_v46 := (congrFun (hX.2.1 b15 hb_b15).2.2 0).trans hR_v46
                  refine y_getR rfl ((hX.2.1 _ hb_b15).1.trans ht_b15) (Nat.lt_of_lt_of_le hb_b15 hX.1) rfl rfl hR2_v46 ?_
                  refine y_iload rfl rfl ?_
                  refine y_baloadw (j := 8) (J := I (b15 + 1 + 0)) rfl ((hX.2.1 _ hb_v46).1.trans ht_v46) rfl (Nat.lt_of_lt_of_le hb_v46 hX.1) (by decide) (by decide) rfl (((hB.trans hX).n (by omega)).trans (by repeat (first | rfl | (rw [upd2_row (by first | decide | omega)]) | refine upd2_cg ?_))) ?_
                  refine y_if_eq rfl j_X14_buyOut_142 (fun h_47 => ?_) (fun h_48 => ?_)
                  · refine y_iconst rfl ?_
                    refine y_goto rfl j_X14_buyOut_147 ?_
                    refine y_iconst rfl ?_
                    refine y_virt rfl rfl rfl rfl rfl (ySh.t hS rfl) (ySh.n hS rfl) ?_
                    refine y_in (M := xm_X14_refuse) (ls := [some _, some _, some _]) rfl rfl rfl ?_
                    refine y_iload_n rfl rfl ?_
                    refine y_if_eqF rfl (by decide) ?_
                    refine y_aload_n rfl rfl ?_
                    refine y_getIv (v := Int32.ofInt (0)) rfl (ySh.t hS rfl) (ySh.n hS rfl) rfl rfl hth ?_
                    refine y_if_neF rfl (by decide) ?_
                    refine y_aload_n rfl rfl ?_
                    refine y_iload_n rfl rfl ?_
                    refine y_putI rfl (ySh.t hS rfl) (ySh.n hS rfl) rfl (Nat.le_of_ble_eq_true rfl) rfl rfl ?_
                    refine y_nameI (fun I49 e49 => ?_)
                    have hR1 := (hR0.grow hX).mod0 e49 (by decide) (by decide)
                    have hK := (hK.x hRo hno hX).upI (upI e49) (by decide) (by decide) (fun i hi => by have := (hRo.l87.2.2.2.2 i hi).2.1; omega) (by rw [e49, upd2_ne (.inr (by decide))]; exact Int.le_refl _)
                    have hth : I49 83 0 = Int32.ofInt (3) := by rw [e49, upd2_self]
                    have hzz : ySz8 I8 I49 := ySz8_of (upI e49) (by rw [e49]; exact ⟨upd2_ne (.inr (by decide)), upd2_ne (.inr (by decide))⟩)
                    have hB := (hB.trans hX).wr e49 rfl
                    have h8 : ∀ a, 84 ≤ a → a ≤ 86 → I49 a = I a := fun a h1 h2 => (upI e49 a (by omega)).trans ((hX.2.1 a (by omega)).2.1.trans (h8 a h1 h2))
                    have h3k : ∀ k, k ≠ 0 → I49 83 k = I 83 k := fun k hk => (congrFun (congrFun e49 83) k).trans ((upd2_ne (.inr hk)).trans ((congrFun (hX.2.1 83 (by omega)).2.1 k).trans (h3k k hk)))
                    have hg := (hg.gx hX (by omega)).skip e49 (by decide)
                    have hday : I49 83 1 = I 83 1 := (congrFun (congrFun e49 83) 1).trans ((upd2_ne (.inr (by decide))).trans ((congrFun (hX.2.1 83 (by omega)).2.1 1).trans hday))
                    have hRb : ∀ a, a < n → R a = R a := fun a ha => (hX.2.1 a (by omega)).2.2.trans (hRb a ha)
                    have hb83 : ∀ a, a ≠ 83 → a < n → I49 a = I a := fun a ha hb => (upI e49 a ha).trans ((hX.2.1 a (by omega)).2.1.trans (hb83 a ha hb))
                    have hS0 := hS
                    have hR0 := hR1
                    have ht_b15 := (hX.2.1 _ hb_b15).1.trans ht_b15
                    have hb_b15 := Nat.lt_of_lt_of_le hb_b15 hX.1
                    have hb0_b15 := hb_b15
                    have ht_v42 := (hX.2.1 _ hb_v42).1.trans ht_v42
                    have hb_v42 := Nat.lt_of_lt_of_le hb_v42 hX.1
                    have hb0_v42 := hb_v42
                    have ht_v46 := (hX.2.1 _ hb_v46).1.trans ht_v46
                    have hb_v46 := Nat.lt_of_lt_of_le hb_v46 hX.1
                    have hb0_v46 := hb_v46
                    have hn := Nat.le_refl n
                    have h94 := hS0.1
                    have hX := @yX.rf n tg I49 R
                    have hS := hS0.x hX
                    have hR := hR0.x hn hX
                    have hz := hX.sz h94
                    have hxn := hX.1
                    have hN := hR0.1
                    have hnb := hR0.2.2.2.2.2.2
                    have hthB := hth
                    refine y_aload_n rfl rfl ?_
                    refine y_getIv (v := Int32.ofInt (3)) rfl (ySh.t hS rfl) (ySh.n hS rfl) rfl rfl hth ?_
                    refine y_if_leF rfl (by decide) ?_
                    refine y_iconst rfl ?_
                    refine y_goto rfl j_X14_refuse_28 ?_
                    refine y_ireturn rfl rfl rfl ?_
                    refine y_ret1 ?_
                    refine y_if_eqF rfl (by decide) ?_
                    refine y_iconst rfl ?_
                    refine y_ireturn rfl rfl rfl ?_
                    exact hQ3 _ eb_b15 (by first | omega | (simp only [show ySeat x2 = x2 from if_neg (by omega), show ySeat x3 = x3 from if_neg (by omega)]; omega) | (simp only [show ySeat x2 = x2 from if_neg (by omega), show ySeat x3 = Int32.ofInt 8 from if_pos (by omega), show (Int32.ofInt 8).toInt.toNat = 8 from by decide]; omega) | (simp only [show ySeat x2 = Int32.ofInt 8 from if_pos (by omega), show ySeat x3 = x3 from if_neg (by omega), show (Int32.ofInt 8).toInt.toNat = 8 from by decide]; omega) | (simp only [show ySeat x2 = Int32.ofInt 8 from if_pos (by omega), show ySeat x3 = Int32.ofInt 8 from if_pos (by omega), show (Int32.ofInt 8).toInt.toNat = 8 from by decide]; omega)) _ _ _ _ _ _ _ hS ((hR0.grow hX).up (Nat.le_succ K) hk6) (hK.x hRo hno hX) hth ((hB.trans hX).rf2 (by omega)) (by omega) (by omega)
                  · refine y_aload rfl rfl ?_
                    obtain ⟨hR_v50, hb_v50, ht_v50⟩ := hR0.ven hlo_b15 hb0_b15 ht_b15 (j := 1) (by decide)
                    have hb0_v50 := hb_v50
                    have hb_v50 := Nat.lt_of_lt_of_le hb_v50 hn
                    have hlo_v50 : 94 ≤ b15 + 1 + 1 := by omega
                    have hR2_v50 := (congrFun (hX.2.1 b15 hb_b15).2.2 1).trans hR_v50
                    refine y_getR rfl ((hX.2.1 _ hb_b15).1.trans ht_b15) (Nat.lt_of_lt_of_le hb_b15 hX.1) rfl rfl hR2_v50 ?_
                    refine y_iload rfl rfl ?_
                    refine y_ialoadv (J := I (b15 + 1 + 1)) rfl ((hX.2.1 _ hb_v50).1.trans ht_v50) (Nat.lt_of_lt_of_le hb_v50 hX.1) (by omega) (by omega) (((hB.trans hX).n (by omega)).trans (by repeat (first | rfl | (rw [upd2_row (by first | decide | omega)]) | refine upd2_cg ?_))) ?_
                    refine y_iload rfl rfl ?_
                    refine y_icmp_lt rfl j_X14_buyOut_142 (fun h_51 => ?_) (fun h_52 => ?_)
                    · refine y_iconst rfl ?_
                      refine y_goto rfl j_X14_buyOut_147 ?_
                      refine y_iconst rfl ?_
                      refine y_virt rfl rfl rfl rfl rfl (ySh.t hS rfl) (ySh.n hS rfl) ?_
                      refine y_in (M := xm_X14_refuse) (ls := [some _, some _, some _]) rfl rfl rfl ?_
                      refine y_iload_n rfl rfl ?_
                      refine y_if_eqF rfl (by decide) ?_
                      refine y_aload_n rfl rfl ?_
                      refine y_getIv (v := Int32.ofInt (0)) rfl (ySh.t hS rfl) (ySh.n hS rfl) rfl rfl hth ?_
                      refine y_if_neF rfl (by decide) ?_
                      refine y_aload_n rfl rfl ?_
                      refine y_iload_n rfl rfl ?_
                      refine y_putI rfl (ySh.t hS rfl) (ySh.n hS rfl) rfl (Nat.le_of_ble_eq_true rfl) rfl rfl ?_
                      refine y_nameI (fun I53 e53 => ?_)
                      have hR1 := (hR0.grow hX).mod0 e53 (by decide) (by decide)
                      have hK := (hK.x hRo hno hX).upI (upI e53) (by decide) (by decide) (fun i hi => by have := (hRo.l87.2.2.2.2 i hi).2.1; omega) (by rw [e53, upd2_ne (.inr (by decide))]; exact Int.le_refl _)
                      have hth : I53 83 0 = Int32.ofInt (3) := by rw [e53, upd2_self]
                      have hzz : ySz8 I8 I53 := ySz8_of (upI e53) (by rw [e53]; exact ⟨upd2_ne (.inr (by decide)), upd2_ne (.inr (by decide))⟩)
                      have hB := (hB.trans hX).wr e53 rfl
                      have h8 : ∀ a, 84 ≤ a → a ≤ 86 → I53 a = I a := fun a h1 h2 => (upI e53 a (by omega)).trans ((hX.2.1 a (by omega)).2.1.trans (h8 a h1 h2))
                      have h3k : ∀ k, k ≠ 0 → I53 83 k = I 83 k := fun k hk => (congrFun (congrFun e53 83) k).trans ((upd2_ne (.inr hk)).trans ((congrFun (hX.2.1 83 (by omega)).2.1 k).trans (h3k k hk)))
                      have hg := (hg.gx hX (by omega)).skip e53 (by decide)
                      have hday : I53 83 1 = I 83 1 := (congrFun (congrFun e53 83) 1).trans ((upd2_ne (.inr (by decide))).trans ((congrFun (hX.2.1 83 (by omega)).2.1 1).trans hday))
                      have hRb : ∀ a, a < n → R a = R a := fun a ha => (hX.2.1 a (by omega)).2.2.trans (hRb a ha)
                      have hb83 : ∀ a, a ≠ 83 → a < n → I53 a = I a := fun a ha hb => (upI e53 a ha).trans ((hX.2.1 a (by omega)).2.1.trans (hb83 a ha hb))
                      have hS0 := hS
                      have hR0 := hR1
                      have ht_b15 := (hX.2.1 _ hb_b15).1.trans ht_b15
                      have hb_b15 := Nat.lt_of_lt_of_le hb_b15 hX.1
                      have hb0_b15 := hb_b15
                      have ht_v42 := (hX.2.1 _ hb_v42).1.trans ht_v42
                      have hb_v42 := Nat.lt_of_lt_of_le hb_v42 hX.1
                      have hb0_v42 := hb_v42
                      have ht_v46 := (hX.2.1 _ hb_v46).1.trans ht_v46
                      have hb_v46 := Nat.lt_of_lt_of_le hb_v46 hX.1
                      have hb0_v46 := hb_v46
                      have ht_v50 := (hX.2.1 _ hb_v50).1.trans ht_v50
                      have hb_v50 := Nat.lt_of_lt_of_le hb_v50 hX.1
                      have hb0_v50 := hb_v50
                      have hn := Nat.le_refl n
                      have h94 := hS0.1
                      have hX := @yX.rf n tg I53 R
                      have hS := hS0.x hX
                      have hR := hR0.x hn hX
                      have hz := hX.sz h94
                      have hxn := hX.1
                      have hN := hR0.1
                      have hnb := hR0.2.2.2.2.2.2
                      have hthB := hth
                      refine y_aload_n rfl rfl ?_
                      refine y_getIv (v := Int32.ofInt (3)) rfl (ySh.t hS rfl) (ySh.n hS rfl) rfl rfl hth ?_
                      refine y_if_leF rfl (by decide) ?_
                      refine y_iconst rfl ?_
                      refine y_goto rfl j_X14_refuse_28 ?_
                      refine y_ireturn rfl rfl rfl ?_
                      refine y_ret1 ?_
                      refine y_if_eqF rfl (by decide) ?_
                      refine y_iconst rfl ?_
                      refine y_ireturn rfl rfl rfl ?_
                      exact hQ3 _ eb_b15 (by first | omega | (simp only [show ySeat x2 = x2 from if_neg (by omega), show ySeat x3 = x3 from if_neg (by omega)]; omega) | (simp only [show ySeat x2 = x2 from if_neg (by omega), show ySeat x3 = Int32.ofInt 8 from if_pos (by omega), show (Int32.ofInt 8).toInt.toNat = 8 from by decide]; omega) | (simp only [show ySeat x2 = Int32.ofInt 8 from if_pos (by omega), show ySeat x3 = x3 from if_neg (by omega), show (Int32.ofInt 8).toInt.toNat = 8 from by decide]; omega) | (simp only [show ySeat x2 = Int32.ofInt 8 from if_pos (by omega), show ySeat x3 = Int32.ofInt 8 from if_pos (by omega), show (Int32.ofInt 8).toInt.toNat = 8 from by decide]; omega)) _ _ _ _ _ _ _ hS ((hR0.grow hX).up (Nat.le_succ K) hk6) (hK.x hRo hno hX) hth ((hB.trans hX).rf2 (by omega)) (by omega) (by omega)
                    · refine y_aload_n rfl rfl ?_
                      refine y_getR rfl (ySh.t hS rfl) (ySh.n hS rfl) rfl rfl (ySh.r hS rfl) ?_
                      refine y_iload rfl rfl ?_
                      refine y_ialoadw (j := 8) (J := I 84) rfl (ySh.t hS rfl) (ySh.n hS rfl) (by decide) (by decide) rfl (((hB.trans hX).n (by omega)).trans (by repeat (first | rfl | (rw [upd2_row (by first | decide | omega)]) | refine upd2_cg ?_))) ?_
                      refine y_iload rfl rfl ?_
                      refine y_icmp_ge rfl j_X14_buyOut_146 (fun h_54 => ?_) (fun h_55 => ?_)
                      · refine y_iconst rfl ?_
                        refine y_iconst rfl ?_
                        refine y_virt rfl rfl rfl rfl rfl (ySh.t hS rfl) (ySh.n hS rfl) ?_
                        refine y_in (M := xm_X14_refuse) (ls := [some _, some _, some _]) rfl rfl rfl ?_
                        refine y_iload_n rfl rfl ?_
                        refine y_if_eqT rfl j_X14_refuse_16 (by decide) ?_
                        refine y_aload_n rfl rfl ?_
                        refine y_getIv (v := Int32.ofInt (0)) rfl (ySh.t hS rfl) (ySh.n hS rfl) rfl rfl hth ?_
                        refine y_if_leT rfl j_X14_refuse_27 (by decide) ?_
                        refine y_iconst rfl ?_
                        refine y_ireturn rfl rfl rfl ?_
                        refine y_ret1 ?_
                        refine y_if_eqT rfl j_X14_buyOut_156 (by decide) ?_
                        refine y_aload rfl rfl ?_
                        obtain ⟨hR_v56, hb_v56, ht_v56⟩ := hR0.ven hlo_b15 hb0_b15 ht_b15 (j := 1) (by decide)
                        have hb0_v56 := hb_v56
                        have hb_v56 := Nat.lt_of_lt_of_le hb_v56 hn
                        have hlo_v56 : 94 ≤ b15 + 1 + 1 := by omega
                        have hR2_v56 := (congrFun (hX.2.1 b15 hb_b15).2.2 1).trans hR_v56
                        refine y_getR rfl ((hX.2.1 _ hb_b15).1.trans ht_b15) (Nat.lt_of_lt_of_le hb_b15 hX.1) rfl rfl hR2_v56 ?_
                        refine y_iload rfl rfl ?_
                        refine y_dup2 rfl rfl rfl ?_
                        refine y_ialoadv (J := I (b15 + 1 + 1)) rfl ((hX.2.1 _ hb_v56).1.trans ht_v56) (Nat.lt_of_lt_of_le hb_v56 hX.1) (by omega) (by omega) (((hB.trans hX).n (by omega)).trans (by repeat (first | rfl | (rw [upd2_row (by first | decide | omega)]) | refine upd2_cg ?_))) ?_
                        refine y_iload rfl rfl ?_
                        refine y_isub rfl ?_
                        refine y_iastore rfl ((hX.2.1 _ hb_v56).1.trans ht_v56) (Nat.lt_of_lt_of_le hb_v56 hX.1) (Nat.le_trans (by decide) (by omega : 94 ≤ _)) (by omega) (by omega) ?_
                        refine y_nameI (fun I57 e57 => ?_)
                        have hB1 := (hR0.grow hX).capB1x hlo_b15 (by omega) ((hX.2.1 _ hb_b15).1.trans ht_b15) (by omega) e57 (by rw [show I8 (b15 + 1 + 1) = I (b15 + 1 + 1) from ((hB.trans hX).n (by omega)).trans (by repeat (first | rfl | (rw [upd2_row (by first | decide | omega)]) | refine upd2_cg ?_))]) ⟨by omega, by rw [show I8 (b15 + 1 + 1) = I (b15 + 1 + 1) from ((hB.trans hX).n (by omega)).trans (by repeat (first | rfl | (rw [upd2_row (by first | decide | omega)]) | refine upd2_cg ?_))]; omega⟩
                        have hR1 := hB1.1
                        have hK := (hK.x hRo hno hX).upE hRo hno (upI e57) (by omega) (by omega) (by rw [((hX.2.1 _ hb_v56).1.trans ht_v56)]; decide) (by rw [e57, upd2_ne (.inl (by omega))]; exact Int.le_refl _)
                        have hth := (show I57 83 0 = I8 83 0 by rw [e57, upd2_ne (.inl (by omega))]).trans hth
                        have hzz : ySz I8 I57 := ySz_ofE (upI e57) (by omega)
                        have hB := (hB.trans hX).wr e57 rfl
                        have h8 : ∀ a, 84 ≤ a → a ≤ 86 → I57 a = I a := fun a h1 h2 => (upI e57 a (by omega)).trans ((hX.2.1 a (by omega)).2.1.trans (h8 a h1 h2))
                        have h3k : ∀ k, k ≠ 0 → I57 83 k = I 83 k := fun k hk => (congrFun (congrFun e57 83) k).trans ((upd2_ne (.inl (by omega))).trans ((congrFun (hX.2.1 83 (by omega)).2.1 k).trans (h3k k hk)))
                        have hg := (hg.gx hX (by omega)).both e57
                        have hday : I57 83 1 = I 83 1 := (congrFun (congrFun e57 83) 1).trans ((upd2_ne (.inl (by omega))).trans ((congrFun (hX.2.1 83 (by omega)).2.1 1).trans hday))
                        have hRb : ∀ a, a < n → R a = R a := fun a ha => (hX.2.1 a (by omega)).2.2.trans (hRb a ha)
                        have hS0 := hS
                        have hR0 := hR1
                        have ht_b15 := (hX.2.1 _ hb_b15).1.trans ht_b15
                        have hb_b15 := Nat.lt_of_lt_of_le hb_b15 hX.1
                        have hb0_b15 := hb_b15
                        have ht_v42 := (hX.2.1 _ hb_v42).1.trans ht_v42
                        have hb_v42 := Nat.lt_of_lt_of_le hb_v42 hX.1
                        have hb0_v42 := hb_v42
                        have ht_v46 := (hX.2.1 _ hb_v46).1.trans ht_v46
                        have hb_v46 := Nat.lt_of_lt_of_le hb_v46 hX.1
                        have hb0_v46 := hb_v46
                        have ht_v50 := (hX.2.1 _ hb_v50).1.trans ht_v50
                        have hb_v50 := Nat.lt_of_lt_of_le hb_v50 hX.1
                        have hb0_v50 := hb_v50
                        have ht_v56 := (hX.2.1 _ hb_v56).1.trans ht_v56
                        have hb_v56 := Nat.lt_of_lt_of_le hb_v56 hX.1
                        have hb0_v56 := hb_v56
                        have hn := Nat.le_refl n
                        have h94 := hS0.1
                        have hX := @yX.rf n tg I57 R
                        have hS := hS0.x hX
                        have hR := hR0.x hn hX
                        have hz := hX.sz h94
                        have hxn := hX.1
                        have hN := hR0.1
                        have hnb := hR0.2.2.2.2.2.2
                        have hthB := hth
                        refine y_aload rfl rfl ?_
                        obtain ⟨hR_v58, hb_v58, ht_v58⟩ := hR0.ven hlo_b15 hb0_b15 ht_b15 (j := 1) (by decide)
                        have hb0_v58 := hb_v58
                        have hb_v58 := Nat.lt_of_lt_of_le hb_v58 hn
                        have hlo_v58 : 94 ≤ b15 + 1 + 1 := by omega
                        have hR2_v58 := (congrFun (hX.2.1 b15 hb_b15).2.2 1).trans hR_v58
                        refine y_getR rfl ((hX.2.1 _ hb_b15).1.trans ht_b15) (Nat.lt_of_lt_of_le hb_b15 hX.1) rfl rfl hR2_v58 ?_
                        refine y_iload rfl rfl ?_
                        refine y_dup2 rfl rfl rfl ?_
                        refine y_ialoadw (j := 8) (J := _) rfl ((hX.2.1 _ hb_v58).1.trans ht_v58) (Nat.lt_of_lt_of_le hb_v58 hX.1) (by decide) (by decide) rfl ((hB.trans hX).n (by omega)) ?_
                        refine y_iload rfl rfl ?_
                        refine y_iadd rfl ?_
                        refine y_iastoreC (j := 8) rfl ((hX.2.1 _ hb_v58).1.trans ht_v58) (Nat.lt_of_lt_of_le hb_v58 hX.1) (Nat.le_trans (by decide) (by omega : 94 ≤ _)) (by decide) (by decide) rfl ?_
                        refine y_nameI (fun I59 e59 => ?_)
                        have hR1 := (hR0.grow hX).capB2x hlo_b15 (by omega) ((hX.2.1 _ hb_b15).1.trans ht_b15) (by omega) (by omega) hB1.2.1 e59 (by rw [show I57 (b15 + 1 + 1) = _ from ((hB.trans hX).n (by omega))])
                        have hK := (hK.x hRo hno hX).upE hRo hno (upI e59) (by omega) (by omega) (by rw [((hX.2.1 _ hb_v58).1.trans ht_v58)]; decide) (by rw [e59, upd2_ne (.inl (by omega))]; exact Int.le_refl _)
                        have hth := (show I59 83 0 = I57 83 0 by rw [e59, upd2_ne (.inl (by omega))]).trans hth
                        have hzz : ySz I57 I59 := ySz_ofE (upI e59) (by omega)
                        have hB := (hB.trans hX).wr e59 rfl
                        have h8 : ∀ a, 84 ≤ a → a ≤ 86 → I59 a = I a := fun a h1 h2 => (upI e59 a (by omega)).trans ((hX.2.1 a (by omega)).2.1.trans (h8 a h1 h2))
                        have h3k : ∀ k, k ≠ 0 → I59 83 k = I 83 k := fun k hk => (congrFun (congrFun e59 83) k).trans ((upd2_ne (.inl (by omega))).trans ((congrFun (hX.2.1 83 (by omega)).2.1 k).trans (h3k k hk)))
                        have hg := (hg.gx hX (by omega)).both e59
                        have hday : I59 83 1 = I 83 1 := (congrFun (congrFun e59 83) 1).trans ((upd2_ne (.inl (by omega))).trans ((congrFun (hX.2.1 83 (by omega)).2.1 1).trans hday))
                        have hRb : ∀ a, a < n → R a = R a := fun a ha => (hX.2.1 a (by omega)).2.2.trans (hRb a ha)
                        have hS0 := hS
                        have hR0 := hR1
                        have ht_b15 := (hX.2.1 _ hb_b15).1.trans ht_b15
                        have hb_b15 := Nat.lt_of_lt_of_le hb_b15 hX.1
                        have hb0_b15 := hb_b15
                        have ht_v42 := (hX.2.1 _ hb_v42).1.trans ht_v42
                        have hb_v42 := Nat.lt_of_lt_of_le hb_v42 hX.1
                        have hb0_v42 := hb_v42
                        have ht_v46 := (hX.2.1 _ hb_v46).1.trans ht_v46
                        have hb_v46 := Nat.lt_of_lt_of_le hb_v46 hX.1
                        have hb0_v46 := hb_v46
                        have ht_v50 := (hX.2.1 _ hb_v50).1.trans ht_v50
                        have hb_v50 := Nat.lt_of_lt_of_le hb_v50 hX.1
                        have hb0_v50 := hb_v50
                        have ht_v56 := (hX.2.1 _ hb_v56).1.trans ht_v56
                        have hb_v56 := Nat.lt_of_lt_of_le hb_v56 hX.1
                        have hb0_v56 := hb_v56
                        have ht_v58 := (hX.2.1 _ hb_v58).1.trans ht_v58
                        have hb_v58 := Nat.lt_of_lt_of_le hb_v58 hX.1
                        have hb0_v58 := hb_v58
                        have hn := Nat.le_refl n
                        have h94 := hS0.1
                        have hX := @yX.rf n tg I59 R
                        have hS := hS0.x hX
                        have hR := hR0.x hn hX
                        have hz := hX.sz h94
                        have hxn := hX.1
                        have hN := hR0.1
                        have hnb := hR0.2.2.2.2.2.2
                        have hthB := hth
                        refine y_aload_n rfl rfl ?_
                        refine y_getR rfl (ySh.t hS rfl) (ySh.n hS rfl) rfl rfl (ySh.r hS rfl) ?_
                        refine y_iload rfl rfl ?_
                        refine y_dup2 rfl rfl rfl ?_
                        refine y_ialoadv (J := I 84) rfl (ySh.t hS rfl) (ySh.n hS rfl) (by omega) (by omega) (((hB.trans hX).n (by omega)).trans (by repeat (first | rfl | (rw [upd2_row (by first | decide | omega)]) | refine upd2_cg ?_))) ?_
                        refine y_iload rfl rfl ?_
                        refine y_iadd rfl ?_
                        refine y_iastore rfl (ySh.t hS rfl) (ySh.n hS rfl) (Nat.le_of_ble_eq_true rfl) (by omega) (by omega) ?_
                        refine y_nameI (fun I60 e60 => ?_)
                        have hR1 := (hR0.grow hX).arr e60 (by decide)
                        have hK := (hK.x hRo hno hX).upI (upI e60) (by decide) (by decide) (fun i hi => by have := (hRo.l87.2.2.2.2 i hi).2.1; omega) (by rw [e60, upd2_ne (.inl (by omega))]; exact Int.le_refl _)
                        have hth := (show I60 83 0 = I59 83 0 by rw [e60, upd2_ne (.inl (by omega))]).trans hth
                        have hzz : ySz I59 I60 := ySz_ofE (upI e60) (by omega)
                        have hB := (hB.trans hX).wr e60 rfl
                        have h3k : ∀ k, k ≠ 0 → I60 83 k = I 83 k := fun k hk => (congrFun (congrFun e60 83) k).trans ((upd2_ne (.inl (by omega))).trans ((congrFun (hX.2.1 83 (by omega)).2.1 k).trans (h3k k hk)))
                        have hg := (hg.gx hX (by omega)).skip e60 (by decide)
                        have hday : I60 83 1 = I 83 1 := (congrFun (congrFun e60 83) 1).trans ((upd2_ne (.inl (by omega))).trans ((congrFun (hX.2.1 83 (by omega)).2.1 1).trans hday))
                        have hRb : ∀ a, a < n → R a = R a := fun a ha => (hX.2.1 a (by omega)).2.2.trans (hRb a ha)
                        have hS0 := hS
                        have hR0 := hR1
                        have ht_b15 := (hX.2.1 _ hb_b15).1.trans ht_b15
                        have hb_b15 := Nat.lt_of_lt_of_le hb_b15 hX.1
                        have hb0_b15 := hb_b15
                        have ht_v42 := (hX.2.1 _ hb_v42).1.trans ht_v42
                        have hb_v42 := Nat.lt_of_lt_of_le hb_v42 hX.1
                        have hb0_v42 := hb_v42
                        have ht_v46 := (hX.2.1 _ hb_v46).1.trans ht_v46
                        have hb_v46 := Nat.lt_of_lt_of_le hb_v46 hX.1
                        have hb0_v46 := hb_v46
                        have ht_v50 := (hX.2.1 _ hb_v50).1.trans ht_v50
                        have hb_v50 := Nat.lt_of_lt_of_le hb_v50 hX.1
                        have hb0_v50 := hb_v50
                        have ht_v56 := (hX.2.1 _ hb_v56).1.trans ht_v56
                        have hb_v56 := Nat.lt_of_lt_of_le hb_v56 hX.1
                        have hb0_v56 := hb_v56
                        have ht_v58 := (hX.2.1 _ hb_v58).1.trans ht_v58
                        have hb_v58 := Nat.lt_of_lt_of_le hb_v58 hX.1
                        have hb0_v58 := hb_v58
                        have hn := Nat.le_refl n
                        have h94 := hS0.1
                        have hX := @yX.rf n tg I60 R
                        have hS := hS0.x hX
                        have hR := hR0.x hn hX
                        have hz := hX.sz h94
                        have hxn := hX.1
                        have hN := hR0.1
                        have hnb := hR0.2.2.2.2.2.2
                        have hthB := hth
                        refine y_aload_n rfl rfl ?_
                        refine y_getR rfl (ySh.t hS rfl) (ySh.n hS rfl) rfl rfl (ySh.r hS rfl) ?_
                        refine y_iload rfl rfl ?_
                        refine y_dup2 rfl rfl rfl ?_
                        refine y_ialoadw (j := 8) (J := _) rfl (ySh.t hS rfl) (ySh.n hS rfl) (by decide) (by decide) rfl ((hB.trans hX).n (by omega)) ?_
                        refine y_iload rfl rfl ?_
                        refine y_isub rfl ?_
                        refine y_iastoreC (j := 8) rfl (ySh.t hS rfl) (ySh.n hS rfl) (Nat.le_of_ble_eq_true rfl) (by decide) (by decide) rfl ?_
                        refine y_nameI (fun I61 e61 => ?_)
                        have hR1 := (hR0.grow hX).arr e61 (by decide)
                        have hK := (hK.x hRo hno hX).upI (upI e61) (by decide) (by decide) (fun i hi => by have := (hRo.l87.2.2.2.2 i hi).2.1; omega) (by rw [e61, upd2_ne (.inl (by omega))]; exact Int.le_refl _)
                        have hth := (show I61 83 0 = I60 83 0 by rw [e61, upd2_ne (.inl (by omega))]).trans hth
                        have hzz : ySz I60 I61 := ySz_ofE (upI e61) (by omega)
                        have hB := (hB.trans hX).wr e61 rfl
                        have h3k : ∀ k, k ≠ 0 → I61 83 k = I 83 k := fun k hk => (congrFun (congrFun e61 83) k).trans ((upd2_ne (.inl (by omega))).trans ((congrFun (hX.2.1 83 (by omega)).2.1 k).trans (h3k k hk)))
                        have hg := (hg.gx hX (by omega)).skip e61 (by decide)
                        have hday : I61 83 1 = I 83 1 := (congrFun (congrFun e61 83) 1).trans ((upd2_ne (.inl (by omega))).trans ((congrFun (hX.2.1 83 (by omega)).2.1 1).trans hday))
                        have hRb : ∀ a, a < n → R a = R a := fun a ha => (hX.2.1 a (by omega)).2.2.trans (hRb a ha)
                        have hS0 := hS
                        have hR0 := hR1
                        have ht_b15 := (hX.2.1 _ hb_b15).1.trans ht_b15
                        have hb_b15 := Nat.lt_of_lt_of_le hb_b15 hX.1
                        have hb0_b15 := hb_b15
                        have ht_v42 := (hX.2.1 _ hb_v42).1.trans ht_v42
                        have hb_v42 := Nat.lt_of_lt_of_le hb_v42 hX.1
                        have hb0_v42 := hb_v42
                        have ht_v46 := (hX.2.1 _ hb_v46).1.trans ht_v46
                        have hb_v46 := Nat.lt_of_lt_of_le hb_v46 hX.1
                        have hb0_v46 := hb_v46
                        have ht_v50 := (hX.2.1 _ hb_v50).1.trans ht_v50
                        have hb_v50 := Nat.lt_of_lt_of_le hb_v50 hX.1
                        have hb0_v50 := hb_v50
                        have ht_v56 := (hX.2.1 _ hb_v56).1.trans ht_v56
                        have hb_v56 := Nat.lt_of_lt_of_le hb_v56 hX.1
                        have hb0_v56 := hb_v56
                        have ht_v58 := (hX.2.1 _ hb_v58).1.trans ht_v58
                        have hb_v58 := Nat.lt_of_lt_of_le hb_v58 hX.1
                        have hb0_v58 := hb_v58
                        have hn := Nat.le_refl n
                        have h94 := hS0.1
                        have hX := @yX.rf n tg I61 R
                        have hS := hS0.x hX
                        have hR := hR0.x hn hX
                        have hz := hX.sz h94
                        have hxn := hX.1
                        have hN := hR0.1
                        have hnb := hR0.2.2.2.2.2.2
                        have hthB := hth
                        refine y_aload rfl rfl ?_
                        obtain ⟨hR_v62, hb_v62, ht_v62⟩ := hR0.ven hlo_b15 hb0_b15 ht_b15 (j := 1) (by decide)
                        have hb0_v62 := hb_v62
                        have hb_v62 := Nat.lt_of_lt_of_le hb_v62 hn
                        have hlo_v62 : 94 ≤ b15 + 1 + 1 := by omega
                        have hR2_v62 := (congrFun (hX.2.1 b15 hb_b15).2.2 1).trans hR_v62
                        refine y_getR rfl ((hX.2.1 _ hb_b15).1.trans ht_b15) (Nat.lt_of_lt_of_le hb_b15 hX.1) rfl rfl hR2_v62 ?_
                        refine y_iload rfl rfl ?_
                        refine y_ialoadv (J := _) rfl ((hX.2.1 _ hb_v62).1.trans ht_v62) (Nat.lt_of_lt_of_le hb_v62 hX.1) (by omega) (by omega) ((hB.trans hX).n (by omega)) ?_
                        refine y_ireturn rfl rfl rfl ?_
                        exact hQ0 _ eb_b15 (by first | omega | (simp only [show ySeat x2 = x2 from if_neg (by omega), show ySeat x3 = x3 from if_neg (by omega)]; omega) | (simp only [show ySeat x2 = x2 from if_neg (by omega), show ySeat x3 = Int32.ofInt 8 from if_pos (by omega), show (Int32.ofInt 8).toInt.toNat = 8 from by decide]; omega) | (simp only [show ySeat x2 = Int32.ofInt 8 from if_pos (by omega), show ySeat x3 = x3 from if_neg (by omega), show (Int32.ofInt 8).toInt.toNat = 8 from by decide]; omega) | (simp only [show ySeat x2 = Int32.ofInt 8 from if_pos (by omega), show ySeat x3 = Int32.ofInt 8 from if_pos (by omega), show (Int32.ofInt 8).toInt.toNat = 8 from by decide]; omega)) _ _ _ _ _ _ _ hS ((hR0.grow hX).up (Nat.le_succ K) hk6) (hK.x hRo hno hX) hth (by first | exact (congrFun ((hB.trans hX).n (by omega)) _).symm | (simp only [show ySeat x2 = x2 from if_neg (by omega), show ySeat x3 = x3 from if_neg (by omega)]; exact (congrFun ((hB.trans hX).n (by omega)) _).symm) | (simp only [show ySeat x2 = x2 from if_neg (by omega), show ySeat x3 = Int32.ofInt 8 from if_pos (by omega), show (Int32.ofInt 8).toInt.toNat = 8 from by decide]; exact (congrFun ((hB.trans hX).n (by omega)) _).symm) | (simp only [show ySeat x2 = Int32.ofInt 8 from if_pos (by omega), show ySeat x3 = x3 from if_neg (by omega), show (Int32.ofInt 8).toInt.toNat = 8 from by decide]; exact (congrFun ((hB.trans hX).n (by omega)) _).symm) | (simp only [show ySeat x2 = Int32.ofInt 8 from if_pos (by omega), show ySeat x3 = Int32.ofInt 8 from if_pos (by omega), show (Int32.ofInt 8).toInt.toNat = 8 from by decide]; exact (congrFun ((hB.trans hX).n (by omega)) _).symm)) (by first | (exact hB.trans hX) | (simp only [show ySeat x2 = x2 from if_neg (by omega), show ySeat x3 = x3 from if_neg (by omega)]; exact hB.trans hX) | (simp only [show ySeat x2 = x2 from if_neg (by omega), show ySeat x3 = Int32.ofInt 8 from if_pos (by omega), show (Int32.ofInt 8).toInt.toNat = 8 from by decide]; exact hB.trans hX) | (simp only [show ySeat x2 = Int32.ofInt 8 from if_pos (by omega), show ySeat x3 = x3 from if_neg (by omega), show (Int32.ofInt 8).toInt.toNat = 8 from by decide]; exact hB.trans hX) | (simp only [show ySeat x2 = Int32.ofInt 8 from if_pos (by omega), show ySeat x3 = Int32.ofInt 8 from if_pos (by omega), show (Int32.ofInt 8).toInt.toNat = 8 from by decide]; exact hB.trans hX)) (by omega) (by omega)
                      · refine y_iconst rfl ?_
                        refine y_goto rfl j_X14_buyOut_147 ?_
                        refine y_iconst rfl ?_
                        refine y_virt rfl rfl rfl rfl rfl (ySh.t hS rfl) (ySh.n hS rfl) ?_
                        refine y_in (M := xm_X14_refuse) (ls := [some _, some _, some _]) rfl rfl rfl ?_
                        refine y_iload_n rfl rfl ?_
                        refine y_if_eqF rfl (by decide) ?_
                        refine y_aload_n rfl rfl ?_
                        refine y_getIv (v := Int32.ofInt (0)) rfl (ySh.t hS rfl) (ySh.n hS rfl) rfl rfl hth ?_
                        refine y_if_neF rfl (by decide) ?_
                        refine y_aload_n rfl rfl ?_
                        refine y_iload_n rfl rfl ?_
                        refine y_putI rfl (ySh.t hS rfl) (ySh.n hS rfl) rfl (Nat.le_of_ble_eq_true rfl) rfl rfl ?_
                        refine y_nameI (fun I63 e63 => ?_)
                        have hR1 := (hR0.grow hX).mod0 e63 (by decide) (by decide)
                        have hK := (hK.x hRo hno hX).upI (upI e63) (by decide) (by decide) (fun i hi => by have := (hRo.l87.2.2.2.2 i hi).2.1; omega) (by rw [e63, upd2_ne (.inr (by decide))]; exact Int.le_refl _)
                        have hth : I63 83 0 = Int32.ofInt (3) := by rw [e63, upd2_self]
                        have hzz : ySz8 I8 I63 := ySz8_of (upI e63) (by rw [e63]; exact ⟨upd2_ne (.inr (by decide)), upd2_ne (.inr (by decide))⟩)
                        have hB := (hB.trans hX).wr e63 rfl
                        have h8 : ∀ a, 84 ≤ a → a ≤ 86 → I63 a = I a := fun a h1 h2 => (upI e63 a (by omega)).trans ((hX.2.1 a (by omega)).2.1.trans (h8 a h1 h2))
                        have h3k : ∀ k, k ≠ 0 → I63 83 k = I 83 k := fun k hk => (congrFun (congrFun e63 83) k).trans ((upd2_ne (.inr hk)).trans ((congrFun (hX.2.1 83 (by omega)).2.1 k).trans (h3k k hk)))
                        have hg := (hg.gx hX (by omega)).skip e63 (by decide)
                        have hday : I63 83 1 = I 83 1 := (congrFun (congrFun e63 83) 1).trans ((upd2_ne (.inr (by decide))).trans ((congrFun (hX.2.1 83 (by omega)).2.1 1).trans hday))
                        have hRb : ∀ a, a < n → R a = R a := fun a ha => (hX.2.1 a (by omega)).2.2.trans (hRb a ha)
                        have hb83 : ∀ a, a ≠ 83 → a < n → I63 a = I a := fun a ha hb => (upI e63 a ha).trans ((hX.2.1 a (by omega)).2.1.trans (hb83 a ha hb))
                        have hS0 := hS
                        have hR0 := hR1
                        have ht_b15 := (hX.2.1 _ hb_b15).1.trans ht_b15
                        have hb_b15 := Nat.lt_of_lt_of_le hb_b15 hX.1
                        have hb0_b15 := hb_b15
                        have ht_v42 := (hX.2.1 _ hb_v42).1.trans ht_v42
                        have hb_v42 := Nat.lt_of_lt_of_le hb_v42 hX.1
                        have hb0_v42 := hb_v42
                        have ht_v46 := (hX.2.1 _ hb_v46).1.trans ht_v46
                        have hb_v46 := Nat.lt_of_lt_of_le hb_v46 hX.1
                        have hb0_v46 := hb_v46
                        have ht_v50 := (hX.2.1 _ hb_v50).1.trans ht_v50
                        have hb_v50 := Nat.lt_of_lt_of_le hb_v50 hX.1
                        have hb0_v50 := hb_v50
                        have hn := Nat.le_refl n
                        have h94 := hS0.1
                        have hX := @yX.rf n tg I63 R
                        have hS := hS0.x hX
                        have hR := hR0.x hn hX
                        have hz := hX.sz h94
                        have hxn := hX.1
                        have hN := hR0.1
                        have hnb := hR0.2.2.2.2.2.2
                        have hthB := hth
                        refine y_aload_n rfl rfl ?_
                        refine y_getIv (v := Int32.ofInt (3)) rfl (ySh.t hS rfl) (ySh.n hS rfl) rfl rfl hth ?_
                        refine y_if_leF rfl (by decide) ?_
                        refine y_iconst rfl ?_
                        refine y_goto rfl j_X14_refuse_28 ?_
                        refine y_ireturn rfl rfl rfl ?_
                        refine y_ret1 ?_
                        refine y_if_eqF rfl (by decide) ?_
                        refine y_iconst rfl ?_
                        refine y_ireturn rfl rfl rfl ?_
                        exact hQ3 _ eb_b15 (by first | omega | (simp only [show ySeat x2 = x2 from if_neg (by omega), show ySeat x3 = x3 from if_neg (by omega)]; omega) | (simp only [show ySeat x2 = x2 from if_neg (by omega), show ySeat x3 = Int32.ofInt 8 from if_pos (by omega), show (Int32.ofInt 8).toInt.toNat = 8 from by decide]; omega) | (simp only [show ySeat x2 = Int32.ofInt 8 from if_pos (by omega), show ySeat x3 = x3 from if_neg (by omega), show (Int32.ofInt 8).toInt.toNat = 8 from by decide]; omega) | (simp only [show ySeat x2 = Int32.ofInt 8 from if_pos (by omega), show ySeat x3 = Int32.ofInt 8 from if_pos (by omega), show (Int32.ofInt 8).toInt.toNat = 8 from by decide]; omega)) _ _ _ _ _ _ _ hS ((hR0.grow hX).up (Nat.le_succ K) hk6) (hK.x hRo hno hX) hth ((hB.trans hX).rf2 (by omega)) (by omega) (by omega)
            · rw [yz_m1] at h_17
              refine y_bip rfl (by decide) ?_
              refine y_goto rfl j_X14_seat_11 ?_
              refine y_ireturn rfl rfl rfl ?_
              refine y_ret1 ?_
              refine y_istore (ls' := [some _, some _, some _, some _, some _, some _, some _, _]) rfl rfl rfl ?_
              refine y_iload_n rfl rfl ?_
              refine y_static rfl rfl rfl rfl rfl ?_
              refine y_in (M := xm_X14_seat) (ls := [some _]) rfl rfl rfl ?_
              refine y_iload_n rfl rfl ?_
              refine y_iconst rfl ?_
              refine y_icmp_ne rfl j_X14_seat_10 (fun h_64 => ?_) (fun h_65 => ?_)
              · rw [yz_m1] at h_64
                refine y_iload_n rfl rfl ?_
                refine y_ireturn rfl rfl rfl ?_
                refine y_ret1 ?_
                refine y_istore (ls' := [some _, some _, some _, some _, some _, some _, some _, some _]) rfl rfl rfl ?_
                refine y_aload_n rfl rfl ?_
                refine y_aload rfl rfl ?_
                obtain ⟨hR_v66, hb_v66, ht_v66⟩ := hR0.ven hlo_b15 hb0_b15 ht_b15 (j := 0) (by decide)
                have hb0_v66 := hb_v66
                have hb_v66 := Nat.lt_of_lt_of_le hb_v66 hn
                have hlo_v66 : 94 ≤ b15 + 1 + 0 := by omega
                have hR2_v66 := (congrFun (hX.2.1 b15 hb_b15).2.2 0).trans hR_v66
                refine y_getR rfl ((hX.2.1 _ hb_b15).1.trans ht_b15) (Nat.lt_of_lt_of_le hb_b15 hX.1) rfl rfl hR2_v66 ?_
                refine y_iload rfl rfl ?_
                refine y_baloadw (j := 8) (J := I (b15 + 1 + 0)) rfl ((hX.2.1 _ hb_v66).1.trans ht_v66) rfl (Nat.lt_of_lt_of_le hb_v66 hX.1) (by decide) (by decide) rfl (((hB.trans hX).n (by omega)).trans (by repeat (first | rfl | (rw [upd2_row (by first | decide | omega)]) | refine upd2_cg ?_))) ?_
                refine y_if_eq rfl j_X14_buyOut_142 (fun h_67 => ?_) (fun h_68 => ?_)
                · refine y_iconst rfl ?_
                  refine y_goto rfl j_X14_buyOut_147 ?_
                  refine y_iconst rfl ?_
                  refine y_virt rfl rfl rfl rfl rfl (ySh.t hS rfl) (ySh.n hS rfl) ?_
                  refine y_in (M := xm_X14_refuse) (ls := [some _, some _, some _]) rfl rfl rfl ?_
                  refine y_iload_n rfl rfl ?_
                  refine y_if_eqF rfl (by decide) ?_
                  refine y_aload_n rfl rfl ?_
                  refine y_getIv (v := Int32.ofInt (0)) rfl (ySh.t hS rfl) (ySh.n hS rfl) rfl rfl hth ?_
                  refine y_if_neF rfl (by decide) ?_
                  refine y_aload_n rfl rfl ?_
                  refine y_iload_n rfl rfl ?_
                  refine y_putI rfl (ySh.t hS rfl) (ySh.n hS rfl) rfl (Nat.le_of_ble_eq_true rfl) rfl rfl ?_
                  refine y_nameI (fun I69 e69 => ?_)
                  have hR1 := (hR0.grow hX).mod0 e69 (by decide) (by decide)
                  have hK := (hK.x hRo hno hX).upI (upI e69) (by decide) (by decide) (fun i hi => by have := (hRo.l87.2.2.2.2 i hi).2.1; omega) (by rw [e69, upd2_ne (.inr (by decide))]; exact Int.le_refl _)
                  have hth : I69 83 0 = Int32.ofInt (3) := by rw [e69, upd2_self]
                  have hzz : ySz8 I8 I69 := ySz8_of (upI e69) (by rw [e69]; exact ⟨upd2_ne (.inr (by decide)), upd2_ne (.inr (by decide))⟩)
                  have hB := (hB.trans hX).wr e69 rfl
                  have h8 : ∀ a, 84 ≤ a → a ≤ 86 → I69 a = I a := fun a h1 h2 => (upI e69 a (by omega)).trans ((hX.2.1 a (by omega)).2.1.trans (h8 a h1 h2))
                  have h3k : ∀ k, k ≠ 0 → I69 83 k = I 83 k := fun k hk => (congrFun (congrFun e69 83) k).trans ((upd2_ne (.inr hk)).trans ((congrFun (hX.2.1 83 (by omega)).2.1 k).trans (h3k k hk)))
                  have hg := (hg.gx hX (by omega)).skip e69 (by decide)
                  have hday : I69 83 1 = I 83 1 := (congrFun (congrFun e69 83) 1).trans ((upd2_ne (.inr (by decide))).trans ((congrFun (hX.2.1 83 (by omega)).2.1 1).trans hday))
                  have hRb : ∀ a, a < n → R a = R a := fun a ha => (hX.2.1 a (by omega)).2.2.trans (hRb a ha)
                  have hb83 : ∀ a, a ≠ 83 → a < n → I69 a = I a := fun a ha hb => (upI e69 a ha).trans ((hX.2.1 a (by omega)).2.1.trans (hb83 a ha hb))
                  have hS0 := hS
                  have hR0 := hR1
                  have ht_b15 := (hX.2.1 _ hb_b15).1.trans ht_b15
                  have hb_b15 := Nat.lt_of_lt_of_le hb_b15 hX.1
                  have hb0_b15 := hb_b15
                  have ht_v66 := (hX.2.1 _ hb_v66).1.trans ht_v66
                  have hb_v66 := Nat.lt_of_lt_of_le hb_v66 hX.1
                  have hb0_v66 := hb_v66
                  have hn := Nat.le_refl n
                  have h94 := hS0.1
                  have hX := @yX.rf n tg I69 R
                  have hS := hS0.x hX
                  have hR := hR0.x hn hX
                  have hz := hX.sz h94
                  have hxn := hX.1
                  have hN := hR0.1
                  have hnb := hR0.2.2.2.2.2.2
                  have hthB := hth
                  refine y_aload_n rfl rfl ?_
                  refine y_getIv (v := Int32.ofInt (3)) rfl (ySh.t hS rfl) (ySh.n hS rfl) rfl rfl hth ?_
                  refine y_if_leF rfl (by decide) ?_
                  refine y_iconst rfl ?_
                  refine y_goto rfl j_X14_refuse_28 ?_
                  refine y_ireturn rfl rfl rfl ?_
                  refine y_ret1 ?_
                  refine y_if_eqF rfl (by decide) ?_
                  refine y_iconst rfl ?_
                  refine y_ireturn rfl rfl rfl ?_
                  exact hQ3 _ eb_b15 (by first | omega | (simp only [show ySeat x2 = x2 from if_neg (by omega), show ySeat x3 = x3 from if_neg (by omega)]; omega) | (simp only [show ySeat x2 = x2 from if_neg (by omega), show ySeat x3 = Int32.ofInt 8 from if_pos (by omega), show (Int32.ofInt 8).toInt.toNat = 8 from by decide]; omega) | (simp only [show ySeat x2 = Int32.ofInt 8 from if_pos (by omega), show ySeat x3 = x3 from if_neg (by omega), show (Int32.ofInt 8).toInt.toNat = 8 from by decide]; omega) | (simp only [show ySeat x2 = Int32.ofInt 8 from if_pos (by omega), show ySeat x3 = Int32.ofInt 8 from if_pos (by omega), show (Int32.ofInt 8).toInt.toNat = 8 from by decide]; omega)) _ _ _ _ _ _ _ hS ((hR0.grow hX).up (Nat.le_succ K) hk6) (hK.x hRo hno hX) hth ((hB.trans hX).rf2 (by omega)) (by omega) (by omega)
                · refine y_aload rfl rfl ?_
                  obtain ⟨hR_v70, hb_v70, ht_v70⟩ := hR0.ven hlo_b15 hb0_b15 ht_b15 (j := 0) (by decide)
                  have hb0_v70 := hb_v70
                  have hb_v70 := Nat.lt_of_lt_of_le hb_v70 hn
                  have hlo_v70 : 94 ≤ b15 + 1 + 0 := by omega
                  have hR2_v70 := (congrFun (hX.2.1 b15 hb_b15).2.2 0).trans hR_v70
                  refine y_getR rfl ((hX.2.1 _ hb_b15).1.trans ht_b15) (Nat.lt_of_lt_of_le hb_b15 hX.1) rfl rfl hR2_v70 ?_
                  refine y_iload rfl rfl ?_
                  refine y_baloadv (J := I (b15 + 1 + 0)) rfl ((hX.2.1 _ hb_v70).1.trans ht_v70) rfl (Nat.lt_of_lt_of_le hb_v70 hX.1) (by omega) (by omega) (((hB.trans hX).n (by omega)).trans (by repeat (first | rfl | (rw [upd2_row (by first | decide | omega)]) | refine upd2_cg ?_))) ?_
                  refine y_if_eq rfl j_X14_buyOut_142 (fun h_71 => ?_) (fun h_72 => ?_)
                  · refine y_iconst rfl ?_
                    refine y_goto rfl j_X14_buyOut_147 ?_
                    refine y_iconst rfl ?_
                    refine y_virt rfl rfl rfl rfl rfl (ySh.t hS rfl) (ySh.n hS rfl) ?_
                    refine y_in (M := xm_X14_refuse) (ls := [some _, some _, some _]) rfl rfl rfl ?_
                    refine y_iload_n rfl rfl ?_
                    refine y_if_eqF rfl (by decide) ?_
                    refine y_aload_n rfl rfl ?_
                    refine y_getIv (v := Int32.ofInt (0)) rfl (ySh.t hS rfl) (ySh.n hS rfl) rfl rfl hth ?_
                    refine y_if_neF rfl (by decide) ?_
                    refine y_aload_n rfl rfl ?_
                    refine y_iload_n rfl rfl ?_
                    refine y_putI rfl (ySh.t hS rfl) (ySh.n hS rfl) rfl (Nat.le_of_ble_eq_true rfl) rfl rfl ?_
                    refine y_nameI (fun I73 e73 => ?_)
                    have hR1 := (hR0.grow hX).mod0 e73 (by decide) (by decide)
                    have hK := (hK.x hRo hno hX).upI (upI e73) (by decide) (by decide) (fun i hi => by have := (hRo.l87.2.2.2.2 i hi).2.1; omega) (by rw [e73, upd2_ne (.inr (by decide))]; exact Int.le_refl _)
                    have hth : I73 83 0 = Int32.ofInt (3) := by rw [e73, upd2_self]
                    have hzz : ySz8 I8 I73 := ySz8_of (upI e73) (by rw [e73]; exact ⟨upd2_ne (.inr (by decide)), upd2_ne (.inr (by decide))⟩)
                    have hB := (hB.trans hX).wr e73 rfl
                    have h8 : ∀ a, 84 ≤ a → a ≤ 86 → I73 a = I a := fun a h1 h2 => (upI e73 a (by omega)).trans ((hX.2.1 a (by omega)).2.1.trans (h8 a h1 h2))
                    have h3k : ∀ k, k ≠ 0 → I73 83 k = I 83 k := fun k hk => (congrFun (congrFun e73 83) k).trans ((upd2_ne (.inr hk)).trans ((congrFun (hX.2.1 83 (by omega)).2.1 k).trans (h3k k hk)))
                    have hg := (hg.gx hX (by omega)).skip e73 (by decide)
                    have hday : I73 83 1 = I 83 1 := (congrFun (congrFun e73 83) 1).trans ((upd2_ne (.inr (by decide))).trans ((congrFun (hX.2.1 83 (by omega)).2.1 1).trans hday))
                    have hRb : ∀ a, a < n → R a = R a := fun a ha => (hX.2.1 a (by omega)).2.2.trans (hRb a ha)
                    have hb83 : ∀ a, a ≠ 83 → a < n → I73 a = I a := fun a ha hb => (upI e73 a ha).trans ((hX.2.1 a (by omega)).2.1.trans (hb83 a ha hb))
                    have hS0 := hS
                    have hR0 := hR1
                    have ht_b15 := (hX.2.1 _ hb_b15).1.trans ht_b15
                    have hb_b15 := Nat.lt_of_lt_of_le hb_b15 hX.1
                    have hb0_b15 := hb_b15
                    have ht_v66 := (hX.2.1 _ hb_v66).1.trans ht_v66
                    have hb_v66 := Nat.lt_of_lt_of_le hb_v66 hX.1
                    have hb0_v66 := hb_v66
                    have ht_v70 := (hX.2.1 _ hb_v70).1.trans ht_v70
                    have hb_v70 := Nat.lt_of_lt_of_le hb_v70 hX.1
                    have hb0_v70 := hb_v70
                    have hn := Nat.le_refl n
                    have h94 := hS0.1
                    have hX := @yX.rf n tg I73 R
                    have hS := hS0.x hX
                    have hR := hR0.x hn hX
                    have hz := hX.sz h94
                    have hxn := hX.1
                    have hN := hR0.1
                    have hnb := hR0.2.2.2.2.2.2
                    have hthB := hth
                    refine y_aload_n rfl rfl ?_
                    refine y_getIv (v := Int32.ofInt (3)) rfl (ySh.t hS rfl) (ySh.n hS rfl) rfl rfl hth ?_
                    refine y_if_leF rfl (by decide) ?_
                    refine y_iconst rfl ?_
                    refine y_goto rfl j_X14_refuse_28 ?_
                    refine y_ireturn rfl rfl rfl ?_
                    refine y_ret1 ?_
                    refine y_if_eqF rfl (by decide) ?_
                    refine y_iconst rfl ?_
                    refine y_ireturn rfl rfl rfl ?_
                    exact hQ3 _ eb_b15 (by first | omega | (simp only [show ySeat x2 = x2 from if_neg (by omega), show ySeat x3 = x3 from if_neg (by omega)]; omega) | (simp only [show ySeat x2 = x2 from if_neg (by omega), show ySeat x3 = Int32.ofInt 8 from if_pos (by omega), show (Int32.ofInt 8).toInt.toNat = 8 from by decide]; omega) | (simp only [show ySeat x2 = Int32.ofInt 8 from if_pos (by omega), show ySeat x3 = x3 from if_neg (by omega), show (Int32.ofInt 8).toInt.toNat = 8 from by decide]; omega) | (simp only [show ySeat x2 = Int32.ofInt 8 from if_pos (by omega), show ySeat x3 = Int32.ofInt 8 from if_pos (by omega), show (Int32.ofInt 8).toInt.toNat = 8 from by decide]; omega)) _ _ _ _ _ _ _ hS ((hR0.grow hX).up (Nat.le_succ K) hk6) (hK.x hRo hno hX) hth ((hB.trans hX).rf2 (by omega)) (by omega) (by omega)
                  · refine y_aload rfl rfl ?_
                    obtain ⟨hR_v74, hb_v74, ht_v74⟩ := hR0.ven hlo_b15 hb0_b15 ht_b15 (j := 1) (by decide)
                    have hb0_v74 := hb_v74
                    have hb_v74 := Nat.lt_of_lt_of_le hb_v74 hn
                    have hlo_v74 : 94 ≤ b15 + 1 + 1 := by omega
                    have hR2_v74 := (congrFun (hX.2.1 b15 hb_b15).2.2 1).trans hR_v74
                    refine y_getR rfl ((hX.2.1 _ hb_b15).1.trans ht_b15) (Nat.lt_of_lt_of_le hb_b15 hX.1) rfl rfl hR2_v74 ?_
                    refine y_iload rfl rfl ?_
                    refine y_ialoadw (j := 8) (J := I (b15 + 1 + 1)) rfl ((hX.2.1 _ hb_v74).1.trans ht_v74) (Nat.lt_of_lt_of_le hb_v74 hX.1) (by decide) (by decide) rfl (((hB.trans hX).n (by omega)).trans (by repeat (first | rfl | (rw [upd2_row (by first | decide | omega)]) | refine upd2_cg ?_))) ?_
                    refine y_iload rfl rfl ?_
                    refine y_icmp_lt rfl j_X14_buyOut_142 (fun h_75 => ?_) (fun h_76 => ?_)
                    · refine y_iconst rfl ?_
                      refine y_goto rfl j_X14_buyOut_147 ?_
                      refine y_iconst rfl ?_
                      refine y_virt rfl rfl rfl rfl rfl (ySh.t hS rfl) (ySh.n hS rfl) ?_
                      refine y_in (M := xm_X14_refuse) (ls := [some _, some _, some _]) rfl rfl rfl ?_
                      refine y_iload_n rfl rfl ?_
                      refine y_if_eqF rfl (by decide) ?_
                      refine y_aload_n rfl rfl ?_
                      refine y_getIv (v := Int32.ofInt (0)) rfl (ySh.t hS rfl) (ySh.n hS rfl) rfl rfl hth ?_
                      refine y_if_neF rfl (by decide) ?_
                      refine y_aload_n rfl rfl ?_
                      refine y_iload_n rfl rfl ?_
                      refine y_putI rfl (ySh.t hS rfl) (ySh.n hS rfl) rfl (Nat.le_of_ble_eq_true rfl) rfl rfl ?_
                      refine y_nameI (fun I77 e77 => ?_)
                      have hR1 := (hR0.grow hX).mod0 e77 (by decide) (by decide)
                      have hK := (hK.x hRo hno hX).upI (upI e77) (by decide) (by decide) (fun i hi => by have := (hRo.l87.2.2.2.2 i hi).2.1; omega) (by rw [e77, upd2_ne (.inr (by decide))]; exact Int.le_refl _)
                      have hth : I77 83 0 = Int32.ofInt (3) := by rw [e77, upd2_self]
                      have hzz : ySz8 I8 I77 := ySz8_of (upI e77) (by rw [e77]; exact ⟨upd2_ne (.inr (by decide)), upd2_ne (.inr (by decide))⟩)
                      have hB := (hB.trans hX).wr e77 rfl
                      have h8 : ∀ a, 84 ≤ a → a ≤ 86 → I77 a = I a := fun a h1 h2 => (upI e77 a (by omega)).trans ((hX.2.1 a (by omega)).2.1.trans (h8 a h1 h2))
                      have h3k : ∀ k, k ≠ 0 → I77 83 k = I 83 k := fun k hk => (congrFun (congrFun e77 83) k).trans ((upd2_ne (.inr hk)).trans ((congrFun (hX.2.1 83 (by omega)).2.1 k).trans (h3k k hk)))
                      have hg := (hg.gx hX (by omega)).skip e77 (by decide)
                      have hday : I77 83 1 = I 83 1 := (congrFun (congrFun e77 83) 1).trans ((upd2_ne (.inr (by decide))).trans ((congrFun (hX.2.1 83 (by omega)).2.1 1).trans hday))
                      have hRb : ∀ a, a < n → R a = R a := fun a ha => (hX.2.1 a (by omega)).2.2.trans (hRb a ha)
                      have hb83 : ∀ a, a ≠ 83 → a < n → I77 a = I a := fun a ha hb => (upI e77 a ha).trans ((hX.2.1 a (by omega)).2.1.trans (hb83 a ha hb))
                      have hS0 := hS
                      have hR0 := hR1
                      have ht_b15 := (hX.2.1 _ hb_b15).1.trans ht_b15
                      have hb_b15 := Nat.lt_of_lt_of_le hb_b15 hX.1
                      have hb0_b15 := hb_b15
                      have ht_v66 := (hX.2.1 _ hb_v66).1.trans ht_v66
                      have hb_v66 := Nat.lt_of_lt_of_le hb_v66 hX.1
                      have hb0_v66 := hb_v66
                      have ht_v70 := (hX.2.1 _ hb_v70).1.trans ht_v70
                      have hb_v70 := Nat.lt_of_lt_of_le hb_v70 hX.1
                      have hb0_v70 := hb_v70
                      have ht_v74 := (hX.2.1 _ hb_v74).1.trans ht_v74
                      have hb_v74 := Nat.lt_of_lt_of_le hb_v74 hX.1
                      have hb0_v74 := hb_v74
                      have hn := Nat.le_refl n
                      have h94 := hS0.1
                      have hX := @yX.rf n tg I77 R
                      have hS := hS0.x hX
                      have hR := hR0.x hn hX
                      have hz := hX.sz h94
                      have hxn := hX.1
                      have hN := hR0.1
                      have hnb := hR0.2.2.2.2.2.2
                      have hthB := hth
                      refine y_aload_n rfl rfl ?_
                      refine y_getIv (v := Int32.ofInt (3)) rfl (ySh.t hS rfl) (ySh.n hS rfl) rfl rfl hth ?_
                      refine y_if_leF rfl (by decide) ?_
                      refine y_iconst rfl ?_
                      refine y_goto rfl j_X14_refuse_28 ?_
                      refine y_ireturn rfl rfl rfl ?_
                      refine y_ret1 ?_
                      refine y_if_eqF rfl (by decide) ?_
                      refine y_iconst rfl ?_
                      refine y_ireturn rfl rfl rfl ?_
                      exact hQ3 _ eb_b15 (by first | omega | (simp only [show ySeat x2 = x2 from if_neg (by omega), show ySeat x3 = x3 from if_neg (by omega)]; omega) | (simp only [show ySeat x2 = x2 from if_neg (by omega), show ySeat x3 = Int32.ofInt 8 from if_pos (by omega), show (Int32.ofInt 8).toInt.toNat = 8 from by decide]; omega) | (simp only [show ySeat x2 = Int32.ofInt 8 from if_pos (by omega), show ySeat x3 = x3 from if_neg (by omega), show (Int32.ofInt 8).toInt.toNat = 8 from by decide]; omega) | (simp only [show ySeat x2 = Int32.ofInt 8 from if_pos (by omega), show ySeat x3 = Int32.ofInt 8 from if_pos (by omega), show (Int32.ofInt 8).toInt.toNat = 8 from by decide]; omega)) _ _ _ _ _ _ _ hS ((hR0.grow hX).up (Nat.le_succ K) hk6) (hK.x hRo hno hX) hth ((hB.trans hX).rf2 (by omega)) (by omega) (by omega)
                    · refine y_aload_n rfl rfl ?_
                      refine y_getR rfl (ySh.t hS rfl) (ySh.n hS rfl) rfl rfl (ySh.r hS rfl) ?_
                      refine y_iload rfl rfl ?_
                      refine y_ialoadv (J := I 84) rfl (ySh.t hS rfl) (ySh.n hS rfl) (by omega) (by omega) (((hB.trans hX).n (by omega)).trans (by repeat (first | rfl | (rw [upd2_row (by first | decide | omega)]) | refine upd2_cg ?_))) ?_
                      refine y_iload rfl rfl ?_
                      refine y_icmp_ge rfl j_X14_buyOut_146 (fun h_78 => ?_) (fun h_79 => ?_)
                      · refine y_iconst rfl ?_
                        refine y_iconst rfl ?_
                        refine y_virt rfl rfl rfl rfl rfl (ySh.t hS rfl) (ySh.n hS rfl) ?_
                        refine y_in (M := xm_X14_refuse) (ls := [some _, some _, some _]) rfl rfl rfl ?_
                        refine y_iload_n rfl rfl ?_
                        refine y_if_eqT rfl j_X14_refuse_16 (by decide) ?_
                        refine y_aload_n rfl rfl ?_
                        refine y_getIv (v := Int32.ofInt (0)) rfl (ySh.t hS rfl) (ySh.n hS rfl) rfl rfl hth ?_
                        refine y_if_leT rfl j_X14_refuse_27 (by decide) ?_
                        refine y_iconst rfl ?_
                        refine y_ireturn rfl rfl rfl ?_
                        refine y_ret1 ?_
                        refine y_if_eqT rfl j_X14_buyOut_156 (by decide) ?_
                        refine y_aload rfl rfl ?_
                        obtain ⟨hR_v80, hb_v80, ht_v80⟩ := hR0.ven hlo_b15 hb0_b15 ht_b15 (j := 1) (by decide)
                        have hb0_v80 := hb_v80
                        have hb_v80 := Nat.lt_of_lt_of_le hb_v80 hn
                        have hlo_v80 : 94 ≤ b15 + 1 + 1 := by omega
                        have hR2_v80 := (congrFun (hX.2.1 b15 hb_b15).2.2 1).trans hR_v80
                        refine y_getR rfl ((hX.2.1 _ hb_b15).1.trans ht_b15) (Nat.lt_of_lt_of_le hb_b15 hX.1) rfl rfl hR2_v80 ?_
                        refine y_iload rfl rfl ?_
                        refine y_dup2 rfl rfl rfl ?_
                        refine y_ialoadw (j := 8) (J := I (b15 + 1 + 1)) rfl ((hX.2.1 _ hb_v80).1.trans ht_v80) (Nat.lt_of_lt_of_le hb_v80 hX.1) (by decide) (by decide) rfl (((hB.trans hX).n (by omega)).trans (by repeat (first | rfl | (rw [upd2_row (by first | decide | omega)]) | refine upd2_cg ?_))) ?_
                        refine y_iload rfl rfl ?_
                        refine y_isub rfl ?_
                        refine y_iastoreC (j := 8) rfl ((hX.2.1 _ hb_v80).1.trans ht_v80) (Nat.lt_of_lt_of_le hb_v80 hX.1) (Nat.le_trans (by decide) (by omega : 94 ≤ _)) (by decide) (by decide) rfl ?_
                        refine y_nameI (fun I81 e81 => ?_)
                        have hB1 := (hR0.grow hX).capB1x hlo_b15 (by omega) ((hX.2.1 _ hb_b15).1.trans ht_b15) (by omega) e81 (by rw [show I8 (b15 + 1 + 1) = I (b15 + 1 + 1) from ((hB.trans hX).n (by omega)).trans (by repeat (first | rfl | (rw [upd2_row (by first | decide | omega)]) | refine upd2_cg ?_))]) ⟨by omega, by rw [show I8 (b15 + 1 + 1) = I (b15 + 1 + 1) from ((hB.trans hX).n (by omega)).trans (by repeat (first | rfl | (rw [upd2_row (by first | decide | omega)]) | refine upd2_cg ?_))]; omega⟩
                        have hR1 := hB1.1
                        have hK := (hK.x hRo hno hX).upE hRo hno (upI e81) (by omega) (by omega) (by rw [((hX.2.1 _ hb_v80).1.trans ht_v80)]; decide) (by rw [e81, upd2_ne (.inl (by omega))]; exact Int.le_refl _)
                        have hth := (show I81 83 0 = I8 83 0 by rw [e81, upd2_ne (.inl (by omega))]).trans hth
                        have hzz : ySz I8 I81 := ySz_ofE (upI e81) (by omega)
                        have hB := (hB.trans hX).wr e81 rfl
                        have h8 : ∀ a, 84 ≤ a → a ≤ 86 → I81 a = I a := fun a h1 h2 => (upI e81 a (by omega)).trans ((hX.2.1 a (by omega)).2.1.trans (h8 a h1 h2))
                        have h3k : ∀ k, k ≠ 0 → I81 83 k = I 83 k := fun k hk => (congrFun (congrFun e81 83) k).trans ((upd2_ne (.inl (by omega))).trans ((congrFun (hX.2.1 83 (by omega)).2.1 k).trans (h3k k hk)))
                        have hg := (hg.gx hX (by omega)).both e81
                        have hday : I81 83 1 = I 83 1 := (congrFun (congrFun e81 83) 1).trans ((upd2_ne (.inl (by omega))).trans ((congrFun (hX.2.1 83 (by omega)).2.1 1).trans hday))
                        have hRb : ∀ a, a < n → R a = R a := fun a ha => (hX.2.1 a (by omega)).2.2.trans (hRb a ha)
                        have hS0 := hS
                        have hR0 := hR1
                        have ht_b15 := (hX.2.1 _ hb_b15).1.trans ht_b15
                        have hb_b15 := Nat.lt_of_lt_of_le hb_b15 hX.1
                        have hb0_b15 := hb_b15
                        have ht_v66 := (hX.2.1 _ hb_v66).1.trans ht_v66
                        have hb_v66 := Nat.lt_of_lt_of_le hb_v66 hX.1
                        have hb0_v66 := hb_v66
                        have ht_v70 := (hX.2.1 _ hb_v70).1.trans ht_v70
                        have hb_v70 := Nat.lt_of_lt_of_le hb_v70 hX.1
                        have hb0_v70 := hb_v70
                        have ht_v74 := (hX.2.1 _ hb_v74).1.trans ht_v74
                        have hb_v74 := Nat.lt_of_lt_of_le hb_v74 hX.1
                        have hb0_v74 := hb_v74
                        have ht_v80 := (hX.2.1 _ hb_v80).1.trans ht_v80
                        have hb_v80 := Nat.lt_of_lt_of_le hb_v80 hX.1
                        have hb0_v80 := hb_v80
                        have hn := Nat.le_refl n
                        have h94 := hS0.1
                        have hX := @yX.rf n tg I81 R
                        have hS := hS0.x hX
                        have hR := hR0.x hn hX
                        have hz := hX.sz h94
                        have hxn := hX.1
                        have hN := hR0.1
                        have hnb := hR0.2.2.2.2.2.2
                        have hthB := hth
                        refine y_aload rfl rfl ?_
                        obtain ⟨hR_v82, hb_v82, ht_v82⟩ := hR0.ven hlo_b15 hb0_b15 ht_b15 (j := 1) (by decide)
                        have hb0_v82 := hb_v82
                        have hb_v82 := Nat.lt_of_lt_of_le hb_v82 hn
                        have hlo_v82 : 94 ≤ b15 + 1 + 1 := by omega
                        have hR2_v82 := (congrFun (hX.2.1 b15 hb_b15).2.2 1).trans hR_v82
                        refine y_getR rfl ((hX.2.1 _ hb_b15).1.trans ht_b15) (Nat.lt_of_lt_of_le hb_b15 hX.1) rfl rfl hR2_v82 ?_
                        refine y_iload rfl rfl ?_
                        refine y_dup2 rfl rfl rfl ?_
                        refine y_ialoadv (J := _) rfl ((hX.2.1 _ hb_v82).1.trans ht_v82) (Nat.lt_of_lt_of_le hb_v82 hX.1) (by omega) (by omega) ((hB.trans hX).n (by omega)) ?_
                        refine y_iload rfl rfl ?_
                        refine y_iadd rfl ?_
                        refine y_iastore rfl ((hX.2.1 _ hb_v82).1.trans ht_v82) (Nat.lt_of_lt_of_le hb_v82 hX.1) (Nat.le_trans (by decide) (by omega : 94 ≤ _)) (by omega) (by omega) ?_
                        refine y_nameI (fun I83 e83 => ?_)
                        have hR1 := (hR0.grow hX).capB2x hlo_b15 (by omega) ((hX.2.1 _ hb_b15).1.trans ht_b15) (by omega) (by omega) hB1.2.1 e83 (by rw [show I81 (b15 + 1 + 1) = _ from ((hB.trans hX).n (by omega))])
                        have hK := (hK.x hRo hno hX).upE hRo hno (upI e83) (by omega) (by omega) (by rw [((hX.2.1 _ hb_v82).1.trans ht_v82)]; decide) (by rw [e83, upd2_ne (.inl (by omega))]; exact Int.le_refl _)
                        have hth := (show I83 83 0 = I81 83 0 by rw [e83, upd2_ne (.inl (by omega))]).trans hth
                        have hzz : ySz I81 I83 := ySz_ofE (upI e83) (by omega)
                        have hB := (hB.trans hX).wr e83 rfl
                        have h8 : ∀ a, 84 ≤ a → a ≤ 86 → I83 a = I a := fun a h1 h2 => (upI e83 a (by omega)).trans ((hX.2.1 a (by omega)).2.1.trans (h8 a h1 h2))
                        have h3k : ∀ k, k ≠ 0 → I83 83 k = I 83 k := fun k hk => (congrFun (congrFun e83 83) k).trans ((upd2_ne (.inl (by omega))).trans ((congrFun (hX.2.1 83 (by omega)).2.1 k).trans (h3k k hk)))
                        have hg := (hg.gx hX (by omega)).both e83
                        have hday : I83 83 1 = I 83 1 := (congrFun (congrFun e83 83) 1).trans ((upd2_ne (.inl (by omega))).trans ((congrFun (hX.2.1 83 (by omega)).2.1 1).trans hday))
                        have hRb : ∀ a, a < n → R a = R a := fun a ha => (hX.2.1 a (by omega)).2.2.trans (hRb a ha)
                        have hS0 := hS
                        have hR0 := hR1
                        have ht_b15 := (hX.2.1 _ hb_b15).1.trans ht_b15
                        have hb_b15 := Nat.lt_of_lt_of_le hb_b15 hX.1
                        have hb0_b15 := hb_b15
                        have ht_v66 := (hX.2.1 _ hb_v66).1.trans ht_v66
                        have hb_v66 := Nat.lt_of_lt_of_le hb_v66 hX.1
                        have hb0_v66 := hb_v66
                        have ht_v70 := (hX.2.1 _ hb_v70).1.trans ht_v70
                        have hb_v70 := Nat.lt_of_lt_of_le hb_v70 hX.1
                        have hb0_v70 := hb_v70
                        have ht_v74 := (hX.2.1 _ hb_v74).1.trans ht_v74
                        have hb_v74 := Nat.lt_of_lt_of_le hb_v74 hX.1
                        have hb0_v74 := hb_v74
                        have ht_v80 := (hX.2.1 _ hb_v80).1.trans ht_v80
                        have hb_v80 := Nat.lt_of_lt_of_le hb_v80 hX.1
                        have hb0_v80 := hb_v80
                        have ht_v82 := (hX.2.1 _ hb_v82).1.trans ht_v82
                        have hb_v82 := Nat.lt_of_lt_of_le hb_v82 hX.1
                        have hb0_v82 := hb_v82
                        have hn := Nat.le_refl n
                        have h94 := hS0.1
                        have hX := @yX.rf n tg I83 R
                        have hS := hS0.x hX
                        have hR := hR0.x hn hX
                        have hz := hX.sz h94
                        have hxn := hX.1
                        have hN := hR0.1
                        have hnb := hR0.2.2.2.2.2.2
                        have hthB := hth
                        refine y_aload_n rfl rfl ?_
                        refine y_getR rfl (ySh.t hS rfl) (ySh.n hS rfl) rfl rfl (ySh.r hS rfl) ?_
                        refine y_iload rfl rfl ?_
                        refine y_dup2 rfl rfl rfl ?_
                        refine y_ialoadw (j := 8) (J := I 84) rfl (ySh.t hS rfl) (ySh.n hS rfl) (by decide) (by decide) rfl (((hB.trans hX).n (by omega)).trans (by repeat (first | rfl | (rw [upd2_row (by first | decide | omega)]) | refine upd2_cg ?_))) ?_
                        refine y_iload rfl rfl ?_
                        refine y_iadd rfl ?_
                        refine y_iastoreC (j := 8) rfl (ySh.t hS rfl) (ySh.n hS rfl) (Nat.le_of_ble_eq_true rfl) (by decide) (by decide) rfl ?_
                        refine y_nameI (fun I84 e84 => ?_)
                        have hR1 := (hR0.grow hX).arr e84 (by decide)
                        have hK := (hK.x hRo hno hX).upI (upI e84) (by decide) (by decide) (fun i hi => by have := (hRo.l87.2.2.2.2 i hi).2.1; omega) (by rw [e84, upd2_ne (.inl (by omega))]; exact Int.le_refl _)
                        have hth := (show I84 83 0 = I83 83 0 by rw [e84, upd2_ne (.inl (by omega))]).trans hth
                        have hzz : ySz I83 I84 := ySz_ofE (upI e84) (by omega)
                        have hB := (hB.trans hX).wr e84 rfl
                        have h3k : ∀ k, k ≠ 0 → I84 83 k = I 83 k := fun k hk => (congrFun (congrFun e84 83) k).trans ((upd2_ne (.inl (by omega))).trans ((congrFun (hX.2.1 83 (by omega)).2.1 k).trans (h3k k hk)))
                        have hg := (hg.gx hX (by omega)).skip e84 (by decide)
                        have hday : I84 83 1 = I 83 1 := (congrFun (congrFun e84 83) 1).trans ((upd2_ne (.inl (by omega))).trans ((congrFun (hX.2.1 83 (by omega)).2.1 1).trans hday))
                        have hRb : ∀ a, a < n → R a = R a := fun a ha => (hX.2.1 a (by omega)).2.2.trans (hRb a ha)
                        have hS0 := hS
                        have hR0 := hR1
                        have ht_b15 := (hX.2.1 _ hb_b15).1.trans ht_b15
                        have hb_b15 := Nat.lt_of_lt_of_le hb_b15 hX.1
                        have hb0_b15 := hb_b15
                        have ht_v66 := (hX.2.1 _ hb_v66).1.trans ht_v66
                        have hb_v66 := Nat.lt_of_lt_of_le hb_v66 hX.1
                        have hb0_v66 := hb_v66
                        have ht_v70 := (hX.2.1 _ hb_v70).1.trans ht_v70
                        have hb_v70 := Nat.lt_of_lt_of_le hb_v70 hX.1
                        have hb0_v70 := hb_v70
                        have ht_v74 := (hX.2.1 _ hb_v74).1.trans ht_v74
                        have hb_v74 := Nat.lt_of_lt_of_le hb_v74 hX.1
                        have hb0_v74 := hb_v74
                        have ht_v80 := (hX.2.1 _ hb_v80).1.trans ht_v80
                        have hb_v80 := Nat.lt_of_lt_of_le hb_v80 hX.1
                        have hb0_v80 := hb_v80
                        have ht_v82 := (hX.2.1 _ hb_v82).1.trans ht_v82
                        have hb_v82 := Nat.lt_of_lt_of_le hb_v82 hX.1
                        have hb0_v82 := hb_v82
                        have hn := Nat.le_refl n
                        have h94 := hS0.1
                        have hX := @yX.rf n tg I84 R
                        have hS := hS0.x hX
                        have hR := hR0.x hn hX
                        have hz := hX.sz h94
                        have hxn := hX.1
                        have hN := hR0.1
                        have hnb := hR0.2.2.2.2.2.2
                        have hthB := hth
                        refine y_aload_n rfl rfl ?_
                        refine y_getR rfl (ySh.t hS rfl) (ySh.n hS rfl) rfl rfl (ySh.r hS rfl) ?_
                        refine y_iload rfl rfl ?_
                        refine y_dup2 rfl rfl rfl ?_
                        refine y_ialoadv (J := _) rfl (ySh.t hS rfl) (ySh.n hS rfl) (by omega) (by omega) ((hB.trans hX).n (by omega)) ?_
                        refine y_iload rfl rfl ?_
                        refine y_isub rfl ?_
                        refine y_iastore rfl (ySh.t hS rfl) (ySh.n hS rfl) (Nat.le_of_ble_eq_true rfl) (by omega) (by omega) ?_
                        refine y_nameI (fun I85 e85 => ?_)
                        have hR1 := (hR0.grow hX).arr e85 (by decide)
                        have hK := (hK.x hRo hno hX).upI (upI e85) (by decide) (by decide) (fun i hi => by have := (hRo.l87.2.2.2.2 i hi).2.1; omega) (by rw [e85, upd2_ne (.inl (by omega))]; exact Int.le_refl _)
                        have hth := (show I85 83 0 = I84 83 0 by rw [e85, upd2_ne (.inl (by omega))]).trans hth
                        have hzz : ySz I84 I85 := ySz_ofE (upI e85) (by omega)
                        have hB := (hB.trans hX).wr e85 rfl
                        have h3k : ∀ k, k ≠ 0 → I85 83 k = I 83 k := fun k hk => (congrFun (congrFun e85 83) k).trans ((upd2_ne (.inl (by omega))).trans ((congrFun (hX.2.1 83 (by omega)).2.1 k).trans (h3k k hk)))
                        have hg := (hg.gx hX (by omega)).skip e85 (by decide)
                        have hday : I85 83 1 = I 83 1 := (congrFun (congrFun e85 83) 1).trans ((upd2_ne (.inl (by omega))).trans ((congrFun (hX.2.1 83 (by omega)).2.1 1).trans hday))
                        have hRb : ∀ a, a < n → R a = R a := fun a ha => (hX.2.1 a (by omega)).2.2.trans (hRb a ha)
                        have hS0 := hS
                        have hR0 := hR1
                        have ht_b15 := (hX.2.1 _ hb_b15).1.trans ht_b15
                        have hb_b15 := Nat.lt_of_lt_of_le hb_b15 hX.1
                        have hb0_b15 := hb_b15
                        have ht_v66 := (hX.2.1 _ hb_v66).1.trans ht_v66
                        have hb_v66 := Nat.lt_of_lt_of_le hb_v66 hX.1
                        have hb0_v66 := hb_v66
                        have ht_v70 := (hX.2.1 _ hb_v70).1.trans ht_v70
                        have hb_v70 := Nat.lt_of_lt_of_le hb_v70 hX.1
                        have hb0_v70 := hb_v70
                        have ht_v74 := (hX.2.1 _ hb_v74).1.trans ht_v74
                        have hb_v74 := Nat.lt_of_lt_of_le hb_v74 hX.1
                        have hb0_v74 := hb_v74
                        have ht_v80 := (hX.2.1 _ hb_v80).1.trans ht_v80
                        have hb_v80 := Nat.lt_of_lt_of_le hb_v80 hX.1
                        have hb0_v80 := hb_v80
                        have ht_v82 := (hX.2.1 _ hb_v82).1.trans ht_v82
                        have hb_v82 := Nat.lt_of_lt_of_le hb_v82 hX.1
                        have hb0_v82 := hb_v82
                        have hn := Nat.le_refl n
                        have h94 := hS0.1
                        have hX := @yX.rf n tg I85 R
                        have hS := hS0.x hX
                        have hR := hR0.x hn hX
                        have hz := hX.sz h94
                        have hxn := hX.1
                        have hN := hR0.1
                        have hnb := hR0.2.2.2.2.2.2
                        have hthB := hth
                        refine y_aload rfl rfl ?_
                        obtain ⟨hR_v86, hb_v86, ht_v86⟩ := hR0.ven hlo_b15 hb0_b15 ht_b15 (j := 1) (by decide)
                        have hb0_v86 := hb_v86
                        have hb_v86 := Nat.lt_of_lt_of_le hb_v86 hn
                        have hlo_v86 : 94 ≤ b15 + 1 + 1 := by omega
                        have hR2_v86 := (congrFun (hX.2.1 b15 hb_b15).2.2 1).trans hR_v86
                        refine y_getR rfl ((hX.2.1 _ hb_b15).1.trans ht_b15) (Nat.lt_of_lt_of_le hb_b15 hX.1) rfl rfl hR2_v86 ?_
                        refine y_iload rfl rfl ?_
                        refine y_ialoadw (j := 8) (J := _) rfl ((hX.2.1 _ hb_v86).1.trans ht_v86) (Nat.lt_of_lt_of_le hb_v86 hX.1) (by decide) (by decide) rfl ((hB.trans hX).n (by omega)) ?_
                        refine y_ireturn rfl rfl rfl ?_
                        exact hQ0 _ eb_b15 (by first | omega | (simp only [show ySeat x2 = x2 from if_neg (by omega), show ySeat x3 = x3 from if_neg (by omega)]; omega) | (simp only [show ySeat x2 = x2 from if_neg (by omega), show ySeat x3 = Int32.ofInt 8 from if_pos (by omega), show (Int32.ofInt 8).toInt.toNat = 8 from by decide]; omega) | (simp only [show ySeat x2 = Int32.ofInt 8 from if_pos (by omega), show ySeat x3 = x3 from if_neg (by omega), show (Int32.ofInt 8).toInt.toNat = 8 from by decide]; omega) | (simp only [show ySeat x2 = Int32.ofInt 8 from if_pos (by omega), show ySeat x3 = Int32.ofInt 8 from if_pos (by omega), show (Int32.ofInt 8).toInt.toNat = 8 from by decide]; omega)) _ _ _ _ _ _ _ hS ((hR0.grow hX).up (Nat.le_succ K) hk6) (hK.x hRo hno hX) hth (by first | exact (congrFun ((hB.trans hX).n (by omega)) _).symm | (simp only [show ySeat x2 = x2 from if_neg (by omega), show ySeat x3 = x3 from if_neg (by omega)]; exact (congrFun ((hB.trans hX).n (by omega)) _).symm) | (simp only [show ySeat x2 = x2 from if_neg (by omega), show ySeat x3 = Int32.ofInt 8 from if_pos (by omega), show (Int32.ofInt 8).toInt.toNat = 8 from by decide]; exact (congrFun ((hB.trans hX).n (by omega)) _).symm) | (simp only [show ySeat x2 = Int32.ofInt 8 from if_pos (by omega), show ySeat x3 = x3 from if_neg (by omega), show (Int32.ofInt 8).toInt.toNat = 8 from by decide]; exact (congrFun ((hB.trans hX).n (by omega)) _).symm) | (simp only [show ySeat x2 = Int32.ofInt 8 from if_pos (by omega), show ySeat x3 = Int32.ofInt 8 from if_pos (by omega), show (Int32.ofInt 8).toInt.toNat = 8 from by decide]; exact (congrFun ((hB.trans hX).n (by omega)) _).symm)) (by first | (exact hB.trans hX) | (simp only [show ySeat x2 = x2 from if_neg (by omega), show ySeat x3 = x3 from if_neg (by omega)]; exact hB.trans hX) | (simp only [show ySeat x2 = x2 from if_neg (by omega), show ySeat x3 = Int32.ofInt 8 from if_pos (by omega), show (Int32.ofInt 8).toInt.toNat = 8 from by decide]; exact hB.trans hX) | (simp only [show ySeat x2 = Int32.ofInt 8 from if_pos (by omega), show ySeat x3 = x3 from if_neg (by omega), show (Int32.ofInt 8).toInt.toNat = 8 from by decide]; exact hB.trans hX) | (simp only [show ySeat x2 = Int32.ofInt 8 from if_pos (by omega), show ySeat x3 = Int32.ofInt 8 from if_pos (by omega), show (Int32.ofInt 8).toInt.toNat = 8 from by decide]; exact hB.trans hX)) (by omega) (by omega)
                      · refine y_iconst rfl ?_
                        refine y_goto rfl j_X14_buyOut_147 ?_
                        refine y_iconst rfl ?_
                        refine y_virt rfl rfl rfl rfl rfl (ySh.t hS rfl) (ySh.n hS rfl) ?_
                        refine y_in (M := xm_X14_refuse) (ls := [some _, some _, some _]) rfl rfl rfl ?_
                        refine y_iload_n rfl rfl ?_
                        refine y_if_eqF rfl (by decide) ?_
                        refine y_aload_n rfl rfl ?_
                        refine y_getIv (v := Int32.ofInt (0)) rfl (ySh.t hS rfl) (ySh.n hS rfl) rfl rfl hth ?_
                        refine y_if_neF rfl (by decide) ?_
                        refine y_aload_n rfl rfl ?_
                        refine y_iload_n rfl rfl ?_
                        refine y_putI rfl (ySh.t hS rfl) (ySh.n hS rfl) rfl (Nat.le_of_ble_eq_true rfl) rfl rfl ?_
                        refine y_nameI (fun I87 e87 => ?_)
                        have hR1 := (hR0.grow hX).mod0 e87 (by decide) (by decide)
                        have hK := (hK.x hRo hno hX).upI (upI e87) (by decide) (by decide) (fun i hi => by have := (hRo.l87.2.2.2.2 i hi).2.1; omega) (by rw [e87, upd2_ne (.inr (by decide))]; exact Int.le_refl _)
                        have hth : I87 83 0 = Int32.ofInt (3) := by rw [e87, upd2_self]
                        have hzz : ySz8 I8 I87 := ySz8_of (upI e87) (by rw [e87]; exact ⟨upd2_ne (.inr (by decide)), upd2_ne (.inr (by decide))⟩)
                        have hB := (hB.trans hX).wr e87 rfl
                        have h8 : ∀ a, 84 ≤ a → a ≤ 86 → I87 a = I a := fun a h1 h2 => (upI e87 a (by omega)).trans ((hX.2.1 a (by omega)).2.1.trans (h8 a h1 h2))
                        have h3k : ∀ k, k ≠ 0 → I87 83 k = I 83 k := fun k hk => (congrFun (congrFun e87 83) k).trans ((upd2_ne (.inr hk)).trans ((congrFun (hX.2.1 83 (by omega)).2.1 k).trans (h3k k hk)))
                        have hg := (hg.gx hX (by omega)).skip e87 (by decide)
                        have hday : I87 83 1 = I 83 1 := (congrFun (congrFun e87 83) 1).trans ((upd2_ne (.inr (by decide))).trans ((congrFun (hX.2.1 83 (by omega)).2.1 1).trans hday))
                        have hRb : ∀ a, a < n → R a = R a := fun a ha => (hX.2.1 a (by omega)).2.2.trans (hRb a ha)
                        have hb83 : ∀ a, a ≠ 83 → a < n → I87 a = I a := fun a ha hb => (upI e87 a ha).trans ((hX.2.1 a (by omega)).2.1.trans (hb83 a ha hb))
                        have hS0 := hS
                        have hR0 := hR1
                        have ht_b15 := (hX.2.1 _ hb_b15).1.trans ht_b15
                        have hb_b15 := Nat.lt_of_lt_of_le hb_b15 hX.1
                        have hb0_b15 := hb_b15
                        have ht_v66 := (hX.2.1 _ hb_v66).1.trans ht_v66
                        have hb_v66 := Nat.lt_of_lt_of_le hb_v66 hX.1
                        have hb0_v66 := hb_v66
                        have ht_v70 := (hX.2.1 _ hb_v70).1.trans ht_v70
                        have hb_v70 := Nat.lt_of_lt_of_le hb_v70 hX.1
                        have hb0_v70 := hb_v70
                        have ht_v74 := (hX.2.1 _ hb_v74).1.trans ht_v74
                        have hb_v74 := Nat.lt_of_lt_of_le hb_v74 hX.1
                        have hb0_v74 := hb_v74
                        have hn := Nat.le_refl n
                        have h94 := hS0.1
                        have hX := @yX.rf n tg I87 R
                        have hS := hS0.x hX
                        have hR := hR0.x hn hX
                        have hz := hX.sz h94
                        have hxn := hX.1
                        have hN := hR0.1
                        have hnb := hR0.2.2.2.2.2.2
                        have hthB := hth
                        refine y_aload_n rfl rfl ?_
                        refine y_getIv (v := Int32.ofInt (3)) rfl (ySh.t hS rfl) (ySh.n hS rfl) rfl rfl hth ?_
                        refine y_if_leF rfl (by decide) ?_
                        refine y_iconst rfl ?_
                        refine y_goto rfl j_X14_refuse_28 ?_
                        refine y_ireturn rfl rfl rfl ?_
                        refine y_ret1 ?_
                        refine y_if_eqF rfl (by decide) ?_
                        refine y_iconst rfl ?_
                        refine y_ireturn rfl rfl rfl ?_
                        exact hQ3 _ eb_b15 (by first | omega | (simp only [show ySeat x2 = x2 from if_neg (by omega), show ySeat x3 = x3 from if_neg (by omega)]; omega) | (simp only [show ySeat x2 = x2 from if_neg (by omega), show ySeat x3 = Int32.ofInt 8 from if_pos (by omega), show (Int32.ofInt 8).toInt.toNat = 8 from by decide]; omega) | (simp only [show ySeat x2 = Int32.ofInt 8 from if_pos (by omega), show ySeat x3 = x3 from if_neg (by omega), show (Int32.ofInt 8).toInt.toNat = 8 from by decide]; omega) | (simp only [show ySeat x2 = Int32.ofInt 8 from if_pos (by omega), show ySeat x3 = Int32.ofInt 8 from if_pos (by omega), show (Int32.ofInt 8).toInt.toNat = 8 from by decide]; omega)) _ _ _ _ _ _ _ hS ((hR0.grow hX).up (Nat.le_succ K) hk6) (hK.x hRo hno hX) hth ((hB.trans hX).rf2 (by omega)) (by omega) (by omega)
              · rw [yz_m1] at h_65
                refine y_bip rfl (by decide) ?_
                refine y_goto rfl j_X14_seat_11 ?_
                refine y_ireturn rfl rfl rfl ?_
                refine y_ret1 ?_
                refine y_istore (ls' := [some _, some _, some _, some _, some _, some _, some _, some _]) rfl rfl rfl ?_
                refine y_aload_n rfl rfl ?_
                refine y_aload rfl rfl ?_
                obtain ⟨hR_v88, hb_v88, ht_v88⟩ := hR0.ven hlo_b15 hb0_b15 ht_b15 (j := 0) (by decide)
                have hb0_v88 := hb_v88
                have hb_v88 := Nat.lt_of_lt_of_le hb_v88 hn
                have hlo_v88 : 94 ≤ b15 + 1 + 0 := by omega
                have hR2_v88 := (congrFun (hX.2.1 b15 hb_b15).2.2 0).trans hR_v88
                refine y_getR rfl ((hX.2.1 _ hb_b15).1.trans ht_b15) (Nat.lt_of_lt_of_le hb_b15 hX.1) rfl rfl hR2_v88 ?_
                refine y_iload rfl rfl ?_
                refine y_baloadw (j := 8) (J := I (b15 + 1 + 0)) rfl ((hX.2.1 _ hb_v88).1.trans ht_v88) rfl (Nat.lt_of_lt_of_le hb_v88 hX.1) (by decide) (by decide) rfl (((hB.trans hX).n (by omega)).trans (by repeat (first | rfl | (rw [upd2_row (by first | decide | omega)]) | refine upd2_cg ?_))) ?_
                refine y_if_eq rfl j_X14_buyOut_142 (fun h_89 => ?_) (fun h_90 => ?_)
                · refine y_iconst rfl ?_
                  refine y_goto rfl j_X14_buyOut_147 ?_
                  refine y_iconst rfl ?_
                  refine y_virt rfl rfl rfl rfl rfl (ySh.t hS rfl) (ySh.n hS rfl) ?_
                  refine y_in (M := xm_X14_refuse) (ls := [some _, some _, some _]) rfl rfl rfl ?_
                  refine y_iload_n rfl rfl ?_
                  refine y_if_eqF rfl (by decide) ?_
                  refine y_aload_n rfl rfl ?_
                  refine y_getIv (v := Int32.ofInt (0)) rfl (ySh.t hS rfl) (ySh.n hS rfl) rfl rfl hth ?_
                  refine y_if_neF rfl (by decide) ?_
                  refine y_aload_n rfl rfl ?_
                  refine y_iload_n rfl rfl ?_
                  refine y_putI rfl (ySh.t hS rfl) (ySh.n hS rfl) rfl (Nat.le_of_ble_eq_true rfl) rfl rfl ?_
                  refine y_nameI (fun I91 e91 => ?_)
                  have hR1 := (hR0.grow hX).mod0 e91 (by decide) (by decide)
                  have hK := (hK.x hRo hno hX).upI (upI e91) (by decide) (by decide) (fun i hi => by have := (hRo.l87.2.2.2.2 i hi).2.1; omega) (by rw [e91, upd2_ne (.inr (by decide))]; exact Int.le_refl _)
                  have hth : I91 83 0 = Int32.ofInt (3) := by rw [e91, upd2_self]
                  have hzz : ySz8 I8 I91 := ySz8_of (upI e91) (by rw [e91]; exact ⟨upd2_ne (.inr (by decide)), upd2_ne (.inr (by decide))⟩)
                  have hB := (hB.trans hX).wr e91 rfl
                  have h8 : ∀ a, 84 ≤ a → a ≤ 86 → I91 a = I a := fun a h1 h2 => (upI e91 a (by omega)).trans ((hX.2.1 a (by omega)).2.1.trans (h8 a h1 h2))
                  have h3k : ∀ k, k ≠ 0 → I91 83 k = I 83 k := fun k hk => (congrFun (congrFun e91 83) k).trans ((upd2_ne (.inr hk)).trans ((congrFun (hX.2.1 83 (by omega)).2.1 k).trans (h3k k hk)))
                  have hg := (hg.gx hX (by omega)).skip e91 (by decide)
                  have hday : I91 83 1 = I 83 1 := (congrFun (congrFun e91 83) 1).trans ((upd2_ne (.inr (by decide))).trans ((congrFun (hX.2.1 83 (by omega)).2.1 1).trans hday))
                  have hRb : ∀ a, a < n → R a = R a := fun a ha => (hX.2.1 a (by omega)).2.2.trans (hRb a ha)
                  have hb83 : ∀ a, a ≠ 83 → a < n → I91 a = I a := fun a ha hb => (upI e91 a ha).trans ((hX.2.1 a (by omega)).2.1.trans (hb83 a ha hb))
                  have hS0 := hS
                  have hR0 := hR1
                  have ht_b15 := (hX.2.1 _ hb_b15).1.trans ht_b15
                  have hb_b15 := Nat.lt_of_lt_of_le hb_b15 hX.1
                  have hb0_b15 := hb_b15
                  have ht_v88 := (hX.2.1 _ hb_v88).1.trans ht_v88
                  have hb_v88 := Nat.lt_of_lt_of_le hb_v88 hX.1
                  have hb0_v88 := hb_v88
                  have hn := Nat.le_refl n
                  have h94 := hS0.1
                  have hX := @yX.rf n tg I91 R
                  have hS := hS0.x hX
                  have hR := hR0.x hn hX
                  have hz := hX.sz h94
                  have hxn := hX.1
                  have hN := hR0.1
                  have hnb := hR0.2.2.2.2.2.2
                  have hthB := hth
                  refine y_aload_n rfl rfl ?_
                  refine y_getIv (v := Int32.ofInt (3)) rfl (ySh.t hS rfl) (ySh.n hS rfl) rfl rfl hth ?_
                  refine y_if_leF rfl (by decide) ?_
                  refine y_iconst rfl ?_
                  refine y_goto rfl j_X14_refuse_28 ?_
                  refine y_ireturn rfl rfl rfl ?_
                  refine y_ret1 ?_
                  refine y_if_eqF rfl (by decide) ?_
                  refine y_iconst rfl ?_
                  refine y_ireturn rfl rfl rfl ?_
                  exact hQ3 _ eb_b15 (by first | omega | (simp only [show ySeat x2 = x2 from if_neg (by omega), show ySeat x3 = x3 from if_neg (by omega)]; omega) | (simp only [show ySeat x2 = x2 from if_neg (by omega), show ySeat x3 = Int32.ofInt 8 from if_pos (by omega), show (Int32.ofInt 8).toInt.toNat = 8 from by decide]; omega) | (simp only [show ySeat x2 = Int32.ofInt 8 from if_pos (by omega), show ySeat x3 = x3 from if_neg (by omega), show (Int32.ofInt 8).toInt.toNat = 8 from by decide]; omega) | (simp only [show ySeat x2 = Int32.ofInt 8 from if_pos (by omega), show ySeat x3 = Int32.ofInt 8 from if_pos (by omega), show (Int32.ofInt 8).toInt.toNat = 8 from by decide]; omega)) _ _ _ _ _ _ _ hS ((hR0.grow hX).up (Nat.le_succ K) hk6) (hK.x hRo hno hX) hth ((hB.trans hX).rf2 (by omega)) (by omega) (by omega)
                · refine y_aload rfl rfl ?_
                  obtain ⟨hR_v92, hb_v92, ht_v92⟩ := hR0.ven hlo_b15 hb0_b15 ht_b15 (j := 0) (by decide)
                  have hb0_v92 := hb_v92
                  have hb_v92 := Nat.lt_of_lt_of_le hb_v92 hn
                  have hlo_v92 : 94 ≤ b15 + 1 + 0 := by omega
                  have hR2_v92 := (congrFun (hX.2.1 b15 hb_b15).2.2 0).trans hR_v92
                  refine y_getR rfl ((hX.2.1 _ hb_b15).1.trans ht_b15) (Nat.lt_of_lt_of_le hb_b15 hX.1) rfl rfl hR2_v92 ?_
                  refine y_iload rfl rfl ?_
                  refine y_baloadw (j := 8) (J := I (b15 + 1 + 0)) rfl ((hX.2.1 _ hb_v92).1.trans ht_v92) rfl (Nat.lt_of_lt_of_le hb_v92 hX.1) (by decide) (by decide) rfl (((hB.trans hX).n (by omega)).trans (by repeat (first | rfl | (rw [upd2_row (by first | decide | omega)]) | refine upd2_cg ?_))) ?_
                  refine y_if_eq rfl j_X14_buyOut_142 (fun h_93 => ?_) (fun h_94 => ?_)
                  · refine y_iconst rfl ?_
                    refine y_goto rfl j_X14_buyOut_147 ?_
                    refine y_iconst rfl ?_
                    refine y_virt rfl rfl rfl rfl rfl (ySh.t hS rfl) (ySh.n hS rfl) ?_
                    refine y_in (M := xm_X14_refuse) (ls := [some _, some _, some _]) rfl rfl rfl ?_
                    refine y_iload_n rfl rfl ?_
                    refine y_if_eqF rfl (by decide) ?_
                    refine y_aload_n rfl rfl ?_
                    refine y_getIv (v := Int32.ofInt (0)) rfl (ySh.t hS rfl) (ySh.n hS rfl) rfl rfl hth ?_
                    refine y_if_neF rfl (by decide) ?_
                    refine y_aload_n rfl rfl ?_
                    refine y_iload_n rfl rfl ?_
                    refine y_putI rfl (ySh.t hS rfl) (ySh.n hS rfl) rfl (Nat.le_of_ble_eq_true rfl) rfl rfl ?_
                    refine y_nameI (fun I95 e95 => ?_)
                    have hR1 := (hR0.grow hX).mod0 e95 (by decide) (by decide)
                    have hK := (hK.x hRo hno hX).upI (upI e95) (by decide) (by decide) (fun i hi => by have := (hRo.l87.2.2.2.2 i hi).2.1; omega) (by rw [e95, upd2_ne (.inr (by decide))]; exact Int.le_refl _)
                    have hth : I95 83 0 = Int32.ofInt (3) := by rw [e95, upd2_self]
                    have hzz : ySz8 I8 I95 := ySz8_of (upI e95) (by rw [e95]; exact ⟨upd2_ne (.inr (by decide)), upd2_ne (.inr (by decide))⟩)
                    have hB := (hB.trans hX).wr e95 rfl
                    have h8 : ∀ a, 84 ≤ a → a ≤ 86 → I95 a = I a := fun a h1 h2 => (upI e95 a (by omega)).trans ((hX.2.1 a (by omega)).2.1.trans (h8 a h1 h2))
                    have h3k : ∀ k, k ≠ 0 → I95 83 k = I 83 k := fun k hk => (congrFun (congrFun e95 83) k).trans ((upd2_ne (.inr hk)).trans ((congrFun (hX.2.1 83 (by omega)).2.1 k).trans (h3k k hk)))
                    have hg := (hg.gx hX (by omega)).skip e95 (by decide)
                    have hday : I95 83 1 = I 83 1 := (congrFun (congrFun e95 83) 1).trans ((upd2_ne (.inr (by decide))).trans ((congrFun (hX.2.1 83 (by omega)).2.1 1).trans hday))
                    have hRb : ∀ a, a < n → R a = R a := fun a ha => (hX.2.1 a (by omega)).2.2.trans (hRb a ha)
                    have hb83 : ∀ a, a ≠ 83 → a < n → I95 a = I a := fun a ha hb => (upI e95 a ha).trans ((hX.2.1 a (by omega)).2.1.trans (hb83 a ha hb))
                    have hS0 := hS
                    have hR0 := hR1
                    have ht_b15 := (hX.2.1 _ hb_b15).1.trans ht_b15
                    have hb_b15 := Nat.lt_of_lt_of_le hb_b15 hX.1
                    have hb0_b15 := hb_b15
                    have ht_v88 := (hX.2.1 _ hb_v88).1.trans ht_v88
                    have hb_v88 := Nat.lt_of_lt_of_le hb_v88 hX.1
                    have hb0_v88 := hb_v88
                    have ht_v92 := (hX.2.1 _ hb_v92).1.trans ht_v92
                    have hb_v92 := Nat.lt_of_lt_of_le hb_v92 hX.1
                    have hb0_v92 := hb_v92
                    have hn := Nat.le_refl n
                    have h94 := hS0.1
                    have hX := @yX.rf n tg I95 R
                    have hS := hS0.x hX
                    have hR := hR0.x hn hX
                    have hz := hX.sz h94
                    have hxn := hX.1
                    have hN := hR0.1
                    have hnb := hR0.2.2.2.2.2.2
                    have hthB := hth
                    refine y_aload_n rfl rfl ?_
                    refine y_getIv (v := Int32.ofInt (3)) rfl (ySh.t hS rfl) (ySh.n hS rfl) rfl rfl hth ?_
                    refine y_if_leF rfl (by decide) ?_
                    refine y_iconst rfl ?_
                    refine y_goto rfl j_X14_refuse_28 ?_
                    refine y_ireturn rfl rfl rfl ?_
                    refine y_ret1 ?_
                    refine y_if_eqF rfl (by decide) ?_
                    refine y_iconst rfl ?_
                    refine y_ireturn rfl rfl rfl ?_
                    exact hQ3 _ eb_b15 (by first | omega | (simp only [show ySeat x2 = x2 from if_neg (by omega), show ySeat x3 = x3 from if_neg (by omega)]; omega) | (simp only [show ySeat x2 = x2 from if_neg (by omega), show ySeat x3 = Int32.ofInt 8 from if_pos (by omega), show (Int32.ofInt 8).toInt.toNat = 8 from by decide]; omega) | (simp only [show ySeat x2 = Int32.ofInt 8 from if_pos (by omega), show ySeat x3 = x3 from if_neg (by omega), show (Int32.ofInt 8).toInt.toNat = 8 from by decide]; omega) | (simp only [show ySeat x2 = Int32.ofInt 8 from if_pos (by omega), show ySeat x3 = Int32.ofInt 8 from if_pos (by omega), show (Int32.ofInt 8).toInt.toNat = 8 from by decide]; omega)) _ _ _ _ _ _ _ hS ((hR0.grow hX).up (Nat.le_succ K) hk6) (hK.x hRo hno hX) hth ((hB.trans hX).rf2 (by omega)) (by omega) (by omega)
                  · refine y_aload rfl rfl ?_
                    obtain ⟨hR_v96, hb_v96, ht_v96⟩ := hR0.ven hlo_b15 hb0_b15 ht_b15 (j := 1) (by decide)
                    have hb0_v96 := hb_v96
                    have hb_v96 := Nat.lt_of_lt_of_le hb_v96 hn
                    have hlo_v96 : 94 ≤ b15 + 1 + 1 := by omega
                    have hR2_v96 := (congrFun (hX.2.1 b15 hb_b15).2.2 1).trans hR_v96
                    refine y_getR rfl ((hX.2.1 _ hb_b15).1.trans ht_b15) (Nat.lt_of_lt_of_le hb_b15 hX.1) rfl rfl hR2_v96 ?_
                    refine y_iload rfl rfl ?_
                    refine y_ialoadw (j := 8) (J := I (b15 + 1 + 1)) rfl ((hX.2.1 _ hb_v96).1.trans ht_v96) (Nat.lt_of_lt_of_le hb_v96 hX.1) (by decide) (by decide) rfl (((hB.trans hX).n (by omega)).trans (by repeat (first | rfl | (rw [upd2_row (by first | decide | omega)]) | refine upd2_cg ?_))) ?_
                    refine y_iload rfl rfl ?_
                    refine y_icmp_lt rfl j_X14_buyOut_142 (fun h_97 => ?_) (fun h_98 => ?_)
                    · refine y_iconst rfl ?_
                      refine y_goto rfl j_X14_buyOut_147 ?_
                      refine y_iconst rfl ?_
                      refine y_virt rfl rfl rfl rfl rfl (ySh.t hS rfl) (ySh.n hS rfl) ?_
                      refine y_in (M := xm_X14_refuse) (ls := [some _, some _, some _]) rfl rfl rfl ?_
                      refine y_iload_n rfl rfl ?_
                      refine y_if_eqF rfl (by decide) ?_
                      refine y_aload_n rfl rfl ?_
                      refine y_getIv (v := Int32.ofInt (0)) rfl (ySh.t hS rfl) (ySh.n hS rfl) rfl rfl hth ?_
                      refine y_if_neF rfl (by decide) ?_
                      refine y_aload_n rfl rfl ?_
                      refine y_iload_n rfl rfl ?_
                      refine y_putI rfl (ySh.t hS rfl) (ySh.n hS rfl) rfl (Nat.le_of_ble_eq_true rfl) rfl rfl ?_
                      refine y_nameI (fun I99 e99 => ?_)
                      have hR1 := (hR0.grow hX).mod0 e99 (by decide) (by decide)
                      have hK := (hK.x hRo hno hX).upI (upI e99) (by decide) (by decide) (fun i hi => by have := (hRo.l87.2.2.2.2 i hi).2.1; omega) (by rw [e99, upd2_ne (.inr (by decide))]; exact Int.le_refl _)
                      have hth : I99 83 0 = Int32.ofInt (3) := by rw [e99, upd2_self]
                      have hzz : ySz8 I8 I99 := ySz8_of (upI e99) (by rw [e99]; exact ⟨upd2_ne (.inr (by decide)), upd2_ne (.inr (by decide))⟩)
                      have hB := (hB.trans hX).wr e99 rfl
                      have h8 : ∀ a, 84 ≤ a → a ≤ 86 → I99 a = I a := fun a h1 h2 => (upI e99 a (by omega)).trans ((hX.2.1 a (by omega)).2.1.trans (h8 a h1 h2))
                      have h3k : ∀ k, k ≠ 0 → I99 83 k = I 83 k := fun k hk => (congrFun (congrFun e99 83) k).trans ((upd2_ne (.inr hk)).trans ((congrFun (hX.2.1 83 (by omega)).2.1 k).trans (h3k k hk)))
                      have hg := (hg.gx hX (by omega)).skip e99 (by decide)
                      have hday : I99 83 1 = I 83 1 := (congrFun (congrFun e99 83) 1).trans ((upd2_ne (.inr (by decide))).trans ((congrFun (hX.2.1 83 (by omega)).2.1 1).trans hday))
                      have hRb : ∀ a, a < n → R a = R a := fun a ha => (hX.2.1 a (by omega)).2.2.trans (hRb a ha)
                      have hb83 : ∀ a, a ≠ 83 → a < n → I99 a = I a := fun a ha hb => (upI e99 a ha).trans ((hX.2.1 a (by omega)).2.1.trans (hb83 a ha hb))
                      have hS0 := hS
                      have hR0 := hR1
                      have ht_b15 := (hX.2.1 _ hb_b15).1.trans ht_b15
                      have hb_b15 := Nat.lt_of_lt_of_le hb_b15 hX.1
                      have hb0_b15 := hb_b15
                      have ht_v88 := (hX.2.1 _ hb_v88).1.trans ht_v88
                      have hb_v88 := Nat.lt_of_lt_of_le hb_v88 hX.1
                      have hb0_v88 := hb_v88
                      have ht_v92 := (hX.2.1 _ hb_v92).1.trans ht_v92
                      have hb_v92 := Nat.lt_of_lt_of_le hb_v92 hX.1
                      have hb0_v92 := hb_v92
                      have ht_v96 := (hX.2.1 _ hb_v96).1.trans ht_v96
                      have hb_v96 := Nat.lt_of_lt_of_le hb_v96 hX.1
                      have hb0_v96 := hb_v96
                      have hn := Nat.le_refl n
                      have h94 := hS0.1
                      have hX := @yX.rf n tg I99 R
                      have hS := hS0.x hX
                      have hR := hR0.x hn hX
                      have hz := hX.sz h94
                      have hxn := hX.1
                      have hN := hR0.1
                      have hnb := hR0.2.2.2.2.2.2
                      have hthB := hth
                      refine y_aload_n rfl rfl ?_
                      refine y_getIv (v := Int32.ofInt (3)) rfl (ySh.t hS rfl) (ySh.n hS rfl) rfl rfl hth ?_
                      refine y_if_leF rfl (by decide) ?_
                      refine y_iconst rfl ?_
                      refine y_goto rfl j_X14_refuse_28 ?_
                      refine y_ireturn rfl rfl rfl ?_
                      refine y_ret1 ?_
                      refine y_if_eqF rfl (by decide) ?_
                      refine y_iconst rfl ?_
                      refine y_ireturn rfl rfl rfl ?_
                      exact hQ3 _ eb_b15 (by first | omega | (simp only [show ySeat x2 = x2 from if_neg (by omega), show ySeat x3 = x3 from if_neg (by omega)]; omega) | (simp only [show ySeat x2 = x2 from if_neg (by omega), show ySeat x3 = Int32.ofInt 8 from if_pos (by omega), show (Int32.ofInt 8).toInt.toNat = 8 from by decide]; omega) | (simp only [show ySeat x2 = Int32.ofInt 8 from if_pos (by omega), show ySeat x3 = x3 from if_neg (by omega), show (Int32.ofInt 8).toInt.toNat = 8 from by decide]; omega) | (simp only [show ySeat x2 = Int32.ofInt 8 from if_pos (by omega), show ySeat x3 = Int32.ofInt 8 from if_pos (by omega), show (Int32.ofInt 8).toInt.toNat = 8 from by decide]; omega)) _ _ _ _ _ _ _ hS ((hR0.grow hX).up (Nat.le_succ K) hk6) (hK.x hRo hno hX) hth ((hB.trans hX).rf2 (by omega)) (by omega) (by omega)
                    · refine y_aload_n rfl rfl ?_
                      refine y_getR rfl (ySh.t hS rfl) (ySh.n hS rfl) rfl rfl (ySh.r hS rfl) ?_
                      refine y_iload rfl rfl ?_
                      refine y_ialoadw (j := 8) (J := I 84) rfl (ySh.t hS rfl) (ySh.n hS rfl) (by decide) (by decide) rfl (((hB.trans hX).n (by omega)).trans (by repeat (first | rfl | (rw [upd2_row (by first | decide | omega)]) | refine upd2_cg ?_))) ?_
                      refine y_iload rfl rfl ?_
                      refine y_icmp_ge rfl j_X14_buyOut_146 (fun h_100 => ?_) (fun h_101 => ?_)
                      · refine y_iconst rfl ?_
                        refine y_iconst rfl ?_
                        refine y_virt rfl rfl rfl rfl rfl (ySh.t hS rfl) (ySh.n hS rfl) ?_
                        refine y_in (M := xm_X14_refuse) (ls := [some _, some _, some _]) rfl rfl rfl ?_
                        refine y_iload_n rfl rfl ?_
                        refine y_if_eqT rfl j_X14_refuse_16 (by decide) ?_
                        refine y_aload_n rfl rfl ?_
                        refine y_getIv (v := Int32.ofInt (0)) rfl (ySh.t hS rfl) (ySh.n hS rfl) rfl rfl hth ?_
                        refine y_if_leT rfl j_X14_refuse_27 (by decide) ?_
                        refine y_iconst rfl ?_
                        refine y_ireturn rfl rfl rfl ?_
                        refine y_ret1 ?_
                        refine y_if_eqT rfl j_X14_buyOut_156 (by decide) ?_
                        refine y_aload rfl rfl ?_
                        obtain ⟨hR_v102, hb_v102, ht_v102⟩ := hR0.ven hlo_b15 hb0_b15 ht_b15 (j := 1) (by decide)
                        have hb0_v102 := hb_v102
                        have hb_v102 := Nat.lt_of_lt_of_le hb_v102 hn
                        have hlo_v102 : 94 ≤ b15 + 1 + 1 := by omega
                        have hR2_v102 := (congrFun (hX.2.1 b15 hb_b15).2.2 1).trans hR_v102
                        refine y_getR rfl ((hX.2.1 _ hb_b15).1.trans ht_b15) (Nat.lt_of_lt_of_le hb_b15 hX.1) rfl rfl hR2_v102 ?_
                        refine y_iload rfl rfl ?_
                        refine y_dup2 rfl rfl rfl ?_
                        refine y_ialoadw (j := 8) (J := I (b15 + 1 + 1)) rfl ((hX.2.1 _ hb_v102).1.trans ht_v102) (Nat.lt_of_lt_of_le hb_v102 hX.1) (by decide) (by decide) rfl (((hB.trans hX).n (by omega)).trans (by repeat (first | rfl | (rw [upd2_row (by first | decide | omega)]) | refine upd2_cg ?_))) ?_
                        refine y_iload rfl rfl ?_
                        refine y_isub rfl ?_
                        refine y_iastoreC (j := 8) rfl ((hX.2.1 _ hb_v102).1.trans ht_v102) (Nat.lt_of_lt_of_le hb_v102 hX.1) (Nat.le_trans (by decide) (by omega : 94 ≤ _)) (by decide) (by decide) rfl ?_
                        refine y_nameI (fun I103 e103 => ?_)
                        have hB1 := (hR0.grow hX).capB1x hlo_b15 (by omega) ((hX.2.1 _ hb_b15).1.trans ht_b15) (by omega) e103 (by rw [show I8 (b15 + 1 + 1) = I (b15 + 1 + 1) from ((hB.trans hX).n (by omega)).trans (by repeat (first | rfl | (rw [upd2_row (by first | decide | omega)]) | refine upd2_cg ?_))]) ⟨by omega, by rw [show I8 (b15 + 1 + 1) = I (b15 + 1 + 1) from ((hB.trans hX).n (by omega)).trans (by repeat (first | rfl | (rw [upd2_row (by first | decide | omega)]) | refine upd2_cg ?_))]; omega⟩
                        have hR1 := hB1.1
                        have hK := (hK.x hRo hno hX).upE hRo hno (upI e103) (by omega) (by omega) (by rw [((hX.2.1 _ hb_v102).1.trans ht_v102)]; decide) (by rw [e103, upd2_ne (.inl (by omega))]; exact Int.le_refl _)
                        have hth := (show I103 83 0 = I8 83 0 by rw [e103, upd2_ne (.inl (by omega))]).trans hth
                        have hzz : ySz I8 I103 := ySz_ofE (upI e103) (by omega)
                        have hB := (hB.trans hX).wr e103 rfl
                        have h8 : ∀ a, 84 ≤ a → a ≤ 86 → I103 a = I a := fun a h1 h2 => (upI e103 a (by omega)).trans ((hX.2.1 a (by omega)).2.1.trans (h8 a h1 h2))
                        have h3k : ∀ k, k ≠ 0 → I103 83 k = I 83 k := fun k hk => (congrFun (congrFun e103 83) k).trans ((upd2_ne (.inl (by omega))).trans ((congrFun (hX.2.1 83 (by omega)).2.1 k).trans (h3k k hk)))
                        have hg := (hg.gx hX (by omega)).both e103
                        have hday : I103 83 1 = I 83 1 := (congrFun (congrFun e103 83) 1).trans ((upd2_ne (.inl (by omega))).trans ((congrFun (hX.2.1 83 (by omega)).2.1 1).trans hday))
                        have hRb : ∀ a, a < n → R a = R a := fun a ha => (hX.2.1 a (by omega)).2.2.trans (hRb a ha)
                        have hS0 := hS
                        have hR0 := hR1
                        have ht_b15 := (hX.2.1 _ hb_b15).1.trans ht_b15
                        have hb_b15 := Nat.lt_of_lt_of_le hb_b15 hX.1
                        have hb0_b15 := hb_b15
                        have ht_v88 := (hX.2.1 _ hb_v88).1.trans ht_v88
                        have hb_v88 := Nat.lt_of_lt_of_le hb_v88 hX.1
                        have hb0_v88 := hb_v88
                        have ht_v92 := (hX.2.1 _ hb_v92).1.trans ht_v92
                        have hb_v92 := Nat.lt_of_lt_of_le hb_v92 hX.1
                        have hb0_v92 := hb_v92
                        have ht_v96 := (hX.2.1 _ hb_v96).1.trans ht_v96
                        have hb_v96 := Nat.lt_of_lt_of_le hb_v96 hX.1
                        have hb0_v96 := hb_v96
                        have ht_v102 := (hX.2.1 _ hb_v102).1.trans ht_v102
                        have hb_v102 := Nat.lt_of_lt_of_le hb_v102 hX.1
                        have hb0_v102 := hb_v102
                        have hn := Nat.le_refl n
                        have h94 := hS0.1
                        have hX := @yX.rf n tg I103 R
                        have hS := hS0.x hX
                        have hR := hR0.x hn hX
                        have hz := hX.sz h94
                        have hxn := hX.1
                        have hN := hR0.1
                        have hnb := hR0.2.2.2.2.2.2
                        have hthB := hth
                        refine y_aload rfl rfl ?_
                        obtain ⟨hR_v104, hb_v104, ht_v104⟩ := hR0.ven hlo_b15 hb0_b15 ht_b15 (j := 1) (by decide)
                        have hb0_v104 := hb_v104
                        have hb_v104 := Nat.lt_of_lt_of_le hb_v104 hn
                        have hlo_v104 : 94 ≤ b15 + 1 + 1 := by omega
                        have hR2_v104 := (congrFun (hX.2.1 b15 hb_b15).2.2 1).trans hR_v104
                        refine y_getR rfl ((hX.2.1 _ hb_b15).1.trans ht_b15) (Nat.lt_of_lt_of_le hb_b15 hX.1) rfl rfl hR2_v104 ?_
                        refine y_iload rfl rfl ?_
                        refine y_dup2 rfl rfl rfl ?_
                        refine y_ialoadw (j := 8) (J := _) rfl ((hX.2.1 _ hb_v104).1.trans ht_v104) (Nat.lt_of_lt_of_le hb_v104 hX.1) (by decide) (by decide) rfl ((hB.trans hX).n (by omega)) ?_
                        refine y_iload rfl rfl ?_
                        refine y_iadd rfl ?_
                        refine y_iastoreC (j := 8) rfl ((hX.2.1 _ hb_v104).1.trans ht_v104) (Nat.lt_of_lt_of_le hb_v104 hX.1) (Nat.le_trans (by decide) (by omega : 94 ≤ _)) (by decide) (by decide) rfl ?_
                        refine y_nameI (fun I105 e105 => ?_)
                        have hR1 := (hR0.grow hX).capB2x hlo_b15 (by omega) ((hX.2.1 _ hb_b15).1.trans ht_b15) (by omega) (by omega) hB1.2.1 e105 (by rw [show I103 (b15 + 1 + 1) = _ from ((hB.trans hX).n (by omega))])
                        have hK := (hK.x hRo hno hX).upE hRo hno (upI e105) (by omega) (by omega) (by rw [((hX.2.1 _ hb_v104).1.trans ht_v104)]; decide) (by rw [e105, upd2_ne (.inl (by omega))]; exact Int.le_refl _)
                        have hth := (show I105 83 0 = I103 83 0 by rw [e105, upd2_ne (.inl (by omega))]).trans hth
                        have hzz : ySz I103 I105 := ySz_ofE (upI e105) (by omega)
                        have hB := (hB.trans hX).wr e105 rfl
                        have h8 : ∀ a, 84 ≤ a → a ≤ 86 → I105 a = I a := fun a h1 h2 => (upI e105 a (by omega)).trans ((hX.2.1 a (by omega)).2.1.trans (h8 a h1 h2))
                        have h3k : ∀ k, k ≠ 0 → I105 83 k = I 83 k := fun k hk => (congrFun (congrFun e105 83) k).trans ((upd2_ne (.inl (by omega))).trans ((congrFun (hX.2.1 83 (by omega)).2.1 k).trans (h3k k hk)))
                        have hg := (hg.gx hX (by omega)).both e105
                        have hday : I105 83 1 = I 83 1 := (congrFun (congrFun e105 83) 1).trans ((upd2_ne (.inl (by omega))).trans ((congrFun (hX.2.1 83 (by omega)).2.1 1).trans hday))
                        have hRb : ∀ a, a < n → R a = R a := fun a ha => (hX.2.1 a (by omega)).2.2.trans (hRb a ha)
                        have hS0 := hS
                        have hR0 := hR1
                        have ht_b15 := (hX.2.1 _ hb_b15).1.trans ht_b15
                        have hb_b15 := Nat.lt_of_lt_of_le hb_b15 hX.1
                        have hb0_b15 := hb_b15
                        have ht_v88 := (hX.2.1 _ hb_v88).1.trans ht_v88
                        have hb_v88 := Nat.lt_of_lt_of_le hb_v88 hX.1
                        have hb0_v88 := hb_v88
                        have ht_v92 := (hX.2.1 _ hb_v92).1.trans ht_v92
                        have hb_v92 := Nat.lt_of_lt_of_le hb_v92 hX.1
                        have hb0_v92 := hb_v92
                        have ht_v96 := (hX.2.1 _ hb_v96).1.trans ht_v96
                        have hb_v96 := Nat.lt_of_lt_of_le hb_v96 hX.1
                        have hb0_v96 := hb_v96
                        have ht_v102 := (hX.2.1 _ hb_v102).1.trans ht_v102
                        have hb_v102 := Nat.lt_of_lt_of_le hb_v102 hX.1
                        have hb0_v102 := hb_v102
                        have ht_v104 := (hX.2.1 _ hb_v104).1.trans ht_v104
                        have hb_v104 := Nat.lt_of_lt_of_le hb_v104 hX.1
                        have hb0_v104 := hb_v104
                        have hn := Nat.le_refl n
                        have h94 := hS0.1
                        have hX := @yX.rf n tg I105 R
                        have hS := hS0.x hX
                        have hR := hR0.x hn hX
                        have hz := hX.sz h94
                        have hxn := hX.1
                        have hN := hR0.1
                        have hnb := hR0.2.2.2.2.2.2
                        have hthB := hth
                        refine y_aload_n rfl rfl ?_
                        refine y_getR rfl (ySh.t hS rfl) (ySh.n hS rfl) rfl rfl (ySh.r hS rfl) ?_
                        refine y_iload rfl rfl ?_
                        refine y_dup2 rfl rfl rfl ?_
                        refine y_ialoadw (j := 8) (J := I 84) rfl (ySh.t hS rfl) (ySh.n hS rfl) (by decide) (by decide) rfl (((hB.trans hX).n (by omega)).trans (by repeat (first | rfl | (rw [upd2_row (by first | decide | omega)]) | refine upd2_cg ?_))) ?_
                        refine y_iload rfl rfl ?_
                        refine y_iadd rfl ?_
                        refine y_iastoreC (j := 8) rfl (ySh.t hS rfl) (ySh.n hS rfl) (Nat.le_of_ble_eq_true rfl) (by decide) (by decide) rfl ?_
                        refine y_nameI (fun I106 e106 => ?_)
                        have hR1 := (hR0.grow hX).arr e106 (by decide)
                        have hK := (hK.x hRo hno hX).upI (upI e106) (by decide) (by decide) (fun i hi => by have := (hRo.l87.2.2.2.2 i hi).2.1; omega) (by rw [e106, upd2_ne (.inl (by omega))]; exact Int.le_refl _)
                        have hth := (show I106 83 0 = I105 83 0 by rw [e106, upd2_ne (.inl (by omega))]).trans hth
                        have hzz : ySz I105 I106 := ySz_ofE (upI e106) (by omega)
                        have hB := (hB.trans hX).wr e106 rfl
                        have h3k : ∀ k, k ≠ 0 → I106 83 k = I 83 k := fun k hk => (congrFun (congrFun e106 83) k).trans ((upd2_ne (.inl (by omega))).trans ((congrFun (hX.2.1 83 (by omega)).2.1 k).trans (h3k k hk)))
                        have hg := (hg.gx hX (by omega)).skip e106 (by decide)
                        have hday : I106 83 1 = I 83 1 := (congrFun (congrFun e106 83) 1).trans ((upd2_ne (.inl (by omega))).trans ((congrFun (hX.2.1 83 (by omega)).2.1 1).trans hday))
                        have hRb : ∀ a, a < n → R a = R a := fun a ha => (hX.2.1 a (by omega)).2.2.trans (hRb a ha)
                        have hS0 := hS
                        have hR0 := hR1
                        have ht_b15 := (hX.2.1 _ hb_b15).1.trans ht_b15
                        have hb_b15 := Nat.lt_of_lt_of_le hb_b15 hX.1
                        have hb0_b15 := hb_b15
                        have ht_v88 := (hX.2.1 _ hb_v88).1.trans ht_v88
                        have hb_v88 := Nat.lt_of_lt_of_le hb_v88 hX.1
                        have hb0_v88 := hb_v88
                        have ht_v92 := (hX.2.1 _ hb_v92).1.trans ht_v92
                        have hb_v92 := Nat.lt_of_lt_of_le hb_v92 hX.1
                        have hb0_v92 := hb_v92
                        have ht_v96 := (hX.2.1 _ hb_v96).1.trans ht_v96
                        have hb_v96 := Nat.lt_of_lt_of_le hb_v96 hX.1
                        have hb0_v96 := hb_v96
                        have ht_v102 := (hX.2.1 _ hb_v102).1.trans ht_v102
                        have hb_v102 := Nat.lt_of_lt_of_le hb_v102 hX.1
                        have hb0_v102 := hb_v102
                        have ht_v104 := (hX.2.1 _ hb_v104).1.trans ht_v104
                        have hb_v104 := Nat.lt_of_lt_of_le hb_v104 hX.1
                        have hb0_v104 := hb_v104
                        have hn := Nat.le_refl n
                        have h94 := hS0.1
                        have hX := @yX.rf n tg I106 R
                        have hS := hS0.x hX
                        have hR := hR0.x hn hX
                        have hz := hX.sz h94
                        have hxn := hX.1
                        have hN := hR0.1
                        have hnb := hR0.2.2.2.2.2.2
                        have hthB := hth
                        refine y_aload_n rfl rfl ?_
                        refine y_getR rfl (ySh.t hS rfl) (ySh.n hS rfl) rfl rfl (ySh.r hS rfl) ?_
                        refine y_iload rfl rfl ?_
                        refine y_dup2 rfl rfl rfl ?_
                        refine y_ialoadw (j := 8) (J := _) rfl (ySh.t hS rfl) (ySh.n hS rfl) (by decide) (by decide) rfl ((hB.trans hX).n (by omega)) ?_
                        refine y_iload rfl rfl ?_
                        refine y_isub rfl ?_
                        refine y_iastoreC (j := 8) rfl (ySh.t hS rfl) (ySh.n hS rfl) (Nat.le_of_ble_eq_true rfl) (by decide) (by decide) rfl ?_
                        refine y_nameI (fun I107 e107 => ?_)
                        have hR1 := (hR0.grow hX).arr e107 (by decide)
                        have hK := (hK.x hRo hno hX).upI (upI e107) (by decide) (by decide) (fun i hi => by have := (hRo.l87.2.2.2.2 i hi).2.1; omega) (by rw [e107, upd2_ne (.inl (by omega))]; exact Int.le_refl _)
                        have hth := (show I107 83 0 = I106 83 0 by rw [e107, upd2_ne (.inl (by omega))]).trans hth
                        have hzz : ySz I106 I107 := ySz_ofE (upI e107) (by omega)
                        have hB := (hB.trans hX).wr e107 rfl
                        have h3k : ∀ k, k ≠ 0 → I107 83 k = I 83 k := fun k hk => (congrFun (congrFun e107 83) k).trans ((upd2_ne (.inl (by omega))).trans ((congrFun (hX.2.1 83 (by omega)).2.1 k).trans (h3k k hk)))
                        have hg := (hg.gx hX (by omega)).skip e107 (by decide)
                        have hday : I107 83 1 = I 83 1 := (congrFun (congrFun e107 83) 1).trans ((upd2_ne (.inl (by omega))).trans ((congrFun (hX.2.1 83 (by omega)).2.1 1).trans hday))
                        have hRb : ∀ a, a < n → R a = R a := fun a ha => (hX.2.1 a (by omega)).2.2.trans (hRb a ha)
                        have hS0 := hS
                        have hR0 := hR1
                        have ht_b15 := (hX.2.1 _ hb_b15).1.trans ht_b15
                        have hb_b15 := Nat.lt_of_lt_of_le hb_b15 hX.1
                        have hb0_b15 := hb_b15
                        have ht_v88 := (hX.2.1 _ hb_v88).1.trans ht_v88
                        have hb_v88 := Nat.lt_of_lt_of_le hb_v88 hX.1
                        have hb0_v88 := hb_v88
                        have ht_v92 := (hX.2.1 _ hb_v92).1.trans ht_v92
                        have hb_v92 := Nat.lt_of_lt_of_le hb_v92 hX.1
                        have hb0_v92 := hb_v92
                        have ht_v96 := (hX.2.1 _ hb_v96).1.trans ht_v96
                        have hb_v96 := Nat.lt_of_lt_of_le hb_v96 hX.1
                        have hb0_v96 := hb_v96
                        have ht_v102 := (hX.2.1 _ hb_v102).1.trans ht_v102
                        have hb_v102 := Nat.lt_of_lt_of_le hb_v102 hX.1
                        have hb0_v102 := hb_v102
                        have ht_v104 := (hX.2.1 _ hb_v104).1.trans ht_v104
                        have hb_v104 := Nat.lt_of_lt_of_le hb_v104 hX.1
                        have hb0_v104 := hb_v104
                        have hn := Nat.le_refl n
                        have h94 := hS0.1
                        have hX := @yX.rf n tg I107 R
                        have hS := hS0.x hX
                        have hR := hR0.x hn hX
                        have hz := hX.sz h94
                        have hxn := hX.1
                        have hN := hR0.1
                        have hnb := hR0.2.2.2.2.2.2
                        have hthB := hth
                        refine y_aload rfl rfl ?_
                        obtain ⟨hR_v108, hb_v108, ht_v108⟩ := hR0.ven hlo_b15 hb0_b15 ht_b15 (j := 1) (by decide)
                        have hb0_v108 := hb_v108
                        have hb_v108 := Nat.lt_of_lt_of_le hb_v108 hn
                        have hlo_v108 : 94 ≤ b15 + 1 + 1 := by omega
                        have hR2_v108 := (congrFun (hX.2.1 b15 hb_b15).2.2 1).trans hR_v108
                        refine y_getR rfl ((hX.2.1 _ hb_b15).1.trans ht_b15) (Nat.lt_of_lt_of_le hb_b15 hX.1) rfl rfl hR2_v108 ?_
                        refine y_iload rfl rfl ?_
                        refine y_ialoadw (j := 8) (J := _) rfl ((hX.2.1 _ hb_v108).1.trans ht_v108) (Nat.lt_of_lt_of_le hb_v108 hX.1) (by decide) (by decide) rfl ((hB.trans hX).n (by omega)) ?_
                        refine y_ireturn rfl rfl rfl ?_
                        exact hQ0 _ eb_b15 (by first | omega | (simp only [show ySeat x2 = x2 from if_neg (by omega), show ySeat x3 = x3 from if_neg (by omega)]; omega) | (simp only [show ySeat x2 = x2 from if_neg (by omega), show ySeat x3 = Int32.ofInt 8 from if_pos (by omega), show (Int32.ofInt 8).toInt.toNat = 8 from by decide]; omega) | (simp only [show ySeat x2 = Int32.ofInt 8 from if_pos (by omega), show ySeat x3 = x3 from if_neg (by omega), show (Int32.ofInt 8).toInt.toNat = 8 from by decide]; omega) | (simp only [show ySeat x2 = Int32.ofInt 8 from if_pos (by omega), show ySeat x3 = Int32.ofInt 8 from if_pos (by omega), show (Int32.ofInt 8).toInt.toNat = 8 from by decide]; omega)) _ _ _ _ _ _ _ hS ((hR0.grow hX).up (Nat.le_succ K) hk6) (hK.x hRo hno hX) hth (by first | exact (congrFun ((hB.trans hX).n (by omega)) _).symm | (simp only [show ySeat x2 = x2 from if_neg (by omega), show ySeat x3 = x3 from if_neg (by omega)]; exact (congrFun ((hB.trans hX).n (by omega)) _).symm) | (simp only [show ySeat x2 = x2 from if_neg (by omega), show ySeat x3 = Int32.ofInt 8 from if_pos (by omega), show (Int32.ofInt 8).toInt.toNat = 8 from by decide]; exact (congrFun ((hB.trans hX).n (by omega)) _).symm) | (simp only [show ySeat x2 = Int32.ofInt 8 from if_pos (by omega), show ySeat x3 = x3 from if_neg (by omega), show (Int32.ofInt 8).toInt.toNat = 8 from by decide]; exact (congrFun ((hB.trans hX).n (by omega)) _).symm) | (simp only [show ySeat x2 = Int32.ofInt 8 from if_pos (by omega), show ySeat x3 = Int32.ofInt 8 from if_pos (by omega), show (Int32.ofInt 8).toInt.toNat = 8 from by decide]; exact (congrFun ((hB.trans hX).n (by omega)) _).symm)) (by first | (exact hB.trans hX) | (simp only [show ySeat x2 = x2 from if_neg (by omega), show ySeat x3 = x3 from if_neg (by omega)]; exact hB.trans hX) | (simp only [show ySeat x2 = x2 from if_neg (by omega), show ySeat x3 = Int32.ofInt 8 from if_pos (by omega), show (Int32.ofInt 8).toInt.toNat = 8 from by decide]; exact hB.trans hX) | (simp only [show ySeat x2 = Int32.ofInt 8 from if_pos (by omega), show ySeat x3 = x3 from if_neg (by omega), show (Int32.ofInt 8).toInt.toNat = 8 from by decide]; exact hB.trans hX) | (simp only [show ySeat x2 = Int32.ofInt 8 from if_pos (by omega), show ySeat x3 = Int32.ofInt 8 from if_pos (by omega), show (Int32.ofInt 8).toInt.toNat = 8 from by decide]; exact hB.trans hX)) (by omega) (by omega)
                      · refine y_iconst rfl ?_
                        refine y_goto rfl j_X14_buyOut_147 ?_
                        refine y_iconst rfl ?_
                        refine y_virt rfl rfl rfl rfl rfl (ySh.t hS rfl) (ySh.n hS rfl) ?_
                        refine y_in (M := xm_X14_refuse) (ls := [some _, some _, some _]) rfl rfl rfl ?_
                        refine y_iload_n rfl rfl ?_
                        refine y_if_eqF rfl (by decide) ?_
                        refine y_aload_n rfl rfl ?_
                        refine y_getIv (v := Int32.ofInt (0)) rfl (ySh.t hS rfl) (ySh.n hS rfl) rfl rfl hth ?_
                        refine y_if_neF rfl (by decide) ?_
                        refine y_aload_n rfl rfl ?_
                        refine y_iload_n rfl rfl ?_
                        refine y_putI rfl (ySh.t hS rfl) (ySh.n hS rfl) rfl (Nat.le_of_ble_eq_true rfl) rfl rfl ?_
                        refine y_nameI (fun I109 e109 => ?_)
                        have hR1 := (hR0.grow hX).mod0 e109 (by decide) (by decide)
                        have hK := (hK.x hRo hno hX).upI (upI e109) (by decide) (by decide) (fun i hi => by have := (hRo.l87.2.2.2.2 i hi).2.1; omega) (by rw [e109, upd2_ne (.inr (by decide))]; exact Int.le_refl _)
                        have hth : I109 83 0 = Int32.ofInt (3) := by rw [e109, upd2_self]
                        have hzz : ySz8 I8 I109 := ySz8_of (upI e109) (by rw [e109]; exact ⟨upd2_ne (.inr (by decide)), upd2_ne (.inr (by decide))⟩)
                        have hB := (hB.trans hX).wr e109 rfl
                        have h8 : ∀ a, 84 ≤ a → a ≤ 86 → I109 a = I a := fun a h1 h2 => (upI e109 a (by omega)).trans ((hX.2.1 a (by omega)).2.1.trans (h8 a h1 h2))
                        have h3k : ∀ k, k ≠ 0 → I109 83 k = I 83 k := fun k hk => (congrFun (congrFun e109 83) k).trans ((upd2_ne (.inr hk)).trans ((congrFun (hX.2.1 83 (by omega)).2.1 k).trans (h3k k hk)))
                        have hg := (hg.gx hX (by omega)).skip e109 (by decide)
                        have hday : I109 83 1 = I 83 1 := (congrFun (congrFun e109 83) 1).trans ((upd2_ne (.inr (by decide))).trans ((congrFun (hX.2.1 83 (by omega)).2.1 1).trans hday))
                        have hRb : ∀ a, a < n → R a = R a := fun a ha => (hX.2.1 a (by omega)).2.2.trans (hRb a ha)
                        have hb83 : ∀ a, a ≠ 83 → a < n → I109 a = I a := fun a ha hb => (upI e109 a ha).trans ((hX.2.1 a (by omega)).2.1.trans (hb83 a ha hb))
                        have hS0 := hS
                        have hR0 := hR1
                        have ht_b15 := (hX.2.1 _ hb_b15).1.trans ht_b15
                        have hb_b15 := Nat.lt_of_lt_of_le hb_b15 hX.1
                        have hb0_b15 := hb_b15
                        have ht_v88 := (hX.2.1 _ hb_v88).1.trans ht_v88
                        have hb_v88 := Nat.lt_of_lt_of_le hb_v88 hX.1
                        have hb0_v88 := hb_v88
                        have ht_v92 := (hX.2.1 _ hb_v92).1.trans ht_v92
                        have hb_v92 := Nat.lt_of_lt_of_le hb_v92 hX.1
                        have hb0_v92 := hb_v92
                        have ht_v96 := (hX.2.1 _ hb_v96).1.trans ht_v96
                        have hb_v96 := Nat.lt_of_lt_of_le hb_v96 hX.1
                        have hb0_v96 := hb_v96
                        have hn := Nat.le_refl n
                        have h94 := hS0.1
                        have hX := @yX.rf n tg I109 R
                        have hS := hS0.x hX
                        have hR := hR0.x hn hX
                        have hz := hX.sz h94
                        have hxn := hX.1
                        have hN := hR0.1
                        have hnb := hR0.2.2.2.2.2.2
                        have hthB := hth
                        refine y_aload_n rfl rfl ?_
                        refine y_getIv (v := Int32.ofInt (3)) rfl (ySh.t hS rfl) (ySh.n hS rfl) rfl rfl hth ?_
                        refine y_if_leF rfl (by decide) ?_
                        refine y_iconst rfl ?_
                        refine y_goto rfl j_X14_refuse_28 ?_
                        refine y_ireturn rfl rfl rfl ?_
                        refine y_ret1 ?_
                        refine y_if_eqF rfl (by decide) ?_
                        refine y_iconst rfl ?_
                        refine y_ireturn rfl rfl rfl ?_
                        exact hQ3 _ eb_b15 (by first | omega | (simp only [show ySeat x2 = x2 from if_neg (by omega), show ySeat x3 = x3 from if_neg (by omega)]; omega) | (simp only [show ySeat x2 = x2 from if_neg (by omega), show ySeat x3 = Int32.ofInt 8 from if_pos (by omega), show (Int32.ofInt 8).toInt.toNat = 8 from by decide]; omega) | (simp only [show ySeat x2 = Int32.ofInt 8 from if_pos (by omega), show ySeat x3 = x3 from if_neg (by omega), show (Int32.ofInt 8).toInt.toNat = 8 from by decide]; omega) | (simp only [show ySeat x2 = Int32.ofInt 8 from if_pos (by omega), show ySeat x3 = Int32.ofInt 8 from if_pos (by omega), show (Int32.ofInt 8).toInt.toNat = 8 from by decide]; omega)) _ _ _ _ _ _ _ hS ((hR0.grow hX).up (Nat.le_succ K) hk6) (hK.x hRo hno hX) hth ((hB.trans hX).rf2 (by omega)) (by omega) (by omega)
          · rw [yz_1] at h_14
            rw [yz_999] at h_14
            refine y_ret1 ?_
            refine y_if_neF rfl (by decide) ?_
            refine y_iconst rfl ?_
            refine y_goto rfl j_X14_buyOut_60 ?_
            refine y_iconst rfl ?_
            refine y_virt rfl rfl rfl rfl rfl (ySh.t hS rfl) (ySh.n hS rfl) ?_
            refine y_in (M := xm_X14_refuse) (ls := [some _, some _, some _]) rfl rfl rfl ?_
            refine y_iload_n rfl rfl ?_
            refine y_if_eqF rfl (by decide) ?_
            refine y_aload_n rfl rfl ?_
            refine y_getIv (v := Int32.ofInt (0)) rfl (ySh.t hS rfl) (ySh.n hS rfl) rfl rfl hth ?_
            refine y_if_neF rfl (by decide) ?_
            refine y_aload_n rfl rfl ?_
            refine y_iload_n rfl rfl ?_
            refine y_putI rfl (ySh.t hS rfl) (ySh.n hS rfl) rfl (Nat.le_of_ble_eq_true rfl) rfl rfl ?_
            refine y_nameI (fun I110 e110 => ?_)
            have hR1 := (hR0.grow hX).mod0 e110 (by decide) (by decide)
            have hK := (hK.x hRo hno hX).upI (upI e110) (by decide) (by decide) (fun i hi => by have := (hRo.l87.2.2.2.2 i hi).2.1; omega) (by rw [e110, upd2_ne (.inr (by decide))]; exact Int.le_refl _)
            have hth : I110 83 0 = Int32.ofInt (2) := by rw [e110, upd2_self]
            have hzz : ySz8 I8 I110 := ySz8_of (upI e110) (by rw [e110]; exact ⟨upd2_ne (.inr (by decide)), upd2_ne (.inr (by decide))⟩)
            have hB := (hB.trans hX).wr e110 rfl
            have h8 : ∀ a, 84 ≤ a → a ≤ 86 → I110 a = I a := fun a h1 h2 => (upI e110 a (by omega)).trans ((hX.2.1 a (by omega)).2.1.trans (h8 a h1 h2))
            have h3k : ∀ k, k ≠ 0 → I110 83 k = I 83 k := fun k hk => (congrFun (congrFun e110 83) k).trans ((upd2_ne (.inr hk)).trans ((congrFun (hX.2.1 83 (by omega)).2.1 k).trans (h3k k hk)))
            have hg := (hg.gx hX (by omega)).skip e110 (by decide)
            have hday : I110 83 1 = I 83 1 := (congrFun (congrFun e110 83) 1).trans ((upd2_ne (.inr (by decide))).trans ((congrFun (hX.2.1 83 (by omega)).2.1 1).trans hday))
            have hRb : ∀ a, a < n → R a = R a := fun a ha => (hX.2.1 a (by omega)).2.2.trans (hRb a ha)
            have hb83 : ∀ a, a ≠ 83 → a < n → I110 a = I a := fun a ha hb => (upI e110 a ha).trans ((hX.2.1 a (by omega)).2.1.trans (hb83 a ha hb))
            have hS0 := hS
            have hR0 := hR1
            have hn := Nat.le_refl n
            have h94 := hS0.1
            have hX := @yX.rf n tg I110 R
            have hS := hS0.x hX
            have hR := hR0.x hn hX
            have hz := hX.sz h94
            have hxn := hX.1
            have hN := hR0.1
            have hnb := hR0.2.2.2.2.2.2
            have hthB := hth
            refine y_aload_n rfl rfl ?_
            refine y_getIv (v := Int32.ofInt (2)) rfl (ySh.t hS rfl) (ySh.n hS rfl) rfl rfl hth ?_
            refine y_if_leF rfl (by decide) ?_
            refine y_iconst rfl ?_
            refine y_goto rfl j_X14_refuse_28 ?_
            refine y_ireturn rfl rfl rfl ?_
            refine y_ret1 ?_
            refine y_if_eqF rfl (by decide) ?_
            refine y_iconst rfl ?_
            refine y_ireturn rfl rfl rfl ?_
            exact hQ2 (by first | omega | (simp only [show ySeat x2 = x2 from if_neg (by omega), show ySeat x3 = x3 from if_neg (by omega)]; omega) | (simp only [show ySeat x2 = x2 from if_neg (by omega), show ySeat x3 = Int32.ofInt 8 from if_pos (by omega), show (Int32.ofInt 8).toInt.toNat = 8 from by decide]; omega) | (simp only [show ySeat x2 = Int32.ofInt 8 from if_pos (by omega), show ySeat x3 = x3 from if_neg (by omega), show (Int32.ofInt 8).toInt.toNat = 8 from by decide]; omega) | (simp only [show ySeat x2 = Int32.ofInt 8 from if_pos (by omega), show ySeat x3 = Int32.ofInt 8 from if_pos (by omega), show (Int32.ofInt 8).toInt.toNat = 8 from by decide]; omega)) _ _ _ _ _ _ _ hS ((hR0.grow hX).up (Nat.le_succ K) hk6) (hK.x hRo hno hX) hth ((hB.trans hX).rf2 (by omega)) (by omega) (by omega)
      · rw [yz_m1] at h_7
        refine y_aload_n rfl rfl ?_
        refine y_iload_n rfl rfl ?_
        refine y_virt rfl rfl rfl rfl rfl (ySh.t hS rfl) (ySh.n hS rfl) ?_
        refine y_in (M := xm_X14_isNobody) (ls := [some _, some _]) rfl rfl rfl ?_
        refine y_iload_n rfl rfl ?_
        refine y_iconst rfl ?_
        refine y_aload_n rfl rfl ?_
        refine y_getIv (v := I 83 8) rfl (ySh.t hS rfl) (ySh.n hS rfl) rfl rfl ((congrFun ((hB.trans hX).n (by omega : 83 < n)) 8).trans (by repeat (first | rfl | rw [upd2_ne (by first | exact .inl (by omega) | exact .inr (by decide))]))) ?_
        refine y_iconst rfl ?_
        refine y_isub rfl ?_
        refine y_static rfl rfl rfl rfl rfl ?_
        refine r_isIn (fun h_111 h_112 => ?_) (fun h_113 => ?_)
        · rw [yz_0] at h_111
          try rw [ysub (by rw [yz_1]; omega) (by rw [yz_1]; omega), yz_1] at h_112
          refine y_ret1 ?_
          refine y_if_neT rfl j_X14_isNobody_18 (by decide) ?_
          refine y_iconst rfl ?_
          refine y_ireturn rfl rfl rfl ?_
          refine y_ret1 ?_
          refine y_if_eqT rfl j_X14_isNoOne_17 (by decide) ?_
          refine y_iconst rfl ?_
          refine y_ireturn rfl rfl rfl ?_
          refine y_ret1 ?_
          refine y_if_eqT rfl j_X14_buyOut_29 (by decide) ?_
          refine y_iconst rfl ?_
          refine y_iconst rfl ?_
          refine y_virt rfl rfl rfl rfl rfl (ySh.t hS rfl) (ySh.n hS rfl) ?_
          refine y_in (M := xm_X14_start) (ls := [some _, some _, some _]) rfl rfl rfl ?_
          refine y_aload_n rfl rfl ?_
          refine y_iconst rfl ?_
          refine y_putI rfl (ySh.t hS rfl) (ySh.n hS rfl) rfl (Nat.le_of_ble_eq_true rfl) rfl rfl ?_
          refine y_nameI (fun I114 e114 => ?_)
          have hR1 := (hR0.grow hX).mod0 e114 (by decide) (by decide)
          have hK := (hK.x hRo hno hX).upI (upI e114) (by decide) (by decide) (fun i hi => by have := (hRo.l87.2.2.2.2 i hi).2.1; omega) (by rw [e114, upd2_ne (.inr (by decide))]; exact Int.le_refl _)
          have hth : I114 83 0 = Int32.ofInt (0) := by rw [e114, upd2_self]
          have hzz : ySz8 I I114 := ySz8_of (upI e114) (by rw [e114]; exact ⟨upd2_ne (.inr (by decide)), upd2_ne (.inr (by decide))⟩)
          have hB := (hB.trans hX).wr e114 rfl
          have h8 : ∀ a, 84 ≤ a → a ≤ 86 → I114 a = I a := fun a h1 h2 => (upI e114 a (by omega)).trans ((hX.2.1 a (by omega)).2.1.trans (h8 a h1 h2))
          have h3k : ∀ k, k ≠ 0 → I114 83 k = I 83 k := fun k hk => (congrFun (congrFun e114 83) k).trans ((upd2_ne (.inr hk)).trans ((congrFun (hX.2.1 83 (by omega)).2.1 k).trans (h3k k hk)))
          have hg := (hg.gx hX (by omega)).skip e114 (by decide)
          have hday : I114 83 1 = I 83 1 := (congrFun (congrFun e114 83) 1).trans ((upd2_ne (.inr (by decide))).trans ((congrFun (hX.2.1 83 (by omega)).2.1 1).trans hday))
          have hRb : ∀ a, a < n → R a = R a := fun a ha => (hX.2.1 a (by omega)).2.2.trans (hRb a ha)
          have hb83 : ∀ a, a ≠ 83 → a < n → I114 a = I a := fun a ha hb => (upI e114 a ha).trans ((hX.2.1 a (by omega)).2.1.trans (hb83 a ha hb))
          have hS0 := hS
          have hR0 := hR1
          have hn := Nat.le_refl n
          have h94 := hS0.1
          have hX := @yX.rf n tg I114 R
          have hS := hS0.x hX
          have hR := hR0.x hn hX
          have hz := hX.sz h94
          have hxn := hX.1
          have hN := hR0.1
          have hnb := hR0.2.2.2.2.2.2
          have hthB := hth
          refine y_aload_n rfl rfl ?_
          refine y_iload_n rfl rfl ?_
          refine y_iload_n rfl rfl ?_
          refine y_virt rfl rfl rfl rfl rfl (ySh.t hS rfl) (ySh.n hS rfl) ?_
          refine y_in (M := xm_X14_refuse) (ls := [some _, some _, some _]) rfl rfl rfl ?_
          refine y_iload_n rfl rfl ?_
          refine y_if_eqT rfl j_X14_refuse_16 (by decide) ?_
          refine y_aload_n rfl rfl ?_
          refine y_getIv (v := Int32.ofInt (0)) rfl (ySh.t hS rfl) (ySh.n hS rfl) rfl rfl hth ?_
          refine y_if_leT rfl j_X14_refuse_27 (by decide) ?_
          refine y_iconst rfl ?_
          refine y_ireturn rfl rfl rfl ?_
          refine y_ret1 ?_
          refine y_ireturn rfl rfl rfl ?_
          refine y_ret1 ?_
          refine y_if_neF rfl (by decide) ?_
          refine y_aload_n rfl rfl ?_
          refine y_iload_n rfl rfl ?_
          refine y_iload_n rfl rfl ?_
          refine y_icmp_eq rfl j_X14_buyOut_55 (fun h_115 => ?_) (fun h_116 => ?_)
          · refine y_iconst rfl ?_
            refine y_goto rfl j_X14_buyOut_60 ?_
            refine y_iconst rfl ?_
            refine y_virt rfl rfl rfl rfl rfl (ySh.t hS rfl) (ySh.n hS rfl) ?_
            refine y_in (M := xm_X14_refuse) (ls := [some _, some _, some _]) rfl rfl rfl ?_
            refine y_iload_n rfl rfl ?_
            refine y_if_eqF rfl (by decide) ?_
            refine y_aload_n rfl rfl ?_
            refine y_getIv (v := Int32.ofInt (0)) rfl (ySh.t hS rfl) (ySh.n hS rfl) rfl rfl hth ?_
            refine y_if_neF rfl (by decide) ?_
            refine y_aload_n rfl rfl ?_
            refine y_iload_n rfl rfl ?_
            refine y_putI rfl (ySh.t hS rfl) (ySh.n hS rfl) rfl (Nat.le_of_ble_eq_true rfl) rfl rfl ?_
            refine y_nameI (fun I117 e117 => ?_)
            have hR1 := (hR0.grow hX).mod0 e117 (by decide) (by decide)
            have hK := (hK.x hRo hno hX).upI (upI e117) (by decide) (by decide) (fun i hi => by have := (hRo.l87.2.2.2.2 i hi).2.1; omega) (by rw [e117, upd2_ne (.inr (by decide))]; exact Int.le_refl _)
            have hth : I117 83 0 = Int32.ofInt (2) := by rw [e117, upd2_self]
            have hzz : ySz8 I114 I117 := ySz8_of (upI e117) (by rw [e117]; exact ⟨upd2_ne (.inr (by decide)), upd2_ne (.inr (by decide))⟩)
            have hB := (hB.trans hX).wr e117 rfl
            have h8 : ∀ a, 84 ≤ a → a ≤ 86 → I117 a = I a := fun a h1 h2 => (upI e117 a (by omega)).trans ((hX.2.1 a (by omega)).2.1.trans (h8 a h1 h2))
            have h3k : ∀ k, k ≠ 0 → I117 83 k = I 83 k := fun k hk => (congrFun (congrFun e117 83) k).trans ((upd2_ne (.inr hk)).trans ((congrFun (hX.2.1 83 (by omega)).2.1 k).trans (h3k k hk)))
            have hg := (hg.gx hX (by omega)).skip e117 (by decide)
            have hday : I117 83 1 = I 83 1 := (congrFun (congrFun e117 83) 1).trans ((upd2_ne (.inr (by decide))).trans ((congrFun (hX.2.1 83 (by omega)).2.1 1).trans hday))
            have hRb : ∀ a, a < n → R a = R a := fun a ha => (hX.2.1 a (by omega)).2.2.trans (hRb a ha)
            have hb83 : ∀ a, a ≠ 83 → a < n → I117 a = I a := fun a ha hb => (upI e117 a ha).trans ((hX.2.1 a (by omega)).2.1.trans (hb83 a ha hb))
            have hS0 := hS
            have hR0 := hR1
            have hn := Nat.le_refl n
            have h94 := hS0.1
            have hX := @yX.rf n tg I117 R
            have hS := hS0.x hX
            have hR := hR0.x hn hX
            have hz := hX.sz h94
            have hxn := hX.1
            have hN := hR0.1
            have hnb := hR0.2.2.2.2.2.2
            have hthB := hth
            refine y_aload_n rfl rfl ?_
            refine y_getIv (v := Int32.ofInt (2)) rfl (ySh.t hS rfl) (ySh.n hS rfl) rfl rfl hth ?_
            refine y_if_leF rfl (by decide) ?_
            refine y_iconst rfl ?_
            refine y_goto rfl j_X14_refuse_28 ?_
            refine y_ireturn rfl rfl rfl ?_
            refine y_ret1 ?_
            refine y_if_eqF rfl (by decide) ?_
            refine y_iconst rfl ?_
            refine y_ireturn rfl rfl rfl ?_
            exact hQ2 (by first | omega | (simp only [show ySeat x2 = x2 from if_neg (by omega), show ySeat x3 = x3 from if_neg (by omega)]; omega) | (simp only [show ySeat x2 = x2 from if_neg (by omega), show ySeat x3 = Int32.ofInt 8 from if_pos (by omega), show (Int32.ofInt 8).toInt.toNat = 8 from by decide]; omega) | (simp only [show ySeat x2 = Int32.ofInt 8 from if_pos (by omega), show ySeat x3 = x3 from if_neg (by omega), show (Int32.ofInt 8).toInt.toNat = 8 from by decide]; omega) | (simp only [show ySeat x2 = Int32.ofInt 8 from if_pos (by omega), show ySeat x3 = Int32.ofInt 8 from if_pos (by omega), show (Int32.ofInt 8).toInt.toNat = 8 from by decide]; omega)) _ _ _ _ _ _ _ hS ((hR0.grow hX).up (Nat.le_succ K) hk6) (hK.x hRo hno hX) hth ((hB.trans hX).rf2 (by omega)) (by omega) (by omega)
          · refine y_iload rfl rfl ?_
            refine y_iconst rfl ?_
            refine y_sip rfl (by decide) ?_
            refine y_static rfl rfl rfl rfl rfl ?_
            refine r_isIn (fun h_118 h_119 => ?_) (fun h_120 => ?_)
            · rw [yz_1] at h_118
              rw [yz_999] at h_119
              refine y_ret1 ?_
              refine y_if_neT rfl j_X14_buyOut_59 (by decide) ?_
              refine y_iconst rfl ?_
              refine y_iconst rfl ?_
              refine y_virt rfl rfl rfl rfl rfl (ySh.t hS rfl) (ySh.n hS rfl) ?_
              refine y_in (M := xm_X14_refuse) (ls := [some _, some _, some _]) rfl rfl rfl ?_
              refine y_iload_n rfl rfl ?_
              refine y_if_eqT rfl j_X14_refuse_16 (by decide) ?_
              refine y_aload_n rfl rfl ?_
              refine y_getIv (v := Int32.ofInt (0)) rfl (ySh.t hS rfl) (ySh.n hS rfl) rfl rfl hth ?_
              refine y_if_leT rfl j_X14_refuse_27 (by decide) ?_
              refine y_iconst rfl ?_
              refine y_ireturn rfl rfl rfl ?_
              refine y_ret1 ?_
              refine y_if_eqT rfl j_X14_buyOut_69 (by decide) ?_
              refine y_aload_n rfl rfl ?_
              refine y_getR rfl (ySh.t hS rfl) (ySh.n hS rfl) rfl rfl (ySh.r hS rfl) ?_
              refine y_iload_n rfl rfl ?_
              refine y_virt rfl rfl rfl rfl rfl (ySh.t hS rfl) (ySh.n hS rfl) ?_
              refine l_get (nb := n) (ySh.t hS rfl) (ySh.n hS rfl) (Nat.le_trans hn hX.1) hR.l91 (by omega) (by omega) (fun b121 eb_b121 hlo_b121 hb0_b121 ht_b121 => ?_)
              have hb_b121 := Nat.lt_of_lt_of_le hb0_b121 hn
              replace ht_b121 := (hX.2.1 _ hb_b121).1.symm.trans ht_b121
              refine y_ret1 ?_
              refine y_cast rfl ((hX.2.1 _ hb_b121).1.trans ht_b121) (Nat.lt_of_lt_of_le hb_b121 hX.1) ?_
              refine y_astore (ls' := [some _, some _, some _, some _, some _, some _, _, _]) rfl rfl rfl ?_
              refine y_iload_n rfl rfl ?_
              refine y_static rfl rfl rfl rfl rfl ?_
              refine y_in (M := xm_X14_seat) (ls := [some _]) rfl rfl rfl ?_
              refine y_iload_n rfl rfl ?_
              refine y_iconst rfl ?_
              refine y_icmp_ne rfl j_X14_seat_10 (fun h_122 => ?_) (fun h_123 => ?_)
              · rw [yz_m1] at h_122
                refine y_iload_n rfl rfl ?_
                refine y_ireturn rfl rfl rfl ?_
                refine y_ret1 ?_
                refine y_istore (ls' := [some _, some _, some _, some _, some _, some _, some _, _]) rfl rfl rfl ?_
                refine y_iload_n rfl rfl ?_
                refine y_static rfl rfl rfl rfl rfl ?_
                refine y_in (M := xm_X14_seat) (ls := [some _]) rfl rfl rfl ?_
                refine y_iload_n rfl rfl ?_
                refine y_iconst rfl ?_
                refine y_icmp_ne rfl j_X14_seat_10 (fun h_124 => ?_) (fun h_125 => ?_)
                · rw [yz_m1] at h_124
                  refine y_iload_n rfl rfl ?_
                  refine y_ireturn rfl rfl rfl ?_
                  refine y_ret1 ?_
                  refine y_istore (ls' := [some _, some _, some _, some _, some _, some _, some _, some _]) rfl rfl rfl ?_
                  refine y_aload_n rfl rfl ?_
                  refine y_aload rfl rfl ?_
                  obtain ⟨hR_v126, hb_v126, ht_v126⟩ := hR0.ven hlo_b121 hb0_b121 ht_b121 (j := 0) (by decide)
                  have hb0_v126 := hb_v126
                  have hb_v126 := Nat.lt_of_lt_of_le hb_v126 hn
                  have hlo_v126 : 94 ≤ b121 + 1 + 0 := by omega
                  have hR2_v126 := (congrFun (hX.2.1 b121 hb_b121).2.2 0).trans hR_v126
                  refine y_getR rfl ((hX.2.1 _ hb_b121).1.trans ht_b121) (Nat.lt_of_lt_of_le hb_b121 hX.1) rfl rfl hR2_v126 ?_
                  refine y_iload rfl rfl ?_
                  refine y_baloadv (J := I (b121 + 1 + 0)) rfl ((hX.2.1 _ hb_v126).1.trans ht_v126) rfl (Nat.lt_of_lt_of_le hb_v126 hX.1) (by omega) (by omega) (((hB.trans hX).n (by omega)).trans (by repeat (first | rfl | (rw [upd2_row (by first | decide | omega)]) | refine upd2_cg ?_))) ?_
                  refine y_if_eq rfl j_X14_buyOut_142 (fun h_127 => ?_) (fun h_128 => ?_)
                  · refine y_iconst rfl ?_
                    refine y_goto rfl j_X14_buyOut_147 ?_
                    refine y_iconst rfl ?_
                    refine y_virt rfl rfl rfl rfl rfl (ySh.t hS rfl) (ySh.n hS rfl) ?_
                    refine y_in (M := xm_X14_refuse) (ls := [some _, some _, some _]) rfl rfl rfl ?_
                    refine y_iload_n rfl rfl ?_
                    refine y_if_eqF rfl (by decide) ?_
                    refine y_aload_n rfl rfl ?_
                    refine y_getIv (v := Int32.ofInt (0)) rfl (ySh.t hS rfl) (ySh.n hS rfl) rfl rfl hth ?_
                    refine y_if_neF rfl (by decide) ?_
                    refine y_aload_n rfl rfl ?_
                    refine y_iload_n rfl rfl ?_
                    refine y_putI rfl (ySh.t hS rfl) (ySh.n hS rfl) rfl (Nat.le_of_ble_eq_true rfl) rfl rfl ?_
                    refine y_nameI (fun I129 e129 => ?_)
                    have hR1 := (hR0.grow hX).mod0 e129 (by decide) (by decide)
                    have hK := (hK.x hRo hno hX).upI (upI e129) (by decide) (by decide) (fun i hi => by have := (hRo.l87.2.2.2.2 i hi).2.1; omega) (by rw [e129, upd2_ne (.inr (by decide))]; exact Int.le_refl _)
                    have hth : I129 83 0 = Int32.ofInt (3) := by rw [e129, upd2_self]
                    have hzz : ySz8 I114 I129 := ySz8_of (upI e129) (by rw [e129]; exact ⟨upd2_ne (.inr (by decide)), upd2_ne (.inr (by decide))⟩)
                    have hB := (hB.trans hX).wr e129 rfl
                    have h8 : ∀ a, 84 ≤ a → a ≤ 86 → I129 a = I a := fun a h1 h2 => (upI e129 a (by omega)).trans ((hX.2.1 a (by omega)).2.1.trans (h8 a h1 h2))
                    have h3k : ∀ k, k ≠ 0 → I129 83 k = I 83 k := fun k hk => (congrFun (congrFun e129 83) k).trans ((upd2_ne (.inr hk)).trans ((congrFun (hX.2.1 83 (by omega)).2.1 k).trans (h3k k hk)))
                    have hg := (hg.gx hX (by omega)).skip e129 (by decide)
                    have hday : I129 83 1 = I 83 1 := (congrFun (congrFun e129 83) 1).trans ((upd2_ne (.inr (by decide))).trans ((congrFun (hX.2.1 83 (by omega)).2.1 1).trans hday))
                    have hRb : ∀ a, a < n → R a = R a := fun a ha => (hX.2.1 a (by omega)).2.2.trans (hRb a ha)
                    have hb83 : ∀ a, a ≠ 83 → a < n → I129 a = I a := fun a ha hb => (upI e129 a ha).trans ((hX.2.1 a (by omega)).2.1.trans (hb83 a ha hb))
                    have hS0 := hS
                    have hR0 := hR1
                    have ht_b121 := (hX.2.1 _ hb_b121).1.trans ht_b121
                    have hb_b121 := Nat.lt_of_lt_of_le hb_b121 hX.1
                    have hb0_b121 := hb_b121
                    have ht_v126 := (hX.2.1 _ hb_v126).1.trans ht_v126
                    have hb_v126 := Nat.lt_of_lt_of_le hb_v126 hX.1
                    have hb0_v126 := hb_v126
                    have hn := Nat.le_refl n
                    have h94 := hS0.1
                    have hX := @yX.rf n tg I129 R
                    have hS := hS0.x hX
                    have hR := hR0.x hn hX
                    have hz := hX.sz h94
                    have hxn := hX.1
                    have hN := hR0.1
                    have hnb := hR0.2.2.2.2.2.2
                    have hthB := hth
                    refine y_aload_n rfl rfl ?_
                    refine y_getIv (v := Int32.ofInt (3)) rfl (ySh.t hS rfl) (ySh.n hS rfl) rfl rfl hth ?_
                    refine y_if_leF rfl (by decide) ?_
                    refine y_iconst rfl ?_
                    refine y_goto rfl j_X14_refuse_28 ?_
                    refine y_ireturn rfl rfl rfl ?_
                    refine y_ret1 ?_
                    refine y_if_eqF rfl (by decide) ?_
                    refine y_iconst rfl ?_
                    refine y_ireturn rfl rfl rfl ?_
                    exact hQ3 _ eb_b121 (by first | omega | (simp only [show ySeat x2 = x2 from if_neg (by omega), show ySeat x3 = x3 from if_neg (by omega)]; omega) | (simp only [show ySeat x2 = x2 from if_neg (by omega), show ySeat x3 = Int32.ofInt 8 from if_pos (by omega), show (Int32.ofInt 8).toInt.toNat = 8 from by decide]; omega) | (simp only [show ySeat x2 = Int32.ofInt 8 from if_pos (by omega), show ySeat x3 = x3 from if_neg (by omega), show (Int32.ofInt 8).toInt.toNat = 8 from by decide]; omega) | (simp only [show ySeat x2 = Int32.ofInt 8 from if_pos (by omega), show ySeat x3 = Int32.ofInt 8 from if_pos (by omega), show (Int32.ofInt 8).toInt.toNat = 8 from by decide]; omega)) _ _ _ _ _ _ _ hS ((hR0.grow hX).up (Nat.le_succ K) hk6) (hK.x hRo hno hX) hth ((hB.trans hX).rf2 (by omega)) (by omega) (by omega)
                  · refine y_aload rfl rfl ?_
                    obtain ⟨hR_v130, hb_v130, ht_v130⟩ := hR0.ven hlo_b121 hb0_b121 ht_b121 (j := 0) (by decide)
                    have hb0_v130 := hb_v130
                    have hb_v130 := Nat.lt_of_lt_of_le hb_v130 hn
                    have hlo_v130 : 94 ≤ b121 + 1 + 0 := by omega
                    have hR2_v130 := (congrFun (hX.2.1 b121 hb_b121).2.2 0).trans hR_v130
                    refine y_getR rfl ((hX.2.1 _ hb_b121).1.trans ht_b121) (Nat.lt_of_lt_of_le hb_b121 hX.1) rfl rfl hR2_v130 ?_
                    refine y_iload rfl rfl ?_
                    refine y_baloadv (J := I (b121 + 1 + 0)) rfl ((hX.2.1 _ hb_v130).1.trans ht_v130) rfl (Nat.lt_of_lt_of_le hb_v130 hX.1) (by omega) (by omega) (((hB.trans hX).n (by omega)).trans (by repeat (first | rfl | (rw [upd2_row (by first | decide | omega)]) | refine upd2_cg ?_))) ?_
                    refine y_if_eq rfl j_X14_buyOut_142 (fun h_131 => ?_) (fun h_132 => ?_)
                    · refine y_iconst rfl ?_
                      refine y_goto rfl j_X14_buyOut_147 ?_
                      refine y_iconst rfl ?_
                      refine y_virt rfl rfl rfl rfl rfl (ySh.t hS rfl) (ySh.n hS rfl) ?_
                      refine y_in (M := xm_X14_refuse) (ls := [some _, some _, some _]) rfl rfl rfl ?_
                      refine y_iload_n rfl rfl ?_
                      refine y_if_eqF rfl (by decide) ?_
                      refine y_aload_n rfl rfl ?_
                      refine y_getIv (v := Int32.ofInt (0)) rfl (ySh.t hS rfl) (ySh.n hS rfl) rfl rfl hth ?_
                      refine y_if_neF rfl (by decide) ?_
                      refine y_aload_n rfl rfl ?_
                      refine y_iload_n rfl rfl ?_
                      refine y_putI rfl (ySh.t hS rfl) (ySh.n hS rfl) rfl (Nat.le_of_ble_eq_true rfl) rfl rfl ?_
                      refine y_nameI (fun I133 e133 => ?_)
                      have hR1 := (hR0.grow hX).mod0 e133 (by decide) (by decide)
                      have hK := (hK.x hRo hno hX).upI (upI e133) (by decide) (by decide) (fun i hi => by have := (hRo.l87.2.2.2.2 i hi).2.1; omega) (by rw [e133, upd2_ne (.inr (by decide))]; exact Int.le_refl _)
                      have hth : I133 83 0 = Int32.ofInt (3) := by rw [e133, upd2_self]
                      have hzz : ySz8 I114 I133 := ySz8_of (upI e133) (by rw [e133]; exact ⟨upd2_ne (.inr (by decide)), upd2_ne (.inr (by decide))⟩)
                      have hB := (hB.trans hX).wr e133 rfl
                      have h8 : ∀ a, 84 ≤ a → a ≤ 86 → I133 a = I a := fun a h1 h2 => (upI e133 a (by omega)).trans ((hX.2.1 a (by omega)).2.1.trans (h8 a h1 h2))
                      have h3k : ∀ k, k ≠ 0 → I133 83 k = I 83 k := fun k hk => (congrFun (congrFun e133 83) k).trans ((upd2_ne (.inr hk)).trans ((congrFun (hX.2.1 83 (by omega)).2.1 k).trans (h3k k hk)))
                      have hg := (hg.gx hX (by omega)).skip e133 (by decide)
                      have hday : I133 83 1 = I 83 1 := (congrFun (congrFun e133 83) 1).trans ((upd2_ne (.inr (by decide))).trans ((congrFun (hX.2.1 83 (by omega)).2.1 1).trans hday))
                      have hRb : ∀ a, a < n → R a = R a := fun a ha => (hX.2.1 a (by omega)).2.2.trans (hRb a ha)
                      have hb83 : ∀ a, a ≠ 83 → a < n → I133 a = I a := fun a ha hb => (upI e133 a ha).trans ((hX.2.1 a (by omega)).2.1.trans (hb83 a ha hb))
                      have hS0 := hS
                      have hR0 := hR1
                      have ht_b121 := (hX.2.1 _ hb_b121).1.trans ht_b121
                      have hb_b121 := Nat.lt_of_lt_of_le hb_b121 hX.1
                      have hb0_b121 := hb_b121
                      have ht_v126 := (hX.2.1 _ hb_v126).1.trans ht_v126
                      have hb_v126 := Nat.lt_of_lt_of_le hb_v126 hX.1
                      have hb0_v126 := hb_v126
                      have ht_v130 := (hX.2.1 _ hb_v130).1.trans ht_v130
                      have hb_v130 := Nat.lt_of_lt_of_le hb_v130 hX.1
                      have hb0_v130 := hb_v130
                      have hn := Nat.le_refl n
                      have h94 := hS0.1
                      have hX := @yX.rf n tg I133 R
                      have hS := hS0.x hX
                      have hR := hR0.x hn hX
                      have hz := hX.sz h94
                      have hxn := hX.1
                      have hN := hR0.1
                      have hnb := hR0.2.2.2.2.2.2
                      have hthB := hth
                      refine y_aload_n rfl rfl ?_
                      refine y_getIv (v := Int32.ofInt (3)) rfl (ySh.t hS rfl) (ySh.n hS rfl) rfl rfl hth ?_
                      refine y_if_leF rfl (by decide) ?_
                      refine y_iconst rfl ?_
                      refine y_goto rfl j_X14_refuse_28 ?_
                      refine y_ireturn rfl rfl rfl ?_
                      refine y_ret1 ?_
                      refine y_if_eqF rfl (by decide) ?_
                      refine y_iconst rfl ?_
                      refine y_ireturn rfl rfl rfl ?_
                      exact hQ3 _ eb_b121 (by first | omega | (simp only [show ySeat x2 = x2 from if_neg (by omega), show ySeat x3 = x3 from if_neg (by omega)]; omega) | (simp only [show ySeat x2 = x2 from if_neg (by omega), show ySeat x3 = Int32.ofInt 8 from if_pos (by omega), show (Int32.ofInt 8).toInt.toNat = 8 from by decide]; omega) | (simp only [show ySeat x2 = Int32.ofInt 8 from if_pos (by omega), show ySeat x3 = x3 from if_neg (by omega), show (Int32.ofInt 8).toInt.toNat = 8 from by decide]; omega) | (simp only [show ySeat x2 = Int32.ofInt 8 from if_pos (by omega), show ySeat x3 = Int32.ofInt 8 from if_pos (by omega), show (Int32.ofInt 8).toInt.toNat = 8 from by decide]; omega)) _ _ _ _ _ _ _ hS ((hR0.grow hX).up (Nat.le_succ K) hk6) (hK.x hRo hno hX) hth ((hB.trans hX).rf2 (by omega)) (by omega) (by omega)
                    · refine y_aload rfl rfl ?_
                      obtain ⟨hR_v134, hb_v134, ht_v134⟩ := hR0.ven hlo_b121 hb0_b121 ht_b121 (j := 1) (by decide)
                      have hb0_v134 := hb_v134
                      have hb_v134 := Nat.lt_of_lt_of_le hb_v134 hn
                      have hlo_v134 : 94 ≤ b121 + 1 + 1 := by omega
                      have hR2_v134 := (congrFun (hX.2.1 b121 hb_b121).2.2 1).trans hR_v134
                      refine y_getR rfl ((hX.2.1 _ hb_b121).1.trans ht_b121) (Nat.lt_of_lt_of_le hb_b121 hX.1) rfl rfl hR2_v134 ?_
                      refine y_iload rfl rfl ?_
                      refine y_ialoadv (J := I (b121 + 1 + 1)) rfl ((hX.2.1 _ hb_v134).1.trans ht_v134) (Nat.lt_of_lt_of_le hb_v134 hX.1) (by omega) (by omega) (((hB.trans hX).n (by omega)).trans (by repeat (first | rfl | (rw [upd2_row (by first | decide | omega)]) | refine upd2_cg ?_))) ?_
                      refine y_iload rfl rfl ?_
                      refine y_icmp_lt rfl j_X14_buyOut_142 (fun h_135 => ?_) (fun h_136 => ?_)
                      · refine y_iconst rfl ?_
                        refine y_goto rfl j_X14_buyOut_147 ?_
                        refine y_iconst rfl ?_
                        refine y_virt rfl rfl rfl rfl rfl (ySh.t hS rfl) (ySh.n hS rfl) ?_
                        refine y_in (M := xm_X14_refuse) (ls := [some _, some _, some _]) rfl rfl rfl ?_
                        refine y_iload_n rfl rfl ?_
                        refine y_if_eqF rfl (by decide) ?_
                        refine y_aload_n rfl rfl ?_
                        refine y_getIv (v := Int32.ofInt (0)) rfl (ySh.t hS rfl) (ySh.n hS rfl) rfl rfl hth ?_
                        refine y_if_neF rfl (by decide) ?_
                        refine y_aload_n rfl rfl ?_
                        refine y_iload_n rfl rfl ?_
                        refine y_putI rfl (ySh.t hS rfl) (ySh.n hS rfl) rfl (Nat.le_of_ble_eq_true rfl) rfl rfl ?_
                        refine y_nameI (fun I137 e137 => ?_)
                        have hR1 := (hR0.grow hX).mod0 e137 (by decide) (by decide)
                        have hK := (hK.x hRo hno hX).upI (upI e137) (by decide) (by decide) (fun i hi => by have := (hRo.l87.2.2.2.2 i hi).2.1; omega) (by rw [e137, upd2_ne (.inr (by decide))]; exact Int.le_refl _)
                        have hth : I137 83 0 = Int32.ofInt (3) := by rw [e137, upd2_self]
                        have hzz : ySz8 I114 I137 := ySz8_of (upI e137) (by rw [e137]; exact ⟨upd2_ne (.inr (by decide)), upd2_ne (.inr (by decide))⟩)
                        have hB := (hB.trans hX).wr e137 rfl
                        have h8 : ∀ a, 84 ≤ a → a ≤ 86 → I137 a = I a := fun a h1 h2 => (upI e137 a (by omega)).trans ((hX.2.1 a (by omega)).2.1.trans (h8 a h1 h2))
                        have h3k : ∀ k, k ≠ 0 → I137 83 k = I 83 k := fun k hk => (congrFun (congrFun e137 83) k).trans ((upd2_ne (.inr hk)).trans ((congrFun (hX.2.1 83 (by omega)).2.1 k).trans (h3k k hk)))
                        have hg := (hg.gx hX (by omega)).skip e137 (by decide)
                        have hday : I137 83 1 = I 83 1 := (congrFun (congrFun e137 83) 1).trans ((upd2_ne (.inr (by decide))).trans ((congrFun (hX.2.1 83 (by omega)).2.1 1).trans hday))
                        have hRb : ∀ a, a < n → R a = R a := fun a ha => (hX.2.1 a (by omega)).2.2.trans (hRb a ha)
                        have hb83 : ∀ a, a ≠ 83 → a < n → I137 a = I a := fun a ha hb => (upI e137 a ha).trans ((hX.2.1 a (by omega)).2.1.trans (hb83 a ha hb))
                        have hS0 := hS
                        have hR0 := hR1
                        have ht_b121 := (hX.2.1 _ hb_b121).1.trans ht_b121
                        have hb_b121 := Nat.lt_of_lt_of_le hb_b121 hX.1
                        have hb0_b121 := hb_b121
                        have ht_v126 := (hX.2.1 _ hb_v126).1.trans ht_v126
                        have hb_v126 := Nat.lt_of_lt_of_le hb_v126 hX.1
                        have hb0_v126 := hb_v126
                        have ht_v130 := (hX.2.1 _ hb_v130).1.trans ht_v130
                        have hb_v130 := Nat.lt_of_lt_of_le hb_v130 hX.1
                        have hb0_v130 := hb_v130
                        have ht_v134 := (hX.2.1 _ hb_v134).1.trans ht_v134
                        have hb_v134 := Nat.lt_of_lt_of_le hb_v134 hX.1
                        have hb0_v134 := hb_v134
                        have hn := Nat.le_refl n
                        have h94 := hS0.1
                        have hX := @yX.rf n tg I137 R
                        have hS := hS0.x hX
                        have hR := hR0.x hn hX
                        have hz := hX.sz h94
                        have hxn := hX.1
                        have hN := hR0.1
                        have hnb := hR0.2.2.2.2.2.2
                        have hthB := hth
                        refine y_aload_n rfl rfl ?_
                        refine y_getIv (v := Int32.ofInt (3)) rfl (ySh.t hS rfl) (ySh.n hS rfl) rfl rfl hth ?_
                        refine y_if_leF rfl (by decide) ?_
                        refine y_iconst rfl ?_
                        refine y_goto rfl j_X14_refuse_28 ?_
                        refine y_ireturn rfl rfl rfl ?_
                        refine y_ret1 ?_
                        refine y_if_eqF rfl (by decide) ?_
                        refine y_iconst rfl ?_
                        refine y_ireturn rfl rfl rfl ?_
                        exact hQ3 _ eb_b121 (by first | omega | (simp only [show ySeat x2 = x2 from if_neg (by omega), show ySeat x3 = x3 from if_neg (by omega)]; omega) | (simp only [show ySeat x2 = x2 from if_neg (by omega), show ySeat x3 = Int32.ofInt 8 from if_pos (by omega), show (Int32.ofInt 8).toInt.toNat = 8 from by decide]; omega) | (simp only [show ySeat x2 = Int32.ofInt 8 from if_pos (by omega), show ySeat x3 = x3 from if_neg (by omega), show (Int32.ofInt 8).toInt.toNat = 8 from by decide]; omega) | (simp only [show ySeat x2 = Int32.ofInt 8 from if_pos (by omega), show ySeat x3 = Int32.ofInt 8 from if_pos (by omega), show (Int32.ofInt 8).toInt.toNat = 8 from by decide]; omega)) _ _ _ _ _ _ _ hS ((hR0.grow hX).up (Nat.le_succ K) hk6) (hK.x hRo hno hX) hth ((hB.trans hX).rf2 (by omega)) (by omega) (by omega)
                      · refine y_aload_n rfl rfl ?_
                        refine y_getR rfl (ySh.t hS rfl) (ySh.n hS rfl) rfl rfl (ySh.r hS rfl) ?_
                        refine y_iload rfl rfl ?_
                        refine y_ialoadv (J := I 84) rfl (ySh.t hS rfl) (ySh.n hS rfl) (by omega) (by omega) (((hB.trans hX).n (by omega)).trans (by repeat (first | rfl | (rw [upd2_row (by first | decide | omega)]) | refine upd2_cg ?_))) ?_
                        refine y_iload rfl rfl ?_
                        refine y_icmp_ge rfl j_X14_buyOut_146 (fun h_138 => ?_) (fun h_139 => ?_)
                        · refine y_iconst rfl ?_
                          refine y_iconst rfl ?_
                          refine y_virt rfl rfl rfl rfl rfl (ySh.t hS rfl) (ySh.n hS rfl) ?_
                          refine y_in (M := xm_X14_refuse) (ls := [some _, some _, some _]) rfl rfl rfl ?_
                          refine y_iload_n rfl rfl ?_
                          refine y_if_eqT rfl j_X14_refuse_16 (by decide) ?_
                          refine y_aload_n rfl rfl ?_
                          refine y_getIv (v := Int32.ofInt (0)) rfl (ySh.t hS rfl) (ySh.n hS rfl) rfl rfl hth ?_
                          refine y_if_leT rfl j_X14_refuse_27 (by decide) ?_
                          refine y_iconst rfl ?_
                          refine y_ireturn rfl rfl rfl ?_
                          refine y_ret1 ?_
                          refine y_if_eqT rfl j_X14_buyOut_156 (by decide) ?_
                          refine y_aload rfl rfl ?_
                          obtain ⟨hR_v140, hb_v140, ht_v140⟩ := hR0.ven hlo_b121 hb0_b121 ht_b121 (j := 1) (by decide)
                          have hb0_v140 := hb_v140
                          have hb_v140 := Nat.lt_of_lt_of_le hb_v140 hn
                          have hlo_v140 : 94 ≤ b121 + 1 + 1 := by omega
                          have hR2_v140 := (congrFun (hX.2.1 b121 hb_b121).2.2 1).trans hR_v140
                          refine y_getR rfl ((hX.2.1 _ hb_b121).1.trans ht_b121) (Nat.lt_of_lt_of_le hb_b121 hX.1) rfl rfl hR2_v140 ?_
                          refine y_iload rfl rfl ?_
                          refine y_dup2 rfl rfl rfl ?_
                          refine y_ialoadv (J := I (b121 + 1 + 1)) rfl ((hX.2.1 _ hb_v140).1.trans ht_v140) (Nat.lt_of_lt_of_le hb_v140 hX.1) (by omega) (by omega) (((hB.trans hX).n (by omega)).trans (by repeat (first | rfl | (rw [upd2_row (by first | decide | omega)]) | refine upd2_cg ?_))) ?_
                          refine y_iload rfl rfl ?_
                          refine y_isub rfl ?_
                          refine y_iastore rfl ((hX.2.1 _ hb_v140).1.trans ht_v140) (Nat.lt_of_lt_of_le hb_v140 hX.1) (Nat.le_trans (by decide) (by omega : 94 ≤ _)) (by omega) (by omega) ?_
                          refine y_nameI (fun I141 e141 => ?_)
                          have hB1 := (hR0.grow hX).capB1x hlo_b121 (by omega) ((hX.2.1 _ hb_b121).1.trans ht_b121) (by omega) e141 (by rw [show I114 (b121 + 1 + 1) = I (b121 + 1 + 1) from ((hB.trans hX).n (by omega)).trans (by repeat (first | rfl | (rw [upd2_row (by first | decide | omega)]) | refine upd2_cg ?_))]) ⟨by omega, by rw [show I114 (b121 + 1 + 1) = I (b121 + 1 + 1) from ((hB.trans hX).n (by omega)).trans (by repeat (first | rfl | (rw [upd2_row (by first | decide | omega)]) | refine upd2_cg ?_))]; omega⟩
                          have hR1 := hB1.1
                          have hK := (hK.x hRo hno hX).upE hRo hno (upI e141) (by omega) (by omega) (by rw [((hX.2.1 _ hb_v140).1.trans ht_v140)]; decide) (by rw [e141, upd2_ne (.inl (by omega))]; exact Int.le_refl _)
                          have hth := (show I141 83 0 = I114 83 0 by rw [e141, upd2_ne (.inl (by omega))]).trans hth
                          have hzz : ySz I114 I141 := ySz_ofE (upI e141) (by omega)
                          have hB := (hB.trans hX).wr e141 rfl
                          have h8 : ∀ a, 84 ≤ a → a ≤ 86 → I141 a = I a := fun a h1 h2 => (upI e141 a (by omega)).trans ((hX.2.1 a (by omega)).2.1.trans (h8 a h1 h2))
                          have h3k : ∀ k, k ≠ 0 → I141 83 k = I 83 k := fun k hk => (congrFun (congrFun e141 83) k).trans ((upd2_ne (.inl (by omega))).trans ((congrFun (hX.2.1 83 (by omega)).2.1 k).trans (h3k k hk)))
                          have hg := (hg.gx hX (by omega)).both e141
                          have hday : I141 83 1 = I 83 1 := (congrFun (congrFun e141 83) 1).trans ((upd2_ne (.inl (by omega))).trans ((congrFun (hX.2.1 83 (by omega)).2.1 1).trans hday))
                          have hRb : ∀ a, a < n → R a = R a := fun a ha => (hX.2.1 a (by omega)).2.2.trans (hRb a ha)
                          have hS0 := hS
                          have hR0 := hR1
                          have ht_b121 := (hX.2.1 _ hb_b121).1.trans ht_b121
                          have hb_b121 := Nat.lt_of_lt_of_le hb_b121 hX.1
                          have hb0_b121 := hb_b121
                          have ht_v126 := (hX.2.1 _ hb_v126).1.trans ht_v126
                          have hb_v126 := Nat.lt_of_lt_of_le hb_v126 hX.1
                          have hb0_v126 := hb_v126
                          have ht_v130 := (hX.2.1 _ hb_v130).1.trans ht_v130
                          have hb_v130 := Nat.lt_of_lt_of_le hb_v130 hX.1
                          have hb0_v130 := hb_v130
                          have ht_v134 := (hX.2.1 _ hb_v134).1.trans ht_v134
                          have hb_v134 := Nat.lt_of_lt_of_le hb_v134 hX.1
                          have hb0_v134 := hb_v134
                          have ht_v140 := (hX.2.1 _ hb_v140).1.trans ht_v140
                          have hb_v140 := Nat.lt_of_lt_of_le hb_v140 hX.1
                          have hb0_v140 := hb_v140
                          have hn := Nat.le_refl n
                          have h94 := hS0.1
                          have hX := @yX.rf n tg I141 R
                          have hS := hS0.x hX
                          have hR := hR0.x hn hX
                          have hz := hX.sz h94
                          have hxn := hX.1
                          have hN := hR0.1
                          have hnb := hR0.2.2.2.2.2.2
                          have hthB := hth
                          refine y_aload rfl rfl ?_
                          obtain ⟨hR_v142, hb_v142, ht_v142⟩ := hR0.ven hlo_b121 hb0_b121 ht_b121 (j := 1) (by decide)
                          have hb0_v142 := hb_v142
                          have hb_v142 := Nat.lt_of_lt_of_le hb_v142 hn
                          have hlo_v142 : 94 ≤ b121 + 1 + 1 := by omega
                          have hR2_v142 := (congrFun (hX.2.1 b121 hb_b121).2.2 1).trans hR_v142
                          refine y_getR rfl ((hX.2.1 _ hb_b121).1.trans ht_b121) (Nat.lt_of_lt_of_le hb_b121 hX.1) rfl rfl hR2_v142 ?_
                          refine y_iload rfl rfl ?_
                          refine y_dup2 rfl rfl rfl ?_
                          refine y_ialoadv (J := _) rfl ((hX.2.1 _ hb_v142).1.trans ht_v142) (Nat.lt_of_lt_of_le hb_v142 hX.1) (by omega) (by omega) ((hB.trans hX).n (by omega)) ?_
                          refine y_iload rfl rfl ?_
                          refine y_iadd rfl ?_
                          refine y_iastore rfl ((hX.2.1 _ hb_v142).1.trans ht_v142) (Nat.lt_of_lt_of_le hb_v142 hX.1) (Nat.le_trans (by decide) (by omega : 94 ≤ _)) (by omega) (by omega) ?_
                          refine y_nameI (fun I143 e143 => ?_)
                          have hR1 := (hR0.grow hX).capB2x hlo_b121 (by omega) ((hX.2.1 _ hb_b121).1.trans ht_b121) (by omega) (by omega) hB1.2.1 e143 (by rw [show I141 (b121 + 1 + 1) = _ from ((hB.trans hX).n (by omega))])
                          have hK := (hK.x hRo hno hX).upE hRo hno (upI e143) (by omega) (by omega) (by rw [((hX.2.1 _ hb_v142).1.trans ht_v142)]; decide) (by rw [e143, upd2_ne (.inl (by omega))]; exact Int.le_refl _)
                          have hth := (show I143 83 0 = I141 83 0 by rw [e143, upd2_ne (.inl (by omega))]).trans hth
                          have hzz : ySz I141 I143 := ySz_ofE (upI e143) (by omega)
                          have hB := (hB.trans hX).wr e143 rfl
                          have h8 : ∀ a, 84 ≤ a → a ≤ 86 → I143 a = I a := fun a h1 h2 => (upI e143 a (by omega)).trans ((hX.2.1 a (by omega)).2.1.trans (h8 a h1 h2))
                          have h3k : ∀ k, k ≠ 0 → I143 83 k = I 83 k := fun k hk => (congrFun (congrFun e143 83) k).trans ((upd2_ne (.inl (by omega))).trans ((congrFun (hX.2.1 83 (by omega)).2.1 k).trans (h3k k hk)))
                          have hg := (hg.gx hX (by omega)).both e143
                          have hday : I143 83 1 = I 83 1 := (congrFun (congrFun e143 83) 1).trans ((upd2_ne (.inl (by omega))).trans ((congrFun (hX.2.1 83 (by omega)).2.1 1).trans hday))
                          have hRb : ∀ a, a < n → R a = R a := fun a ha => (hX.2.1 a (by omega)).2.2.trans (hRb a ha)
                          have hS0 := hS
                          have hR0 := hR1
                          have ht_b121 := (hX.2.1 _ hb_b121).1.trans ht_b121
                          have hb_b121 := Nat.lt_of_lt_of_le hb_b121 hX.1
                          have hb0_b121 := hb_b121
                          have ht_v126 := (hX.2.1 _ hb_v126).1.trans ht_v126
                          have hb_v126 := Nat.lt_of_lt_of_le hb_v126 hX.1
                          have hb0_v126 := hb_v126
                          have ht_v130 := (hX.2.1 _ hb_v130).1.trans ht_v130
                          have hb_v130 := Nat.lt_of_lt_of_le hb_v130 hX.1
                          have hb0_v130 := hb_v130
                          have ht_v134 := (hX.2.1 _ hb_v134).1.trans ht_v134
                          have hb_v134 := Nat.lt_of_lt_of_le hb_v134 hX.1
                          have hb0_v134 := hb_v134
                          have ht_v140 := (hX.2.1 _ hb_v140).1.trans ht_v140
                          have hb_v140 := Nat.lt_of_lt_of_le hb_v140 hX.1
                          have hb0_v140 := hb_v140
                          have ht_v142 := (hX.2.1 _ hb_v142).1.trans ht_v142
                          have hb_v142 := Nat.lt_of_lt_of_le hb_v142 hX.1
                          have hb0_v142 := hb_v142
                          have hn := Nat.le_refl n
                          have h94 := hS0.1
                          have hX := @yX.rf n tg I143 R
                          have hS := hS0.x hX
                          have hR := hR0.x hn hX
                          have hz := hX.sz h94
                          have hxn := hX.1
                          have hN := hR0.1
                          have hnb := hR0.2.2.2.2.2.2
                          have hthB := hth
                          refine y_aload_n rfl rfl ?_
                          refine y_getR rfl (ySh.t hS rfl) (ySh.n hS rfl) rfl rfl (ySh.r hS rfl) ?_
                          refine y_iload rfl rfl ?_
                          refine y_dup2 rfl rfl rfl ?_
                          refine y_ialoadv (J := I 84) rfl (ySh.t hS rfl) (ySh.n hS rfl) (by omega) (by omega) (((hB.trans hX).n (by omega)).trans (by repeat (first | rfl | (rw [upd2_row (by first | decide | omega)]) | refine upd2_cg ?_))) ?_
                          refine y_iload rfl rfl ?_
                          refine y_iadd rfl ?_
                          refine y_iastore rfl (ySh.t hS rfl) (ySh.n hS rfl) (Nat.le_of_ble_eq_true rfl) (by omega) (by omega) ?_
                          refine y_nameI (fun I144 e144 => ?_)
                          have hR1 := (hR0.grow hX).arr e144 (by decide)
                          have hK := (hK.x hRo hno hX).upI (upI e144) (by decide) (by decide) (fun i hi => by have := (hRo.l87.2.2.2.2 i hi).2.1; omega) (by rw [e144, upd2_ne (.inl (by omega))]; exact Int.le_refl _)
                          have hth := (show I144 83 0 = I143 83 0 by rw [e144, upd2_ne (.inl (by omega))]).trans hth
                          have hzz : ySz I143 I144 := ySz_ofE (upI e144) (by omega)
                          have hB := (hB.trans hX).wr e144 rfl
                          have h3k : ∀ k, k ≠ 0 → I144 83 k = I 83 k := fun k hk => (congrFun (congrFun e144 83) k).trans ((upd2_ne (.inl (by omega))).trans ((congrFun (hX.2.1 83 (by omega)).2.1 k).trans (h3k k hk)))
                          have hg := (hg.gx hX (by omega)).skip e144 (by decide)
                          have hday : I144 83 1 = I 83 1 := (congrFun (congrFun e144 83) 1).trans ((upd2_ne (.inl (by omega))).trans ((congrFun (hX.2.1 83 (by omega)).2.1 1).trans hday))
                          have hRb : ∀ a, a < n → R a = R a := fun a ha => (hX.2.1 a (by omega)).2.2.trans (hRb a ha)
                          have hS0 := hS
                          have hR0 := hR1
                          have ht_b121 := (hX.2.1 _ hb_b121).1.trans ht_b121
                          have hb_b121 := Nat.lt_of_lt_of_le hb_b121 hX.1
                          have hb0_b121 := hb_b121
                          have ht_v126 := (hX.2.1 _ hb_v126).1.trans ht_v126
                          have hb_v126 := Nat.lt_of_lt_of_le hb_v126 hX.1
                          have hb0_v126 := hb_v126
                          have ht_v130 := (hX.2.1 _ hb_v130).1.trans ht_v130
                          have hb_v130 := Nat.lt_of_lt_of_le hb_v130 hX.1
                          have hb0_v130 := hb_v130
                          have ht_v134 := (hX.2.1 _ hb_v134).1.trans ht_v134
                          have hb_v134 := Nat.lt_of_lt_of_le hb_v134 hX.1
                          have hb0_v134 := hb_v134
                          have ht_v140 := (hX.2.1 _ hb_v140).1.trans ht_v140
                          have hb_v140 := Nat.lt_of_lt_of_le hb_v140 hX.1
                          have hb0_v140 := hb_v140
                          have ht_v142 := (hX.2.1 _ hb_v142).1.trans ht_v142
                          have hb_v142 := Nat.lt_of_lt_of_le hb_v142 hX.1
                          have hb0_v142 := hb_v142
                          have hn := Nat.le_refl n
                          have h94 := hS0.1
                          have hX := @yX.rf n tg I144 R
                          have hS := hS0.x hX
                          have hR := hR0.x hn hX
                          have hz := hX.sz h94
                          have hxn := hX.1
                          have hN := hR0.1
                          have hnb := hR0.2.2.2.2.2.2
                          have hthB := hth
                          refine y_aload_n rfl rfl ?_
                          refine y_getR rfl (ySh.t hS rfl) (ySh.n hS rfl) rfl rfl (ySh.r hS rfl) ?_
                          refine y_iload rfl rfl ?_
                          refine y_dup2 rfl rfl rfl ?_
                          refine y_ialoadv (J := _) rfl (ySh.t hS rfl) (ySh.n hS rfl) (by omega) (by omega) ((hB.trans hX).n (by omega)) ?_
                          refine y_iload rfl rfl ?_
                          refine y_isub rfl ?_
                          refine y_iastore rfl (ySh.t hS rfl) (ySh.n hS rfl) (Nat.le_of_ble_eq_true rfl) (by omega) (by omega) ?_
                          refine y_nameI (fun I145 e145 => ?_)
                          have hR1 := (hR0.grow hX).arr e145 (by decide)
                          have hK := (hK.x hRo hno hX).upI (upI e145) (by decide) (by decide) (fun i hi => by have := (hRo.l87.2.2.2.2 i hi).2.1; omega) (by rw [e145, upd2_ne (.inl (by omega))]; exact Int.le_refl _)
                          have hth := (show I145 83 0 = I144 83 0 by rw [e145, upd2_ne (.inl (by omega))]).trans hth
                          have hzz : ySz I144 I145 := ySz_ofE (upI e145) (by omega)
                          have hB := (hB.trans hX).wr e145 rfl
                          have h3k : ∀ k, k ≠ 0 → I145 83 k = I 83 k := fun k hk => (congrFun (congrFun e145 83) k).trans ((upd2_ne (.inl (by omega))).trans ((congrFun (hX.2.1 83 (by omega)).2.1 k).trans (h3k k hk)))
                          have hg := (hg.gx hX (by omega)).skip e145 (by decide)
                          have hday : I145 83 1 = I 83 1 := (congrFun (congrFun e145 83) 1).trans ((upd2_ne (.inl (by omega))).trans ((congrFun (hX.2.1 83 (by omega)).2.1 1).trans hday))
                          have hRb : ∀ a, a < n → R a = R a := fun a ha => (hX.2.1 a (by omega)).2.2.trans (hRb a ha)
                          have hS0 := hS
                          have hR0 := hR1
                          have ht_b121 := (hX.2.1 _ hb_b121).1.trans ht_b121
                          have hb_b121 := Nat.lt_of_lt_of_le hb_b121 hX.1
                          have hb0_b121 := hb_b121
                          have ht_v126 := (hX.2.1 _ hb_v126).1.trans ht_v126
                          have hb_v126 := Nat.lt_of_lt_of_le hb_v126 hX.1
                          have hb0_v126 := hb_v126
                          have ht_v130 := (hX.2.1 _ hb_v130).1.trans ht_v130
                          have hb_v130 := Nat.lt_of_lt_of_le hb_v130 hX.1
                          have hb0_v130 := hb_v130
                          have ht_v134 := (hX.2.1 _ hb_v134).1.trans ht_v134
                          have hb_v134 := Nat.lt_of_lt_of_le hb_v134 hX.1
                          have hb0_v134 := hb_v134
                          have ht_v140 := (hX.2.1 _ hb_v140).1.trans ht_v140
                          have hb_v140 := Nat.lt_of_lt_of_le hb_v140 hX.1
                          have hb0_v140 := hb_v140
                          have ht_v142 := (hX.2.1 _ hb_v142).1.trans ht_v142
                          have hb_v142 := Nat.lt_of_lt_of_le hb_v142 hX.1
                          have hb0_v142 := hb_v142
                          have hn := Nat.le_refl n
                          have h94 := hS0.1
                          have hX := @yX.rf n tg I145 R
                          have hS := hS0.x hX
                          have hR := hR0.x hn hX
                          have hz := hX.sz h94
                          have hxn := hX.1
                          have hN := hR0.1
                          have hnb := hR0.2.2.2.2.2.2
                          have hthB := hth
                          refine y_aload rfl rfl ?_
                          obtain ⟨hR_v146, hb_v146, ht_v146⟩ := hR0.ven hlo_b121 hb0_b121 ht_b121 (j := 1) (by decide)
                          have hb0_v146 := hb_v146
                          have hb_v146 := Nat.lt_of_lt_of_le hb_v146 hn
                          have hlo_v146 : 94 ≤ b121 + 1 + 1 := by omega
                          have hR2_v146 := (congrFun (hX.2.1 b121 hb_b121).2.2 1).trans hR_v146
                          refine y_getR rfl ((hX.2.1 _ hb_b121).1.trans ht_b121) (Nat.lt_of_lt_of_le hb_b121 hX.1) rfl rfl hR2_v146 ?_
                          refine y_iload rfl rfl ?_
                          refine y_ialoadv (J := _) rfl ((hX.2.1 _ hb_v146).1.trans ht_v146) (Nat.lt_of_lt_of_le hb_v146 hX.1) (by omega) (by omega) ((hB.trans hX).n (by omega)) ?_
                          refine y_ireturn rfl rfl rfl ?_
                          exact hQ0 _ eb_b121 (by first | omega | (simp only [show ySeat x2 = x2 from if_neg (by omega), show ySeat x3 = x3 from if_neg (by omega)]; omega) | (simp only [show ySeat x2 = x2 from if_neg (by omega), show ySeat x3 = Int32.ofInt 8 from if_pos (by omega), show (Int32.ofInt 8).toInt.toNat = 8 from by decide]; omega) | (simp only [show ySeat x2 = Int32.ofInt 8 from if_pos (by omega), show ySeat x3 = x3 from if_neg (by omega), show (Int32.ofInt 8).toInt.toNat = 8 from by decide]; omega) | (simp only [show ySeat x2 = Int32.ofInt 8 from if_pos (by omega), show ySeat x3 = Int32.ofInt 8 from if_pos (by omega), show (Int32.ofInt 8).toInt.toNat = 8 from by decide]; omega)) _ _ _ _ _ _ _ hS ((hR0.grow hX).up (Nat.le_succ K) hk6) (hK.x hRo hno hX) hth (by first | exact (congrFun ((hB.trans hX).n (by omega)) _).symm | (simp only [show ySeat x2 = x2 from if_neg (by omega), show ySeat x3 = x3 from if_neg (by omega)]; exact (congrFun ((hB.trans hX).n (by omega)) _).symm) | (simp only [show ySeat x2 = x2 from if_neg (by omega), show ySeat x3 = Int32.ofInt 8 from if_pos (by omega), show (Int32.ofInt 8).toInt.toNat = 8 from by decide]; exact (congrFun ((hB.trans hX).n (by omega)) _).symm) | (simp only [show ySeat x2 = Int32.ofInt 8 from if_pos (by omega), show ySeat x3 = x3 from if_neg (by omega), show (Int32.ofInt 8).toInt.toNat = 8 from by decide]; exact (congrFun ((hB.trans hX).n (by omega)) _).symm) | (simp only [show ySeat x2 = Int32.ofInt 8 from if_pos (by omega), show ySeat x3 = Int32.ofInt 8 from if_pos (by omega), show (Int32.ofInt 8).toInt.toNat = 8 from by decide]; exact (congrFun ((hB.trans hX).n (by omega)) _).symm)) (by first | (exact hB.trans hX) | (simp only [show ySeat x2 = x2 from if_neg (by omega), show ySeat x3 = x3 from if_neg (by omega)]; exact hB.trans hX) | (simp only [show ySeat x2 = x2 from if_neg (by omega), show ySeat x3 = Int32.ofInt 8 from if_pos (by omega), show (Int32.ofInt 8).toInt.toNat = 8 from by decide]; exact hB.trans hX) | (simp only [show ySeat x2 = Int32.ofInt 8 from if_pos (by omega), show ySeat x3 = x3 from if_neg (by omega), show (Int32.ofInt 8).toInt.toNat = 8 from by decide]; exact hB.trans hX) | (simp only [show ySeat x2 = Int32.ofInt 8 from if_pos (by omega), show ySeat x3 = Int32.ofInt 8 from if_pos (by omega), show (Int32.ofInt 8).toInt.toNat = 8 from by decide]; exact hB.trans hX)) (by omega) (by omega)
                        · refine y_iconst rfl ?_
                          refine y_goto rfl j_X14_buyOut_147 ?_
                          refine y_iconst rfl ?_
                          refine y_virt rfl rfl rfl rfl rfl (ySh.t hS rfl) (ySh.n hS rfl) ?_
                          refine y_in (M := xm_X14_refuse) (ls := [some _, some _, some _]) rfl rfl rfl ?_
                          refine y_iload_n rfl rfl ?_
                          refine y_if_eqF rfl (by decide) ?_
                          refine y_aload_n rfl rfl ?_
                          refine y_getIv (v := Int32.ofInt (0)) rfl (ySh.t hS rfl) (ySh.n hS rfl) rfl rfl hth ?_
                          refine y_if_neF rfl (by decide) ?_
                          refine y_aload_n rfl rfl ?_
                          refine y_iload_n rfl rfl ?_
                          refine y_putI rfl (ySh.t hS rfl) (ySh.n hS rfl) rfl (Nat.le_of_ble_eq_true rfl) rfl rfl ?_
                          refine y_nameI (fun I147 e147 => ?_)
                          have hR1 := (hR0.grow hX).mod0 e147 (by decide) (by decide)
                          have hK := (hK.x hRo hno hX).upI (upI e147) (by decide) (by decide) (fun i hi => by have := (hRo.l87.2.2.2.2 i hi).2.1; omega) (by rw [e147, upd2_ne (.inr (by decide))]; exact Int.le_refl _)
                          have hth : I147 83 0 = Int32.ofInt (3) := by rw [e147, upd2_self]
                          have hzz : ySz8 I114 I147 := ySz8_of (upI e147) (by rw [e147]; exact ⟨upd2_ne (.inr (by decide)), upd2_ne (.inr (by decide))⟩)
                          have hB := (hB.trans hX).wr e147 rfl
                          have h8 : ∀ a, 84 ≤ a → a ≤ 86 → I147 a = I a := fun a h1 h2 => (upI e147 a (by omega)).trans ((hX.2.1 a (by omega)).2.1.trans (h8 a h1 h2))
                          have h3k : ∀ k, k ≠ 0 → I147 83 k = I 83 k := fun k hk => (congrFun (congrFun e147 83) k).trans ((upd2_ne (.inr hk)).trans ((congrFun (hX.2.1 83 (by omega)).2.1 k).trans (h3k k hk)))
                          have hg := (hg.gx hX (by omega)).skip e147 (by decide)
                          have hday : I147 83 1 = I 83 1 := (congrFun (congrFun e147 83) 1).trans ((upd2_ne (.inr (by decide))).trans ((congrFun (hX.2.1 83 (by omega)).2.1 1).trans hday))
                          have hRb : ∀ a, a < n → R a = R a := fun a ha => (hX.2.1 a (by omega)).2.2.trans (hRb a ha)
                          have hb83 : ∀ a, a ≠ 83 → a < n → I147 a = I a := fun a ha hb => (upI e147 a ha).trans ((hX.2.1 a (by omega)).2.1.trans (hb83 a ha hb))
                          have hS0 := hS
                          have hR0 := hR1
                          have ht_b121 := (hX.2.1 _ hb_b121).1.trans ht_b121
                          have hb_b121 := Nat.lt_of_lt_of_le hb_b121 hX.1
                          have hb0_b121 := hb_b121
                          have ht_v126 := (hX.2.1 _ hb_v126).1.trans ht_v126
                          have hb_v126 := Nat.lt_of_lt_of_le hb_v126 hX.1
                          have hb0_v126 := hb_v126
                          have ht_v130 := (hX.2.1 _ hb_v130).1.trans ht_v130
                          have hb_v130 := Nat.lt_of_lt_of_le hb_v130 hX.1
                          have hb0_v130 := hb_v130
                          have ht_v134 := (hX.2.1 _ hb_v134).1.trans ht_v134
                          have hb_v134 := Nat.lt_of_lt_of_le hb_v134 hX.1
                          have hb0_v134 := hb_v134
                          have hn := Nat.le_refl n
                          have h94 := hS0.1
                          have hX := @yX.rf n tg I147 R
                          have hS := hS0.x hX
                          have hR := hR0.x hn hX
                          have hz := hX.sz h94
                          have hxn := hX.1
                          have hN := hR0.1
                          have hnb := hR0.2.2.2.2.2.2
                          have hthB := hth
                          refine y_aload_n rfl rfl ?_
                          refine y_getIv (v := Int32.ofInt (3)) rfl (ySh.t hS rfl) (ySh.n hS rfl) rfl rfl hth ?_
                          refine y_if_leF rfl (by decide) ?_
                          refine y_iconst rfl ?_
                          refine y_goto rfl j_X14_refuse_28 ?_
                          refine y_ireturn rfl rfl rfl ?_
                          refine y_ret1 ?_
                          refine y_if_eqF rfl (by decide) ?_
                          refine y_iconst rfl ?_
                          refine y_ireturn rfl rfl rfl ?_
                          exact hQ3 _ eb_b121 (by first | omega | (simp only [show ySeat x2 = x2 from if_neg (by omega), show ySeat x3 = x3 from if_neg (by omega)]; omega) | (simp only [show ySeat x2 = x2 from if_neg (by omega), show ySeat x3 = Int32.ofInt 8 from if_pos (by omega), show (Int32.ofInt 8).toInt.toNat = 8 from by decide]; omega) | (simp only [show ySeat x2 = Int32.ofInt 8 from if_pos (by omega), show ySeat x3 = x3 from if_neg (by omega), show (Int32.ofInt 8).toInt.toNat = 8 from by decide]; omega) | (simp only [show ySeat x2 = Int32.ofInt 8 from if_pos (by omega), show ySeat x3 = Int32.ofInt 8 from if_pos (by omega), show (Int32.ofInt 8).toInt.toNat = 8 from by decide]; omega)) _ _ _ _ _ _ _ hS ((hR0.grow hX).up (Nat.le_succ K) hk6) (hK.x hRo hno hX) hth ((hB.trans hX).rf2 (by omega)) (by omega) (by omega)
                · rw [yz_m1] at h_125
                  refine y_bip rfl (by decide) ?_
                  refine y_goto rfl j_X14_seat_11 ?_
                  refine y_ireturn rfl rfl rfl ?_
                  refine y_ret1 ?_
                  refine y_istore (ls' := [some _, some _, some _, some _, some _, some _, some _, some _]) rfl rfl rfl ?_
                  refine y_aload_n rfl rfl ?_
                  refine y_aload rfl rfl ?_
                  obtain ⟨hR_v148, hb_v148, ht_v148⟩ := hR0.ven hlo_b121 hb0_b121 ht_b121 (j := 0) (by decide)
                  have hb0_v148 := hb_v148
                  have hb_v148 := Nat.lt_of_lt_of_le hb_v148 hn
                  have hlo_v148 : 94 ≤ b121 + 1 + 0 := by omega
                  have hR2_v148 := (congrFun (hX.2.1 b121 hb_b121).2.2 0).trans hR_v148
                  refine y_getR rfl ((hX.2.1 _ hb_b121).1.trans ht_b121) (Nat.lt_of_lt_of_le hb_b121 hX.1) rfl rfl hR2_v148 ?_
                  refine y_iload rfl rfl ?_
                  refine y_baloadv (J := I (b121 + 1 + 0)) rfl ((hX.2.1 _ hb_v148).1.trans ht_v148) rfl (Nat.lt_of_lt_of_le hb_v148 hX.1) (by omega) (by omega) (((hB.trans hX).n (by omega)).trans (by repeat (first | rfl | (rw [upd2_row (by first | decide | omega)]) | refine upd2_cg ?_))) ?_
                  refine y_if_eq rfl j_X14_buyOut_142 (fun h_149 => ?_) (fun h_150 => ?_)
                  · refine y_iconst rfl ?_
                    refine y_goto rfl j_X14_buyOut_147 ?_
                    refine y_iconst rfl ?_
                    refine y_virt rfl rfl rfl rfl rfl (ySh.t hS rfl) (ySh.n hS rfl) ?_
                    refine y_in (M := xm_X14_refuse) (ls := [some _, some _, some _]) rfl rfl rfl ?_
                    refine y_iload_n rfl rfl ?_
                    refine y_if_eqF rfl (by decide) ?_
                    refine y_aload_n rfl rfl ?_
                    refine y_getIv (v := Int32.ofInt (0)) rfl (ySh.t hS rfl) (ySh.n hS rfl) rfl rfl hth ?_
                    refine y_if_neF rfl (by decide) ?_
                    refine y_aload_n rfl rfl ?_
                    refine y_iload_n rfl rfl ?_
                    refine y_putI rfl (ySh.t hS rfl) (ySh.n hS rfl) rfl (Nat.le_of_ble_eq_true rfl) rfl rfl ?_
                    refine y_nameI (fun I151 e151 => ?_)
                    have hR1 := (hR0.grow hX).mod0 e151 (by decide) (by decide)
                    have hK := (hK.x hRo hno hX).upI (upI e151) (by decide) (by decide) (fun i hi => by have := (hRo.l87.2.2.2.2 i hi).2.1; omega) (by rw [e151, upd2_ne (.inr (by decide))]; exact Int.le_refl _)
                    have hth : I151 83 0 = Int32.ofInt (3) := by rw [e151, upd2_self]
                    have hzz : ySz8 I114 I151 := ySz8_of (upI e151) (by rw [e151]; exact ⟨upd2_ne (.inr (by decide)), upd2_ne (.inr (by decide))⟩)
                    have hB := (hB.trans hX).wr e151 rfl
                    have h8 : ∀ a, 84 ≤ a → a ≤ 86 → I151 a = I a := fun a h1 h2 => (upI e151 a (by omega)).trans ((hX.2.1 a (by omega)).2.1.trans (h8 a h1 h2))
                    have h3k : ∀ k, k ≠ 0 → I151 83 k = I 83 k := fun k hk => (congrFun (congrFun e151 83) k).trans ((upd2_ne (.inr hk)).trans ((congrFun (hX.2.1 83 (by omega)).2.1 k).trans (h3k k hk)))
                    have hg := (hg.gx hX (by omega)).skip e151 (by decide)
                    have hday : I151 83 1 = I 83 1 := (congrFun (congrFun e151 83) 1).trans ((upd2_ne (.inr (by decide))).trans ((congrFun (hX.2.1 83 (by omega)).2.1 1).trans hday))
                    have hRb : ∀ a, a < n → R a = R a := fun a ha => (hX.2.1 a (by omega)).2.2.trans (hRb a ha)
                    have hb83 : ∀ a, a ≠ 83 → a < n → I151 a = I a := fun a ha hb => (upI e151 a ha).trans ((hX.2.1 a (by omega)).2.1.trans (hb83 a ha hb))
                    have hS0 := hS
                    have hR0 := hR1
                    have ht_b121 := (hX.2.1 _ hb_b121).1.trans ht_b121
                    have hb_b121 := Nat.lt_of_lt_of_le hb_b121 hX.1
                    have hb0_b121 := hb_b121
                    have ht_v148 := (hX.2.1 _ hb_v148).1.trans ht_v148
                    have hb_v148 := Nat.lt_of_lt_of_le hb_v148 hX.1
                    have hb0_v148 := hb_v148
                    have hn := Nat.le_refl n
                    have h94 := hS0.1
                    have hX := @yX.rf n tg I151 R
                    have hS := hS0.x hX
                    have hR := hR0.x hn hX
                    have hz := hX.sz h94
                    have hxn := hX.1
                    have hN := hR0.1
                    have hnb := hR0.2.2.2.2.2.2
                    have hthB := hth
                    refine y_aload_n rfl rfl ?_
                    refine y_getIv (v := Int32.ofInt (3)) rfl (ySh.t hS rfl) (ySh.n hS rfl) rfl rfl hth ?_
                    refine y_if_leF rfl (by decide) ?_
                    refine y_iconst rfl ?_
                    refine y_goto rfl j_X14_refuse_28 ?_
                    refine y_ireturn rfl rfl rfl ?_
                    refine y_ret1 ?_
                    refine y_if_eqF rfl (by decide) ?_
                    refine y_iconst rfl ?_
                    refine y_ireturn rfl rfl rfl ?_
                    exact hQ3 _ eb_b121 (by first | omega | (simp only [show ySeat x2 = x2 from if_neg (by omega), show ySeat x3 = x3 from if_neg (by omega)]; omega) | (simp only [show ySeat x2 = x2 from if_neg (by omega), show ySeat x3 = Int32.ofInt 8 from if_pos (by omega), show (Int32.ofInt 8).toInt.toNat = 8 from by decide]; omega) | (simp only [show ySeat x2 = Int32.ofInt 8 from if_pos (by omega), show ySeat x3 = x3 from if_neg (by omega), show (Int32.ofInt 8).toInt.toNat = 8 from by decide]; omega) | (simp only [show ySeat x2 = Int32.ofInt 8 from if_pos (by omega), show ySeat x3 = Int32.ofInt 8 from if_pos (by omega), show (Int32.ofInt 8).toInt.toNat = 8 from by decide]; omega)) _ _ _ _ _ _ _ hS ((hR0.grow hX).up (Nat.le_succ K) hk6) (hK.x hRo hno hX) hth ((hB.trans hX).rf2 (by omega)) (by omega) (by omega)
                  · refine y_aload rfl rfl ?_
                    obtain ⟨hR_v152, hb_v152, ht_v152⟩ := hR0.ven hlo_b121 hb0_b121 ht_b121 (j := 0) (by decide)
                    have hb0_v152 := hb_v152
                    have hb_v152 := Nat.lt_of_lt_of_le hb_v152 hn
                    have hlo_v152 : 94 ≤ b121 + 1 + 0 := by omega
                    have hR2_v152 := (congrFun (hX.2.1 b121 hb_b121).2.2 0).trans hR_v152
                    refine y_getR rfl ((hX.2.1 _ hb_b121).1.trans ht_b121) (Nat.lt_of_lt_of_le hb_b121 hX.1) rfl rfl hR2_v152 ?_
                    refine y_iload rfl rfl ?_
                    refine y_baloadw (j := 8) (J := I (b121 + 1 + 0)) rfl ((hX.2.1 _ hb_v152).1.trans ht_v152) rfl (Nat.lt_of_lt_of_le hb_v152 hX.1) (by decide) (by decide) rfl (((hB.trans hX).n (by omega)).trans (by repeat (first | rfl | (rw [upd2_row (by first | decide | omega)]) | refine upd2_cg ?_))) ?_
                    refine y_if_eq rfl j_X14_buyOut_142 (fun h_153 => ?_) (fun h_154 => ?_)
                    · refine y_iconst rfl ?_
                      refine y_goto rfl j_X14_buyOut_147 ?_
                      refine y_iconst rfl ?_
                      refine y_virt rfl rfl rfl rfl rfl (ySh.t hS rfl) (ySh.n hS rfl) ?_
                      refine y_in (M := xm_X14_refuse) (ls := [some _, some _, some _]) rfl rfl rfl ?_
                      refine y_iload_n rfl rfl ?_
                      refine y_if_eqF rfl (by decide) ?_
                      refine y_aload_n rfl rfl ?_
                      refine y_getIv (v := Int32.ofInt (0)) rfl (ySh.t hS rfl) (ySh.n hS rfl) rfl rfl hth ?_
                      refine y_if_neF rfl (by decide) ?_
                      refine y_aload_n rfl rfl ?_
                      refine y_iload_n rfl rfl ?_
                      refine y_putI rfl (ySh.t hS rfl) (ySh.n hS rfl) rfl (Nat.le_of_ble_eq_true rfl) rfl rfl ?_
                      refine y_nameI (fun I155 e155 => ?_)
                      have hR1 := (hR0.grow hX).mod0 e155 (by decide) (by decide)
                      have hK := (hK.x hRo hno hX).upI (upI e155) (by decide) (by decide) (fun i hi => by have := (hRo.l87.2.2.2.2 i hi).2.1; omega) (by rw [e155, upd2_ne (.inr (by decide))]; exact Int.le_refl _)
                      have hth : I155 83 0 = Int32.ofInt (3) := by rw [e155, upd2_self]
                      have hzz : ySz8 I114 I155 := ySz8_of (upI e155) (by rw [e155]; exact ⟨upd2_ne (.inr (by decide)), upd2_ne (.inr (by decide))⟩)
                      have hB := (hB.trans hX).wr e155 rfl
                      have h8 : ∀ a, 84 ≤ a → a ≤ 86 → I155 a = I a := fun a h1 h2 => (upI e155 a (by omega)).trans ((hX.2.1 a (by omega)).2.1.trans (h8 a h1 h2))
                      have h3k : ∀ k, k ≠ 0 → I155 83 k = I 83 k := fun k hk => (congrFun (congrFun e155 83) k).trans ((upd2_ne (.inr hk)).trans ((congrFun (hX.2.1 83 (by omega)).2.1 k).trans (h3k k hk)))
                      have hg := (hg.gx hX (by omega)).skip e155 (by decide)
                      have hday : I155 83 1 = I 83 1 := (congrFun (congrFun e155 83) 1).trans ((upd2_ne (.inr (by decide))).trans ((congrFun (hX.2.1 83 (by omega)).2.1 1).trans hday))
                      have hRb : ∀ a, a < n → R a = R a := fun a ha => (hX.2.1 a (by omega)).2.2.trans (hRb a ha)
                      have hb83 : ∀ a, a ≠ 83 → a < n → I155 a = I a := fun a ha hb => (upI e155 a ha).trans ((hX.2.1 a (by omega)).2.1.trans (hb83 a ha hb))
                      have hS0 := hS
                      have hR0 := hR1
                      have ht_b121 := (hX.2.1 _ hb_b121).1.trans ht_b121
                      have hb_b121 := Nat.lt_of_lt_of_le hb_b121 hX.1
                      have hb0_b121 := hb_b121
                      have ht_v148 := (hX.2.1 _ hb_v148).1.trans ht_v148
                      have hb_v148 := Nat.lt_of_lt_of_le hb_v148 hX.1
                      have hb0_v148 := hb_v148
                      have ht_v152 := (hX.2.1 _ hb_v152).1.trans ht_v152
                      have hb_v152 := Nat.lt_of_lt_of_le hb_v152 hX.1
                      have hb0_v152 := hb_v152
                      have hn := Nat.le_refl n
                      have h94 := hS0.1
                      have hX := @yX.rf n tg I155 R
                      have hS := hS0.x hX
                      have hR := hR0.x hn hX
                      have hz := hX.sz h94
                      have hxn := hX.1
                      have hN := hR0.1
                      have hnb := hR0.2.2.2.2.2.2
                      have hthB := hth
                      refine y_aload_n rfl rfl ?_
                      refine y_getIv (v := Int32.ofInt (3)) rfl (ySh.t hS rfl) (ySh.n hS rfl) rfl rfl hth ?_
                      refine y_if_leF rfl (by decide) ?_
                      refine y_iconst rfl ?_
                      refine y_goto rfl j_X14_refuse_28 ?_
                      refine y_ireturn rfl rfl rfl ?_
                      refine y_ret1 ?_
                      refine y_if_eqF rfl (by decide) ?_
                      refine y_iconst rfl ?_
                      refine y_ireturn rfl rfl rfl ?_
                      exact hQ3 _ eb_b121 (by first | omega | (simp only [show ySeat x2 = x2 from if_neg (by omega), show ySeat x3 = x3 from if_neg (by omega)]; omega) | (simp only [show ySeat x2 = x2 from if_neg (by omega), show ySeat x3 = Int32.ofInt 8 from if_pos (by omega), show (Int32.ofInt 8).toInt.toNat = 8 from by decide]; omega) | (simp only [show ySeat x2 = Int32.ofInt 8 from if_pos (by omega), show ySeat x3 = x3 from if_neg (by omega), show (Int32.ofInt 8).toInt.toNat = 8 from by decide]; omega) | (simp only [show ySeat x2 = Int32.ofInt 8 from if_pos (by omega), show ySeat x3 = Int32.ofInt 8 from if_pos (by omega), show (Int32.ofInt 8).toInt.toNat = 8 from by decide]; omega)) _ _ _ _ _ _ _ hS ((hR0.grow hX).up (Nat.le_succ K) hk6) (hK.x hRo hno hX) hth ((hB.trans hX).rf2 (by omega)) (by omega) (by omega)
                    · refine y_aload rfl rfl ?_
                      obtain ⟨hR_v156, hb_v156, ht_v156⟩ := hR0.ven hlo_b121 hb0_b121 ht_b121 (j := 1) (by decide)
                      have hb0_v156 := hb_v156
                      have hb_v156 := Nat.lt_of_lt_of_le hb_v156 hn
                      have hlo_v156 : 94 ≤ b121 + 1 + 1 := by omega
                      have hR2_v156 := (congrFun (hX.2.1 b121 hb_b121).2.2 1).trans hR_v156
                      refine y_getR rfl ((hX.2.1 _ hb_b121).1.trans ht_b121) (Nat.lt_of_lt_of_le hb_b121 hX.1) rfl rfl hR2_v156 ?_
                      refine y_iload rfl rfl ?_
                      refine y_ialoadv (J := I (b121 + 1 + 1)) rfl ((hX.2.1 _ hb_v156).1.trans ht_v156) (Nat.lt_of_lt_of_le hb_v156 hX.1) (by omega) (by omega) (((hB.trans hX).n (by omega)).trans (by repeat (first | rfl | (rw [upd2_row (by first | decide | omega)]) | refine upd2_cg ?_))) ?_
                      refine y_iload rfl rfl ?_
                      refine y_icmp_lt rfl j_X14_buyOut_142 (fun h_157 => ?_) (fun h_158 => ?_)
                      · refine y_iconst rfl ?_
                        refine y_goto rfl j_X14_buyOut_147 ?_
                        refine y_iconst rfl ?_
                        refine y_virt rfl rfl rfl rfl rfl (ySh.t hS rfl) (ySh.n hS rfl) ?_
                        refine y_in (M := xm_X14_refuse) (ls := [some _, some _, some _]) rfl rfl rfl ?_
                        refine y_iload_n rfl rfl ?_
                        refine y_if_eqF rfl (by decide) ?_
                        refine y_aload_n rfl rfl ?_
                        refine y_getIv (v := Int32.ofInt (0)) rfl (ySh.t hS rfl) (ySh.n hS rfl) rfl rfl hth ?_
                        refine y_if_neF rfl (by decide) ?_
                        refine y_aload_n rfl rfl ?_
                        refine y_iload_n rfl rfl ?_
                        refine y_putI rfl (ySh.t hS rfl) (ySh.n hS rfl) rfl (Nat.le_of_ble_eq_true rfl) rfl rfl ?_
                        refine y_nameI (fun I159 e159 => ?_)
                        have hR1 := (hR0.grow hX).mod0 e159 (by decide) (by decide)
                        have hK := (hK.x hRo hno hX).upI (upI e159) (by decide) (by decide) (fun i hi => by have := (hRo.l87.2.2.2.2 i hi).2.1; omega) (by rw [e159, upd2_ne (.inr (by decide))]; exact Int.le_refl _)
                        have hth : I159 83 0 = Int32.ofInt (3) := by rw [e159, upd2_self]
                        have hzz : ySz8 I114 I159 := ySz8_of (upI e159) (by rw [e159]; exact ⟨upd2_ne (.inr (by decide)), upd2_ne (.inr (by decide))⟩)
                        have hB := (hB.trans hX).wr e159 rfl
                        have h8 : ∀ a, 84 ≤ a → a ≤ 86 → I159 a = I a := fun a h1 h2 => (upI e159 a (by omega)).trans ((hX.2.1 a (by omega)).2.1.trans (h8 a h1 h2))
                        have h3k : ∀ k, k ≠ 0 → I159 83 k = I 83 k := fun k hk => (congrFun (congrFun e159 83) k).trans ((upd2_ne (.inr hk)).trans ((congrFun (hX.2.1 83 (by omega)).2.1 k).trans (h3k k hk)))
                        have hg := (hg.gx hX (by omega)).skip e159 (by decide)
                        have hday : I159 83 1 = I 83 1 := (congrFun (congrFun e159 83) 1).trans ((upd2_ne (.inr (by decide))).trans ((congrFun (hX.2.1 83 (by omega)).2.1 1).trans hday))
                        have hRb : ∀ a, a < n → R a = R a := fun a ha => (hX.2.1 a (by omega)).2.2.trans (hRb a ha)
                        have hb83 : ∀ a, a ≠ 83 → a < n → I159 a = I a := fun a ha hb => (upI e159 a ha).trans ((hX.2.1 a (by omega)).2.1.trans (hb83 a ha hb))
                        have hS0 := hS
                        have hR0 := hR1
                        have ht_b121 := (hX.2.1 _ hb_b121).1.trans ht_b121
                        have hb_b121 := Nat.lt_of_lt_of_le hb_b121 hX.1
                        have hb0_b121 := hb_b121
                        have ht_v148 := (hX.2.1 _ hb_v148).1.trans ht_v148
                        have hb_v148 := Nat.lt_of_lt_of_le hb_v148 hX.1
                        have hb0_v148 := hb_v148
                        have ht_v152 := (hX.2.1 _ hb_v152).1.trans ht_v152
                        have hb_v152 := Nat.lt_of_lt_of_le hb_v152 hX.1
                        have hb0_v152 := hb_v152
                        have ht_v156 := (hX.2.1 _ hb_v156).1.trans ht_v156
                        have hb_v156 := Nat.lt_of_lt_of_le hb_v156 hX.1
                        have hb0_v156 := hb_v156
                        have hn := Nat.le_refl n
                        have h94 := hS0.1
                        have hX := @yX.rf n tg I159 R
                        have hS := hS0.x hX
                        have hR := hR0.x hn hX
                        have hz := hX.sz h94
                        have hxn := hX.1
                        have hN := hR0.1
                        have hnb := hR0.2.2.2.2.2.2
                        have hthB := hth
                        refine y_aload_n rfl rfl ?_
                        refine y_getIv (v := Int32.ofInt (3)) rfl (ySh.t hS rfl) (ySh.n hS rfl) rfl rfl hth ?_
                        refine y_if_leF rfl (by decide) ?_
                        refine y_iconst rfl ?_
                        refine y_goto rfl j_X14_refuse_28 ?_
                        refine y_ireturn rfl rfl rfl ?_
                        refine y_ret1 ?_
                        refine y_if_eqF rfl (by decide) ?_
                        refine y_iconst rfl ?_
                        refine y_ireturn rfl rfl rfl ?_
                        exact hQ3 _ eb_b121 (by first | omega | (simp only [show ySeat x2 = x2 from if_neg (by omega), show ySeat x3 = x3 from if_neg (by omega)]; omega) | (simp only [show ySeat x2 = x2 from if_neg (by omega), show ySeat x3 = Int32.ofInt 8 from if_pos (by omega), show (Int32.ofInt 8).toInt.toNat = 8 from by decide]; omega) | (simp only [show ySeat x2 = Int32.ofInt 8 from if_pos (by omega), show ySeat x3 = x3 from if_neg (by omega), show (Int32.ofInt 8).toInt.toNat = 8 from by decide]; omega) | (simp only [show ySeat x2 = Int32.ofInt 8 from if_pos (by omega), show ySeat x3 = Int32.ofInt 8 from if_pos (by omega), show (Int32.ofInt 8).toInt.toNat = 8 from by decide]; omega)) _ _ _ _ _ _ _ hS ((hR0.grow hX).up (Nat.le_succ K) hk6) (hK.x hRo hno hX) hth ((hB.trans hX).rf2 (by omega)) (by omega) (by omega)
                      · refine y_aload_n rfl rfl ?_
                        refine y_getR rfl (ySh.t hS rfl) (ySh.n hS rfl) rfl rfl (ySh.r hS rfl) ?_
                        refine y_iload rfl rfl ?_
                        refine y_ialoadw (j := 8) (J := I 84) rfl (ySh.t hS rfl) (ySh.n hS rfl) (by decide) (by decide) rfl (((hB.trans hX).n (by omega)).trans (by repeat (first | rfl | (rw [upd2_row (by first | decide | omega)]) | refine upd2_cg ?_))) ?_
                        refine y_iload rfl rfl ?_
                        refine y_icmp_ge rfl j_X14_buyOut_146 (fun h_160 => ?_) (fun h_161 => ?_)
                        · refine y_iconst rfl ?_
                          refine y_iconst rfl ?_
                          refine y_virt rfl rfl rfl rfl rfl (ySh.t hS rfl) (ySh.n hS rfl) ?_
                          refine y_in (M := xm_X14_refuse) (ls := [some _, some _, some _]) rfl rfl rfl ?_
                          refine y_iload_n rfl rfl ?_
                          refine y_if_eqT rfl j_X14_refuse_16 (by decide) ?_
                          refine y_aload_n rfl rfl ?_
                          refine y_getIv (v := Int32.ofInt (0)) rfl (ySh.t hS rfl) (ySh.n hS rfl) rfl rfl hth ?_
                          refine y_if_leT rfl j_X14_refuse_27 (by decide) ?_
                          refine y_iconst rfl ?_
                          refine y_ireturn rfl rfl rfl ?_
                          refine y_ret1 ?_
                          refine y_if_eqT rfl j_X14_buyOut_156 (by decide) ?_
                          refine y_aload rfl rfl ?_
                          obtain ⟨hR_v162, hb_v162, ht_v162⟩ := hR0.ven hlo_b121 hb0_b121 ht_b121 (j := 1) (by decide)
                          have hb0_v162 := hb_v162
                          have hb_v162 := Nat.lt_of_lt_of_le hb_v162 hn
                          have hlo_v162 : 94 ≤ b121 + 1 + 1 := by omega
                          have hR2_v162 := (congrFun (hX.2.1 b121 hb_b121).2.2 1).trans hR_v162
                          refine y_getR rfl ((hX.2.1 _ hb_b121).1.trans ht_b121) (Nat.lt_of_lt_of_le hb_b121 hX.1) rfl rfl hR2_v162 ?_
                          refine y_iload rfl rfl ?_
                          refine y_dup2 rfl rfl rfl ?_
                          refine y_ialoadv (J := I (b121 + 1 + 1)) rfl ((hX.2.1 _ hb_v162).1.trans ht_v162) (Nat.lt_of_lt_of_le hb_v162 hX.1) (by omega) (by omega) (((hB.trans hX).n (by omega)).trans (by repeat (first | rfl | (rw [upd2_row (by first | decide | omega)]) | refine upd2_cg ?_))) ?_
                          refine y_iload rfl rfl ?_
                          refine y_isub rfl ?_
                          refine y_iastore rfl ((hX.2.1 _ hb_v162).1.trans ht_v162) (Nat.lt_of_lt_of_le hb_v162 hX.1) (Nat.le_trans (by decide) (by omega : 94 ≤ _)) (by omega) (by omega) ?_
                          refine y_nameI (fun I163 e163 => ?_)
                          have hB1 := (hR0.grow hX).capB1x hlo_b121 (by omega) ((hX.2.1 _ hb_b121).1.trans ht_b121) (by omega) e163 (by rw [show I114 (b121 + 1 + 1) = I (b121 + 1 + 1) from ((hB.trans hX).n (by omega)).trans (by repeat (first | rfl | (rw [upd2_row (by first | decide | omega)]) | refine upd2_cg ?_))]) ⟨by omega, by rw [show I114 (b121 + 1 + 1) = I (b121 + 1 + 1) from ((hB.trans hX).n (by omega)).trans (by repeat (first | rfl | (rw [upd2_row (by first | decide | omega)]) | refine upd2_cg ?_))]; omega⟩
                          have hR1 := hB1.1
                          have hK := (hK.x hRo hno hX).upE hRo hno (upI e163) (by omega) (by omega) (by rw [((hX.2.1 _ hb_v162).1.trans ht_v162)]; decide) (by rw [e163, upd2_ne (.inl (by omega))]; exact Int.le_refl _)
                          have hth := (show I163 83 0 = I114 83 0 by rw [e163, upd2_ne (.inl (by omega))]).trans hth
                          have hzz : ySz I114 I163 := ySz_ofE (upI e163) (by omega)
                          have hB := (hB.trans hX).wr e163 rfl
                          have h8 : ∀ a, 84 ≤ a → a ≤ 86 → I163 a = I a := fun a h1 h2 => (upI e163 a (by omega)).trans ((hX.2.1 a (by omega)).2.1.trans (h8 a h1 h2))
                          have h3k : ∀ k, k ≠ 0 → I163 83 k = I 83 k := fun k hk => (congrFun (congrFun e163 83) k).trans ((upd2_ne (.inl (by omega))).trans ((congrFun (hX.2.1 83 (by omega)).2.1 k).trans (h3k k hk)))
                          have hg := (hg.gx hX (by omega)).both e163
                          have hday : I163 83 1 = I 83 1 := (congrFun (congrFun e163 83) 1).trans ((upd2_ne (.inl (by omega))).trans ((congrFun (hX.2.1 83 (by omega)).2.1 1).trans hday))
                          have hRb : ∀ a, a < n → R a = R a := fun a ha => (hX.2.1 a (by omega)).2.2.trans (hRb a ha)
                          have hS0 := hS
                          have hR0 := hR1
                          have ht_b121 := (hX.2.1 _ hb_b121).1.trans ht_b121
                          have hb_b121 := Nat.lt_of_lt_of_le hb_b121 hX.1
                          have hb0_b121 := hb_b121
                          have ht_v148 := (hX.2.1 _ hb_v148).1.trans ht_v148
                          have hb_v148 := Nat.lt_of_lt_of_le hb_v148 hX.1
                          have hb0_v148 := hb_v148
                          have ht_v152 := (hX.2.1 _ hb_v152).1.trans ht_v152
                          have hb_v152 := Nat.lt_of_lt_of_le hb_v152 hX.1
                          have hb0_v152 := hb_v152
                          have ht_v156 := (hX.2.1 _ hb_v156).1.trans ht_v156
                          have hb_v156 := Nat.lt_of_lt_of_le hb_v156 hX.1
                          have hb0_v156 := hb_v156
                          have ht_v162 := (hX.2.1 _ hb_v162).1.trans ht_v162
                          have hb_v162 := Nat.lt_of_lt_of_le hb_v162 hX.1
                          have hb0_v162 := hb_v162
                          have hn := Nat.le_refl n
                          have h94 := hS0.1
                          have hX := @yX.rf n tg I163 R
                          have hS := hS0.x hX
                          have hR := hR0.x hn hX
                          have hz := hX.sz h94
                          have hxn := hX.1
                          have hN := hR0.1
                          have hnb := hR0.2.2.2.2.2.2
                          have hthB := hth
                          refine y_aload rfl rfl ?_
                          obtain ⟨hR_v164, hb_v164, ht_v164⟩ := hR0.ven hlo_b121 hb0_b121 ht_b121 (j := 1) (by decide)
                          have hb0_v164 := hb_v164
                          have hb_v164 := Nat.lt_of_lt_of_le hb_v164 hn
                          have hlo_v164 : 94 ≤ b121 + 1 + 1 := by omega
                          have hR2_v164 := (congrFun (hX.2.1 b121 hb_b121).2.2 1).trans hR_v164
                          refine y_getR rfl ((hX.2.1 _ hb_b121).1.trans ht_b121) (Nat.lt_of_lt_of_le hb_b121 hX.1) rfl rfl hR2_v164 ?_
                          refine y_iload rfl rfl ?_
                          refine y_dup2 rfl rfl rfl ?_
                          refine y_ialoadw (j := 8) (J := _) rfl ((hX.2.1 _ hb_v164).1.trans ht_v164) (Nat.lt_of_lt_of_le hb_v164 hX.1) (by decide) (by decide) rfl ((hB.trans hX).n (by omega)) ?_
                          refine y_iload rfl rfl ?_
                          refine y_iadd rfl ?_
                          refine y_iastoreC (j := 8) rfl ((hX.2.1 _ hb_v164).1.trans ht_v164) (Nat.lt_of_lt_of_le hb_v164 hX.1) (Nat.le_trans (by decide) (by omega : 94 ≤ _)) (by decide) (by decide) rfl ?_
                          refine y_nameI (fun I165 e165 => ?_)
                          have hR1 := (hR0.grow hX).capB2x hlo_b121 (by omega) ((hX.2.1 _ hb_b121).1.trans ht_b121) (by omega) (by omega) hB1.2.1 e165 (by rw [show I163 (b121 + 1 + 1) = _ from ((hB.trans hX).n (by omega))])
                          have hK := (hK.x hRo hno hX).upE hRo hno (upI e165) (by omega) (by omega) (by rw [((hX.2.1 _ hb_v164).1.trans ht_v164)]; decide) (by rw [e165, upd2_ne (.inl (by omega))]; exact Int.le_refl _)
                          have hth := (show I165 83 0 = I163 83 0 by rw [e165, upd2_ne (.inl (by omega))]).trans hth
                          have hzz : ySz I163 I165 := ySz_ofE (upI e165) (by omega)
                          have hB := (hB.trans hX).wr e165 rfl
                          have h8 : ∀ a, 84 ≤ a → a ≤ 86 → I165 a = I a := fun a h1 h2 => (upI e165 a (by omega)).trans ((hX.2.1 a (by omega)).2.1.trans (h8 a h1 h2))
                          have h3k : ∀ k, k ≠ 0 → I165 83 k = I 83 k := fun k hk => (congrFun (congrFun e165 83) k).trans ((upd2_ne (.inl (by omega))).trans ((congrFun (hX.2.1 83 (by omega)).2.1 k).trans (h3k k hk)))
                          have hg := (hg.gx hX (by omega)).both e165
                          have hday : I165 83 1 = I 83 1 := (congrFun (congrFun e165 83) 1).trans ((upd2_ne (.inl (by omega))).trans ((congrFun (hX.2.1 83 (by omega)).2.1 1).trans hday))
                          have hRb : ∀ a, a < n → R a = R a := fun a ha => (hX.2.1 a (by omega)).2.2.trans (hRb a ha)
                          have hS0 := hS
                          have hR0 := hR1
                          have ht_b121 := (hX.2.1 _ hb_b121).1.trans ht_b121
                          have hb_b121 := Nat.lt_of_lt_of_le hb_b121 hX.1
                          have hb0_b121 := hb_b121
                          have ht_v148 := (hX.2.1 _ hb_v148).1.trans ht_v148
                          have hb_v148 := Nat.lt_of_lt_of_le hb_v148 hX.1
                          have hb0_v148 := hb_v148
                          have ht_v152 := (hX.2.1 _ hb_v152).1.trans ht_v152
                          have hb_v152 := Nat.lt_of_lt_of_le hb_v152 hX.1
                          have hb0_v152 := hb_v152
                          have ht_v156 := (hX.2.1 _ hb_v156).1.trans ht_v156
                          have hb_v156 := Nat.lt_of_lt_of_le hb_v156 hX.1
                          have hb0_v156 := hb_v156
                          have ht_v162 := (hX.2.1 _ hb_v162).1.trans ht_v162
                          have hb_v162 := Nat.lt_of_lt_of_le hb_v162 hX.1
                          have hb0_v162 := hb_v162
                          have ht_v164 := (hX.2.1 _ hb_v164).1.trans ht_v164
                          have hb_v164 := Nat.lt_of_lt_of_le hb_v164 hX.1
                          have hb0_v164 := hb_v164
                          have hn := Nat.le_refl n
                          have h94 := hS0.1
                          have hX := @yX.rf n tg I165 R
                          have hS := hS0.x hX
                          have hR := hR0.x hn hX
                          have hz := hX.sz h94
                          have hxn := hX.1
                          have hN := hR0.1
                          have hnb := hR0.2.2.2.2.2.2
                          have hthB := hth
                          refine y_aload_n rfl rfl ?_
                          refine y_getR rfl (ySh.t hS rfl) (ySh.n hS rfl) rfl rfl (ySh.r hS rfl) ?_
                          refine y_iload rfl rfl ?_
                          refine y_dup2 rfl rfl rfl ?_
                          refine y_ialoadv (J := I 84) rfl (ySh.t hS rfl) (ySh.n hS rfl) (by omega) (by omega) (((hB.trans hX).n (by omega)).trans (by repeat (first | rfl | (rw [upd2_row (by first | decide | omega)]) | refine upd2_cg ?_))) ?_
                          refine y_iload rfl rfl ?_
                          refine y_iadd rfl ?_
                          refine y_iastore rfl (ySh.t hS rfl) (ySh.n hS rfl) (Nat.le_of_ble_eq_true rfl) (by omega) (by omega) ?_
                          refine y_nameI (fun I166 e166 => ?_)
                          have hR1 := (hR0.grow hX).arr e166 (by decide)
                          have hK := (hK.x hRo hno hX).upI (upI e166) (by decide) (by decide) (fun i hi => by have := (hRo.l87.2.2.2.2 i hi).2.1; omega) (by rw [e166, upd2_ne (.inl (by omega))]; exact Int.le_refl _)
                          have hth := (show I166 83 0 = I165 83 0 by rw [e166, upd2_ne (.inl (by omega))]).trans hth
                          have hzz : ySz I165 I166 := ySz_ofE (upI e166) (by omega)
                          have hB := (hB.trans hX).wr e166 rfl
                          have h3k : ∀ k, k ≠ 0 → I166 83 k = I 83 k := fun k hk => (congrFun (congrFun e166 83) k).trans ((upd2_ne (.inl (by omega))).trans ((congrFun (hX.2.1 83 (by omega)).2.1 k).trans (h3k k hk)))
                          have hg := (hg.gx hX (by omega)).skip e166 (by decide)
                          have hday : I166 83 1 = I 83 1 := (congrFun (congrFun e166 83) 1).trans ((upd2_ne (.inl (by omega))).trans ((congrFun (hX.2.1 83 (by omega)).2.1 1).trans hday))
                          have hRb : ∀ a, a < n → R a = R a := fun a ha => (hX.2.1 a (by omega)).2.2.trans (hRb a ha)
                          have hS0 := hS
                          have hR0 := hR1
                          have ht_b121 := (hX.2.1 _ hb_b121).1.trans ht_b121
                          have hb_b121 := Nat.lt_of_lt_of_le hb_b121 hX.1
                          have hb0_b121 := hb_b121
                          have ht_v148 := (hX.2.1 _ hb_v148).1.trans ht_v148
                          have hb_v148 := Nat.lt_of_lt_of_le hb_v148 hX.1
                          have hb0_v148 := hb_v148
                          have ht_v152 := (hX.2.1 _ hb_v152).1.trans ht_v152
                          have hb_v152 := Nat.lt_of_lt_of_le hb_v152 hX.1
                          have hb0_v152 := hb_v152
                          have ht_v156 := (hX.2.1 _ hb_v156).1.trans ht_v156
                          have hb_v156 := Nat.lt_of_lt_of_le hb_v156 hX.1
                          have hb0_v156 := hb_v156
                          have ht_v162 := (hX.2.1 _ hb_v162).1.trans ht_v162
                          have hb_v162 := Nat.lt_of_lt_of_le hb_v162 hX.1
                          have hb0_v162 := hb_v162
                          have ht_v164 := (hX.2.1 _ hb_v164).1.trans ht_v164
                          have hb_v164 := Nat.lt_of_lt_of_le hb_v164 hX.1
                          have hb0_v164 := hb_v164
                          have hn := Nat.le_refl n
                          have h94 := hS0.1
                          have hX := @yX.rf n tg I166 R
                          have hS := hS0.x hX
                          have hR := hR0.x hn hX
                          have hz := hX.sz h94
                          have hxn := hX.1
                          have hN := hR0.1
                          have hnb := hR0.2.2.2.2.2.2
                          have hthB := hth
                          refine y_aload_n rfl rfl ?_
                          refine y_getR rfl (ySh.t hS rfl) (ySh.n hS rfl) rfl rfl (ySh.r hS rfl) ?_
                          refine y_iload rfl rfl ?_
                          refine y_dup2 rfl rfl rfl ?_
                          refine y_ialoadw (j := 8) (J := _) rfl (ySh.t hS rfl) (ySh.n hS rfl) (by decide) (by decide) rfl ((hB.trans hX).n (by omega)) ?_
                          refine y_iload rfl rfl ?_
                          refine y_isub rfl ?_
                          refine y_iastoreC (j := 8) rfl (ySh.t hS rfl) (ySh.n hS rfl) (Nat.le_of_ble_eq_true rfl) (by decide) (by decide) rfl ?_
                          refine y_nameI (fun I167 e167 => ?_)
                          have hR1 := (hR0.grow hX).arr e167 (by decide)
                          have hK := (hK.x hRo hno hX).upI (upI e167) (by decide) (by decide) (fun i hi => by have := (hRo.l87.2.2.2.2 i hi).2.1; omega) (by rw [e167, upd2_ne (.inl (by omega))]; exact Int.le_refl _)
                          have hth := (show I167 83 0 = I166 83 0 by rw [e167, upd2_ne (.inl (by omega))]).trans hth
                          have hzz : ySz I166 I167 := ySz_ofE (upI e167) (by omega)
                          have hB := (hB.trans hX).wr e167 rfl
                          have h3k : ∀ k, k ≠ 0 → I167 83 k = I 83 k := fun k hk => (congrFun (congrFun e167 83) k).trans ((upd2_ne (.inl (by omega))).trans ((congrFun (hX.2.1 83 (by omega)).2.1 k).trans (h3k k hk)))
                          have hg := (hg.gx hX (by omega)).skip e167 (by decide)
                          have hday : I167 83 1 = I 83 1 := (congrFun (congrFun e167 83) 1).trans ((upd2_ne (.inl (by omega))).trans ((congrFun (hX.2.1 83 (by omega)).2.1 1).trans hday))
                          have hRb : ∀ a, a < n → R a = R a := fun a ha => (hX.2.1 a (by omega)).2.2.trans (hRb a ha)
                          have hS0 := hS
                          have hR0 := hR1
                          have ht_b121 := (hX.2.1 _ hb_b121).1.trans ht_b121
                          have hb_b121 := Nat.lt_of_lt_of_le hb_b121 hX.1
                          have hb0_b121 := hb_b121
                          have ht_v148 := (hX.2.1 _ hb_v148).1.trans ht_v148
                          have hb_v148 := Nat.lt_of_lt_of_le hb_v148 hX.1
                          have hb0_v148 := hb_v148
                          have ht_v152 := (hX.2.1 _ hb_v152).1.trans ht_v152
                          have hb_v152 := Nat.lt_of_lt_of_le hb_v152 hX.1
                          have hb0_v152 := hb_v152
                          have ht_v156 := (hX.2.1 _ hb_v156).1.trans ht_v156
                          have hb_v156 := Nat.lt_of_lt_of_le hb_v156 hX.1
                          have hb0_v156 := hb_v156
                          have ht_v162 := (hX.2.1 _ hb_v162).1.trans ht_v162
                          have hb_v162 := Nat.lt_of_lt_of_le hb_v162 hX.1
                          have hb0_v162 := hb_v162
                          have ht_v164 := (hX.2.1 _ hb_v164).1.trans ht_v164
                          have hb_v164 := Nat.lt_of_lt_of_le hb_v164 hX.1
                          have hb0_v164 := hb_v164
                          have hn := Nat.le_refl n
                          have h94 := hS0.1
                          have hX := @yX.rf n tg I167 R
                          have hS := hS0.x hX
                          have hR := hR0.x hn hX
                          have hz := hX.sz h94
                          have hxn := hX.1
                          have hN := hR0.1
                          have hnb := hR0.2.2.2.2.2.2
                          have hthB := hth
                          refine y_aload rfl rfl ?_
                          obtain ⟨hR_v168, hb_v168, ht_v168⟩ := hR0.ven hlo_b121 hb0_b121 ht_b121 (j := 1) (by decide)
                          have hb0_v168 := hb_v168
                          have hb_v168 := Nat.lt_of_lt_of_le hb_v168 hn
                          have hlo_v168 : 94 ≤ b121 + 1 + 1 := by omega
                          have hR2_v168 := (congrFun (hX.2.1 b121 hb_b121).2.2 1).trans hR_v168
                          refine y_getR rfl ((hX.2.1 _ hb_b121).1.trans ht_b121) (Nat.lt_of_lt_of_le hb_b121 hX.1) rfl rfl hR2_v168 ?_
                          refine y_iload rfl rfl ?_
                          refine y_ialoadv (J := _) rfl ((hX.2.1 _ hb_v168).1.trans ht_v168) (Nat.lt_of_lt_of_le hb_v168 hX.1) (by omega) (by omega) ((hB.trans hX).n (by omega)) ?_
                          refine y_ireturn rfl rfl rfl ?_
                          exact hQ0 _ eb_b121 (by first | omega | (simp only [show ySeat x2 = x2 from if_neg (by omega), show ySeat x3 = x3 from if_neg (by omega)]; omega) | (simp only [show ySeat x2 = x2 from if_neg (by omega), show ySeat x3 = Int32.ofInt 8 from if_pos (by omega), show (Int32.ofInt 8).toInt.toNat = 8 from by decide]; omega) | (simp only [show ySeat x2 = Int32.ofInt 8 from if_pos (by omega), show ySeat x3 = x3 from if_neg (by omega), show (Int32.ofInt 8).toInt.toNat = 8 from by decide]; omega) | (simp only [show ySeat x2 = Int32.ofInt 8 from if_pos (by omega), show ySeat x3 = Int32.ofInt 8 from if_pos (by omega), show (Int32.ofInt 8).toInt.toNat = 8 from by decide]; omega)) _ _ _ _ _ _ _ hS ((hR0.grow hX).up (Nat.le_succ K) hk6) (hK.x hRo hno hX) hth (by first | exact (congrFun ((hB.trans hX).n (by omega)) _).symm | (simp only [show ySeat x2 = x2 from if_neg (by omega), show ySeat x3 = x3 from if_neg (by omega)]; exact (congrFun ((hB.trans hX).n (by omega)) _).symm) | (simp only [show ySeat x2 = x2 from if_neg (by omega), show ySeat x3 = Int32.ofInt 8 from if_pos (by omega), show (Int32.ofInt 8).toInt.toNat = 8 from by decide]; exact (congrFun ((hB.trans hX).n (by omega)) _).symm) | (simp only [show ySeat x2 = Int32.ofInt 8 from if_pos (by omega), show ySeat x3 = x3 from if_neg (by omega), show (Int32.ofInt 8).toInt.toNat = 8 from by decide]; exact (congrFun ((hB.trans hX).n (by omega)) _).symm) | (simp only [show ySeat x2 = Int32.ofInt 8 from if_pos (by omega), show ySeat x3 = Int32.ofInt 8 from if_pos (by omega), show (Int32.ofInt 8).toInt.toNat = 8 from by decide]; exact (congrFun ((hB.trans hX).n (by omega)) _).symm)) (by first | (exact hB.trans hX) | (simp only [show ySeat x2 = x2 from if_neg (by omega), show ySeat x3 = x3 from if_neg (by omega)]; exact hB.trans hX) | (simp only [show ySeat x2 = x2 from if_neg (by omega), show ySeat x3 = Int32.ofInt 8 from if_pos (by omega), show (Int32.ofInt 8).toInt.toNat = 8 from by decide]; exact hB.trans hX) | (simp only [show ySeat x2 = Int32.ofInt 8 from if_pos (by omega), show ySeat x3 = x3 from if_neg (by omega), show (Int32.ofInt 8).toInt.toNat = 8 from by decide]; exact hB.trans hX) | (simp only [show ySeat x2 = Int32.ofInt 8 from if_pos (by omega), show ySeat x3 = Int32.ofInt 8 from if_pos (by omega), show (Int32.ofInt 8).toInt.toNat = 8 from by decide]; exact hB.trans hX)) (by omega) (by omega)
                        · refine y_iconst rfl ?_
                          refine y_goto rfl j_X14_buyOut_147 ?_
                          refine y_iconst rfl ?_
                          refine y_virt rfl rfl rfl rfl rfl (ySh.t hS rfl) (ySh.n hS rfl) ?_
                          refine y_in (M := xm_X14_refuse) (ls := [some _, some _, some _]) rfl rfl rfl ?_
                          refine y_iload_n rfl rfl ?_
                          refine y_if_eqF rfl (by decide) ?_
                          refine y_aload_n rfl rfl ?_
                          refine y_getIv (v := Int32.ofInt (0)) rfl (ySh.t hS rfl) (ySh.n hS rfl) rfl rfl hth ?_
                          refine y_if_neF rfl (by decide) ?_
                          refine y_aload_n rfl rfl ?_
                          refine y_iload_n rfl rfl ?_
                          refine y_putI rfl (ySh.t hS rfl) (ySh.n hS rfl) rfl (Nat.le_of_ble_eq_true rfl) rfl rfl ?_
                          refine y_nameI (fun I169 e169 => ?_)
                          have hR1 := (hR0.grow hX).mod0 e169 (by decide) (by decide)
                          have hK := (hK.x hRo hno hX).upI (upI e169) (by decide) (by decide) (fun i hi => by have := (hRo.l87.2.2.2.2 i hi).2.1; omega) (by rw [e169, upd2_ne (.inr (by decide))]; exact Int.le_refl _)
                          have hth : I169 83 0 = Int32.ofInt (3) := by rw [e169, upd2_self]
                          have hzz : ySz8 I114 I169 := ySz8_of (upI e169) (by rw [e169]; exact ⟨upd2_ne (.inr (by decide)), upd2_ne (.inr (by decide))⟩)
                          have hB := (hB.trans hX).wr e169 rfl
                          have h8 : ∀ a, 84 ≤ a → a ≤ 86 → I169 a = I a := fun a h1 h2 => (upI e169 a (by omega)).trans ((hX.2.1 a (by omega)).2.1.trans (h8 a h1 h2))
                          have h3k : ∀ k, k ≠ 0 → I169 83 k = I 83 k := fun k hk => (congrFun (congrFun e169 83) k).trans ((upd2_ne (.inr hk)).trans ((congrFun (hX.2.1 83 (by omega)).2.1 k).trans (h3k k hk)))
                          have hg := (hg.gx hX (by omega)).skip e169 (by decide)
                          have hday : I169 83 1 = I 83 1 := (congrFun (congrFun e169 83) 1).trans ((upd2_ne (.inr (by decide))).trans ((congrFun (hX.2.1 83 (by omega)).2.1 1).trans hday))
                          have hRb : ∀ a, a < n → R a = R a := fun a ha => (hX.2.1 a (by omega)).2.2.trans (hRb a ha)
                          have hb83 : ∀ a, a ≠ 83 → a < n → I169 a = I a := fun a ha hb => (upI e169 a ha).trans ((hX.2.1 a (by omega)).2.1.trans (hb83 a ha hb))
                          have hS0 := hS
                          have hR0 := hR1
                          have ht_b121 := (hX.2.1 _ hb_b121).1.trans ht_b121
                          have hb_b121 := Nat.lt_of_lt_of_le hb_b121 hX.1
                          have hb0_b121 := hb_b121
                          have ht_v148 := (hX.2.1 _ hb_v148).1.trans ht_v148
                          have hb_v148 := Nat.lt_of_lt_of_le hb_v148 hX.1
                          have hb0_v148 := hb_v148
                          have ht_v152 := (hX.2.1 _ hb_v152).1.trans ht_v152
                          have hb_v152 := Nat.lt_of_lt_of_le hb_v152 hX.1
                          have hb0_v152 := hb_v152
                          have ht_v156 := (hX.2.1 _ hb_v156).1.trans ht_v156
                          have hb_v156 := Nat.lt_of_lt_of_le hb_v156 hX.1
                          have hb0_v156 := hb_v156
                          have hn := Nat.le_refl n
                          have h94 := hS0.1
                          have hX := @yX.rf n tg I169 R
                          have hS := hS0.x hX
                          have hR := hR0.x hn hX
                          have hz := hX.sz h94
                          have hxn := hX.1
                          have hN := hR0.1
                          have hnb := hR0.2.2.2.2.2.2
                          have hthB := hth
                          refine y_aload_n rfl rfl ?_
                          refine y_getIv (v := Int32.ofInt (3)) rfl (ySh.t hS rfl) (ySh.n hS rfl) rfl rfl hth ?_
                          refine y_if_leF rfl (by decide) ?_
                          refine y_iconst rfl ?_
                          refine y_goto rfl j_X14_refuse_28 ?_
                          refine y_ireturn rfl rfl rfl ?_
                          refine y_ret1 ?_
                          refine y_if_eqF rfl (by decide) ?_
                          refine y_iconst rfl ?_
                          refine y_ireturn rfl rfl rfl ?_
                          exact hQ3 _ eb_b121 (by first | omega | (simp only [show ySeat x2 = x2 from if_neg (by omega), show ySeat x3 = x3 from if_neg (by omega)]; omega) | (simp only [show ySeat x2 = x2 from if_neg (by omega), show ySeat x3 = Int32.ofInt 8 from if_pos (by omega), show (Int32.ofInt 8).toInt.toNat = 8 from by decide]; omega) | (simp only [show ySeat x2 = Int32.ofInt 8 from if_pos (by omega), show ySeat x3 = x3 from if_neg (by omega), show (Int32.ofInt 8).toInt.toNat = 8 from by decide]; omega) | (simp only [show ySeat x2 = Int32.ofInt 8 from if_pos (by omega), show ySeat x3 = Int32.ofInt 8 from if_pos (by omega), show (Int32.ofInt 8).toInt.toNat = 8 from by decide]; omega)) _ _ _ _ _ _ _ hS ((hR0.grow hX).up (Nat.le_succ K) hk6) (hK.x hRo hno hX) hth ((hB.trans hX).rf2 (by omega)) (by omega) (by omega)
              · rw [yz_m1] at h_123
                refine y_bip rfl (by decide) ?_
                refine y_goto rfl j_X14_seat_11 ?_
                refine y_ireturn rfl rfl rfl ?_
                refine y_ret1 ?_
                refine y_istore (ls' := [some _, some _, some _, some _, some _, some _, some _, _]) rfl rfl rfl ?_
                refine y_iload_n rfl rfl ?_
                refine y_static rfl rfl rfl rfl rfl ?_
                refine y_in (M := xm_X14_seat) (ls := [some _]) rfl rfl rfl ?_
                refine y_iload_n rfl rfl ?_
                refine y_iconst rfl ?_
                refine y_icmp_ne rfl j_X14_seat_10 (fun h_170 => ?_) (fun h_171 => ?_)
                · rw [yz_m1] at h_170
                  refine y_iload_n rfl rfl ?_
                  refine y_ireturn rfl rfl rfl ?_
                  refine y_ret1 ?_
                  refine y_istore (ls' := [some _, some _, some _, some _, some _, some _, some _, some _]) rfl rfl rfl ?_
                  refine y_aload_n rfl rfl ?_
                  refine y_aload rfl rfl ?_
                  obtain ⟨hR_v172, hb_v172, ht_v172⟩ := hR0.ven hlo_b121 hb0_b121 ht_b121 (j := 0) (by decide)
                  have hb0_v172 := hb_v172
                  have hb_v172 := Nat.lt_of_lt_of_le hb_v172 hn
                  have hlo_v172 : 94 ≤ b121 + 1 + 0 := by omega
                  have hR2_v172 := (congrFun (hX.2.1 b121 hb_b121).2.2 0).trans hR_v172
                  refine y_getR rfl ((hX.2.1 _ hb_b121).1.trans ht_b121) (Nat.lt_of_lt_of_le hb_b121 hX.1) rfl rfl hR2_v172 ?_
                  refine y_iload rfl rfl ?_
                  refine y_baloadw (j := 8) (J := I (b121 + 1 + 0)) rfl ((hX.2.1 _ hb_v172).1.trans ht_v172) rfl (Nat.lt_of_lt_of_le hb_v172 hX.1) (by decide) (by decide) rfl (((hB.trans hX).n (by omega)).trans (by repeat (first | rfl | (rw [upd2_row (by first | decide | omega)]) | refine upd2_cg ?_))) ?_
                  refine y_if_eq rfl j_X14_buyOut_142 (fun h_173 => ?_) (fun h_174 => ?_)
                  · refine y_iconst rfl ?_
                    refine y_goto rfl j_X14_buyOut_147 ?_
                    refine y_iconst rfl ?_
                    refine y_virt rfl rfl rfl rfl rfl (ySh.t hS rfl) (ySh.n hS rfl) ?_
                    refine y_in (M := xm_X14_refuse) (ls := [some _, some _, some _]) rfl rfl rfl ?_
                    refine y_iload_n rfl rfl ?_
                    refine y_if_eqF rfl (by decide) ?_
                    refine y_aload_n rfl rfl ?_
                    refine y_getIv (v := Int32.ofInt (0)) rfl (ySh.t hS rfl) (ySh.n hS rfl) rfl rfl hth ?_
                    refine y_if_neF rfl (by decide) ?_
                    refine y_aload_n rfl rfl ?_
                    refine y_iload_n rfl rfl ?_
                    refine y_putI rfl (ySh.t hS rfl) (ySh.n hS rfl) rfl (Nat.le_of_ble_eq_true rfl) rfl rfl ?_
                    refine y_nameI (fun I175 e175 => ?_)
                    have hR1 := (hR0.grow hX).mod0 e175 (by decide) (by decide)
                    have hK := (hK.x hRo hno hX).upI (upI e175) (by decide) (by decide) (fun i hi => by have := (hRo.l87.2.2.2.2 i hi).2.1; omega) (by rw [e175, upd2_ne (.inr (by decide))]; exact Int.le_refl _)
                    have hth : I175 83 0 = Int32.ofInt (3) := by rw [e175, upd2_self]
                    have hzz : ySz8 I114 I175 := ySz8_of (upI e175) (by rw [e175]; exact ⟨upd2_ne (.inr (by decide)), upd2_ne (.inr (by decide))⟩)
                    have hB := (hB.trans hX).wr e175 rfl
                    have h8 : ∀ a, 84 ≤ a → a ≤ 86 → I175 a = I a := fun a h1 h2 => (upI e175 a (by omega)).trans ((hX.2.1 a (by omega)).2.1.trans (h8 a h1 h2))
                    have h3k : ∀ k, k ≠ 0 → I175 83 k = I 83 k := fun k hk => (congrFun (congrFun e175 83) k).trans ((upd2_ne (.inr hk)).trans ((congrFun (hX.2.1 83 (by omega)).2.1 k).trans (h3k k hk)))
                    have hg := (hg.gx hX (by omega)).skip e175 (by decide)
                    have hday : I175 83 1 = I 83 1 := (congrFun (congrFun e175 83) 1).trans ((upd2_ne (.inr (by decide))).trans ((congrFun (hX.2.1 83 (by omega)).2.1 1).trans hday))
                    have hRb : ∀ a, a < n → R a = R a := fun a ha => (hX.2.1 a (by omega)).2.2.trans (hRb a ha)
                    have hb83 : ∀ a, a ≠ 83 → a < n → I175 a = I a := fun a ha hb => (upI e175 a ha).trans ((hX.2.1 a (by omega)).2.1.trans (hb83 a ha hb))
                    have hS0 := hS
                    have hR0 := hR1
                    have ht_b121 := (hX.2.1 _ hb_b121).1.trans ht_b121
                    have hb_b121 := Nat.lt_of_lt_of_le hb_b121 hX.1
                    have hb0_b121 := hb_b121
                    have ht_v172 := (hX.2.1 _ hb_v172).1.trans ht_v172
                    have hb_v172 := Nat.lt_of_lt_of_le hb_v172 hX.1
                    have hb0_v172 := hb_v172
                    have hn := Nat.le_refl n
                    have h94 := hS0.1
                    have hX := @yX.rf n tg I175 R
                    have hS := hS0.x hX
                    have hR := hR0.x hn hX
                    have hz := hX.sz h94
                    have hxn := hX.1
                    have hN := hR0.1
                    have hnb := hR0.2.2.2.2.2.2
                    have hthB := hth
                    refine y_aload_n rfl rfl ?_
                    refine y_getIv (v := Int32.ofInt (3)) rfl (ySh.t hS rfl) (ySh.n hS rfl) rfl rfl hth ?_
                    refine y_if_leF rfl (by decide) ?_
                    refine y_iconst rfl ?_
                    refine y_goto rfl j_X14_refuse_28 ?_
                    refine y_ireturn rfl rfl rfl ?_
                    refine y_ret1 ?_
                    refine y_if_eqF rfl (by decide) ?_
                    refine y_iconst rfl ?_
                    refine y_ireturn rfl rfl rfl ?_
                    exact hQ3 _ eb_b121 (by first | omega | (simp only [show ySeat x2 = x2 from if_neg (by omega), show ySeat x3 = x3 from if_neg (by omega)]; omega) | (simp only [show ySeat x2 = x2 from if_neg (by omega), show ySeat x3 = Int32.ofInt 8 from if_pos (by omega), show (Int32.ofInt 8).toInt.toNat = 8 from by decide]; omega) | (simp only [show ySeat x2 = Int32.ofInt 8 from if_pos (by omega), show ySeat x3 = x3 from if_neg (by omega), show (Int32.ofInt 8).toInt.toNat = 8 from by decide]; omega) | (simp only [show ySeat x2 = Int32.ofInt 8 from if_pos (by omega), show ySeat x3 = Int32.ofInt 8 from if_pos (by omega), show (Int32.ofInt 8).toInt.toNat = 8 from by decide]; omega)) _ _ _ _ _ _ _ hS ((hR0.grow hX).up (Nat.le_succ K) hk6) (hK.x hRo hno hX) hth ((hB.trans hX).rf2 (by omega)) (by omega) (by omega)
                  · refine y_aload rfl rfl ?_
                    obtain ⟨hR_v176, hb_v176, ht_v176⟩ := hR0.ven hlo_b121 hb0_b121 ht_b121 (j := 0) (by decide)
                    have hb0_v176 := hb_v176
                    have hb_v176 := Nat.lt_of_lt_of_le hb_v176 hn
                    have hlo_v176 : 94 ≤ b121 + 1 + 0 := by omega
                    have hR2_v176 := (congrFun (hX.2.1 b121 hb_b121).2.2 0).trans hR_v176
                    refine y_getR rfl ((hX.2.1 _ hb_b121).1.trans ht_b121) (Nat.lt_of_lt_of_le hb_b121 hX.1) rfl rfl hR2_v176 ?_
                    refine y_iload rfl rfl ?_
                    refine y_baloadv (J := I (b121 + 1 + 0)) rfl ((hX.2.1 _ hb_v176).1.trans ht_v176) rfl (Nat.lt_of_lt_of_le hb_v176 hX.1) (by omega) (by omega) (((hB.trans hX).n (by omega)).trans (by repeat (first | rfl | (rw [upd2_row (by first | decide | omega)]) | refine upd2_cg ?_))) ?_
                    refine y_if_eq rfl j_X14_buyOut_142 (fun h_177 => ?_) (fun h_178 => ?_)
                    · refine y_iconst rfl ?_
                      refine y_goto rfl j_X14_buyOut_147 ?_
                      refine y_iconst rfl ?_
                      refine y_virt rfl rfl rfl rfl rfl (ySh.t hS rfl) (ySh.n hS rfl) ?_
                      refine y_in (M := xm_X14_refuse) (ls := [some _, some _, some _]) rfl rfl rfl ?_
                      refine y_iload_n rfl rfl ?_
                      refine y_if_eqF rfl (by decide) ?_
                      refine y_aload_n rfl rfl ?_
                      refine y_getIv (v := Int32.ofInt (0)) rfl (ySh.t hS rfl) (ySh.n hS rfl) rfl rfl hth ?_
                      refine y_if_neF rfl (by decide) ?_
                      refine y_aload_n rfl rfl ?_
                      refine y_iload_n rfl rfl ?_
                      refine y_putI rfl (ySh.t hS rfl) (ySh.n hS rfl) rfl (Nat.le_of_ble_eq_true rfl) rfl rfl ?_
                      refine y_nameI (fun I179 e179 => ?_)
                      have hR1 := (hR0.grow hX).mod0 e179 (by decide) (by decide)
                      have hK := (hK.x hRo hno hX).upI (upI e179) (by decide) (by decide) (fun i hi => by have := (hRo.l87.2.2.2.2 i hi).2.1; omega) (by rw [e179, upd2_ne (.inr (by decide))]; exact Int.le_refl _)
                      have hth : I179 83 0 = Int32.ofInt (3) := by rw [e179, upd2_self]
                      have hzz : ySz8 I114 I179 := ySz8_of (upI e179) (by rw [e179]; exact ⟨upd2_ne (.inr (by decide)), upd2_ne (.inr (by decide))⟩)
                      have hB := (hB.trans hX).wr e179 rfl
                      have h8 : ∀ a, 84 ≤ a → a ≤ 86 → I179 a = I a := fun a h1 h2 => (upI e179 a (by omega)).trans ((hX.2.1 a (by omega)).2.1.trans (h8 a h1 h2))
                      have h3k : ∀ k, k ≠ 0 → I179 83 k = I 83 k := fun k hk => (congrFun (congrFun e179 83) k).trans ((upd2_ne (.inr hk)).trans ((congrFun (hX.2.1 83 (by omega)).2.1 k).trans (h3k k hk)))
                      have hg := (hg.gx hX (by omega)).skip e179 (by decide)
                      have hday : I179 83 1 = I 83 1 := (congrFun (congrFun e179 83) 1).trans ((upd2_ne (.inr (by decide))).trans ((congrFun (hX.2.1 83 (by omega)).2.1 1).trans hday))
                      have hRb : ∀ a, a < n → R a = R a := fun a ha => (hX.2.1 a (by omega)).2.2.trans (hRb a ha)
                      have hb83 : ∀ a, a ≠ 83 → a < n → I179 a = I a := fun a ha hb => (upI e179 a ha).trans ((hX.2.1 a (by omega)).2.1.trans (hb83 a ha hb))
                      have hS0 := hS
                      have hR0 := hR1
                      have ht_b121 := (hX.2.1 _ hb_b121).1.trans ht_b121
                      have hb_b121 := Nat.lt_of_lt_of_le hb_b121 hX.1
                      have hb0_b121 := hb_b121
                      have ht_v172 := (hX.2.1 _ hb_v172).1.trans ht_v172
                      have hb_v172 := Nat.lt_of_lt_of_le hb_v172 hX.1
                      have hb0_v172 := hb_v172
                      have ht_v176 := (hX.2.1 _ hb_v176).1.trans ht_v176
                      have hb_v176 := Nat.lt_of_lt_of_le hb_v176 hX.1
                      have hb0_v176 := hb_v176
                      have hn := Nat.le_refl n
                      have h94 := hS0.1
                      have hX := @yX.rf n tg I179 R
                      have hS := hS0.x hX
                      have hR := hR0.x hn hX
                      have hz := hX.sz h94
                      have hxn := hX.1
                      have hN := hR0.1
                      have hnb := hR0.2.2.2.2.2.2
                      have hthB := hth
                      refine y_aload_n rfl rfl ?_
                      refine y_getIv (v := Int32.ofInt (3)) rfl (ySh.t hS rfl) (ySh.n hS rfl) rfl rfl hth ?_
                      refine y_if_leF rfl (by decide) ?_
                      refine y_iconst rfl ?_
                      refine y_goto rfl j_X14_refuse_28 ?_
                      refine y_ireturn rfl rfl rfl ?_
                      refine y_ret1 ?_
                      refine y_if_eqF rfl (by decide) ?_
                      refine y_iconst rfl ?_
                      refine y_ireturn rfl rfl rfl ?_
                      exact hQ3 _ eb_b121 (by first | omega | (simp only [show ySeat x2 = x2 from if_neg (by omega), show ySeat x3 = x3 from if_neg (by omega)]; omega) | (simp only [show ySeat x2 = x2 from if_neg (by omega), show ySeat x3 = Int32.ofInt 8 from if_pos (by omega), show (Int32.ofInt 8).toInt.toNat = 8 from by decide]; omega) | (simp only [show ySeat x2 = Int32.ofInt 8 from if_pos (by omega), show ySeat x3 = x3 from if_neg (by omega), show (Int32.ofInt 8).toInt.toNat = 8 from by decide]; omega) | (simp only [show ySeat x2 = Int32.ofInt 8 from if_pos (by omega), show ySeat x3 = Int32.ofInt 8 from if_pos (by omega), show (Int32.ofInt 8).toInt.toNat = 8 from by decide]; omega)) _ _ _ _ _ _ _ hS ((hR0.grow hX).up (Nat.le_succ K) hk6) (hK.x hRo hno hX) hth ((hB.trans hX).rf2 (by omega)) (by omega) (by omega)
                    · refine y_aload rfl rfl ?_
                      obtain ⟨hR_v180, hb_v180, ht_v180⟩ := hR0.ven hlo_b121 hb0_b121 ht_b121 (j := 1) (by decide)
                      have hb0_v180 := hb_v180
                      have hb_v180 := Nat.lt_of_lt_of_le hb_v180 hn
                      have hlo_v180 : 94 ≤ b121 + 1 + 1 := by omega
                      have hR2_v180 := (congrFun (hX.2.1 b121 hb_b121).2.2 1).trans hR_v180
                      refine y_getR rfl ((hX.2.1 _ hb_b121).1.trans ht_b121) (Nat.lt_of_lt_of_le hb_b121 hX.1) rfl rfl hR2_v180 ?_
                      refine y_iload rfl rfl ?_
                      refine y_ialoadw (j := 8) (J := I (b121 + 1 + 1)) rfl ((hX.2.1 _ hb_v180).1.trans ht_v180) (Nat.lt_of_lt_of_le hb_v180 hX.1) (by decide) (by decide) rfl (((hB.trans hX).n (by omega)).trans (by repeat (first | rfl | (rw [upd2_row (by first | decide | omega)]) | refine upd2_cg ?_))) ?_
                      refine y_iload rfl rfl ?_
                      refine y_icmp_lt rfl j_X14_buyOut_142 (fun h_181 => ?_) (fun h_182 => ?_)
                      · refine y_iconst rfl ?_
                        refine y_goto rfl j_X14_buyOut_147 ?_
                        refine y_iconst rfl ?_
                        refine y_virt rfl rfl rfl rfl rfl (ySh.t hS rfl) (ySh.n hS rfl) ?_
                        refine y_in (M := xm_X14_refuse) (ls := [some _, some _, some _]) rfl rfl rfl ?_
                        refine y_iload_n rfl rfl ?_
                        refine y_if_eqF rfl (by decide) ?_
                        refine y_aload_n rfl rfl ?_
                        refine y_getIv (v := Int32.ofInt (0)) rfl (ySh.t hS rfl) (ySh.n hS rfl) rfl rfl hth ?_
                        refine y_if_neF rfl (by decide) ?_
                        refine y_aload_n rfl rfl ?_
                        refine y_iload_n rfl rfl ?_
                        refine y_putI rfl (ySh.t hS rfl) (ySh.n hS rfl) rfl (Nat.le_of_ble_eq_true rfl) rfl rfl ?_
                        refine y_nameI (fun I183 e183 => ?_)
                        have hR1 := (hR0.grow hX).mod0 e183 (by decide) (by decide)
                        have hK := (hK.x hRo hno hX).upI (upI e183) (by decide) (by decide) (fun i hi => by have := (hRo.l87.2.2.2.2 i hi).2.1; omega) (by rw [e183, upd2_ne (.inr (by decide))]; exact Int.le_refl _)
                        have hth : I183 83 0 = Int32.ofInt (3) := by rw [e183, upd2_self]
                        have hzz : ySz8 I114 I183 := ySz8_of (upI e183) (by rw [e183]; exact ⟨upd2_ne (.inr (by decide)), upd2_ne (.inr (by decide))⟩)
                        have hB := (hB.trans hX).wr e183 rfl
                        have h8 : ∀ a, 84 ≤ a → a ≤ 86 → I183 a = I a := fun a h1 h2 => (upI e183 a (by omega)).trans ((hX.2.1 a (by omega)).2.1.trans (h8 a h1 h2))
                        have h3k : ∀ k, k ≠ 0 → I183 83 k = I 83 k := fun k hk => (congrFun (congrFun e183 83) k).trans ((upd2_ne (.inr hk)).trans ((congrFun (hX.2.1 83 (by omega)).2.1 k).trans (h3k k hk)))
                        have hg := (hg.gx hX (by omega)).skip e183 (by decide)
                        have hday : I183 83 1 = I 83 1 := (congrFun (congrFun e183 83) 1).trans ((upd2_ne (.inr (by decide))).trans ((congrFun (hX.2.1 83 (by omega)).2.1 1).trans hday))
                        have hRb : ∀ a, a < n → R a = R a := fun a ha => (hX.2.1 a (by omega)).2.2.trans (hRb a ha)
                        have hb83 : ∀ a, a ≠ 83 → a < n → I183 a = I a := fun a ha hb => (upI e183 a ha).trans ((hX.2.1 a (by omega)).2.1.trans (hb83 a ha hb))
                        have hS0 := hS
                        have hR0 := hR1
                        have ht_b121 := (hX.2.1 _ hb_b121).1.trans ht_b121
                        have hb_b121 := Nat.lt_of_lt_of_le hb_b121 hX.1
                        have hb0_b121 := hb_b121
                        have ht_v172 := (hX.2.1 _ hb_v172).1.trans ht_v172
                        have hb_v172 := Nat.lt_of_lt_of_le hb_v172 hX.1
                        have hb0_v172 := hb_v172
                        have ht_v176 := (hX.2.1 _ hb_v176).1.trans ht_v176
                        have hb_v176 := Nat.lt_of_lt_of_le hb_v176 hX.1
                        have hb0_v176 := hb_v176
                        have ht_v180 := (hX.2.1 _ hb_v180).1.trans ht_v180
                        have hb_v180 := Nat.lt_of_lt_of_le hb_v180 hX.1
                        have hb0_v180 := hb_v180
                        have hn := Nat.le_refl n
                        have h94 := hS0.1
                        have hX := @yX.rf n tg I183 R
                        have hS := hS0.x hX
                        have hR := hR0.x hn hX
                        have hz := hX.sz h94
                        have hxn := hX.1
                        have hN := hR0.1
                        have hnb := hR0.2.2.2.2.2.2
                        have hthB := hth
                        refine y_aload_n rfl rfl ?_
                        refine y_getIv (v := Int32.ofInt (3)) rfl (ySh.t hS rfl) (ySh.n hS rfl) rfl rfl hth ?_
                        refine y_if_leF rfl (by decide) ?_
                        refine y_iconst rfl ?_
                        refine y_goto rfl j_X14_refuse_28 ?_
                        refine y_ireturn rfl rfl rfl ?_
                        refine y_ret1 ?_
                        refine y_if_eqF rfl (by decide) ?_
                        refine y_iconst rfl ?_
                        refine y_ireturn rfl rfl rfl ?_
                        exact hQ3 _ eb_b121 (by first | omega | (simp only [show ySeat x2 = x2 from if_neg (by omega), show ySeat x3 = x3 from if_neg (by omega)]; omega) | (simp only [show ySeat x2 = x2 from if_neg (by omega), show ySeat x3 = Int32.ofInt 8 from if_pos (by omega), show (Int32.ofInt 8).toInt.toNat = 8 from by decide]; omega) | (simp only [show ySeat x2 = Int32.ofInt 8 from if_pos (by omega), show ySeat x3 = x3 from if_neg (by omega), show (Int32.ofInt 8).toInt.toNat = 8 from by decide]; omega) | (simp only [show ySeat x2 = Int32.ofInt 8 from if_pos (by omega), show ySeat x3 = Int32.ofInt 8 from if_pos (by omega), show (Int32.ofInt 8).toInt.toNat = 8 from by decide]; omega)) _ _ _ _ _ _ _ hS ((hR0.grow hX).up (Nat.le_succ K) hk6) (hK.x hRo hno hX) hth ((hB.trans hX).rf2 (by omega)) (by omega) (by omega)
                      · refine y_aload_n rfl rfl ?_
                        refine y_getR rfl (ySh.t hS rfl) (ySh.n hS rfl) rfl rfl (ySh.r hS rfl) ?_
                        refine y_iload rfl rfl ?_
                        refine y_ialoadv (J := I 84) rfl (ySh.t hS rfl) (ySh.n hS rfl) (by omega) (by omega) (((hB.trans hX).n (by omega)).trans (by repeat (first | rfl | (rw [upd2_row (by first | decide | omega)]) | refine upd2_cg ?_))) ?_
                        refine y_iload rfl rfl ?_
                        refine y_icmp_ge rfl j_X14_buyOut_146 (fun h_184 => ?_) (fun h_185 => ?_)
                        · refine y_iconst rfl ?_
                          refine y_iconst rfl ?_
                          refine y_virt rfl rfl rfl rfl rfl (ySh.t hS rfl) (ySh.n hS rfl) ?_
                          refine y_in (M := xm_X14_refuse) (ls := [some _, some _, some _]) rfl rfl rfl ?_
                          refine y_iload_n rfl rfl ?_
                          refine y_if_eqT rfl j_X14_refuse_16 (by decide) ?_
                          refine y_aload_n rfl rfl ?_
                          refine y_getIv (v := Int32.ofInt (0)) rfl (ySh.t hS rfl) (ySh.n hS rfl) rfl rfl hth ?_
                          refine y_if_leT rfl j_X14_refuse_27 (by decide) ?_
                          refine y_iconst rfl ?_
                          refine y_ireturn rfl rfl rfl ?_
                          refine y_ret1 ?_
                          refine y_if_eqT rfl j_X14_buyOut_156 (by decide) ?_
                          refine y_aload rfl rfl ?_
                          obtain ⟨hR_v186, hb_v186, ht_v186⟩ := hR0.ven hlo_b121 hb0_b121 ht_b121 (j := 1) (by decide)
                          have hb0_v186 := hb_v186
                          have hb_v186 := Nat.lt_of_lt_of_le hb_v186 hn
                          have hlo_v186 : 94 ≤ b121 + 1 + 1 := by omega
                          have hR2_v186 := (congrFun (hX.2.1 b121 hb_b121).2.2 1).trans hR_v186
                          refine y_getR rfl ((hX.2.1 _ hb_b121).1.trans ht_b121) (Nat.lt_of_lt_of_le hb_b121 hX.1) rfl rfl hR2_v186 ?_
                          refine y_iload rfl rfl ?_
                          refine y_dup2 rfl rfl rfl ?_
                          refine y_ialoadw (j := 8) (J := I (b121 + 1 + 1)) rfl ((hX.2.1 _ hb_v186).1.trans ht_v186) (Nat.lt_of_lt_of_le hb_v186 hX.1) (by decide) (by decide) rfl (((hB.trans hX).n (by omega)).trans (by repeat (first | rfl | (rw [upd2_row (by first | decide | omega)]) | refine upd2_cg ?_))) ?_
                          refine y_iload rfl rfl ?_
                          refine y_isub rfl ?_
                          refine y_iastoreC (j := 8) rfl ((hX.2.1 _ hb_v186).1.trans ht_v186) (Nat.lt_of_lt_of_le hb_v186 hX.1) (Nat.le_trans (by decide) (by omega : 94 ≤ _)) (by decide) (by decide) rfl ?_
                          refine y_nameI (fun I187 e187 => ?_)
                          have hB1 := (hR0.grow hX).capB1x hlo_b121 (by omega) ((hX.2.1 _ hb_b121).1.trans ht_b121) (by omega) e187 (by rw [show I114 (b121 + 1 + 1) = I (b121 + 1 + 1) from ((hB.trans hX).n (by omega)).trans (by repeat (first | rfl | (rw [upd2_row (by first | decide | omega)]) | refine upd2_cg ?_))]) ⟨by omega, by rw [show I114 (b121 + 1 + 1) = I (b121 + 1 + 1) from ((hB.trans hX).n (by omega)).trans (by repeat (first | rfl | (rw [upd2_row (by first | decide | omega)]) | refine upd2_cg ?_))]; omega⟩
                          have hR1 := hB1.1
                          have hK := (hK.x hRo hno hX).upE hRo hno (upI e187) (by omega) (by omega) (by rw [((hX.2.1 _ hb_v186).1.trans ht_v186)]; decide) (by rw [e187, upd2_ne (.inl (by omega))]; exact Int.le_refl _)
                          have hth := (show I187 83 0 = I114 83 0 by rw [e187, upd2_ne (.inl (by omega))]).trans hth
                          have hzz : ySz I114 I187 := ySz_ofE (upI e187) (by omega)
                          have hB := (hB.trans hX).wr e187 rfl
                          have h8 : ∀ a, 84 ≤ a → a ≤ 86 → I187 a = I a := fun a h1 h2 => (upI e187 a (by omega)).trans ((hX.2.1 a (by omega)).2.1.trans (h8 a h1 h2))
                          have h3k : ∀ k, k ≠ 0 → I187 83 k = I 83 k := fun k hk => (congrFun (congrFun e187 83) k).trans ((upd2_ne (.inl (by omega))).trans ((congrFun (hX.2.1 83 (by omega)).2.1 k).trans (h3k k hk)))
                          have hg := (hg.gx hX (by omega)).both e187
                          have hday : I187 83 1 = I 83 1 := (congrFun (congrFun e187 83) 1).trans ((upd2_ne (.inl (by omega))).trans ((congrFun (hX.2.1 83 (by omega)).2.1 1).trans hday))
                          have hRb : ∀ a, a < n → R a = R a := fun a ha => (hX.2.1 a (by omega)).2.2.trans (hRb a ha)
                          have hS0 := hS
                          have hR0 := hR1
                          have ht_b121 := (hX.2.1 _ hb_b121).1.trans ht_b121
                          have hb_b121 := Nat.lt_of_lt_of_le hb_b121 hX.1
                          have hb0_b121 := hb_b121
                          have ht_v172 := (hX.2.1 _ hb_v172).1.trans ht_v172
                          have hb_v172 := Nat.lt_of_lt_of_le hb_v172 hX.1
                          have hb0_v172 := hb_v172
                          have ht_v176 := (hX.2.1 _ hb_v176).1.trans ht_v176
                          have hb_v176 := Nat.lt_of_lt_of_le hb_v176 hX.1
                          have hb0_v176 := hb_v176
                          have ht_v180 := (hX.2.1 _ hb_v180).1.trans ht_v180
                          have hb_v180 := Nat.lt_of_lt_of_le hb_v180 hX.1
                          have hb0_v180 := hb_v180
                          have ht_v186 := (hX.2.1 _ hb_v186).1.trans ht_v186
                          have hb_v186 := Nat.lt_of_lt_of_le hb_v186 hX.1
                          have hb0_v186 := hb_v186
                          have hn := Nat.le_refl n
                          have h94 := hS0.1
                          have hX := @yX.rf n tg I187 R
                          have hS := hS0.x hX
                          have hR := hR0.x hn hX
                          have hz := hX.sz h94
                          have hxn := hX.1
                          have hN := hR0.1
                          have hnb := hR0.2.2.2.2.2.2
                          have hthB := hth
                          refine y_aload rfl rfl ?_
                          obtain ⟨hR_v188, hb_v188, ht_v188⟩ := hR0.ven hlo_b121 hb0_b121 ht_b121 (j := 1) (by decide)
                          have hb0_v188 := hb_v188
                          have hb_v188 := Nat.lt_of_lt_of_le hb_v188 hn
                          have hlo_v188 : 94 ≤ b121 + 1 + 1 := by omega
                          have hR2_v188 := (congrFun (hX.2.1 b121 hb_b121).2.2 1).trans hR_v188
                          refine y_getR rfl ((hX.2.1 _ hb_b121).1.trans ht_b121) (Nat.lt_of_lt_of_le hb_b121 hX.1) rfl rfl hR2_v188 ?_
                          refine y_iload rfl rfl ?_
                          refine y_dup2 rfl rfl rfl ?_
                          refine y_ialoadv (J := _) rfl ((hX.2.1 _ hb_v188).1.trans ht_v188) (Nat.lt_of_lt_of_le hb_v188 hX.1) (by omega) (by omega) ((hB.trans hX).n (by omega)) ?_
                          refine y_iload rfl rfl ?_
                          refine y_iadd rfl ?_
                          refine y_iastore rfl ((hX.2.1 _ hb_v188).1.trans ht_v188) (Nat.lt_of_lt_of_le hb_v188 hX.1) (Nat.le_trans (by decide) (by omega : 94 ≤ _)) (by omega) (by omega) ?_
                          refine y_nameI (fun I189 e189 => ?_)
                          have hR1 := (hR0.grow hX).capB2x hlo_b121 (by omega) ((hX.2.1 _ hb_b121).1.trans ht_b121) (by omega) (by omega) hB1.2.1 e189 (by rw [show I187 (b121 + 1 + 1) = _ from ((hB.trans hX).n (by omega))])
                          have hK := (hK.x hRo hno hX).upE hRo hno (upI e189) (by omega) (by omega) (by rw [((hX.2.1 _ hb_v188).1.trans ht_v188)]; decide) (by rw [e189, upd2_ne (.inl (by omega))]; exact Int.le_refl _)
                          have hth := (show I189 83 0 = I187 83 0 by rw [e189, upd2_ne (.inl (by omega))]).trans hth
                          have hzz : ySz I187 I189 := ySz_ofE (upI e189) (by omega)
                          have hB := (hB.trans hX).wr e189 rfl
                          have h8 : ∀ a, 84 ≤ a → a ≤ 86 → I189 a = I a := fun a h1 h2 => (upI e189 a (by omega)).trans ((hX.2.1 a (by omega)).2.1.trans (h8 a h1 h2))
                          have h3k : ∀ k, k ≠ 0 → I189 83 k = I 83 k := fun k hk => (congrFun (congrFun e189 83) k).trans ((upd2_ne (.inl (by omega))).trans ((congrFun (hX.2.1 83 (by omega)).2.1 k).trans (h3k k hk)))
                          have hg := (hg.gx hX (by omega)).both e189
                          have hday : I189 83 1 = I 83 1 := (congrFun (congrFun e189 83) 1).trans ((upd2_ne (.inl (by omega))).trans ((congrFun (hX.2.1 83 (by omega)).2.1 1).trans hday))
                          have hRb : ∀ a, a < n → R a = R a := fun a ha => (hX.2.1 a (by omega)).2.2.trans (hRb a ha)
                          have hS0 := hS
                          have hR0 := hR1
                          have ht_b121 := (hX.2.1 _ hb_b121).1.trans ht_b121
                          have hb_b121 := Nat.lt_of_lt_of_le hb_b121 hX.1
                          have hb0_b121 := hb_b121
                          have ht_v172 := (hX.2.1 _ hb_v172).1.trans ht_v172
                          have hb_v172 := Nat.lt_of_lt_of_le hb_v172 hX.1
                          have hb0_v172 := hb_v172
                          have ht_v176 := (hX.2.1 _ hb_v176).1.trans ht_v176
                          have hb_v176 := Nat.lt_of_lt_of_le hb_v176 hX.1
                          have hb0_v176 := hb_v176
                          have ht_v180 := (hX.2.1 _ hb_v180).1.trans ht_v180
                          have hb_v180 := Nat.lt_of_lt_of_le hb_v180 hX.1
                          have hb0_v180 := hb_v180
                          have ht_v186 := (hX.2.1 _ hb_v186).1.trans ht_v186
                          have hb_v186 := Nat.lt_of_lt_of_le hb_v186 hX.1
                          have hb0_v186 := hb_v186
                          have ht_v188 := (hX.2.1 _ hb_v188).1.trans ht_v188
                          have hb_v188 := Nat.lt_of_lt_of_le hb_v188 hX.1
                          have hb0_v188 := hb_v188
                          have hn := Nat.le_refl n
                          have h94 := hS0.1
                          have hX := @yX.rf n tg I189 R
                          have hS := hS0.x hX
                          have hR := hR0.x hn hX
                          have hz := hX.sz h94
                          have hxn := hX.1
                          have hN := hR0.1
                          have hnb := hR0.2.2.2.2.2.2
                          have hthB := hth
                          refine y_aload_n rfl rfl ?_
                          refine y_getR rfl (ySh.t hS rfl) (ySh.n hS rfl) rfl rfl (ySh.r hS rfl) ?_
                          refine y_iload rfl rfl ?_
                          refine y_dup2 rfl rfl rfl ?_
                          refine y_ialoadw (j := 8) (J := I 84) rfl (ySh.t hS rfl) (ySh.n hS rfl) (by decide) (by decide) rfl (((hB.trans hX).n (by omega)).trans (by repeat (first | rfl | (rw [upd2_row (by first | decide | omega)]) | refine upd2_cg ?_))) ?_
                          refine y_iload rfl rfl ?_
                          refine y_iadd rfl ?_
                          refine y_iastoreC (j := 8) rfl (ySh.t hS rfl) (ySh.n hS rfl) (Nat.le_of_ble_eq_true rfl) (by decide) (by decide) rfl ?_
                          refine y_nameI (fun I190 e190 => ?_)
                          have hR1 := (hR0.grow hX).arr e190 (by decide)
                          have hK := (hK.x hRo hno hX).upI (upI e190) (by decide) (by decide) (fun i hi => by have := (hRo.l87.2.2.2.2 i hi).2.1; omega) (by rw [e190, upd2_ne (.inl (by omega))]; exact Int.le_refl _)
                          have hth := (show I190 83 0 = I189 83 0 by rw [e190, upd2_ne (.inl (by omega))]).trans hth
                          have hzz : ySz I189 I190 := ySz_ofE (upI e190) (by omega)
                          have hB := (hB.trans hX).wr e190 rfl
                          have h3k : ∀ k, k ≠ 0 → I190 83 k = I 83 k := fun k hk => (congrFun (congrFun e190 83) k).trans ((upd2_ne (.inl (by omega))).trans ((congrFun (hX.2.1 83 (by omega)).2.1 k).trans (h3k k hk)))
                          have hg := (hg.gx hX (by omega)).skip e190 (by decide)
                          have hday : I190 83 1 = I 83 1 := (congrFun (congrFun e190 83) 1).trans ((upd2_ne (.inl (by omega))).trans ((congrFun (hX.2.1 83 (by omega)).2.1 1).trans hday))
                          have hRb : ∀ a, a < n → R a = R a := fun a ha => (hX.2.1 a (by omega)).2.2.trans (hRb a ha)
                          have hS0 := hS
                          have hR0 := hR1
                          have ht_b121 := (hX.2.1 _ hb_b121).1.trans ht_b121
                          have hb_b121 := Nat.lt_of_lt_of_le hb_b121 hX.1
                          have hb0_b121 := hb_b121
                          have ht_v172 := (hX.2.1 _ hb_v172).1.trans ht_v172
                          have hb_v172 := Nat.lt_of_lt_of_le hb_v172 hX.1
                          have hb0_v172 := hb_v172
                          have ht_v176 := (hX.2.1 _ hb_v176).1.trans ht_v176
                          have hb_v176 := Nat.lt_of_lt_of_le hb_v176 hX.1
                          have hb0_v176 := hb_v176
                          have ht_v180 := (hX.2.1 _ hb_v180).1.trans ht_v180
                          have hb_v180 := Nat.lt_of_lt_of_le hb_v180 hX.1
                          have hb0_v180 := hb_v180
                          have ht_v186 := (hX.2.1 _ hb_v186).1.trans ht_v186
                          have hb_v186 := Nat.lt_of_lt_of_le hb_v186 hX.1
                          have hb0_v186 := hb_v186
                          have ht_v188 := (hX.2.1 _ hb_v188).1.trans ht_v188
                          have hb_v188 := Nat.lt_of_lt_of_le hb_v188 hX.1
                          have hb0_v188 := hb_v188
                          have hn := Nat.le_refl n
                          have h94 := hS0.1
                          have hX := @yX.rf n tg I190 R
                          have hS := hS0.x hX
                          have hR := hR0.x hn hX
                          have hz := hX.sz h94
                          have hxn := hX.1
                          have hN := hR0.1
                          have hnb := hR0.2.2.2.2.2.2
                          have hthB := hth
                          refine y_aload_n rfl rfl ?_
                          refine y_getR rfl (ySh.t hS rfl) (ySh.n hS rfl) rfl rfl (ySh.r hS rfl) ?_
                          refine y_iload rfl rfl ?_
                          refine y_dup2 rfl rfl rfl ?_
                          refine y_ialoadv (J := _) rfl (ySh.t hS rfl) (ySh.n hS rfl) (by omega) (by omega) ((hB.trans hX).n (by omega)) ?_
                          refine y_iload rfl rfl ?_
                          refine y_isub rfl ?_
                          refine y_iastore rfl (ySh.t hS rfl) (ySh.n hS rfl) (Nat.le_of_ble_eq_true rfl) (by omega) (by omega) ?_
                          refine y_nameI (fun I191 e191 => ?_)
                          have hR1 := (hR0.grow hX).arr e191 (by decide)
                          have hK := (hK.x hRo hno hX).upI (upI e191) (by decide) (by decide) (fun i hi => by have := (hRo.l87.2.2.2.2 i hi).2.1; omega) (by rw [e191, upd2_ne (.inl (by omega))]; exact Int.le_refl _)
                          have hth := (show I191 83 0 = I190 83 0 by rw [e191, upd2_ne (.inl (by omega))]).trans hth
                          have hzz : ySz I190 I191 := ySz_ofE (upI e191) (by omega)
                          have hB := (hB.trans hX).wr e191 rfl
                          have h3k : ∀ k, k ≠ 0 → I191 83 k = I 83 k := fun k hk => (congrFun (congrFun e191 83) k).trans ((upd2_ne (.inl (by omega))).trans ((congrFun (hX.2.1 83 (by omega)).2.1 k).trans (h3k k hk)))
                          have hg := (hg.gx hX (by omega)).skip e191 (by decide)
                          have hday : I191 83 1 = I 83 1 := (congrFun (congrFun e191 83) 1).trans ((upd2_ne (.inl (by omega))).trans ((congrFun (hX.2.1 83 (by omega)).2.1 1).trans hday))
                          have hRb : ∀ a, a < n → R a = R a := fun a ha => (hX.2.1 a (by omega)).2.2.trans (hRb a ha)
                          have hS0 := hS
                          have hR0 := hR1
                          have ht_b121 := (hX.2.1 _ hb_b121).1.trans ht_b121
                          have hb_b121 := Nat.lt_of_lt_of_le hb_b121 hX.1
                          have hb0_b121 := hb_b121
                          have ht_v172 := (hX.2.1 _ hb_v172).1.trans ht_v172
                          have hb_v172 := Nat.lt_of_lt_of_le hb_v172 hX.1
                          have hb0_v172 := hb_v172
                          have ht_v176 := (hX.2.1 _ hb_v176).1.trans ht_v176
                          have hb_v176 := Nat.lt_of_lt_of_le hb_v176 hX.1
                          have hb0_v176 := hb_v176
                          have ht_v180 := (hX.2.1 _ hb_v180).1.trans ht_v180
                          have hb_v180 := Nat.lt_of_lt_of_le hb_v180 hX.1
                          have hb0_v180 := hb_v180
                          have ht_v186 := (hX.2.1 _ hb_v186).1.trans ht_v186
                          have hb_v186 := Nat.lt_of_lt_of_le hb_v186 hX.1
                          have hb0_v186 := hb_v186
                          have ht_v188 := (hX.2.1 _ hb_v188).1.trans ht_v188
                          have hb_v188 := Nat.lt_of_lt_of_le hb_v188 hX.1
                          have hb0_v188 := hb_v188
                          have hn := Nat.le_refl n
                          have h94 := hS0.1
                          have hX := @yX.rf n tg I191 R
                          have hS := hS0.x hX
                          have hR := hR0.x hn hX
                          have hz := hX.sz h94
                          have hxn := hX.1
                          have hN := hR0.1
                          have hnb := hR0.2.2.2.2.2.2
                          have hthB := hth
                          refine y_aload rfl rfl ?_
                          obtain ⟨hR_v192, hb_v192, ht_v192⟩ := hR0.ven hlo_b121 hb0_b121 ht_b121 (j := 1) (by decide)
                          have hb0_v192 := hb_v192
                          have hb_v192 := Nat.lt_of_lt_of_le hb_v192 hn
                          have hlo_v192 : 94 ≤ b121 + 1 + 1 := by omega
                          have hR2_v192 := (congrFun (hX.2.1 b121 hb_b121).2.2 1).trans hR_v192
                          refine y_getR rfl ((hX.2.1 _ hb_b121).1.trans ht_b121) (Nat.lt_of_lt_of_le hb_b121 hX.1) rfl rfl hR2_v192 ?_
                          refine y_iload rfl rfl ?_
                          refine y_ialoadw (j := 8) (J := _) rfl ((hX.2.1 _ hb_v192).1.trans ht_v192) (Nat.lt_of_lt_of_le hb_v192 hX.1) (by decide) (by decide) rfl ((hB.trans hX).n (by omega)) ?_
                          refine y_ireturn rfl rfl rfl ?_
                          exact hQ0 _ eb_b121 (by first | omega | (simp only [show ySeat x2 = x2 from if_neg (by omega), show ySeat x3 = x3 from if_neg (by omega)]; omega) | (simp only [show ySeat x2 = x2 from if_neg (by omega), show ySeat x3 = Int32.ofInt 8 from if_pos (by omega), show (Int32.ofInt 8).toInt.toNat = 8 from by decide]; omega) | (simp only [show ySeat x2 = Int32.ofInt 8 from if_pos (by omega), show ySeat x3 = x3 from if_neg (by omega), show (Int32.ofInt 8).toInt.toNat = 8 from by decide]; omega) | (simp only [show ySeat x2 = Int32.ofInt 8 from if_pos (by omega), show ySeat x3 = Int32.ofInt 8 from if_pos (by omega), show (Int32.ofInt 8).toInt.toNat = 8 from by decide]; omega)) _ _ _ _ _ _ _ hS ((hR0.grow hX).up (Nat.le_succ K) hk6) (hK.x hRo hno hX) hth (by first | exact (congrFun ((hB.trans hX).n (by omega)) _).symm | (simp only [show ySeat x2 = x2 from if_neg (by omega), show ySeat x3 = x3 from if_neg (by omega)]; exact (congrFun ((hB.trans hX).n (by omega)) _).symm) | (simp only [show ySeat x2 = x2 from if_neg (by omega), show ySeat x3 = Int32.ofInt 8 from if_pos (by omega), show (Int32.ofInt 8).toInt.toNat = 8 from by decide]; exact (congrFun ((hB.trans hX).n (by omega)) _).symm) | (simp only [show ySeat x2 = Int32.ofInt 8 from if_pos (by omega), show ySeat x3 = x3 from if_neg (by omega), show (Int32.ofInt 8).toInt.toNat = 8 from by decide]; exact (congrFun ((hB.trans hX).n (by omega)) _).symm) | (simp only [show ySeat x2 = Int32.ofInt 8 from if_pos (by omega), show ySeat x3 = Int32.ofInt 8 from if_pos (by omega), show (Int32.ofInt 8).toInt.toNat = 8 from by decide]; exact (congrFun ((hB.trans hX).n (by omega)) _).symm)) (by first | (exact hB.trans hX) | (simp only [show ySeat x2 = x2 from if_neg (by omega), show ySeat x3 = x3 from if_neg (by omega)]; exact hB.trans hX) | (simp only [show ySeat x2 = x2 from if_neg (by omega), show ySeat x3 = Int32.ofInt 8 from if_pos (by omega), show (Int32.ofInt 8).toInt.toNat = 8 from by decide]; exact hB.trans hX) | (simp only [show ySeat x2 = Int32.ofInt 8 from if_pos (by omega), show ySeat x3 = x3 from if_neg (by omega), show (Int32.ofInt 8).toInt.toNat = 8 from by decide]; exact hB.trans hX) | (simp only [show ySeat x2 = Int32.ofInt 8 from if_pos (by omega), show ySeat x3 = Int32.ofInt 8 from if_pos (by omega), show (Int32.ofInt 8).toInt.toNat = 8 from by decide]; exact hB.trans hX)) (by omega) (by omega)
                        · refine y_iconst rfl ?_
                          refine y_goto rfl j_X14_buyOut_147 ?_
                          refine y_iconst rfl ?_
                          refine y_virt rfl rfl rfl rfl rfl (ySh.t hS rfl) (ySh.n hS rfl) ?_
                          refine y_in (M := xm_X14_refuse) (ls := [some _, some _, some _]) rfl rfl rfl ?_
                          refine y_iload_n rfl rfl ?_
                          refine y_if_eqF rfl (by decide) ?_
                          refine y_aload_n rfl rfl ?_
                          refine y_getIv (v := Int32.ofInt (0)) rfl (ySh.t hS rfl) (ySh.n hS rfl) rfl rfl hth ?_
                          refine y_if_neF rfl (by decide) ?_
                          refine y_aload_n rfl rfl ?_
                          refine y_iload_n rfl rfl ?_
                          refine y_putI rfl (ySh.t hS rfl) (ySh.n hS rfl) rfl (Nat.le_of_ble_eq_true rfl) rfl rfl ?_
                          refine y_nameI (fun I193 e193 => ?_)
                          have hR1 := (hR0.grow hX).mod0 e193 (by decide) (by decide)
                          have hK := (hK.x hRo hno hX).upI (upI e193) (by decide) (by decide) (fun i hi => by have := (hRo.l87.2.2.2.2 i hi).2.1; omega) (by rw [e193, upd2_ne (.inr (by decide))]; exact Int.le_refl _)
                          have hth : I193 83 0 = Int32.ofInt (3) := by rw [e193, upd2_self]
                          have hzz : ySz8 I114 I193 := ySz8_of (upI e193) (by rw [e193]; exact ⟨upd2_ne (.inr (by decide)), upd2_ne (.inr (by decide))⟩)
                          have hB := (hB.trans hX).wr e193 rfl
                          have h8 : ∀ a, 84 ≤ a → a ≤ 86 → I193 a = I a := fun a h1 h2 => (upI e193 a (by omega)).trans ((hX.2.1 a (by omega)).2.1.trans (h8 a h1 h2))
                          have h3k : ∀ k, k ≠ 0 → I193 83 k = I 83 k := fun k hk => (congrFun (congrFun e193 83) k).trans ((upd2_ne (.inr hk)).trans ((congrFun (hX.2.1 83 (by omega)).2.1 k).trans (h3k k hk)))
                          have hg := (hg.gx hX (by omega)).skip e193 (by decide)
                          have hday : I193 83 1 = I 83 1 := (congrFun (congrFun e193 83) 1).trans ((upd2_ne (.inr (by decide))).trans ((congrFun (hX.2.1 83 (by omega)).2.1 1).trans hday))
                          have hRb : ∀ a, a < n → R a = R a := fun a ha => (hX.2.1 a (by omega)).2.2.trans (hRb a ha)
                          have hb83 : ∀ a, a ≠ 83 → a < n → I193 a = I a := fun a ha hb => (upI e193 a ha).trans ((hX.2.1 a (by omega)).2.1.trans (hb83 a ha hb))
                          have hS0 := hS
                          have hR0 := hR1
                          have ht_b121 := (hX.2.1 _ hb_b121).1.trans ht_b121
                          have hb_b121 := Nat.lt_of_lt_of_le hb_b121 hX.1
                          have hb0_b121 := hb_b121
                          have ht_v172 := (hX.2.1 _ hb_v172).1.trans ht_v172
                          have hb_v172 := Nat.lt_of_lt_of_le hb_v172 hX.1
                          have hb0_v172 := hb_v172
                          have ht_v176 := (hX.2.1 _ hb_v176).1.trans ht_v176
                          have hb_v176 := Nat.lt_of_lt_of_le hb_v176 hX.1
                          have hb0_v176 := hb_v176
                          have ht_v180 := (hX.2.1 _ hb_v180).1.trans ht_v180
                          have hb_v180 := Nat.lt_of_lt_of_le hb_v180 hX.1
                          have hb0_v180 := hb_v180
                          have hn := Nat.le_refl n
                          have h94 := hS0.1
                          have hX := @yX.rf n tg I193 R
                          have hS := hS0.x hX
                          have hR := hR0.x hn hX
                          have hz := hX.sz h94
                          have hxn := hX.1
                          have hN := hR0.1
                          have hnb := hR0.2.2.2.2.2.2
                          have hthB := hth
                          refine y_aload_n rfl rfl ?_
                          refine y_getIv (v := Int32.ofInt (3)) rfl (ySh.t hS rfl) (ySh.n hS rfl) rfl rfl hth ?_
                          refine y_if_leF rfl (by decide) ?_
                          refine y_iconst rfl ?_
                          refine y_goto rfl j_X14_refuse_28 ?_
                          refine y_ireturn rfl rfl rfl ?_
                          refine y_ret1 ?_
                          refine y_if_eqF rfl (by decide) ?_
                          refine y_iconst rfl ?_
                          refine y_ireturn rfl rfl rfl ?_
                          exact hQ3 _ eb_b121 (by first | omega | (simp only [show ySeat x2 = x2 from if_neg (by omega), show ySeat x3 = x3 from if_neg (by omega)]; omega) | (simp only [show ySeat x2 = x2 from if_neg (by omega), show ySeat x3 = Int32.ofInt 8 from if_pos (by omega), show (Int32.ofInt 8).toInt.toNat = 8 from by decide]; omega) | (simp only [show ySeat x2 = Int32.ofInt 8 from if_pos (by omega), show ySeat x3 = x3 from if_neg (by omega), show (Int32.ofInt 8).toInt.toNat = 8 from by decide]; omega) | (simp only [show ySeat x2 = Int32.ofInt 8 from if_pos (by omega), show ySeat x3 = Int32.ofInt 8 from if_pos (by omega), show (Int32.ofInt 8).toInt.toNat = 8 from by decide]; omega)) _ _ _ _ _ _ _ hS ((hR0.grow hX).up (Nat.le_succ K) hk6) (hK.x hRo hno hX) hth ((hB.trans hX).rf2 (by omega)) (by omega) (by omega)
                · rw [yz_m1] at h_171
                  refine y_bip rfl (by decide) ?_
                  refine y_goto rfl j_X14_seat_11 ?_
                  refine y_ireturn rfl rfl rfl ?_
                  refine y_ret1 ?_
                  refine y_istore (ls' := [some _, some _, some _, some _, some _, some _, some _, some _]) rfl rfl rfl ?_
                  refine y_aload_n rfl rfl ?_
                  refine y_aload rfl rfl ?_
                  obtain ⟨hR_v194, hb_v194, ht_v194⟩ := hR0.ven hlo_b121 hb0_b121 ht_b121 (j := 0) (by decide)
                  have hb0_v194 := hb_v194
                  have hb_v194 := Nat.lt_of_lt_of_le hb_v194 hn
                  have hlo_v194 : 94 ≤ b121 + 1 + 0 := by omega
                  have hR2_v194 := (congrFun (hX.2.1 b121 hb_b121).2.2 0).trans hR_v194
                  refine y_getR rfl ((hX.2.1 _ hb_b121).1.trans ht_b121) (Nat.lt_of_lt_of_le hb_b121 hX.1) rfl rfl hR2_v194 ?_
                  refine y_iload rfl rfl ?_
                  refine y_baloadw (j := 8) (J := I (b121 + 1 + 0)) rfl ((hX.2.1 _ hb_v194).1.trans ht_v194) rfl (Nat.lt_of_lt_of_le hb_v194 hX.1) (by decide) (by decide) rfl (((hB.trans hX).n (by omega)).trans (by repeat (first | rfl | (rw [upd2_row (by first | decide | omega)]) | refine upd2_cg ?_))) ?_
                  refine y_if_eq rfl j_X14_buyOut_142 (fun h_195 => ?_) (fun h_196 => ?_)
                  · refine y_iconst rfl ?_
                    refine y_goto rfl j_X14_buyOut_147 ?_
                    refine y_iconst rfl ?_
                    refine y_virt rfl rfl rfl rfl rfl (ySh.t hS rfl) (ySh.n hS rfl) ?_
                    refine y_in (M := xm_X14_refuse) (ls := [some _, some _, some _]) rfl rfl rfl ?_
                    refine y_iload_n rfl rfl ?_
                    refine y_if_eqF rfl (by decide) ?_
                    refine y_aload_n rfl rfl ?_
                    refine y_getIv (v := Int32.ofInt (0)) rfl (ySh.t hS rfl) (ySh.n hS rfl) rfl rfl hth ?_
                    refine y_if_neF rfl (by decide) ?_
                    refine y_aload_n rfl rfl ?_
                    refine y_iload_n rfl rfl ?_
                    refine y_putI rfl (ySh.t hS rfl) (ySh.n hS rfl) rfl (Nat.le_of_ble_eq_true rfl) rfl rfl ?_
                    refine y_nameI (fun I197 e197 => ?_)
                    have hR1 := (hR0.grow hX).mod0 e197 (by decide) (by decide)
                    have hK := (hK.x hRo hno hX).upI (upI e197) (by decide) (by decide) (fun i hi => by have := (hRo.l87.2.2.2.2 i hi).2.1; omega) (by rw [e197, upd2_ne (.inr (by decide))]; exact Int.le_refl _)
                    have hth : I197 83 0 = Int32.ofInt (3) := by rw [e197, upd2_self]
                    have hzz : ySz8 I114 I197 := ySz8_of (upI e197) (by rw [e197]; exact ⟨upd2_ne (.inr (by decide)), upd2_ne (.inr (by decide))⟩)
                    have hB := (hB.trans hX).wr e197 rfl
                    have h8 : ∀ a, 84 ≤ a → a ≤ 86 → I197 a = I a := fun a h1 h2 => (upI e197 a (by omega)).trans ((hX.2.1 a (by omega)).2.1.trans (h8 a h1 h2))
                    have h3k : ∀ k, k ≠ 0 → I197 83 k = I 83 k := fun k hk => (congrFun (congrFun e197 83) k).trans ((upd2_ne (.inr hk)).trans ((congrFun (hX.2.1 83 (by omega)).2.1 k).trans (h3k k hk)))
                    have hg := (hg.gx hX (by omega)).skip e197 (by decide)
                    have hday : I197 83 1 = I 83 1 := (congrFun (congrFun e197 83) 1).trans ((upd2_ne (.inr (by decide))).trans ((congrFun (hX.2.1 83 (by omega)).2.1 1).trans hday))
                    have hRb : ∀ a, a < n → R a = R a := fun a ha => (hX.2.1 a (by omega)).2.2.trans (hRb a ha)
                    have hb83 : ∀ a, a ≠ 83 → a < n → I197 a = I a := fun a ha hb => (upI e197 a ha).trans ((hX.2.1 a (by omega)).2.1.trans (hb83 a ha hb))
                    have hS0 := hS
                    have hR0 := hR1
                    have ht_b121 := (hX.2.1 _ hb_b121).1.trans ht_b121
                    have hb_b121 := Nat.lt_of_lt_of_le hb_b121 hX.1
                    have hb0_b121 := hb_b121
                    have ht_v194 := (hX.2.1 _ hb_v194).1.trans ht_v194
                    have hb_v194 := Nat.lt_of_lt_of_le hb_v194 hX.1
                    have hb0_v194 := hb_v194
                    have hn := Nat.le_refl n
                    have h94 := hS0.1
                    have hX := @yX.rf n tg I197 R
                    have hS := hS0.x hX
                    have hR := hR0.x hn hX
                    have hz := hX.sz h94
                    have hxn := hX.1
                    have hN := hR0.1
                    have hnb := hR0.2.2.2.2.2.2
                    have hthB := hth
                    refine y_aload_n rfl rfl ?_
                    refine y_getIv (v := Int32.ofInt (3)) rfl (ySh.t hS rfl) (ySh.n hS rfl) rfl rfl hth ?_
                    refine y_if_leF rfl (by decide) ?_
                    refine y_iconst rfl ?_
                    refine y_goto rfl j_X14_refuse_28 ?_
                    refine y_ireturn rfl rfl rfl ?_
                    refine y_ret1 ?_
                    refine y_if_eqF rfl (by decide) ?_
                    refine y_iconst rfl ?_
                    refine y_ireturn rfl rfl rfl ?_
                    exact hQ3 _ eb_b121 (by first | omega | (simp only [show ySeat x2 = x2 from if_neg (by omega), show ySeat x3 = x3 from if_neg (by omega)]; omega) | (simp only [show ySeat x2 = x2 from if_neg (by omega), show ySeat x3 = Int32.ofInt 8 from if_pos (by omega), show (Int32.ofInt 8).toInt.toNat = 8 from by decide]; omega) | (simp only [show ySeat x2 = Int32.ofInt 8 from if_pos (by omega), show ySeat x3 = x3 from if_neg (by omega), show (Int32.ofInt 8).toInt.toNat = 8 from by decide]; omega) | (simp only [show ySeat x2 = Int32.ofInt 8 from if_pos (by omega), show ySeat x3 = Int32.ofInt 8 from if_pos (by omega), show (Int32.ofInt 8).toInt.toNat = 8 from by decide]; omega)) _ _ _ _ _ _ _ hS ((hR0.grow hX).up (Nat.le_succ K) hk6) (hK.x hRo hno hX) hth ((hB.trans hX).rf2 (by omega)) (by omega) (by omega)
                  · refine y_aload rfl rfl ?_
                    obtain ⟨hR_v198, hb_v198, ht_v198⟩ := hR0.ven hlo_b121 hb0_b121 ht_b121 (j := 0) (by decide)
                    have hb0_v198 := hb_v198
                    have hb_v198 := Nat.lt_of_lt_of_le hb_v198 hn
                    have hlo_v198 : 94 ≤ b121 + 1 + 0 := by omega
                    have hR2_v198 := (congrFun (hX.2.1 b121 hb_b121).2.2 0).trans hR_v198
                    refine y_getR rfl ((hX.2.1 _ hb_b121).1.trans ht_b121) (Nat.lt_of_lt_of_le hb_b121 hX.1) rfl rfl hR2_v198 ?_
                    refine y_iload rfl rfl ?_
                    refine y_baloadw (j := 8) (J := I (b121 + 1 + 0)) rfl ((hX.2.1 _ hb_v198).1.trans ht_v198) rfl (Nat.lt_of_lt_of_le hb_v198 hX.1) (by decide) (by decide) rfl (((hB.trans hX).n (by omega)).trans (by repeat (first | rfl | (rw [upd2_row (by first | decide | omega)]) | refine upd2_cg ?_))) ?_
                    refine y_if_eq rfl j_X14_buyOut_142 (fun h_199 => ?_) (fun h_200 => ?_)
                    · refine y_iconst rfl ?_
                      refine y_goto rfl j_X14_buyOut_147 ?_
                      refine y_iconst rfl ?_
                      refine y_virt rfl rfl rfl rfl rfl (ySh.t hS rfl) (ySh.n hS rfl) ?_
                      refine y_in (M := xm_X14_refuse) (ls := [some _, some _, some _]) rfl rfl rfl ?_
                      refine y_iload_n rfl rfl ?_
                      refine y_if_eqF rfl (by decide) ?_
                      refine y_aload_n rfl rfl ?_
                      refine y_getIv (v := Int32.ofInt (0)) rfl (ySh.t hS rfl) (ySh.n hS rfl) rfl rfl hth ?_
                      refine y_if_neF rfl (by decide) ?_
                      refine y_aload_n rfl rfl ?_
                      refine y_iload_n rfl rfl ?_
                      refine y_putI rfl (ySh.t hS rfl) (ySh.n hS rfl) rfl (Nat.le_of_ble_eq_true rfl) rfl rfl ?_
                      refine y_nameI (fun I201 e201 => ?_)
                      have hR1 := (hR0.grow hX).mod0 e201 (by decide) (by decide)
                      have hK := (hK.x hRo hno hX).upI (upI e201) (by decide) (by decide) (fun i hi => by have := (hRo.l87.2.2.2.2 i hi).2.1; omega) (by rw [e201, upd2_ne (.inr (by decide))]; exact Int.le_refl _)
                      have hth : I201 83 0 = Int32.ofInt (3) := by rw [e201, upd2_self]
                      have hzz : ySz8 I114 I201 := ySz8_of (upI e201) (by rw [e201]; exact ⟨upd2_ne (.inr (by decide)), upd2_ne (.inr (by decide))⟩)
                      have hB := (hB.trans hX).wr e201 rfl
                      have h8 : ∀ a, 84 ≤ a → a ≤ 86 → I201 a = I a := fun a h1 h2 => (upI e201 a (by omega)).trans ((hX.2.1 a (by omega)).2.1.trans (h8 a h1 h2))
                      have h3k : ∀ k, k ≠ 0 → I201 83 k = I 83 k := fun k hk => (congrFun (congrFun e201 83) k).trans ((upd2_ne (.inr hk)).trans ((congrFun (hX.2.1 83 (by omega)).2.1 k).trans (h3k k hk)))
                      have hg := (hg.gx hX (by omega)).skip e201 (by decide)
                      have hday : I201 83 1 = I 83 1 := (congrFun (congrFun e201 83) 1).trans ((upd2_ne (.inr (by decide))).trans ((congrFun (hX.2.1 83 (by omega)).2.1 1).trans hday))
                      have hRb : ∀ a, a < n → R a = R a := fun a ha => (hX.2.1 a (by omega)).2.2.trans (hRb a ha)
                      have hb83 : ∀ a, a ≠ 83 → a < n → I201 a = I a := fun a ha hb => (upI e201 a ha).trans ((hX.2.1 a (by omega)).2.1.trans (hb83 a ha hb))
                      have hS0 := hS
                      have hR0 := hR1
                      have ht_b121 := (hX.2.1 _ hb_b121).1.trans ht_b121
                      have hb_b121 := Nat.lt_of_lt_of_le hb_b121 hX.1
                      have hb0_b121 := hb_b121
                      have ht_v194 := (hX.2.1 _ hb_v194).1.trans ht_v194
                      have hb_v194 := Nat.lt_of_lt_of_le hb_v194 hX.1
                      have hb0_v194 := hb_v194
                      have ht_v198 := (hX.2.1 _ hb_v198).1.trans ht_v198
                      have hb_v198 := Nat.lt_of_lt_of_le hb_v198 hX.1
                      have hb0_v198 := hb_v198
                      have hn := Nat.le_refl n
                      have h94 := hS0.1
                      have hX := @yX.rf n tg I201 R
                      have hS := hS0.x hX
                      have hR := hR0.x hn hX
                      have hz := hX.sz h94
                      have hxn := hX.1
                      have hN := hR0.1
                      have hnb := hR0.2.2.2.2.2.2
                      have hthB := hth
                      refine y_aload_n rfl rfl ?_
                      refine y_getIv (v := Int32.ofInt (3)) rfl (ySh.t hS rfl) (ySh.n hS rfl) rfl rfl hth ?_
                      refine y_if_leF rfl (by decide) ?_
                      refine y_iconst rfl ?_
                      refine y_goto rfl j_X14_refuse_28 ?_
                      refine y_ireturn rfl rfl rfl ?_
                      refine y_ret1 ?_
                      refine y_if_eqF rfl (by decide) ?_
                      refine y_iconst rfl ?_
                      refine y_ireturn rfl rfl rfl ?_
                      exact hQ3 _ eb_b121 (by first | omega | (simp only [show ySeat x2 = x2 from if_neg (by omega), show ySeat x3 = x3 from if_neg (by omega)]; omega) | (simp only [show ySeat x2 = x2 from if_neg (by omega), show ySeat x3 = Int32.ofInt 8 from if_pos (by omega), show (Int32.ofInt 8).toInt.toNat = 8 from by decide]; omega) | (simp only [show ySeat x2 = Int32.ofInt 8 from if_pos (by omega), show ySeat x3 = x3 from if_neg (by omega), show (Int32.ofInt 8).toInt.toNat = 8 from by decide]; omega) | (simp only [show ySeat x2 = Int32.ofInt 8 from if_pos (by omega), show ySeat x3 = Int32.ofInt 8 from if_pos (by omega), show (Int32.ofInt 8).toInt.toNat = 8 from by decide]; omega)) _ _ _ _ _ _ _ hS ((hR0.grow hX).up (Nat.le_succ K) hk6) (hK.x hRo hno hX) hth ((hB.trans hX).rf2 (by omega)) (by omega) (by omega)
                    · refine y_aload rfl rfl ?_
                      obtain ⟨hR_v202, hb_v202, ht_v202⟩ := hR0.ven hlo_b121 hb0_b121 ht_b121 (j := 1) (by decide)
                      have hb0_v202 := hb_v202
                      have hb_v202 := Nat.lt_of_lt_of_le hb_v202 hn
                      have hlo_v202 : 94 ≤ b121 + 1 + 1 := by omega
                      have hR2_v202 := (congrFun (hX.2.1 b121 hb_b121).2.2 1).trans hR_v202
                      refine y_getR rfl ((hX.2.1 _ hb_b121).1.trans ht_b121) (Nat.lt_of_lt_of_le hb_b121 hX.1) rfl rfl hR2_v202 ?_
                      refine y_iload rfl rfl ?_
                      refine y_ialoadw (j := 8) (J := I (b121 + 1 + 1)) rfl ((hX.2.1 _ hb_v202).1.trans ht_v202) (Nat.lt_of_lt_of_le hb_v202 hX.1) (by decide) (by decide) rfl (((hB.trans hX).n (by omega)).trans (by repeat (first | rfl | (rw [upd2_row (by first | decide | omega)]) | refine upd2_cg ?_))) ?_
                      refine y_iload rfl rfl ?_
                      refine y_icmp_lt rfl j_X14_buyOut_142 (fun h_203 => ?_) (fun h_204 => ?_)
                      · refine y_iconst rfl ?_
                        refine y_goto rfl j_X14_buyOut_147 ?_
                        refine y_iconst rfl ?_
                        refine y_virt rfl rfl rfl rfl rfl (ySh.t hS rfl) (ySh.n hS rfl) ?_
                        refine y_in (M := xm_X14_refuse) (ls := [some _, some _, some _]) rfl rfl rfl ?_
                        refine y_iload_n rfl rfl ?_
                        refine y_if_eqF rfl (by decide) ?_
                        refine y_aload_n rfl rfl ?_
                        refine y_getIv (v := Int32.ofInt (0)) rfl (ySh.t hS rfl) (ySh.n hS rfl) rfl rfl hth ?_
                        refine y_if_neF rfl (by decide) ?_
                        refine y_aload_n rfl rfl ?_
                        refine y_iload_n rfl rfl ?_
                        refine y_putI rfl (ySh.t hS rfl) (ySh.n hS rfl) rfl (Nat.le_of_ble_eq_true rfl) rfl rfl ?_
                        refine y_nameI (fun I205 e205 => ?_)
                        have hR1 := (hR0.grow hX).mod0 e205 (by decide) (by decide)
                        have hK := (hK.x hRo hno hX).upI (upI e205) (by decide) (by decide) (fun i hi => by have := (hRo.l87.2.2.2.2 i hi).2.1; omega) (by rw [e205, upd2_ne (.inr (by decide))]; exact Int.le_refl _)
                        have hth : I205 83 0 = Int32.ofInt (3) := by rw [e205, upd2_self]
                        have hzz : ySz8 I114 I205 := ySz8_of (upI e205) (by rw [e205]; exact ⟨upd2_ne (.inr (by decide)), upd2_ne (.inr (by decide))⟩)
                        have hB := (hB.trans hX).wr e205 rfl
                        have h8 : ∀ a, 84 ≤ a → a ≤ 86 → I205 a = I a := fun a h1 h2 => (upI e205 a (by omega)).trans ((hX.2.1 a (by omega)).2.1.trans (h8 a h1 h2))
                        have h3k : ∀ k, k ≠ 0 → I205 83 k = I 83 k := fun k hk => (congrFun (congrFun e205 83) k).trans ((upd2_ne (.inr hk)).trans ((congrFun (hX.2.1 83 (by omega)).2.1 k).trans (h3k k hk)))
                        have hg := (hg.gx hX (by omega)).skip e205 (by decide)
                        have hday : I205 83 1 = I 83 1 := (congrFun (congrFun e205 83) 1).trans ((upd2_ne (.inr (by decide))).trans ((congrFun (hX.2.1 83 (by omega)).2.1 1).trans hday))
                        have hRb : ∀ a, a < n → R a = R a := fun a ha => (hX.2.1 a (by omega)).2.2.trans (hRb a ha)
                        have hb83 : ∀ a, a ≠ 83 → a < n → I205 a = I a := fun a ha hb => (upI e205 a ha).trans ((hX.2.1 a (by omega)).2.1.trans (hb83 a ha hb))
                        have hS0 := hS
                        have hR0 := hR1
                        have ht_b121 := (hX.2.1 _ hb_b121).1.trans ht_b121
                        have hb_b121 := Nat.lt_of_lt_of_le hb_b121 hX.1
                        have hb0_b121 := hb_b121
                        have ht_v194 := (hX.2.1 _ hb_v194).1.trans ht_v194
                        have hb_v194 := Nat.lt_of_lt_of_le hb_v194 hX.1
                        have hb0_v194 := hb_v194
                        have ht_v198 := (hX.2.1 _ hb_v198).1.trans ht_v198
                        have hb_v198 := Nat.lt_of_lt_of_le hb_v198 hX.1
                        have hb0_v198 := hb_v198
                        have ht_v202 := (hX.2.1 _ hb_v202).1.trans ht_v202
                        have hb_v202 := Nat.lt_of_lt_of_le hb_v202 hX.1
                        have hb0_v202 := hb_v202
                        have hn := Nat.le_refl n
                        have h94 := hS0.1
                        have hX := @yX.rf n tg I205 R
                        have hS := hS0.x hX
                        have hR := hR0.x hn hX
                        have hz := hX.sz h94
                        have hxn := hX.1
                        have hN := hR0.1
                        have hnb := hR0.2.2.2.2.2.2
                        have hthB := hth
                        refine y_aload_n rfl rfl ?_
                        refine y_getIv (v := Int32.ofInt (3)) rfl (ySh.t hS rfl) (ySh.n hS rfl) rfl rfl hth ?_
                        refine y_if_leF rfl (by decide) ?_
                        refine y_iconst rfl ?_
                        refine y_goto rfl j_X14_refuse_28 ?_
                        refine y_ireturn rfl rfl rfl ?_
                        refine y_ret1 ?_
                        refine y_if_eqF rfl (by decide) ?_
                        refine y_iconst rfl ?_
                        refine y_ireturn rfl rfl rfl ?_
                        exact hQ3 _ eb_b121 (by first | omega | (simp only [show ySeat x2 = x2 from if_neg (by omega), show ySeat x3 = x3 from if_neg (by omega)]; omega) | (simp only [show ySeat x2 = x2 from if_neg (by omega), show ySeat x3 = Int32.ofInt 8 from if_pos (by omega), show (Int32.ofInt 8).toInt.toNat = 8 from by decide]; omega) | (simp only [show ySeat x2 = Int32.ofInt 8 from if_pos (by omega), show ySeat x3 = x3 from if_neg (by omega), show (Int32.ofInt 8).toInt.toNat = 8 from by decide]; omega) | (simp only [show ySeat x2 = Int32.ofInt 8 from if_pos (by omega), show ySeat x3 = Int32.ofInt 8 from if_pos (by omega), show (Int32.ofInt 8).toInt.toNat = 8 from by decide]; omega)) _ _ _ _ _ _ _ hS ((hR0.grow hX).up (Nat.le_succ K) hk6) (hK.x hRo hno hX) hth ((hB.trans hX).rf2 (by omega)) (by omega) (by omega)
                      · refine y_aload_n rfl rfl ?_
                        refine y_getR rfl (ySh.t hS rfl) (ySh.n hS rfl) rfl rfl (ySh.r hS rfl) ?_
                        refine y_iload rfl rfl ?_
                        refine y_ialoadw (j := 8) (J := I 84) rfl (ySh.t hS rfl) (ySh.n hS rfl) (by decide) (by decide) rfl (((hB.trans hX).n (by omega)).trans (by repeat (first | rfl | (rw [upd2_row (by first | decide | omega)]) | refine upd2_cg ?_))) ?_
                        refine y_iload rfl rfl ?_
                        refine y_icmp_ge rfl j_X14_buyOut_146 (fun h_206 => ?_) (fun h_207 => ?_)
                        · refine y_iconst rfl ?_
                          refine y_iconst rfl ?_
                          refine y_virt rfl rfl rfl rfl rfl (ySh.t hS rfl) (ySh.n hS rfl) ?_
                          refine y_in (M := xm_X14_refuse) (ls := [some _, some _, some _]) rfl rfl rfl ?_
                          refine y_iload_n rfl rfl ?_
                          refine y_if_eqT rfl j_X14_refuse_16 (by decide) ?_
                          refine y_aload_n rfl rfl ?_
                          refine y_getIv (v := Int32.ofInt (0)) rfl (ySh.t hS rfl) (ySh.n hS rfl) rfl rfl hth ?_
                          refine y_if_leT rfl j_X14_refuse_27 (by decide) ?_
                          refine y_iconst rfl ?_
                          refine y_ireturn rfl rfl rfl ?_
                          refine y_ret1 ?_
                          refine y_if_eqT rfl j_X14_buyOut_156 (by decide) ?_
                          refine y_aload rfl rfl ?_
                          obtain ⟨hR_v208, hb_v208, ht_v208⟩ := hR0.ven hlo_b121 hb0_b121 ht_b121 (j := 1) (by decide)
                          have hb0_v208 := hb_v208
                          have hb_v208 := Nat.lt_of_lt_of_le hb_v208 hn
                          have hlo_v208 : 94 ≤ b121 + 1 + 1 := by omega
                          have hR2_v208 := (congrFun (hX.2.1 b121 hb_b121).2.2 1).trans hR_v208
                          refine y_getR rfl ((hX.2.1 _ hb_b121).1.trans ht_b121) (Nat.lt_of_lt_of_le hb_b121 hX.1) rfl rfl hR2_v208 ?_
                          refine y_iload rfl rfl ?_
                          refine y_dup2 rfl rfl rfl ?_
                          refine y_ialoadw (j := 8) (J := I (b121 + 1 + 1)) rfl ((hX.2.1 _ hb_v208).1.trans ht_v208) (Nat.lt_of_lt_of_le hb_v208 hX.1) (by decide) (by decide) rfl (((hB.trans hX).n (by omega)).trans (by repeat (first | rfl | (rw [upd2_row (by first | decide | omega)]) | refine upd2_cg ?_))) ?_
                          refine y_iload rfl rfl ?_
                          refine y_isub rfl ?_
                          refine y_iastoreC (j := 8) rfl ((hX.2.1 _ hb_v208).1.trans ht_v208) (Nat.lt_of_lt_of_le hb_v208 hX.1) (Nat.le_trans (by decide) (by omega : 94 ≤ _)) (by decide) (by decide) rfl ?_
                          refine y_nameI (fun I209 e209 => ?_)
                          have hB1 := (hR0.grow hX).capB1x hlo_b121 (by omega) ((hX.2.1 _ hb_b121).1.trans ht_b121) (by omega) e209 (by rw [show I114 (b121 + 1 + 1) = I (b121 + 1 + 1) from ((hB.trans hX).n (by omega)).trans (by repeat (first | rfl | (rw [upd2_row (by first | decide | omega)]) | refine upd2_cg ?_))]) ⟨by omega, by rw [show I114 (b121 + 1 + 1) = I (b121 + 1 + 1) from ((hB.trans hX).n (by omega)).trans (by repeat (first | rfl | (rw [upd2_row (by first | decide | omega)]) | refine upd2_cg ?_))]; omega⟩
                          have hR1 := hB1.1
                          have hK := (hK.x hRo hno hX).upE hRo hno (upI e209) (by omega) (by omega) (by rw [((hX.2.1 _ hb_v208).1.trans ht_v208)]; decide) (by rw [e209, upd2_ne (.inl (by omega))]; exact Int.le_refl _)
                          have hth := (show I209 83 0 = I114 83 0 by rw [e209, upd2_ne (.inl (by omega))]).trans hth
                          have hzz : ySz I114 I209 := ySz_ofE (upI e209) (by omega)
                          have hB := (hB.trans hX).wr e209 rfl
                          have h8 : ∀ a, 84 ≤ a → a ≤ 86 → I209 a = I a := fun a h1 h2 => (upI e209 a (by omega)).trans ((hX.2.1 a (by omega)).2.1.trans (h8 a h1 h2))
                          have h3k : ∀ k, k ≠ 0 → I209 83 k = I 83 k := fun k hk => (congrFun (congrFun e209 83) k).trans ((upd2_ne (.inl (by omega))).trans ((congrFun (hX.2.1 83 (by omega)).2.1 k).trans (h3k k hk)))
                          have hg := (hg.gx hX (by omega)).both e209
                          have hday : I209 83 1 = I 83 1 := (congrFun (congrFun e209 83) 1).trans ((upd2_ne (.inl (by omega))).trans ((congrFun (hX.2.1 83 (by omega)).2.1 1).trans hday))
                          have hRb : ∀ a, a < n → R a = R a := fun a ha => (hX.2.1 a (by omega)).2.2.trans (hRb a ha)
                          have hS0 := hS
                          have hR0 := hR1
                          have ht_b121 := (hX.2.1 _ hb_b121).1.trans ht_b121
                          have hb_b121 := Nat.lt_of_lt_of_le hb_b121 hX.1
                          have hb0_b121 := hb_b121
                          have ht_v194 := (hX.2.1 _ hb_v194).1.trans ht_v194
                          have hb_v194 := Nat.lt_of_lt_of_le hb_v194 hX.1
                          have hb0_v194 := hb_v194
                          have ht_v198 := (hX.2.1 _ hb_v198).1.trans ht_v198
                          have hb_v198 := Nat.lt_of_lt_of_le hb_v198 hX.1
                          have hb0_v198 := hb_v198
                          have ht_v202 := (hX.2.1 _ hb_v202).1.trans ht_v202
                          have hb_v202 := Nat.lt_of_lt_of_le hb_v202 hX.1
                          have hb0_v202 := hb_v202
                          have ht_v208 := (hX.2.1 _ hb_v208).1.trans ht_v208
                          have hb_v208 := Nat.lt_of_lt_of_le hb_v208 hX.1
                          have hb0_v208 := hb_v208
                          have hn := Nat.le_refl n
                          have h94 := hS0.1
                          have hX := @yX.rf n tg I209 R
                          have hS := hS0.x hX
                          have hR := hR0.x hn hX
                          have hz := hX.sz h94
                          have hxn := hX.1
                          have hN := hR0.1
                          have hnb := hR0.2.2.2.2.2.2
                          have hthB := hth
                          refine y_aload rfl rfl ?_
                          obtain ⟨hR_v210, hb_v210, ht_v210⟩ := hR0.ven hlo_b121 hb0_b121 ht_b121 (j := 1) (by decide)
                          have hb0_v210 := hb_v210
                          have hb_v210 := Nat.lt_of_lt_of_le hb_v210 hn
                          have hlo_v210 : 94 ≤ b121 + 1 + 1 := by omega
                          have hR2_v210 := (congrFun (hX.2.1 b121 hb_b121).2.2 1).trans hR_v210
                          refine y_getR rfl ((hX.2.1 _ hb_b121).1.trans ht_b121) (Nat.lt_of_lt_of_le hb_b121 hX.1) rfl rfl hR2_v210 ?_
                          refine y_iload rfl rfl ?_
                          refine y_dup2 rfl rfl rfl ?_
                          refine y_ialoadw (j := 8) (J := _) rfl ((hX.2.1 _ hb_v210).1.trans ht_v210) (Nat.lt_of_lt_of_le hb_v210 hX.1) (by decide) (by decide) rfl ((hB.trans hX).n (by omega)) ?_
                          refine y_iload rfl rfl ?_
                          refine y_iadd rfl ?_
                          refine y_iastoreC (j := 8) rfl ((hX.2.1 _ hb_v210).1.trans ht_v210) (Nat.lt_of_lt_of_le hb_v210 hX.1) (Nat.le_trans (by decide) (by omega : 94 ≤ _)) (by decide) (by decide) rfl ?_
                          refine y_nameI (fun I211 e211 => ?_)
                          have hR1 := (hR0.grow hX).capB2x hlo_b121 (by omega) ((hX.2.1 _ hb_b121).1.trans ht_b121) (by omega) (by omega) hB1.2.1 e211 (by rw [show I209 (b121 + 1 + 1) = _ from ((hB.trans hX).n (by omega))])
                          have hK := (hK.x hRo hno hX).upE hRo hno (upI e211) (by omega) (by omega) (by rw [((hX.2.1 _ hb_v210).1.trans ht_v210)]; decide) (by rw [e211, upd2_ne (.inl (by omega))]; exact Int.le_refl _)
                          have hth := (show I211 83 0 = I209 83 0 by rw [e211, upd2_ne (.inl (by omega))]).trans hth
                          have hzz : ySz I209 I211 := ySz_ofE (upI e211) (by omega)
                          have hB := (hB.trans hX).wr e211 rfl
                          have h8 : ∀ a, 84 ≤ a → a ≤ 86 → I211 a = I a := fun a h1 h2 => (upI e211 a (by omega)).trans ((hX.2.1 a (by omega)).2.1.trans (h8 a h1 h2))
                          have h3k : ∀ k, k ≠ 0 → I211 83 k = I 83 k := fun k hk => (congrFun (congrFun e211 83) k).trans ((upd2_ne (.inl (by omega))).trans ((congrFun (hX.2.1 83 (by omega)).2.1 k).trans (h3k k hk)))
                          have hg := (hg.gx hX (by omega)).both e211
                          have hday : I211 83 1 = I 83 1 := (congrFun (congrFun e211 83) 1).trans ((upd2_ne (.inl (by omega))).trans ((congrFun (hX.2.1 83 (by omega)).2.1 1).trans hday))
                          have hRb : ∀ a, a < n → R a = R a := fun a ha => (hX.2.1 a (by omega)).2.2.trans (hRb a ha)
                          have hS0 := hS
                          have hR0 := hR1
                          have ht_b121 := (hX.2.1 _ hb_b121).1.trans ht_b121
                          have hb_b121 := Nat.lt_of_lt_of_le hb_b121 hX.1
                          have hb0_b121 := hb_b121
                          have ht_v194 := (hX.2.1 _ hb_v194).1.trans ht_v194
                          have hb_v194 := Nat.lt_of_lt_of_le hb_v194 hX.1
                          have hb0_v194 := hb_v194
                          have ht_v198 := (hX.2.1 _ hb_v198).1.trans ht_v198
                          have hb_v198 := Nat.lt_of_lt_of_le hb_v198 hX.1
                          have hb0_v198 := hb_v198
                          have ht_v202 := (hX.2.1 _ hb_v202).1.trans ht_v202
                          have hb_v202 := Nat.lt_of_lt_of_le hb_v202 hX.1
                          have hb0_v202 := hb_v202
                          have ht_v208 := (hX.2.1 _ hb_v208).1.trans ht_v208
                          have hb_v208 := Nat.lt_of_lt_of_le hb_v208 hX.1
                          have hb0_v208 := hb_v208
                          have ht_v210 := (hX.2.1 _ hb_v210).1.trans ht_v210
                          have hb_v210 := Nat.lt_of_lt_of_le hb_v210 hX.1
                          have hb0_v210 := hb_v210
                          have hn := Nat.le_refl n
                          have h94 := hS0.1
                          have hX := @yX.rf n tg I211 R
                          have hS := hS0.x hX
                          have hR := hR0.x hn hX
                          have hz := hX.sz h94
                          have hxn := hX.1
                          have hN := hR0.1
                          have hnb := hR0.2.2.2.2.2.2
                          have hthB := hth
                          refine y_aload_n rfl rfl ?_
                          refine y_getR rfl (ySh.t hS rfl) (ySh.n hS rfl) rfl rfl (ySh.r hS rfl) ?_
                          refine y_iload rfl rfl ?_
                          refine y_dup2 rfl rfl rfl ?_
                          refine y_ialoadw (j := 8) (J := I 84) rfl (ySh.t hS rfl) (ySh.n hS rfl) (by decide) (by decide) rfl (((hB.trans hX).n (by omega)).trans (by repeat (first | rfl | (rw [upd2_row (by first | decide | omega)]) | refine upd2_cg ?_))) ?_
                          refine y_iload rfl rfl ?_
                          refine y_iadd rfl ?_
                          refine y_iastoreC (j := 8) rfl (ySh.t hS rfl) (ySh.n hS rfl) (Nat.le_of_ble_eq_true rfl) (by decide) (by decide) rfl ?_
                          refine y_nameI (fun I212 e212 => ?_)
                          have hR1 := (hR0.grow hX).arr e212 (by decide)
                          have hK := (hK.x hRo hno hX).upI (upI e212) (by decide) (by decide) (fun i hi => by have := (hRo.l87.2.2.2.2 i hi).2.1; omega) (by rw [e212, upd2_ne (.inl (by omega))]; exact Int.le_refl _)
                          have hth := (show I212 83 0 = I211 83 0 by rw [e212, upd2_ne (.inl (by omega))]).trans hth
                          have hzz : ySz I211 I212 := ySz_ofE (upI e212) (by omega)
                          have hB := (hB.trans hX).wr e212 rfl
                          have h3k : ∀ k, k ≠ 0 → I212 83 k = I 83 k := fun k hk => (congrFun (congrFun e212 83) k).trans ((upd2_ne (.inl (by omega))).trans ((congrFun (hX.2.1 83 (by omega)).2.1 k).trans (h3k k hk)))
                          have hg := (hg.gx hX (by omega)).skip e212 (by decide)
                          have hday : I212 83 1 = I 83 1 := (congrFun (congrFun e212 83) 1).trans ((upd2_ne (.inl (by omega))).trans ((congrFun (hX.2.1 83 (by omega)).2.1 1).trans hday))
                          have hRb : ∀ a, a < n → R a = R a := fun a ha => (hX.2.1 a (by omega)).2.2.trans (hRb a ha)
                          have hS0 := hS
                          have hR0 := hR1
                          have ht_b121 := (hX.2.1 _ hb_b121).1.trans ht_b121
                          have hb_b121 := Nat.lt_of_lt_of_le hb_b121 hX.1
                          have hb0_b121 := hb_b121
                          have ht_v194 := (hX.2.1 _ hb_v194).1.trans ht_v194
                          have hb_v194 := Nat.lt_of_lt_of_le hb_v194 hX.1
                          have hb0_v194 := hb_v194
                          have ht_v198 := (hX.2.1 _ hb_v198).1.trans ht_v198
                          have hb_v198 := Nat.lt_of_lt_of_le hb_v198 hX.1
                          have hb0_v198 := hb_v198
                          have ht_v202 := (hX.2.1 _ hb_v202).1.trans ht_v202
                          have hb_v202 := Nat.lt_of_lt_of_le hb_v202 hX.1
                          have hb0_v202 := hb_v202
                          have ht_v208 := (hX.2.1 _ hb_v208).1.trans ht_v208
                          have hb_v208 := Nat.lt_of_lt_of_le hb_v208 hX.1
                          have hb0_v208 := hb_v208
                          have ht_v210 := (hX.2.1 _ hb_v210).1.trans ht_v210
                          have hb_v210 := Nat.lt_of_lt_of_le hb_v210 hX.1
                          have hb0_v210 := hb_v210
                          have hn := Nat.le_refl n
                          have h94 := hS0.1
                          have hX := @yX.rf n tg I212 R
                          have hS := hS0.x hX
                          have hR := hR0.x hn hX
                          have hz := hX.sz h94
                          have hxn := hX.1
                          have hN := hR0.1
                          have hnb := hR0.2.2.2.2.2.2
                          have hthB := hth
                          refine y_aload_n rfl rfl ?_
                          refine y_getR rfl (ySh.t hS rfl) (ySh.n hS rfl) rfl rfl (ySh.r hS rfl) ?_
                          refine y_iload rfl rfl ?_
                          refine y_dup2 rfl rfl rfl ?_
                          refine y_ialoadw (j := 8) (J := _) rfl (ySh.t hS rfl) (ySh.n hS rfl) (by decide) (by decide) rfl ((hB.trans hX).n (by omega)) ?_
                          refine y_iload rfl rfl ?_
                          refine y_isub rfl ?_
                          refine y_iastoreC (j := 8) rfl (ySh.t hS rfl) (ySh.n hS rfl) (Nat.le_of_ble_eq_true rfl) (by decide) (by decide) rfl ?_
                          refine y_nameI (fun I213 e213 => ?_)
                          have hR1 := (hR0.grow hX).arr e213 (by decide)
                          have hK := (hK.x hRo hno hX).upI (upI e213) (by decide) (by decide) (fun i hi => by have := (hRo.l87.2.2.2.2 i hi).2.1; omega) (by rw [e213, upd2_ne (.inl (by omega))]; exact Int.le_refl _)
                          have hth := (show I213 83 0 = I212 83 0 by rw [e213, upd2_ne (.inl (by omega))]).trans hth
                          have hzz : ySz I212 I213 := ySz_ofE (upI e213) (by omega)
                          have hB := (hB.trans hX).wr e213 rfl
                          have h3k : ∀ k, k ≠ 0 → I213 83 k = I 83 k := fun k hk => (congrFun (congrFun e213 83) k).trans ((upd2_ne (.inl (by omega))).trans ((congrFun (hX.2.1 83 (by omega)).2.1 k).trans (h3k k hk)))
                          have hg := (hg.gx hX (by omega)).skip e213 (by decide)
                          have hday : I213 83 1 = I 83 1 := (congrFun (congrFun e213 83) 1).trans ((upd2_ne (.inl (by omega))).trans ((congrFun (hX.2.1 83 (by omega)).2.1 1).trans hday))
                          have hRb : ∀ a, a < n → R a = R a := fun a ha => (hX.2.1 a (by omega)).2.2.trans (hRb a ha)
                          have hS0 := hS
                          have hR0 := hR1
                          have ht_b121 := (hX.2.1 _ hb_b121).1.trans ht_b121
                          have hb_b121 := Nat.lt_of_lt_of_le hb_b121 hX.1
                          have hb0_b121 := hb_b121
                          have ht_v194 := (hX.2.1 _ hb_v194).1.trans ht_v194
                          have hb_v194 := Nat.lt_of_lt_of_le hb_v194 hX.1
                          have hb0_v194 := hb_v194
                          have ht_v198 := (hX.2.1 _ hb_v198).1.trans ht_v198
                          have hb_v198 := Nat.lt_of_lt_of_le hb_v198 hX.1
                          have hb0_v198 := hb_v198
                          have ht_v202 := (hX.2.1 _ hb_v202).1.trans ht_v202
                          have hb_v202 := Nat.lt_of_lt_of_le hb_v202 hX.1
                          have hb0_v202 := hb_v202
                          have ht_v208 := (hX.2.1 _ hb_v208).1.trans ht_v208
                          have hb_v208 := Nat.lt_of_lt_of_le hb_v208 hX.1
                          have hb0_v208 := hb_v208
                          have ht_v210 := (hX.2.1 _ hb_v210).1.trans ht_v210
                          have hb_v210 := Nat.lt_of_lt_of_le hb_v210 hX.1
                          have hb0_v210 := hb_v210
                          have hn := Nat.le_refl n
                          have h94 := hS0.1
                          have hX := @yX.rf n tg I213 R
                          have hS := hS0.x hX
                          have hR := hR0.x hn hX
                          have hz := hX.sz h94
                          have hxn := hX.1
                          have hN := hR0.1
                          have hnb := hR0.2.2.2.2.2.2
                          have hthB := hth
                          refine y_aload rfl rfl ?_
                          obtain ⟨hR_v214, hb_v214, ht_v214⟩ := hR0.ven hlo_b121 hb0_b121 ht_b121 (j := 1) (by decide)
                          have hb0_v214 := hb_v214
                          have hb_v214 := Nat.lt_of_lt_of_le hb_v214 hn
                          have hlo_v214 : 94 ≤ b121 + 1 + 1 := by omega
                          have hR2_v214 := (congrFun (hX.2.1 b121 hb_b121).2.2 1).trans hR_v214
                          refine y_getR rfl ((hX.2.1 _ hb_b121).1.trans ht_b121) (Nat.lt_of_lt_of_le hb_b121 hX.1) rfl rfl hR2_v214 ?_
                          refine y_iload rfl rfl ?_
                          refine y_ialoadw (j := 8) (J := _) rfl ((hX.2.1 _ hb_v214).1.trans ht_v214) (Nat.lt_of_lt_of_le hb_v214 hX.1) (by decide) (by decide) rfl ((hB.trans hX).n (by omega)) ?_
                          refine y_ireturn rfl rfl rfl ?_
                          exact hQ0 _ eb_b121 (by first | omega | (simp only [show ySeat x2 = x2 from if_neg (by omega), show ySeat x3 = x3 from if_neg (by omega)]; omega) | (simp only [show ySeat x2 = x2 from if_neg (by omega), show ySeat x3 = Int32.ofInt 8 from if_pos (by omega), show (Int32.ofInt 8).toInt.toNat = 8 from by decide]; omega) | (simp only [show ySeat x2 = Int32.ofInt 8 from if_pos (by omega), show ySeat x3 = x3 from if_neg (by omega), show (Int32.ofInt 8).toInt.toNat = 8 from by decide]; omega) | (simp only [show ySeat x2 = Int32.ofInt 8 from if_pos (by omega), show ySeat x3 = Int32.ofInt 8 from if_pos (by omega), show (Int32.ofInt 8).toInt.toNat = 8 from by decide]; omega)) _ _ _ _ _ _ _ hS ((hR0.grow hX).up (Nat.le_succ K) hk6) (hK.x hRo hno hX) hth (by first | exact (congrFun ((hB.trans hX).n (by omega)) _).symm | (simp only [show ySeat x2 = x2 from if_neg (by omega), show ySeat x3 = x3 from if_neg (by omega)]; exact (congrFun ((hB.trans hX).n (by omega)) _).symm) | (simp only [show ySeat x2 = x2 from if_neg (by omega), show ySeat x3 = Int32.ofInt 8 from if_pos (by omega), show (Int32.ofInt 8).toInt.toNat = 8 from by decide]; exact (congrFun ((hB.trans hX).n (by omega)) _).symm) | (simp only [show ySeat x2 = Int32.ofInt 8 from if_pos (by omega), show ySeat x3 = x3 from if_neg (by omega), show (Int32.ofInt 8).toInt.toNat = 8 from by decide]; exact (congrFun ((hB.trans hX).n (by omega)) _).symm) | (simp only [show ySeat x2 = Int32.ofInt 8 from if_pos (by omega), show ySeat x3 = Int32.ofInt 8 from if_pos (by omega), show (Int32.ofInt 8).toInt.toNat = 8 from by decide]; exact (congrFun ((hB.trans hX).n (by omega)) _).symm)) (by first | (exact hB.trans hX) | (simp only [show ySeat x2 = x2 from if_neg (by omega), show ySeat x3 = x3 from if_neg (by omega)]; exact hB.trans hX) | (simp only [show ySeat x2 = x2 from if_neg (by omega), show ySeat x3 = Int32.ofInt 8 from if_pos (by omega), show (Int32.ofInt 8).toInt.toNat = 8 from by decide]; exact hB.trans hX) | (simp only [show ySeat x2 = Int32.ofInt 8 from if_pos (by omega), show ySeat x3 = x3 from if_neg (by omega), show (Int32.ofInt 8).toInt.toNat = 8 from by decide]; exact hB.trans hX) | (simp only [show ySeat x2 = Int32.ofInt 8 from if_pos (by omega), show ySeat x3 = Int32.ofInt 8 from if_pos (by omega), show (Int32.ofInt 8).toInt.toNat = 8 from by decide]; exact hB.trans hX)) (by omega) (by omega)
                        · refine y_iconst rfl ?_
                          refine y_goto rfl j_X14_buyOut_147 ?_
                          refine y_iconst rfl ?_
                          refine y_virt rfl rfl rfl rfl rfl (ySh.t hS rfl) (ySh.n hS rfl) ?_
                          refine y_in (M := xm_X14_refuse) (ls := [some _, some _, some _]) rfl rfl rfl ?_
                          refine y_iload_n rfl rfl ?_
                          refine y_if_eqF rfl (by decide) ?_
                          refine y_aload_n rfl rfl ?_
                          refine y_getIv (v := Int32.ofInt (0)) rfl (ySh.t hS rfl) (ySh.n hS rfl) rfl rfl hth ?_
                          refine y_if_neF rfl (by decide) ?_
                          refine y_aload_n rfl rfl ?_
                          refine y_iload_n rfl rfl ?_
                          refine y_putI rfl (ySh.t hS rfl) (ySh.n hS rfl) rfl (Nat.le_of_ble_eq_true rfl) rfl rfl ?_
                          refine y_nameI (fun I215 e215 => ?_)
                          have hR1 := (hR0.grow hX).mod0 e215 (by decide) (by decide)
                          have hK := (hK.x hRo hno hX).upI (upI e215) (by decide) (by decide) (fun i hi => by have := (hRo.l87.2.2.2.2 i hi).2.1; omega) (by rw [e215, upd2_ne (.inr (by decide))]; exact Int.le_refl _)
                          have hth : I215 83 0 = Int32.ofInt (3) := by rw [e215, upd2_self]
                          have hzz : ySz8 I114 I215 := ySz8_of (upI e215) (by rw [e215]; exact ⟨upd2_ne (.inr (by decide)), upd2_ne (.inr (by decide))⟩)
                          have hB := (hB.trans hX).wr e215 rfl
                          have h8 : ∀ a, 84 ≤ a → a ≤ 86 → I215 a = I a := fun a h1 h2 => (upI e215 a (by omega)).trans ((hX.2.1 a (by omega)).2.1.trans (h8 a h1 h2))
                          have h3k : ∀ k, k ≠ 0 → I215 83 k = I 83 k := fun k hk => (congrFun (congrFun e215 83) k).trans ((upd2_ne (.inr hk)).trans ((congrFun (hX.2.1 83 (by omega)).2.1 k).trans (h3k k hk)))
                          have hg := (hg.gx hX (by omega)).skip e215 (by decide)
                          have hday : I215 83 1 = I 83 1 := (congrFun (congrFun e215 83) 1).trans ((upd2_ne (.inr (by decide))).trans ((congrFun (hX.2.1 83 (by omega)).2.1 1).trans hday))
                          have hRb : ∀ a, a < n → R a = R a := fun a ha => (hX.2.1 a (by omega)).2.2.trans (hRb a ha)
                          have hb83 : ∀ a, a ≠ 83 → a < n → I215 a = I a := fun a ha hb => (upI e215 a ha).trans ((hX.2.1 a (by omega)).2.1.trans (hb83 a ha hb))
                          have hS0 := hS
                          have hR0 := hR1
                          have ht_b121 := (hX.2.1 _ hb_b121).1.trans ht_b121
                          have hb_b121 := Nat.lt_of_lt_of_le hb_b121 hX.1
                          have hb0_b121 := hb_b121
                          have ht_v194 := (hX.2.1 _ hb_v194).1.trans ht_v194
                          have hb_v194 := Nat.lt_of_lt_of_le hb_v194 hX.1
                          have hb0_v194 := hb_v194
                          have ht_v198 := (hX.2.1 _ hb_v198).1.trans ht_v198
                          have hb_v198 := Nat.lt_of_lt_of_le hb_v198 hX.1
                          have hb0_v198 := hb_v198
                          have ht_v202 := (hX.2.1 _ hb_v202).1.trans ht_v202
                          have hb_v202 := Nat.lt_of_lt_of_le hb_v202 hX.1
                          have hb0_v202 := hb_v202
                          have hn := Nat.le_refl n
                          have h94 := hS0.1
                          have hX := @yX.rf n tg I215 R
                          have hS := hS0.x hX
                          have hR := hR0.x hn hX
                          have hz := hX.sz h94
                          have hxn := hX.1
                          have hN := hR0.1
                          have hnb := hR0.2.2.2.2.2.2
                          have hthB := hth
                          refine y_aload_n rfl rfl ?_
                          refine y_getIv (v := Int32.ofInt (3)) rfl (ySh.t hS rfl) (ySh.n hS rfl) rfl rfl hth ?_
                          refine y_if_leF rfl (by decide) ?_
                          refine y_iconst rfl ?_
                          refine y_goto rfl j_X14_refuse_28 ?_
                          refine y_ireturn rfl rfl rfl ?_
                          refine y_ret1 ?_
                          refine y_if_eqF rfl (by decide) ?_
                          refine y_iconst rfl ?_
                          refine y_ireturn rfl rfl rfl ?_
                          exact hQ3 _ eb_b121 (by first | omega | (simp only [show ySeat x2 = x2 from if_neg (by omega), show ySeat x3 = x3 from if_neg (by omega)]; omega) | (simp only [show ySeat x2 = x2 from if_neg (by omega), show ySeat x3 = Int32.ofInt 8 from if_pos (by omega), show (Int32.ofInt 8).toInt.toNat = 8 from by decide]; omega) | (simp only [show ySeat x2 = Int32.ofInt 8 from if_pos (by omega), show ySeat x3 = x3 from if_neg (by omega), show (Int32.ofInt 8).toInt.toNat = 8 from by decide]; omega) | (simp only [show ySeat x2 = Int32.ofInt 8 from if_pos (by omega), show ySeat x3 = Int32.ofInt 8 from if_pos (by omega), show (Int32.ofInt 8).toInt.toNat = 8 from by decide]; omega)) _ _ _ _ _ _ _ hS ((hR0.grow hX).up (Nat.le_succ K) hk6) (hK.x hRo hno hX) hth ((hB.trans hX).rf2 (by omega)) (by omega) (by omega)
            · rw [yz_1] at h_120
              rw [yz_999] at h_120
              refine y_ret1 ?_
              refine y_if_neF rfl (by decide) ?_
              refine y_iconst rfl ?_
              refine y_goto rfl j_X14_buyOut_60 ?_
              refine y_iconst rfl ?_
              refine y_virt rfl rfl rfl rfl rfl (ySh.t hS rfl) (ySh.n hS rfl) ?_
              refine y_in (M := xm_X14_refuse) (ls := [some _, some _, some _]) rfl rfl rfl ?_
              refine y_iload_n rfl rfl ?_
              refine y_if_eqF rfl (by decide) ?_
              refine y_aload_n rfl rfl ?_
              refine y_getIv (v := Int32.ofInt (0)) rfl (ySh.t hS rfl) (ySh.n hS rfl) rfl rfl hth ?_
              refine y_if_neF rfl (by decide) ?_
              refine y_aload_n rfl rfl ?_
              refine y_iload_n rfl rfl ?_
              refine y_putI rfl (ySh.t hS rfl) (ySh.n hS rfl) rfl (Nat.le_of_ble_eq_true rfl) rfl rfl ?_
              refine y_nameI (fun I216 e216 => ?_)
              have hR1 := (hR0.grow hX).mod0 e216 (by decide) (by decide)
              have hK := (hK.x hRo hno hX).upI (upI e216) (by decide) (by decide) (fun i hi => by have := (hRo.l87.2.2.2.2 i hi).2.1; omega) (by rw [e216, upd2_ne (.inr (by decide))]; exact Int.le_refl _)
              have hth : I216 83 0 = Int32.ofInt (2) := by rw [e216, upd2_self]
              have hzz : ySz8 I114 I216 := ySz8_of (upI e216) (by rw [e216]; exact ⟨upd2_ne (.inr (by decide)), upd2_ne (.inr (by decide))⟩)
              have hB := (hB.trans hX).wr e216 rfl
              have h8 : ∀ a, 84 ≤ a → a ≤ 86 → I216 a = I a := fun a h1 h2 => (upI e216 a (by omega)).trans ((hX.2.1 a (by omega)).2.1.trans (h8 a h1 h2))
              have h3k : ∀ k, k ≠ 0 → I216 83 k = I 83 k := fun k hk => (congrFun (congrFun e216 83) k).trans ((upd2_ne (.inr hk)).trans ((congrFun (hX.2.1 83 (by omega)).2.1 k).trans (h3k k hk)))
              have hg := (hg.gx hX (by omega)).skip e216 (by decide)
              have hday : I216 83 1 = I 83 1 := (congrFun (congrFun e216 83) 1).trans ((upd2_ne (.inr (by decide))).trans ((congrFun (hX.2.1 83 (by omega)).2.1 1).trans hday))
              have hRb : ∀ a, a < n → R a = R a := fun a ha => (hX.2.1 a (by omega)).2.2.trans (hRb a ha)
              have hb83 : ∀ a, a ≠ 83 → a < n → I216 a = I a := fun a ha hb => (upI e216 a ha).trans ((hX.2.1 a (by omega)).2.1.trans (hb83 a ha hb))
              have hS0 := hS
              have hR0 := hR1
              have hn := Nat.le_refl n
              have h94 := hS0.1
              have hX := @yX.rf n tg I216 R
              have hS := hS0.x hX
              have hR := hR0.x hn hX
              have hz := hX.sz h94
              have hxn := hX.1
              have hN := hR0.1
              have hnb := hR0.2.2.2.2.2.2
              have hthB := hth
              refine y_aload_n rfl rfl ?_
              refine y_getIv (v := Int32.ofInt (2)) rfl (ySh.t hS rfl) (ySh.n hS rfl) rfl rfl hth ?_
              refine y_if_leF rfl (by decide) ?_
              refine y_iconst rfl ?_
              refine y_goto rfl j_X14_refuse_28 ?_
              refine y_ireturn rfl rfl rfl ?_
              refine y_ret1 ?_
              refine y_if_eqF rfl (by decide) ?_
              refine y_iconst rfl ?_
              refine y_ireturn rfl rfl rfl ?_
              exact hQ2 (by first | omega | (simp only [show ySeat x2 = x2 from if_neg (by omega), show ySeat x3 = x3 from if_neg (by omega)]; omega) | (simp only [show ySeat x2 = x2 from if_neg (by omega), show ySeat x3 = Int32.ofInt 8 from if_pos (by omega), show (Int32.ofInt 8).toInt.toNat = 8 from by decide]; omega) | (simp only [show ySeat x2 = Int32.ofInt 8 from if_pos (by omega), show ySeat x3 = x3 from if_neg (by omega), show (Int32.ofInt 8).toInt.toNat = 8 from by decide]; omega) | (simp only [show ySeat x2 = Int32.ofInt 8 from if_pos (by omega), show ySeat x3 = Int32.ofInt 8 from if_pos (by omega), show (Int32.ofInt 8).toInt.toNat = 8 from by decide]; omega)) _ _ _ _ _ _ _ hS ((hR0.grow hX).up (Nat.le_succ K) hk6) (hK.x hRo hno hX) hth ((hB.trans hX).rf2 (by omega)) (by omega) (by omega)
        · rw [yz_0] at h_113
          try rw [ysub (by rw [yz_1]; omega) (by rw [yz_1]; omega), yz_1] at h_113
          refine y_ret1 ?_
          refine y_if_neF rfl (by decide) ?_
          refine y_iconst rfl ?_
          refine y_goto rfl j_X14_isNobody_19 ?_
          refine y_ireturn rfl rfl rfl ?_
          refine y_ret1 ?_
          refine y_if_eqF rfl (by decide) ?_
          refine y_iconst rfl ?_
          refine y_goto rfl j_X14_isNoOne_18 ?_
          refine y_ireturn rfl rfl rfl ?_
          refine y_ret1 ?_
          refine y_if_eqF rfl (by decide) ?_
          refine y_iconst rfl ?_
          refine y_goto rfl j_X14_buyOut_30 ?_
          refine y_iconst rfl ?_
          refine y_virt rfl rfl rfl rfl rfl (ySh.t hS rfl) (ySh.n hS rfl) ?_
          refine y_in (M := xm_X14_start) (ls := [some _, some _, some _]) rfl rfl rfl ?_
          refine y_aload_n rfl rfl ?_
          refine y_iconst rfl ?_
          refine y_putI rfl (ySh.t hS rfl) (ySh.n hS rfl) rfl (Nat.le_of_ble_eq_true rfl) rfl rfl ?_
          refine y_nameI (fun I217 e217 => ?_)
          have hR1 := (hR0.grow hX).mod0 e217 (by decide) (by decide)
          have hK := (hK.x hRo hno hX).upI (upI e217) (by decide) (by decide) (fun i hi => by have := (hRo.l87.2.2.2.2 i hi).2.1; omega) (by rw [e217, upd2_ne (.inr (by decide))]; exact Int.le_refl _)
          have hth : I217 83 0 = Int32.ofInt (0) := by rw [e217, upd2_self]
          have hzz : ySz8 I I217 := ySz8_of (upI e217) (by rw [e217]; exact ⟨upd2_ne (.inr (by decide)), upd2_ne (.inr (by decide))⟩)
          have hB := (hB.trans hX).wr e217 rfl
          have h8 : ∀ a, 84 ≤ a → a ≤ 86 → I217 a = I a := fun a h1 h2 => (upI e217 a (by omega)).trans ((hX.2.1 a (by omega)).2.1.trans (h8 a h1 h2))
          have h3k : ∀ k, k ≠ 0 → I217 83 k = I 83 k := fun k hk => (congrFun (congrFun e217 83) k).trans ((upd2_ne (.inr hk)).trans ((congrFun (hX.2.1 83 (by omega)).2.1 k).trans (h3k k hk)))
          have hg := (hg.gx hX (by omega)).skip e217 (by decide)
          have hday : I217 83 1 = I 83 1 := (congrFun (congrFun e217 83) 1).trans ((upd2_ne (.inr (by decide))).trans ((congrFun (hX.2.1 83 (by omega)).2.1 1).trans hday))
          have hRb : ∀ a, a < n → R a = R a := fun a ha => (hX.2.1 a (by omega)).2.2.trans (hRb a ha)
          have hb83 : ∀ a, a ≠ 83 → a < n → I217 a = I a := fun a ha hb => (upI e217 a ha).trans ((hX.2.1 a (by omega)).2.1.trans (hb83 a ha hb))
          have hS0 := hS
          have hR0 := hR1
          have hn := Nat.le_refl n
          have h94 := hS0.1
          have hX := @yX.rf n tg I217 R
          have hS := hS0.x hX
          have hR := hR0.x hn hX
          have hz := hX.sz h94
          have hxn := hX.1
          have hN := hR0.1
          have hnb := hR0.2.2.2.2.2.2
          have hthB := hth
          refine y_aload_n rfl rfl ?_
          refine y_iload_n rfl rfl ?_
          refine y_iload_n rfl rfl ?_
          refine y_virt rfl rfl rfl rfl rfl (ySh.t hS rfl) (ySh.n hS rfl) ?_
          refine y_in (M := xm_X14_refuse) (ls := [some _, some _, some _]) rfl rfl rfl ?_
          refine y_iload_n rfl rfl ?_
          refine y_if_eqF rfl (by decide) ?_
          refine y_aload_n rfl rfl ?_
          refine y_getIv (v := Int32.ofInt (0)) rfl (ySh.t hS rfl) (ySh.n hS rfl) rfl rfl hth ?_
          refine y_if_neF rfl (by decide) ?_
          refine y_aload_n rfl rfl ?_
          refine y_iload_n rfl rfl ?_
          refine y_putI rfl (ySh.t hS rfl) (ySh.n hS rfl) rfl (Nat.le_of_ble_eq_true rfl) rfl rfl ?_
          refine y_nameI (fun I218 e218 => ?_)
          have hR1 := (hR0.grow hX).mod0 e218 (by decide) (by decide)
          have hK := (hK.x hRo hno hX).upI (upI e218) (by decide) (by decide) (fun i hi => by have := (hRo.l87.2.2.2.2 i hi).2.1; omega) (by rw [e218, upd2_ne (.inr (by decide))]; exact Int.le_refl _)
          have hth : I218 83 0 = Int32.ofInt (1) := by rw [e218, upd2_self]
          have hzz : ySz8 I217 I218 := ySz8_of (upI e218) (by rw [e218]; exact ⟨upd2_ne (.inr (by decide)), upd2_ne (.inr (by decide))⟩)
          have hB := (hB.trans hX).wr e218 rfl
          have h8 : ∀ a, 84 ≤ a → a ≤ 86 → I218 a = I a := fun a h1 h2 => (upI e218 a (by omega)).trans ((hX.2.1 a (by omega)).2.1.trans (h8 a h1 h2))
          have h3k : ∀ k, k ≠ 0 → I218 83 k = I 83 k := fun k hk => (congrFun (congrFun e218 83) k).trans ((upd2_ne (.inr hk)).trans ((congrFun (hX.2.1 83 (by omega)).2.1 k).trans (h3k k hk)))
          have hg := (hg.gx hX (by omega)).skip e218 (by decide)
          have hday : I218 83 1 = I 83 1 := (congrFun (congrFun e218 83) 1).trans ((upd2_ne (.inr (by decide))).trans ((congrFun (hX.2.1 83 (by omega)).2.1 1).trans hday))
          have hRb : ∀ a, a < n → R a = R a := fun a ha => (hX.2.1 a (by omega)).2.2.trans (hRb a ha)
          have hb83 : ∀ a, a ≠ 83 → a < n → I218 a = I a := fun a ha hb => (upI e218 a ha).trans ((hX.2.1 a (by omega)).2.1.trans (hb83 a ha hb))
          have hS0 := hS
          have hR0 := hR1
          have hn := Nat.le_refl n
          have h94 := hS0.1
          have hX := @yX.rf n tg I218 R
          have hS := hS0.x hX
          have hR := hR0.x hn hX
          have hz := hX.sz h94
          have hxn := hX.1
          have hN := hR0.1
          have hnb := hR0.2.2.2.2.2.2
          have hthB := hth
          refine y_aload_n rfl rfl ?_
          refine y_getIv (v := Int32.ofInt (1)) rfl (ySh.t hS rfl) (ySh.n hS rfl) rfl rfl hth ?_
          refine y_if_leF rfl (by decide) ?_
          refine y_iconst rfl ?_
          refine y_goto rfl j_X14_refuse_28 ?_
          refine y_ireturn rfl rfl rfl ?_
          refine y_ret1 ?_
          refine y_ireturn rfl rfl rfl ?_
          refine y_ret1 ?_
          refine y_if_neT rfl j_X14_buyOut_67 (by decide) ?_
          refine y_iconst rfl ?_
          refine y_ireturn rfl rfl rfl ?_
          exact hQ1 (by first | omega | (simp only [show ySeat x2 = x2 from if_neg (by omega), show ySeat x3 = x3 from if_neg (by omega)]; omega) | (simp only [show ySeat x2 = x2 from if_neg (by omega), show ySeat x3 = Int32.ofInt 8 from if_pos (by omega), show (Int32.ofInt 8).toInt.toNat = 8 from by decide]; omega) | (simp only [show ySeat x2 = Int32.ofInt 8 from if_pos (by omega), show ySeat x3 = x3 from if_neg (by omega), show (Int32.ofInt 8).toInt.toNat = 8 from by decide]; omega) | (simp only [show ySeat x2 = Int32.ofInt 8 from if_pos (by omega), show ySeat x3 = Int32.ofInt 8 from if_pos (by omega), show (Int32.ofInt 8).toInt.toNat = 8 from by decide]; omega)) _ _ _ _ _ _ _ hS ((hR0.grow hX).up (Nat.le_succ K) hk6) (hK.x hRo hno hX) hth ((hB.trans hX).rf2 (by omega)) (by omega) (by omega)
    · rw [yz_m1] at h_5
      refine y_aload_n rfl rfl ?_
      refine y_iload_n rfl rfl ?_
      refine y_virt rfl rfl rfl rfl rfl (ySh.t hS rfl) (ySh.n hS rfl) ?_
      refine y_in (M := xm_X14_isNobody) (ls := [some _, some _]) rfl rfl rfl ?_
      refine y_iload_n rfl rfl ?_
      refine y_iconst rfl ?_
      refine y_aload_n rfl rfl ?_
      refine y_getIv (v := I 83 8) rfl (ySh.t hS rfl) (ySh.n hS rfl) rfl rfl ((congrFun ((hB.trans hX).n (by omega : 83 < n)) 8).trans (by repeat (first | rfl | rw [upd2_ne (by first | exact .inl (by omega) | exact .inr (by decide))]))) ?_
      refine y_iconst rfl ?_
      refine y_isub rfl ?_
      refine y_static rfl rfl rfl rfl rfl ?_
      refine r_isIn (fun h_219 h_220 => ?_) (fun h_221 => ?_)
      · rw [yz_0] at h_219
        try rw [ysub (by rw [yz_1]; omega) (by rw [yz_1]; omega), yz_1] at h_220
        refine y_ret1 ?_
        refine y_if_neT rfl j_X14_isNobody_18 (by decide) ?_
        refine y_iconst rfl ?_
        refine y_ireturn rfl rfl rfl ?_
        refine y_ret1 ?_
        refine y_if_eqT rfl j_X14_isNoOne_17 (by decide) ?_
        refine y_iconst rfl ?_
        refine y_ireturn rfl rfl rfl ?_
        refine y_ret1 ?_
        refine y_if_neF rfl (by decide) ?_
        refine y_aload_n rfl rfl ?_
        refine y_iload_n rfl rfl ?_
        refine y_virt rfl rfl rfl rfl rfl (ySh.t hS rfl) (ySh.n hS rfl) ?_
        refine y_in (M := xm_X14_isNoOne) (ls := [some _, some _]) rfl rfl rfl ?_
        refine y_iload_n rfl rfl ?_
        refine y_iconst rfl ?_
        refine y_icmp_eq rfl j_X14_isNoOne_17 (fun h_222 => ?_) (fun h_223 => ?_)
        · rw [yz_m1] at h_222
          refine y_iconst rfl ?_
          refine y_ireturn rfl rfl rfl ?_
          refine y_ret1 ?_
          refine y_if_eqT rfl j_X14_buyOut_29 (by decide) ?_
          refine y_iconst rfl ?_
          refine y_iconst rfl ?_
          refine y_virt rfl rfl rfl rfl rfl (ySh.t hS rfl) (ySh.n hS rfl) ?_
          refine y_in (M := xm_X14_start) (ls := [some _, some _, some _]) rfl rfl rfl ?_
          refine y_aload_n rfl rfl ?_
          refine y_iconst rfl ?_
          refine y_putI rfl (ySh.t hS rfl) (ySh.n hS rfl) rfl (Nat.le_of_ble_eq_true rfl) rfl rfl ?_
          refine y_nameI (fun I224 e224 => ?_)
          have hR1 := (hR0.grow hX).mod0 e224 (by decide) (by decide)
          have hK := (hK.x hRo hno hX).upI (upI e224) (by decide) (by decide) (fun i hi => by have := (hRo.l87.2.2.2.2 i hi).2.1; omega) (by rw [e224, upd2_ne (.inr (by decide))]; exact Int.le_refl _)
          have hth : I224 83 0 = Int32.ofInt (0) := by rw [e224, upd2_self]
          have hzz : ySz8 I I224 := ySz8_of (upI e224) (by rw [e224]; exact ⟨upd2_ne (.inr (by decide)), upd2_ne (.inr (by decide))⟩)
          have hB := (hB.trans hX).wr e224 rfl
          have h8 : ∀ a, 84 ≤ a → a ≤ 86 → I224 a = I a := fun a h1 h2 => (upI e224 a (by omega)).trans ((hX.2.1 a (by omega)).2.1.trans (h8 a h1 h2))
          have h3k : ∀ k, k ≠ 0 → I224 83 k = I 83 k := fun k hk => (congrFun (congrFun e224 83) k).trans ((upd2_ne (.inr hk)).trans ((congrFun (hX.2.1 83 (by omega)).2.1 k).trans (h3k k hk)))
          have hg := (hg.gx hX (by omega)).skip e224 (by decide)
          have hday : I224 83 1 = I 83 1 := (congrFun (congrFun e224 83) 1).trans ((upd2_ne (.inr (by decide))).trans ((congrFun (hX.2.1 83 (by omega)).2.1 1).trans hday))
          have hRb : ∀ a, a < n → R a = R a := fun a ha => (hX.2.1 a (by omega)).2.2.trans (hRb a ha)
          have hb83 : ∀ a, a ≠ 83 → a < n → I224 a = I a := fun a ha hb => (upI e224 a ha).trans ((hX.2.1 a (by omega)).2.1.trans (hb83 a ha hb))
          have hS0 := hS
          have hR0 := hR1
          have hn := Nat.le_refl n
          have h94 := hS0.1
          have hX := @yX.rf n tg I224 R
          have hS := hS0.x hX
          have hR := hR0.x hn hX
          have hz := hX.sz h94
          have hxn := hX.1
          have hN := hR0.1
          have hnb := hR0.2.2.2.2.2.2
          have hthB := hth
          refine y_aload_n rfl rfl ?_
          refine y_iload_n rfl rfl ?_
          refine y_iload_n rfl rfl ?_
          refine y_virt rfl rfl rfl rfl rfl (ySh.t hS rfl) (ySh.n hS rfl) ?_
          refine y_in (M := xm_X14_refuse) (ls := [some _, some _, some _]) rfl rfl rfl ?_
          refine y_iload_n rfl rfl ?_
          refine y_if_eqT rfl j_X14_refuse_16 (by decide) ?_
          refine y_aload_n rfl rfl ?_
          refine y_getIv (v := Int32.ofInt (0)) rfl (ySh.t hS rfl) (ySh.n hS rfl) rfl rfl hth ?_
          refine y_if_leT rfl j_X14_refuse_27 (by decide) ?_
          refine y_iconst rfl ?_
          refine y_ireturn rfl rfl rfl ?_
          refine y_ret1 ?_
          refine y_ireturn rfl rfl rfl ?_
          refine y_ret1 ?_
          refine y_if_neF rfl (by decide) ?_
          refine y_aload_n rfl rfl ?_
          refine y_iload_n rfl rfl ?_
          refine y_iload_n rfl rfl ?_
          refine y_icmp_eq rfl j_X14_buyOut_55 (fun h_225 => ?_) (fun h_226 => ?_)
          · refine y_iconst rfl ?_
            refine y_goto rfl j_X14_buyOut_60 ?_
            refine y_iconst rfl ?_
            refine y_virt rfl rfl rfl rfl rfl (ySh.t hS rfl) (ySh.n hS rfl) ?_
            refine y_in (M := xm_X14_refuse) (ls := [some _, some _, some _]) rfl rfl rfl ?_
            refine y_iload_n rfl rfl ?_
            refine y_if_eqF rfl (by decide) ?_
            refine y_aload_n rfl rfl ?_
            refine y_getIv (v := Int32.ofInt (0)) rfl (ySh.t hS rfl) (ySh.n hS rfl) rfl rfl hth ?_
            refine y_if_neF rfl (by decide) ?_
            refine y_aload_n rfl rfl ?_
            refine y_iload_n rfl rfl ?_
            refine y_putI rfl (ySh.t hS rfl) (ySh.n hS rfl) rfl (Nat.le_of_ble_eq_true rfl) rfl rfl ?_
            refine y_nameI (fun I227 e227 => ?_)
            have hR1 := (hR0.grow hX).mod0 e227 (by decide) (by decide)
            have hK := (hK.x hRo hno hX).upI (upI e227) (by decide) (by decide) (fun i hi => by have := (hRo.l87.2.2.2.2 i hi).2.1; omega) (by rw [e227, upd2_ne (.inr (by decide))]; exact Int.le_refl _)
            have hth : I227 83 0 = Int32.ofInt (2) := by rw [e227, upd2_self]
            have hzz : ySz8 I224 I227 := ySz8_of (upI e227) (by rw [e227]; exact ⟨upd2_ne (.inr (by decide)), upd2_ne (.inr (by decide))⟩)
            have hB := (hB.trans hX).wr e227 rfl
            have h8 : ∀ a, 84 ≤ a → a ≤ 86 → I227 a = I a := fun a h1 h2 => (upI e227 a (by omega)).trans ((hX.2.1 a (by omega)).2.1.trans (h8 a h1 h2))
            have h3k : ∀ k, k ≠ 0 → I227 83 k = I 83 k := fun k hk => (congrFun (congrFun e227 83) k).trans ((upd2_ne (.inr hk)).trans ((congrFun (hX.2.1 83 (by omega)).2.1 k).trans (h3k k hk)))
            have hg := (hg.gx hX (by omega)).skip e227 (by decide)
            have hday : I227 83 1 = I 83 1 := (congrFun (congrFun e227 83) 1).trans ((upd2_ne (.inr (by decide))).trans ((congrFun (hX.2.1 83 (by omega)).2.1 1).trans hday))
            have hRb : ∀ a, a < n → R a = R a := fun a ha => (hX.2.1 a (by omega)).2.2.trans (hRb a ha)
            have hb83 : ∀ a, a ≠ 83 → a < n → I227 a = I a := fun a ha hb => (upI e227 a ha).trans ((hX.2.1 a (by omega)).2.1.trans (hb83 a ha hb))
            have hS0 := hS
            have hR0 := hR1
            have hn := Nat.le_refl n
            have h94 := hS0.1
            have hX := @yX.rf n tg I227 R
            have hS := hS0.x hX
            have hR := hR0.x hn hX
            have hz := hX.sz h94
            have hxn := hX.1
            have hN := hR0.1
            have hnb := hR0.2.2.2.2.2.2
            have hthB := hth
            refine y_aload_n rfl rfl ?_
            refine y_getIv (v := Int32.ofInt (2)) rfl (ySh.t hS rfl) (ySh.n hS rfl) rfl rfl hth ?_
            refine y_if_leF rfl (by decide) ?_
            refine y_iconst rfl ?_
            refine y_goto rfl j_X14_refuse_28 ?_
            refine y_ireturn rfl rfl rfl ?_
            refine y_ret1 ?_
            refine y_if_eqF rfl (by decide) ?_
            refine y_iconst rfl ?_
            refine y_ireturn rfl rfl rfl ?_
            exact hQ2 (by first | omega | (simp only [show ySeat x2 = x2 from if_neg (by omega), show ySeat x3 = x3 from if_neg (by omega)]; omega) | (simp only [show ySeat x2 = x2 from if_neg (by omega), show ySeat x3 = Int32.ofInt 8 from if_pos (by omega), show (Int32.ofInt 8).toInt.toNat = 8 from by decide]; omega) | (simp only [show ySeat x2 = Int32.ofInt 8 from if_pos (by omega), show ySeat x3 = x3 from if_neg (by omega), show (Int32.ofInt 8).toInt.toNat = 8 from by decide]; omega) | (simp only [show ySeat x2 = Int32.ofInt 8 from if_pos (by omega), show ySeat x3 = Int32.ofInt 8 from if_pos (by omega), show (Int32.ofInt 8).toInt.toNat = 8 from by decide]; omega)) _ _ _ _ _ _ _ hS ((hR0.grow hX).up (Nat.le_succ K) hk6) (hK.x hRo hno hX) hth ((hB.trans hX).rf2 (by omega)) (by omega) (by omega)
          · refine y_iload rfl rfl ?_
            refine y_iconst rfl ?_
            refine y_sip rfl (by decide) ?_
            refine y_static rfl rfl rfl rfl rfl ?_
            refine r_isIn (fun h_228 h_229 => ?_) (fun h_230 => ?_)
            · rw [yz_1] at h_228
              rw [yz_999] at h_229
              refine y_ret1 ?_
              refine y_if_neT rfl j_X14_buyOut_59 (by decide) ?_
              refine y_iconst rfl ?_
              refine y_iconst rfl ?_
              refine y_virt rfl rfl rfl rfl rfl (ySh.t hS rfl) (ySh.n hS rfl) ?_
              refine y_in (M := xm_X14_refuse) (ls := [some _, some _, some _]) rfl rfl rfl ?_
              refine y_iload_n rfl rfl ?_
              refine y_if_eqT rfl j_X14_refuse_16 (by decide) ?_
              refine y_aload_n rfl rfl ?_
              refine y_getIv (v := Int32.ofInt (0)) rfl (ySh.t hS rfl) (ySh.n hS rfl) rfl rfl hth ?_
              refine y_if_leT rfl j_X14_refuse_27 (by decide) ?_
              refine y_iconst rfl ?_
              refine y_ireturn rfl rfl rfl ?_
              refine y_ret1 ?_
              refine y_if_eqT rfl j_X14_buyOut_69 (by decide) ?_
              refine y_aload_n rfl rfl ?_
              refine y_getR rfl (ySh.t hS rfl) (ySh.n hS rfl) rfl rfl (ySh.r hS rfl) ?_
              refine y_iload_n rfl rfl ?_
              refine y_virt rfl rfl rfl rfl rfl (ySh.t hS rfl) (ySh.n hS rfl) ?_
              refine l_get (nb := n) (ySh.t hS rfl) (ySh.n hS rfl) (Nat.le_trans hn hX.1) hR.l91 (by omega) (by omega) (fun b231 eb_b231 hlo_b231 hb0_b231 ht_b231 => ?_)
              have hb_b231 := Nat.lt_of_lt_of_le hb0_b231 hn
              replace ht_b231 := (hX.2.1 _ hb_b231).1.symm.trans ht_b231
              refine y_ret1 ?_
              refine y_cast rfl ((hX.2.1 _ hb_b231).1.trans ht_b231) (Nat.lt_of_lt_of_le hb_b231 hX.1) ?_
              refine y_astore (ls' := [some _, some _, some _, some _, some _, some _, _, _]) rfl rfl rfl ?_
              refine y_iload_n rfl rfl ?_
              refine y_static rfl rfl rfl rfl rfl ?_
              refine y_in (M := xm_X14_seat) (ls := [some _]) rfl rfl rfl ?_
              refine y_iload_n rfl rfl ?_
              refine y_iconst rfl ?_
              refine y_icmp_ne rfl j_X14_seat_10 (fun h_232 => ?_) (fun h_233 => ?_)
              · rw [yz_m1] at h_232
                refine y_iload_n rfl rfl ?_
                refine y_ireturn rfl rfl rfl ?_
                refine y_ret1 ?_
                refine y_istore (ls' := [some _, some _, some _, some _, some _, some _, some _, _]) rfl rfl rfl ?_
                refine y_iload_n rfl rfl ?_
                refine y_static rfl rfl rfl rfl rfl ?_
                refine y_in (M := xm_X14_seat) (ls := [some _]) rfl rfl rfl ?_
                refine y_iload_n rfl rfl ?_
                refine y_iconst rfl ?_
                refine y_icmp_ne rfl j_X14_seat_10 (fun h_234 => ?_) (fun h_235 => ?_)
                · rw [yz_m1] at h_234
                  refine y_iload_n rfl rfl ?_
                  refine y_ireturn rfl rfl rfl ?_
                  refine y_ret1 ?_
                  refine y_istore (ls' := [some _, some _, some _, some _, some _, some _, some _, some _]) rfl rfl rfl ?_
                  refine y_aload_n rfl rfl ?_
                  refine y_aload rfl rfl ?_
                  obtain ⟨hR_v236, hb_v236, ht_v236⟩ := hR0.ven hlo_b231 hb0_b231 ht_b231 (j := 0) (by decide)
                  have hb0_v236 := hb_v236
                  have hb_v236 := Nat.lt_of_lt_of_le hb_v236 hn
                  have hlo_v236 : 94 ≤ b231 + 1 + 0 := by omega
                  have hR2_v236 := (congrFun (hX.2.1 b231 hb_b231).2.2 0).trans hR_v236
                  refine y_getR rfl ((hX.2.1 _ hb_b231).1.trans ht_b231) (Nat.lt_of_lt_of_le hb_b231 hX.1) rfl rfl hR2_v236 ?_
                  refine y_iload rfl rfl ?_
                  refine y_baloadv (J := I (b231 + 1 + 0)) rfl ((hX.2.1 _ hb_v236).1.trans ht_v236) rfl (Nat.lt_of_lt_of_le hb_v236 hX.1) (by omega) (by omega) (((hB.trans hX).n (by omega)).trans (by repeat (first | rfl | (rw [upd2_row (by first | decide | omega)]) | refine upd2_cg ?_))) ?_
                  refine y_if_eq rfl j_X14_buyOut_142 (fun h_237 => ?_) (fun h_238 => ?_)
                  · refine y_iconst rfl ?_
                    refine y_goto rfl j_X14_buyOut_147 ?_
                    refine y_iconst rfl ?_
                    refine y_virt rfl rfl rfl rfl rfl (ySh.t hS rfl) (ySh.n hS rfl) ?_
                    refine y_in (M := xm_X14_refuse) (ls := [some _, some _, some _]) rfl rfl rfl ?_
                    refine y_iload_n rfl rfl ?_
                    refine y_if_eqF rfl (by decide) ?_
                    refine y_aload_n rfl rfl ?_
                    refine y_getIv (v := Int32.ofInt (0)) rfl (ySh.t hS rfl) (ySh.n hS rfl) rfl rfl hth ?_
                    refine y_if_neF rfl (by decide) ?_
                    refine y_aload_n rfl rfl ?_
                    refine y_iload_n rfl rfl ?_
                    refine y_putI rfl (ySh.t hS rfl) (ySh.n hS rfl) rfl (Nat.le_of_ble_eq_true rfl) rfl rfl ?_
                    refine y_nameI (fun I239 e239 => ?_)
                    have hR1 := (hR0.grow hX).mod0 e239 (by decide) (by decide)
                    have hK := (hK.x hRo hno hX).upI (upI e239) (by decide) (by decide) (fun i hi => by have := (hRo.l87.2.2.2.2 i hi).2.1; omega) (by rw [e239, upd2_ne (.inr (by decide))]; exact Int.le_refl _)
                    have hth : I239 83 0 = Int32.ofInt (3) := by rw [e239, upd2_self]
                    have hzz : ySz8 I224 I239 := ySz8_of (upI e239) (by rw [e239]; exact ⟨upd2_ne (.inr (by decide)), upd2_ne (.inr (by decide))⟩)
                    have hB := (hB.trans hX).wr e239 rfl
                    have h8 : ∀ a, 84 ≤ a → a ≤ 86 → I239 a = I a := fun a h1 h2 => (upI e239 a (by omega)).trans ((hX.2.1 a (by omega)).2.1.trans (h8 a h1 h2))
                    have h3k : ∀ k, k ≠ 0 → I239 83 k = I 83 k := fun k hk => (congrFun (congrFun e239 83) k).trans ((upd2_ne (.inr hk)).trans ((congrFun (hX.2.1 83 (by omega)).2.1 k).trans (h3k k hk)))
                    have hg := (hg.gx hX (by omega)).skip e239 (by decide)
                    have hday : I239 83 1 = I 83 1 := (congrFun (congrFun e239 83) 1).trans ((upd2_ne (.inr (by decide))).trans ((congrFun (hX.2.1 83 (by omega)).2.1 1).trans hday))
                    have hRb : ∀ a, a < n → R a = R a := fun a ha => (hX.2.1 a (by omega)).2.2.trans (hRb a ha)
                    have hb83 : ∀ a, a ≠ 83 → a < n → I239 a = I a := fun a ha hb => (upI e239 a ha).trans ((hX.2.1 a (by omega)).2.1.trans (hb83 a ha hb))
                    have hS0 := hS
                    have hR0 := hR1
                    have ht_b231 := (hX.2.1 _ hb_b231).1.trans ht_b231
                    have hb_b231 := Nat.lt_of_lt_of_le hb_b231 hX.1
                    have hb0_b231 := hb_b231
                    have ht_v236 := (hX.2.1 _ hb_v236).1.trans ht_v236
                    have hb_v236 := Nat.lt_of_lt_of_le hb_v236 hX.1
                    have hb0_v236 := hb_v236
                    have hn := Nat.le_refl n
                    have h94 := hS0.1
                    have hX := @yX.rf n tg I239 R
                    have hS := hS0.x hX
                    have hR := hR0.x hn hX
                    have hz := hX.sz h94
                    have hxn := hX.1
                    have hN := hR0.1
                    have hnb := hR0.2.2.2.2.2.2
                    have hthB := hth
                    refine y_aload_n rfl rfl ?_
                    refine y_getIv (v := Int32.ofInt (3)) rfl (ySh.t hS rfl) (ySh.n hS rfl) rfl rfl hth ?_
                    refine y_if_leF rfl (by decide) ?_
                    refine y_iconst rfl ?_
                    refine y_goto rfl j_X14_refuse_28 ?_
                    refine y_ireturn rfl rfl rfl ?_
                    refine y_ret1 ?_
                    refine y_if_eqF rfl (by decide) ?_
                    refine y_iconst rfl ?_
                    refine y_ireturn rfl rfl rfl ?_
                    exact hQ3 _ eb_b231 (by first | omega | (simp only [show ySeat x2 = x2 from if_neg (by omega), show ySeat x3 = x3 from if_neg (by omega)]; omega) | (simp only [show ySeat x2 = x2 from if_neg (by omega), show ySeat x3 = Int32.ofInt 8 from if_pos (by omega), show (Int32.ofInt 8).toInt.toNat = 8 from by decide]; omega) | (simp only [show ySeat x2 = Int32.ofInt 8 from if_pos (by omega), show ySeat x3 = x3 from if_neg (by omega), show (Int32.ofInt 8).toInt.toNat = 8 from by decide]; omega) | (simp only [show ySeat x2 = Int32.ofInt 8 from if_pos (by omega), show ySeat x3 = Int32.ofInt 8 from if_pos (by omega), show (Int32.ofInt 8).toInt.toNat = 8 from by decide]; omega)) _ _ _ _ _ _ _ hS ((hR0.grow hX).up (Nat.le_succ K) hk6) (hK.x hRo hno hX) hth ((hB.trans hX).rf2 (by omega)) (by omega) (by omega)
                  · refine y_aload rfl rfl ?_
                    obtain ⟨hR_v240, hb_v240, ht_v240⟩ := hR0.ven hlo_b231 hb0_b231 ht_b231 (j := 0) (by decide)
                    have hb0_v240 := hb_v240
                    have hb_v240 := Nat.lt_of_lt_of_le hb_v240 hn
                    have hlo_v240 : 94 ≤ b231 + 1 + 0 := by omega
                    have hR2_v240 := (congrFun (hX.2.1 b231 hb_b231).2.2 0).trans hR_v240
                    refine y_getR rfl ((hX.2.1 _ hb_b231).1.trans ht_b231) (Nat.lt_of_lt_of_le hb_b231 hX.1) rfl rfl hR2_v240 ?_
                    refine y_iload rfl rfl ?_
                    refine y_baloadv (J := I (b231 + 1 + 0)) rfl ((hX.2.1 _ hb_v240).1.trans ht_v240) rfl (Nat.lt_of_lt_of_le hb_v240 hX.1) (by omega) (by omega) (((hB.trans hX).n (by omega)).trans (by repeat (first | rfl | (rw [upd2_row (by first | decide | omega)]) | refine upd2_cg ?_))) ?_
                    refine y_if_eq rfl j_X14_buyOut_142 (fun h_241 => ?_) (fun h_242 => ?_)
                    · refine y_iconst rfl ?_
                      refine y_goto rfl j_X14_buyOut_147 ?_
                      refine y_iconst rfl ?_
                      refine y_virt rfl rfl rfl rfl rfl (ySh.t hS rfl) (ySh.n hS rfl) ?_
                      refine y_in (M := xm_X14_refuse) (ls := [some _, some _, some _]) rfl rfl rfl ?_
                      refine y_iload_n rfl rfl ?_
                      refine y_if_eqF rfl (by decide) ?_
                      refine y_aload_n rfl rfl ?_
                      refine y_getIv (v := Int32.ofInt (0)) rfl (ySh.t hS rfl) (ySh.n hS rfl) rfl rfl hth ?_
                      refine y_if_neF rfl (by decide) ?_
                      refine y_aload_n rfl rfl ?_
                      refine y_iload_n rfl rfl ?_
                      refine y_putI rfl (ySh.t hS rfl) (ySh.n hS rfl) rfl (Nat.le_of_ble_eq_true rfl) rfl rfl ?_
                      refine y_nameI (fun I243 e243 => ?_)
                      have hR1 := (hR0.grow hX).mod0 e243 (by decide) (by decide)
                      have hK := (hK.x hRo hno hX).upI (upI e243) (by decide) (by decide) (fun i hi => by have := (hRo.l87.2.2.2.2 i hi).2.1; omega) (by rw [e243, upd2_ne (.inr (by decide))]; exact Int.le_refl _)
                      have hth : I243 83 0 = Int32.ofInt (3) := by rw [e243, upd2_self]
                      have hzz : ySz8 I224 I243 := ySz8_of (upI e243) (by rw [e243]; exact ⟨upd2_ne (.inr (by decide)), upd2_ne (.inr (by decide))⟩)
                      have hB := (hB.trans hX).wr e243 rfl
                      have h8 : ∀ a, 84 ≤ a → a ≤ 86 → I243 a = I a := fun a h1 h2 => (upI e243 a (by omega)).trans ((hX.2.1 a (by omega)).2.1.trans (h8 a h1 h2))
                      have h3k : ∀ k, k ≠ 0 → I243 83 k = I 83 k := fun k hk => (congrFun (congrFun e243 83) k).trans ((upd2_ne (.inr hk)).trans ((congrFun (hX.2.1 83 (by omega)).2.1 k).trans (h3k k hk)))
                      have hg := (hg.gx hX (by omega)).skip e243 (by decide)
                      have hday : I243 83 1 = I 83 1 := (congrFun (congrFun e243 83) 1).trans ((upd2_ne (.inr (by decide))).trans ((congrFun (hX.2.1 83 (by omega)).2.1 1).trans hday))
                      have hRb : ∀ a, a < n → R a = R a := fun a ha => (hX.2.1 a (by omega)).2.2.trans (hRb a ha)
                      have hb83 : ∀ a, a ≠ 83 → a < n → I243 a = I a := fun a ha hb => (upI e243 a ha).trans ((hX.2.1 a (by omega)).2.1.trans (hb83 a ha hb))
                      have hS0 := hS
                      have hR0 := hR1
                      have ht_b231 := (hX.2.1 _ hb_b231).1.trans ht_b231
                      have hb_b231 := Nat.lt_of_lt_of_le hb_b231 hX.1
                      have hb0_b231 := hb_b231
                      have ht_v236 := (hX.2.1 _ hb_v236).1.trans ht_v236
                      have hb_v236 := Nat.lt_of_lt_of_le hb_v236 hX.1
                      have hb0_v236 := hb_v236
                      have ht_v240 := (hX.2.1 _ hb_v240).1.trans ht_v240
                      have hb_v240 := Nat.lt_of_lt_of_le hb_v240 hX.1
                      have hb0_v240 := hb_v240
                      have hn := Nat.le_refl n
                      have h94 := hS0.1
                      have hX := @yX.rf n tg I243 R
                      have hS := hS0.x hX
                      have hR := hR0.x hn hX
                      have hz := hX.sz h94
                      have hxn := hX.1
                      have hN := hR0.1
                      have hnb := hR0.2.2.2.2.2.2
                      have hthB := hth
                      refine y_aload_n rfl rfl ?_
                      refine y_getIv (v := Int32.ofInt (3)) rfl (ySh.t hS rfl) (ySh.n hS rfl) rfl rfl hth ?_
                      refine y_if_leF rfl (by decide) ?_
                      refine y_iconst rfl ?_
                      refine y_goto rfl j_X14_refuse_28 ?_
                      refine y_ireturn rfl rfl rfl ?_
                      refine y_ret1 ?_
                      refine y_if_eqF rfl (by decide) ?_
                      refine y_iconst rfl ?_
                      refine y_ireturn rfl rfl rfl ?_
                      exact hQ3 _ eb_b231 (by first | omega | (simp only [show ySeat x2 = x2 from if_neg (by omega), show ySeat x3 = x3 from if_neg (by omega)]; omega) | (simp only [show ySeat x2 = x2 from if_neg (by omega), show ySeat x3 = Int32.ofInt 8 from if_pos (by omega), show (Int32.ofInt 8).toInt.toNat = 8 from by decide]; omega) | (simp only [show ySeat x2 = Int32.ofInt 8 from if_pos (by omega), show ySeat x3 = x3 from if_neg (by omega), show (Int32.ofInt 8).toInt.toNat = 8 from by decide]; omega) | (simp only [show ySeat x2 = Int32.ofInt 8 from if_pos (by omega), show ySeat x3 = Int32.ofInt 8 from if_pos (by omega), show (Int32.ofInt 8).toInt.toNat = 8 from by decide]; omega)) _ _ _ _ _ _ _ hS ((hR0.grow hX).up (Nat.le_succ K) hk6) (hK.x hRo hno hX) hth ((hB.trans hX).rf2 (by omega)) (by omega) (by omega)
                    · refine y_aload rfl rfl ?_
                      obtain ⟨hR_v244, hb_v244, ht_v244⟩ := hR0.ven hlo_b231 hb0_b231 ht_b231 (j := 1) (by decide)
                      have hb0_v244 := hb_v244
                      have hb_v244 := Nat.lt_of_lt_of_le hb_v244 hn
                      have hlo_v244 : 94 ≤ b231 + 1 + 1 := by omega
                      have hR2_v244 := (congrFun (hX.2.1 b231 hb_b231).2.2 1).trans hR_v244
                      refine y_getR rfl ((hX.2.1 _ hb_b231).1.trans ht_b231) (Nat.lt_of_lt_of_le hb_b231 hX.1) rfl rfl hR2_v244 ?_
                      refine y_iload rfl rfl ?_
                      refine y_ialoadv (J := I (b231 + 1 + 1)) rfl ((hX.2.1 _ hb_v244).1.trans ht_v244) (Nat.lt_of_lt_of_le hb_v244 hX.1) (by omega) (by omega) (((hB.trans hX).n (by omega)).trans (by repeat (first | rfl | (rw [upd2_row (by first | decide | omega)]) | refine upd2_cg ?_))) ?_
                      refine y_iload rfl rfl ?_
                      refine y_icmp_lt rfl j_X14_buyOut_142 (fun h_245 => ?_) (fun h_246 => ?_)
                      · refine y_iconst rfl ?_
                        refine y_goto rfl j_X14_buyOut_147 ?_
                        refine y_iconst rfl ?_
                        refine y_virt rfl rfl rfl rfl rfl (ySh.t hS rfl) (ySh.n hS rfl) ?_
                        refine y_in (M := xm_X14_refuse) (ls := [some _, some _, some _]) rfl rfl rfl ?_
                        refine y_iload_n rfl rfl ?_
                        refine y_if_eqF rfl (by decide) ?_
                        refine y_aload_n rfl rfl ?_
                        refine y_getIv (v := Int32.ofInt (0)) rfl (ySh.t hS rfl) (ySh.n hS rfl) rfl rfl hth ?_
                        refine y_if_neF rfl (by decide) ?_
                        refine y_aload_n rfl rfl ?_
                        refine y_iload_n rfl rfl ?_
                        refine y_putI rfl (ySh.t hS rfl) (ySh.n hS rfl) rfl (Nat.le_of_ble_eq_true rfl) rfl rfl ?_
                        refine y_nameI (fun I247 e247 => ?_)
                        have hR1 := (hR0.grow hX).mod0 e247 (by decide) (by decide)
                        have hK := (hK.x hRo hno hX).upI (upI e247) (by decide) (by decide) (fun i hi => by have := (hRo.l87.2.2.2.2 i hi).2.1; omega) (by rw [e247, upd2_ne (.inr (by decide))]; exact Int.le_refl _)
                        have hth : I247 83 0 = Int32.ofInt (3) := by rw [e247, upd2_self]
                        have hzz : ySz8 I224 I247 := ySz8_of (upI e247) (by rw [e247]; exact ⟨upd2_ne (.inr (by decide)), upd2_ne (.inr (by decide))⟩)
                        have hB := (hB.trans hX).wr e247 rfl
                        have h8 : ∀ a, 84 ≤ a → a ≤ 86 → I247 a = I a := fun a h1 h2 => (upI e247 a (by omega)).trans ((hX.2.1 a (by omega)).2.1.trans (h8 a h1 h2))
                        have h3k : ∀ k, k ≠ 0 → I247 83 k = I 83 k := fun k hk => (congrFun (congrFun e247 83) k).trans ((upd2_ne (.inr hk)).trans ((congrFun (hX.2.1 83 (by omega)).2.1 k).trans (h3k k hk)))
                        have hg := (hg.gx hX (by omega)).skip e247 (by decide)
                        have hday : I247 83 1 = I 83 1 := (congrFun (congrFun e247 83) 1).trans ((upd2_ne (.inr (by decide))).trans ((congrFun (hX.2.1 83 (by omega)).2.1 1).trans hday))
                        have hRb : ∀ a, a < n → R a = R a := fun a ha => (hX.2.1 a (by omega)).2.2.trans (hRb a ha)
                        have hb83 : ∀ a, a ≠ 83 → a < n → I247 a = I a := fun a ha hb => (upI e247 a ha).trans ((hX.2.1 a (by omega)).2.1.trans (hb83 a ha hb))
                        have hS0 := hS
                        have hR0 := hR1
                        have ht_b231 := (hX.2.1 _ hb_b231).1.trans ht_b231
                        have hb_b231 := Nat.lt_of_lt_of_le hb_b231 hX.1
                        have hb0_b231 := hb_b231
                        have ht_v236 := (hX.2.1 _ hb_v236).1.trans ht_v236
                        have hb_v236 := Nat.lt_of_lt_of_le hb_v236 hX.1
                        have hb0_v236 := hb_v236
                        have ht_v240 := (hX.2.1 _ hb_v240).1.trans ht_v240
                        have hb_v240 := Nat.lt_of_lt_of_le hb_v240 hX.1
                        have hb0_v240 := hb_v240
                        have ht_v244 := (hX.2.1 _ hb_v244).1.trans ht_v244
                        have hb_v244 := Nat.lt_of_lt_of_le hb_v244 hX.1
                        have hb0_v244 := hb_v244
                        have hn := Nat.le_refl n
                        have h94 := hS0.1
                        have hX := @yX.rf n tg I247 R
                        have hS := hS0.x hX
                        have hR := hR0.x hn hX
                        have hz := hX.sz h94
                        have hxn := hX.1
                        have hN := hR0.1
                        have hnb := hR0.2.2.2.2.2.2
                        have hthB := hth
                        refine y_aload_n rfl rfl ?_
                        refine y_getIv (v := Int32.ofInt (3)) rfl (ySh.t hS rfl) (ySh.n hS rfl) rfl rfl hth ?_
                        refine y_if_leF rfl (by decide) ?_
                        refine y_iconst rfl ?_
                        refine y_goto rfl j_X14_refuse_28 ?_
                        refine y_ireturn rfl rfl rfl ?_
                        refine y_ret1 ?_
                        refine y_if_eqF rfl (by decide) ?_
                        refine y_iconst rfl ?_
                        refine y_ireturn rfl rfl rfl ?_
                        exact hQ3 _ eb_b231 (by first | omega | (simp only [show ySeat x2 = x2 from if_neg (by omega), show ySeat x3 = x3 from if_neg (by omega)]; omega) | (simp only [show ySeat x2 = x2 from if_neg (by omega), show ySeat x3 = Int32.ofInt 8 from if_pos (by omega), show (Int32.ofInt 8).toInt.toNat = 8 from by decide]; omega) | (simp only [show ySeat x2 = Int32.ofInt 8 from if_pos (by omega), show ySeat x3 = x3 from if_neg (by omega), show (Int32.ofInt 8).toInt.toNat = 8 from by decide]; omega) | (simp only [show ySeat x2 = Int32.ofInt 8 from if_pos (by omega), show ySeat x3 = Int32.ofInt 8 from if_pos (by omega), show (Int32.ofInt 8).toInt.toNat = 8 from by decide]; omega)) _ _ _ _ _ _ _ hS ((hR0.grow hX).up (Nat.le_succ K) hk6) (hK.x hRo hno hX) hth ((hB.trans hX).rf2 (by omega)) (by omega) (by omega)
                      · refine y_aload_n rfl rfl ?_
                        refine y_getR rfl (ySh.t hS rfl) (ySh.n hS rfl) rfl rfl (ySh.r hS rfl) ?_
                        refine y_iload rfl rfl ?_
                        refine y_ialoadv (J := I 84) rfl (ySh.t hS rfl) (ySh.n hS rfl) (by omega) (by omega) (((hB.trans hX).n (by omega)).trans (by repeat (first | rfl | (rw [upd2_row (by first | decide | omega)]) | refine upd2_cg ?_))) ?_
                        refine y_iload rfl rfl ?_
                        refine y_icmp_ge rfl j_X14_buyOut_146 (fun h_248 => ?_) (fun h_249 => ?_)
                        · refine y_iconst rfl ?_
                          refine y_iconst rfl ?_
                          refine y_virt rfl rfl rfl rfl rfl (ySh.t hS rfl) (ySh.n hS rfl) ?_
                          refine y_in (M := xm_X14_refuse) (ls := [some _, some _, some _]) rfl rfl rfl ?_
                          refine y_iload_n rfl rfl ?_
                          refine y_if_eqT rfl j_X14_refuse_16 (by decide) ?_
                          refine y_aload_n rfl rfl ?_
                          refine y_getIv (v := Int32.ofInt (0)) rfl (ySh.t hS rfl) (ySh.n hS rfl) rfl rfl hth ?_
                          refine y_if_leT rfl j_X14_refuse_27 (by decide) ?_
                          refine y_iconst rfl ?_
                          refine y_ireturn rfl rfl rfl ?_
                          refine y_ret1 ?_
                          refine y_if_eqT rfl j_X14_buyOut_156 (by decide) ?_
                          refine y_aload rfl rfl ?_
                          obtain ⟨hR_v250, hb_v250, ht_v250⟩ := hR0.ven hlo_b231 hb0_b231 ht_b231 (j := 1) (by decide)
                          have hb0_v250 := hb_v250
                          have hb_v250 := Nat.lt_of_lt_of_le hb_v250 hn
                          have hlo_v250 : 94 ≤ b231 + 1 + 1 := by omega
                          have hR2_v250 := (congrFun (hX.2.1 b231 hb_b231).2.2 1).trans hR_v250
                          refine y_getR rfl ((hX.2.1 _ hb_b231).1.trans ht_b231) (Nat.lt_of_lt_of_le hb_b231 hX.1) rfl rfl hR2_v250 ?_
                          refine y_iload rfl rfl ?_
                          refine y_dup2 rfl rfl rfl ?_
                          refine y_ialoadv (J := I (b231 + 1 + 1)) rfl ((hX.2.1 _ hb_v250).1.trans ht_v250) (Nat.lt_of_lt_of_le hb_v250 hX.1) (by omega) (by omega) (((hB.trans hX).n (by omega)).trans (by repeat (first | rfl | (rw [upd2_row (by first | decide | omega)]) | refine upd2_cg ?_))) ?_
                          refine y_iload rfl rfl ?_
                          refine y_isub rfl ?_
                          refine y_iastore rfl ((hX.2.1 _ hb_v250).1.trans ht_v250) (Nat.lt_of_lt_of_le hb_v250 hX.1) (Nat.le_trans (by decide) (by omega : 94 ≤ _)) (by omega) (by omega) ?_
                          refine y_nameI (fun I251 e251 => ?_)
                          have hB1 := (hR0.grow hX).capB1x hlo_b231 (by omega) ((hX.2.1 _ hb_b231).1.trans ht_b231) (by omega) e251 (by rw [show I224 (b231 + 1 + 1) = I (b231 + 1 + 1) from ((hB.trans hX).n (by omega)).trans (by repeat (first | rfl | (rw [upd2_row (by first | decide | omega)]) | refine upd2_cg ?_))]) ⟨by omega, by rw [show I224 (b231 + 1 + 1) = I (b231 + 1 + 1) from ((hB.trans hX).n (by omega)).trans (by repeat (first | rfl | (rw [upd2_row (by first | decide | omega)]) | refine upd2_cg ?_))]; omega⟩
                          have hR1 := hB1.1
                          have hK := (hK.x hRo hno hX).upE hRo hno (upI e251) (by omega) (by omega) (by rw [((hX.2.1 _ hb_v250).1.trans ht_v250)]; decide) (by rw [e251, upd2_ne (.inl (by omega))]; exact Int.le_refl _)
                          have hth := (show I251 83 0 = I224 83 0 by rw [e251, upd2_ne (.inl (by omega))]).trans hth
                          have hzz : ySz I224 I251 := ySz_ofE (upI e251) (by omega)
                          have hB := (hB.trans hX).wr e251 rfl
                          have h8 : ∀ a, 84 ≤ a → a ≤ 86 → I251 a = I a := fun a h1 h2 => (upI e251 a (by omega)).trans ((hX.2.1 a (by omega)).2.1.trans (h8 a h1 h2))
                          have h3k : ∀ k, k ≠ 0 → I251 83 k = I 83 k := fun k hk => (congrFun (congrFun e251 83) k).trans ((upd2_ne (.inl (by omega))).trans ((congrFun (hX.2.1 83 (by omega)).2.1 k).trans (h3k k hk)))
                          have hg := (hg.gx hX (by omega)).both e251
                          have hday : I251 83 1 = I 83 1 := (congrFun (congrFun e251 83) 1).trans ((upd2_ne (.inl (by omega))).trans ((congrFun (hX.2.1 83 (by omega)).2.1 1).trans hday))
                          have hRb : ∀ a, a < n → R a = R a := fun a ha => (hX.2.1 a (by omega)).2.2.trans (hRb a ha)
                          have hS0 := hS
                          have hR0 := hR1
                          have ht_b231 := (hX.2.1 _ hb_b231).1.trans ht_b231
                          have hb_b231 := Nat.lt_of_lt_of_le hb_b231 hX.1
                          have hb0_b231 := hb_b231
                          have ht_v236 := (hX.2.1 _ hb_v236).1.trans ht_v236
                          have hb_v236 := Nat.lt_of_lt_of_le hb_v236 hX.1
                          have hb0_v236 := hb_v236
                          have ht_v240 := (hX.2.1 _ hb_v240).1.trans ht_v240
                          have hb_v240 := Nat.lt_of_lt_of_le hb_v240 hX.1
                          have hb0_v240 := hb_v240
                          have ht_v244 := (hX.2.1 _ hb_v244).1.trans ht_v244
                          have hb_v244 := Nat.lt_of_lt_of_le hb_v244 hX.1
                          have hb0_v244 := hb_v244
                          have ht_v250 := (hX.2.1 _ hb_v250).1.trans ht_v250
                          have hb_v250 := Nat.lt_of_lt_of_le hb_v250 hX.1
                          have hb0_v250 := hb_v250
                          have hn := Nat.le_refl n
                          have h94 := hS0.1
                          have hX := @yX.rf n tg I251 R
                          have hS := hS0.x hX
                          have hR := hR0.x hn hX
                          have hz := hX.sz h94
                          have hxn := hX.1
                          have hN := hR0.1
                          have hnb := hR0.2.2.2.2.2.2
                          have hthB := hth
                          refine y_aload rfl rfl ?_
                          obtain ⟨hR_v252, hb_v252, ht_v252⟩ := hR0.ven hlo_b231 hb0_b231 ht_b231 (j := 1) (by decide)
                          have hb0_v252 := hb_v252
                          have hb_v252 := Nat.lt_of_lt_of_le hb_v252 hn
                          have hlo_v252 : 94 ≤ b231 + 1 + 1 := by omega
                          have hR2_v252 := (congrFun (hX.2.1 b231 hb_b231).2.2 1).trans hR_v252
                          refine y_getR rfl ((hX.2.1 _ hb_b231).1.trans ht_b231) (Nat.lt_of_lt_of_le hb_b231 hX.1) rfl rfl hR2_v252 ?_
                          refine y_iload rfl rfl ?_
                          refine y_dup2 rfl rfl rfl ?_
                          refine y_ialoadv (J := _) rfl ((hX.2.1 _ hb_v252).1.trans ht_v252) (Nat.lt_of_lt_of_le hb_v252 hX.1) (by omega) (by omega) ((hB.trans hX).n (by omega)) ?_
                          refine y_iload rfl rfl ?_
                          refine y_iadd rfl ?_
                          refine y_iastore rfl ((hX.2.1 _ hb_v252).1.trans ht_v252) (Nat.lt_of_lt_of_le hb_v252 hX.1) (Nat.le_trans (by decide) (by omega : 94 ≤ _)) (by omega) (by omega) ?_
                          refine y_nameI (fun I253 e253 => ?_)
                          have hR1 := (hR0.grow hX).capB2x hlo_b231 (by omega) ((hX.2.1 _ hb_b231).1.trans ht_b231) (by omega) (by omega) hB1.2.1 e253 (by rw [show I251 (b231 + 1 + 1) = _ from ((hB.trans hX).n (by omega))])
                          have hK := (hK.x hRo hno hX).upE hRo hno (upI e253) (by omega) (by omega) (by rw [((hX.2.1 _ hb_v252).1.trans ht_v252)]; decide) (by rw [e253, upd2_ne (.inl (by omega))]; exact Int.le_refl _)
                          have hth := (show I253 83 0 = I251 83 0 by rw [e253, upd2_ne (.inl (by omega))]).trans hth
                          have hzz : ySz I251 I253 := ySz_ofE (upI e253) (by omega)
                          have hB := (hB.trans hX).wr e253 rfl
                          have h8 : ∀ a, 84 ≤ a → a ≤ 86 → I253 a = I a := fun a h1 h2 => (upI e253 a (by omega)).trans ((hX.2.1 a (by omega)).2.1.trans (h8 a h1 h2))
                          have h3k : ∀ k, k ≠ 0 → I253 83 k = I 83 k := fun k hk => (congrFun (congrFun e253 83) k).trans ((upd2_ne (.inl (by omega))).trans ((congrFun (hX.2.1 83 (by omega)).2.1 k).trans (h3k k hk)))
                          have hg := (hg.gx hX (by omega)).both e253
                          have hday : I253 83 1 = I 83 1 := (congrFun (congrFun e253 83) 1).trans ((upd2_ne (.inl (by omega))).trans ((congrFun (hX.2.1 83 (by omega)).2.1 1).trans hday))
                          have hRb : ∀ a, a < n → R a = R a := fun a ha => (hX.2.1 a (by omega)).2.2.trans (hRb a ha)
                          have hS0 := hS
                          have hR0 := hR1
                          have ht_b231 := (hX.2.1 _ hb_b231).1.trans ht_b231
                          have hb_b231 := Nat.lt_of_lt_of_le hb_b231 hX.1
                          have hb0_b231 := hb_b231
                          have ht_v236 := (hX.2.1 _ hb_v236).1.trans ht_v236
                          have hb_v236 := Nat.lt_of_lt_of_le hb_v236 hX.1
                          have hb0_v236 := hb_v236
                          have ht_v240 := (hX.2.1 _ hb_v240).1.trans ht_v240
                          have hb_v240 := Nat.lt_of_lt_of_le hb_v240 hX.1
                          have hb0_v240 := hb_v240
                          have ht_v244 := (hX.2.1 _ hb_v244).1.trans ht_v244
                          have hb_v244 := Nat.lt_of_lt_of_le hb_v244 hX.1
                          have hb0_v244 := hb_v244
                          have ht_v250 := (hX.2.1 _ hb_v250).1.trans ht_v250
                          have hb_v250 := Nat.lt_of_lt_of_le hb_v250 hX.1
                          have hb0_v250 := hb_v250
                          have ht_v252 := (hX.2.1 _ hb_v252).1.trans ht_v252
                          have hb_v252 := Nat.lt_of_lt_of_le hb_v252 hX.1
                          have hb0_v252 := hb_v252
                          have hn := Nat.le_refl n
                          have h94 := hS0.1
                          have hX := @yX.rf n tg I253 R
                          have hS := hS0.x hX
                          have hR := hR0.x hn hX
                          have hz := hX.sz h94
                          have hxn := hX.1
                          have hN := hR0.1
                          have hnb := hR0.2.2.2.2.2.2
                          have hthB := hth
                          refine y_aload_n rfl rfl ?_
                          refine y_getR rfl (ySh.t hS rfl) (ySh.n hS rfl) rfl rfl (ySh.r hS rfl) ?_
                          refine y_iload rfl rfl ?_
                          refine y_dup2 rfl rfl rfl ?_
                          refine y_ialoadv (J := I 84) rfl (ySh.t hS rfl) (ySh.n hS rfl) (by omega) (by omega) (((hB.trans hX).n (by omega)).trans (by repeat (first | rfl | (rw [upd2_row (by first | decide | omega)]) | refine upd2_cg ?_))) ?_
                          refine y_iload rfl rfl ?_
                          refine y_iadd rfl ?_
                          refine y_iastore rfl (ySh.t hS rfl) (ySh.n hS rfl) (Nat.le_of_ble_eq_true rfl) (by omega) (by omega) ?_
                          refine y_nameI (fun I254 e254 => ?_)
                          have hR1 := (hR0.grow hX).arr e254 (by decide)
                          have hK := (hK.x hRo hno hX).upI (upI e254) (by decide) (by decide) (fun i hi => by have := (hRo.l87.2.2.2.2 i hi).2.1; omega) (by rw [e254, upd2_ne (.inl (by omega))]; exact Int.le_refl _)
                          have hth := (show I254 83 0 = I253 83 0 by rw [e254, upd2_ne (.inl (by omega))]).trans hth
                          have hzz : ySz I253 I254 := ySz_ofE (upI e254) (by omega)
                          have hB := (hB.trans hX).wr e254 rfl
                          have h3k : ∀ k, k ≠ 0 → I254 83 k = I 83 k := fun k hk => (congrFun (congrFun e254 83) k).trans ((upd2_ne (.inl (by omega))).trans ((congrFun (hX.2.1 83 (by omega)).2.1 k).trans (h3k k hk)))
                          have hg := (hg.gx hX (by omega)).skip e254 (by decide)
                          have hday : I254 83 1 = I 83 1 := (congrFun (congrFun e254 83) 1).trans ((upd2_ne (.inl (by omega))).trans ((congrFun (hX.2.1 83 (by omega)).2.1 1).trans hday))
                          have hRb : ∀ a, a < n → R a = R a := fun a ha => (hX.2.1 a (by omega)).2.2.trans (hRb a ha)
                          have hS0 := hS
                          have hR0 := hR1
                          have ht_b231 := (hX.2.1 _ hb_b231).1.trans ht_b231
                          have hb_b231 := Nat.lt_of_lt_of_le hb_b231 hX.1
                          have hb0_b231 := hb_b231
                          have ht_v236 := (hX.2.1 _ hb_v236).1.trans ht_v236
                          have hb_v236 := Nat.lt_of_lt_of_le hb_v236 hX.1
                          have hb0_v236 := hb_v236
                          have ht_v240 := (hX.2.1 _ hb_v240).1.trans ht_v240
                          have hb_v240 := Nat.lt_of_lt_of_le hb_v240 hX.1
                          have hb0_v240 := hb_v240
                          have ht_v244 := (hX.2.1 _ hb_v244).1.trans ht_v244
                          have hb_v244 := Nat.lt_of_lt_of_le hb_v244 hX.1
                          have hb0_v244 := hb_v244
                          have ht_v250 := (hX.2.1 _ hb_v250).1.trans ht_v250
                          have hb_v250 := Nat.lt_of_lt_of_le hb_v250 hX.1
                          have hb0_v250 := hb_v250
                          have ht_v252 := (hX.2.1 _ hb_v252).1.trans ht_v252
                          have hb_v252 := Nat.lt_of_lt_of_le hb_v252 hX.1
                          have hb0_v252 := hb_v252
                          have hn := Nat.le_refl n
                          have h94 := hS0.1
                          have hX := @yX.rf n tg I254 R
                          have hS := hS0.x hX
                          have hR := hR0.x hn hX
                          have hz := hX.sz h94
                          have hxn := hX.1
                          have hN := hR0.1
                          have hnb := hR0.2.2.2.2.2.2
                          have hthB := hth
                          refine y_aload_n rfl rfl ?_
                          refine y_getR rfl (ySh.t hS rfl) (ySh.n hS rfl) rfl rfl (ySh.r hS rfl) ?_
                          refine y_iload rfl rfl ?_
                          refine y_dup2 rfl rfl rfl ?_
                          refine y_ialoadv (J := _) rfl (ySh.t hS rfl) (ySh.n hS rfl) (by omega) (by omega) ((hB.trans hX).n (by omega)) ?_
                          refine y_iload rfl rfl ?_
                          refine y_isub rfl ?_
                          refine y_iastore rfl (ySh.t hS rfl) (ySh.n hS rfl) (Nat.le_of_ble_eq_true rfl) (by omega) (by omega) ?_
                          refine y_nameI (fun I255 e255 => ?_)
                          have hR1 := (hR0.grow hX).arr e255 (by decide)
                          have hK := (hK.x hRo hno hX).upI (upI e255) (by decide) (by decide) (fun i hi => by have := (hRo.l87.2.2.2.2 i hi).2.1; omega) (by rw [e255, upd2_ne (.inl (by omega))]; exact Int.le_refl _)
                          have hth := (show I255 83 0 = I254 83 0 by rw [e255, upd2_ne (.inl (by omega))]).trans hth
                          have hzz : ySz I254 I255 := ySz_ofE (upI e255) (by omega)
                          have hB := (hB.trans hX).wr e255 rfl
                          have h3k : ∀ k, k ≠ 0 → I255 83 k = I 83 k := fun k hk => (congrFun (congrFun e255 83) k).trans ((upd2_ne (.inl (by omega))).trans ((congrFun (hX.2.1 83 (by omega)).2.1 k).trans (h3k k hk)))
                          have hg := (hg.gx hX (by omega)).skip e255 (by decide)
                          have hday : I255 83 1 = I 83 1 := (congrFun (congrFun e255 83) 1).trans ((upd2_ne (.inl (by omega))).trans ((congrFun (hX.2.1 83 (by omega)).2.1 1).trans hday))
                          have hRb : ∀ a, a < n → R a = R a := fun a ha => (hX.2.1 a (by omega)).2.2.trans (hRb a ha)
                          have hS0 := hS
                          have hR0 := hR1
                          have ht_b231 := (hX.2.1 _ hb_b231).1.trans ht_b231
                          have hb_b231 := Nat.lt_of_lt_of_le hb_b231 hX.1
                          have hb0_b231 := hb_b231
                          have ht_v236 := (hX.2.1 _ hb_v236).1.trans ht_v236
                          have hb_v236 := Nat.lt_of_lt_of_le hb_v236 hX.1
                          have hb0_v236 := hb_v236
                          have ht_v240 := (hX.2.1 _ hb_v240).1.trans ht_v240
                          have hb_v240 := Nat.lt_of_lt_of_le hb_v240 hX.1
                          have hb0_v240 := hb_v240
                          have ht_v244 := (hX.2.1 _ hb_v244).1.trans ht_v244
                          have hb_v244 := Nat.lt_of_lt_of_le hb_v244 hX.1
                          have hb0_v244 := hb_v244
                          have ht_v250 := (hX.2.1 _ hb_v250).1.trans ht_v250
                          have hb_v250 := Nat.lt_of_lt_of_le hb_v250 hX.1
                          have hb0_v250 := hb_v250
                          have ht_v252 := (hX.2.1 _ hb_v252).1.trans ht_v252
                          have hb_v252 := Nat.lt_of_lt_of_le hb_v252 hX.1
                          have hb0_v252 := hb_v252
                          have hn := Nat.le_refl n
                          have h94 := hS0.1
                          have hX := @yX.rf n tg I255 R
                          have hS := hS0.x hX
                          have hR := hR0.x hn hX
                          have hz := hX.sz h94
                          have hxn := hX.1
                          have hN := hR0.1
                          have hnb := hR0.2.2.2.2.2.2
                          have hthB := hth
                          refine y_aload rfl rfl ?_
                          obtain ⟨hR_v256, hb_v256, ht_v256⟩ := hR0.ven hlo_b231 hb0_b231 ht_b231 (j := 1) (by decide)
                          have hb0_v256 := hb_v256
                          have hb_v256 := Nat.lt_of_lt_of_le hb_v256 hn
                          have hlo_v256 : 94 ≤ b231 + 1 + 1 := by omega
                          have hR2_v256 := (congrFun (hX.2.1 b231 hb_b231).2.2 1).trans hR_v256
                          refine y_getR rfl ((hX.2.1 _ hb_b231).1.trans ht_b231) (Nat.lt_of_lt_of_le hb_b231 hX.1) rfl rfl hR2_v256 ?_
                          refine y_iload rfl rfl ?_
                          refine y_ialoadv (J := _) rfl ((hX.2.1 _ hb_v256).1.trans ht_v256) (Nat.lt_of_lt_of_le hb_v256 hX.1) (by omega) (by omega) ((hB.trans hX).n (by omega)) ?_
                          refine y_ireturn rfl rfl rfl ?_
                          exact hQ0 _ eb_b231 (by first | omega | (simp only [show ySeat x2 = x2 from if_neg (by omega), show ySeat x3 = x3 from if_neg (by omega)]; omega) | (simp only [show ySeat x2 = x2 from if_neg (by omega), show ySeat x3 = Int32.ofInt 8 from if_pos (by omega), show (Int32.ofInt 8).toInt.toNat = 8 from by decide]; omega) | (simp only [show ySeat x2 = Int32.ofInt 8 from if_pos (by omega), show ySeat x3 = x3 from if_neg (by omega), show (Int32.ofInt 8).toInt.toNat = 8 from by decide]; omega) | (simp only [show ySeat x2 = Int32.ofInt 8 from if_pos (by omega), show ySeat x3 = Int32.ofInt 8 from if_pos (by omega), show (Int32.ofInt 8).toInt.toNat = 8 from by decide]; omega)) _ _ _ _ _ _ _ hS ((hR0.grow hX).up (Nat.le_succ K) hk6) (hK.x hRo hno hX) hth (by first | exact (congrFun ((hB.trans hX).n (by omega)) _).symm | (simp only [show ySeat x2 = x2 from if_neg (by omega), show ySeat x3 = x3 from if_neg (by omega)]; exact (congrFun ((hB.trans hX).n (by omega)) _).symm) | (simp only [show ySeat x2 = x2 from if_neg (by omega), show ySeat x3 = Int32.ofInt 8 from if_pos (by omega), show (Int32.ofInt 8).toInt.toNat = 8 from by decide]; exact (congrFun ((hB.trans hX).n (by omega)) _).symm) | (simp only [show ySeat x2 = Int32.ofInt 8 from if_pos (by omega), show ySeat x3 = x3 from if_neg (by omega), show (Int32.ofInt 8).toInt.toNat = 8 from by decide]; exact (congrFun ((hB.trans hX).n (by omega)) _).symm) | (simp only [show ySeat x2 = Int32.ofInt 8 from if_pos (by omega), show ySeat x3 = Int32.ofInt 8 from if_pos (by omega), show (Int32.ofInt 8).toInt.toNat = 8 from by decide]; exact (congrFun ((hB.trans hX).n (by omega)) _).symm)) (by first | (exact hB.trans hX) | (simp only [show ySeat x2 = x2 from if_neg (by omega), show ySeat x3 = x3 from if_neg (by omega)]; exact hB.trans hX) | (simp only [show ySeat x2 = x2 from if_neg (by omega), show ySeat x3 = Int32.ofInt 8 from if_pos (by omega), show (Int32.ofInt 8).toInt.toNat = 8 from by decide]; exact hB.trans hX) | (simp only [show ySeat x2 = Int32.ofInt 8 from if_pos (by omega), show ySeat x3 = x3 from if_neg (by omega), show (Int32.ofInt 8).toInt.toNat = 8 from by decide]; exact hB.trans hX) | (simp only [show ySeat x2 = Int32.ofInt 8 from if_pos (by omega), show ySeat x3 = Int32.ofInt 8 from if_pos (by omega), show (Int32.ofInt 8).toInt.toNat = 8 from by decide]; exact hB.trans hX)) (by omega) (by omega)
                        · refine y_iconst rfl ?_
                          refine y_goto rfl j_X14_buyOut_147 ?_
                          refine y_iconst rfl ?_
                          refine y_virt rfl rfl rfl rfl rfl (ySh.t hS rfl) (ySh.n hS rfl) ?_
                          refine y_in (M := xm_X14_refuse) (ls := [some _, some _, some _]) rfl rfl rfl ?_
                          refine y_iload_n rfl rfl ?_
                          refine y_if_eqF rfl (by decide) ?_
                          refine y_aload_n rfl rfl ?_
                          refine y_getIv (v := Int32.ofInt (0)) rfl (ySh.t hS rfl) (ySh.n hS rfl) rfl rfl hth ?_
                          refine y_if_neF rfl (by decide) ?_
                          refine y_aload_n rfl rfl ?_
                          refine y_iload_n rfl rfl ?_
                          refine y_putI rfl (ySh.t hS rfl) (ySh.n hS rfl) rfl (Nat.le_of_ble_eq_true rfl) rfl rfl ?_
                          refine y_nameI (fun I257 e257 => ?_)
                          have hR1 := (hR0.grow hX).mod0 e257 (by decide) (by decide)
                          have hK := (hK.x hRo hno hX).upI (upI e257) (by decide) (by decide) (fun i hi => by have := (hRo.l87.2.2.2.2 i hi).2.1; omega) (by rw [e257, upd2_ne (.inr (by decide))]; exact Int.le_refl _)
                          have hth : I257 83 0 = Int32.ofInt (3) := by rw [e257, upd2_self]
                          have hzz : ySz8 I224 I257 := ySz8_of (upI e257) (by rw [e257]; exact ⟨upd2_ne (.inr (by decide)), upd2_ne (.inr (by decide))⟩)
                          have hB := (hB.trans hX).wr e257 rfl
                          have h8 : ∀ a, 84 ≤ a → a ≤ 86 → I257 a = I a := fun a h1 h2 => (upI e257 a (by omega)).trans ((hX.2.1 a (by omega)).2.1.trans (h8 a h1 h2))
                          have h3k : ∀ k, k ≠ 0 → I257 83 k = I 83 k := fun k hk => (congrFun (congrFun e257 83) k).trans ((upd2_ne (.inr hk)).trans ((congrFun (hX.2.1 83 (by omega)).2.1 k).trans (h3k k hk)))
                          have hg := (hg.gx hX (by omega)).skip e257 (by decide)
                          have hday : I257 83 1 = I 83 1 := (congrFun (congrFun e257 83) 1).trans ((upd2_ne (.inr (by decide))).trans ((congrFun (hX.2.1 83 (by omega)).2.1 1).trans hday))
                          have hRb : ∀ a, a < n → R a = R a := fun a ha => (hX.2.1 a (by omega)).2.2.trans (hRb a ha)
                          have hb83 : ∀ a, a ≠ 83 → a < n → I257 a = I a := fun a ha hb => (upI e257 a ha).trans ((hX.2.1 a (by omega)).2.1.trans (hb83 a ha hb))
                          have hS0 := hS
                          have hR0 := hR1
                          have ht_b231 := (hX.2.1 _ hb_b231).1.trans ht_b231
                          have hb_b231 := Nat.lt_of_lt_of_le hb_b231 hX.1
                          have hb0_b231 := hb_b231
                          have ht_v236 := (hX.2.1 _ hb_v236).1.trans ht_v236
                          have hb_v236 := Nat.lt_of_lt_of_le hb_v236 hX.1
                          have hb0_v236 := hb_v236
                          have ht_v240 := (hX.2.1 _ hb_v240).1.trans ht_v240
                          have hb_v240 := Nat.lt_of_lt_of_le hb_v240 hX.1
                          have hb0_v240 := hb_v240
                          have ht_v244 := (hX.2.1 _ hb_v244).1.trans ht_v244
                          have hb_v244 := Nat.lt_of_lt_of_le hb_v244 hX.1
                          have hb0_v244 := hb_v244
                          have hn := Nat.le_refl n
                          have h94 := hS0.1
                          have hX := @yX.rf n tg I257 R
                          have hS := hS0.x hX
                          have hR := hR0.x hn hX
                          have hz := hX.sz h94
                          have hxn := hX.1
                          have hN := hR0.1
                          have hnb := hR0.2.2.2.2.2.2
                          have hthB := hth
                          refine y_aload_n rfl rfl ?_
                          refine y_getIv (v := Int32.ofInt (3)) rfl (ySh.t hS rfl) (ySh.n hS rfl) rfl rfl hth ?_
                          refine y_if_leF rfl (by decide) ?_
                          refine y_iconst rfl ?_
                          refine y_goto rfl j_X14_refuse_28 ?_
                          refine y_ireturn rfl rfl rfl ?_
                          refine y_ret1 ?_
                          refine y_if_eqF rfl (by decide) ?_
                          refine y_iconst rfl ?_
                          refine y_ireturn rfl rfl rfl ?_
                          exact hQ3 _ eb_b231 (by first | omega | (simp only [show ySeat x2 = x2 from if_neg (by omega), show ySeat x3 = x3 from if_neg (by omega)]; omega) | (simp only [show ySeat x2 = x2 from if_neg (by omega), show ySeat x3 = Int32.ofInt 8 from if_pos (by omega), show (Int32.ofInt 8).toInt.toNat = 8 from by decide]; omega) | (simp only [show ySeat x2 = Int32.ofInt 8 from if_pos (by omega), show ySeat x3 = x3 from if_neg (by omega), show (Int32.ofInt 8).toInt.toNat = 8 from by decide]; omega) | (simp only [show ySeat x2 = Int32.ofInt 8 from if_pos (by omega), show ySeat x3 = Int32.ofInt 8 from if_pos (by omega), show (Int32.ofInt 8).toInt.toNat = 8 from by decide]; omega)) _ _ _ _ _ _ _ hS ((hR0.grow hX).up (Nat.le_succ K) hk6) (hK.x hRo hno hX) hth ((hB.trans hX).rf2 (by omega)) (by omega) (by omega)
                · rw [yz_m1] at h_235
                  refine y_bip rfl (by decide) ?_
                  refine y_goto rfl j_X14_seat_11 ?_
                  refine y_ireturn rfl rfl rfl ?_
                  refine y_ret1 ?_
                  refine y_istore (ls' := [some _, some _, some _, some _, some _, some _, some _, some _]) rfl rfl rfl ?_
                  refine y_aload_n rfl rfl ?_
                  refine y_aload rfl rfl ?_
                  obtain ⟨hR_v258, hb_v258, ht_v258⟩ := hR0.ven hlo_b231 hb0_b231 ht_b231 (j := 0) (by decide)
                  have hb0_v258 := hb_v258
                  have hb_v258 := Nat.lt_of_lt_of_le hb_v258 hn
                  have hlo_v258 : 94 ≤ b231 + 1 + 0 := by omega
                  have hR2_v258 := (congrFun (hX.2.1 b231 hb_b231).2.2 0).trans hR_v258
                  refine y_getR rfl ((hX.2.1 _ hb_b231).1.trans ht_b231) (Nat.lt_of_lt_of_le hb_b231 hX.1) rfl rfl hR2_v258 ?_
                  refine y_iload rfl rfl ?_
                  refine y_baloadv (J := I (b231 + 1 + 0)) rfl ((hX.2.1 _ hb_v258).1.trans ht_v258) rfl (Nat.lt_of_lt_of_le hb_v258 hX.1) (by omega) (by omega) (((hB.trans hX).n (by omega)).trans (by repeat (first | rfl | (rw [upd2_row (by first | decide | omega)]) | refine upd2_cg ?_))) ?_
                  refine y_if_eq rfl j_X14_buyOut_142 (fun h_259 => ?_) (fun h_260 => ?_)
                  · refine y_iconst rfl ?_
                    refine y_goto rfl j_X14_buyOut_147 ?_
                    refine y_iconst rfl ?_
                    refine y_virt rfl rfl rfl rfl rfl (ySh.t hS rfl) (ySh.n hS rfl) ?_
                    refine y_in (M := xm_X14_refuse) (ls := [some _, some _, some _]) rfl rfl rfl ?_
                    refine y_iload_n rfl rfl ?_
                    refine y_if_eqF rfl (by decide) ?_
                    refine y_aload_n rfl rfl ?_
                    refine y_getIv (v := Int32.ofInt (0)) rfl (ySh.t hS rfl) (ySh.n hS rfl) rfl rfl hth ?_
                    refine y_if_neF rfl (by decide) ?_
                    refine y_aload_n rfl rfl ?_
                    refine y_iload_n rfl rfl ?_
                    refine y_putI rfl (ySh.t hS rfl) (ySh.n hS rfl) rfl (Nat.le_of_ble_eq_true rfl) rfl rfl ?_
                    refine y_nameI (fun I261 e261 => ?_)
                    have hR1 := (hR0.grow hX).mod0 e261 (by decide) (by decide)
                    have hK := (hK.x hRo hno hX).upI (upI e261) (by decide) (by decide) (fun i hi => by have := (hRo.l87.2.2.2.2 i hi).2.1; omega) (by rw [e261, upd2_ne (.inr (by decide))]; exact Int.le_refl _)
                    have hth : I261 83 0 = Int32.ofInt (3) := by rw [e261, upd2_self]
                    have hzz : ySz8 I224 I261 := ySz8_of (upI e261) (by rw [e261]; exact ⟨upd2_ne (.inr (by decide)), upd2_ne (.inr (by decide))⟩)
                    have hB := (hB.trans hX).wr e261 rfl
                    have h8 : ∀ a, 84 ≤ a → a ≤ 86 → I261 a = I a := fun a h1 h2 => (upI e261 a (by omega)).trans ((hX.2.1 a (by omega)).2.1.trans (h8 a h1 h2))
                    have h3k : ∀ k, k ≠ 0 → I261 83 k = I 83 k := fun k hk => (congrFun (congrFun e261 83) k).trans ((upd2_ne (.inr hk)).trans ((congrFun (hX.2.1 83 (by omega)).2.1 k).trans (h3k k hk)))
                    have hg := (hg.gx hX (by omega)).skip e261 (by decide)
                    have hday : I261 83 1 = I 83 1 := (congrFun (congrFun e261 83) 1).trans ((upd2_ne (.inr (by decide))).trans ((congrFun (hX.2.1 83 (by omega)).2.1 1).trans hday))
                    have hRb : ∀ a, a < n → R a = R a := fun a ha => (hX.2.1 a (by omega)).2.2.trans (hRb a ha)
                    have hb83 : ∀ a, a ≠ 83 → a < n → I261 a = I a := fun a ha hb => (upI e261 a ha).trans ((hX.2.1 a (by omega)).2.1.trans (hb83 a ha hb))
                    have hS0 := hS
                    have hR0 := hR1
                    have ht_b231 := (hX.2.1 _ hb_b231).1.trans ht_b231
                    have hb_b231 := Nat.lt_of_lt_of_le hb_b231 hX.1
                    have hb0_b231 := hb_b231
                    have ht_v258 := (hX.2.1 _ hb_v258).1.trans ht_v258
                    have hb_v258 := Nat.lt_of_lt_of_le hb_v258 hX.1
                    have hb0_v258 := hb_v258
                    have hn := Nat.le_refl n
                    have h94 := hS0.1
                    have hX := @yX.rf n tg I261 R
                    have hS := hS0.x hX
                    have hR := hR0.x hn hX
                    have hz := hX.sz h94
                    have hxn := hX.1
                    have hN := hR0.1
                    have hnb := hR0.2.2.2.2.2.2
                    have hthB := hth
                    refine y_aload_n rfl rfl ?_
                    refine y_getIv (v := Int32.ofInt (3)) rfl (ySh.t hS rfl) (ySh.n hS rfl) rfl rfl hth ?_
                    refine y_if_leF rfl (by decide) ?_
                    refine y_iconst rfl ?_
                    refine y_goto rfl j_X14_refuse_28 ?_
                    refine y_ireturn rfl rfl rfl ?_
                    refine y_ret1 ?_
                    refine y_if_eqF rfl (by decide) ?_
                    refine y_iconst rfl ?_
                    refine y_ireturn rfl rfl rfl ?_
                    exact hQ3 _ eb_b231 (by first | omega | (simp only [show ySeat x2 = x2 from if_neg (by omega), show ySeat x3 = x3 from if_neg (by omega)]; omega) | (simp only [show ySeat x2 = x2 from if_neg (by omega), show ySeat x3 = Int32.ofInt 8 from if_pos (by omega), show (Int32.ofInt 8).toInt.toNat = 8 from by decide]; omega) | (simp only [show ySeat x2 = Int32.ofInt 8 from if_pos (by omega), show ySeat x3 = x3 from if_neg (by omega), show (Int32.ofInt 8).toInt.toNat = 8 from by decide]; omega) | (simp only [show ySeat x2 = Int32.ofInt 8 from if_pos (by omega), show ySeat x3 = Int32.ofInt 8 from if_pos (by omega), show (Int32.ofInt 8).toInt.toNat = 8 from by decide]; omega)) _ _ _ _ _ _ _ hS ((hR0.grow hX).up (Nat.le_succ K) hk6) (hK.x hRo hno hX) hth ((hB.trans hX).rf2 (by omega)) (by omega) (by omega)
                  · refine y_aload rfl rfl ?_
                    obtain ⟨hR_v262, hb_v262, ht_v262⟩ := hR0.ven hlo_b231 hb0_b231 ht_b231 (j := 0) (by decide)
                    have hb0_v262 := hb_v262
                    have hb_v262 := Nat.lt_of_lt_of_le hb_v262 hn
                    have hlo_v262 : 94 ≤ b231 + 1 + 0 := by omega
                    have hR2_v262 := (congrFun (hX.2.1 b231 hb_b231).2.2 0).trans hR_v262
                    refine y_getR rfl ((hX.2.1 _ hb_b231).1.trans ht_b231) (Nat.lt_of_lt_of_le hb_b231 hX.1) rfl rfl hR2_v262 ?_
                    refine y_iload rfl rfl ?_
                    refine y_baloadw (j := 8) (J := I (b231 + 1 + 0)) rfl ((hX.2.1 _ hb_v262).1.trans ht_v262) rfl (Nat.lt_of_lt_of_le hb_v262 hX.1) (by decide) (by decide) rfl (((hB.trans hX).n (by omega)).trans (by repeat (first | rfl | (rw [upd2_row (by first | decide | omega)]) | refine upd2_cg ?_))) ?_
                    refine y_if_eq rfl j_X14_buyOut_142 (fun h_263 => ?_) (fun h_264 => ?_)
                    · refine y_iconst rfl ?_
                      refine y_goto rfl j_X14_buyOut_147 ?_
                      refine y_iconst rfl ?_
                      refine y_virt rfl rfl rfl rfl rfl (ySh.t hS rfl) (ySh.n hS rfl) ?_
                      refine y_in (M := xm_X14_refuse) (ls := [some _, some _, some _]) rfl rfl rfl ?_
                      refine y_iload_n rfl rfl ?_
                      refine y_if_eqF rfl (by decide) ?_
                      refine y_aload_n rfl rfl ?_
                      refine y_getIv (v := Int32.ofInt (0)) rfl (ySh.t hS rfl) (ySh.n hS rfl) rfl rfl hth ?_
                      refine y_if_neF rfl (by decide) ?_
                      refine y_aload_n rfl rfl ?_
                      refine y_iload_n rfl rfl ?_
                      refine y_putI rfl (ySh.t hS rfl) (ySh.n hS rfl) rfl (Nat.le_of_ble_eq_true rfl) rfl rfl ?_
                      refine y_nameI (fun I265 e265 => ?_)
                      have hR1 := (hR0.grow hX).mod0 e265 (by decide) (by decide)
                      have hK := (hK.x hRo hno hX).upI (upI e265) (by decide) (by decide) (fun i hi => by have := (hRo.l87.2.2.2.2 i hi).2.1; omega) (by rw [e265, upd2_ne (.inr (by decide))]; exact Int.le_refl _)
                      have hth : I265 83 0 = Int32.ofInt (3) := by rw [e265, upd2_self]
                      have hzz : ySz8 I224 I265 := ySz8_of (upI e265) (by rw [e265]; exact ⟨upd2_ne (.inr (by decide)), upd2_ne (.inr (by decide))⟩)
                      have hB := (hB.trans hX).wr e265 rfl
                      have h8 : ∀ a, 84 ≤ a → a ≤ 86 → I265 a = I a := fun a h1 h2 => (upI e265 a (by omega)).trans ((hX.2.1 a (by omega)).2.1.trans (h8 a h1 h2))
                      have h3k : ∀ k, k ≠ 0 → I265 83 k = I 83 k := fun k hk => (congrFun (congrFun e265 83) k).trans ((upd2_ne (.inr hk)).trans ((congrFun (hX.2.1 83 (by omega)).2.1 k).trans (h3k k hk)))
                      have hg := (hg.gx hX (by omega)).skip e265 (by decide)
                      have hday : I265 83 1 = I 83 1 := (congrFun (congrFun e265 83) 1).trans ((upd2_ne (.inr (by decide))).trans ((congrFun (hX.2.1 83 (by omega)).2.1 1).trans hday))
                      have hRb : ∀ a, a < n → R a = R a := fun a ha => (hX.2.1 a (by omega)).2.2.trans (hRb a ha)
                      have hb83 : ∀ a, a ≠ 83 → a < n → I265 a = I a := fun a ha hb => (upI e265 a ha).trans ((hX.2.1 a (by omega)).2.1.trans (hb83 a ha hb))
                      have hS0 := hS
                      have hR0 := hR1
                      have ht_b231 := (hX.2.1 _ hb_b231).1.trans ht_b231
                      have hb_b231 := Nat.lt_of_lt_of_le hb_b231 hX.1
                      have hb0_b231 := hb_b231
                      have ht_v258 := (hX.2.1 _ hb_v258).1.trans ht_v258
                      have hb_v258 := Nat.lt_of_lt_of_le hb_v258 hX.1
                      have hb0_v258 := hb_v258
                      have ht_v262 := (hX.2.1 _ hb_v262).1.trans ht_v262
                      have hb_v262 := Nat.lt_of_lt_of_le hb_v262 hX.1
                      have hb0_v262 := hb_v262
                      have hn := Nat.le_refl n
                      have h94 := hS0.1
                      have hX := @yX.rf n tg I265 R
                      have hS := hS0.x hX
                      have hR := hR0.x hn hX
                      have hz := hX.sz h94
                      have hxn := hX.1
                      have hN := hR0.1
                      have hnb := hR0.2.2.2.2.2.2
                      have hthB := hth
                      refine y_aload_n rfl rfl ?_
                      refine y_getIv (v := Int32.ofInt (3)) rfl (ySh.t hS rfl) (ySh.n hS rfl) rfl rfl hth ?_
                      refine y_if_leF rfl (by decide) ?_
                      refine y_iconst rfl ?_
                      refine y_goto rfl j_X14_refuse_28 ?_
                      refine y_ireturn rfl rfl rfl ?_
                      refine y_ret1 ?_
                      refine y_if_eqF rfl (by decide) ?_
                      refine y_iconst rfl ?_
                      refine y_ireturn rfl rfl rfl ?_
                      exact hQ3 _ eb_b231 (by first | omega | (simp only [show ySeat x2 = x2 from if_neg (by omega), show ySeat x3 = x3 from if_neg (by omega)]; omega) | (simp only [show ySeat x2 = x2 from if_neg (by omega), show ySeat x3 = Int32.ofInt 8 from if_pos (by omega), show (Int32.ofInt 8).toInt.toNat = 8 from by decide]; omega) | (simp only [show ySeat x2 = Int32.ofInt 8 from if_pos (by omega), show ySeat x3 = x3 from if_neg (by omega), show (Int32.ofInt 8).toInt.toNat = 8 from by decide]; omega) | (simp only [show ySeat x2 = Int32.ofInt 8 from if_pos (by omega), show ySeat x3 = Int32.ofInt 8 from if_pos (by omega), show (Int32.ofInt 8).toInt.toNat = 8 from by decide]; omega)) _ _ _ _ _ _ _ hS ((hR0.grow hX).up (Nat.le_succ K) hk6) (hK.x hRo hno hX) hth ((hB.trans hX).rf2 (by omega)) (by omega) (by omega)
                    · refine y_aload rfl rfl ?_
                      obtain ⟨hR_v266, hb_v266, ht_v266⟩ := hR0.ven hlo_b231 hb0_b231 ht_b231 (j := 1) (by decide)
                      have hb0_v266 := hb_v266
                      have hb_v266 := Nat.lt_of_lt_of_le hb_v266 hn
                      have hlo_v266 : 94 ≤ b231 + 1 + 1 := by omega
                      have hR2_v266 := (congrFun (hX.2.1 b231 hb_b231).2.2 1).trans hR_v266
                      refine y_getR rfl ((hX.2.1 _ hb_b231).1.trans ht_b231) (Nat.lt_of_lt_of_le hb_b231 hX.1) rfl rfl hR2_v266 ?_
                      refine y_iload rfl rfl ?_
                      refine y_ialoadv (J := I (b231 + 1 + 1)) rfl ((hX.2.1 _ hb_v266).1.trans ht_v266) (Nat.lt_of_lt_of_le hb_v266 hX.1) (by omega) (by omega) (((hB.trans hX).n (by omega)).trans (by repeat (first | rfl | (rw [upd2_row (by first | decide | omega)]) | refine upd2_cg ?_))) ?_
                      refine y_iload rfl rfl ?_
                      refine y_icmp_lt rfl j_X14_buyOut_142 (fun h_267 => ?_) (fun h_268 => ?_)
                      · refine y_iconst rfl ?_
                        refine y_goto rfl j_X14_buyOut_147 ?_
                        refine y_iconst rfl ?_
                        refine y_virt rfl rfl rfl rfl rfl (ySh.t hS rfl) (ySh.n hS rfl) ?_
                        refine y_in (M := xm_X14_refuse) (ls := [some _, some _, some _]) rfl rfl rfl ?_
                        refine y_iload_n rfl rfl ?_
                        refine y_if_eqF rfl (by decide) ?_
                        refine y_aload_n rfl rfl ?_
                        refine y_getIv (v := Int32.ofInt (0)) rfl (ySh.t hS rfl) (ySh.n hS rfl) rfl rfl hth ?_
                        refine y_if_neF rfl (by decide) ?_
                        refine y_aload_n rfl rfl ?_
                        refine y_iload_n rfl rfl ?_
                        refine y_putI rfl (ySh.t hS rfl) (ySh.n hS rfl) rfl (Nat.le_of_ble_eq_true rfl) rfl rfl ?_
                        refine y_nameI (fun I269 e269 => ?_)
                        have hR1 := (hR0.grow hX).mod0 e269 (by decide) (by decide)
                        have hK := (hK.x hRo hno hX).upI (upI e269) (by decide) (by decide) (fun i hi => by have := (hRo.l87.2.2.2.2 i hi).2.1; omega) (by rw [e269, upd2_ne (.inr (by decide))]; exact Int.le_refl _)
                        have hth : I269 83 0 = Int32.ofInt (3) := by rw [e269, upd2_self]
                        have hzz : ySz8 I224 I269 := ySz8_of (upI e269) (by rw [e269]; exact ⟨upd2_ne (.inr (by decide)), upd2_ne (.inr (by decide))⟩)
                        have hB := (hB.trans hX).wr e269 rfl
                        have h8 : ∀ a, 84 ≤ a → a ≤ 86 → I269 a = I a := fun a h1 h2 => (upI e269 a (by omega)).trans ((hX.2.1 a (by omega)).2.1.trans (h8 a h1 h2))
                        have h3k : ∀ k, k ≠ 0 → I269 83 k = I 83 k := fun k hk => (congrFun (congrFun e269 83) k).trans ((upd2_ne (.inr hk)).trans ((congrFun (hX.2.1 83 (by omega)).2.1 k).trans (h3k k hk)))
                        have hg := (hg.gx hX (by omega)).skip e269 (by decide)
                        have hday : I269 83 1 = I 83 1 := (congrFun (congrFun e269 83) 1).trans ((upd2_ne (.inr (by decide))).trans ((congrFun (hX.2.1 83 (by omega)).2.1 1).trans hday))
                        have hRb : ∀ a, a < n → R a = R a := fun a ha => (hX.2.1 a (by omega)).2.2.trans (hRb a ha)
                        have hb83 : ∀ a, a ≠ 83 → a < n → I269 a = I a := fun a ha hb => (upI e269 a ha).trans ((hX.2.1 a (by omega)).2.1.trans (hb83 a ha hb))
                        have hS0 := hS
                        have hR0 := hR1
                        have ht_b231 := (hX.2.1 _ hb_b231).1.trans ht_b231
                        have hb_b231 := Nat.lt_of_lt_of_le hb_b231 hX.1
                        have hb0_b231 := hb_b231
                        have ht_v258 := (hX.2.1 _ hb_v258).1.trans ht_v258
                        have hb_v258 := Nat.lt_of_lt_of_le hb_v258 hX.1
                        have hb0_v258 := hb_v258
                        have ht_v262 := (hX.2.1 _ hb_v262).1.trans ht_v262
                        have hb_v262 := Nat.lt_of_lt_of_le hb_v262 hX.1
                        have hb0_v262 := hb_v262
                        have ht_v266 := (hX.2.1 _ hb_v266).1.trans ht_v266
                        have hb_v266 := Nat.lt_of_lt_of_le hb_v266 hX.1
                        have hb0_v266 := hb_v266
                        have hn := Nat.le_refl n
                        have h94 := hS0.1
                        have hX := @yX.rf n tg I269 R
                        have hS := hS0.x hX
                        have hR := hR0.x hn hX
                        have hz := hX.sz h94
                        have hxn := hX.1
                        have hN := hR0.1
                        have hnb := hR0.2.2.2.2.2.2
                        have hthB := hth
                        refine y_aload_n rfl rfl ?_
                        refine y_getIv (v := Int32.ofInt (3)) rfl (ySh.t hS rfl) (ySh.n hS rfl) rfl rfl hth ?_
                        refine y_if_leF rfl (by decide) ?_
                        refine y_iconst rfl ?_
                        refine y_goto rfl j_X14_refuse_28 ?_
                        refine y_ireturn rfl rfl rfl ?_
                        refine y_ret1 ?_
                        refine y_if_eqF rfl (by decide) ?_
                        refine y_iconst rfl ?_
                        refine y_ireturn rfl rfl rfl ?_
                        exact hQ3 _ eb_b231 (by first | omega | (simp only [show ySeat x2 = x2 from if_neg (by omega), show ySeat x3 = x3 from if_neg (by omega)]; omega) | (simp only [show ySeat x2 = x2 from if_neg (by omega), show ySeat x3 = Int32.ofInt 8 from if_pos (by omega), show (Int32.ofInt 8).toInt.toNat = 8 from by decide]; omega) | (simp only [show ySeat x2 = Int32.ofInt 8 from if_pos (by omega), show ySeat x3 = x3 from if_neg (by omega), show (Int32.ofInt 8).toInt.toNat = 8 from by decide]; omega) | (simp only [show ySeat x2 = Int32.ofInt 8 from if_pos (by omega), show ySeat x3 = Int32.ofInt 8 from if_pos (by omega), show (Int32.ofInt 8).toInt.toNat = 8 from by decide]; omega)) _ _ _ _ _ _ _ hS ((hR0.grow hX).up (Nat.le_succ K) hk6) (hK.x hRo hno hX) hth ((hB.trans hX).rf2 (by omega)) (by omega) (by omega)
                      · refine y_aload_n rfl rfl ?_
                        refine y_getR rfl (ySh.t hS rfl) (ySh.n hS rfl) rfl rfl (ySh.r hS rfl) ?_
                        refine y_iload rfl rfl ?_
                        refine y_ialoadw (j := 8) (J := I 84) rfl (ySh.t hS rfl) (ySh.n hS rfl) (by decide) (by decide) rfl (((hB.trans hX).n (by omega)).trans (by repeat (first | rfl | (rw [upd2_row (by first | decide | omega)]) | refine upd2_cg ?_))) ?_
                        refine y_iload rfl rfl ?_
                        refine y_icmp_ge rfl j_X14_buyOut_146 (fun h_270 => ?_) (fun h_271 => ?_)
                        · refine y_iconst rfl ?_
                          refine y_iconst rfl ?_
                          refine y_virt rfl rfl rfl rfl rfl (ySh.t hS rfl) (ySh.n hS rfl) ?_
                          refine y_in (M := xm_X14_refuse) (ls := [some _, some _, some _]) rfl rfl rfl ?_
                          refine y_iload_n rfl rfl ?_
                          refine y_if_eqT rfl j_X14_refuse_16 (by decide) ?_
                          refine y_aload_n rfl rfl ?_
                          refine y_getIv (v := Int32.ofInt (0)) rfl (ySh.t hS rfl) (ySh.n hS rfl) rfl rfl hth ?_
                          refine y_if_leT rfl j_X14_refuse_27 (by decide) ?_
                          refine y_iconst rfl ?_
                          refine y_ireturn rfl rfl rfl ?_
                          refine y_ret1 ?_
                          refine y_if_eqT rfl j_X14_buyOut_156 (by decide) ?_
                          refine y_aload rfl rfl ?_
                          obtain ⟨hR_v272, hb_v272, ht_v272⟩ := hR0.ven hlo_b231 hb0_b231 ht_b231 (j := 1) (by decide)
                          have hb0_v272 := hb_v272
                          have hb_v272 := Nat.lt_of_lt_of_le hb_v272 hn
                          have hlo_v272 : 94 ≤ b231 + 1 + 1 := by omega
                          have hR2_v272 := (congrFun (hX.2.1 b231 hb_b231).2.2 1).trans hR_v272
                          refine y_getR rfl ((hX.2.1 _ hb_b231).1.trans ht_b231) (Nat.lt_of_lt_of_le hb_b231 hX.1) rfl rfl hR2_v272 ?_
                          refine y_iload rfl rfl ?_
                          refine y_dup2 rfl rfl rfl ?_
                          refine y_ialoadv (J := I (b231 + 1 + 1)) rfl ((hX.2.1 _ hb_v272).1.trans ht_v272) (Nat.lt_of_lt_of_le hb_v272 hX.1) (by omega) (by omega) (((hB.trans hX).n (by omega)).trans (by repeat (first | rfl | (rw [upd2_row (by first | decide | omega)]) | refine upd2_cg ?_))) ?_
                          refine y_iload rfl rfl ?_
                          refine y_isub rfl ?_
                          refine y_iastore rfl ((hX.2.1 _ hb_v272).1.trans ht_v272) (Nat.lt_of_lt_of_le hb_v272 hX.1) (Nat.le_trans (by decide) (by omega : 94 ≤ _)) (by omega) (by omega) ?_
                          refine y_nameI (fun I273 e273 => ?_)
                          have hB1 := (hR0.grow hX).capB1x hlo_b231 (by omega) ((hX.2.1 _ hb_b231).1.trans ht_b231) (by omega) e273 (by rw [show I224 (b231 + 1 + 1) = I (b231 + 1 + 1) from ((hB.trans hX).n (by omega)).trans (by repeat (first | rfl | (rw [upd2_row (by first | decide | omega)]) | refine upd2_cg ?_))]) ⟨by omega, by rw [show I224 (b231 + 1 + 1) = I (b231 + 1 + 1) from ((hB.trans hX).n (by omega)).trans (by repeat (first | rfl | (rw [upd2_row (by first | decide | omega)]) | refine upd2_cg ?_))]; omega⟩
                          have hR1 := hB1.1
                          have hK := (hK.x hRo hno hX).upE hRo hno (upI e273) (by omega) (by omega) (by rw [((hX.2.1 _ hb_v272).1.trans ht_v272)]; decide) (by rw [e273, upd2_ne (.inl (by omega))]; exact Int.le_refl _)
                          have hth := (show I273 83 0 = I224 83 0 by rw [e273, upd2_ne (.inl (by omega))]).trans hth
                          have hzz : ySz I224 I273 := ySz_ofE (upI e273) (by omega)
                          have hB := (hB.trans hX).wr e273 rfl
                          have h8 : ∀ a, 84 ≤ a → a ≤ 86 → I273 a = I a := fun a h1 h2 => (upI e273 a (by omega)).trans ((hX.2.1 a (by omega)).2.1.trans (h8 a h1 h2))
                          have h3k : ∀ k, k ≠ 0 → I273 83 k = I 83 k := fun k hk => (congrFun (congrFun e273 83) k).trans ((upd2_ne (.inl (by omega))).trans ((congrFun (hX.2.1 83 (by omega)).2.1 k).trans (h3k k hk)))
                          have hg := (hg.gx hX (by omega)).both e273
                          have hday : I273 83 1 = I 83 1 := (congrFun (congrFun e273 83) 1).trans ((upd2_ne (.inl (by omega))).trans ((congrFun (hX.2.1 83 (by omega)).2.1 1).trans hday))
                          have hRb : ∀ a, a < n → R a = R a := fun a ha => (hX.2.1 a (by omega)).2.2.trans (hRb a ha)
                          have hS0 := hS
                          have hR0 := hR1
                          have ht_b231 := (hX.2.1 _ hb_b231).1.trans ht_b231
                          have hb_b231 := Nat.lt_of_lt_of_le hb_b231 hX.1
                          have hb0_b231 := hb_b231
                          have ht_v258 := (hX.2.1 _ hb_v258).1.trans ht_v258
                          have hb_v258 := Nat.lt_of_lt_of_le hb_v258 hX.1
                          have hb0_v258 := hb_v258
                          have ht_v262 := (hX.2.1 _ hb_v262).1.trans ht_v262
                          have hb_v262 := Nat.lt_of_lt_of_le hb_v262 hX.1
                          have hb0_v262 := hb_v262
                          have ht_v266 := (hX.2.1 _ hb_v266).1.trans ht_v266
                          have hb_v266 := Nat.lt_of_lt_of_le hb_v266 hX.1
                          have hb0_v266 := hb_v266
                          have ht_v272 := (hX.2.1 _ hb_v272).1.trans ht_v272
                          have hb_v272 := Nat.lt_of_lt_of_le hb_v272 hX.1
                          have hb0_v272 := hb_v272
                          have hn := Nat.le_refl n
                          have h94 := hS0.1
                          have hX := @yX.rf n tg I273 R
                          have hS := hS0.x hX
                          have hR := hR0.x hn hX
                          have hz := hX.sz h94
                          have hxn := hX.1
                          have hN := hR0.1
                          have hnb := hR0.2.2.2.2.2.2
                          have hthB := hth
                          refine y_aload rfl rfl ?_
                          obtain ⟨hR_v274, hb_v274, ht_v274⟩ := hR0.ven hlo_b231 hb0_b231 ht_b231 (j := 1) (by decide)
                          have hb0_v274 := hb_v274
                          have hb_v274 := Nat.lt_of_lt_of_le hb_v274 hn
                          have hlo_v274 : 94 ≤ b231 + 1 + 1 := by omega
                          have hR2_v274 := (congrFun (hX.2.1 b231 hb_b231).2.2 1).trans hR_v274
                          refine y_getR rfl ((hX.2.1 _ hb_b231).1.trans ht_b231) (Nat.lt_of_lt_of_le hb_b231 hX.1) rfl rfl hR2_v274 ?_
                          refine y_iload rfl rfl ?_
                          refine y_dup2 rfl rfl rfl ?_
                          refine y_ialoadw (j := 8) (J := _) rfl ((hX.2.1 _ hb_v274).1.trans ht_v274) (Nat.lt_of_lt_of_le hb_v274 hX.1) (by decide) (by decide) rfl ((hB.trans hX).n (by omega)) ?_
                          refine y_iload rfl rfl ?_
                          refine y_iadd rfl ?_
                          refine y_iastoreC (j := 8) rfl ((hX.2.1 _ hb_v274).1.trans ht_v274) (Nat.lt_of_lt_of_le hb_v274 hX.1) (Nat.le_trans (by decide) (by omega : 94 ≤ _)) (by decide) (by decide) rfl ?_
                          refine y_nameI (fun I275 e275 => ?_)
                          have hR1 := (hR0.grow hX).capB2x hlo_b231 (by omega) ((hX.2.1 _ hb_b231).1.trans ht_b231) (by omega) (by omega) hB1.2.1 e275 (by rw [show I273 (b231 + 1 + 1) = _ from ((hB.trans hX).n (by omega))])
                          have hK := (hK.x hRo hno hX).upE hRo hno (upI e275) (by omega) (by omega) (by rw [((hX.2.1 _ hb_v274).1.trans ht_v274)]; decide) (by rw [e275, upd2_ne (.inl (by omega))]; exact Int.le_refl _)
                          have hth := (show I275 83 0 = I273 83 0 by rw [e275, upd2_ne (.inl (by omega))]).trans hth
                          have hzz : ySz I273 I275 := ySz_ofE (upI e275) (by omega)
                          have hB := (hB.trans hX).wr e275 rfl
                          have h8 : ∀ a, 84 ≤ a → a ≤ 86 → I275 a = I a := fun a h1 h2 => (upI e275 a (by omega)).trans ((hX.2.1 a (by omega)).2.1.trans (h8 a h1 h2))
                          have h3k : ∀ k, k ≠ 0 → I275 83 k = I 83 k := fun k hk => (congrFun (congrFun e275 83) k).trans ((upd2_ne (.inl (by omega))).trans ((congrFun (hX.2.1 83 (by omega)).2.1 k).trans (h3k k hk)))
                          have hg := (hg.gx hX (by omega)).both e275
                          have hday : I275 83 1 = I 83 1 := (congrFun (congrFun e275 83) 1).trans ((upd2_ne (.inl (by omega))).trans ((congrFun (hX.2.1 83 (by omega)).2.1 1).trans hday))
                          have hRb : ∀ a, a < n → R a = R a := fun a ha => (hX.2.1 a (by omega)).2.2.trans (hRb a ha)
                          have hS0 := hS
                          have hR0 := hR1
                          have ht_b231 := (hX.2.1 _ hb_b231).1.trans ht_b231
                          have hb_b231 := Nat.lt_of_lt_of_le hb_b231 hX.1
                          have hb0_b231 := hb_b231
                          have ht_v258 := (hX.2.1 _ hb_v258).1.trans ht_v258
                          have hb_v258 := Nat.lt_of_lt_of_le hb_v258 hX.1
                          have hb0_v258 := hb_v258
                          have ht_v262 := (hX.2.1 _ hb_v262).1.trans ht_v262
                          have hb_v262 := Nat.lt_of_lt_of_le hb_v262 hX.1
                          have hb0_v262 := hb_v262
                          have ht_v266 := (hX.2.1 _ hb_v266).1.trans ht_v266
                          have hb_v266 := Nat.lt_of_lt_of_le hb_v266 hX.1
                          have hb0_v266 := hb_v266
                          have ht_v272 := (hX.2.1 _ hb_v272).1.trans ht_v272
                          have hb_v272 := Nat.lt_of_lt_of_le hb_v272 hX.1
                          have hb0_v272 := hb_v272
                          have ht_v274 := (hX.2.1 _ hb_v274).1.trans ht_v274
                          have hb_v274 := Nat.lt_of_lt_of_le hb_v274 hX.1
                          have hb0_v274 := hb_v274
                          have hn := Nat.le_refl n
                          have h94 := hS0.1
                          have hX := @yX.rf n tg I275 R
                          have hS := hS0.x hX
                          have hR := hR0.x hn hX
                          have hz := hX.sz h94
                          have hxn := hX.1
                          have hN := hR0.1
                          have hnb := hR0.2.2.2.2.2.2
                          have hthB := hth
                          refine y_aload_n rfl rfl ?_
                          refine y_getR rfl (ySh.t hS rfl) (ySh.n hS rfl) rfl rfl (ySh.r hS rfl) ?_
                          refine y_iload rfl rfl ?_
                          refine y_dup2 rfl rfl rfl ?_
                          refine y_ialoadv (J := I 84) rfl (ySh.t hS rfl) (ySh.n hS rfl) (by omega) (by omega) (((hB.trans hX).n (by omega)).trans (by repeat (first | rfl | (rw [upd2_row (by first | decide | omega)]) | refine upd2_cg ?_))) ?_
                          refine y_iload rfl rfl ?_
                          refine y_iadd rfl ?_
                          refine y_iastore rfl (ySh.t hS rfl) (ySh.n hS rfl) (Nat.le_of_ble_eq_true rfl) (by omega) (by omega) ?_
                          refine y_nameI (fun I276 e276 => ?_)
                          have hR1 := (hR0.grow hX).arr e276 (by decide)
                          have hK := (hK.x hRo hno hX).upI (upI e276) (by decide) (by decide) (fun i hi => by have := (hRo.l87.2.2.2.2 i hi).2.1; omega) (by rw [e276, upd2_ne (.inl (by omega))]; exact Int.le_refl _)
                          have hth := (show I276 83 0 = I275 83 0 by rw [e276, upd2_ne (.inl (by omega))]).trans hth
                          have hzz : ySz I275 I276 := ySz_ofE (upI e276) (by omega)
                          have hB := (hB.trans hX).wr e276 rfl
                          have h3k : ∀ k, k ≠ 0 → I276 83 k = I 83 k := fun k hk => (congrFun (congrFun e276 83) k).trans ((upd2_ne (.inl (by omega))).trans ((congrFun (hX.2.1 83 (by omega)).2.1 k).trans (h3k k hk)))
                          have hg := (hg.gx hX (by omega)).skip e276 (by decide)
                          have hday : I276 83 1 = I 83 1 := (congrFun (congrFun e276 83) 1).trans ((upd2_ne (.inl (by omega))).trans ((congrFun (hX.2.1 83 (by omega)).2.1 1).trans hday))
                          have hRb : ∀ a, a < n → R a = R a := fun a ha => (hX.2.1 a (by omega)).2.2.trans (hRb a ha)
                          have hS0 := hS
                          have hR0 := hR1
                          have ht_b231 := (hX.2.1 _ hb_b231).1.trans ht_b231
                          have hb_b231 := Nat.lt_of_lt_of_le hb_b231 hX.1
                          have hb0_b231 := hb_b231
                          have ht_v258 := (hX.2.1 _ hb_v258).1.trans ht_v258
                          have hb_v258 := Nat.lt_of_lt_of_le hb_v258 hX.1
                          have hb0_v258 := hb_v258
                          have ht_v262 := (hX.2.1 _ hb_v262).1.trans ht_v262
                          have hb_v262 := Nat.lt_of_lt_of_le hb_v262 hX.1
                          have hb0_v262 := hb_v262
                          have ht_v266 := (hX.2.1 _ hb_v266).1.trans ht_v266
                          have hb_v266 := Nat.lt_of_lt_of_le hb_v266 hX.1
                          have hb0_v266 := hb_v266
                          have ht_v272 := (hX.2.1 _ hb_v272).1.trans ht_v272
                          have hb_v272 := Nat.lt_of_lt_of_le hb_v272 hX.1
                          have hb0_v272 := hb_v272
                          have ht_v274 := (hX.2.1 _ hb_v274).1.trans ht_v274
                          have hb_v274 := Nat.lt_of_lt_of_le hb_v274 hX.1
                          have hb0_v274 := hb_v274
                          have hn := Nat.le_refl n
                          have h94 := hS0.1
                          have hX := @yX.rf n tg I276 R
                          have hS := hS0.x hX
                          have hR := hR0.x hn hX
                          have hz := hX.sz h94
                          have hxn := hX.1
                          have hN := hR0.1
                          have hnb := hR0.2.2.2.2.2.2
                          have hthB := hth
                          refine y_aload_n rfl rfl ?_
                          refine y_getR rfl (ySh.t hS rfl) (ySh.n hS rfl) rfl rfl (ySh.r hS rfl) ?_
                          refine y_iload rfl rfl ?_
                          refine y_dup2 rfl rfl rfl ?_
                          refine y_ialoadw (j := 8) (J := _) rfl (ySh.t hS rfl) (ySh.n hS rfl) (by decide) (by decide) rfl ((hB.trans hX).n (by omega)) ?_
                          refine y_iload rfl rfl ?_
                          refine y_isub rfl ?_
                          refine y_iastoreC (j := 8) rfl (ySh.t hS rfl) (ySh.n hS rfl) (Nat.le_of_ble_eq_true rfl) (by decide) (by decide) rfl ?_
                          refine y_nameI (fun I277 e277 => ?_)
                          have hR1 := (hR0.grow hX).arr e277 (by decide)
                          have hK := (hK.x hRo hno hX).upI (upI e277) (by decide) (by decide) (fun i hi => by have := (hRo.l87.2.2.2.2 i hi).2.1; omega) (by rw [e277, upd2_ne (.inl (by omega))]; exact Int.le_refl _)
                          have hth := (show I277 83 0 = I276 83 0 by rw [e277, upd2_ne (.inl (by omega))]).trans hth
                          have hzz : ySz I276 I277 := ySz_ofE (upI e277) (by omega)
                          have hB := (hB.trans hX).wr e277 rfl
                          have h3k : ∀ k, k ≠ 0 → I277 83 k = I 83 k := fun k hk => (congrFun (congrFun e277 83) k).trans ((upd2_ne (.inl (by omega))).trans ((congrFun (hX.2.1 83 (by omega)).2.1 k).trans (h3k k hk)))
                          have hg := (hg.gx hX (by omega)).skip e277 (by decide)
                          have hday : I277 83 1 = I 83 1 := (congrFun (congrFun e277 83) 1).trans ((upd2_ne (.inl (by omega))).trans ((congrFun (hX.2.1 83 (by omega)).2.1 1).trans hday))
                          have hRb : ∀ a, a < n → R a = R a := fun a ha => (hX.2.1 a (by omega)).2.2.trans (hRb a ha)
                          have hS0 := hS
                          have hR0 := hR1
                          have ht_b231 := (hX.2.1 _ hb_b231).1.trans ht_b231
                          have hb_b231 := Nat.lt_of_lt_of_le hb_b231 hX.1
                          have hb0_b231 := hb_b231
                          have ht_v258 := (hX.2.1 _ hb_v258).1.trans ht_v258
                          have hb_v258 := Nat.lt_of_lt_of_le hb_v258 hX.1
                          have hb0_v258 := hb_v258
                          have ht_v262 := (hX.2.1 _ hb_v262).1.trans ht_v262
                          have hb_v262 := Nat.lt_of_lt_of_le hb_v262 hX.1
                          have hb0_v262 := hb_v262
                          have ht_v266 := (hX.2.1 _ hb_v266).1.trans ht_v266
                          have hb_v266 := Nat.lt_of_lt_of_le hb_v266 hX.1
                          have hb0_v266 := hb_v266
                          have ht_v272 := (hX.2.1 _ hb_v272).1.trans ht_v272
                          have hb_v272 := Nat.lt_of_lt_of_le hb_v272 hX.1
                          have hb0_v272 := hb_v272
                          have ht_v274 := (hX.2.1 _ hb_v274).1.trans ht_v274
                          have hb_v274 := Nat.lt_of_lt_of_le hb_v274 hX.1
                          have hb0_v274 := hb_v274
                          have hn := Nat.le_refl n
                          have h94 := hS0.1
                          have hX := @yX.rf n tg I277 R
                          have hS := hS0.x hX
                          have hR := hR0.x hn hX
                          have hz := hX.sz h94
                          have hxn := hX.1
                          have hN := hR0.1
                          have hnb := hR0.2.2.2.2.2.2
                          have hthB := hth
                          refine y_aload rfl rfl ?_
                          obtain ⟨hR_v278, hb_v278, ht_v278⟩ := hR0.ven hlo_b231 hb0_b231 ht_b231 (j := 1) (by decide)
                          have hb0_v278 := hb_v278
                          have hb_v278 := Nat.lt_of_lt_of_le hb_v278 hn
                          have hlo_v278 : 94 ≤ b231 + 1 + 1 := by omega
                          have hR2_v278 := (congrFun (hX.2.1 b231 hb_b231).2.2 1).trans hR_v278
                          refine y_getR rfl ((hX.2.1 _ hb_b231).1.trans ht_b231) (Nat.lt_of_lt_of_le hb_b231 hX.1) rfl rfl hR2_v278 ?_
                          refine y_iload rfl rfl ?_
                          refine y_ialoadv (J := _) rfl ((hX.2.1 _ hb_v278).1.trans ht_v278) (Nat.lt_of_lt_of_le hb_v278 hX.1) (by omega) (by omega) ((hB.trans hX).n (by omega)) ?_
                          refine y_ireturn rfl rfl rfl ?_
                          exact hQ0 _ eb_b231 (by first | omega | (simp only [show ySeat x2 = x2 from if_neg (by omega), show ySeat x3 = x3 from if_neg (by omega)]; omega) | (simp only [show ySeat x2 = x2 from if_neg (by omega), show ySeat x3 = Int32.ofInt 8 from if_pos (by omega), show (Int32.ofInt 8).toInt.toNat = 8 from by decide]; omega) | (simp only [show ySeat x2 = Int32.ofInt 8 from if_pos (by omega), show ySeat x3 = x3 from if_neg (by omega), show (Int32.ofInt 8).toInt.toNat = 8 from by decide]; omega) | (simp only [show ySeat x2 = Int32.ofInt 8 from if_pos (by omega), show ySeat x3 = Int32.ofInt 8 from if_pos (by omega), show (Int32.ofInt 8).toInt.toNat = 8 from by decide]; omega)) _ _ _ _ _ _ _ hS ((hR0.grow hX).up (Nat.le_succ K) hk6) (hK.x hRo hno hX) hth (by first | exact (congrFun ((hB.trans hX).n (by omega)) _).symm | (simp only [show ySeat x2 = x2 from if_neg (by omega), show ySeat x3 = x3 from if_neg (by omega)]; exact (congrFun ((hB.trans hX).n (by omega)) _).symm) | (simp only [show ySeat x2 = x2 from if_neg (by omega), show ySeat x3 = Int32.ofInt 8 from if_pos (by omega), show (Int32.ofInt 8).toInt.toNat = 8 from by decide]; exact (congrFun ((hB.trans hX).n (by omega)) _).symm) | (simp only [show ySeat x2 = Int32.ofInt 8 from if_pos (by omega), show ySeat x3 = x3 from if_neg (by omega), show (Int32.ofInt 8).toInt.toNat = 8 from by decide]; exact (congrFun ((hB.trans hX).n (by omega)) _).symm) | (simp only [show ySeat x2 = Int32.ofInt 8 from if_pos (by omega), show ySeat x3 = Int32.ofInt 8 from if_pos (by omega), show (Int32.ofInt 8).toInt.toNat = 8 from by decide]; exact (congrFun ((hB.trans hX).n (by omega)) _).symm)) (by first | (exact hB.trans hX) | (simp only [show ySeat x2 = x2 from if_neg (by omega), show ySeat x3 = x3 from if_neg (by omega)]; exact hB.trans hX) | (simp only [show ySeat x2 = x2 from if_neg (by omega), show ySeat x3 = Int32.ofInt 8 from if_pos (by omega), show (Int32.ofInt 8).toInt.toNat = 8 from by decide]; exact hB.trans hX) | (simp only [show ySeat x2 = Int32.ofInt 8 from if_pos (by omega), show ySeat x3 = x3 from if_neg (by omega), show (Int32.ofInt 8).toInt.toNat = 8 from by decide]; exact hB.trans hX) | (simp only [show ySeat x2 = Int32.ofInt 8 from if_pos (by omega), show ySeat x3 = Int32.ofInt 8 from if_pos (by omega), show (Int32.ofInt 8).toInt.toNat = 8 from by decide]; exact hB.trans hX)) (by omega) (by omega)
                        · refine y_iconst rfl ?_
                          refine y_goto rfl j_X14_buyOut_147 ?_
                          refine y_iconst rfl ?_
                          refine y_virt rfl rfl rfl rfl rfl (ySh.t hS rfl) (ySh.n hS rfl) ?_
                          refine y_in (M := xm_X14_refuse) (ls := [some _, some _, some _]) rfl rfl rfl ?_
                          refine y_iload_n rfl rfl ?_
                          refine y_if_eqF rfl (by decide) ?_
                          refine y_aload_n rfl rfl ?_
                          refine y_getIv (v := Int32.ofInt (0)) rfl (ySh.t hS rfl) (ySh.n hS rfl) rfl rfl hth ?_
                          refine y_if_neF rfl (by decide) ?_
                          refine y_aload_n rfl rfl ?_
                          refine y_iload_n rfl rfl ?_
                          refine y_putI rfl (ySh.t hS rfl) (ySh.n hS rfl) rfl (Nat.le_of_ble_eq_true rfl) rfl rfl ?_
                          refine y_nameI (fun I279 e279 => ?_)
                          have hR1 := (hR0.grow hX).mod0 e279 (by decide) (by decide)
                          have hK := (hK.x hRo hno hX).upI (upI e279) (by decide) (by decide) (fun i hi => by have := (hRo.l87.2.2.2.2 i hi).2.1; omega) (by rw [e279, upd2_ne (.inr (by decide))]; exact Int.le_refl _)
                          have hth : I279 83 0 = Int32.ofInt (3) := by rw [e279, upd2_self]
                          have hzz : ySz8 I224 I279 := ySz8_of (upI e279) (by rw [e279]; exact ⟨upd2_ne (.inr (by decide)), upd2_ne (.inr (by decide))⟩)
                          have hB := (hB.trans hX).wr e279 rfl
                          have h8 : ∀ a, 84 ≤ a → a ≤ 86 → I279 a = I a := fun a h1 h2 => (upI e279 a (by omega)).trans ((hX.2.1 a (by omega)).2.1.trans (h8 a h1 h2))
                          have h3k : ∀ k, k ≠ 0 → I279 83 k = I 83 k := fun k hk => (congrFun (congrFun e279 83) k).trans ((upd2_ne (.inr hk)).trans ((congrFun (hX.2.1 83 (by omega)).2.1 k).trans (h3k k hk)))
                          have hg := (hg.gx hX (by omega)).skip e279 (by decide)
                          have hday : I279 83 1 = I 83 1 := (congrFun (congrFun e279 83) 1).trans ((upd2_ne (.inr (by decide))).trans ((congrFun (hX.2.1 83 (by omega)).2.1 1).trans hday))
                          have hRb : ∀ a, a < n → R a = R a := fun a ha => (hX.2.1 a (by omega)).2.2.trans (hRb a ha)
                          have hb83 : ∀ a, a ≠ 83 → a < n → I279 a = I a := fun a ha hb => (upI e279 a ha).trans ((hX.2.1 a (by omega)).2.1.trans (hb83 a ha hb))
                          have hS0 := hS
                          have hR0 := hR1
                          have ht_b231 := (hX.2.1 _ hb_b231).1.trans ht_b231
                          have hb_b231 := Nat.lt_of_lt_of_le hb_b231 hX.1
                          have hb0_b231 := hb_b231
                          have ht_v258 := (hX.2.1 _ hb_v258).1.trans ht_v258
                          have hb_v258 := Nat.lt_of_lt_of_le hb_v258 hX.1
                          have hb0_v258 := hb_v258
                          have ht_v262 := (hX.2.1 _ hb_v262).1.trans ht_v262
                          have hb_v262 := Nat.lt_of_lt_of_le hb_v262 hX.1
                          have hb0_v262 := hb_v262
                          have ht_v266 := (hX.2.1 _ hb_v266).1.trans ht_v266
                          have hb_v266 := Nat.lt_of_lt_of_le hb_v266 hX.1
                          have hb0_v266 := hb_v266
                          have hn := Nat.le_refl n
                          have h94 := hS0.1
                          have hX := @yX.rf n tg I279 R
                          have hS := hS0.x hX
                          have hR := hR0.x hn hX
                          have hz := hX.sz h94
                          have hxn := hX.1
                          have hN := hR0.1
                          have hnb := hR0.2.2.2.2.2.2
                          have hthB := hth
                          refine y_aload_n rfl rfl ?_
                          refine y_getIv (v := Int32.ofInt (3)) rfl (ySh.t hS rfl) (ySh.n hS rfl) rfl rfl hth ?_
                          refine y_if_leF rfl (by decide) ?_
                          refine y_iconst rfl ?_
                          refine y_goto rfl j_X14_refuse_28 ?_
                          refine y_ireturn rfl rfl rfl ?_
                          refine y_ret1 ?_
                          refine y_if_eqF rfl (by decide) ?_
                          refine y_iconst rfl ?_
                          refine y_ireturn rfl rfl rfl ?_
                          exact hQ3 _ eb_b231 (by first | omega | (simp only [show ySeat x2 = x2 from if_neg (by omega), show ySeat x3 = x3 from if_neg (by omega)]; omega) | (simp only [show ySeat x2 = x2 from if_neg (by omega), show ySeat x3 = Int32.ofInt 8 from if_pos (by omega), show (Int32.ofInt 8).toInt.toNat = 8 from by decide]; omega) | (simp only [show ySeat x2 = Int32.ofInt 8 from if_pos (by omega), show ySeat x3 = x3 from if_neg (by omega), show (Int32.ofInt 8).toInt.toNat = 8 from by decide]; omega) | (simp only [show ySeat x2 = Int32.ofInt 8 from if_pos (by omega), show ySeat x3 = Int32.ofInt 8 from if_pos (by omega), show (Int32.ofInt 8).toInt.toNat = 8 from by decide]; omega)) _ _ _ _ _ _ _ hS ((hR0.grow hX).up (Nat.le_succ K) hk6) (hK.x hRo hno hX) hth ((hB.trans hX).rf2 (by omega)) (by omega) (by omega)
              · rw [yz_m1] at h_233
                refine y_bip rfl (by decide) ?_
                refine y_goto rfl j_X14_seat_11 ?_
                refine y_ireturn rfl rfl rfl ?_
                refine y_ret1 ?_
                refine y_istore (ls' := [some _, some _, some _, some _, some _, some _, some _, _]) rfl rfl rfl ?_
                refine y_iload_n rfl rfl ?_
                refine y_static rfl rfl rfl rfl rfl ?_
                refine y_in (M := xm_X14_seat) (ls := [some _]) rfl rfl rfl ?_
                refine y_iload_n rfl rfl ?_
                refine y_iconst rfl ?_
                refine y_icmp_ne rfl j_X14_seat_10 (fun h_280 => ?_) (fun h_281 => ?_)
                · rw [yz_m1] at h_280
                  refine y_iload_n rfl rfl ?_
                  refine y_ireturn rfl rfl rfl ?_
                  refine y_ret1 ?_
                  refine y_istore (ls' := [some _, some _, some _, some _, some _, some _, some _, some _]) rfl rfl rfl ?_
                  refine y_aload_n rfl rfl ?_
                  refine y_aload rfl rfl ?_
                  obtain ⟨hR_v282, hb_v282, ht_v282⟩ := hR0.ven hlo_b231 hb0_b231 ht_b231 (j := 0) (by decide)
                  have hb0_v282 := hb_v282
                  have hb_v282 := Nat.lt_of_lt_of_le hb_v282 hn
                  have hlo_v282 : 94 ≤ b231 + 1 + 0 := by omega
                  have hR2_v282 := (congrFun (hX.2.1 b231 hb_b231).2.2 0).trans hR_v282
                  refine y_getR rfl ((hX.2.1 _ hb_b231).1.trans ht_b231) (Nat.lt_of_lt_of_le hb_b231 hX.1) rfl rfl hR2_v282 ?_
                  refine y_iload rfl rfl ?_
                  refine y_baloadw (j := 8) (J := I (b231 + 1 + 0)) rfl ((hX.2.1 _ hb_v282).1.trans ht_v282) rfl (Nat.lt_of_lt_of_le hb_v282 hX.1) (by decide) (by decide) rfl (((hB.trans hX).n (by omega)).trans (by repeat (first | rfl | (rw [upd2_row (by first | decide | omega)]) | refine upd2_cg ?_))) ?_
                  refine y_if_eq rfl j_X14_buyOut_142 (fun h_283 => ?_) (fun h_284 => ?_)
                  · refine y_iconst rfl ?_
                    refine y_goto rfl j_X14_buyOut_147 ?_
                    refine y_iconst rfl ?_
                    refine y_virt rfl rfl rfl rfl rfl (ySh.t hS rfl) (ySh.n hS rfl) ?_
                    refine y_in (M := xm_X14_refuse) (ls := [some _, some _, some _]) rfl rfl rfl ?_
                    refine y_iload_n rfl rfl ?_
                    refine y_if_eqF rfl (by decide) ?_
                    refine y_aload_n rfl rfl ?_
                    refine y_getIv (v := Int32.ofInt (0)) rfl (ySh.t hS rfl) (ySh.n hS rfl) rfl rfl hth ?_
                    refine y_if_neF rfl (by decide) ?_
                    refine y_aload_n rfl rfl ?_
                    refine y_iload_n rfl rfl ?_
                    refine y_putI rfl (ySh.t hS rfl) (ySh.n hS rfl) rfl (Nat.le_of_ble_eq_true rfl) rfl rfl ?_
                    refine y_nameI (fun I285 e285 => ?_)
                    have hR1 := (hR0.grow hX).mod0 e285 (by decide) (by decide)
                    have hK := (hK.x hRo hno hX).upI (upI e285) (by decide) (by decide) (fun i hi => by have := (hRo.l87.2.2.2.2 i hi).2.1; omega) (by rw [e285, upd2_ne (.inr (by decide))]; exact Int.le_refl _)
                    have hth : I285 83 0 = Int32.ofInt (3) := by rw [e285, upd2_self]
                    have hzz : ySz8 I224 I285 := ySz8_of (upI e285) (by rw [e285]; exact ⟨upd2_ne (.inr (by decide)), upd2_ne (.inr (by decide))⟩)
                    have hB := (hB.trans hX).wr e285 rfl
                    have h8 : ∀ a, 84 ≤ a → a ≤ 86 → I285 a = I a := fun a h1 h2 => (upI e285 a (by omega)).trans ((hX.2.1 a (by omega)).2.1.trans (h8 a h1 h2))
                    have h3k : ∀ k, k ≠ 0 → I285 83 k = I 83 k := fun k hk => (congrFun (congrFun e285 83) k).trans ((upd2_ne (.inr hk)).trans ((congrFun (hX.2.1 83 (by omega)).2.1 k).trans (h3k k hk)))
                    have hg := (hg.gx hX (by omega)).skip e285 (by decide)
                    have hday : I285 83 1 = I 83 1 := (congrFun (congrFun e285 83) 1).trans ((upd2_ne (.inr (by decide))).trans ((congrFun (hX.2.1 83 (by omega)).2.1 1).trans hday))
                    have hRb : ∀ a, a < n → R a = R a := fun a ha => (hX.2.1 a (by omega)).2.2.trans (hRb a ha)
                    have hb83 : ∀ a, a ≠ 83 → a < n → I285 a = I a := fun a ha hb => (upI e285 a ha).trans ((hX.2.1 a (by omega)).2.1.trans (hb83 a ha hb))
                    have hS0 := hS
                    have hR0 := hR1
                    have ht_b231 := (hX.2.1 _ hb_b231).1.trans ht_b231
                    have hb_b231 := Nat.lt_of_lt_of_le hb_b231 hX.1
                    have hb0_b231 := hb_b231
                    have ht_v282 := (hX.2.1 _ hb_v282).1.trans ht_v282
                    have hb_v282 := Nat.lt_of_lt_of_le hb_v282 hX.1
                    have hb0_v282 := hb_v282
                    have hn := Nat.le_refl n
                    have h94 := hS0.1
                    have hX := @yX.rf n tg I285 R
                    have hS := hS0.x hX
                    have hR := hR0.x hn hX
                    have hz := hX.sz h94
                    have hxn := hX.1
                    have hN := hR0.1
                    have hnb := hR0.2.2.2.2.2.2
                    have hthB := hth
                    refine y_aload_n rfl rfl ?_
                    refine y_getIv (v := Int32.ofInt (3)) rfl (ySh.t hS rfl) (ySh.n hS rfl) rfl rfl hth ?_
                    refine y_if_leF rfl (by decide) ?_
                    refine y_iconst rfl ?_
                    refine y_goto rfl j_X14_refuse_28 ?_
                    refine y_ireturn rfl rfl rfl ?_
                    refine y_ret1 ?_
                    refine y_if_eqF rfl (by decide) ?_
                    refine y_iconst rfl ?_
                    refine y_ireturn rfl rfl rfl ?_
                    exact hQ3 _ eb_b231 (by first | omega | (simp only [show ySeat x2 = x2 from if_neg (by omega), show ySeat x3 = x3 from if_neg (by omega)]; omega) | (simp only [show ySeat x2 = x2 from if_neg (by omega), show ySeat x3 = Int32.ofInt 8 from if_pos (by omega), show (Int32.ofInt 8).toInt.toNat = 8 from by decide]; omega) | (simp only [show ySeat x2 = Int32.ofInt 8 from if_pos (by omega), show ySeat x3 = x3 from if_neg (by omega), show (Int32.ofInt 8).toInt.toNat = 8 from by decide]; omega) | (simp only [show ySeat x2 = Int32.ofInt 8 from if_pos (by omega), show ySeat x3 = Int32.ofInt 8 from if_pos (by omega), show (Int32.ofInt 8).toInt.toNat = 8 from by decide]; omega)) _ _ _ _ _ _ _ hS ((hR0.grow hX).up (Nat.le_succ K) hk6) (hK.x hRo hno hX) hth ((hB.trans hX).rf2 (by omega)) (by omega) (by omega)
                  · refine y_aload rfl rfl ?_
                    obtain ⟨hR_v286, hb_v286, ht_v286⟩ := hR0.ven hlo_b231 hb0_b231 ht_b231 (j := 0) (by decide)
                    have hb0_v286 := hb_v286
                    have hb_v286 := Nat.lt_of_lt_of_le hb_v286 hn
                    have hlo_v286 : 94 ≤ b231 + 1 + 0 := by omega
                    have hR2_v286 := (congrFun (hX.2.1 b231 hb_b231).2.2 0).trans hR_v286
                    refine y_getR rfl ((hX.2.1 _ hb_b231).1.trans ht_b231) (Nat.lt_of_lt_of_le hb_b231 hX.1) rfl rfl hR2_v286 ?_
                    refine y_iload rfl rfl ?_
                    refine y_baloadv (J := I (b231 + 1 + 0)) rfl ((hX.2.1 _ hb_v286).1.trans ht_v286) rfl (Nat.lt_of_lt_of_le hb_v286 hX.1) (by omega) (by omega) (((hB.trans hX).n (by omega)).trans (by repeat (first | rfl | (rw [upd2_row (by first | decide | omega)]) | refine upd2_cg ?_))) ?_
                    refine y_if_eq rfl j_X14_buyOut_142 (fun h_287 => ?_) (fun h_288 => ?_)
                    · refine y_iconst rfl ?_
                      refine y_goto rfl j_X14_buyOut_147 ?_
                      refine y_iconst rfl ?_
                      refine y_virt rfl rfl rfl rfl rfl (ySh.t hS rfl) (ySh.n hS rfl) ?_
                      refine y_in (M := xm_X14_refuse) (ls := [some _, some _, some _]) rfl rfl rfl ?_
                      refine y_iload_n rfl rfl ?_
                      refine y_if_eqF rfl (by decide) ?_
                      refine y_aload_n rfl rfl ?_
                      refine y_getIv (v := Int32.ofInt (0)) rfl (ySh.t hS rfl) (ySh.n hS rfl) rfl rfl hth ?_
                      refine y_if_neF rfl (by decide) ?_
                      refine y_aload_n rfl rfl ?_
                      refine y_iload_n rfl rfl ?_
                      refine y_putI rfl (ySh.t hS rfl) (ySh.n hS rfl) rfl (Nat.le_of_ble_eq_true rfl) rfl rfl ?_
                      refine y_nameI (fun I289 e289 => ?_)
                      have hR1 := (hR0.grow hX).mod0 e289 (by decide) (by decide)
                      have hK := (hK.x hRo hno hX).upI (upI e289) (by decide) (by decide) (fun i hi => by have := (hRo.l87.2.2.2.2 i hi).2.1; omega) (by rw [e289, upd2_ne (.inr (by decide))]; exact Int.le_refl _)
                      have hth : I289 83 0 = Int32.ofInt (3) := by rw [e289, upd2_self]
                      have hzz : ySz8 I224 I289 := ySz8_of (upI e289) (by rw [e289]; exact ⟨upd2_ne (.inr (by decide)), upd2_ne (.inr (by decide))⟩)
                      have hB := (hB.trans hX).wr e289 rfl
                      have h8 : ∀ a, 84 ≤ a → a ≤ 86 → I289 a = I a := fun a h1 h2 => (upI e289 a (by omega)).trans ((hX.2.1 a (by omega)).2.1.trans (h8 a h1 h2))
                      have h3k : ∀ k, k ≠ 0 → I289 83 k = I 83 k := fun k hk => (congrFun (congrFun e289 83) k).trans ((upd2_ne (.inr hk)).trans ((congrFun (hX.2.1 83 (by omega)).2.1 k).trans (h3k k hk)))
                      have hg := (hg.gx hX (by omega)).skip e289 (by decide)
                      have hday : I289 83 1 = I 83 1 := (congrFun (congrFun e289 83) 1).trans ((upd2_ne (.inr (by decide))).trans ((congrFun (hX.2.1 83 (by omega)).2.1 1).trans hday))
                      have hRb : ∀ a, a < n → R a = R a := fun a ha => (hX.2.1 a (by omega)).2.2.trans (hRb a ha)
                      have hb83 : ∀ a, a ≠ 83 → a < n → I289 a = I a := fun a ha hb => (upI e289 a ha).trans ((hX.2.1 a (by omega)).2.1.trans (hb83 a ha hb))
                      have hS0 := hS
                      have hR0 := hR1
                      have ht_b231 := (hX.2.1 _ hb_b231).1.trans ht_b231
                      have hb_b231 := Nat.lt_of_lt_of_le hb_b231 hX.1
                      have hb0_b231 := hb_b231
                      have ht_v282 := (hX.2.1 _ hb_v282).1.trans ht_v282
                      have hb_v282 := Nat.lt_of_lt_of_le hb_v282 hX.1
                      have hb0_v282 := hb_v282
                      have ht_v286 := (hX.2.1 _ hb_v286).1.trans ht_v286
                      have hb_v286 := Nat.lt_of_lt_of_le hb_v286 hX.1
                      have hb0_v286 := hb_v286
                      have hn := Nat.le_refl n
                      have h94 := hS0.1
                      have hX := @yX.rf n tg I289 R
                      have hS := hS0.x hX
                      have hR := hR0.x hn hX
                      have hz := hX.sz h94
                      have hxn := hX.1
                      have hN := hR0.1
                      have hnb := hR0.2.2.2.2.2.2
                      have hthB := hth
                      refine y_aload_n rfl rfl ?_
                      refine y_getIv (v := Int32.ofInt (3)) rfl (ySh.t hS rfl) (ySh.n hS rfl) rfl rfl hth ?_
                      refine y_if_leF rfl (by decide) ?_
                      refine y_iconst rfl ?_
                      refine y_goto rfl j_X14_refuse_28 ?_
                      refine y_ireturn rfl rfl rfl ?_
                      refine y_ret1 ?_
                      refine y_if_eqF rfl (by decide) ?_
                      refine y_iconst rfl ?_
                      refine y_ireturn rfl rfl rfl ?_
                      exact hQ3 _ eb_b231 (by first | omega | (simp only [show ySeat x2 = x2 from if_neg (by omega), show ySeat x3 = x3 from if_neg (by omega)]; omega) | (simp only [show ySeat x2 = x2 from if_neg (by omega), show ySeat x3 = Int32.ofInt 8 from if_pos (by omega), show (Int32.ofInt 8).toInt.toNat = 8 from by decide]; omega) | (simp only [show ySeat x2 = Int32.ofInt 8 from if_pos (by omega), show ySeat x3 = x3 from if_neg (by omega), show (Int32.ofInt 8).toInt.toNat = 8 from by decide]; omega) | (simp only [show ySeat x2 = Int32.ofInt 8 from if_pos (by omega), show ySeat x3 = Int32.ofInt 8 from if_pos (by omega), show (Int32.ofInt 8).toInt.toNat = 8 from by decide]; omega)) _ _ _ _ _ _ _ hS ((hR0.grow hX).up (Nat.le_succ K) hk6) (hK.x hRo hno hX) hth ((hB.trans hX).rf2 (by omega)) (by omega) (by omega)
                    · refine y_aload rfl rfl ?_
                      obtain ⟨hR_v290, hb_v290, ht_v290⟩ := hR0.ven hlo_b231 hb0_b231 ht_b231 (j := 1) (by decide)
                      have hb0_v290 := hb_v290
                      have hb_v290 := Nat.lt_of_lt_of_le hb_v290 hn
                      have hlo_v290 : 94 ≤ b231 + 1 + 1 := by omega
                      have hR2_v290 := (congrFun (hX.2.1 b231 hb_b231).2.2 1).trans hR_v290
                      refine y_getR rfl ((hX.2.1 _ hb_b231).1.trans ht_b231) (Nat.lt_of_lt_of_le hb_b231 hX.1) rfl rfl hR2_v290 ?_
                      refine y_iload rfl rfl ?_
                      refine y_ialoadw (j := 8) (J := I (b231 + 1 + 1)) rfl ((hX.2.1 _ hb_v290).1.trans ht_v290) (Nat.lt_of_lt_of_le hb_v290 hX.1) (by decide) (by decide) rfl (((hB.trans hX).n (by omega)).trans (by repeat (first | rfl | (rw [upd2_row (by first | decide | omega)]) | refine upd2_cg ?_))) ?_
                      refine y_iload rfl rfl ?_
                      refine y_icmp_lt rfl j_X14_buyOut_142 (fun h_291 => ?_) (fun h_292 => ?_)
                      · refine y_iconst rfl ?_
                        refine y_goto rfl j_X14_buyOut_147 ?_
                        refine y_iconst rfl ?_
                        refine y_virt rfl rfl rfl rfl rfl (ySh.t hS rfl) (ySh.n hS rfl) ?_
                        refine y_in (M := xm_X14_refuse) (ls := [some _, some _, some _]) rfl rfl rfl ?_
                        refine y_iload_n rfl rfl ?_
                        refine y_if_eqF rfl (by decide) ?_
                        refine y_aload_n rfl rfl ?_
                        refine y_getIv (v := Int32.ofInt (0)) rfl (ySh.t hS rfl) (ySh.n hS rfl) rfl rfl hth ?_
                        refine y_if_neF rfl (by decide) ?_
                        refine y_aload_n rfl rfl ?_
                        refine y_iload_n rfl rfl ?_
                        refine y_putI rfl (ySh.t hS rfl) (ySh.n hS rfl) rfl (Nat.le_of_ble_eq_true rfl) rfl rfl ?_
                        refine y_nameI (fun I293 e293 => ?_)
                        have hR1 := (hR0.grow hX).mod0 e293 (by decide) (by decide)
                        have hK := (hK.x hRo hno hX).upI (upI e293) (by decide) (by decide) (fun i hi => by have := (hRo.l87.2.2.2.2 i hi).2.1; omega) (by rw [e293, upd2_ne (.inr (by decide))]; exact Int.le_refl _)
                        have hth : I293 83 0 = Int32.ofInt (3) := by rw [e293, upd2_self]
                        have hzz : ySz8 I224 I293 := ySz8_of (upI e293) (by rw [e293]; exact ⟨upd2_ne (.inr (by decide)), upd2_ne (.inr (by decide))⟩)
                        have hB := (hB.trans hX).wr e293 rfl
                        have h8 : ∀ a, 84 ≤ a → a ≤ 86 → I293 a = I a := fun a h1 h2 => (upI e293 a (by omega)).trans ((hX.2.1 a (by omega)).2.1.trans (h8 a h1 h2))
                        have h3k : ∀ k, k ≠ 0 → I293 83 k = I 83 k := fun k hk => (congrFun (congrFun e293 83) k).trans ((upd2_ne (.inr hk)).trans ((congrFun (hX.2.1 83 (by omega)).2.1 k).trans (h3k k hk)))
                        have hg := (hg.gx hX (by omega)).skip e293 (by decide)
                        have hday : I293 83 1 = I 83 1 := (congrFun (congrFun e293 83) 1).trans ((upd2_ne (.inr (by decide))).trans ((congrFun (hX.2.1 83 (by omega)).2.1 1).trans hday))
                        have hRb : ∀ a, a < n → R a = R a := fun a ha => (hX.2.1 a (by omega)).2.2.trans (hRb a ha)
                        have hb83 : ∀ a, a ≠ 83 → a < n → I293 a = I a := fun a ha hb => (upI e293 a ha).trans ((hX.2.1 a (by omega)).2.1.trans (hb83 a ha hb))
                        have hS0 := hS
                        have hR0 := hR1
                        have ht_b231 := (hX.2.1 _ hb_b231).1.trans ht_b231
                        have hb_b231 := Nat.lt_of_lt_of_le hb_b231 hX.1
                        have hb0_b231 := hb_b231
                        have ht_v282 := (hX.2.1 _ hb_v282).1.trans ht_v282
                        have hb_v282 := Nat.lt_of_lt_of_le hb_v282 hX.1
                        have hb0_v282 := hb_v282
                        have ht_v286 := (hX.2.1 _ hb_v286).1.trans ht_v286
                        have hb_v286 := Nat.lt_of_lt_of_le hb_v286 hX.1
                        have hb0_v286 := hb_v286
                        have ht_v290 := (hX.2.1 _ hb_v290).1.trans ht_v290
                        have hb_v290 := Nat.lt_of_lt_of_le hb_v290 hX.1
                        have hb0_v290 := hb_v290
                        have hn := Nat.le_refl n
                        have h94 := hS0.1
                        have hX := @yX.rf n tg I293 R
                        have hS := hS0.x hX
                        have hR := hR0.x hn hX
                        have hz := hX.sz h94
                        have hxn := hX.1
                        have hN := hR0.1
                        have hnb := hR0.2.2.2.2.2.2
                        have hthB := hth
                        refine y_aload_n rfl rfl ?_
                        refine y_getIv (v := Int32.ofInt (3)) rfl (ySh.t hS rfl) (ySh.n hS rfl) rfl rfl hth ?_
                        refine y_if_leF rfl (by decide) ?_
                        refine y_iconst rfl ?_
                        refine y_goto rfl j_X14_refuse_28 ?_
                        refine y_ireturn rfl rfl rfl ?_
                        refine y_ret1 ?_
                        refine y_if_eqF rfl (by decide) ?_
                        refine y_iconst rfl ?_
                        refine y_ireturn rfl rfl rfl ?_
                        exact hQ3 _ eb_b231 (by first | omega | (simp only [show ySeat x2 = x2 from if_neg (by omega), show ySeat x3 = x3 from if_neg (by omega)]; omega) | (simp only [show ySeat x2 = x2 from if_neg (by omega), show ySeat x3 = Int32.ofInt 8 from if_pos (by omega), show (Int32.ofInt 8).toInt.toNat = 8 from by decide]; omega) | (simp only [show ySeat x2 = Int32.ofInt 8 from if_pos (by omega), show ySeat x3 = x3 from if_neg (by omega), show (Int32.ofInt 8).toInt.toNat = 8 from by decide]; omega) | (simp only [show ySeat x2 = Int32.ofInt 8 from if_pos (by omega), show ySeat x3 = Int32.ofInt 8 from if_pos (by omega), show (Int32.ofInt 8).toInt.toNat = 8 from by decide]; omega)) _ _ _ _ _ _ _ hS ((hR0.grow hX).up (Nat.le_succ K) hk6) (hK.x hRo hno hX) hth ((hB.trans hX).rf2 (by omega)) (by omega) (by omega)
                      · refine y_aload_n rfl rfl ?_
                        refine y_getR rfl (ySh.t hS rfl) (ySh.n hS rfl) rfl rfl (ySh.r hS rfl) ?_
                        refine y_iload rfl rfl ?_
                        refine y_ialoadv (J := I 84) rfl (ySh.t hS rfl) (ySh.n hS rfl) (by omega) (by omega) (((hB.trans hX).n (by omega)).trans (by repeat (first | rfl | (rw [upd2_row (by first | decide | omega)]) | refine upd2_cg ?_))) ?_
                        refine y_iload rfl rfl ?_
                        refine y_icmp_ge rfl j_X14_buyOut_146 (fun h_294 => ?_) (fun h_295 => ?_)
                        · refine y_iconst rfl ?_
                          refine y_iconst rfl ?_
                          refine y_virt rfl rfl rfl rfl rfl (ySh.t hS rfl) (ySh.n hS rfl) ?_
                          refine y_in (M := xm_X14_refuse) (ls := [some _, some _, some _]) rfl rfl rfl ?_
                          refine y_iload_n rfl rfl ?_
                          refine y_if_eqT rfl j_X14_refuse_16 (by decide) ?_
                          refine y_aload_n rfl rfl ?_
                          refine y_getIv (v := Int32.ofInt (0)) rfl (ySh.t hS rfl) (ySh.n hS rfl) rfl rfl hth ?_
                          refine y_if_leT rfl j_X14_refuse_27 (by decide) ?_
                          refine y_iconst rfl ?_
                          refine y_ireturn rfl rfl rfl ?_
                          refine y_ret1 ?_
                          refine y_if_eqT rfl j_X14_buyOut_156 (by decide) ?_
                          refine y_aload rfl rfl ?_
                          obtain ⟨hR_v296, hb_v296, ht_v296⟩ := hR0.ven hlo_b231 hb0_b231 ht_b231 (j := 1) (by decide)
                          have hb0_v296 := hb_v296
                          have hb_v296 := Nat.lt_of_lt_of_le hb_v296 hn
                          have hlo_v296 : 94 ≤ b231 + 1 + 1 := by omega
                          have hR2_v296 := (congrFun (hX.2.1 b231 hb_b231).2.2 1).trans hR_v296
                          refine y_getR rfl ((hX.2.1 _ hb_b231).1.trans ht_b231) (Nat.lt_of_lt_of_le hb_b231 hX.1) rfl rfl hR2_v296 ?_
                          refine y_iload rfl rfl ?_
                          refine y_dup2 rfl rfl rfl ?_
                          refine y_ialoadw (j := 8) (J := I (b231 + 1 + 1)) rfl ((hX.2.1 _ hb_v296).1.trans ht_v296) (Nat.lt_of_lt_of_le hb_v296 hX.1) (by decide) (by decide) rfl (((hB.trans hX).n (by omega)).trans (by repeat (first | rfl | (rw [upd2_row (by first | decide | omega)]) | refine upd2_cg ?_))) ?_
                          refine y_iload rfl rfl ?_
                          refine y_isub rfl ?_
                          refine y_iastoreC (j := 8) rfl ((hX.2.1 _ hb_v296).1.trans ht_v296) (Nat.lt_of_lt_of_le hb_v296 hX.1) (Nat.le_trans (by decide) (by omega : 94 ≤ _)) (by decide) (by decide) rfl ?_
                          refine y_nameI (fun I297 e297 => ?_)
                          have hB1 := (hR0.grow hX).capB1x hlo_b231 (by omega) ((hX.2.1 _ hb_b231).1.trans ht_b231) (by omega) e297 (by rw [show I224 (b231 + 1 + 1) = I (b231 + 1 + 1) from ((hB.trans hX).n (by omega)).trans (by repeat (first | rfl | (rw [upd2_row (by first | decide | omega)]) | refine upd2_cg ?_))]) ⟨by omega, by rw [show I224 (b231 + 1 + 1) = I (b231 + 1 + 1) from ((hB.trans hX).n (by omega)).trans (by repeat (first | rfl | (rw [upd2_row (by first | decide | omega)]) | refine upd2_cg ?_))]; omega⟩
                          have hR1 := hB1.1
                          have hK := (hK.x hRo hno hX).upE hRo hno (upI e297) (by omega) (by omega) (by rw [((hX.2.1 _ hb_v296).1.trans ht_v296)]; decide) (by rw [e297, upd2_ne (.inl (by omega))]; exact Int.le_refl _)
                          have hth := (show I297 83 0 = I224 83 0 by rw [e297, upd2_ne (.inl (by omega))]).trans hth
                          have hzz : ySz I224 I297 := ySz_ofE (upI e297) (by omega)
                          have hB := (hB.trans hX).wr e297 rfl
                          have h8 : ∀ a, 84 ≤ a → a ≤ 86 → I297 a = I a := fun a h1 h2 => (upI e297 a (by omega)).trans ((hX.2.1 a (by omega)).2.1.trans (h8 a h1 h2))
                          have h3k : ∀ k, k ≠ 0 → I297 83 k = I 83 k := fun k hk => (congrFun (congrFun e297 83) k).trans ((upd2_ne (.inl (by omega))).trans ((congrFun (hX.2.1 83 (by omega)).2.1 k).trans (h3k k hk)))
                          have hg := (hg.gx hX (by omega)).both e297
                          have hday : I297 83 1 = I 83 1 := (congrFun (congrFun e297 83) 1).trans ((upd2_ne (.inl (by omega))).trans ((congrFun (hX.2.1 83 (by omega)).2.1 1).trans hday))
                          have hRb : ∀ a, a < n → R a = R a := fun a ha => (hX.2.1 a (by omega)).2.2.trans (hRb a ha)
                          have hS0 := hS
                          have hR0 := hR1
                          have ht_b231 := (hX.2.1 _ hb_b231).1.trans ht_b231
                          have hb_b231 := Nat.lt_of_lt_of_le hb_b231 hX.1
                          have hb0_b231 := hb_b231
                          have ht_v282 := (hX.2.1 _ hb_v282).1.trans ht_v282
                          have hb_v282 := Nat.lt_of_lt_of_le hb_v282 hX.1
                          have hb0_v282 := hb_v282
                          have ht_v286 := (hX.2.1 _ hb_v286).1.trans ht_v286
                          have hb_v286 := Nat.lt_of_lt_of_le hb_v286 hX.1
                          have hb0_v286 := hb_v286
                          have ht_v290 := (hX.2.1 _ hb_v290).1.trans ht_v290
                          have hb_v290 := Nat.lt_of_lt_of_le hb_v290 hX.1
                          have hb0_v290 := hb_v290
                          have ht_v296 := (hX.2.1 _ hb_v296).1.trans ht_v296
                          have hb_v296 := Nat.lt_of_lt_of_le hb_v296 hX.1
                          have hb0_v296 := hb_v296
                          have hn := Nat.le_refl n
                          have h94 := hS0.1
                          have hX := @yX.rf n tg I297 R
                          have hS := hS0.x hX
                          have hR := hR0.x hn hX
                          have hz := hX.sz h94
                          have hxn := hX.1
                          have hN := hR0.1
                          have hnb := hR0.2.2.2.2.2.2
                          have hthB := hth
                          refine y_aload rfl rfl ?_
                          obtain ⟨hR_v298, hb_v298, ht_v298⟩ := hR0.ven hlo_b231 hb0_b231 ht_b231 (j := 1) (by decide)
                          have hb0_v298 := hb_v298
                          have hb_v298 := Nat.lt_of_lt_of_le hb_v298 hn
                          have hlo_v298 : 94 ≤ b231 + 1 + 1 := by omega
                          have hR2_v298 := (congrFun (hX.2.1 b231 hb_b231).2.2 1).trans hR_v298
                          refine y_getR rfl ((hX.2.1 _ hb_b231).1.trans ht_b231) (Nat.lt_of_lt_of_le hb_b231 hX.1) rfl rfl hR2_v298 ?_
                          refine y_iload rfl rfl ?_
                          refine y_dup2 rfl rfl rfl ?_
                          refine y_ialoadv (J := _) rfl ((hX.2.1 _ hb_v298).1.trans ht_v298) (Nat.lt_of_lt_of_le hb_v298 hX.1) (by omega) (by omega) ((hB.trans hX).n (by omega)) ?_
                          refine y_iload rfl rfl ?_
                          refine y_iadd rfl ?_
                          refine y_iastore rfl ((hX.2.1 _ hb_v298).1.trans ht_v298) (Nat.lt_of_lt_of_le hb_v298 hX.1) (Nat.le_trans (by decide) (by omega : 94 ≤ _)) (by omega) (by omega) ?_
                          refine y_nameI (fun I299 e299 => ?_)
                          have hR1 := (hR0.grow hX).capB2x hlo_b231 (by omega) ((hX.2.1 _ hb_b231).1.trans ht_b231) (by omega) (by omega) hB1.2.1 e299 (by rw [show I297 (b231 + 1 + 1) = _ from ((hB.trans hX).n (by omega))])
                          have hK := (hK.x hRo hno hX).upE hRo hno (upI e299) (by omega) (by omega) (by rw [((hX.2.1 _ hb_v298).1.trans ht_v298)]; decide) (by rw [e299, upd2_ne (.inl (by omega))]; exact Int.le_refl _)
                          have hth := (show I299 83 0 = I297 83 0 by rw [e299, upd2_ne (.inl (by omega))]).trans hth
                          have hzz : ySz I297 I299 := ySz_ofE (upI e299) (by omega)
                          have hB := (hB.trans hX).wr e299 rfl
                          have h8 : ∀ a, 84 ≤ a → a ≤ 86 → I299 a = I a := fun a h1 h2 => (upI e299 a (by omega)).trans ((hX.2.1 a (by omega)).2.1.trans (h8 a h1 h2))
                          have h3k : ∀ k, k ≠ 0 → I299 83 k = I 83 k := fun k hk => (congrFun (congrFun e299 83) k).trans ((upd2_ne (.inl (by omega))).trans ((congrFun (hX.2.1 83 (by omega)).2.1 k).trans (h3k k hk)))
                          have hg := (hg.gx hX (by omega)).both e299
                          have hday : I299 83 1 = I 83 1 := (congrFun (congrFun e299 83) 1).trans ((upd2_ne (.inl (by omega))).trans ((congrFun (hX.2.1 83 (by omega)).2.1 1).trans hday))
                          have hRb : ∀ a, a < n → R a = R a := fun a ha => (hX.2.1 a (by omega)).2.2.trans (hRb a ha)
                          have hS0 := hS
                          have hR0 := hR1
                          have ht_b231 := (hX.2.1 _ hb_b231).1.trans ht_b231
                          have hb_b231 := Nat.lt_of_lt_of_le hb_b231 hX.1
                          have hb0_b231 := hb_b231
                          have ht_v282 := (hX.2.1 _ hb_v282).1.trans ht_v282
                          have hb_v282 := Nat.lt_of_lt_of_le hb_v282 hX.1
                          have hb0_v282 := hb_v282
                          have ht_v286 := (hX.2.1 _ hb_v286).1.trans ht_v286
                          have hb_v286 := Nat.lt_of_lt_of_le hb_v286 hX.1
                          have hb0_v286 := hb_v286
                          have ht_v290 := (hX.2.1 _ hb_v290).1.trans ht_v290
                          have hb_v290 := Nat.lt_of_lt_of_le hb_v290 hX.1
                          have hb0_v290 := hb_v290
                          have ht_v296 := (hX.2.1 _ hb_v296).1.trans ht_v296
                          have hb_v296 := Nat.lt_of_lt_of_le hb_v296 hX.1
                          have hb0_v296 := hb_v296
                          have ht_v298 := (hX.2.1 _ hb_v298).1.trans ht_v298
                          have hb_v298 := Nat.lt_of_lt_of_le hb_v298 hX.1
                          have hb0_v298 := hb_v298
                          have hn := Nat.le_refl n
                          have h94 := hS0.1
                          have hX := @yX.rf n tg I299 R
                          have hS := hS0.x hX
                          have hR := hR0.x hn hX
                          have hz := hX.sz h94
                          have hxn := hX.1
                          have hN := hR0.1
                          have hnb := hR0.2.2.2.2.2.2
                          have hthB := hth
                          refine y_aload_n rfl rfl ?_
                          refine y_getR rfl (ySh.t hS rfl) (ySh.n hS rfl) rfl rfl (ySh.r hS rfl) ?_
                          refine y_iload rfl rfl ?_
                          refine y_dup2 rfl rfl rfl ?_
                          refine y_ialoadw (j := 8) (J := I 84) rfl (ySh.t hS rfl) (ySh.n hS rfl) (by decide) (by decide) rfl (((hB.trans hX).n (by omega)).trans (by repeat (first | rfl | (rw [upd2_row (by first | decide | omega)]) | refine upd2_cg ?_))) ?_
                          refine y_iload rfl rfl ?_
                          refine y_iadd rfl ?_
                          refine y_iastoreC (j := 8) rfl (ySh.t hS rfl) (ySh.n hS rfl) (Nat.le_of_ble_eq_true rfl) (by decide) (by decide) rfl ?_
                          refine y_nameI (fun I300 e300 => ?_)
                          have hR1 := (hR0.grow hX).arr e300 (by decide)
                          have hK := (hK.x hRo hno hX).upI (upI e300) (by decide) (by decide) (fun i hi => by have := (hRo.l87.2.2.2.2 i hi).2.1; omega) (by rw [e300, upd2_ne (.inl (by omega))]; exact Int.le_refl _)
                          have hth := (show I300 83 0 = I299 83 0 by rw [e300, upd2_ne (.inl (by omega))]).trans hth
                          have hzz : ySz I299 I300 := ySz_ofE (upI e300) (by omega)
                          have hB := (hB.trans hX).wr e300 rfl
                          have h3k : ∀ k, k ≠ 0 → I300 83 k = I 83 k := fun k hk => (congrFun (congrFun e300 83) k).trans ((upd2_ne (.inl (by omega))).trans ((congrFun (hX.2.1 83 (by omega)).2.1 k).trans (h3k k hk)))
                          have hg := (hg.gx hX (by omega)).skip e300 (by decide)
                          have hday : I300 83 1 = I 83 1 := (congrFun (congrFun e300 83) 1).trans ((upd2_ne (.inl (by omega))).trans ((congrFun (hX.2.1 83 (by omega)).2.1 1).trans hday))
                          have hRb : ∀ a, a < n → R a = R a := fun a ha => (hX.2.1 a (by omega)).2.2.trans (hRb a ha)
                          have hS0 := hS
                          have hR0 := hR1
                          have ht_b231 := (hX.2.1 _ hb_b231).1.trans ht_b231
                          have hb_b231 := Nat.lt_of_lt_of_le hb_b231 hX.1
                          have hb0_b231 := hb_b231
                          have ht_v282 := (hX.2.1 _ hb_v282).1.trans ht_v282
                          have hb_v282 := Nat.lt_of_lt_of_le hb_v282 hX.1
                          have hb0_v282 := hb_v282
                          have ht_v286 := (hX.2.1 _ hb_v286).1.trans ht_v286
                          have hb_v286 := Nat.lt_of_lt_of_le hb_v286 hX.1
                          have hb0_v286 := hb_v286
                          have ht_v290 := (hX.2.1 _ hb_v290).1.trans ht_v290
                          have hb_v290 := Nat.lt_of_lt_of_le hb_v290 hX.1
                          have hb0_v290 := hb_v290
                          have ht_v296 := (hX.2.1 _ hb_v296).1.trans ht_v296
                          have hb_v296 := Nat.lt_of_lt_of_le hb_v296 hX.1
                          have hb0_v296 := hb_v296
                          have ht_v298 := (hX.2.1 _ hb_v298).1.trans ht_v298
                          have hb_v298 := Nat.lt_of_lt_of_le hb_v298 hX.1
                          have hb0_v298 := hb_v298
                          have hn := Nat.le_refl n
                          have h94 := hS0.1
                          have hX := @yX.rf n tg I300 R
                          have hS := hS0.x hX
                          have hR := hR0.x hn hX
                          have hz := hX.sz h94
                          have hxn := hX.1
                          have hN := hR0.1
                          have hnb := hR0.2.2.2.2.2.2
                          have hthB := hth
                          refine y_aload_n rfl rfl ?_
                          refine y_getR rfl (ySh.t hS rfl) (ySh.n hS rfl) rfl rfl (ySh.r hS rfl) ?_
                          refine y_iload rfl rfl ?_
                          refine y_dup2 rfl rfl rfl ?_
                          refine y_ialoadv (J := _) rfl (ySh.t hS rfl) (ySh.n hS rfl) (by omega) (by omega) ((hB.trans hX).n (by omega)) ?_
                          refine y_iload rfl rfl ?_
                          refine y_isub rfl ?_
                          refine y_iastore rfl (ySh.t hS rfl) (ySh.n hS rfl) (Nat.le_of_ble_eq_true rfl) (by omega) (by omega) ?_
                          refine y_nameI (fun I301 e301 => ?_)
                          have hR1 := (hR0.grow hX).arr e301 (by decide)
                          have hK := (hK.x hRo hno hX).upI (upI e301) (by decide) (by decide) (fun i hi => by have := (hRo.l87.2.2.2.2 i hi).2.1; omega) (by rw [e301, upd2_ne (.inl (by omega))]; exact Int.le_refl _)
                          have hth := (show I301 83 0 = I300 83 0 by rw [e301, upd2_ne (.inl (by omega))]).trans hth
                          have hzz : ySz I300 I301 := ySz_ofE (upI e301) (by omega)
                          have hB := (hB.trans hX).wr e301 rfl
                          have h3k : ∀ k, k ≠ 0 → I301 83 k = I 83 k := fun k hk => (congrFun (congrFun e301 83) k).trans ((upd2_ne (.inl (by omega))).trans ((congrFun (hX.2.1 83 (by omega)).2.1 k).trans (h3k k hk)))
                          have hg := (hg.gx hX (by omega)).skip e301 (by decide)
                          have hday : I301 83 1 = I 83 1 := (congrFun (congrFun e301 83) 1).trans ((upd2_ne (.inl (by omega))).trans ((congrFun (hX.2.1 83 (by omega)).2.1 1).trans hday))
                          have hRb : ∀ a, a < n → R a = R a := fun a ha => (hX.2.1 a (by omega)).2.2.trans (hRb a ha)
                          have hS0 := hS
                          have hR0 := hR1
                          have ht_b231 := (hX.2.1 _ hb_b231).1.trans ht_b231
                          have hb_b231 := Nat.lt_of_lt_of_le hb_b231 hX.1
                          have hb0_b231 := hb_b231
                          have ht_v282 := (hX.2.1 _ hb_v282).1.trans ht_v282
                          have hb_v282 := Nat.lt_of_lt_of_le hb_v282 hX.1
                          have hb0_v282 := hb_v282
                          have ht_v286 := (hX.2.1 _ hb_v286).1.trans ht_v286
                          have hb_v286 := Nat.lt_of_lt_of_le hb_v286 hX.1
                          have hb0_v286 := hb_v286
                          have ht_v290 := (hX.2.1 _ hb_v290).1.trans ht_v290
                          have hb_v290 := Nat.lt_of_lt_of_le hb_v290 hX.1
                          have hb0_v290 := hb_v290
                          have ht_v296 := (hX.2.1 _ hb_v296).1.trans ht_v296
                          have hb_v296 := Nat.lt_of_lt_of_le hb_v296 hX.1
                          have hb0_v296 := hb_v296
                          have ht_v298 := (hX.2.1 _ hb_v298).1.trans ht_v298
                          have hb_v298 := Nat.lt_of_lt_of_le hb_v298 hX.1
                          have hb0_v298 := hb_v298
                          have hn := Nat.le_refl n
                          have h94 := hS0.1
                          have hX := @yX.rf n tg I301 R
                          have hS := hS0.x hX
                          have hR := hR0.x hn hX
                          have hz := hX.sz h94
                          have hxn := hX.1
                          have hN := hR0.1
                          have hnb := hR0.2.2.2.2.2.2
                          have hthB := hth
                          refine y_aload rfl rfl ?_
                          obtain ⟨hR_v302, hb_v302, ht_v302⟩ := hR0.ven hlo_b231 hb0_b231 ht_b231 (j := 1) (by decide)
                          have hb0_v302 := hb_v302
                          have hb_v302 := Nat.lt_of_lt_of_le hb_v302 hn
                          have hlo_v302 : 94 ≤ b231 + 1 + 1 := by omega
                          have hR2_v302 := (congrFun (hX.2.1 b231 hb_b231).2.2 1).trans hR_v302
                          refine y_getR rfl ((hX.2.1 _ hb_b231).1.trans ht_b231) (Nat.lt_of_lt_of_le hb_b231 hX.1) rfl rfl hR2_v302 ?_
                          refine y_iload rfl rfl ?_
                          refine y_ialoadw (j := 8) (J := _) rfl ((hX.2.1 _ hb_v302).1.trans ht_v302) (Nat.lt_of_lt_of_le hb_v302 hX.1) (by decide) (by decide) rfl ((hB.trans hX).n (by omega)) ?_
                          refine y_ireturn rfl rfl rfl ?_
                          exact hQ0 _ eb_b231 (by first | omega | (simp only [show ySeat x2 = x2 from if_neg (by omega), show ySeat x3 = x3 from if_neg (by omega)]; omega) | (simp only [show ySeat x2 = x2 from if_neg (by omega), show ySeat x3 = Int32.ofInt 8 from if_pos (by omega), show (Int32.ofInt 8).toInt.toNat = 8 from by decide]; omega) | (simp only [show ySeat x2 = Int32.ofInt 8 from if_pos (by omega), show ySeat x3 = x3 from if_neg (by omega), show (Int32.ofInt 8).toInt.toNat = 8 from by decide]; omega) | (simp only [show ySeat x2 = Int32.ofInt 8 from if_pos (by omega), show ySeat x3 = Int32.ofInt 8 from if_pos (by omega), show (Int32.ofInt 8).toInt.toNat = 8 from by decide]; omega)) _ _ _ _ _ _ _ hS ((hR0.grow hX).up (Nat.le_succ K) hk6) (hK.x hRo hno hX) hth (by first | exact (congrFun ((hB.trans hX).n (by omega)) _).symm | (simp only [show ySeat x2 = x2 from if_neg (by omega), show ySeat x3 = x3 from if_neg (by omega)]; exact (congrFun ((hB.trans hX).n (by omega)) _).symm) | (simp only [show ySeat x2 = x2 from if_neg (by omega), show ySeat x3 = Int32.ofInt 8 from if_pos (by omega), show (Int32.ofInt 8).toInt.toNat = 8 from by decide]; exact (congrFun ((hB.trans hX).n (by omega)) _).symm) | (simp only [show ySeat x2 = Int32.ofInt 8 from if_pos (by omega), show ySeat x3 = x3 from if_neg (by omega), show (Int32.ofInt 8).toInt.toNat = 8 from by decide]; exact (congrFun ((hB.trans hX).n (by omega)) _).symm) | (simp only [show ySeat x2 = Int32.ofInt 8 from if_pos (by omega), show ySeat x3 = Int32.ofInt 8 from if_pos (by omega), show (Int32.ofInt 8).toInt.toNat = 8 from by decide]; exact (congrFun ((hB.trans hX).n (by omega)) _).symm)) (by first | (exact hB.trans hX) | (simp only [show ySeat x2 = x2 from if_neg (by omega), show ySeat x3 = x3 from if_neg (by omega)]; exact hB.trans hX) | (simp only [show ySeat x2 = x2 from if_neg (by omega), show ySeat x3 = Int32.ofInt 8 from if_pos (by omega), show (Int32.ofInt 8).toInt.toNat = 8 from by decide]; exact hB.trans hX) | (simp only [show ySeat x2 = Int32.ofInt 8 from if_pos (by omega), show ySeat x3 = x3 from if_neg (by omega), show (Int32.ofInt 8).toInt.toNat = 8 from by decide]; exact hB.trans hX) | (simp only [show ySeat x2 = Int32.ofInt 8 from if_pos (by omega), show ySeat x3 = Int32.ofInt 8 from if_pos (by omega), show (Int32.ofInt 8).toInt.toNat = 8 from by decide]; exact hB.trans hX)) (by omega) (by omega)
                        · refine y_iconst rfl ?_
                          refine y_goto rfl j_X14_buyOut_147 ?_
                          refine y_iconst rfl ?_
                          refine y_virt rfl rfl rfl rfl rfl (ySh.t hS rfl) (ySh.n hS rfl) ?_
                          refine y_in (M := xm_X14_refuse) (ls := [some _, some _, some _]) rfl rfl rfl ?_
                          refine y_iload_n rfl rfl ?_
                          refine y_if_eqF rfl (by decide) ?_
                          refine y_aload_n rfl rfl ?_
                          refine y_getIv (v := Int32.ofInt (0)) rfl (ySh.t hS rfl) (ySh.n hS rfl) rfl rfl hth ?_
                          refine y_if_neF rfl (by decide) ?_
                          refine y_aload_n rfl rfl ?_
                          refine y_iload_n rfl rfl ?_
                          refine y_putI rfl (ySh.t hS rfl) (ySh.n hS rfl) rfl (Nat.le_of_ble_eq_true rfl) rfl rfl ?_
                          refine y_nameI (fun I303 e303 => ?_)
                          have hR1 := (hR0.grow hX).mod0 e303 (by decide) (by decide)
                          have hK := (hK.x hRo hno hX).upI (upI e303) (by decide) (by decide) (fun i hi => by have := (hRo.l87.2.2.2.2 i hi).2.1; omega) (by rw [e303, upd2_ne (.inr (by decide))]; exact Int.le_refl _)
                          have hth : I303 83 0 = Int32.ofInt (3) := by rw [e303, upd2_self]
                          have hzz : ySz8 I224 I303 := ySz8_of (upI e303) (by rw [e303]; exact ⟨upd2_ne (.inr (by decide)), upd2_ne (.inr (by decide))⟩)
                          have hB := (hB.trans hX).wr e303 rfl
                          have h8 : ∀ a, 84 ≤ a → a ≤ 86 → I303 a = I a := fun a h1 h2 => (upI e303 a (by omega)).trans ((hX.2.1 a (by omega)).2.1.trans (h8 a h1 h2))
                          have h3k : ∀ k, k ≠ 0 → I303 83 k = I 83 k := fun k hk => (congrFun (congrFun e303 83) k).trans ((upd2_ne (.inr hk)).trans ((congrFun (hX.2.1 83 (by omega)).2.1 k).trans (h3k k hk)))
                          have hg := (hg.gx hX (by omega)).skip e303 (by decide)
                          have hday : I303 83 1 = I 83 1 := (congrFun (congrFun e303 83) 1).trans ((upd2_ne (.inr (by decide))).trans ((congrFun (hX.2.1 83 (by omega)).2.1 1).trans hday))
                          have hRb : ∀ a, a < n → R a = R a := fun a ha => (hX.2.1 a (by omega)).2.2.trans (hRb a ha)
                          have hb83 : ∀ a, a ≠ 83 → a < n → I303 a = I a := fun a ha hb => (upI e303 a ha).trans ((hX.2.1 a (by omega)).2.1.trans (hb83 a ha hb))
                          have hS0 := hS
                          have hR0 := hR1
                          have ht_b231 := (hX.2.1 _ hb_b231).1.trans ht_b231
                          have hb_b231 := Nat.lt_of_lt_of_le hb_b231 hX.1
                          have hb0_b231 := hb_b231
                          have ht_v282 := (hX.2.1 _ hb_v282).1.trans ht_v282
                          have hb_v282 := Nat.lt_of_lt_of_le hb_v282 hX.1
                          have hb0_v282 := hb_v282
                          have ht_v286 := (hX.2.1 _ hb_v286).1.trans ht_v286
                          have hb_v286 := Nat.lt_of_lt_of_le hb_v286 hX.1
                          have hb0_v286 := hb_v286
                          have ht_v290 := (hX.2.1 _ hb_v290).1.trans ht_v290
                          have hb_v290 := Nat.lt_of_lt_of_le hb_v290 hX.1
                          have hb0_v290 := hb_v290
                          have hn := Nat.le_refl n
                          have h94 := hS0.1
                          have hX := @yX.rf n tg I303 R
                          have hS := hS0.x hX
                          have hR := hR0.x hn hX
                          have hz := hX.sz h94
                          have hxn := hX.1
                          have hN := hR0.1
                          have hnb := hR0.2.2.2.2.2.2
                          have hthB := hth
                          refine y_aload_n rfl rfl ?_
                          refine y_getIv (v := Int32.ofInt (3)) rfl (ySh.t hS rfl) (ySh.n hS rfl) rfl rfl hth ?_
                          refine y_if_leF rfl (by decide) ?_
                          refine y_iconst rfl ?_
                          refine y_goto rfl j_X14_refuse_28 ?_
                          refine y_ireturn rfl rfl rfl ?_
                          refine y_ret1 ?_
                          refine y_if_eqF rfl (by decide) ?_
                          refine y_iconst rfl ?_
                          refine y_ireturn rfl rfl rfl ?_
                          exact hQ3 _ eb_b231 (by first | omega | (simp only [show ySeat x2 = x2 from if_neg (by omega), show ySeat x3 = x3 from if_neg (by omega)]; omega) | (simp only [show ySeat x2 = x2 from if_neg (by omega), show ySeat x3 = Int32.ofInt 8 from if_pos (by omega), show (Int32.ofInt 8).toInt.toNat = 8 from by decide]; omega) | (simp only [show ySeat x2 = Int32.ofInt 8 from if_pos (by omega), show ySeat x3 = x3 from if_neg (by omega), show (Int32.ofInt 8).toInt.toNat = 8 from by decide]; omega) | (simp only [show ySeat x2 = Int32.ofInt 8 from if_pos (by omega), show ySeat x3 = Int32.ofInt 8 from if_pos (by omega), show (Int32.ofInt 8).toInt.toNat = 8 from by decide]; omega)) _ _ _ _ _ _ _ hS ((hR0.grow hX).up (Nat.le_succ K) hk6) (hK.x hRo hno hX) hth ((hB.trans hX).rf2 (by omega)) (by omega) (by omega)
                · rw [yz_m1] at h_281
                  refine y_bip rfl (by decide) ?_
                  refine y_goto rfl j_X14_seat_11 ?_
                  refine y_ireturn rfl rfl rfl ?_
                  refine y_ret1 ?_
                  refine y_istore (ls' := [some _, some _, some _, some _, some _, some _, some _, some _]) rfl rfl rfl ?_
                  refine y_aload_n rfl rfl ?_
                  refine y_aload rfl rfl ?_
                  obtain ⟨hR_v304, hb_v304, ht_v304⟩ := hR0.ven hlo_b231 hb0_b231 ht_b231 (j := 0) (by decide)
                  have hb0_v304 := hb_v304
                  have hb_v304 := Nat.lt_of_lt_of_le hb_v304 hn
                  have hlo_v304 : 94 ≤ b231 + 1 + 0 := by omega
                  have hR2_v304 := (congrFun (hX.2.1 b231 hb_b231).2.2 0).trans hR_v304
                  refine y_getR rfl ((hX.2.1 _ hb_b231).1.trans ht_b231) (Nat.lt_of_lt_of_le hb_b231 hX.1) rfl rfl hR2_v304 ?_
                  refine y_iload rfl rfl ?_
                  refine y_baloadw (j := 8) (J := I (b231 + 1 + 0)) rfl ((hX.2.1 _ hb_v304).1.trans ht_v304) rfl (Nat.lt_of_lt_of_le hb_v304 hX.1) (by decide) (by decide) rfl (((hB.trans hX).n (by omega)).trans (by repeat (first | rfl | (rw [upd2_row (by first | decide | omega)]) | refine upd2_cg ?_))) ?_
                  refine y_if_eq rfl j_X14_buyOut_142 (fun h_305 => ?_) (fun h_306 => ?_)
                  · refine y_iconst rfl ?_
                    refine y_goto rfl j_X14_buyOut_147 ?_
                    refine y_iconst rfl ?_
                    refine y_virt rfl rfl rfl rfl rfl (ySh.t hS rfl) (ySh.n hS rfl) ?_
                    refine y_in (M := xm_X14_refuse) (ls := [some _, some _, some _]) rfl rfl rfl ?_
                    refine y_iload_n rfl rfl ?_
                    refine y_if_eqF rfl (by decide) ?_
                    refine y_aload_n rfl rfl ?_
                    refine y_getIv (v := Int32.ofInt (0)) rfl (ySh.t hS rfl) (ySh.n hS rfl) rfl rfl hth ?_
                    refine y_if_neF rfl (by decide) ?_
                    refine y_aload_n rfl rfl ?_
                    refine y_iload_n rfl rfl ?_
                    refine y_putI rfl (ySh.t hS rfl) (ySh.n hS rfl) rfl (Nat.le_of_ble_eq_true rfl) rfl rfl ?_
                    refine y_nameI (fun I307 e307 => ?_)
                    have hR1 := (hR0.grow hX).mod0 e307 (by decide) (by decide)
                    have hK := (hK.x hRo hno hX).upI (upI e307) (by decide) (by decide) (fun i hi => by have := (hRo.l87.2.2.2.2 i hi).2.1; omega) (by rw [e307, upd2_ne (.inr (by decide))]; exact Int.le_refl _)
                    have hth : I307 83 0 = Int32.ofInt (3) := by rw [e307, upd2_self]
                    have hzz : ySz8 I224 I307 := ySz8_of (upI e307) (by rw [e307]; exact ⟨upd2_ne (.inr (by decide)), upd2_ne (.inr (by decide))⟩)
                    have hB := (hB.trans hX).wr e307 rfl
                    have h8 : ∀ a, 84 ≤ a → a ≤ 86 → I307 a = I a := fun a h1 h2 => (upI e307 a (by omega)).trans ((hX.2.1 a (by omega)).2.1.trans (h8 a h1 h2))
                    have h3k : ∀ k, k ≠ 0 → I307 83 k = I 83 k := fun k hk => (congrFun (congrFun e307 83) k).trans ((upd2_ne (.inr hk)).trans ((congrFun (hX.2.1 83 (by omega)).2.1 k).trans (h3k k hk)))
                    have hg := (hg.gx hX (by omega)).skip e307 (by decide)
                    have hday : I307 83 1 = I 83 1 := (congrFun (congrFun e307 83) 1).trans ((upd2_ne (.inr (by decide))).trans ((congrFun (hX.2.1 83 (by omega)).2.1 1).trans hday))
                    have hRb : ∀ a, a < n → R a = R a := fun a ha => (hX.2.1 a (by omega)).2.2.trans (hRb a ha)
                    have hb83 : ∀ a, a ≠ 83 → a < n → I307 a = I a := fun a ha hb => (upI e307 a ha).trans ((hX.2.1 a (by omega)).2.1.trans (hb83 a ha hb))
                    have hS0 := hS
                    have hR0 := hR1
                    have ht_b231 := (hX.2.1 _ hb_b231).1.trans ht_b231
                    have hb_b231 := Nat.lt_of_lt_of_le hb_b231 hX.1
                    have hb0_b231 := hb_b231
                    have ht_v304 := (hX.2.1 _ hb_v304).1.trans ht_v304
                    have hb_v304 := Nat.lt_of_lt_of_le hb_v304 hX.1
                    have hb0_v304 := hb_v304
                    have hn := Nat.le_refl n
                    have h94 := hS0.1
                    have hX := @yX.rf n tg I307 R
                    have hS := hS0.x hX
                    have hR := hR0.x hn hX
                    have hz := hX.sz h94
                    have hxn := hX.1
                    have hN := hR0.1
                    have hnb := hR0.2.2.2.2.2.2
                    have hthB := hth
                    refine y_aload_n rfl rfl ?_
                    refine y_getIv (v := Int32.ofInt (3)) rfl (ySh.t hS rfl) (ySh.n hS rfl) rfl rfl hth ?_
                    refine y_if_leF rfl (by decide) ?_
                    refine y_iconst rfl ?_
                    refine y_goto rfl j_X14_refuse_28 ?_
                    refine y_ireturn rfl rfl rfl ?_
                    refine y_ret1 ?_
                    refine y_if_eqF rfl (by decide) ?_
                    refine y_iconst rfl ?_
                    refine y_ireturn rfl rfl rfl ?_
                    exact hQ3 _ eb_b231 (by first | omega | (simp only [show ySeat x2 = x2 from if_neg (by omega), show ySeat x3 = x3 from if_neg (by omega)]; omega) | (simp only [show ySeat x2 = x2 from if_neg (by omega), show ySeat x3 = Int32.ofInt 8 from if_pos (by omega), show (Int32.ofInt 8).toInt.toNat = 8 from by decide]; omega) | (simp only [show ySeat x2 = Int32.ofInt 8 from if_pos (by omega), show ySeat x3 = x3 from if_neg (by omega), show (Int32.ofInt 8).toInt.toNat = 8 from by decide]; omega) | (simp only [show ySeat x2 = Int32.ofInt 8 from if_pos (by omega), show ySeat x3 = Int32.ofInt 8 from if_pos (by omega), show (Int32.ofInt 8).toInt.toNat = 8 from by decide]; omega)) _ _ _ _ _ _ _ hS ((hR0.grow hX).up (Nat.le_succ K) hk6) (hK.x hRo hno hX) hth ((hB.trans hX).rf2 (by omega)) (by omega) (by omega)
                  · refine y_aload rfl rfl ?_
                    obtain ⟨hR_v308, hb_v308, ht_v308⟩ := hR0.ven hlo_b231 hb0_b231 ht_b231 (j := 0) (by decide)
                    have hb0_v308 := hb_v308
                    have hb_v308 := Nat.lt_of_lt_of_le hb_v308 hn
                    have hlo_v308 : 94 ≤ b231 + 1 + 0 := by omega
                    have hR2_v308 := (congrFun (hX.2.1 b231 hb_b231).2.2 0).trans hR_v308
                    refine y_getR rfl ((hX.2.1 _ hb_b231).1.trans ht_b231) (Nat.lt_of_lt_of_le hb_b231 hX.1) rfl rfl hR2_v308 ?_
                    refine y_iload rfl rfl ?_
                    refine y_baloadw (j := 8) (J := I (b231 + 1 + 0)) rfl ((hX.2.1 _ hb_v308).1.trans ht_v308) rfl (Nat.lt_of_lt_of_le hb_v308 hX.1) (by decide) (by decide) rfl (((hB.trans hX).n (by omega)).trans (by repeat (first | rfl | (rw [upd2_row (by first | decide | omega)]) | refine upd2_cg ?_))) ?_
                    refine y_if_eq rfl j_X14_buyOut_142 (fun h_309 => ?_) (fun h_310 => ?_)
                    · refine y_iconst rfl ?_
                      refine y_goto rfl j_X14_buyOut_147 ?_
                      refine y_iconst rfl ?_
                      refine y_virt rfl rfl rfl rfl rfl (ySh.t hS rfl) (ySh.n hS rfl) ?_
                      refine y_in (M := xm_X14_refuse) (ls := [some _, some _, some _]) rfl rfl rfl ?_
                      refine y_iload_n rfl rfl ?_
                      refine y_if_eqF rfl (by decide) ?_
                      refine y_aload_n rfl rfl ?_
                      refine y_getIv (v := Int32.ofInt (0)) rfl (ySh.t hS rfl) (ySh.n hS rfl) rfl rfl hth ?_
                      refine y_if_neF rfl (by decide) ?_
                      refine y_aload_n rfl rfl ?_
                      refine y_iload_n rfl rfl ?_
                      refine y_putI rfl (ySh.t hS rfl) (ySh.n hS rfl) rfl (Nat.le_of_ble_eq_true rfl) rfl rfl ?_
                      refine y_nameI (fun I311 e311 => ?_)
                      have hR1 := (hR0.grow hX).mod0 e311 (by decide) (by decide)
                      have hK := (hK.x hRo hno hX).upI (upI e311) (by decide) (by decide) (fun i hi => by have := (hRo.l87.2.2.2.2 i hi).2.1; omega) (by rw [e311, upd2_ne (.inr (by decide))]; exact Int.le_refl _)
                      have hth : I311 83 0 = Int32.ofInt (3) := by rw [e311, upd2_self]
                      have hzz : ySz8 I224 I311 := ySz8_of (upI e311) (by rw [e311]; exact ⟨upd2_ne (.inr (by decide)), upd2_ne (.inr (by decide))⟩)
                      have hB := (hB.trans hX).wr e311 rfl
                      have h8 : ∀ a, 84 ≤ a → a ≤ 86 → I311 a = I a := fun a h1 h2 => (upI e311 a (by omega)).trans ((hX.2.1 a (by omega)).2.1.trans (h8 a h1 h2))
                      have h3k : ∀ k, k ≠ 0 → I311 83 k = I 83 k := fun k hk => (congrFun (congrFun e311 83) k).trans ((upd2_ne (.inr hk)).trans ((congrFun (hX.2.1 83 (by omega)).2.1 k).trans (h3k k hk)))
                      have hg := (hg.gx hX (by omega)).skip e311 (by decide)
                      have hday : I311 83 1 = I 83 1 := (congrFun (congrFun e311 83) 1).trans ((upd2_ne (.inr (by decide))).trans ((congrFun (hX.2.1 83 (by omega)).2.1 1).trans hday))
                      have hRb : ∀ a, a < n → R a = R a := fun a ha => (hX.2.1 a (by omega)).2.2.trans (hRb a ha)
                      have hb83 : ∀ a, a ≠ 83 → a < n → I311 a = I a := fun a ha hb => (upI e311 a ha).trans ((hX.2.1 a (by omega)).2.1.trans (hb83 a ha hb))
                      have hS0 := hS
                      have hR0 := hR1
                      have ht_b231 := (hX.2.1 _ hb_b231).1.trans ht_b231
                      have hb_b231 := Nat.lt_of_lt_of_le hb_b231 hX.1
                      have hb0_b231 := hb_b231
                      have ht_v304 := (hX.2.1 _ hb_v304).1.trans ht_v304
                      have hb_v304 := Nat.lt_of_lt_of_le hb_v304 hX.1
                      have hb0_v304 := hb_v304
                      have ht_v308 := (hX.2.1 _ hb_v308).1.trans ht_v308
                      have hb_v308 := Nat.lt_of_lt_of_le hb_v308 hX.1
                      have hb0_v308 := hb_v308
                      have hn := Nat.le_refl n
                      have h94 := hS0.1
                      have hX := @yX.rf n tg I311 R
                      have hS := hS0.x hX
                      have hR := hR0.x hn hX
                      have hz := hX.sz h94
                      have hxn := hX.1
                      have hN := hR0.1
                      have hnb := hR0.2.2.2.2.2.2
                      have hthB := hth
                      refine y_aload_n rfl rfl ?_
                      refine y_getIv (v := Int32.ofInt (3)) rfl (ySh.t hS rfl) (ySh.n hS rfl) rfl rfl hth ?_
                      refine y_if_leF rfl (by decide) ?_
                      refine y_iconst rfl ?_
                      refine y_goto rfl j_X14_refuse_28 ?_
                      refine y_ireturn rfl rfl rfl ?_
                      refine y_ret1 ?_
                      refine y_if_eqF rfl (by decide) ?_
                      refine y_iconst rfl ?_
                      refine y_ireturn rfl rfl rfl ?_
                      exact hQ3 _ eb_b231 (by first | omega | (simp only [show ySeat x2 = x2 from if_neg (by omega), show ySeat x3 = x3 from if_neg (by omega)]; omega) | (simp only [show ySeat x2 = x2 from if_neg (by omega), show ySeat x3 = Int32.ofInt 8 from if_pos (by omega), show (Int32.ofInt 8).toInt.toNat = 8 from by decide]; omega) | (simp only [show ySeat x2 = Int32.ofInt 8 from if_pos (by omega), show ySeat x3 = x3 from if_neg (by omega), show (Int32.ofInt 8).toInt.toNat = 8 from by decide]; omega) | (simp only [show ySeat x2 = Int32.ofInt 8 from if_pos (by omega), show ySeat x3 = Int32.ofInt 8 from if_pos (by omega), show (Int32.ofInt 8).toInt.toNat = 8 from by decide]; omega)) _ _ _ _ _ _ _ hS ((hR0.grow hX).up (Nat.le_succ K) hk6) (hK.x hRo hno hX) hth ((hB.trans hX).rf2 (by omega)) (by omega) (by omega)
                    · refine y_aload rfl rfl ?_
                      obtain ⟨hR_v312, hb_v312, ht_v312⟩ := hR0.ven hlo_b231 hb0_b231 ht_b231 (j := 1) (by decide)
                      have hb0_v312 := hb_v312
                      have hb_v312 := Nat.lt_of_lt_of_le hb_v312 hn
                      have hlo_v312 : 94 ≤ b231 + 1 + 1 := by omega
                      have hR2_v312 := (congrFun (hX.2.1 b231 hb_b231).2.2 1).trans hR_v312
                      refine y_getR rfl ((hX.2.1 _ hb_b231).1.trans ht_b231) (Nat.lt_of_lt_of_le hb_b231 hX.1) rfl rfl hR2_v312 ?_
                      refine y_iload rfl rfl ?_
                      refine y_ialoadw (j := 8) (J := I (b231 + 1 + 1)) rfl ((hX.2.1 _ hb_v312).1.trans ht_v312) (Nat.lt_of_lt_of_le hb_v312 hX.1) (by decide) (by decide) rfl (((hB.trans hX).n (by omega)).trans (by repeat (first | rfl | (rw [upd2_row (by first | decide | omega)]) | refine upd2_cg ?_))) ?_
                      refine y_iload rfl rfl ?_
                      refine y_icmp_lt rfl j_X14_buyOut_142 (fun h_313 => ?_) (fun h_314 => ?_)
                      · refine y_iconst rfl ?_
                        refine y_goto rfl j_X14_buyOut_147 ?_
                        refine y_iconst rfl ?_
                        refine y_virt rfl rfl rfl rfl rfl (ySh.t hS rfl) (ySh.n hS rfl) ?_
                        refine y_in (M := xm_X14_refuse) (ls := [some _, some _, some _]) rfl rfl rfl ?_
                        refine y_iload_n rfl rfl ?_
                        refine y_if_eqF rfl (by decide) ?_
                        refine y_aload_n rfl rfl ?_
                        refine y_getIv (v := Int32.ofInt (0)) rfl (ySh.t hS rfl) (ySh.n hS rfl) rfl rfl hth ?_
                        refine y_if_neF rfl (by decide) ?_
                        refine y_aload_n rfl rfl ?_
                        refine y_iload_n rfl rfl ?_
                        refine y_putI rfl (ySh.t hS rfl) (ySh.n hS rfl) rfl (Nat.le_of_ble_eq_true rfl) rfl rfl ?_
                        refine y_nameI (fun I315 e315 => ?_)
                        have hR1 := (hR0.grow hX).mod0 e315 (by decide) (by decide)
                        have hK := (hK.x hRo hno hX).upI (upI e315) (by decide) (by decide) (fun i hi => by have := (hRo.l87.2.2.2.2 i hi).2.1; omega) (by rw [e315, upd2_ne (.inr (by decide))]; exact Int.le_refl _)
                        have hth : I315 83 0 = Int32.ofInt (3) := by rw [e315, upd2_self]
                        have hzz : ySz8 I224 I315 := ySz8_of (upI e315) (by rw [e315]; exact ⟨upd2_ne (.inr (by decide)), upd2_ne (.inr (by decide))⟩)
                        have hB := (hB.trans hX).wr e315 rfl
                        have h8 : ∀ a, 84 ≤ a → a ≤ 86 → I315 a = I a := fun a h1 h2 => (upI e315 a (by omega)).trans ((hX.2.1 a (by omega)).2.1.trans (h8 a h1 h2))
                        have h3k : ∀ k, k ≠ 0 → I315 83 k = I 83 k := fun k hk => (congrFun (congrFun e315 83) k).trans ((upd2_ne (.inr hk)).trans ((congrFun (hX.2.1 83 (by omega)).2.1 k).trans (h3k k hk)))
                        have hg := (hg.gx hX (by omega)).skip e315 (by decide)
                        have hday : I315 83 1 = I 83 1 := (congrFun (congrFun e315 83) 1).trans ((upd2_ne (.inr (by decide))).trans ((congrFun (hX.2.1 83 (by omega)).2.1 1).trans hday))
                        have hRb : ∀ a, a < n → R a = R a := fun a ha => (hX.2.1 a (by omega)).2.2.trans (hRb a ha)
                        have hb83 : ∀ a, a ≠ 83 → a < n → I315 a = I a := fun a ha hb => (upI e315 a ha).trans ((hX.2.1 a (by omega)).2.1.trans (hb83 a ha hb))
                        have hS0 := hS
                        have hR0 := hR1
                        have ht_b231 := (hX.2.1 _ hb_b231).1.trans ht_b231
                        have hb_b231 := Nat.lt_of_lt_of_le hb_b231 hX.1
                        have hb0_b231 := hb_b231
                        have ht_v304 := (hX.2.1 _ hb_v304).1.trans ht_v304
                        have hb_v304 := Nat.lt_of_lt_of_le hb_v304 hX.1
                        have hb0_v304 := hb_v304
                        have ht_v308 := (hX.2.1 _ hb_v308).1.trans ht_v308
                        have hb_v308 := Nat.lt_of_lt_of_le hb_v308 hX.1
                        have hb0_v308 := hb_v308
                        have ht_v312 := (hX.2.1 _ hb_v312).1.trans ht_v312
                        have hb_v312 := Nat.lt_of_lt_of_le hb_v312 hX.1
                        have hb0_v312 := hb_v312
                        have hn := Nat.le_refl n
                        have h94 := hS0.1
                        have hX := @yX.rf n tg I315 R
                        have hS := hS0.x hX
                        have hR := hR0.x hn hX
                        have hz := hX.sz h94
                        have hxn := hX.1
                        have hN := hR0.1
                        have hnb := hR0.2.2.2.2.2.2
                        have hthB := hth
                        refine y_aload_n rfl rfl ?_
                        refine y_getIv (v := Int32.ofInt (3)) rfl (ySh.t hS rfl) (ySh.n hS rfl) rfl rfl hth ?_
                        refine y_if_leF rfl (by decide) ?_
                        refine y_iconst rfl ?_
                        refine y_goto rfl j_X14_refuse_28 ?_
                        refine y_ireturn rfl rfl rfl ?_
                        refine y_ret1 ?_
                        refine y_if_eqF rfl (by decide) ?_
                        refine y_iconst rfl ?_
                        refine y_ireturn rfl rfl rfl ?_
                        exact hQ3 _ eb_b231 (by first | omega | (simp only [show ySeat x2 = x2 from if_neg (by omega), show ySeat x3 = x3 from if_neg (by omega)]; omega) | (simp only [show ySeat x2 = x2 from if_neg (by omega), show ySeat x3 = Int32.ofInt 8 from if_pos (by omega), show (Int32.ofInt 8).toInt.toNat = 8 from by decide]; omega) | (simp only [show ySeat x2 = Int32.ofInt 8 from if_pos (by omega), show ySeat x3 = x3 from if_neg (by omega), show (Int32.ofInt 8).toInt.toNat = 8 from by decide]; omega) | (simp only [show ySeat x2 = Int32.ofInt 8 from if_pos (by omega), show ySeat x3 = Int32.ofInt 8 from if_pos (by omega), show (Int32.ofInt 8).toInt.toNat = 8 from by decide]; omega)) _ _ _ _ _ _ _ hS ((hR0.grow hX).up (Nat.le_succ K) hk6) (hK.x hRo hno hX) hth ((hB.trans hX).rf2 (by omega)) (by omega) (by omega)
                      · refine y_aload_n rfl rfl ?_
                        refine y_getR rfl (ySh.t hS rfl) (ySh.n hS rfl) rfl rfl (ySh.r hS rfl) ?_
                        refine y_iload rfl rfl ?_
                        refine y_ialoadw (j := 8) (J := I 84) rfl (ySh.t hS rfl) (ySh.n hS rfl) (by decide) (by decide) rfl (((hB.trans hX).n (by omega)).trans (by repeat (first | rfl | (rw [upd2_row (by first | decide | omega)]) | refine upd2_cg ?_))) ?_
                        refine y_iload rfl rfl ?_
                        refine y_icmp_ge rfl j_X14_buyOut_146 (fun h_316 => ?_) (fun h_317 => ?_)
                        · refine y_iconst rfl ?_
                          refine y_iconst rfl ?_
                          refine y_virt rfl rfl rfl rfl rfl (ySh.t hS rfl) (ySh.n hS rfl) ?_
                          refine y_in (M := xm_X14_refuse) (ls := [some _, some _, some _]) rfl rfl rfl ?_
                          refine y_iload_n rfl rfl ?_
                          refine y_if_eqT rfl j_X14_refuse_16 (by decide) ?_
                          refine y_aload_n rfl rfl ?_
                          refine y_getIv (v := Int32.ofInt (0)) rfl (ySh.t hS rfl) (ySh.n hS rfl) rfl rfl hth ?_
                          refine y_if_leT rfl j_X14_refuse_27 (by decide) ?_
                          refine y_iconst rfl ?_
                          refine y_ireturn rfl rfl rfl ?_
                          refine y_ret1 ?_
                          refine y_if_eqT rfl j_X14_buyOut_156 (by decide) ?_
                          refine y_aload rfl rfl ?_
                          obtain ⟨hR_v318, hb_v318, ht_v318⟩ := hR0.ven hlo_b231 hb0_b231 ht_b231 (j := 1) (by decide)
                          have hb0_v318 := hb_v318
                          have hb_v318 := Nat.lt_of_lt_of_le hb_v318 hn
                          have hlo_v318 : 94 ≤ b231 + 1 + 1 := by omega
                          have hR2_v318 := (congrFun (hX.2.1 b231 hb_b231).2.2 1).trans hR_v318
                          refine y_getR rfl ((hX.2.1 _ hb_b231).1.trans ht_b231) (Nat.lt_of_lt_of_le hb_b231 hX.1) rfl rfl hR2_v318 ?_
                          refine y_iload rfl rfl ?_
                          refine y_dup2 rfl rfl rfl ?_
                          refine y_ialoadw (j := 8) (J := I (b231 + 1 + 1)) rfl ((hX.2.1 _ hb_v318).1.trans ht_v318) (Nat.lt_of_lt_of_le hb_v318 hX.1) (by decide) (by decide) rfl (((hB.trans hX).n (by omega)).trans (by repeat (first | rfl | (rw [upd2_row (by first | decide | omega)]) | refine upd2_cg ?_))) ?_
                          refine y_iload rfl rfl ?_
                          refine y_isub rfl ?_
                          refine y_iastoreC (j := 8) rfl ((hX.2.1 _ hb_v318).1.trans ht_v318) (Nat.lt_of_lt_of_le hb_v318 hX.1) (Nat.le_trans (by decide) (by omega : 94 ≤ _)) (by decide) (by decide) rfl ?_
                          refine y_nameI (fun I319 e319 => ?_)
                          have hB1 := (hR0.grow hX).capB1x hlo_b231 (by omega) ((hX.2.1 _ hb_b231).1.trans ht_b231) (by omega) e319 (by rw [show I224 (b231 + 1 + 1) = I (b231 + 1 + 1) from ((hB.trans hX).n (by omega)).trans (by repeat (first | rfl | (rw [upd2_row (by first | decide | omega)]) | refine upd2_cg ?_))]) ⟨by omega, by rw [show I224 (b231 + 1 + 1) = I (b231 + 1 + 1) from ((hB.trans hX).n (by omega)).trans (by repeat (first | rfl | (rw [upd2_row (by first | decide | omega)]) | refine upd2_cg ?_))]; omega⟩
                          have hR1 := hB1.1
                          have hK := (hK.x hRo hno hX).upE hRo hno (upI e319) (by omega) (by omega) (by rw [((hX.2.1 _ hb_v318).1.trans ht_v318)]; decide) (by rw [e319, upd2_ne (.inl (by omega))]; exact Int.le_refl _)
                          have hth := (show I319 83 0 = I224 83 0 by rw [e319, upd2_ne (.inl (by omega))]).trans hth
                          have hzz : ySz I224 I319 := ySz_ofE (upI e319) (by omega)
                          have hB := (hB.trans hX).wr e319 rfl
                          have h8 : ∀ a, 84 ≤ a → a ≤ 86 → I319 a = I a := fun a h1 h2 => (upI e319 a (by omega)).trans ((hX.2.1 a (by omega)).2.1.trans (h8 a h1 h2))
                          have h3k : ∀ k, k ≠ 0 → I319 83 k = I 83 k := fun k hk => (congrFun (congrFun e319 83) k).trans ((upd2_ne (.inl (by omega))).trans ((congrFun (hX.2.1 83 (by omega)).2.1 k).trans (h3k k hk)))
                          have hg := (hg.gx hX (by omega)).both e319
                          have hday : I319 83 1 = I 83 1 := (congrFun (congrFun e319 83) 1).trans ((upd2_ne (.inl (by omega))).trans ((congrFun (hX.2.1 83 (by omega)).2.1 1).trans hday))
                          have hRb : ∀ a, a < n → R a = R a := fun a ha => (hX.2.1 a (by omega)).2.2.trans (hRb a ha)
                          have hS0 := hS
                          have hR0 := hR1
                          have ht_b231 := (hX.2.1 _ hb_b231).1.trans ht_b231
                          have hb_b231 := Nat.lt_of_lt_of_le hb_b231 hX.1
                          have hb0_b231 := hb_b231
                          have ht_v304 := (hX.2.1 _ hb_v304).1.trans ht_v304
                          have hb_v304 := Nat.lt_of_lt_of_le hb_v304 hX.1
                          have hb0_v304 := hb_v304
                          have ht_v308 := (hX.2.1 _ hb_v308).1.trans ht_v308
                          have hb_v308 := Nat.lt_of_lt_of_le hb_v308 hX.1
                          have hb0_v308 := hb_v308
                          have ht_v312 := (hX.2.1 _ hb_v312).1.trans ht_v312
                          have hb_v312 := Nat.lt_of_lt_of_le hb_v312 hX.1
                          have hb0_v312 := hb_v312
                          have ht_v318 := (hX.2.1 _ hb_v318).1.trans ht_v318
                          have hb_v318 := Nat.lt_of_lt_of_le hb_v318 hX.1
                          have hb0_v318 := hb_v318
                          have hn := Nat.le_refl n
                          have h94 := hS0.1
                          have hX := @yX.rf n tg I319 R
                          have hS := hS0.x hX
                          have hR := hR0.x hn hX
                          have hz := hX.sz h94
                          have hxn := hX.1
                          have hN := hR0.1
                          have hnb := hR0.2.2.2.2.2.2
                          have hthB := hth
                          refine y_aload rfl rfl ?_
                          obtain ⟨hR_v320, hb_v320, ht_v320⟩ := hR0.ven hlo_b231 hb0_b231 ht_b231 (j := 1) (by decide)
                          have hb0_v320 := hb_v320
                          have hb_v320 := Nat.lt_of_lt_of_le hb_v320 hn
                          have hlo_v320 : 94 ≤ b231 + 1 + 1 := by omega
                          have hR2_v320 := (congrFun (hX.2.1 b231 hb_b231).2.2 1).trans hR_v320
                          refine y_getR rfl ((hX.2.1 _ hb_b231).1.trans ht_b231) (Nat.lt_of_lt_of_le hb_b231 hX.1) rfl rfl hR2_v320 ?_
                          refine y_iload rfl rfl ?_
                          refine y_dup2 rfl rfl rfl ?_
                          refine y_ialoadw (j := 8) (J := _) rfl ((hX.2.1 _ hb_v320).1.trans ht_v320) (Nat.lt_of_lt_of_le hb_v320 hX.1) (by decide) (by decide) rfl ((hB.trans hX).n (by omega)) ?_
                          refine y_iload rfl rfl ?_
                          refine y_iadd rfl ?_
                          refine y_iastoreC (j := 8) rfl ((hX.2.1 _ hb_v320).1.trans ht_v320) (Nat.lt_of_lt_of_le hb_v320 hX.1) (Nat.le_trans (by decide) (by omega : 94 ≤ _)) (by decide) (by decide) rfl ?_
                          refine y_nameI (fun I321 e321 => ?_)
                          have hR1 := (hR0.grow hX).capB2x hlo_b231 (by omega) ((hX.2.1 _ hb_b231).1.trans ht_b231) (by omega) (by omega) hB1.2.1 e321 (by rw [show I319 (b231 + 1 + 1) = _ from ((hB.trans hX).n (by omega))])
                          have hK := (hK.x hRo hno hX).upE hRo hno (upI e321) (by omega) (by omega) (by rw [((hX.2.1 _ hb_v320).1.trans ht_v320)]; decide) (by rw [e321, upd2_ne (.inl (by omega))]; exact Int.le_refl _)
                          have hth := (show I321 83 0 = I319 83 0 by rw [e321, upd2_ne (.inl (by omega))]).trans hth
                          have hzz : ySz I319 I321 := ySz_ofE (upI e321) (by omega)
                          have hB := (hB.trans hX).wr e321 rfl
                          have h8 : ∀ a, 84 ≤ a → a ≤ 86 → I321 a = I a := fun a h1 h2 => (upI e321 a (by omega)).trans ((hX.2.1 a (by omega)).2.1.trans (h8 a h1 h2))
                          have h3k : ∀ k, k ≠ 0 → I321 83 k = I 83 k := fun k hk => (congrFun (congrFun e321 83) k).trans ((upd2_ne (.inl (by omega))).trans ((congrFun (hX.2.1 83 (by omega)).2.1 k).trans (h3k k hk)))
                          have hg := (hg.gx hX (by omega)).both e321
                          have hday : I321 83 1 = I 83 1 := (congrFun (congrFun e321 83) 1).trans ((upd2_ne (.inl (by omega))).trans ((congrFun (hX.2.1 83 (by omega)).2.1 1).trans hday))
                          have hRb : ∀ a, a < n → R a = R a := fun a ha => (hX.2.1 a (by omega)).2.2.trans (hRb a ha)
                          have hS0 := hS
                          have hR0 := hR1
                          have ht_b231 := (hX.2.1 _ hb_b231).1.trans ht_b231
                          have hb_b231 := Nat.lt_of_lt_of_le hb_b231 hX.1
                          have hb0_b231 := hb_b231
                          have ht_v304 := (hX.2.1 _ hb_v304).1.trans ht_v304
                          have hb_v304 := Nat.lt_of_lt_of_le hb_v304 hX.1
                          have hb0_v304 := hb_v304
                          have ht_v308 := (hX.2.1 _ hb_v308).1.trans ht_v308
                          have hb_v308 := Nat.lt_of_lt_of_le hb_v308 hX.1
                          have hb0_v308 := hb_v308
                          have ht_v312 := (hX.2.1 _ hb_v312).1.trans ht_v312
                          have hb_v312 := Nat.lt_of_lt_of_le hb_v312 hX.1
                          have hb0_v312 := hb_v312
                          have ht_v318 := (hX.2.1 _ hb_v318).1.trans ht_v318
                          have hb_v318 := Nat.lt_of_lt_of_le hb_v318 hX.1
                          have hb0_v318 := hb_v318
                          have ht_v320 := (hX.2.1 _ hb_v320).1.trans ht_v320
                          have hb_v320 := Nat.lt_of_lt_of_le hb_v320 hX.1
                          have hb0_v320 := hb_v320
                          have hn := Nat.le_refl n
                          have h94 := hS0.1
                          have hX := @yX.rf n tg I321 R
                          have hS := hS0.x hX
                          have hR := hR0.x hn hX
                          have hz := hX.sz h94
                          have hxn := hX.1
                          have hN := hR0.1
                          have hnb := hR0.2.2.2.2.2.2
                          have hthB := hth
                          refine y_aload_n rfl rfl ?_
                          refine y_getR rfl (ySh.t hS rfl) (ySh.n hS rfl) rfl rfl (ySh.r hS rfl) ?_
                          refine y_iload rfl rfl ?_
                          refine y_dup2 rfl rfl rfl ?_
                          refine y_ialoadw (j := 8) (J := I 84) rfl (ySh.t hS rfl) (ySh.n hS rfl) (by decide) (by decide) rfl (((hB.trans hX).n (by omega)).trans (by repeat (first | rfl | (rw [upd2_row (by first | decide | omega)]) | refine upd2_cg ?_))) ?_
                          refine y_iload rfl rfl ?_
                          refine y_iadd rfl ?_
                          refine y_iastoreC (j := 8) rfl (ySh.t hS rfl) (ySh.n hS rfl) (Nat.le_of_ble_eq_true rfl) (by decide) (by decide) rfl ?_
                          refine y_nameI (fun I322 e322 => ?_)
                          have hR1 := (hR0.grow hX).arr e322 (by decide)
                          have hK := (hK.x hRo hno hX).upI (upI e322) (by decide) (by decide) (fun i hi => by have := (hRo.l87.2.2.2.2 i hi).2.1; omega) (by rw [e322, upd2_ne (.inl (by omega))]; exact Int.le_refl _)
                          have hth := (show I322 83 0 = I321 83 0 by rw [e322, upd2_ne (.inl (by omega))]).trans hth
                          have hzz : ySz I321 I322 := ySz_ofE (upI e322) (by omega)
                          have hB := (hB.trans hX).wr e322 rfl
                          have h3k : ∀ k, k ≠ 0 → I322 83 k = I 83 k := fun k hk => (congrFun (congrFun e322 83) k).trans ((upd2_ne (.inl (by omega))).trans ((congrFun (hX.2.1 83 (by omega)).2.1 k).trans (h3k k hk)))
                          have hg := (hg.gx hX (by omega)).skip e322 (by decide)
                          have hday : I322 83 1 = I 83 1 := (congrFun (congrFun e322 83) 1).trans ((upd2_ne (.inl (by omega))).trans ((congrFun (hX.2.1 83 (by omega)).2.1 1).trans hday))
                          have hRb : ∀ a, a < n → R a = R a := fun a ha => (hX.2.1 a (by omega)).2.2.trans (hRb a ha)
                          have hS0 := hS
                          have hR0 := hR1
                          have ht_b231 := (hX.2.1 _ hb_b231).1.trans ht_b231
                          have hb_b231 := Nat.lt_of_lt_of_le hb_b231 hX.1
                          have hb0_b231 := hb_b231
                          have ht_v304 := (hX.2.1 _ hb_v304).1.trans ht_v304
                          have hb_v304 := Nat.lt_of_lt_of_le hb_v304 hX.1
                          have hb0_v304 := hb_v304
                          have ht_v308 := (hX.2.1 _ hb_v308).1.trans ht_v308
                          have hb_v308 := Nat.lt_of_lt_of_le hb_v308 hX.1
                          have hb0_v308 := hb_v308
                          have ht_v312 := (hX.2.1 _ hb_v312).1.trans ht_v312
                          have hb_v312 := Nat.lt_of_lt_of_le hb_v312 hX.1
                          have hb0_v312 := hb_v312
                          have ht_v318 := (hX.2.1 _ hb_v318).1.trans ht_v318
                          have hb_v318 := Nat.lt_of_lt_of_le hb_v318 hX.1
                          have hb0_v318 := hb_v318
                          have ht_v320 := (hX.2.1 _ hb_v320).1.trans ht_v320
                          have hb_v320 := Nat.lt_of_lt_of_le hb_v320 hX.1
                          have hb0_v320 := hb_v320
                          have hn := Nat.le_refl n
                          have h94 := hS0.1
                          have hX := @yX.rf n tg I322 R
                          have hS := hS0.x hX
                          have hR := hR0.x hn hX
                          have hz := hX.sz h94
                          have hxn := hX.1
                          have hN := hR0.1
                          have hnb := hR0.2.2.2.2.2.2
                          have hthB := hth
                          refine y_aload_n rfl rfl ?_
                          refine y_getR rfl (ySh.t hS rfl) (ySh.n hS rfl) rfl rfl (ySh.r hS rfl) ?_
                          refine y_iload rfl rfl ?_
                          refine y_dup2 rfl rfl rfl ?_
                          refine y_ialoadw (j := 8) (J := _) rfl (ySh.t hS rfl) (ySh.n hS rfl) (by decide) (by decide) rfl ((hB.trans hX).n (by omega)) ?_
                          refine y_iload rfl rfl ?_
                          refine y_isub rfl ?_
                          refine y_iastoreC (j := 8) rfl (ySh.t hS rfl) (ySh.n hS rfl) (Nat.le_of_ble_eq_true rfl) (by decide) (by decide) rfl ?_
                          refine y_nameI (fun I323 e323 => ?_)
                          have hR1 := (hR0.grow hX).arr e323 (by decide)
                          have hK := (hK.x hRo hno hX).upI (upI e323) (by decide) (by decide) (fun i hi => by have := (hRo.l87.2.2.2.2 i hi).2.1; omega) (by rw [e323, upd2_ne (.inl (by omega))]; exact Int.le_refl _)
                          have hth := (show I323 83 0 = I322 83 0 by rw [e323, upd2_ne (.inl (by omega))]).trans hth
                          have hzz : ySz I322 I323 := ySz_ofE (upI e323) (by omega)
                          have hB := (hB.trans hX).wr e323 rfl
                          have h3k : ∀ k, k ≠ 0 → I323 83 k = I 83 k := fun k hk => (congrFun (congrFun e323 83) k).trans ((upd2_ne (.inl (by omega))).trans ((congrFun (hX.2.1 83 (by omega)).2.1 k).trans (h3k k hk)))
                          have hg := (hg.gx hX (by omega)).skip e323 (by decide)
                          have hday : I323 83 1 = I 83 1 := (congrFun (congrFun e323 83) 1).trans ((upd2_ne (.inl (by omega))).trans ((congrFun (hX.2.1 83 (by omega)).2.1 1).trans hday))
                          have hRb : ∀ a, a < n → R a = R a := fun a ha => (hX.2.1 a (by omega)).2.2.trans (hRb a ha)
                          have hS0 := hS
                          have hR0 := hR1
                          have ht_b231 := (hX.2.1 _ hb_b231).1.trans ht_b231
                          have hb_b231 := Nat.lt_of_lt_of_le hb_b231 hX.1
                          have hb0_b231 := hb_b231
                          have ht_v304 := (hX.2.1 _ hb_v304).1.trans ht_v304
                          have hb_v304 := Nat.lt_of_lt_of_le hb_v304 hX.1
                          have hb0_v304 := hb_v304
                          have ht_v308 := (hX.2.1 _ hb_v308).1.trans ht_v308
                          have hb_v308 := Nat.lt_of_lt_of_le hb_v308 hX.1
                          have hb0_v308 := hb_v308
                          have ht_v312 := (hX.2.1 _ hb_v312).1.trans ht_v312
                          have hb_v312 := Nat.lt_of_lt_of_le hb_v312 hX.1
                          have hb0_v312 := hb_v312
                          have ht_v318 := (hX.2.1 _ hb_v318).1.trans ht_v318
                          have hb_v318 := Nat.lt_of_lt_of_le hb_v318 hX.1
                          have hb0_v318 := hb_v318
                          have ht_v320 := (hX.2.1 _ hb_v320).1.trans ht_v320
                          have hb_v320 := Nat.lt_of_lt_of_le hb_v320 hX.1
                          have hb0_v320 := hb_v320
                          have hn := Nat.le_refl n
                          have h94 := hS0.1
                          have hX := @yX.rf n tg I323 R
                          have hS := hS0.x hX
                          have hR := hR0.x hn hX
                          have hz := hX.sz h94
                          have hxn := hX.1
                          have hN := hR0.1
                          have hnb := hR0.2.2.2.2.2.2
                          have hthB := hth
                          refine y_aload rfl rfl ?_
                          obtain ⟨hR_v324, hb_v324, ht_v324⟩ := hR0.ven hlo_b231 hb0_b231 ht_b231 (j := 1) (by decide)
                          have hb0_v324 := hb_v324
                          have hb_v324 := Nat.lt_of_lt_of_le hb_v324 hn
                          have hlo_v324 : 94 ≤ b231 + 1 + 1 := by omega
                          have hR2_v324 := (congrFun (hX.2.1 b231 hb_b231).2.2 1).trans hR_v324
                          refine y_getR rfl ((hX.2.1 _ hb_b231).1.trans ht_b231) (Nat.lt_of_lt_of_le hb_b231 hX.1) rfl rfl hR2_v324 ?_
                          refine y_iload rfl rfl ?_
                          refine y_ialoadw (j := 8) (J := _) rfl ((hX.2.1 _ hb_v324).1.trans ht_v324) (Nat.lt_of_lt_of_le hb_v324 hX.1) (by decide) (by decide) rfl ((hB.trans hX).n (by omega)) ?_
                          refine y_ireturn rfl rfl rfl ?_
                          exact hQ0 _ eb_b231 (by first | omega | (simp only [show ySeat x2 = x2 from if_neg (by omega), show ySeat x3 = x3 from if_neg (by omega)]; omega) | (simp only [show ySeat x2 = x2 from if_neg (by omega), show ySeat x3 = Int32.ofInt 8 from if_pos (by omega), show (Int32.ofInt 8).toInt.toNat = 8 from by decide]; omega) | (simp only [show ySeat x2 = Int32.ofInt 8 from if_pos (by omega), show ySeat x3 = x3 from if_neg (by omega), show (Int32.ofInt 8).toInt.toNat = 8 from by decide]; omega) | (simp only [show ySeat x2 = Int32.ofInt 8 from if_pos (by omega), show ySeat x3 = Int32.ofInt 8 from if_pos (by omega), show (Int32.ofInt 8).toInt.toNat = 8 from by decide]; omega)) _ _ _ _ _ _ _ hS ((hR0.grow hX).up (Nat.le_succ K) hk6) (hK.x hRo hno hX) hth (by first | exact (congrFun ((hB.trans hX).n (by omega)) _).symm | (simp only [show ySeat x2 = x2 from if_neg (by omega), show ySeat x3 = x3 from if_neg (by omega)]; exact (congrFun ((hB.trans hX).n (by omega)) _).symm) | (simp only [show ySeat x2 = x2 from if_neg (by omega), show ySeat x3 = Int32.ofInt 8 from if_pos (by omega), show (Int32.ofInt 8).toInt.toNat = 8 from by decide]; exact (congrFun ((hB.trans hX).n (by omega)) _).symm) | (simp only [show ySeat x2 = Int32.ofInt 8 from if_pos (by omega), show ySeat x3 = x3 from if_neg (by omega), show (Int32.ofInt 8).toInt.toNat = 8 from by decide]; exact (congrFun ((hB.trans hX).n (by omega)) _).symm) | (simp only [show ySeat x2 = Int32.ofInt 8 from if_pos (by omega), show ySeat x3 = Int32.ofInt 8 from if_pos (by omega), show (Int32.ofInt 8).toInt.toNat = 8 from by decide]; exact (congrFun ((hB.trans hX).n (by omega)) _).symm)) (by first | (exact hB.trans hX) | (simp only [show ySeat x2 = x2 from if_neg (by omega), show ySeat x3 = x3 from if_neg (by omega)]; exact hB.trans hX) | (simp only [show ySeat x2 = x2 from if_neg (by omega), show ySeat x3 = Int32.ofInt 8 from if_pos (by omega), show (Int32.ofInt 8).toInt.toNat = 8 from by decide]; exact hB.trans hX) | (simp only [show ySeat x2 = Int32.ofInt 8 from if_pos (by omega), show ySeat x3 = x3 from if_neg (by omega), show (Int32.ofInt 8).toInt.toNat = 8 from by decide]; exact hB.trans hX) | (simp only [show ySeat x2 = Int32.ofInt 8 from if_pos (by omega), show ySeat x3 = Int32.ofInt 8 from if_pos (by omega), show (Int32.ofInt 8).toInt.toNat = 8 from by decide]; exact hB.trans hX)) (by omega) (by omega)
                        · refine y_iconst rfl ?_
                          refine y_goto rfl j_X14_buyOut_147 ?_
                          refine y_iconst rfl ?_
                          refine y_virt rfl rfl rfl rfl rfl (ySh.t hS rfl) (ySh.n hS rfl) ?_
                          refine y_in (M := xm_X14_refuse) (ls := [some _, some _, some _]) rfl rfl rfl ?_
                          refine y_iload_n rfl rfl ?_
                          refine y_if_eqF rfl (by decide) ?_
                          refine y_aload_n rfl rfl ?_
                          refine y_getIv (v := Int32.ofInt (0)) rfl (ySh.t hS rfl) (ySh.n hS rfl) rfl rfl hth ?_
                          refine y_if_neF rfl (by decide) ?_
                          refine y_aload_n rfl rfl ?_
                          refine y_iload_n rfl rfl ?_
                          refine y_putI rfl (ySh.t hS rfl) (ySh.n hS rfl) rfl (Nat.le_of_ble_eq_true rfl) rfl rfl ?_
                          refine y_nameI (fun I325 e325 => ?_)
                          have hR1 := (hR0.grow hX).mod0 e325 (by decide) (by decide)
                          have hK := (hK.x hRo hno hX).upI (upI e325) (by decide) (by decide) (fun i hi => by have := (hRo.l87.2.2.2.2 i hi).2.1; omega) (by rw [e325, upd2_ne (.inr (by decide))]; exact Int.le_refl _)
                          have hth : I325 83 0 = Int32.ofInt (3) := by rw [e325, upd2_self]
                          have hzz : ySz8 I224 I325 := ySz8_of (upI e325) (by rw [e325]; exact ⟨upd2_ne (.inr (by decide)), upd2_ne (.inr (by decide))⟩)
                          have hB := (hB.trans hX).wr e325 rfl
                          have h8 : ∀ a, 84 ≤ a → a ≤ 86 → I325 a = I a := fun a h1 h2 => (upI e325 a (by omega)).trans ((hX.2.1 a (by omega)).2.1.trans (h8 a h1 h2))
                          have h3k : ∀ k, k ≠ 0 → I325 83 k = I 83 k := fun k hk => (congrFun (congrFun e325 83) k).trans ((upd2_ne (.inr hk)).trans ((congrFun (hX.2.1 83 (by omega)).2.1 k).trans (h3k k hk)))
                          have hg := (hg.gx hX (by omega)).skip e325 (by decide)
                          have hday : I325 83 1 = I 83 1 := (congrFun (congrFun e325 83) 1).trans ((upd2_ne (.inr (by decide))).trans ((congrFun (hX.2.1 83 (by omega)).2.1 1).trans hday))
                          have hRb : ∀ a, a < n → R a = R a := fun a ha => (hX.2.1 a (by omega)).2.2.trans (hRb a ha)
                          have hb83 : ∀ a, a ≠ 83 → a < n → I325 a = I a := fun a ha hb => (upI e325 a ha).trans ((hX.2.1 a (by omega)).2.1.trans (hb83 a ha hb))
                          have hS0 := hS
                          have hR0 := hR1
                          have ht_b231 := (hX.2.1 _ hb_b231).1.trans ht_b231
                          have hb_b231 := Nat.lt_of_lt_of_le hb_b231 hX.1
                          have hb0_b231 := hb_b231
                          have ht_v304 := (hX.2.1 _ hb_v304).1.trans ht_v304
                          have hb_v304 := Nat.lt_of_lt_of_le hb_v304 hX.1
                          have hb0_v304 := hb_v304
                          have ht_v308 := (hX.2.1 _ hb_v308).1.trans ht_v308
                          have hb_v308 := Nat.lt_of_lt_of_le hb_v308 hX.1
                          have hb0_v308 := hb_v308
                          have ht_v312 := (hX.2.1 _ hb_v312).1.trans ht_v312
                          have hb_v312 := Nat.lt_of_lt_of_le hb_v312 hX.1
                          have hb0_v312 := hb_v312
                          have hn := Nat.le_refl n
                          have h94 := hS0.1
                          have hX := @yX.rf n tg I325 R
                          have hS := hS0.x hX
                          have hR := hR0.x hn hX
                          have hz := hX.sz h94
                          have hxn := hX.1
                          have hN := hR0.1
                          have hnb := hR0.2.2.2.2.2.2
                          have hthB := hth
                          refine y_aload_n rfl rfl ?_
                          refine y_getIv (v := Int32.ofInt (3)) rfl (ySh.t hS rfl) (ySh.n hS rfl) rfl rfl hth ?_
                          refine y_if_leF rfl (by decide) ?_
                          refine y_iconst rfl ?_
                          refine y_goto rfl j_X14_refuse_28 ?_
                          refine y_ireturn rfl rfl rfl ?_
                          refine y_ret1 ?_
                          refine y_if_eqF rfl (by decide) ?_
                          refine y_iconst rfl ?_
                          refine y_ireturn rfl rfl rfl ?_
                          exact hQ3 _ eb_b231 (by first | omega | (simp only [show ySeat x2 = x2 from if_neg (by omega), show ySeat x3 = x3 from if_neg (by omega)]; omega) | (simp only [show ySeat x2 = x2 from if_neg (by omega), show ySeat x3 = Int32.ofInt 8 from if_pos (by omega), show (Int32.ofInt 8).toInt.toNat = 8 from by decide]; omega) | (simp only [show ySeat x2 = Int32.ofInt 8 from if_pos (by omega), show ySeat x3 = x3 from if_neg (by omega), show (Int32.ofInt 8).toInt.toNat = 8 from by decide]; omega) | (simp only [show ySeat x2 = Int32.ofInt 8 from if_pos (by omega), show ySeat x3 = Int32.ofInt 8 from if_pos (by omega), show (Int32.ofInt 8).toInt.toNat = 8 from by decide]; omega)) _ _ _ _ _ _ _ hS ((hR0.grow hX).up (Nat.le_succ K) hk6) (hK.x hRo hno hX) hth ((hB.trans hX).rf2 (by omega)) (by omega) (by omega)
            · rw [yz_1] at h_230
              rw [yz_999] at h_230
              refine y_ret1 ?_
              refine y_if_neF rfl (by decide) ?_
              refine y_iconst rfl ?_
              refine y_goto rfl j_X14_buyOut_60 ?_
              refine y_iconst rfl ?_
              refine y_virt rfl rfl rfl rfl rfl (ySh.t hS rfl) (ySh.n hS rfl) ?_
              refine y_in (M := xm_X14_refuse) (ls := [some _, some _, some _]) rfl rfl rfl ?_
              refine y_iload_n rfl rfl ?_
              refine y_if_eqF rfl (by decide) ?_
              refine y_aload_n rfl rfl ?_
              refine y_getIv (v := Int32.ofInt (0)) rfl (ySh.t hS rfl) (ySh.n hS rfl) rfl rfl hth ?_
              refine y_if_neF rfl (by decide) ?_
              refine y_aload_n rfl rfl ?_
              refine y_iload_n rfl rfl ?_
              refine y_putI rfl (ySh.t hS rfl) (ySh.n hS rfl) rfl (Nat.le_of_ble_eq_true rfl) rfl rfl ?_
              refine y_nameI (fun I326 e326 => ?_)
              have hR1 := (hR0.grow hX).mod0 e326 (by decide) (by decide)
              have hK := (hK.x hRo hno hX).upI (upI e326) (by decide) (by decide) (fun i hi => by have := (hRo.l87.2.2.2.2 i hi).2.1; omega) (by rw [e326, upd2_ne (.inr (by decide))]; exact Int.le_refl _)
              have hth : I326 83 0 = Int32.ofInt (2) := by rw [e326, upd2_self]
              have hzz : ySz8 I224 I326 := ySz8_of (upI e326) (by rw [e326]; exact ⟨upd2_ne (.inr (by decide)), upd2_ne (.inr (by decide))⟩)
              have hB := (hB.trans hX).wr e326 rfl
              have h8 : ∀ a, 84 ≤ a → a ≤ 86 → I326 a = I a := fun a h1 h2 => (upI e326 a (by omega)).trans ((hX.2.1 a (by omega)).2.1.trans (h8 a h1 h2))
              have h3k : ∀ k, k ≠ 0 → I326 83 k = I 83 k := fun k hk => (congrFun (congrFun e326 83) k).trans ((upd2_ne (.inr hk)).trans ((congrFun (hX.2.1 83 (by omega)).2.1 k).trans (h3k k hk)))
              have hg := (hg.gx hX (by omega)).skip e326 (by decide)
              have hday : I326 83 1 = I 83 1 := (congrFun (congrFun e326 83) 1).trans ((upd2_ne (.inr (by decide))).trans ((congrFun (hX.2.1 83 (by omega)).2.1 1).trans hday))
              have hRb : ∀ a, a < n → R a = R a := fun a ha => (hX.2.1 a (by omega)).2.2.trans (hRb a ha)
              have hb83 : ∀ a, a ≠ 83 → a < n → I326 a = I a := fun a ha hb => (upI e326 a ha).trans ((hX.2.1 a (by omega)).2.1.trans (hb83 a ha hb))
              have hS0 := hS
              have hR0 := hR1
              have hn := Nat.le_refl n
              have h94 := hS0.1
              have hX := @yX.rf n tg I326 R
              have hS := hS0.x hX
              have hR := hR0.x hn hX
              have hz := hX.sz h94
              have hxn := hX.1
              have hN := hR0.1
              have hnb := hR0.2.2.2.2.2.2
              have hthB := hth
              refine y_aload_n rfl rfl ?_
              refine y_getIv (v := Int32.ofInt (2)) rfl (ySh.t hS rfl) (ySh.n hS rfl) rfl rfl hth ?_
              refine y_if_leF rfl (by decide) ?_
              refine y_iconst rfl ?_
              refine y_goto rfl j_X14_refuse_28 ?_
              refine y_ireturn rfl rfl rfl ?_
              refine y_ret1 ?_
              refine y_if_eqF rfl (by decide) ?_
              refine y_iconst rfl ?_
              refine y_ireturn rfl rfl rfl ?_
              exact hQ2 (by first | omega | (simp only [show ySeat x2 = x2 from if_neg (by omega), show ySeat x3 = x3 from if_neg (by omega)]; omega) | (simp only [show ySeat x2 = x2 from if_neg (by omega), show ySeat x3 = Int32.ofInt 8 from if_pos (by omega), show (Int32.ofInt 8).toInt.toNat = 8 from by decide]; omega) | (simp only [show ySeat x2 = Int32.ofInt 8 from if_pos (by omega), show ySeat x3 = x3 from if_neg (by omega), show (Int32.ofInt 8).toInt.toNat = 8 from by decide]; omega) | (simp only [show ySeat x2 = Int32.ofInt 8 from if_pos (by omega), show ySeat x3 = Int32.ofInt 8 from if_pos (by omega), show (Int32.ofInt 8).toInt.toNat = 8 from by decide]; omega)) _ _ _ _ _ _ _ hS ((hR0.grow hX).up (Nat.le_succ K) hk6) (hK.x hRo hno hX) hth ((hB.trans hX).rf2 (by omega)) (by omega) (by omega)
        · rw [yz_m1] at h_223
          refine y_aload_n rfl rfl ?_
          refine y_iload_n rfl rfl ?_
          refine y_virt rfl rfl rfl rfl rfl (ySh.t hS rfl) (ySh.n hS rfl) ?_
          refine y_in (M := xm_X14_isNobody) (ls := [some _, some _]) rfl rfl rfl ?_
          refine y_iload_n rfl rfl ?_
          refine y_iconst rfl ?_
          refine y_aload_n rfl rfl ?_
          refine y_getIv (v := I 83 8) rfl (ySh.t hS rfl) (ySh.n hS rfl) rfl rfl ((congrFun ((hB.trans hX).n (by omega : 83 < n)) 8).trans (by repeat (first | rfl | rw [upd2_ne (by first | exact .inl (by omega) | exact .inr (by decide))]))) ?_
          refine y_iconst rfl ?_
          refine y_isub rfl ?_
          refine y_static rfl rfl rfl rfl rfl ?_
          refine r_isIn (fun h_327 h_328 => ?_) (fun h_329 => ?_)
          · rw [yz_0] at h_327
            try rw [ysub (by rw [yz_1]; omega) (by rw [yz_1]; omega), yz_1] at h_328
            refine y_ret1 ?_
            refine y_if_neT rfl j_X14_isNobody_18 (by decide) ?_
            refine y_iconst rfl ?_
            refine y_ireturn rfl rfl rfl ?_
            refine y_ret1 ?_
            refine y_if_eqT rfl j_X14_isNoOne_17 (by decide) ?_
            refine y_iconst rfl ?_
            refine y_ireturn rfl rfl rfl ?_
            refine y_ret1 ?_
            refine y_if_eqT rfl j_X14_buyOut_29 (by decide) ?_
            refine y_iconst rfl ?_
            refine y_iconst rfl ?_
            refine y_virt rfl rfl rfl rfl rfl (ySh.t hS rfl) (ySh.n hS rfl) ?_
            refine y_in (M := xm_X14_start) (ls := [some _, some _, some _]) rfl rfl rfl ?_
            refine y_aload_n rfl rfl ?_
            refine y_iconst rfl ?_
            refine y_putI rfl (ySh.t hS rfl) (ySh.n hS rfl) rfl (Nat.le_of_ble_eq_true rfl) rfl rfl ?_
            refine y_nameI (fun I330 e330 => ?_)
            have hR1 := (hR0.grow hX).mod0 e330 (by decide) (by decide)
            have hK := (hK.x hRo hno hX).upI (upI e330) (by decide) (by decide) (fun i hi => by have := (hRo.l87.2.2.2.2 i hi).2.1; omega) (by rw [e330, upd2_ne (.inr (by decide))]; exact Int.le_refl _)
            have hth : I330 83 0 = Int32.ofInt (0) := by rw [e330, upd2_self]
            have hzz : ySz8 I I330 := ySz8_of (upI e330) (by rw [e330]; exact ⟨upd2_ne (.inr (by decide)), upd2_ne (.inr (by decide))⟩)
            have hB := (hB.trans hX).wr e330 rfl
            have h8 : ∀ a, 84 ≤ a → a ≤ 86 → I330 a = I a := fun a h1 h2 => (upI e330 a (by omega)).trans ((hX.2.1 a (by omega)).2.1.trans (h8 a h1 h2))
            have h3k : ∀ k, k ≠ 0 → I330 83 k = I 83 k := fun k hk => (congrFun (congrFun e330 83) k).trans ((upd2_ne (.inr hk)).trans ((congrFun (hX.2.1 83 (by omega)).2.1 k).trans (h3k k hk)))
            have hg := (hg.gx hX (by omega)).skip e330 (by decide)
            have hday : I330 83 1 = I 83 1 := (congrFun (congrFun e330 83) 1).trans ((upd2_ne (.inr (by decide))).trans ((congrFun (hX.2.1 83 (by omega)).2.1 1).trans hday))
            have hRb : ∀ a, a < n → R a = R a := fun a ha => (hX.2.1 a (by omega)).2.2.trans (hRb a ha)
            have hb83 : ∀ a, a ≠ 83 → a < n → I330 a = I a := fun a ha hb => (upI e330 a ha).trans ((hX.2.1 a (by omega)).2.1.trans (hb83 a ha hb))
            have hS0 := hS
            have hR0 := hR1
            have hn := Nat.le_refl n
            have h94 := hS0.1
            have hX := @yX.rf n tg I330 R
            have hS := hS0.x hX
            have hR := hR0.x hn hX
            have hz := hX.sz h94
            have hxn := hX.1
            have hN := hR0.1
            have hnb := hR0.2.2.2.2.2.2
            have hthB := hth
            refine y_aload_n rfl rfl ?_
            refine y_iload_n rfl rfl ?_
            refine y_iload_n rfl rfl ?_
            refine y_virt rfl rfl rfl rfl rfl (ySh.t hS rfl) (ySh.n hS rfl) ?_
            refine y_in (M := xm_X14_refuse) (ls := [some _, some _, some _]) rfl rfl rfl ?_
            refine y_iload_n rfl rfl ?_
            refine y_if_eqT rfl j_X14_refuse_16 (by decide) ?_
            refine y_aload_n rfl rfl ?_
            refine y_getIv (v := Int32.ofInt (0)) rfl (ySh.t hS rfl) (ySh.n hS rfl) rfl rfl hth ?_
            refine y_if_leT rfl j_X14_refuse_27 (by decide) ?_
            refine y_iconst rfl ?_
            refine y_ireturn rfl rfl rfl ?_
            refine y_ret1 ?_
            refine y_ireturn rfl rfl rfl ?_
            refine y_ret1 ?_
            refine y_if_neF rfl (by decide) ?_
            refine y_aload_n rfl rfl ?_
            refine y_iload_n rfl rfl ?_
            refine y_iload_n rfl rfl ?_
            refine y_icmp_eq rfl j_X14_buyOut_55 (fun h_331 => ?_) (fun h_332 => ?_)
            · refine y_iconst rfl ?_
              refine y_goto rfl j_X14_buyOut_60 ?_
              refine y_iconst rfl ?_
              refine y_virt rfl rfl rfl rfl rfl (ySh.t hS rfl) (ySh.n hS rfl) ?_
              refine y_in (M := xm_X14_refuse) (ls := [some _, some _, some _]) rfl rfl rfl ?_
              refine y_iload_n rfl rfl ?_
              refine y_if_eqF rfl (by decide) ?_
              refine y_aload_n rfl rfl ?_
              refine y_getIv (v := Int32.ofInt (0)) rfl (ySh.t hS rfl) (ySh.n hS rfl) rfl rfl hth ?_
              refine y_if_neF rfl (by decide) ?_
              refine y_aload_n rfl rfl ?_
              refine y_iload_n rfl rfl ?_
              refine y_putI rfl (ySh.t hS rfl) (ySh.n hS rfl) rfl (Nat.le_of_ble_eq_true rfl) rfl rfl ?_
              refine y_nameI (fun I333 e333 => ?_)
              have hR1 := (hR0.grow hX).mod0 e333 (by decide) (by decide)
              have hK := (hK.x hRo hno hX).upI (upI e333) (by decide) (by decide) (fun i hi => by have := (hRo.l87.2.2.2.2 i hi).2.1; omega) (by rw [e333, upd2_ne (.inr (by decide))]; exact Int.le_refl _)
              have hth : I333 83 0 = Int32.ofInt (2) := by rw [e333, upd2_self]
              have hzz : ySz8 I330 I333 := ySz8_of (upI e333) (by rw [e333]; exact ⟨upd2_ne (.inr (by decide)), upd2_ne (.inr (by decide))⟩)
              have hB := (hB.trans hX).wr e333 rfl
              have h8 : ∀ a, 84 ≤ a → a ≤ 86 → I333 a = I a := fun a h1 h2 => (upI e333 a (by omega)).trans ((hX.2.1 a (by omega)).2.1.trans (h8 a h1 h2))
              have h3k : ∀ k, k ≠ 0 → I333 83 k = I 83 k := fun k hk => (congrFun (congrFun e333 83) k).trans ((upd2_ne (.inr hk)).trans ((congrFun (hX.2.1 83 (by omega)).2.1 k).trans (h3k k hk)))
              have hg := (hg.gx hX (by omega)).skip e333 (by decide)
              have hday : I333 83 1 = I 83 1 := (congrFun (congrFun e333 83) 1).trans ((upd2_ne (.inr (by decide))).trans ((congrFun (hX.2.1 83 (by omega)).2.1 1).trans hday))
              have hRb : ∀ a, a < n → R a = R a := fun a ha => (hX.2.1 a (by omega)).2.2.trans (hRb a ha)
              have hb83 : ∀ a, a ≠ 83 → a < n → I333 a = I a := fun a ha hb => (upI e333 a ha).trans ((hX.2.1 a (by omega)).2.1.trans (hb83 a ha hb))
              have hS0 := hS
              have hR0 := hR1
              have hn := Nat.le_refl n
              have h94 := hS0.1
              have hX := @yX.rf n tg I333 R
              have hS := hS0.x hX
              have hR := hR0.x hn hX
              have hz := hX.sz h94
              have hxn := hX.1
              have hN := hR0.1
              have hnb := hR0.2.2.2.2.2.2
              have hthB := hth
              refine y_aload_n rfl rfl ?_
              refine y_getIv (v := Int32.ofInt (2)) rfl (ySh.t hS rfl) (ySh.n hS rfl) rfl rfl hth ?_
              refine y_if_leF rfl (by decide) ?_
              refine y_iconst rfl ?_
              refine y_goto rfl j_X14_refuse_28 ?_
              refine y_ireturn rfl rfl rfl ?_
              refine y_ret1 ?_
              refine y_if_eqF rfl (by decide) ?_
              refine y_iconst rfl ?_
              refine y_ireturn rfl rfl rfl ?_
              exact hQ2 (by first | omega | (simp only [show ySeat x2 = x2 from if_neg (by omega), show ySeat x3 = x3 from if_neg (by omega)]; omega) | (simp only [show ySeat x2 = x2 from if_neg (by omega), show ySeat x3 = Int32.ofInt 8 from if_pos (by omega), show (Int32.ofInt 8).toInt.toNat = 8 from by decide]; omega) | (simp only [show ySeat x2 = Int32.ofInt 8 from if_pos (by omega), show ySeat x3 = x3 from if_neg (by omega), show (Int32.ofInt 8).toInt.toNat = 8 from by decide]; omega) | (simp only [show ySeat x2 = Int32.ofInt 8 from if_pos (by omega), show ySeat x3 = Int32.ofInt 8 from if_pos (by omega), show (Int32.ofInt 8).toInt.toNat = 8 from by decide]; omega)) _ _ _ _ _ _ _ hS ((hR0.grow hX).up (Nat.le_succ K) hk6) (hK.x hRo hno hX) hth ((hB.trans hX).rf2 (by omega)) (by omega) (by omega)
            · refine y_iload rfl rfl ?_
              refine y_iconst rfl ?_
              refine y_sip rfl (by decide) ?_
              refine y_static rfl rfl rfl rfl rfl ?_
              refine r_isIn (fun h_334 h_335 => ?_) (fun h_336 => ?_)
              · rw [yz_1] at h_334
                rw [yz_999] at h_335
                refine y_ret1 ?_
                refine y_if_neT rfl j_X14_buyOut_59 (by decide) ?_
                refine y_iconst rfl ?_
                refine y_iconst rfl ?_
                refine y_virt rfl rfl rfl rfl rfl (ySh.t hS rfl) (ySh.n hS rfl) ?_
                refine y_in (M := xm_X14_refuse) (ls := [some _, some _, some _]) rfl rfl rfl ?_
                refine y_iload_n rfl rfl ?_
                refine y_if_eqT rfl j_X14_refuse_16 (by decide) ?_
                refine y_aload_n rfl rfl ?_
                refine y_getIv (v := Int32.ofInt (0)) rfl (ySh.t hS rfl) (ySh.n hS rfl) rfl rfl hth ?_
                refine y_if_leT rfl j_X14_refuse_27 (by decide) ?_
                refine y_iconst rfl ?_
                refine y_ireturn rfl rfl rfl ?_
                refine y_ret1 ?_
                refine y_if_eqT rfl j_X14_buyOut_69 (by decide) ?_
                refine y_aload_n rfl rfl ?_
                refine y_getR rfl (ySh.t hS rfl) (ySh.n hS rfl) rfl rfl (ySh.r hS rfl) ?_
                refine y_iload_n rfl rfl ?_
                refine y_virt rfl rfl rfl rfl rfl (ySh.t hS rfl) (ySh.n hS rfl) ?_
                refine l_get (nb := n) (ySh.t hS rfl) (ySh.n hS rfl) (Nat.le_trans hn hX.1) hR.l91 (by omega) (by omega) (fun b337 eb_b337 hlo_b337 hb0_b337 ht_b337 => ?_)
                have hb_b337 := Nat.lt_of_lt_of_le hb0_b337 hn
                replace ht_b337 := (hX.2.1 _ hb_b337).1.symm.trans ht_b337
                refine y_ret1 ?_
                refine y_cast rfl ((hX.2.1 _ hb_b337).1.trans ht_b337) (Nat.lt_of_lt_of_le hb_b337 hX.1) ?_
                refine y_astore (ls' := [some _, some _, some _, some _, some _, some _, _, _]) rfl rfl rfl ?_
                refine y_iload_n rfl rfl ?_
                refine y_static rfl rfl rfl rfl rfl ?_
                refine y_in (M := xm_X14_seat) (ls := [some _]) rfl rfl rfl ?_
                refine y_iload_n rfl rfl ?_
                refine y_iconst rfl ?_
                refine y_icmp_ne rfl j_X14_seat_10 (fun h_338 => ?_) (fun h_339 => ?_)
                · rw [yz_m1] at h_338
                  refine y_iload_n rfl rfl ?_
                  refine y_ireturn rfl rfl rfl ?_
                  refine y_ret1 ?_
                  refine y_istore (ls' := [some _, some _, some _, some _, some _, some _, some _, _]) rfl rfl rfl ?_
                  refine y_iload_n rfl rfl ?_
                  refine y_static rfl rfl rfl rfl rfl ?_
                  refine y_in (M := xm_X14_seat) (ls := [some _]) rfl rfl rfl ?_
                  refine y_iload_n rfl rfl ?_
                  refine y_iconst rfl ?_
                  refine y_icmp_ne rfl j_X14_seat_10 (fun h_340 => ?_) (fun h_341 => ?_)
                  · rw [yz_m1] at h_340
                    refine y_iload_n rfl rfl ?_
                    refine y_ireturn rfl rfl rfl ?_
                    refine y_ret1 ?_
                    refine y_istore (ls' := [some _, some _, some _, some _, some _, some _, some _, some _]) rfl rfl rfl ?_
                    refine y_aload_n rfl rfl ?_
                    refine y_aload rfl rfl ?_
                    obtain ⟨hR_v342, hb_v342, ht_v342⟩ := hR0.ven hlo_b337 hb0_b337 ht_b337 (j := 0) (by decide)
                    have hb0_v342 := hb_v342
                    have hb_v342 := Nat.lt_of_lt_of_le hb_v342 hn
                    have hlo_v342 : 94 ≤ b337 + 1 + 0 := by omega
                    have hR2_v342 := (congrFun (hX.2.1 b337 hb_b337).2.2 0).trans hR_v342
                    refine y_getR rfl ((hX.2.1 _ hb_b337).1.trans ht_b337) (Nat.lt_of_lt_of_le hb_b337 hX.1) rfl rfl hR2_v342 ?_
                    refine y_iload rfl rfl ?_
                    refine y_baloadv (J := I (b337 + 1 + 0)) rfl ((hX.2.1 _ hb_v342).1.trans ht_v342) rfl (Nat.lt_of_lt_of_le hb_v342 hX.1) (by omega) (by omega) (((hB.trans hX).n (by omega)).trans (by repeat (first | rfl | (rw [upd2_row (by first | decide | omega)]) | refine upd2_cg ?_))) ?_
                    refine y_if_eq rfl j_X14_buyOut_142 (fun h_343 => ?_) (fun h_344 => ?_)
                    · refine y_iconst rfl ?_
                      refine y_goto rfl j_X14_buyOut_147 ?_
                      refine y_iconst rfl ?_
                      refine y_virt rfl rfl rfl rfl rfl (ySh.t hS rfl) (ySh.n hS rfl) ?_
                      refine y_in (M := xm_X14_refuse) (ls := [some _, some _, some _]) rfl rfl rfl ?_
                      refine y_iload_n rfl rfl ?_
                      refine y_if_eqF rfl (by decide) ?_
                      refine y_aload_n rfl rfl ?_
                      refine y_getIv (v := Int32.ofInt (0)) rfl (ySh.t hS rfl) (ySh.n hS rfl) rfl rfl hth ?_
                      refine y_if_neF rfl (by decide) ?_
                      refine y_aload_n rfl rfl ?_
                      refine y_iload_n rfl rfl ?_
                      refine y_putI rfl (ySh.t hS rfl) (ySh.n hS rfl) rfl (Nat.le_of_ble_eq_true rfl) rfl rfl ?_
                      refine y_nameI (fun I345 e345 => ?_)
                      have hR1 := (hR0.grow hX).mod0 e345 (by decide) (by decide)
                      have hK := (hK.x hRo hno hX).upI (upI e345) (by decide) (by decide) (fun i hi => by have := (hRo.l87.2.2.2.2 i hi).2.1; omega) (by rw [e345, upd2_ne (.inr (by decide))]; exact Int.le_refl _)
                      have hth : I345 83 0 = Int32.ofInt (3) := by rw [e345, upd2_self]
                      have hzz : ySz8 I330 I345 := ySz8_of (upI e345) (by rw [e345]; exact ⟨upd2_ne (.inr (by decide)), upd2_ne (.inr (by decide))⟩)
                      have hB := (hB.trans hX).wr e345 rfl
                      have h8 : ∀ a, 84 ≤ a → a ≤ 86 → I345 a = I a := fun a h1 h2 => (upI e345 a (by omega)).trans ((hX.2.1 a (by omega)).2.1.trans (h8 a h1 h2))
                      have h3k : ∀ k, k ≠ 0 → I345 83 k = I 83 k := fun k hk => (congrFun (congrFun e345 83) k).trans ((upd2_ne (.inr hk)).trans ((congrFun (hX.2.1 83 (by omega)).2.1 k).trans (h3k k hk)))
                      have hg := (hg.gx hX (by omega)).skip e345 (by decide)
                      have hday : I345 83 1 = I 83 1 := (congrFun (congrFun e345 83) 1).trans ((upd2_ne (.inr (by decide))).trans ((congrFun (hX.2.1 83 (by omega)).2.1 1).trans hday))
                      have hRb : ∀ a, a < n → R a = R a := fun a ha => (hX.2.1 a (by omega)).2.2.trans (hRb a ha)
                      have hb83 : ∀ a, a ≠ 83 → a < n → I345 a = I a := fun a ha hb => (upI e345 a ha).trans ((hX.2.1 a (by omega)).2.1.trans (hb83 a ha hb))
                      have hS0 := hS
                      have hR0 := hR1
                      have ht_b337 := (hX.2.1 _ hb_b337).1.trans ht_b337
                      have hb_b337 := Nat.lt_of_lt_of_le hb_b337 hX.1
                      have hb0_b337 := hb_b337
                      have ht_v342 := (hX.2.1 _ hb_v342).1.trans ht_v342
                      have hb_v342 := Nat.lt_of_lt_of_le hb_v342 hX.1
                      have hb0_v342 := hb_v342
                      have hn := Nat.le_refl n
                      have h94 := hS0.1
                      have hX := @yX.rf n tg I345 R
                      have hS := hS0.x hX
                      have hR := hR0.x hn hX
                      have hz := hX.sz h94
                      have hxn := hX.1
                      have hN := hR0.1
                      have hnb := hR0.2.2.2.2.2.2
                      have hthB := hth
                      refine y_aload_n rfl rfl ?_
                      refine y_getIv (v := Int32.ofInt (3)) rfl (ySh.t hS rfl) (ySh.n hS rfl) rfl rfl hth ?_
                      refine y_if_leF rfl (by decide) ?_
                      refine y_iconst rfl ?_
                      refine y_goto rfl j_X14_refuse_28 ?_
                      refine y_ireturn rfl rfl rfl ?_
                      refine y_ret1 ?_
                      refine y_if_eqF rfl (by decide) ?_
                      refine y_iconst rfl ?_
                      refine y_ireturn rfl rfl rfl ?_
                      exact hQ3 _ eb_b337 (by first | omega | (simp only [show ySeat x2 = x2 from if_neg (by omega), show ySeat x3 = x3 from if_neg (by omega)]; omega) | (simp only [show ySeat x2 = x2 from if_neg (by omega), show ySeat x3 = Int32.ofInt 8 from if_pos (by omega), show (Int32.ofInt 8).toInt.toNat = 8 from by decide]; omega) | (simp only [show ySeat x2 = Int32.ofInt 8 from if_pos (by omega), show ySeat x3 = x3 from if_neg (by omega), show (Int32.ofInt 8).toInt.toNat = 8 from by decide]; omega) | (simp only [show ySeat x2 = Int32.ofInt 8 from if_pos (by omega), show ySeat x3 = Int32.ofInt 8 from if_pos (by omega), show (Int32.ofInt 8).toInt.toNat = 8 from by decide]; omega)) _ _ _ _ _ _ _ hS ((hR0.grow hX).up (Nat.le_succ K) hk6) (hK.x hRo hno hX) hth ((hB.trans hX).rf2 (by omega)) (by omega) (by omega)
                    · refine y_aload rfl rfl ?_
                      obtain ⟨hR_v346, hb_v346, ht_v346⟩ := hR0.ven hlo_b337 hb0_b337 ht_b337 (j := 0) (by decide)
                      have hb0_v346 := hb_v346
                      have hb_v346 := Nat.lt_of_lt_of_le hb_v346 hn
                      have hlo_v346 : 94 ≤ b337 + 1 + 0 := by omega
                      have hR2_v346 := (congrFun (hX.2.1 b337 hb_b337).2.2 0).trans hR_v346
                      refine y_getR rfl ((hX.2.1 _ hb_b337).1.trans ht_b337) (Nat.lt_of_lt_of_le hb_b337 hX.1) rfl rfl hR2_v346 ?_
                      refine y_iload rfl rfl ?_
                      refine y_baloadv (J := I (b337 + 1 + 0)) rfl ((hX.2.1 _ hb_v346).1.trans ht_v346) rfl (Nat.lt_of_lt_of_le hb_v346 hX.1) (by omega) (by omega) (((hB.trans hX).n (by omega)).trans (by repeat (first | rfl | (rw [upd2_row (by first | decide | omega)]) | refine upd2_cg ?_))) ?_
                      refine y_if_eq rfl j_X14_buyOut_142 (fun h_347 => ?_) (fun h_348 => ?_)
                      · refine y_iconst rfl ?_
                        refine y_goto rfl j_X14_buyOut_147 ?_
                        refine y_iconst rfl ?_
                        refine y_virt rfl rfl rfl rfl rfl (ySh.t hS rfl) (ySh.n hS rfl) ?_
                        refine y_in (M := xm_X14_refuse) (ls := [some _, some _, some _]) rfl rfl rfl ?_
                        refine y_iload_n rfl rfl ?_
                        refine y_if_eqF rfl (by decide) ?_
                        refine y_aload_n rfl rfl ?_
                        refine y_getIv (v := Int32.ofInt (0)) rfl (ySh.t hS rfl) (ySh.n hS rfl) rfl rfl hth ?_
                        refine y_if_neF rfl (by decide) ?_
                        refine y_aload_n rfl rfl ?_
                        refine y_iload_n rfl rfl ?_
                        refine y_putI rfl (ySh.t hS rfl) (ySh.n hS rfl) rfl (Nat.le_of_ble_eq_true rfl) rfl rfl ?_
                        refine y_nameI (fun I349 e349 => ?_)
                        have hR1 := (hR0.grow hX).mod0 e349 (by decide) (by decide)
                        have hK := (hK.x hRo hno hX).upI (upI e349) (by decide) (by decide) (fun i hi => by have := (hRo.l87.2.2.2.2 i hi).2.1; omega) (by rw [e349, upd2_ne (.inr (by decide))]; exact Int.le_refl _)
                        have hth : I349 83 0 = Int32.ofInt (3) := by rw [e349, upd2_self]
                        have hzz : ySz8 I330 I349 := ySz8_of (upI e349) (by rw [e349]; exact ⟨upd2_ne (.inr (by decide)), upd2_ne (.inr (by decide))⟩)
                        have hB := (hB.trans hX).wr e349 rfl
                        have h8 : ∀ a, 84 ≤ a → a ≤ 86 → I349 a = I a := fun a h1 h2 => (upI e349 a (by omega)).trans ((hX.2.1 a (by omega)).2.1.trans (h8 a h1 h2))
                        have h3k : ∀ k, k ≠ 0 → I349 83 k = I 83 k := fun k hk => (congrFun (congrFun e349 83) k).trans ((upd2_ne (.inr hk)).trans ((congrFun (hX.2.1 83 (by omega)).2.1 k).trans (h3k k hk)))
                        have hg := (hg.gx hX (by omega)).skip e349 (by decide)
                        have hday : I349 83 1 = I 83 1 := (congrFun (congrFun e349 83) 1).trans ((upd2_ne (.inr (by decide))).trans ((congrFun (hX.2.1 83 (by omega)).2.1 1).trans hday))
                        have hRb : ∀ a, a < n → R a = R a := fun a ha => (hX.2.1 a (by omega)).2.2.trans (hRb a ha)
                        have hb83 : ∀ a, a ≠ 83 → a < n → I349 a = I a := fun a ha hb => (upI e349 a ha).trans ((hX.2.1 a (by omega)).2.1.trans (hb83 a ha hb))
                        have hS0 := hS
                        have hR0 := hR1
                        have ht_b337 := (hX.2.1 _ hb_b337).1.trans ht_b337
                        have hb_b337 := Nat.lt_of_lt_of_le hb_b337 hX.1
                        have hb0_b337 := hb_b337
                        have ht_v342 := (hX.2.1 _ hb_v342).1.trans ht_v342
                        have hb_v342 := Nat.lt_of_lt_of_le hb_v342 hX.1
                        have hb0_v342 := hb_v342
                        have ht_v346 := (hX.2.1 _ hb_v346).1.trans ht_v346
                        have hb_v346 := Nat.lt_of_lt_of_le hb_v346 hX.1
                        have hb0_v346 := hb_v346
                        have hn := Nat.le_refl n
                        have h94 := hS0.1
                        have hX := @yX.rf n tg I349 R
                        have hS := hS0.x hX
                        have hR := hR0.x hn hX
                        have hz := hX.sz h94
                        have hxn := hX.1
                        have hN := hR0.1
                        have hnb := hR0.2.2.2.2.2.2
                        have hthB := hth
                        refine y_aload_n rfl rfl ?_
                        refine y_getIv (v := Int32.ofInt (3)) rfl (ySh.t hS rfl) (ySh.n hS rfl) rfl rfl hth ?_
                        refine y_if_leF rfl (by decide) ?_
                        refine y_iconst rfl ?_
                        refine y_goto rfl j_X14_refuse_28 ?_
                        refine y_ireturn rfl rfl rfl ?_
                        refine y_ret1 ?_
                        refine y_if_eqF rfl (by decide) ?_
                        refine y_iconst rfl ?_
                        refine y_ireturn rfl rfl rfl ?_
                        exact hQ3 _ eb_b337 (by first | omega | (simp only [show ySeat x2 = x2 from if_neg (by omega), show ySeat x3 = x3 from if_neg (by omega)]; omega) | (simp only [show ySeat x2 = x2 from if_neg (by omega), show ySeat x3 = Int32.ofInt 8 from if_pos (by omega), show (Int32.ofInt 8).toInt.toNat = 8 from by decide]; omega) | (simp only [show ySeat x2 = Int32.ofInt 8 from if_pos (by omega), show ySeat x3 = x3 from if_neg (by omega), show (Int32.ofInt 8).toInt.toNat = 8 from by decide]; omega) | (simp only [show ySeat x2 = Int32.ofInt 8 from if_pos (by omega), show ySeat x3 = Int32.ofInt 8 from if_pos (by omega), show (Int32.ofInt 8).toInt.toNat = 8 from by decide]; omega)) _ _ _ _ _ _ _ hS ((hR0.grow hX).up (Nat.le_succ K) hk6) (hK.x hRo hno hX) hth ((hB.trans hX).rf2 (by omega)) (by omega) (by omega)
                      · refine y_aload rfl rfl ?_
                        obtain ⟨hR_v350, hb_v350, ht_v350⟩ := hR0.ven hlo_b337 hb0_b337 ht_b337 (j := 1) (by decide)
                        have hb0_v350 := hb_v350
                        have hb_v350 := Nat.lt_of_lt_of_le hb_v350 hn
                        have hlo_v350 : 94 ≤ b337 + 1 + 1 := by omega
                        have hR2_v350 := (congrFun (hX.2.1 b337 hb_b337).2.2 1).trans hR_v350
                        refine y_getR rfl ((hX.2.1 _ hb_b337).1.trans ht_b337) (Nat.lt_of_lt_of_le hb_b337 hX.1) rfl rfl hR2_v350 ?_
                        refine y_iload rfl rfl ?_
                        refine y_ialoadv (J := I (b337 + 1 + 1)) rfl ((hX.2.1 _ hb_v350).1.trans ht_v350) (Nat.lt_of_lt_of_le hb_v350 hX.1) (by omega) (by omega) (((hB.trans hX).n (by omega)).trans (by repeat (first | rfl | (rw [upd2_row (by first | decide | omega)]) | refine upd2_cg ?_))) ?_
                        refine y_iload rfl rfl ?_
                        refine y_icmp_lt rfl j_X14_buyOut_142 (fun h_351 => ?_) (fun h_352 => ?_)
                        · refine y_iconst rfl ?_
                          refine y_goto rfl j_X14_buyOut_147 ?_
                          refine y_iconst rfl ?_
                          refine y_virt rfl rfl rfl rfl rfl (ySh.t hS rfl) (ySh.n hS rfl) ?_
                          refine y_in (M := xm_X14_refuse) (ls := [some _, some _, some _]) rfl rfl rfl ?_
                          refine y_iload_n rfl rfl ?_
                          refine y_if_eqF rfl (by decide) ?_
                          refine y_aload_n rfl rfl ?_
                          refine y_getIv (v := Int32.ofInt (0)) rfl (ySh.t hS rfl) (ySh.n hS rfl) rfl rfl hth ?_
                          refine y_if_neF rfl (by decide) ?_
                          refine y_aload_n rfl rfl ?_
                          refine y_iload_n rfl rfl ?_
                          refine y_putI rfl (ySh.t hS rfl) (ySh.n hS rfl) rfl (Nat.le_of_ble_eq_true rfl) rfl rfl ?_
                          refine y_nameI (fun I353 e353 => ?_)
                          have hR1 := (hR0.grow hX).mod0 e353 (by decide) (by decide)
                          have hK := (hK.x hRo hno hX).upI (upI e353) (by decide) (by decide) (fun i hi => by have := (hRo.l87.2.2.2.2 i hi).2.1; omega) (by rw [e353, upd2_ne (.inr (by decide))]; exact Int.le_refl _)
                          have hth : I353 83 0 = Int32.ofInt (3) := by rw [e353, upd2_self]
                          have hzz : ySz8 I330 I353 := ySz8_of (upI e353) (by rw [e353]; exact ⟨upd2_ne (.inr (by decide)), upd2_ne (.inr (by decide))⟩)
                          have hB := (hB.trans hX).wr e353 rfl
                          have h8 : ∀ a, 84 ≤ a → a ≤ 86 → I353 a = I a := fun a h1 h2 => (upI e353 a (by omega)).trans ((hX.2.1 a (by omega)).2.1.trans (h8 a h1 h2))
                          have h3k : ∀ k, k ≠ 0 → I353 83 k = I 83 k := fun k hk => (congrFun (congrFun e353 83) k).trans ((upd2_ne (.inr hk)).trans ((congrFun (hX.2.1 83 (by omega)).2.1 k).trans (h3k k hk)))
                          have hg := (hg.gx hX (by omega)).skip e353 (by decide)
                          have hday : I353 83 1 = I 83 1 := (congrFun (congrFun e353 83) 1).trans ((upd2_ne (.inr (by decide))).trans ((congrFun (hX.2.1 83 (by omega)).2.1 1).trans hday))
                          have hRb : ∀ a, a < n → R a = R a := fun a ha => (hX.2.1 a (by omega)).2.2.trans (hRb a ha)
                          have hb83 : ∀ a, a ≠ 83 → a < n → I353 a = I a := fun a ha hb => (upI e353 a ha).trans ((hX.2.1 a (by omega)).2.1.trans (hb83 a ha hb))
                          have hS0 := hS
                          have hR0 := hR1
                          have ht_b337 := (hX.2.1 _ hb_b337).1.trans ht_b337
                          have hb_b337 := Nat.lt_of_lt_of_le hb_b337 hX.1
                          have hb0_b337 := hb_b337
                          have ht_v342 := (hX.2.1 _ hb_v342).1.trans ht_v342
                          have hb_v342 := Nat.lt_of_lt_of_le hb_v342 hX.1
                          have hb0_v342 := hb_v342
                          have ht_v346 := (hX.2.1 _ hb_v346).1.trans ht_v346
                          have hb_v346 := Nat.lt_of_lt_of_le hb_v346 hX.1
                          have hb0_v346 := hb_v346
                          have ht_v350 := (hX.2.1 _ hb_v350).1.trans ht_v350
                          have hb_v350 := Nat.lt_of_lt_of_le hb_v350 hX.1
                          have hb0_v350 := hb_v350
                          have hn := Nat.le_refl n
                          have h94 := hS0.1
                          have hX := @yX.rf n tg I353 R
                          have hS := hS0.x hX
                          have hR := hR0.x hn hX
                          have hz := hX.sz h94
                          have hxn := hX.1
                          have hN := hR0.1
                          have hnb := hR0.2.2.2.2.2.2
                          have hthB := hth
                          refine y_aload_n rfl rfl ?_
                          refine y_getIv (v := Int32.ofInt (3)) rfl (ySh.t hS rfl) (ySh.n hS rfl) rfl rfl hth ?_
                          refine y_if_leF rfl (by decide) ?_
                          refine y_iconst rfl ?_
                          refine y_goto rfl j_X14_refuse_28 ?_
                          refine y_ireturn rfl rfl rfl ?_
                          refine y_ret1 ?_
                          refine y_if_eqF rfl (by decide) ?_
                          refine y_iconst rfl ?_
                          refine y_ireturn rfl rfl rfl ?_
                          exact hQ3 _ eb_b337 (by first | omega | (simp only [show ySeat x2 = x2 from if_neg (by omega), show ySeat x3 = x3 from if_neg (by omega)]; omega) | (simp only [show ySeat x2 = x2 from if_neg (by omega), show ySeat x3 = Int32.ofInt 8 from if_pos (by omega), show (Int32.ofInt 8).toInt.toNat = 8 from by decide]; omega) | (simp only [show ySeat x2 = Int32.ofInt 8 from if_pos (by omega), show ySeat x3 = x3 from if_neg (by omega), show (Int32.ofInt 8).toInt.toNat = 8 from by decide]; omega) | (simp only [show ySeat x2 = Int32.ofInt 8 from if_pos (by omega), show ySeat x3 = Int32.ofInt 8 from if_pos (by omega), show (Int32.ofInt 8).toInt.toNat = 8 from by decide]; omega)) _ _ _ _ _ _ _ hS ((hR0.grow hX).up (Nat.le_succ K) hk6) (hK.x hRo hno hX) hth ((hB.trans hX).rf2 (by omega)) (by omega) (by omega)
                        · refine y_aload_n rfl rfl ?_
                          refine y_getR rfl (ySh.t hS rfl) (ySh.n hS rfl) rfl rfl (ySh.r hS rfl) ?_
                          refine y_iload rfl rfl ?_
                          refine y_ialoadv (J := I 84) rfl (ySh.t hS rfl) (ySh.n hS rfl) (by omega) (by omega) (((hB.trans hX).n (by omega)).trans (by repeat (first | rfl | (rw [upd2_row (by first | decide | omega)]) | refine upd2_cg ?_))) ?_
                          refine y_iload rfl rfl ?_
                          refine y_icmp_ge rfl j_X14_buyOut_146 (fun h_354 => ?_) (fun h_355 => ?_)
                          · refine y_iconst rfl ?_
                            refine y_iconst rfl ?_
                            refine y_virt rfl rfl rfl rfl rfl (ySh.t hS rfl) (ySh.n hS rfl) ?_
                            refine y_in (M := xm_X14_refuse) (ls := [some _, some _, some _]) rfl rfl rfl ?_
                            refine y_iload_n rfl rfl ?_
                            refine y_if_eqT rfl j_X14_refuse_16 (by decide) ?_
                            refine y_aload_n rfl rfl ?_
                            refine y_getIv (v := Int32.ofInt (0)) rfl (ySh.t hS rfl) (ySh.n hS rfl) rfl rfl hth ?_
                            refine y_if_leT rfl j_X14_refuse_27 (by decide) ?_
                            refine y_iconst rfl ?_
                            refine y_ireturn rfl rfl rfl ?_
                            refine y_ret1 ?_
                            refine y_if_eqT rfl j_X14_buyOut_156 (by decide) ?_
                            refine y_aload rfl rfl ?_
                            obtain ⟨hR_v356, hb_v356, ht_v356⟩ := hR0.ven hlo_b337 hb0_b337 ht_b337 (j := 1) (by decide)
                            have hb0_v356 := hb_v356
                            have hb_v356 := Nat.lt_of_lt_of_le hb_v356 hn
                            have hlo_v356 : 94 ≤ b337 + 1 + 1 := by omega
                            have hR2_v356 := (congrFun (hX.2.1 b337 hb_b337).2.2 1).trans hR_v356
                            refine y_getR rfl ((hX.2.1 _ hb_b337).1.trans ht_b337) (Nat.lt_of_lt_of_le hb_b337 hX.1) rfl rfl hR2_v356 ?_
                            refine y_iload rfl rfl ?_
                            refine y_dup2 rfl rfl rfl ?_
                            refine y_ialoadv (J := I (b337 + 1 + 1)) rfl ((hX.2.1 _ hb_v356).1.trans ht_v356) (Nat.lt_of_lt_of_le hb_v356 hX.1) (by omega) (by omega) (((hB.trans hX).n (by omega)).trans (by repeat (first | rfl | (rw [upd2_row (by first | decide | omega)]) | refine upd2_cg ?_))) ?_
                            refine y_iload rfl rfl ?_
                            refine y_isub rfl ?_
                            refine y_iastore rfl ((hX.2.1 _ hb_v356).1.trans ht_v356) (Nat.lt_of_lt_of_le hb_v356 hX.1) (Nat.le_trans (by decide) (by omega : 94 ≤ _)) (by omega) (by omega) ?_
                            refine y_nameI (fun I357 e357 => ?_)
                            have hB1 := (hR0.grow hX).capB1x hlo_b337 (by omega) ((hX.2.1 _ hb_b337).1.trans ht_b337) (by omega) e357 (by rw [show I330 (b337 + 1 + 1) = I (b337 + 1 + 1) from ((hB.trans hX).n (by omega)).trans (by repeat (first | rfl | (rw [upd2_row (by first | decide | omega)]) | refine upd2_cg ?_))]) ⟨by omega, by rw [show I330 (b337 + 1 + 1) = I (b337 + 1 + 1) from ((hB.trans hX).n (by omega)).trans (by repeat (first | rfl | (rw [upd2_row (by first | decide | omega)]) | refine upd2_cg ?_))]; omega⟩
                            have hR1 := hB1.1
                            have hK := (hK.x hRo hno hX).upE hRo hno (upI e357) (by omega) (by omega) (by rw [((hX.2.1 _ hb_v356).1.trans ht_v356)]; decide) (by rw [e357, upd2_ne (.inl (by omega))]; exact Int.le_refl _)
                            have hth := (show I357 83 0 = I330 83 0 by rw [e357, upd2_ne (.inl (by omega))]).trans hth
                            have hzz : ySz I330 I357 := ySz_ofE (upI e357) (by omega)
                            have hB := (hB.trans hX).wr e357 rfl
                            have h8 : ∀ a, 84 ≤ a → a ≤ 86 → I357 a = I a := fun a h1 h2 => (upI e357 a (by omega)).trans ((hX.2.1 a (by omega)).2.1.trans (h8 a h1 h2))
                            have h3k : ∀ k, k ≠ 0 → I357 83 k = I 83 k := fun k hk => (congrFun (congrFun e357 83) k).trans ((upd2_ne (.inl (by omega))).trans ((congrFun (hX.2.1 83 (by omega)).2.1 k).trans (h3k k hk)))
                            have hg := (hg.gx hX (by omega)).both e357
                            have hday : I357 83 1 = I 83 1 := (congrFun (congrFun e357 83) 1).trans ((upd2_ne (.inl (by omega))).trans ((congrFun (hX.2.1 83 (by omega)).2.1 1).trans hday))
                            have hRb : ∀ a, a < n → R a = R a := fun a ha => (hX.2.1 a (by omega)).2.2.trans (hRb a ha)
                            have hS0 := hS
                            have hR0 := hR1
                            have ht_b337 := (hX.2.1 _ hb_b337).1.trans ht_b337
                            have hb_b337 := Nat.lt_of_lt_of_le hb_b337 hX.1
                            have hb0_b337 := hb_b337
                            have ht_v342 := (hX.2.1 _ hb_v342).1.trans ht_v342
                            have hb_v342 := Nat.lt_of_lt_of_le hb_v342 hX.1
                            have hb0_v342 := hb_v342
                            have ht_v346 := (hX.2.1 _ hb_v346).1.trans ht_v346
                            have hb_v346 := Nat.lt_of_lt_of_le hb_v346 hX.1
                            have hb0_v346 := hb_v346
                            have ht_v350 := (hX.2.1 _ hb_v350).1.trans ht_v350
                            have hb_v350 := Nat.lt_of_lt_of_le hb_v350 hX.1
                            have hb0_v350 := hb_v350
                            have ht_v356 := (hX.2.1 _ hb_v356).1.trans ht_v356
                            have hb_v356 := Nat.lt_of_lt_of_le hb_v356 hX.1
                            have hb0_v356 := hb_v356
                            have hn := Nat.le_refl n
                            have h94 := hS0.1
                            have hX := @yX.rf n tg I357 R
                            have hS := hS0.x hX
                            have hR := hR0.x hn hX
                            have hz := hX.sz h94
                            have hxn := hX.1
                            have hN := hR0.1
                            have hnb := hR0.2.2.2.2.2.2
                            have hthB := hth
                            refine y_aload rfl rfl ?_
                            obtain ⟨hR_v358, hb_v358, ht_v358⟩ := hR0.ven hlo_b337 hb0_b337 ht_b337 (j := 1) (by decide)
                            have hb0_v358 := hb_v358
                            have hb_v358 := Nat.lt_of_lt_of_le hb_v358 hn
                            have hlo_v358 : 94 ≤ b337 + 1 + 1 := by omega
                            have hR2_v358 := (congrFun (hX.2.1 b337 hb_b337).2.2 1).trans hR_v358
                            refine y_getR rfl ((hX.2.1 _ hb_b337).1.trans ht_b337) (Nat.lt_of_lt_of_le hb_b337 hX.1) rfl rfl hR2_v358 ?_
                            refine y_iload rfl rfl ?_
                            refine y_dup2 rfl rfl rfl ?_
                            refine y_ialoadv (J := _) rfl ((hX.2.1 _ hb_v358).1.trans ht_v358) (Nat.lt_of_lt_of_le hb_v358 hX.1) (by omega) (by omega) ((hB.trans hX).n (by omega)) ?_
                            refine y_iload rfl rfl ?_
                            refine y_iadd rfl ?_
                            refine y_iastore rfl ((hX.2.1 _ hb_v358).1.trans ht_v358) (Nat.lt_of_lt_of_le hb_v358 hX.1) (Nat.le_trans (by decide) (by omega : 94 ≤ _)) (by omega) (by omega) ?_
                            refine y_nameI (fun I359 e359 => ?_)
                            have hR1 := (hR0.grow hX).capB2x hlo_b337 (by omega) ((hX.2.1 _ hb_b337).1.trans ht_b337) (by omega) (by omega) hB1.2.1 e359 (by rw [show I357 (b337 + 1 + 1) = _ from ((hB.trans hX).n (by omega))])
                            have hK := (hK.x hRo hno hX).upE hRo hno (upI e359) (by omega) (by omega) (by rw [((hX.2.1 _ hb_v358).1.trans ht_v358)]; decide) (by rw [e359, upd2_ne (.inl (by omega))]; exact Int.le_refl _)
                            have hth := (show I359 83 0 = I357 83 0 by rw [e359, upd2_ne (.inl (by omega))]).trans hth
                            have hzz : ySz I357 I359 := ySz_ofE (upI e359) (by omega)
                            have hB := (hB.trans hX).wr e359 rfl
                            have h8 : ∀ a, 84 ≤ a → a ≤ 86 → I359 a = I a := fun a h1 h2 => (upI e359 a (by omega)).trans ((hX.2.1 a (by omega)).2.1.trans (h8 a h1 h2))
                            have h3k : ∀ k, k ≠ 0 → I359 83 k = I 83 k := fun k hk => (congrFun (congrFun e359 83) k).trans ((upd2_ne (.inl (by omega))).trans ((congrFun (hX.2.1 83 (by omega)).2.1 k).trans (h3k k hk)))
                            have hg := (hg.gx hX (by omega)).both e359
                            have hday : I359 83 1 = I 83 1 := (congrFun (congrFun e359 83) 1).trans ((upd2_ne (.inl (by omega))).trans ((congrFun (hX.2.1 83 (by omega)).2.1 1).trans hday))
                            have hRb : ∀ a, a < n → R a = R a := fun a ha => (hX.2.1 a (by omega)).2.2.trans (hRb a ha)
                            have hS0 := hS
                            have hR0 := hR1
                            have ht_b337 := (hX.2.1 _ hb_b337).1.trans ht_b337
                            have hb_b337 := Nat.lt_of_lt_of_le hb_b337 hX.1
                            have hb0_b337 := hb_b337
                            have ht_v342 := (hX.2.1 _ hb_v342).1.trans ht_v342
                            have hb_v342 := Nat.lt_of_lt_of_le hb_v342 hX.1
                            have hb0_v342 := hb_v342
                            have ht_v346 := (hX.2.1 _ hb_v346).1.trans ht_v346
                            have hb_v346 := Nat.lt_of_lt_of_le hb_v346 hX.1
                            have hb0_v346 := hb_v346
                            have ht_v350 := (hX.2.1 _ hb_v350).1.trans ht_v350
                            have hb_v350 := Nat.lt_of_lt_of_le hb_v350 hX.1
                            have hb0_v350 := hb_v350
                            have ht_v356 := (hX.2.1 _ hb_v356).1.trans ht_v356
                            have hb_v356 := Nat.lt_of_lt_of_le hb_v356 hX.1
                            have hb0_v356 := hb_v356
                            have ht_v358 := (hX.2.1 _ hb_v358).1.trans ht_v358
                            have hb_v358 := Nat.lt_of_lt_of_le hb_v358 hX.1
                            have hb0_v358 := hb_v358
                            have hn := Nat.le_refl n
                            have h94 := hS0.1
                            have hX := @yX.rf n tg I359 R
                            have hS := hS0.x hX
                            have hR := hR0.x hn hX
                            have hz := hX.sz h94
                            have hxn := hX.1
                            have hN := hR0.1
                            have hnb := hR0.2.2.2.2.2.2
                            have hthB := hth
                            refine y_aload_n rfl rfl ?_
                            refine y_getR rfl (ySh.t hS rfl) (ySh.n hS rfl) rfl rfl (ySh.r hS rfl) ?_
                            refine y_iload rfl rfl ?_
                            refine y_dup2 rfl rfl rfl ?_
                            refine y_ialoadv (J := I 84) rfl (ySh.t hS rfl) (ySh.n hS rfl) (by omega) (by omega) (((hB.trans hX).n (by omega)).trans (by repeat (first | rfl | (rw [upd2_row (by first | decide | omega)]) | refine upd2_cg ?_))) ?_
                            refine y_iload rfl rfl ?_
                            refine y_iadd rfl ?_
                            refine y_iastore rfl (ySh.t hS rfl) (ySh.n hS rfl) (Nat.le_of_ble_eq_true rfl) (by omega) (by omega) ?_
                            refine y_nameI (fun I360 e360 => ?_)
                            have hR1 := (hR0.grow hX).arr e360 (by decide)
                            have hK := (hK.x hRo hno hX).upI (upI e360) (by decide) (by decide) (fun i hi => by have := (hRo.l87.2.2.2.2 i hi).2.1; omega) (by rw [e360, upd2_ne (.inl (by omega))]; exact Int.le_refl _)
                            have hth := (show I360 83 0 = I359 83 0 by rw [e360, upd2_ne (.inl (by omega))]).trans hth
                            have hzz : ySz I359 I360 := ySz_ofE (upI e360) (by omega)
                            have hB := (hB.trans hX).wr e360 rfl
                            have h3k : ∀ k, k ≠ 0 → I360 83 k = I 83 k := fun k hk => (congrFun (congrFun e360 83) k).trans ((upd2_ne (.inl (by omega))).trans ((congrFun (hX.2.1 83 (by omega)).2.1 k).trans (h3k k hk)))
                            have hg := (hg.gx hX (by omega)).skip e360 (by decide)
                            have hday : I360 83 1 = I 83 1 := (congrFun (congrFun e360 83) 1).trans ((upd2_ne (.inl (by omega))).trans ((congrFun (hX.2.1 83 (by omega)).2.1 1).trans hday))
                            have hRb : ∀ a, a < n → R a = R a := fun a ha => (hX.2.1 a (by omega)).2.2.trans (hRb a ha)
                            have hS0 := hS
                            have hR0 := hR1
                            have ht_b337 := (hX.2.1 _ hb_b337).1.trans ht_b337
                            have hb_b337 := Nat.lt_of_lt_of_le hb_b337 hX.1
                            have hb0_b337 := hb_b337
                            have ht_v342 := (hX.2.1 _ hb_v342).1.trans ht_v342
                            have hb_v342 := Nat.lt_of_lt_of_le hb_v342 hX.1
                            have hb0_v342 := hb_v342
                            have ht_v346 := (hX.2.1 _ hb_v346).1.trans ht_v346
                            have hb_v346 := Nat.lt_of_lt_of_le hb_v346 hX.1
                            have hb0_v346 := hb_v346
                            have ht_v350 := (hX.2.1 _ hb_v350).1.trans ht_v350
                            have hb_v350 := Nat.lt_of_lt_of_le hb_v350 hX.1
                            have hb0_v350 := hb_v350
                            have ht_v356 := (hX.2.1 _ hb_v356).1.trans ht_v356
                            have hb_v356 := Nat.lt_of_lt_of_le hb_v356 hX.1
                            have hb0_v356 := hb_v356
                            have ht_v358 := (hX.2.1 _ hb_v358).1.trans ht_v358
                            have hb_v358 := Nat.lt_of_lt_of_le hb_v358 hX.1
                            have hb0_v358 := hb_v358
                            have hn := Nat.le_refl n
                            have h94 := hS0.1
                            have hX := @yX.rf n tg I360 R
                            have hS := hS0.x hX
                            have hR := hR0.x hn hX
                            have hz := hX.sz h94
                            have hxn := hX.1
                            have hN := hR0.1
                            have hnb := hR0.2.2.2.2.2.2
                            have hthB := hth
                            refine y_aload_n rfl rfl ?_
                            refine y_getR rfl (ySh.t hS rfl) (ySh.n hS rfl) rfl rfl (ySh.r hS rfl) ?_
                            refine y_iload rfl rfl ?_
                            refine y_dup2 rfl rfl rfl ?_
                            refine y_ialoadv (J := _) rfl (ySh.t hS rfl) (ySh.n hS rfl) (by omega) (by omega) ((hB.trans hX).n (by omega)) ?_
                            refine y_iload rfl rfl ?_
                            refine y_isub rfl ?_
                            refine y_iastore rfl (ySh.t hS rfl) (ySh.n hS rfl) (Nat.le_of_ble_eq_true rfl) (by omega) (by omega) ?_
                            refine y_nameI (fun I361 e361 => ?_)
                            have hR1 := (hR0.grow hX).arr e361 (by decide)
                            have hK := (hK.x hRo hno hX).upI (upI e361) (by decide) (by decide) (fun i hi => by have := (hRo.l87.2.2.2.2 i hi).2.1; omega) (by rw [e361, upd2_ne (.inl (by omega))]; exact Int.le_refl _)
                            have hth := (show I361 83 0 = I360 83 0 by rw [e361, upd2_ne (.inl (by omega))]).trans hth
                            have hzz : ySz I360 I361 := ySz_ofE (upI e361) (by omega)
                            have hB := (hB.trans hX).wr e361 rfl
                            have h3k : ∀ k, k ≠ 0 → I361 83 k = I 83 k := fun k hk => (congrFun (congrFun e361 83) k).trans ((upd2_ne (.inl (by omega))).trans ((congrFun (hX.2.1 83 (by omega)).2.1 k).trans (h3k k hk)))
                            have hg := (hg.gx hX (by omega)).skip e361 (by decide)
                            have hday : I361 83 1 = I 83 1 := (congrFun (congrFun e361 83) 1).trans ((upd2_ne (.inl (by omega))).trans ((congrFun (hX.2.1 83 (by omega)).2.1 1).trans hday))
                            have hRb : ∀ a, a < n → R a = R a := fun a ha => (hX.2.1 a (by omega)).2.2.trans (hRb a ha)
                            have hS0 := hS
                            have hR0 := hR1
                            have ht_b337 := (hX.2.1 _ hb_b337).1.trans ht_b337
                            have hb_b337 := Nat.lt_of_lt_of_le hb_b337 hX.1
                            have hb0_b337 := hb_b337
                            have ht_v342 := (hX.2.1 _ hb_v342).1.trans ht_v342
                            have hb_v342 := Nat.lt_of_lt_of_le hb_v342 hX.1
                            have hb0_v342 := hb_v342
                            have ht_v346 := (hX.2.1 _ hb_v346).1.trans ht_v346
                            have hb_v346 := Nat.lt_of_lt_of_le hb_v346 hX.1
                            have hb0_v346 := hb_v346
                            have ht_v350 := (hX.2.1 _ hb_v350).1.trans ht_v350
                            have hb_v350 := Nat.lt_of_lt_of_le hb_v350 hX.1
                            have hb0_v350 := hb_v350
                            have ht_v356 := (hX.2.1 _ hb_v356).1.trans ht_v356
                            have hb_v356 := Nat.lt_of_lt_of_le hb_v356 hX.1
                            have hb0_v356 := hb_v356
                            have ht_v358 := (hX.2.1 _ hb_v358).1.trans ht_v358
                            have hb_v358 := Nat.lt_of_lt_of_le hb_v358 hX.1
                            have hb0_v358 := hb_v358
                            have hn := Nat.le_refl n
                            have h94 := hS0.1
                            have hX := @yX.rf n tg I361 R
                            have hS := hS0.x hX
                            have hR := hR0.x hn hX
                            have hz := hX.sz h94
                            have hxn := hX.1
                            have hN := hR0.1
                            have hnb := hR0.2.2.2.2.2.2
                            have hthB := hth
                            refine y_aload rfl rfl ?_
                            obtain ⟨hR_v362, hb_v362, ht_v362⟩ := hR0.ven hlo_b337 hb0_b337 ht_b337 (j := 1) (by decide)
                            have hb0_v362 := hb_v362
                            have hb_v362 := Nat.lt_of_lt_of_le hb_v362 hn
                            have hlo_v362 : 94 ≤ b337 + 1 + 1 := by omega
                            have hR2_v362 := (congrFun (hX.2.1 b337 hb_b337).2.2 1).trans hR_v362
                            refine y_getR rfl ((hX.2.1 _ hb_b337).1.trans ht_b337) (Nat.lt_of_lt_of_le hb_b337 hX.1) rfl rfl hR2_v362 ?_
                            refine y_iload rfl rfl ?_
                            refine y_ialoadv (J := _) rfl ((hX.2.1 _ hb_v362).1.trans ht_v362) (Nat.lt_of_lt_of_le hb_v362 hX.1) (by omega) (by omega) ((hB.trans hX).n (by omega)) ?_
                            refine y_ireturn rfl rfl rfl ?_
                            exact hQ0 _ eb_b337 (by first | omega | (simp only [show ySeat x2 = x2 from if_neg (by omega), show ySeat x3 = x3 from if_neg (by omega)]; omega) | (simp only [show ySeat x2 = x2 from if_neg (by omega), show ySeat x3 = Int32.ofInt 8 from if_pos (by omega), show (Int32.ofInt 8).toInt.toNat = 8 from by decide]; omega) | (simp only [show ySeat x2 = Int32.ofInt 8 from if_pos (by omega), show ySeat x3 = x3 from if_neg (by omega), show (Int32.ofInt 8).toInt.toNat = 8 from by decide]; omega) | (simp only [show ySeat x2 = Int32.ofInt 8 from if_pos (by omega), show ySeat x3 = Int32.ofInt 8 from if_pos (by omega), show (Int32.ofInt 8).toInt.toNat = 8 from by decide]; omega)) _ _ _ _ _ _ _ hS ((hR0.grow hX).up (Nat.le_succ K) hk6) (hK.x hRo hno hX) hth (by first | exact (congrFun ((hB.trans hX).n (by omega)) _).symm | (simp only [show ySeat x2 = x2 from if_neg (by omega), show ySeat x3 = x3 from if_neg (by omega)]; exact (congrFun ((hB.trans hX).n (by omega)) _).symm) | (simp only [show ySeat x2 = x2 from if_neg (by omega), show ySeat x3 = Int32.ofInt 8 from if_pos (by omega), show (Int32.ofInt 8).toInt.toNat = 8 from by decide]; exact (congrFun ((hB.trans hX).n (by omega)) _).symm) | (simp only [show ySeat x2 = Int32.ofInt 8 from if_pos (by omega), show ySeat x3 = x3 from if_neg (by omega), show (Int32.ofInt 8).toInt.toNat = 8 from by decide]; exact (congrFun ((hB.trans hX).n (by omega)) _).symm) | (simp only [show ySeat x2 = Int32.ofInt 8 from if_pos (by omega), show ySeat x3 = Int32.ofInt 8 from if_pos (by omega), show (Int32.ofInt 8).toInt.toNat = 8 from by decide]; exact (congrFun ((hB.trans hX).n (by omega)) _).symm)) (by first | (exact hB.trans hX) | (simp only [show ySeat x2 = x2 from if_neg (by omega), show ySeat x3 = x3 from if_neg (by omega)]; exact hB.trans hX) | (simp only [show ySeat x2 = x2 from if_neg (by omega), show ySeat x3 = Int32.ofInt 8 from if_pos (by omega), show (Int32.ofInt 8).toInt.toNat = 8 from by decide]; exact hB.trans hX) | (simp only [show ySeat x2 = Int32.ofInt 8 from if_pos (by omega), show ySeat x3 = x3 from if_neg (by omega), show (Int32.ofInt 8).toInt.toNat = 8 from by decide]; exact hB.trans hX) | (simp only [show ySeat x2 = Int32.ofInt 8 from if_pos (by omega), show ySeat x3 = Int32.ofInt 8 from if_pos (by omega), show (Int32.ofInt 8).toInt.toNat = 8 from by decide]; exact hB.trans hX)) (by omega) (by omega)
                          · refine y_iconst rfl ?_
                            refine y_goto rfl j_X14_buyOut_147 ?_
                            refine y_iconst rfl ?_
                            refine y_virt rfl rfl rfl rfl rfl (ySh.t hS rfl) (ySh.n hS rfl) ?_
                            refine y_in (M := xm_X14_refuse) (ls := [some _, some _, some _]) rfl rfl rfl ?_
                            refine y_iload_n rfl rfl ?_
                            refine y_if_eqF rfl (by decide) ?_
                            refine y_aload_n rfl rfl ?_
                            refine y_getIv (v := Int32.ofInt (0)) rfl (ySh.t hS rfl) (ySh.n hS rfl) rfl rfl hth ?_
                            refine y_if_neF rfl (by decide) ?_
                            refine y_aload_n rfl rfl ?_
                            refine y_iload_n rfl rfl ?_
                            refine y_putI rfl (ySh.t hS rfl) (ySh.n hS rfl) rfl (Nat.le_of_ble_eq_true rfl) rfl rfl ?_
                            refine y_nameI (fun I363 e363 => ?_)
                            have hR1 := (hR0.grow hX).mod0 e363 (by decide) (by decide)
                            have hK := (hK.x hRo hno hX).upI (upI e363) (by decide) (by decide) (fun i hi => by have := (hRo.l87.2.2.2.2 i hi).2.1; omega) (by rw [e363, upd2_ne (.inr (by decide))]; exact Int.le_refl _)
                            have hth : I363 83 0 = Int32.ofInt (3) := by rw [e363, upd2_self]
                            have hzz : ySz8 I330 I363 := ySz8_of (upI e363) (by rw [e363]; exact ⟨upd2_ne (.inr (by decide)), upd2_ne (.inr (by decide))⟩)
                            have hB := (hB.trans hX).wr e363 rfl
                            have h8 : ∀ a, 84 ≤ a → a ≤ 86 → I363 a = I a := fun a h1 h2 => (upI e363 a (by omega)).trans ((hX.2.1 a (by omega)).2.1.trans (h8 a h1 h2))
                            have h3k : ∀ k, k ≠ 0 → I363 83 k = I 83 k := fun k hk => (congrFun (congrFun e363 83) k).trans ((upd2_ne (.inr hk)).trans ((congrFun (hX.2.1 83 (by omega)).2.1 k).trans (h3k k hk)))
                            have hg := (hg.gx hX (by omega)).skip e363 (by decide)
                            have hday : I363 83 1 = I 83 1 := (congrFun (congrFun e363 83) 1).trans ((upd2_ne (.inr (by decide))).trans ((congrFun (hX.2.1 83 (by omega)).2.1 1).trans hday))
                            have hRb : ∀ a, a < n → R a = R a := fun a ha => (hX.2.1 a (by omega)).2.2.trans (hRb a ha)
                            have hb83 : ∀ a, a ≠ 83 → a < n → I363 a = I a := fun a ha hb => (upI e363 a ha).trans ((hX.2.1 a (by omega)).2.1.trans (hb83 a ha hb))
                            have hS0 := hS
                            have hR0 := hR1
                            have ht_b337 := (hX.2.1 _ hb_b337).1.trans ht_b337
                            have hb_b337 := Nat.lt_of_lt_of_le hb_b337 hX.1
                            have hb0_b337 := hb_b337
                            have ht_v342 := (hX.2.1 _ hb_v342).1.trans ht_v342
                            have hb_v342 := Nat.lt_of_lt_of_le hb_v342 hX.1
                            have hb0_v342 := hb_v342
                            have ht_v346 := (hX.2.1 _ hb_v346).1.trans ht_v346
                            have hb_v346 := Nat.lt_of_lt_of_le hb_v346 hX.1
                            have hb0_v346 := hb_v346
                            have ht_v350 := (hX.2.1 _ hb_v350).1.trans ht_v350
                            have hb_v350 := Nat.lt_of_lt_of_le hb_v350 hX.1
                            have hb0_v350 := hb_v350
                            have hn := Nat.le_refl n
                            have h94 := hS0.1
                            have hX := @yX.rf n tg I363 R
                            have hS := hS0.x hX
                            have hR := hR0.x hn hX
                            have hz := hX.sz h94
                            have hxn := hX.1
                            have hN := hR0.1
                            have hnb := hR0.2.2.2.2.2.2
                            have hthB := hth
                            refine y_aload_n rfl rfl ?_
                            refine y_getIv (v := Int32.ofInt (3)) rfl (ySh.t hS rfl) (ySh.n hS rfl) rfl rfl hth ?_
                            refine y_if_leF rfl (by decide) ?_
                            refine y_iconst rfl ?_
                            refine y_goto rfl j_X14_refuse_28 ?_
                            refine y_ireturn rfl rfl rfl ?_
                            refine y_ret1 ?_
                            refine y_if_eqF rfl (by decide) ?_
                            refine y_iconst rfl ?_
                            refine y_ireturn rfl rfl rfl ?_
                            exact hQ3 _ eb_b337 (by first | omega | (simp only [show ySeat x2 = x2 from if_neg (by omega), show ySeat x3 = x3 from if_neg (by omega)]; omega) | (simp only [show ySeat x2 = x2 from if_neg (by omega), show ySeat x3 = Int32.ofInt 8 from if_pos (by omega), show (Int32.ofInt 8).toInt.toNat = 8 from by decide]; omega) | (simp only [show ySeat x2 = Int32.ofInt 8 from if_pos (by omega), show ySeat x3 = x3 from if_neg (by omega), show (Int32.ofInt 8).toInt.toNat = 8 from by decide]; omega) | (simp only [show ySeat x2 = Int32.ofInt 8 from if_pos (by omega), show ySeat x3 = Int32.ofInt 8 from if_pos (by omega), show (Int32.ofInt 8).toInt.toNat = 8 from by decide]; omega)) _ _ _ _ _ _ _ hS ((hR0.grow hX).up (Nat.le_succ K) hk6) (hK.x hRo hno hX) hth ((hB.trans hX).rf2 (by omega)) (by omega) (by omega)
                  · rw [yz_m1] at h_341
                    refine y_bip rfl (by decide) ?_
                    refine y_goto rfl j_X14_seat_11 ?_
                    refine y_ireturn rfl rfl rfl ?_
                    refine y_ret1 ?_
                    refine y_istore (ls' := [some _, some _, some _, some _, some _, some _, some _, some _]) rfl rfl rfl ?_
                    refine y_aload_n rfl rfl ?_
                    refine y_aload rfl rfl ?_
                    obtain ⟨hR_v364, hb_v364, ht_v364⟩ := hR0.ven hlo_b337 hb0_b337 ht_b337 (j := 0) (by decide)
                    have hb0_v364 := hb_v364
                    have hb_v364 := Nat.lt_of_lt_of_le hb_v364 hn
                    have hlo_v364 : 94 ≤ b337 + 1 + 0 := by omega
                    have hR2_v364 := (congrFun (hX.2.1 b337 hb_b337).2.2 0).trans hR_v364
                    refine y_getR rfl ((hX.2.1 _ hb_b337).1.trans ht_b337) (Nat.lt_of_lt_of_le hb_b337 hX.1) rfl rfl hR2_v364 ?_
                    refine y_iload rfl rfl ?_
                    refine y_baloadv (J := I (b337 + 1 + 0)) rfl ((hX.2.1 _ hb_v364).1.trans ht_v364) rfl (Nat.lt_of_lt_of_le hb_v364 hX.1) (by omega) (by omega) (((hB.trans hX).n (by omega)).trans (by repeat (first | rfl | (rw [upd2_row (by first | decide | omega)]) | refine upd2_cg ?_))) ?_
                    refine y_if_eq rfl j_X14_buyOut_142 (fun h_365 => ?_) (fun h_366 => ?_)
                    · refine y_iconst rfl ?_
                      refine y_goto rfl j_X14_buyOut_147 ?_
                      refine y_iconst rfl ?_
                      refine y_virt rfl rfl rfl rfl rfl (ySh.t hS rfl) (ySh.n hS rfl) ?_
                      refine y_in (M := xm_X14_refuse) (ls := [some _, some _, some _]) rfl rfl rfl ?_
                      refine y_iload_n rfl rfl ?_
                      refine y_if_eqF rfl (by decide) ?_
                      refine y_aload_n rfl rfl ?_
                      refine y_getIv (v := Int32.ofInt (0)) rfl (ySh.t hS rfl) (ySh.n hS rfl) rfl rfl hth ?_
                      refine y_if_neF rfl (by decide) ?_
                      refine y_aload_n rfl rfl ?_
                      refine y_iload_n rfl rfl ?_
                      refine y_putI rfl (ySh.t hS rfl) (ySh.n hS rfl) rfl (Nat.le_of_ble_eq_true rfl) rfl rfl ?_
                      refine y_nameI (fun I367 e367 => ?_)
                      have hR1 := (hR0.grow hX).mod0 e367 (by decide) (by decide)
                      have hK := (hK.x hRo hno hX).upI (upI e367) (by decide) (by decide) (fun i hi => by have := (hRo.l87.2.2.2.2 i hi).2.1; omega) (by rw [e367, upd2_ne (.inr (by decide))]; exact Int.le_refl _)
                      have hth : I367 83 0 = Int32.ofInt (3) := by rw [e367, upd2_self]
                      have hzz : ySz8 I330 I367 := ySz8_of (upI e367) (by rw [e367]; exact ⟨upd2_ne (.inr (by decide)), upd2_ne (.inr (by decide))⟩)
                      have hB := (hB.trans hX).wr e367 rfl
                      have h8 : ∀ a, 84 ≤ a → a ≤ 86 → I367 a = I a := fun a h1 h2 => (upI e367 a (by omega)).trans ((hX.2.1 a (by omega)).2.1.trans (h8 a h1 h2))
                      have h3k : ∀ k, k ≠ 0 → I367 83 k = I 83 k := fun k hk => (congrFun (congrFun e367 83) k).trans ((upd2_ne (.inr hk)).trans ((congrFun (hX.2.1 83 (by omega)).2.1 k).trans (h3k k hk)))
                      have hg := (hg.gx hX (by omega)).skip e367 (by decide)
                      have hday : I367 83 1 = I 83 1 := (congrFun (congrFun e367 83) 1).trans ((upd2_ne (.inr (by decide))).trans ((congrFun (hX.2.1 83 (by omega)).2.1 1).trans hday))
                      have hRb : ∀ a, a < n → R a = R a := fun a ha => (hX.2.1 a (by omega)).2.2.trans (hRb a ha)
                      have hb83 : ∀ a, a ≠ 83 → a < n → I367 a = I a := fun a ha hb => (upI e367 a ha).trans ((hX.2.1 a (by omega)).2.1.trans (hb83 a ha hb))
                      have hS0 := hS
                      have hR0 := hR1
                      have ht_b337 := (hX.2.1 _ hb_b337).1.trans ht_b337
                      have hb_b337 := Nat.lt_of_lt_of_le hb_b337 hX.1
                      have hb0_b337 := hb_b337
                      have ht_v364 := (hX.2.1 _ hb_v364).1.trans ht_v364
                      have hb_v364 := Nat.lt_of_lt_of_le hb_v364 hX.1
                      have hb0_v364 := hb_v364
                      have hn := Nat.le_refl n
                      have h94 := hS0.1
                      have hX := @yX.rf n tg I367 R
                      have hS := hS0.x hX
                      have hR := hR0.x hn hX
                      have hz := hX.sz h94
                      have hxn := hX.1
                      have hN := hR0.1
                      have hnb := hR0.2.2.2.2.2.2
                      have hthB := hth
                      refine y_aload_n rfl rfl ?_
                      refine y_getIv (v := Int32.ofInt (3)) rfl (ySh.t hS rfl) (ySh.n hS rfl) rfl rfl hth ?_
                      refine y_if_leF rfl (by decide) ?_
                      refine y_iconst rfl ?_
                      refine y_goto rfl j_X14_refuse_28 ?_
                      refine y_ireturn rfl rfl rfl ?_
                      refine y_ret1 ?_
                      refine y_if_eqF rfl (by decide) ?_
                      refine y_iconst rfl ?_
                      refine y_ireturn rfl rfl rfl ?_
                      exact hQ3 _ eb_b337 (by first | omega | (simp only [show ySeat x2 = x2 from if_neg (by omega), show ySeat x3 = x3 from if_neg (by omega)]; omega) | (simp only [show ySeat x2 = x2 from if_neg (by omega), show ySeat x3 = Int32.ofInt 8 from if_pos (by omega), show (Int32.ofInt 8).toInt.toNat = 8 from by decide]; omega) | (simp only [show ySeat x2 = Int32.ofInt 8 from if_pos (by omega), show ySeat x3 = x3 from if_neg (by omega), show (Int32.ofInt 8).toInt.toNat = 8 from by decide]; omega) | (simp only [show ySeat x2 = Int32.ofInt 8 from if_pos (by omega), show ySeat x3 = Int32.ofInt 8 from if_pos (by omega), show (Int32.ofInt 8).toInt.toNat = 8 from by decide]; omega)) _ _ _ _ _ _ _ hS ((hR0.grow hX).up (Nat.le_succ K) hk6) (hK.x hRo hno hX) hth ((hB.trans hX).rf2 (by omega)) (by omega) (by omega)
                    · refine y_aload rfl rfl ?_
                      obtain ⟨hR_v368, hb_v368, ht_v368⟩ := hR0.ven hlo_b337 hb0_b337 ht_b337 (j := 0) (by decide)
                      have hb0_v368 := hb_v368
                      have hb_v368 := Nat.lt_of_lt_of_le hb_v368 hn
                      have hlo_v368 : 94 ≤ b337 + 1 + 0 := by omega
                      have hR2_v368 := (congrFun (hX.2.1 b337 hb_b337).2.2 0).trans hR_v368
                      refine y_getR rfl ((hX.2.1 _ hb_b337).1.trans ht_b337) (Nat.lt_of_lt_of_le hb_b337 hX.1) rfl rfl hR2_v368 ?_
                      refine y_iload rfl rfl ?_
                      refine y_baloadw (j := 8) (J := I (b337 + 1 + 0)) rfl ((hX.2.1 _ hb_v368).1.trans ht_v368) rfl (Nat.lt_of_lt_of_le hb_v368 hX.1) (by decide) (by decide) rfl (((hB.trans hX).n (by omega)).trans (by repeat (first | rfl | (rw [upd2_row (by first | decide | omega)]) | refine upd2_cg ?_))) ?_
                      refine y_if_eq rfl j_X14_buyOut_142 (fun h_369 => ?_) (fun h_370 => ?_)
                      · refine y_iconst rfl ?_
                        refine y_goto rfl j_X14_buyOut_147 ?_
                        refine y_iconst rfl ?_
                        refine y_virt rfl rfl rfl rfl rfl (ySh.t hS rfl) (ySh.n hS rfl) ?_
                        refine y_in (M := xm_X14_refuse) (ls := [some _, some _, some _]) rfl rfl rfl ?_
                        refine y_iload_n rfl rfl ?_
                        refine y_if_eqF rfl (by decide) ?_
                        refine y_aload_n rfl rfl ?_
                        refine y_getIv (v := Int32.ofInt (0)) rfl (ySh.t hS rfl) (ySh.n hS rfl) rfl rfl hth ?_
                        refine y_if_neF rfl (by decide) ?_
                        refine y_aload_n rfl rfl ?_
                        refine y_iload_n rfl rfl ?_
                        refine y_putI rfl (ySh.t hS rfl) (ySh.n hS rfl) rfl (Nat.le_of_ble_eq_true rfl) rfl rfl ?_
                        refine y_nameI (fun I371 e371 => ?_)
                        have hR1 := (hR0.grow hX).mod0 e371 (by decide) (by decide)
                        have hK := (hK.x hRo hno hX).upI (upI e371) (by decide) (by decide) (fun i hi => by have := (hRo.l87.2.2.2.2 i hi).2.1; omega) (by rw [e371, upd2_ne (.inr (by decide))]; exact Int.le_refl _)
                        have hth : I371 83 0 = Int32.ofInt (3) := by rw [e371, upd2_self]
                        have hzz : ySz8 I330 I371 := ySz8_of (upI e371) (by rw [e371]; exact ⟨upd2_ne (.inr (by decide)), upd2_ne (.inr (by decide))⟩)
                        have hB := (hB.trans hX).wr e371 rfl
                        have h8 : ∀ a, 84 ≤ a → a ≤ 86 → I371 a = I a := fun a h1 h2 => (upI e371 a (by omega)).trans ((hX.2.1 a (by omega)).2.1.trans (h8 a h1 h2))
                        have h3k : ∀ k, k ≠ 0 → I371 83 k = I 83 k := fun k hk => (congrFun (congrFun e371 83) k).trans ((upd2_ne (.inr hk)).trans ((congrFun (hX.2.1 83 (by omega)).2.1 k).trans (h3k k hk)))
                        have hg := (hg.gx hX (by omega)).skip e371 (by decide)
                        have hday : I371 83 1 = I 83 1 := (congrFun (congrFun e371 83) 1).trans ((upd2_ne (.inr (by decide))).trans ((congrFun (hX.2.1 83 (by omega)).2.1 1).trans hday))
                        have hRb : ∀ a, a < n → R a = R a := fun a ha => (hX.2.1 a (by omega)).2.2.trans (hRb a ha)
                        have hb83 : ∀ a, a ≠ 83 → a < n → I371 a = I a := fun a ha hb => (upI e371 a ha).trans ((hX.2.1 a (by omega)).2.1.trans (hb83 a ha hb))
                        have hS0 := hS
                        have hR0 := hR1
                        have ht_b337 := (hX.2.1 _ hb_b337).1.trans ht_b337
                        have hb_b337 := Nat.lt_of_lt_of_le hb_b337 hX.1
                        have hb0_b337 := hb_b337
                        have ht_v364 := (hX.2.1 _ hb_v364).1.trans ht_v364
                        have hb_v364 := Nat.lt_of_lt_of_le hb_v364 hX.1
                        have hb0_v364 := hb_v364
                        have ht_v368 := (hX.2.1 _ hb_v368).1.trans ht_v368
                        have hb_v368 := Nat.lt_of_lt_of_le hb_v368 hX.1
                        have hb0_v368 := hb_v368
                        have hn := Nat.le_refl n
                        have h94 := hS0.1
                        have hX := @yX.rf n tg I371 R
                        have hS := hS0.x hX
                        have hR := hR0.x hn hX
                        have hz := hX.sz h94
                        have hxn := hX.1
                        have hN := hR0.1
                        have hnb := hR0.2.2.2.2.2.2
                        have hthB := hth
                        refine y_aload_n rfl rfl ?_
                        refine y_getIv (v := Int32.ofInt (3)) rfl (ySh.t hS rfl) (ySh.n hS rfl) rfl rfl hth ?_
                        refine y_if_leF rfl (by decide) ?_
                        refine y_iconst rfl ?_
                        refine y_goto rfl j_X14_refuse_28 ?_
                        refine y_ireturn rfl rfl rfl ?_
                        refine y_ret1 ?_
                        refine y_if_eqF rfl (by decide) ?_
                        refine y_iconst rfl ?_
                        refine y_ireturn rfl rfl rfl ?_
                        exact hQ3 _ eb_b337 (by first | omega | (simp only [show ySeat x2 = x2 from if_neg (by omega), show ySeat x3 = x3 from if_neg (by omega)]; omega) | (simp only [show ySeat x2 = x2 from if_neg (by omega), show ySeat x3 = Int32.ofInt 8 from if_pos (by omega), show (Int32.ofInt 8).toInt.toNat = 8 from by decide]; omega) | (simp only [show ySeat x2 = Int32.ofInt 8 from if_pos (by omega), show ySeat x3 = x3 from if_neg (by omega), show (Int32.ofInt 8).toInt.toNat = 8 from by decide]; omega) | (simp only [show ySeat x2 = Int32.ofInt 8 from if_pos (by omega), show ySeat x3 = Int32.ofInt 8 from if_pos (by omega), show (Int32.ofInt 8).toInt.toNat = 8 from by decide]; omega)) _ _ _ _ _ _ _ hS ((hR0.grow hX).up (Nat.le_succ K) hk6) (hK.x hRo hno hX) hth ((hB.trans hX).rf2 (by omega)) (by omega) (by omega)
                      · refine y_aload rfl rfl ?_
                        obtain ⟨hR_v372, hb_v372, ht_v372⟩ := hR0.ven hlo_b337 hb0_b337 ht_b337 (j := 1) (by decide)
                        have hb0_v372 := hb_v372
                        have hb_v372 := Nat.lt_of_lt_of_le hb_v372 hn
                        have hlo_v372 : 94 ≤ b337 + 1 + 1 := by omega
                        have hR2_v372 := (congrFun (hX.2.1 b337 hb_b337).2.2 1).trans hR_v372
                        refine y_getR rfl ((hX.2.1 _ hb_b337).1.trans ht_b337) (Nat.lt_of_lt_of_le hb_b337 hX.1) rfl rfl hR2_v372 ?_
                        refine y_iload rfl rfl ?_
                        refine y_ialoadv (J := I (b337 + 1 + 1)) rfl ((hX.2.1 _ hb_v372).1.trans ht_v372) (Nat.lt_of_lt_of_le hb_v372 hX.1) (by omega) (by omega) (((hB.trans hX).n (by omega)).trans (by repeat (first | rfl | (rw [upd2_row (by first | decide | omega)]) | refine upd2_cg ?_))) ?_
                        refine y_iload rfl rfl ?_
                        refine y_icmp_lt rfl j_X14_buyOut_142 (fun h_373 => ?_) (fun h_374 => ?_)
                        · refine y_iconst rfl ?_
                          refine y_goto rfl j_X14_buyOut_147 ?_
                          refine y_iconst rfl ?_
                          refine y_virt rfl rfl rfl rfl rfl (ySh.t hS rfl) (ySh.n hS rfl) ?_
                          refine y_in (M := xm_X14_refuse) (ls := [some _, some _, some _]) rfl rfl rfl ?_
                          refine y_iload_n rfl rfl ?_
                          refine y_if_eqF rfl (by decide) ?_
                          refine y_aload_n rfl rfl ?_
                          refine y_getIv (v := Int32.ofInt (0)) rfl (ySh.t hS rfl) (ySh.n hS rfl) rfl rfl hth ?_
                          refine y_if_neF rfl (by decide) ?_
                          refine y_aload_n rfl rfl ?_
                          refine y_iload_n rfl rfl ?_
                          refine y_putI rfl (ySh.t hS rfl) (ySh.n hS rfl) rfl (Nat.le_of_ble_eq_true rfl) rfl rfl ?_
                          refine y_nameI (fun I375 e375 => ?_)
                          have hR1 := (hR0.grow hX).mod0 e375 (by decide) (by decide)
                          have hK := (hK.x hRo hno hX).upI (upI e375) (by decide) (by decide) (fun i hi => by have := (hRo.l87.2.2.2.2 i hi).2.1; omega) (by rw [e375, upd2_ne (.inr (by decide))]; exact Int.le_refl _)
                          have hth : I375 83 0 = Int32.ofInt (3) := by rw [e375, upd2_self]
                          have hzz : ySz8 I330 I375 := ySz8_of (upI e375) (by rw [e375]; exact ⟨upd2_ne (.inr (by decide)), upd2_ne (.inr (by decide))⟩)
                          have hB := (hB.trans hX).wr e375 rfl
                          have h8 : ∀ a, 84 ≤ a → a ≤ 86 → I375 a = I a := fun a h1 h2 => (upI e375 a (by omega)).trans ((hX.2.1 a (by omega)).2.1.trans (h8 a h1 h2))
                          have h3k : ∀ k, k ≠ 0 → I375 83 k = I 83 k := fun k hk => (congrFun (congrFun e375 83) k).trans ((upd2_ne (.inr hk)).trans ((congrFun (hX.2.1 83 (by omega)).2.1 k).trans (h3k k hk)))
                          have hg := (hg.gx hX (by omega)).skip e375 (by decide)
                          have hday : I375 83 1 = I 83 1 := (congrFun (congrFun e375 83) 1).trans ((upd2_ne (.inr (by decide))).trans ((congrFun (hX.2.1 83 (by omega)).2.1 1).trans hday))
                          have hRb : ∀ a, a < n → R a = R a := fun a ha => (hX.2.1 a (by omega)).2.2.trans (hRb a ha)
                          have hb83 : ∀ a, a ≠ 83 → a < n → I375 a = I a := fun a ha hb => (upI e375 a ha).trans ((hX.2.1 a (by omega)).2.1.trans (hb83 a ha hb))
                          have hS0 := hS
                          have hR0 := hR1
                          have ht_b337 := (hX.2.1 _ hb_b337).1.trans ht_b337
                          have hb_b337 := Nat.lt_of_lt_of_le hb_b337 hX.1
                          have hb0_b337 := hb_b337
                          have ht_v364 := (hX.2.1 _ hb_v364).1.trans ht_v364
                          have hb_v364 := Nat.lt_of_lt_of_le hb_v364 hX.1
                          have hb0_v364 := hb_v364
                          have ht_v368 := (hX.2.1 _ hb_v368).1.trans ht_v368
                          have hb_v368 := Nat.lt_of_lt_of_le hb_v368 hX.1
                          have hb0_v368 := hb_v368
                          have ht_v372 := (hX.2.1 _ hb_v372).1.trans ht_v372
                          have hb_v372 := Nat.lt_of_lt_of_le hb_v372 hX.1
                          have hb0_v372 := hb_v372
                          have hn := Nat.le_refl n
                          have h94 := hS0.1
                          have hX := @yX.rf n tg I375 R
                          have hS := hS0.x hX
                          have hR := hR0.x hn hX
                          have hz := hX.sz h94
                          have hxn := hX.1
                          have hN := hR0.1
                          have hnb := hR0.2.2.2.2.2.2
                          have hthB := hth
                          refine y_aload_n rfl rfl ?_
                          refine y_getIv (v := Int32.ofInt (3)) rfl (ySh.t hS rfl) (ySh.n hS rfl) rfl rfl hth ?_
                          refine y_if_leF rfl (by decide) ?_
                          refine y_iconst rfl ?_
                          refine y_goto rfl j_X14_refuse_28 ?_
                          refine y_ireturn rfl rfl rfl ?_
                          refine y_ret1 ?_
                          refine y_if_eqF rfl (by decide) ?_
                          refine y_iconst rfl ?_
                          refine y_ireturn rfl rfl rfl ?_
                          exact hQ3 _ eb_b337 (by first | omega | (simp only [show ySeat x2 = x2 from if_neg (by omega), show ySeat x3 = x3 from if_neg (by omega)]; omega) | (simp only [show ySeat x2 = x2 from if_neg (by omega), show ySeat x3 = Int32.ofInt 8 from if_pos (by omega), show (Int32.ofInt 8).toInt.toNat = 8 from by decide]; omega) | (simp only [show ySeat x2 = Int32.ofInt 8 from if_pos (by omega), show ySeat x3 = x3 from if_neg (by omega), show (Int32.ofInt 8).toInt.toNat = 8 from by decide]; omega) | (simp only [show ySeat x2 = Int32.ofInt 8 from if_pos (by omega), show ySeat x3 = Int32.ofInt 8 from if_pos (by omega), show (Int32.ofInt 8).toInt.toNat = 8 from by decide]; omega)) _ _ _ _ _ _ _ hS ((hR0.grow hX).up (Nat.le_succ K) hk6) (hK.x hRo hno hX) hth ((hB.trans hX).rf2 (by omega)) (by omega) (by omega)
                        · refine y_aload_n rfl rfl ?_
                          refine y_getR rfl (ySh.t hS rfl) (ySh.n hS rfl) rfl rfl (ySh.r hS rfl) ?_
                          refine y_iload rfl rfl ?_
                          refine y_ialoadw (j := 8) (J := I 84) rfl (ySh.t hS rfl) (ySh.n hS rfl) (by decide) (by decide) rfl (((hB.trans hX).n (by omega)).trans (by repeat (first | rfl | (rw [upd2_row (by first | decide | omega)]) | refine upd2_cg ?_))) ?_
                          refine y_iload rfl rfl ?_
                          refine y_icmp_ge rfl j_X14_buyOut_146 (fun h_376 => ?_) (fun h_377 => ?_)
                          · refine y_iconst rfl ?_
                            refine y_iconst rfl ?_
                            refine y_virt rfl rfl rfl rfl rfl (ySh.t hS rfl) (ySh.n hS rfl) ?_
                            refine y_in (M := xm_X14_refuse) (ls := [some _, some _, some _]) rfl rfl rfl ?_
                            refine y_iload_n rfl rfl ?_
                            refine y_if_eqT rfl j_X14_refuse_16 (by decide) ?_
                            refine y_aload_n rfl rfl ?_
                            refine y_getIv (v := Int32.ofInt (0)) rfl (ySh.t hS rfl) (ySh.n hS rfl) rfl rfl hth ?_
                            refine y_if_leT rfl j_X14_refuse_27 (by decide) ?_
                            refine y_iconst rfl ?_
                            refine y_ireturn rfl rfl rfl ?_
                            refine y_ret1 ?_
                            refine y_if_eqT rfl j_X14_buyOut_156 (by decide) ?_
                            refine y_aload rfl rfl ?_
                            obtain ⟨hR_v378, hb_v378, ht_v378⟩ := hR0.ven hlo_b337 hb0_b337 ht_b337 (j := 1) (by decide)
                            have hb0_v378 := hb_v378
                            have hb_v378 := Nat.lt_of_lt_of_le hb_v378 hn
                            have hlo_v378 : 94 ≤ b337 + 1 + 1 := by omega
                            have hR2_v378 := (congrFun (hX.2.1 b337 hb_b337).2.2 1).trans hR_v378
                            refine y_getR rfl ((hX.2.1 _ hb_b337).1.trans ht_b337) (Nat.lt_of_lt_of_le hb_b337 hX.1) rfl rfl hR2_v378 ?_
                            refine y_iload rfl rfl ?_
                            refine y_dup2 rfl rfl rfl ?_
                            refine y_ialoadv (J := I (b337 + 1 + 1)) rfl ((hX.2.1 _ hb_v378).1.trans ht_v378) (Nat.lt_of_lt_of_le hb_v378 hX.1) (by omega) (by omega) (((hB.trans hX).n (by omega)).trans (by repeat (first | rfl | (rw [upd2_row (by first | decide | omega)]) | refine upd2_cg ?_))) ?_
                            refine y_iload rfl rfl ?_
                            refine y_isub rfl ?_
                            refine y_iastore rfl ((hX.2.1 _ hb_v378).1.trans ht_v378) (Nat.lt_of_lt_of_le hb_v378 hX.1) (Nat.le_trans (by decide) (by omega : 94 ≤ _)) (by omega) (by omega) ?_
                            refine y_nameI (fun I379 e379 => ?_)
                            have hB1 := (hR0.grow hX).capB1x hlo_b337 (by omega) ((hX.2.1 _ hb_b337).1.trans ht_b337) (by omega) e379 (by rw [show I330 (b337 + 1 + 1) = I (b337 + 1 + 1) from ((hB.trans hX).n (by omega)).trans (by repeat (first | rfl | (rw [upd2_row (by first | decide | omega)]) | refine upd2_cg ?_))]) ⟨by omega, by rw [show I330 (b337 + 1 + 1) = I (b337 + 1 + 1) from ((hB.trans hX).n (by omega)).trans (by repeat (first | rfl | (rw [upd2_row (by first | decide | omega)]) | refine upd2_cg ?_))]; omega⟩
                            have hR1 := hB1.1
                            have hK := (hK.x hRo hno hX).upE hRo hno (upI e379) (by omega) (by omega) (by rw [((hX.2.1 _ hb_v378).1.trans ht_v378)]; decide) (by rw [e379, upd2_ne (.inl (by omega))]; exact Int.le_refl _)
                            have hth := (show I379 83 0 = I330 83 0 by rw [e379, upd2_ne (.inl (by omega))]).trans hth
                            have hzz : ySz I330 I379 := ySz_ofE (upI e379) (by omega)
                            have hB := (hB.trans hX).wr e379 rfl
                            have h8 : ∀ a, 84 ≤ a → a ≤ 86 → I379 a = I a := fun a h1 h2 => (upI e379 a (by omega)).trans ((hX.2.1 a (by omega)).2.1.trans (h8 a h1 h2))
                            have h3k : ∀ k, k ≠ 0 → I379 83 k = I 83 k := fun k hk => (congrFun (congrFun e379 83) k).trans ((upd2_ne (.inl (by omega))).trans ((congrFun (hX.2.1 83 (by omega)).2.1 k).trans (h3k k hk)))
                            have hg := (hg.gx hX (by omega)).both e379
                            have hday : I379 83 1 = I 83 1 := (congrFun (congrFun e379 83) 1).trans ((upd2_ne (.inl (by omega))).trans ((congrFun (hX.2.1 83 (by omega)).2.1 1).trans hday))
                            have hRb : ∀ a, a < n → R a = R a := fun a ha => (hX.2.1 a (by omega)).2.2.trans (hRb a ha)
                            have hS0 := hS
                            have hR0 := hR1
                            have ht_b337 := (hX.2.1 _ hb_b337).1.trans ht_b337
                            have hb_b337 := Nat.lt_of_lt_of_le hb_b337 hX.1
                            have hb0_b337 := hb_b337
                            have ht_v364 := (hX.2.1 _ hb_v364).1.trans ht_v364
                            have hb_v364 := Nat.lt_of_lt_of_le hb_v364 hX.1
                            have hb0_v364 := hb_v364
                            have ht_v368 := (hX.2.1 _ hb_v368).1.trans ht_v368
                            have hb_v368 := Nat.lt_of_lt_of_le hb_v368 hX.1
                            have hb0_v368 := hb_v368
                            have ht_v372 := (hX.2.1 _ hb_v372).1.trans ht_v372
                            have hb_v372 := Nat.lt_of_lt_of_le hb_v372 hX.1
                            have hb0_v372 := hb_v372
                            have ht_v378 := (hX.2.1 _ hb_v378).1.trans ht_v378
                            have hb_v378 := Nat.lt_of_lt_of_le hb_v378 hX.1
                            have hb0_v378 := hb_v378
                            have hn := Nat.le_refl n
                            have h94 := hS0.1
                            have hX := @yX.rf n tg I379 R
                            have hS := hS0.x hX
                            have hR := hR0.x hn hX
                            have hz := hX.sz h94
                            have hxn := hX.1
                            have hN := hR0.1
                            have hnb := hR0.2.2.2.2.2.2
                            have hthB := hth
                            refine y_aload rfl rfl ?_
                            obtain ⟨hR_v380, hb_v380, ht_v380⟩ := hR0.ven hlo_b337 hb0_b337 ht_b337 (j := 1) (by decide)
                            have hb0_v380 := hb_v380
                            have hb_v380 := Nat.lt_of_lt_of_le hb_v380 hn
                            have hlo_v380 : 94 ≤ b337 + 1 + 1 := by omega
                            have hR2_v380 := (congrFun (hX.2.1 b337 hb_b337).2.2 1).trans hR_v380
                            refine y_getR rfl ((hX.2.1 _ hb_b337).1.trans ht_b337) (Nat.lt_of_lt_of_le hb_b337 hX.1) rfl rfl hR2_v380 ?_
                            refine y_iload rfl rfl ?_
                            refine y_dup2 rfl rfl rfl ?_
                            refine y_ialoadw (j := 8) (J := _) rfl ((hX.2.1 _ hb_v380).1.trans ht_v380) (Nat.lt_of_lt_of_le hb_v380 hX.1) (by decide) (by decide) rfl ((hB.trans hX).n (by omega)) ?_
                            refine y_iload rfl rfl ?_
                            refine y_iadd rfl ?_
                            refine y_iastoreC (j := 8) rfl ((hX.2.1 _ hb_v380).1.trans ht_v380) (Nat.lt_of_lt_of_le hb_v380 hX.1) (Nat.le_trans (by decide) (by omega : 94 ≤ _)) (by decide) (by decide) rfl ?_
                            refine y_nameI (fun I381 e381 => ?_)
                            have hR1 := (hR0.grow hX).capB2x hlo_b337 (by omega) ((hX.2.1 _ hb_b337).1.trans ht_b337) (by omega) (by omega) hB1.2.1 e381 (by rw [show I379 (b337 + 1 + 1) = _ from ((hB.trans hX).n (by omega))])
                            have hK := (hK.x hRo hno hX).upE hRo hno (upI e381) (by omega) (by omega) (by rw [((hX.2.1 _ hb_v380).1.trans ht_v380)]; decide) (by rw [e381, upd2_ne (.inl (by omega))]; exact Int.le_refl _)
                            have hth := (show I381 83 0 = I379 83 0 by rw [e381, upd2_ne (.inl (by omega))]).trans hth
                            have hzz : ySz I379 I381 := ySz_ofE (upI e381) (by omega)
                            have hB := (hB.trans hX).wr e381 rfl
                            have h8 : ∀ a, 84 ≤ a → a ≤ 86 → I381 a = I a := fun a h1 h2 => (upI e381 a (by omega)).trans ((hX.2.1 a (by omega)).2.1.trans (h8 a h1 h2))
                            have h3k : ∀ k, k ≠ 0 → I381 83 k = I 83 k := fun k hk => (congrFun (congrFun e381 83) k).trans ((upd2_ne (.inl (by omega))).trans ((congrFun (hX.2.1 83 (by omega)).2.1 k).trans (h3k k hk)))
                            have hg := (hg.gx hX (by omega)).both e381
                            have hday : I381 83 1 = I 83 1 := (congrFun (congrFun e381 83) 1).trans ((upd2_ne (.inl (by omega))).trans ((congrFun (hX.2.1 83 (by omega)).2.1 1).trans hday))
                            have hRb : ∀ a, a < n → R a = R a := fun a ha => (hX.2.1 a (by omega)).2.2.trans (hRb a ha)
                            have hS0 := hS
                            have hR0 := hR1
                            have ht_b337 := (hX.2.1 _ hb_b337).1.trans ht_b337
                            have hb_b337 := Nat.lt_of_lt_of_le hb_b337 hX.1
                            have hb0_b337 := hb_b337
                            have ht_v364 := (hX.2.1 _ hb_v364).1.trans ht_v364
                            have hb_v364 := Nat.lt_of_lt_of_le hb_v364 hX.1
                            have hb0_v364 := hb_v364
                            have ht_v368 := (hX.2.1 _ hb_v368).1.trans ht_v368
                            have hb_v368 := Nat.lt_of_lt_of_le hb_v368 hX.1
                            have hb0_v368 := hb_v368
                            have ht_v372 := (hX.2.1 _ hb_v372).1.trans ht_v372
                            have hb_v372 := Nat.lt_of_lt_of_le hb_v372 hX.1
                            have hb0_v372 := hb_v372
                            have ht_v378 := (hX.2.1 _ hb_v378).1.trans ht_v378
                            have hb_v378 := Nat.lt_of_lt_of_le hb_v378 hX.1
                            have hb0_v378 := hb_v378
                            have ht_v380 := (hX.2.1 _ hb_v380).1.trans ht_v380
                            have hb_v380 := Nat.lt_of_lt_of_le hb_v380 hX.1
                            have hb0_v380 := hb_v380
                            have hn := Nat.le_refl n
                            have h94 := hS0.1
                            have hX := @yX.rf n tg I381 R
                            have hS := hS0.x hX
                            have hR := hR0.x hn hX
                            have hz := hX.sz h94
                            have hxn := hX.1
                            have hN := hR0.1
                            have hnb := hR0.2.2.2.2.2.2
                            have hthB := hth
                            refine y_aload_n rfl rfl ?_
                            refine y_getR rfl (ySh.t hS rfl) (ySh.n hS rfl) rfl rfl (ySh.r hS rfl) ?_
                            refine y_iload rfl rfl ?_
                            refine y_dup2 rfl rfl rfl ?_
                            refine y_ialoadv (J := I 84) rfl (ySh.t hS rfl) (ySh.n hS rfl) (by omega) (by omega) (((hB.trans hX).n (by omega)).trans (by repeat (first | rfl | (rw [upd2_row (by first | decide | omega)]) | refine upd2_cg ?_))) ?_
                            refine y_iload rfl rfl ?_
                            refine y_iadd rfl ?_
                            refine y_iastore rfl (ySh.t hS rfl) (ySh.n hS rfl) (Nat.le_of_ble_eq_true rfl) (by omega) (by omega) ?_
                            refine y_nameI (fun I382 e382 => ?_)
                            have hR1 := (hR0.grow hX).arr e382 (by decide)
                            have hK := (hK.x hRo hno hX).upI (upI e382) (by decide) (by decide) (fun i hi => by have := (hRo.l87.2.2.2.2 i hi).2.1; omega) (by rw [e382, upd2_ne (.inl (by omega))]; exact Int.le_refl _)
                            have hth := (show I382 83 0 = I381 83 0 by rw [e382, upd2_ne (.inl (by omega))]).trans hth
                            have hzz : ySz I381 I382 := ySz_ofE (upI e382) (by omega)
                            have hB := (hB.trans hX).wr e382 rfl
                            have h3k : ∀ k, k ≠ 0 → I382 83 k = I 83 k := fun k hk => (congrFun (congrFun e382 83) k).trans ((upd2_ne (.inl (by omega))).trans ((congrFun (hX.2.1 83 (by omega)).2.1 k).trans (h3k k hk)))
                            have hg := (hg.gx hX (by omega)).skip e382 (by decide)
                            have hday : I382 83 1 = I 83 1 := (congrFun (congrFun e382 83) 1).trans ((upd2_ne (.inl (by omega))).trans ((congrFun (hX.2.1 83 (by omega)).2.1 1).trans hday))
                            have hRb : ∀ a, a < n → R a = R a := fun a ha => (hX.2.1 a (by omega)).2.2.trans (hRb a ha)
                            have hS0 := hS
                            have hR0 := hR1
                            have ht_b337 := (hX.2.1 _ hb_b337).1.trans ht_b337
                            have hb_b337 := Nat.lt_of_lt_of_le hb_b337 hX.1
                            have hb0_b337 := hb_b337
                            have ht_v364 := (hX.2.1 _ hb_v364).1.trans ht_v364
                            have hb_v364 := Nat.lt_of_lt_of_le hb_v364 hX.1
                            have hb0_v364 := hb_v364
                            have ht_v368 := (hX.2.1 _ hb_v368).1.trans ht_v368
                            have hb_v368 := Nat.lt_of_lt_of_le hb_v368 hX.1
                            have hb0_v368 := hb_v368
                            have ht_v372 := (hX.2.1 _ hb_v372).1.trans ht_v372
                            have hb_v372 := Nat.lt_of_lt_of_le hb_v372 hX.1
                            have hb0_v372 := hb_v372
                            have ht_v378 := (hX.2.1 _ hb_v378).1.trans ht_v378
                            have hb_v378 := Nat.lt_of_lt_of_le hb_v378 hX.1
                            have hb0_v378 := hb_v378
                            have ht_v380 := (hX.2.1 _ hb_v380).1.trans ht_v380
                            have hb_v380 := Nat.lt_of_lt_of_le hb_v380 hX.1
                            have hb0_v380 := hb_v380
                            have hn := Nat.le_refl n
                            have h94 := hS0.1
                            have hX := @yX.rf n tg I382 R
                            have hS := hS0.x hX
                            have hR := hR0.x hn hX
                            have hz := hX.sz h94
                            have hxn := hX.1
                            have hN := hR0.1
                            have hnb := hR0.2.2.2.2.2.2
                            have hthB := hth
                            refine y_aload_n rfl rfl ?_
                            refine y_getR rfl (ySh.t hS rfl) (ySh.n hS rfl) rfl rfl (ySh.r hS rfl) ?_
                            refine y_iload rfl rfl ?_
                            refine y_dup2 rfl rfl rfl ?_
                            refine y_ialoadw (j := 8) (J := _) rfl (ySh.t hS rfl) (ySh.n hS rfl) (by decide) (by decide) rfl ((hB.trans hX).n (by omega)) ?_
                            refine y_iload rfl rfl ?_
                            refine y_isub rfl ?_
                            refine y_iastoreC (j := 8) rfl (ySh.t hS rfl) (ySh.n hS rfl) (Nat.le_of_ble_eq_true rfl) (by decide) (by decide) rfl ?_
                            refine y_nameI (fun I383 e383 => ?_)
                            have hR1 := (hR0.grow hX).arr e383 (by decide)
                            have hK := (hK.x hRo hno hX).upI (upI e383) (by decide) (by decide) (fun i hi => by have := (hRo.l87.2.2.2.2 i hi).2.1; omega) (by rw [e383, upd2_ne (.inl (by omega))]; exact Int.le_refl _)
                            have hth := (show I383 83 0 = I382 83 0 by rw [e383, upd2_ne (.inl (by omega))]).trans hth
                            have hzz : ySz I382 I383 := ySz_ofE (upI e383) (by omega)
                            have hB := (hB.trans hX).wr e383 rfl
                            have h3k : ∀ k, k ≠ 0 → I383 83 k = I 83 k := fun k hk => (congrFun (congrFun e383 83) k).trans ((upd2_ne (.inl (by omega))).trans ((congrFun (hX.2.1 83 (by omega)).2.1 k).trans (h3k k hk)))
                            have hg := (hg.gx hX (by omega)).skip e383 (by decide)
                            have hday : I383 83 1 = I 83 1 := (congrFun (congrFun e383 83) 1).trans ((upd2_ne (.inl (by omega))).trans ((congrFun (hX.2.1 83 (by omega)).2.1 1).trans hday))
                            have hRb : ∀ a, a < n → R a = R a := fun a ha => (hX.2.1 a (by omega)).2.2.trans (hRb a ha)
                            have hS0 := hS
                            have hR0 := hR1
                            have ht_b337 := (hX.2.1 _ hb_b337).1.trans ht_b337
                            have hb_b337 := Nat.lt_of_lt_of_le hb_b337 hX.1
                            have hb0_b337 := hb_b337
                            have ht_v364 := (hX.2.1 _ hb_v364).1.trans ht_v364
                            have hb_v364 := Nat.lt_of_lt_of_le hb_v364 hX.1
                            have hb0_v364 := hb_v364
                            have ht_v368 := (hX.2.1 _ hb_v368).1.trans ht_v368
                            have hb_v368 := Nat.lt_of_lt_of_le hb_v368 hX.1
                            have hb0_v368 := hb_v368
                            have ht_v372 := (hX.2.1 _ hb_v372).1.trans ht_v372
                            have hb_v372 := Nat.lt_of_lt_of_le hb_v372 hX.1
                            have hb0_v372 := hb_v372
                            have ht_v378 := (hX.2.1 _ hb_v378).1.trans ht_v378
                            have hb_v378 := Nat.lt_of_lt_of_le hb_v378 hX.1
                            have hb0_v378 := hb_v378
                            have ht_v380 := (hX.2.1 _ hb_v380).1.trans ht_v380
                            have hb_v380 := Nat.lt_of_lt_of_le hb_v380 hX.1
                            have hb0_v380 := hb_v380
                            have hn := Nat.le_refl n
                            have h94 := hS0.1
                            have hX := @yX.rf n tg I383 R
                            have hS := hS0.x hX
                            have hR := hR0.x hn hX
                            have hz := hX.sz h94
                            have hxn := hX.1
                            have hN := hR0.1
                            have hnb := hR0.2.2.2.2.2.2
                            have hthB := hth
                            refine y_aload rfl rfl ?_
                            obtain ⟨hR_v384, hb_v384, ht_v384⟩ := hR0.ven hlo_b337 hb0_b337 ht_b337 (j := 1) (by decide)
                            have hb0_v384 := hb_v384
                            have hb_v384 := Nat.lt_of_lt_of_le hb_v384 hn
                            have hlo_v384 : 94 ≤ b337 + 1 + 1 := by omega
                            have hR2_v384 := (congrFun (hX.2.1 b337 hb_b337).2.2 1).trans hR_v384
                            refine y_getR rfl ((hX.2.1 _ hb_b337).1.trans ht_b337) (Nat.lt_of_lt_of_le hb_b337 hX.1) rfl rfl hR2_v384 ?_
                            refine y_iload rfl rfl ?_
                            refine y_ialoadv (J := _) rfl ((hX.2.1 _ hb_v384).1.trans ht_v384) (Nat.lt_of_lt_of_le hb_v384 hX.1) (by omega) (by omega) ((hB.trans hX).n (by omega)) ?_
                            refine y_ireturn rfl rfl rfl ?_
                            exact hQ0 _ eb_b337 (by first | omega | (simp only [show ySeat x2 = x2 from if_neg (by omega), show ySeat x3 = x3 from if_neg (by omega)]; omega) | (simp only [show ySeat x2 = x2 from if_neg (by omega), show ySeat x3 = Int32.ofInt 8 from if_pos (by omega), show (Int32.ofInt 8).toInt.toNat = 8 from by decide]; omega) | (simp only [show ySeat x2 = Int32.ofInt 8 from if_pos (by omega), show ySeat x3 = x3 from if_neg (by omega), show (Int32.ofInt 8).toInt.toNat = 8 from by decide]; omega) | (simp only [show ySeat x2 = Int32.ofInt 8 from if_pos (by omega), show ySeat x3 = Int32.ofInt 8 from if_pos (by omega), show (Int32.ofInt 8).toInt.toNat = 8 from by decide]; omega)) _ _ _ _ _ _ _ hS ((hR0.grow hX).up (Nat.le_succ K) hk6) (hK.x hRo hno hX) hth (by first | exact (congrFun ((hB.trans hX).n (by omega)) _).symm | (simp only [show ySeat x2 = x2 from if_neg (by omega), show ySeat x3 = x3 from if_neg (by omega)]; exact (congrFun ((hB.trans hX).n (by omega)) _).symm) | (simp only [show ySeat x2 = x2 from if_neg (by omega), show ySeat x3 = Int32.ofInt 8 from if_pos (by omega), show (Int32.ofInt 8).toInt.toNat = 8 from by decide]; exact (congrFun ((hB.trans hX).n (by omega)) _).symm) | (simp only [show ySeat x2 = Int32.ofInt 8 from if_pos (by omega), show ySeat x3 = x3 from if_neg (by omega), show (Int32.ofInt 8).toInt.toNat = 8 from by decide]; exact (congrFun ((hB.trans hX).n (by omega)) _).symm) | (simp only [show ySeat x2 = Int32.ofInt 8 from if_pos (by omega), show ySeat x3 = Int32.ofInt 8 from if_pos (by omega), show (Int32.ofInt 8).toInt.toNat = 8 from by decide]; exact (congrFun ((hB.trans hX).n (by omega)) _).symm)) (by first | (exact hB.trans hX) | (simp only [show ySeat x2 = x2 from if_neg (by omega), show ySeat x3 = x3 from if_neg (by omega)]; exact hB.trans hX) | (simp only [show ySeat x2 = x2 from if_neg (by omega), show ySeat x3 = Int32.ofInt 8 from if_pos (by omega), show (Int32.ofInt 8).toInt.toNat = 8 from by decide]; exact hB.trans hX) | (simp only [show ySeat x2 = Int32.ofInt 8 from if_pos (by omega), show ySeat x3 = x3 from if_neg (by omega), show (Int32.ofInt 8).toInt.toNat = 8 from by decide]; exact hB.trans hX) | (simp only [show ySeat x2 = Int32.ofInt 8 from if_pos (by omega), show ySeat x3 = Int32.ofInt 8 from if_pos (by omega), show (Int32.ofInt 8).toInt.toNat = 8 from by decide]; exact hB.trans hX)) (by omega) (by omega)
                          · refine y_iconst rfl ?_
                            refine y_goto rfl j_X14_buyOut_147 ?_
                            refine y_iconst rfl ?_
                            refine y_virt rfl rfl rfl rfl rfl (ySh.t hS rfl) (ySh.n hS rfl) ?_
                            refine y_in (M := xm_X14_refuse) (ls := [some _, some _, some _]) rfl rfl rfl ?_
                            refine y_iload_n rfl rfl ?_
                            refine y_if_eqF rfl (by decide) ?_
                            refine y_aload_n rfl rfl ?_
                            refine y_getIv (v := Int32.ofInt (0)) rfl (ySh.t hS rfl) (ySh.n hS rfl) rfl rfl hth ?_
                            refine y_if_neF rfl (by decide) ?_
                            refine y_aload_n rfl rfl ?_
                            refine y_iload_n rfl rfl ?_
                            refine y_putI rfl (ySh.t hS rfl) (ySh.n hS rfl) rfl (Nat.le_of_ble_eq_true rfl) rfl rfl ?_
                            refine y_nameI (fun I385 e385 => ?_)
                            have hR1 := (hR0.grow hX).mod0 e385 (by decide) (by decide)
                            have hK := (hK.x hRo hno hX).upI (upI e385) (by decide) (by decide) (fun i hi => by have := (hRo.l87.2.2.2.2 i hi).2.1; omega) (by rw [e385, upd2_ne (.inr (by decide))]; exact Int.le_refl _)
                            have hth : I385 83 0 = Int32.ofInt (3) := by rw [e385, upd2_self]
                            have hzz : ySz8 I330 I385 := ySz8_of (upI e385) (by rw [e385]; exact ⟨upd2_ne (.inr (by decide)), upd2_ne (.inr (by decide))⟩)
                            have hB := (hB.trans hX).wr e385 rfl
                            have h8 : ∀ a, 84 ≤ a → a ≤ 86 → I385 a = I a := fun a h1 h2 => (upI e385 a (by omega)).trans ((hX.2.1 a (by omega)).2.1.trans (h8 a h1 h2))
                            have h3k : ∀ k, k ≠ 0 → I385 83 k = I 83 k := fun k hk => (congrFun (congrFun e385 83) k).trans ((upd2_ne (.inr hk)).trans ((congrFun (hX.2.1 83 (by omega)).2.1 k).trans (h3k k hk)))
                            have hg := (hg.gx hX (by omega)).skip e385 (by decide)
                            have hday : I385 83 1 = I 83 1 := (congrFun (congrFun e385 83) 1).trans ((upd2_ne (.inr (by decide))).trans ((congrFun (hX.2.1 83 (by omega)).2.1 1).trans hday))
                            have hRb : ∀ a, a < n → R a = R a := fun a ha => (hX.2.1 a (by omega)).2.2.trans (hRb a ha)
                            have hb83 : ∀ a, a ≠ 83 → a < n → I385 a = I a := fun a ha hb => (upI e385 a ha).trans ((hX.2.1 a (by omega)).2.1.trans (hb83 a ha hb))
                            have hS0 := hS
                            have hR0 := hR1
                            have ht_b337 := (hX.2.1 _ hb_b337).1.trans ht_b337
                            have hb_b337 := Nat.lt_of_lt_of_le hb_b337 hX.1
                            have hb0_b337 := hb_b337
                            have ht_v364 := (hX.2.1 _ hb_v364).1.trans ht_v364
                            have hb_v364 := Nat.lt_of_lt_of_le hb_v364 hX.1
                            have hb0_v364 := hb_v364
                            have ht_v368 := (hX.2.1 _ hb_v368).1.trans ht_v368
                            have hb_v368 := Nat.lt_of_lt_of_le hb_v368 hX.1
                            have hb0_v368 := hb_v368
                            have ht_v372 := (hX.2.1 _ hb_v372).1.trans ht_v372
                            have hb_v372 := Nat.lt_of_lt_of_le hb_v372 hX.1
                            have hb0_v372 := hb_v372
                            have hn := Nat.le_refl n
                            have h94 := hS0.1
                            have hX := @yX.rf n tg I385 R
                            have hS := hS0.x hX
                            have hR := hR0.x hn hX
                            have hz := hX.sz h94
                            have hxn := hX.1
                            have hN := hR0.1
                            have hnb := hR0.2.2.2.2.2.2
                            have hthB := hth
                            refine y_aload_n rfl rfl ?_
                            refine y_getIv (v := Int32.ofInt (3)) rfl (ySh.t hS rfl) (ySh.n hS rfl) rfl rfl hth ?_
                            refine y_if_leF rfl (by decide) ?_
                            refine y_iconst rfl ?_
                            refine y_goto rfl j_X14_refuse_28 ?_
                            refine y_ireturn rfl rfl rfl ?_
                            refine y_ret1 ?_
                            refine y_if_eqF rfl (by decide) ?_
                            refine y_iconst rfl ?_
                            refine y_ireturn rfl rfl rfl ?_
                            exact hQ3 _ eb_b337 (by first | omega | (simp only [show ySeat x2 = x2 from if_neg (by omega), show ySeat x3 = x3 from if_neg (by omega)]; omega) | (simp only [show ySeat x2 = x2 from if_neg (by omega), show ySeat x3 = Int32.ofInt 8 from if_pos (by omega), show (Int32.ofInt 8).toInt.toNat = 8 from by decide]; omega) | (simp only [show ySeat x2 = Int32.ofInt 8 from if_pos (by omega), show ySeat x3 = x3 from if_neg (by omega), show (Int32.ofInt 8).toInt.toNat = 8 from by decide]; omega) | (simp only [show ySeat x2 = Int32.ofInt 8 from if_pos (by omega), show ySeat x3 = Int32.ofInt 8 from if_pos (by omega), show (Int32.ofInt 8).toInt.toNat = 8 from by decide]; omega)) _ _ _ _ _ _ _ hS ((hR0.grow hX).up (Nat.le_succ K) hk6) (hK.x hRo hno hX) hth ((hB.trans hX).rf2 (by omega)) (by omega) (by omega)
                · rw [yz_m1] at h_339
                  refine y_bip rfl (by decide) ?_
                  refine y_goto rfl j_X14_seat_11 ?_
                  refine y_ireturn rfl rfl rfl ?_
                  refine y_ret1 ?_
                  refine y_istore (ls' := [some _, some _, some _, some _, some _, some _, some _, _]) rfl rfl rfl ?_
                  refine y_iload_n rfl rfl ?_
                  refine y_static rfl rfl rfl rfl rfl ?_
                  refine y_in (M := xm_X14_seat) (ls := [some _]) rfl rfl rfl ?_
                  refine y_iload_n rfl rfl ?_
                  refine y_iconst rfl ?_
                  refine y_icmp_ne rfl j_X14_seat_10 (fun h_386 => ?_) (fun h_387 => ?_)
                  · rw [yz_m1] at h_386
                    refine y_iload_n rfl rfl ?_
                    refine y_ireturn rfl rfl rfl ?_
                    refine y_ret1 ?_
                    refine y_istore (ls' := [some _, some _, some _, some _, some _, some _, some _, some _]) rfl rfl rfl ?_
                    refine y_aload_n rfl rfl ?_
                    refine y_aload rfl rfl ?_
                    obtain ⟨hR_v388, hb_v388, ht_v388⟩ := hR0.ven hlo_b337 hb0_b337 ht_b337 (j := 0) (by decide)
                    have hb0_v388 := hb_v388
                    have hb_v388 := Nat.lt_of_lt_of_le hb_v388 hn
                    have hlo_v388 : 94 ≤ b337 + 1 + 0 := by omega
                    have hR2_v388 := (congrFun (hX.2.1 b337 hb_b337).2.2 0).trans hR_v388
                    refine y_getR rfl ((hX.2.1 _ hb_b337).1.trans ht_b337) (Nat.lt_of_lt_of_le hb_b337 hX.1) rfl rfl hR2_v388 ?_
                    refine y_iload rfl rfl ?_
                    refine y_baloadw (j := 8) (J := I (b337 + 1 + 0)) rfl ((hX.2.1 _ hb_v388).1.trans ht_v388) rfl (Nat.lt_of_lt_of_le hb_v388 hX.1) (by decide) (by decide) rfl (((hB.trans hX).n (by omega)).trans (by repeat (first | rfl | (rw [upd2_row (by first | decide | omega)]) | refine upd2_cg ?_))) ?_
                    refine y_if_eq rfl j_X14_buyOut_142 (fun h_389 => ?_) (fun h_390 => ?_)
                    · refine y_iconst rfl ?_
                      refine y_goto rfl j_X14_buyOut_147 ?_
                      refine y_iconst rfl ?_
                      refine y_virt rfl rfl rfl rfl rfl (ySh.t hS rfl) (ySh.n hS rfl) ?_
                      refine y_in (M := xm_X14_refuse) (ls := [some _, some _, some _]) rfl rfl rfl ?_
                      refine y_iload_n rfl rfl ?_
                      refine y_if_eqF rfl (by decide) ?_
                      refine y_aload_n rfl rfl ?_
                      refine y_getIv (v := Int32.ofInt (0)) rfl (ySh.t hS rfl) (ySh.n hS rfl) rfl rfl hth ?_
                      refine y_if_neF rfl (by decide) ?_
                      refine y_aload_n rfl rfl ?_
                      refine y_iload_n rfl rfl ?_
                      refine y_putI rfl (ySh.t hS rfl) (ySh.n hS rfl) rfl (Nat.le_of_ble_eq_true rfl) rfl rfl ?_
                      refine y_nameI (fun I391 e391 => ?_)
                      have hR1 := (hR0.grow hX).mod0 e391 (by decide) (by decide)
                      have hK := (hK.x hRo hno hX).upI (upI e391) (by decide) (by decide) (fun i hi => by have := (hRo.l87.2.2.2.2 i hi).2.1; omega) (by rw [e391, upd2_ne (.inr (by decide))]; exact Int.le_refl _)
                      have hth : I391 83 0 = Int32.ofInt (3) := by rw [e391, upd2_self]
                      have hzz : ySz8 I330 I391 := ySz8_of (upI e391) (by rw [e391]; exact ⟨upd2_ne (.inr (by decide)), upd2_ne (.inr (by decide))⟩)
                      have hB := (hB.trans hX).wr e391 rfl
                      have h8 : ∀ a, 84 ≤ a → a ≤ 86 → I391 a = I a := fun a h1 h2 => (upI e391 a (by omega)).trans ((hX.2.1 a (by omega)).2.1.trans (h8 a h1 h2))
                      have h3k : ∀ k, k ≠ 0 → I391 83 k = I 83 k := fun k hk => (congrFun (congrFun e391 83) k).trans ((upd2_ne (.inr hk)).trans ((congrFun (hX.2.1 83 (by omega)).2.1 k).trans (h3k k hk)))
                      have hg := (hg.gx hX (by omega)).skip e391 (by decide)
                      have hday : I391 83 1 = I 83 1 := (congrFun (congrFun e391 83) 1).trans ((upd2_ne (.inr (by decide))).trans ((congrFun (hX.2.1 83 (by omega)).2.1 1).trans hday))
                      have hRb : ∀ a, a < n → R a = R a := fun a ha => (hX.2.1 a (by omega)).2.2.trans (hRb a ha)
                      have hb83 : ∀ a, a ≠ 83 → a < n → I391 a = I a := fun a ha hb => (upI e391 a ha).trans ((hX.2.1 a (by omega)).2.1.trans (hb83 a ha hb))
                      have hS0 := hS
                      have hR0 := hR1
                      have ht_b337 := (hX.2.1 _ hb_b337).1.trans ht_b337
                      have hb_b337 := Nat.lt_of_lt_of_le hb_b337 hX.1
                      have hb0_b337 := hb_b337
                      have ht_v388 := (hX.2.1 _ hb_v388).1.trans ht_v388
                      have hb_v388 := Nat.lt_of_lt_of_le hb_v388 hX.1
                      have hb0_v388 := hb_v388
                      have hn := Nat.le_refl n
                      have h94 := hS0.1
                      have hX := @yX.rf n tg I391 R
                      have hS := hS0.x hX
                      have hR := hR0.x hn hX
                      have hz := hX.sz h94
                      have hxn := hX.1
                      have hN := hR0.1
                      have hnb := hR0.2.2.2.2.2.2
                      have hthB := hth
                      refine y_aload_n rfl rfl ?_
                      refine y_getIv (v := Int32.ofInt (3)) rfl (ySh.t hS rfl) (ySh.n hS rfl) rfl rfl hth ?_
                      refine y_if_leF rfl (by decide) ?_
                      refine y_iconst rfl ?_
                      refine y_goto rfl j_X14_refuse_28 ?_
                      refine y_ireturn rfl rfl rfl ?_
                      refine y_ret1 ?_
                      refine y_if_eqF rfl (by decide) ?_
                      refine y_iconst rfl ?_
                      refine y_ireturn rfl rfl rfl ?_
                      exact hQ3 _ eb_b337 (by first | omega | (simp only [show ySeat x2 = x2 from if_neg (by omega), show ySeat x3 = x3 from if_neg (by omega)]; omega) | (simp only [show ySeat x2 = x2 from if_neg (by omega), show ySeat x3 = Int32.ofInt 8 from if_pos (by omega), show (Int32.ofInt 8).toInt.toNat = 8 from by decide]; omega) | (simp only [show ySeat x2 = Int32.ofInt 8 from if_pos (by omega), show ySeat x3 = x3 from if_neg (by omega), show (Int32.ofInt 8).toInt.toNat = 8 from by decide]; omega) | (simp only [show ySeat x2 = Int32.ofInt 8 from if_pos (by omega), show ySeat x3 = Int32.ofInt 8 from if_pos (by omega), show (Int32.ofInt 8).toInt.toNat = 8 from by decide]; omega)) _ _ _ _ _ _ _ hS ((hR0.grow hX).up (Nat.le_succ K) hk6) (hK.x hRo hno hX) hth ((hB.trans hX).rf2 (by omega)) (by omega) (by omega)
                    · refine y_aload rfl rfl ?_
                      obtain ⟨hR_v392, hb_v392, ht_v392⟩ := hR0.ven hlo_b337 hb0_b337 ht_b337 (j := 0) (by decide)
                      have hb0_v392 := hb_v392
                      have hb_v392 := Nat.lt_of_lt_of_le hb_v392 hn
                      have hlo_v392 : 94 ≤ b337 + 1 + 0 := by omega
                      have hR2_v392 := (congrFun (hX.2.1 b337 hb_b337).2.2 0).trans hR_v392
                      refine y_getR rfl ((hX.2.1 _ hb_b337).1.trans ht_b337) (Nat.lt_of_lt_of_le hb_b337 hX.1) rfl rfl hR2_v392 ?_
                      refine y_iload rfl rfl ?_
                      refine y_baloadv (J := I (b337 + 1 + 0)) rfl ((hX.2.1 _ hb_v392).1.trans ht_v392) rfl (Nat.lt_of_lt_of_le hb_v392 hX.1) (by omega) (by omega) (((hB.trans hX).n (by omega)).trans (by repeat (first | rfl | (rw [upd2_row (by first | decide | omega)]) | refine upd2_cg ?_))) ?_
                      refine y_if_eq rfl j_X14_buyOut_142 (fun h_393 => ?_) (fun h_394 => ?_)
                      · refine y_iconst rfl ?_
                        refine y_goto rfl j_X14_buyOut_147 ?_
                        refine y_iconst rfl ?_
                        refine y_virt rfl rfl rfl rfl rfl (ySh.t hS rfl) (ySh.n hS rfl) ?_
                        refine y_in (M := xm_X14_refuse) (ls := [some _, some _, some _]) rfl rfl rfl ?_
                        refine y_iload_n rfl rfl ?_
                        refine y_if_eqF rfl (by decide) ?_
                        refine y_aload_n rfl rfl ?_
                        refine y_getIv (v := Int32.ofInt (0)) rfl (ySh.t hS rfl) (ySh.n hS rfl) rfl rfl hth ?_
                        refine y_if_neF rfl (by decide) ?_
                        refine y_aload_n rfl rfl ?_
                        refine y_iload_n rfl rfl ?_
                        refine y_putI rfl (ySh.t hS rfl) (ySh.n hS rfl) rfl (Nat.le_of_ble_eq_true rfl) rfl rfl ?_
                        refine y_nameI (fun I395 e395 => ?_)
                        have hR1 := (hR0.grow hX).mod0 e395 (by decide) (by decide)
                        have hK := (hK.x hRo hno hX).upI (upI e395) (by decide) (by decide) (fun i hi => by have := (hRo.l87.2.2.2.2 i hi).2.1; omega) (by rw [e395, upd2_ne (.inr (by decide))]; exact Int.le_refl _)
                        have hth : I395 83 0 = Int32.ofInt (3) := by rw [e395, upd2_self]
                        have hzz : ySz8 I330 I395 := ySz8_of (upI e395) (by rw [e395]; exact ⟨upd2_ne (.inr (by decide)), upd2_ne (.inr (by decide))⟩)
                        have hB := (hB.trans hX).wr e395 rfl
                        have h8 : ∀ a, 84 ≤ a → a ≤ 86 → I395 a = I a := fun a h1 h2 => (upI e395 a (by omega)).trans ((hX.2.1 a (by omega)).2.1.trans (h8 a h1 h2))
                        have h3k : ∀ k, k ≠ 0 → I395 83 k = I 83 k := fun k hk => (congrFun (congrFun e395 83) k).trans ((upd2_ne (.inr hk)).trans ((congrFun (hX.2.1 83 (by omega)).2.1 k).trans (h3k k hk)))
                        have hg := (hg.gx hX (by omega)).skip e395 (by decide)
                        have hday : I395 83 1 = I 83 1 := (congrFun (congrFun e395 83) 1).trans ((upd2_ne (.inr (by decide))).trans ((congrFun (hX.2.1 83 (by omega)).2.1 1).trans hday))
                        have hRb : ∀ a, a < n → R a = R a := fun a ha => (hX.2.1 a (by omega)).2.2.trans (hRb a ha)
                        have hb83 : ∀ a, a ≠ 83 → a < n → I395 a = I a := fun a ha hb => (upI e395 a ha).trans ((hX.2.1 a (by omega)).2.1.trans (hb83 a ha hb))
                        have hS0 := hS
                        have hR0 := hR1
                        have ht_b337 := (hX.2.1 _ hb_b337).1.trans ht_b337
                        have hb_b337 := Nat.lt_of_lt_of_le hb_b337 hX.1
                        have hb0_b337 := hb_b337
                        have ht_v388 := (hX.2.1 _ hb_v388).1.trans ht_v388
                        have hb_v388 := Nat.lt_of_lt_of_le hb_v388 hX.1
                        have hb0_v388 := hb_v388
                        have ht_v392 := (hX.2.1 _ hb_v392).1.trans ht_v392
                        have hb_v392 := Nat.lt_of_lt_of_le hb_v392 hX.1
                        have hb0_v392 := hb_v392
                        have hn := Nat.le_refl n
                        have h94 := hS0.1
                        have hX := @yX.rf n tg I395 R
                        have hS := hS0.x hX
                        have hR := hR0.x hn hX
                        have hz := hX.sz h94
                        have hxn := hX.1
                        have hN := hR0.1
                        have hnb := hR0.2.2.2.2.2.2
                        have hthB := hth
                        refine y_aload_n rfl rfl ?_
                        refine y_getIv (v := Int32.ofInt (3)) rfl (ySh.t hS rfl) (ySh.n hS rfl) rfl rfl hth ?_
                        refine y_if_leF rfl (by decide) ?_
                        refine y_iconst rfl ?_
                        refine y_goto rfl j_X14_refuse_28 ?_
                        refine y_ireturn rfl rfl rfl ?_
                        refine y_ret1 ?_
                        refine y_if_eqF rfl (by decide) ?_
                        refine y_iconst rfl ?_
                        refine y_ireturn rfl rfl rfl ?_
                        exact hQ3 _ eb_b337 (by first | omega | (simp only [show ySeat x2 = x2 from if_neg (by omega), show ySeat x3 = x3 from if_neg (by omega)]; omega) | (simp only [show ySeat x2 = x2 from if_neg (by omega), show ySeat x3 = Int32.ofInt 8 from if_pos (by omega), show (Int32.ofInt 8).toInt.toNat = 8 from by decide]; omega) | (simp only [show ySeat x2 = Int32.ofInt 8 from if_pos (by omega), show ySeat x3 = x3 from if_neg (by omega), show (Int32.ofInt 8).toInt.toNat = 8 from by decide]; omega) | (simp only [show ySeat x2 = Int32.ofInt 8 from if_pos (by omega), show ySeat x3 = Int32.ofInt 8 from if_pos (by omega), show (Int32.ofInt 8).toInt.toNat = 8 from by decide]; omega)) _ _ _ _ _ _ _ hS ((hR0.grow hX).up (Nat.le_succ K) hk6) (hK.x hRo hno hX) hth ((hB.trans hX).rf2 (by omega)) (by omega) (by omega)
                      · refine y_aload rfl rfl ?_
                        obtain ⟨hR_v396, hb_v396, ht_v396⟩ := hR0.ven hlo_b337 hb0_b337 ht_b337 (j := 1) (by decide)
                        have hb0_v396 := hb_v396
                        have hb_v396 := Nat.lt_of_lt_of_le hb_v396 hn
                        have hlo_v396 : 94 ≤ b337 + 1 + 1 := by omega
                        have hR2_v396 := (congrFun (hX.2.1 b337 hb_b337).2.2 1).trans hR_v396
                        refine y_getR rfl ((hX.2.1 _ hb_b337).1.trans ht_b337) (Nat.lt_of_lt_of_le hb_b337 hX.1) rfl rfl hR2_v396 ?_
                        refine y_iload rfl rfl ?_
                        refine y_ialoadw (j := 8) (J := I (b337 + 1 + 1)) rfl ((hX.2.1 _ hb_v396).1.trans ht_v396) (Nat.lt_of_lt_of_le hb_v396 hX.1) (by decide) (by decide) rfl (((hB.trans hX).n (by omega)).trans (by repeat (first | rfl | (rw [upd2_row (by first | decide | omega)]) | refine upd2_cg ?_))) ?_
                        refine y_iload rfl rfl ?_
                        refine y_icmp_lt rfl j_X14_buyOut_142 (fun h_397 => ?_) (fun h_398 => ?_)
                        · refine y_iconst rfl ?_
                          refine y_goto rfl j_X14_buyOut_147 ?_
                          refine y_iconst rfl ?_
                          refine y_virt rfl rfl rfl rfl rfl (ySh.t hS rfl) (ySh.n hS rfl) ?_
                          refine y_in (M := xm_X14_refuse) (ls := [some _, some _, some _]) rfl rfl rfl ?_
                          refine y_iload_n rfl rfl ?_
                          refine y_if_eqF rfl (by decide) ?_
                          refine y_aload_n rfl rfl ?_
                          refine y_getIv (v := Int32.ofInt (0)) rfl (ySh.t hS rfl) (ySh.n hS rfl) rfl rfl hth ?_
                          refine y_if_neF rfl (by decide) ?_
                          refine y_aload_n rfl rfl ?_
                          refine y_iload_n rfl rfl ?_
                          refine y_putI rfl (ySh.t hS rfl) (ySh.n hS rfl) rfl (Nat.le_of_ble_eq_true rfl) rfl rfl ?_
                          refine y_nameI (fun I399 e399 => ?_)
                          have hR1 := (hR0.grow hX).mod0 e399 (by decide) (by decide)
                          have hK := (hK.x hRo hno hX).upI (upI e399) (by decide) (by decide) (fun i hi => by have := (hRo.l87.2.2.2.2 i hi).2.1; omega) (by rw [e399, upd2_ne (.inr (by decide))]; exact Int.le_refl _)
                          have hth : I399 83 0 = Int32.ofInt (3) := by rw [e399, upd2_self]
                          have hzz : ySz8 I330 I399 := ySz8_of (upI e399) (by rw [e399]; exact ⟨upd2_ne (.inr (by decide)), upd2_ne (.inr (by decide))⟩)
                          have hB := (hB.trans hX).wr e399 rfl
                          have h8 : ∀ a, 84 ≤ a → a ≤ 86 → I399 a = I a := fun a h1 h2 => (upI e399 a (by omega)).trans ((hX.2.1 a (by omega)).2.1.trans (h8 a h1 h2))
                          have h3k : ∀ k, k ≠ 0 → I399 83 k = I 83 k := fun k hk => (congrFun (congrFun e399 83) k).trans ((upd2_ne (.inr hk)).trans ((congrFun (hX.2.1 83 (by omega)).2.1 k).trans (h3k k hk)))
                          have hg := (hg.gx hX (by omega)).skip e399 (by decide)
                          have hday : I399 83 1 = I 83 1 := (congrFun (congrFun e399 83) 1).trans ((upd2_ne (.inr (by decide))).trans ((congrFun (hX.2.1 83 (by omega)).2.1 1).trans hday))
                          have hRb : ∀ a, a < n → R a = R a := fun a ha => (hX.2.1 a (by omega)).2.2.trans (hRb a ha)
                          have hb83 : ∀ a, a ≠ 83 → a < n → I399 a = I a := fun a ha hb => (upI e399 a ha).trans ((hX.2.1 a (by omega)).2.1.trans (hb83 a ha hb))
                          have hS0 := hS
                          have hR0 := hR1
                          have ht_b337 := (hX.2.1 _ hb_b337).1.trans ht_b337
                          have hb_b337 := Nat.lt_of_lt_of_le hb_b337 hX.1
                          have hb0_b337 := hb_b337
                          have ht_v388 := (hX.2.1 _ hb_v388).1.trans ht_v388
                          have hb_v388 := Nat.lt_of_lt_of_le hb_v388 hX.1
                          have hb0_v388 := hb_v388
                          have ht_v392 := (hX.2.1 _ hb_v392).1.trans ht_v392
                          have hb_v392 := Nat.lt_of_lt_of_le hb_v392 hX.1
                          have hb0_v392 := hb_v392
                          have ht_v396 := (hX.2.1 _ hb_v396).1.trans ht_v396
                          have hb_v396 := Nat.lt_of_lt_of_le hb_v396 hX.1
                          have hb0_v396 := hb_v396
                          have hn := Nat.le_refl n
                          have h94 := hS0.1
                          have hX := @yX.rf n tg I399 R
                          have hS := hS0.x hX
                          have hR := hR0.x hn hX
                          have hz := hX.sz h94
                          have hxn := hX.1
                          have hN := hR0.1
                          have hnb := hR0.2.2.2.2.2.2
                          have hthB := hth
                          refine y_aload_n rfl rfl ?_
                          refine y_getIv (v := Int32.ofInt (3)) rfl (ySh.t hS rfl) (ySh.n hS rfl) rfl rfl hth ?_
                          refine y_if_leF rfl (by decide) ?_
                          refine y_iconst rfl ?_
                          refine y_goto rfl j_X14_refuse_28 ?_
                          refine y_ireturn rfl rfl rfl ?_
                          refine y_ret1 ?_
                          refine y_if_eqF rfl (by decide) ?_
                          refine y_iconst rfl ?_
                          refine y_ireturn rfl rfl rfl ?_
                          exact hQ3 _ eb_b337 (by first | omega | (simp only [show ySeat x2 = x2 from if_neg (by omega), show ySeat x3 = x3 from if_neg (by omega)]; omega) | (simp only [show ySeat x2 = x2 from if_neg (by omega), show ySeat x3 = Int32.ofInt 8 from if_pos (by omega), show (Int32.ofInt 8).toInt.toNat = 8 from by decide]; omega) | (simp only [show ySeat x2 = Int32.ofInt 8 from if_pos (by omega), show ySeat x3 = x3 from if_neg (by omega), show (Int32.ofInt 8).toInt.toNat = 8 from by decide]; omega) | (simp only [show ySeat x2 = Int32.ofInt 8 from if_pos (by omega), show ySeat x3 = Int32.ofInt 8 from if_pos (by omega), show (Int32.ofInt 8).toInt.toNat = 8 from by decide]; omega)) _ _ _ _ _ _ _ hS ((hR0.grow hX).up (Nat.le_succ K) hk6) (hK.x hRo hno hX) hth ((hB.trans hX).rf2 (by omega)) (by omega) (by omega)
                        · refine y_aload_n rfl rfl ?_
                          refine y_getR rfl (ySh.t hS rfl) (ySh.n hS rfl) rfl rfl (ySh.r hS rfl) ?_
                          refine y_iload rfl rfl ?_
                          refine y_ialoadv (J := I 84) rfl (ySh.t hS rfl) (ySh.n hS rfl) (by omega) (by omega) (((hB.trans hX).n (by omega)).trans (by repeat (first | rfl | (rw [upd2_row (by first | decide | omega)]) | refine upd2_cg ?_))) ?_
                          refine y_iload rfl rfl ?_
                          refine y_icmp_ge rfl j_X14_buyOut_146 (fun h_400 => ?_) (fun h_401 => ?_)
                          · refine y_iconst rfl ?_
                            refine y_iconst rfl ?_
                            refine y_virt rfl rfl rfl rfl rfl (ySh.t hS rfl) (ySh.n hS rfl) ?_
                            refine y_in (M := xm_X14_refuse) (ls := [some _, some _, some _]) rfl rfl rfl ?_
                            refine y_iload_n rfl rfl ?_
                            refine y_if_eqT rfl j_X14_refuse_16 (by decide) ?_
                            refine y_aload_n rfl rfl ?_
                            refine y_getIv (v := Int32.ofInt (0)) rfl (ySh.t hS rfl) (ySh.n hS rfl) rfl rfl hth ?_
                            refine y_if_leT rfl j_X14_refuse_27 (by decide) ?_
                            refine y_iconst rfl ?_
                            refine y_ireturn rfl rfl rfl ?_
                            refine y_ret1 ?_
                            refine y_if_eqT rfl j_X14_buyOut_156 (by decide) ?_
                            refine y_aload rfl rfl ?_
                            obtain ⟨hR_v402, hb_v402, ht_v402⟩ := hR0.ven hlo_b337 hb0_b337 ht_b337 (j := 1) (by decide)
                            have hb0_v402 := hb_v402
                            have hb_v402 := Nat.lt_of_lt_of_le hb_v402 hn
                            have hlo_v402 : 94 ≤ b337 + 1 + 1 := by omega
                            have hR2_v402 := (congrFun (hX.2.1 b337 hb_b337).2.2 1).trans hR_v402
                            refine y_getR rfl ((hX.2.1 _ hb_b337).1.trans ht_b337) (Nat.lt_of_lt_of_le hb_b337 hX.1) rfl rfl hR2_v402 ?_
                            refine y_iload rfl rfl ?_
                            refine y_dup2 rfl rfl rfl ?_
                            refine y_ialoadw (j := 8) (J := I (b337 + 1 + 1)) rfl ((hX.2.1 _ hb_v402).1.trans ht_v402) (Nat.lt_of_lt_of_le hb_v402 hX.1) (by decide) (by decide) rfl (((hB.trans hX).n (by omega)).trans (by repeat (first | rfl | (rw [upd2_row (by first | decide | omega)]) | refine upd2_cg ?_))) ?_
                            refine y_iload rfl rfl ?_
                            refine y_isub rfl ?_
                            refine y_iastoreC (j := 8) rfl ((hX.2.1 _ hb_v402).1.trans ht_v402) (Nat.lt_of_lt_of_le hb_v402 hX.1) (Nat.le_trans (by decide) (by omega : 94 ≤ _)) (by decide) (by decide) rfl ?_
                            refine y_nameI (fun I403 e403 => ?_)
                            have hB1 := (hR0.grow hX).capB1x hlo_b337 (by omega) ((hX.2.1 _ hb_b337).1.trans ht_b337) (by omega) e403 (by rw [show I330 (b337 + 1 + 1) = I (b337 + 1 + 1) from ((hB.trans hX).n (by omega)).trans (by repeat (first | rfl | (rw [upd2_row (by first | decide | omega)]) | refine upd2_cg ?_))]) ⟨by omega, by rw [show I330 (b337 + 1 + 1) = I (b337 + 1 + 1) from ((hB.trans hX).n (by omega)).trans (by repeat (first | rfl | (rw [upd2_row (by first | decide | omega)]) | refine upd2_cg ?_))]; omega⟩
                            have hR1 := hB1.1
                            have hK := (hK.x hRo hno hX).upE hRo hno (upI e403) (by omega) (by omega) (by rw [((hX.2.1 _ hb_v402).1.trans ht_v402)]; decide) (by rw [e403, upd2_ne (.inl (by omega))]; exact Int.le_refl _)
                            have hth := (show I403 83 0 = I330 83 0 by rw [e403, upd2_ne (.inl (by omega))]).trans hth
                            have hzz : ySz I330 I403 := ySz_ofE (upI e403) (by omega)
                            have hB := (hB.trans hX).wr e403 rfl
                            have h8 : ∀ a, 84 ≤ a → a ≤ 86 → I403 a = I a := fun a h1 h2 => (upI e403 a (by omega)).trans ((hX.2.1 a (by omega)).2.1.trans (h8 a h1 h2))
                            have h3k : ∀ k, k ≠ 0 → I403 83 k = I 83 k := fun k hk => (congrFun (congrFun e403 83) k).trans ((upd2_ne (.inl (by omega))).trans ((congrFun (hX.2.1 83 (by omega)).2.1 k).trans (h3k k hk)))
                            have hg := (hg.gx hX (by omega)).both e403
                            have hday : I403 83 1 = I 83 1 := (congrFun (congrFun e403 83) 1).trans ((upd2_ne (.inl (by omega))).trans ((congrFun (hX.2.1 83 (by omega)).2.1 1).trans hday))
                            have hRb : ∀ a, a < n → R a = R a := fun a ha => (hX.2.1 a (by omega)).2.2.trans (hRb a ha)
                            have hS0 := hS
                            have hR0 := hR1
                            have ht_b337 := (hX.2.1 _ hb_b337).1.trans ht_b337
                            have hb_b337 := Nat.lt_of_lt_of_le hb_b337 hX.1
                            have hb0_b337 := hb_b337
                            have ht_v388 := (hX.2.1 _ hb_v388).1.trans ht_v388
                            have hb_v388 := Nat.lt_of_lt_of_le hb_v388 hX.1
                            have hb0_v388 := hb_v388
                            have ht_v392 := (hX.2.1 _ hb_v392).1.trans ht_v392
                            have hb_v392 := Nat.lt_of_lt_of_le hb_v392 hX.1
                            have hb0_v392 := hb_v392
                            have ht_v396 := (hX.2.1 _ hb_v396).1.trans ht_v396
                            have hb_v396 := Nat.lt_of_lt_of_le hb_v396 hX.1
                            have hb0_v396 := hb_v396
                            have ht_v402 := (hX.2.1 _ hb_v402).1.trans ht_v402
                            have hb_v402 := Nat.lt_of_lt_of_le hb_v402 hX.1
                            have hb0_v402 := hb_v402
                            have hn := Nat.le_refl n
                            have h94 := hS0.1
                            have hX := @yX.rf n tg I403 R
                            have hS := hS0.x hX
                            have hR := hR0.x hn hX
                            have hz := hX.sz h94
                            have hxn := hX.1
                            have hN := hR0.1
                            have hnb := hR0.2.2.2.2.2.2
                            have hthB := hth
                            refine y_aload rfl rfl ?_
                            obtain ⟨hR_v404, hb_v404, ht_v404⟩ := hR0.ven hlo_b337 hb0_b337 ht_b337 (j := 1) (by decide)
                            have hb0_v404 := hb_v404
                            have hb_v404 := Nat.lt_of_lt_of_le hb_v404 hn
                            have hlo_v404 : 94 ≤ b337 + 1 + 1 := by omega
                            have hR2_v404 := (congrFun (hX.2.1 b337 hb_b337).2.2 1).trans hR_v404
                            refine y_getR rfl ((hX.2.1 _ hb_b337).1.trans ht_b337) (Nat.lt_of_lt_of_le hb_b337 hX.1) rfl rfl hR2_v404 ?_
                            refine y_iload rfl rfl ?_
                            refine y_dup2 rfl rfl rfl ?_
                            refine y_ialoadv (J := _) rfl ((hX.2.1 _ hb_v404).1.trans ht_v404) (Nat.lt_of_lt_of_le hb_v404 hX.1) (by omega) (by omega) ((hB.trans hX).n (by omega)) ?_
                            refine y_iload rfl rfl ?_
                            refine y_iadd rfl ?_
                            refine y_iastore rfl ((hX.2.1 _ hb_v404).1.trans ht_v404) (Nat.lt_of_lt_of_le hb_v404 hX.1) (Nat.le_trans (by decide) (by omega : 94 ≤ _)) (by omega) (by omega) ?_
                            refine y_nameI (fun I405 e405 => ?_)
                            have hR1 := (hR0.grow hX).capB2x hlo_b337 (by omega) ((hX.2.1 _ hb_b337).1.trans ht_b337) (by omega) (by omega) hB1.2.1 e405 (by rw [show I403 (b337 + 1 + 1) = _ from ((hB.trans hX).n (by omega))])
                            have hK := (hK.x hRo hno hX).upE hRo hno (upI e405) (by omega) (by omega) (by rw [((hX.2.1 _ hb_v404).1.trans ht_v404)]; decide) (by rw [e405, upd2_ne (.inl (by omega))]; exact Int.le_refl _)
                            have hth := (show I405 83 0 = I403 83 0 by rw [e405, upd2_ne (.inl (by omega))]).trans hth
                            have hzz : ySz I403 I405 := ySz_ofE (upI e405) (by omega)
                            have hB := (hB.trans hX).wr e405 rfl
                            have h8 : ∀ a, 84 ≤ a → a ≤ 86 → I405 a = I a := fun a h1 h2 => (upI e405 a (by omega)).trans ((hX.2.1 a (by omega)).2.1.trans (h8 a h1 h2))
                            have h3k : ∀ k, k ≠ 0 → I405 83 k = I 83 k := fun k hk => (congrFun (congrFun e405 83) k).trans ((upd2_ne (.inl (by omega))).trans ((congrFun (hX.2.1 83 (by omega)).2.1 k).trans (h3k k hk)))
                            have hg := (hg.gx hX (by omega)).both e405
                            have hday : I405 83 1 = I 83 1 := (congrFun (congrFun e405 83) 1).trans ((upd2_ne (.inl (by omega))).trans ((congrFun (hX.2.1 83 (by omega)).2.1 1).trans hday))
                            have hRb : ∀ a, a < n → R a = R a := fun a ha => (hX.2.1 a (by omega)).2.2.trans (hRb a ha)
                            have hS0 := hS
                            have hR0 := hR1
                            have ht_b337 := (hX.2.1 _ hb_b337).1.trans ht_b337
                            have hb_b337 := Nat.lt_of_lt_of_le hb_b337 hX.1
                            have hb0_b337 := hb_b337
                            have ht_v388 := (hX.2.1 _ hb_v388).1.trans ht_v388
                            have hb_v388 := Nat.lt_of_lt_of_le hb_v388 hX.1
                            have hb0_v388 := hb_v388
                            have ht_v392 := (hX.2.1 _ hb_v392).1.trans ht_v392
                            have hb_v392 := Nat.lt_of_lt_of_le hb_v392 hX.1
                            have hb0_v392 := hb_v392
                            have ht_v396 := (hX.2.1 _ hb_v396).1.trans ht_v396
                            have hb_v396 := Nat.lt_of_lt_of_le hb_v396 hX.1
                            have hb0_v396 := hb_v396
                            have ht_v402 := (hX.2.1 _ hb_v402).1.trans ht_v402
                            have hb_v402 := Nat.lt_of_lt_of_le hb_v402 hX.1
                            have hb0_v402 := hb_v402
                            have ht_v404 := (hX.2.1 _ hb_v404).1.trans ht_v404
                            have hb_v404 := Nat.lt_of_lt_of_le hb_v404 hX.1
                            have hb0_v404 := hb_v404
                            have hn := Nat.le_refl n
                            have h94 := hS0.1
                            have hX := @yX.rf n tg I405 R
                            have hS := hS0.x hX
                            have hR := hR0.x hn hX
                            have hz := hX.sz h94
                            have hxn := hX.1
                            have hN := hR0.1
                            have hnb := hR0.2.2.2.2.2.2
                            have hthB := hth
                            refine y_aload_n rfl rfl ?_
                            refine y_getR rfl (ySh.t hS rfl) (ySh.n hS rfl) rfl rfl (ySh.r hS rfl) ?_
                            refine y_iload rfl rfl ?_
                            refine y_dup2 rfl rfl rfl ?_
                            refine y_ialoadw (j := 8) (J := I 84) rfl (ySh.t hS rfl) (ySh.n hS rfl) (by decide) (by decide) rfl (((hB.trans hX).n (by omega)).trans (by repeat (first | rfl | (rw [upd2_row (by first | decide | omega)]) | refine upd2_cg ?_))) ?_
                            refine y_iload rfl rfl ?_
                            refine y_iadd rfl ?_
                            refine y_iastoreC (j := 8) rfl (ySh.t hS rfl) (ySh.n hS rfl) (Nat.le_of_ble_eq_true rfl) (by decide) (by decide) rfl ?_
                            refine y_nameI (fun I406 e406 => ?_)
                            have hR1 := (hR0.grow hX).arr e406 (by decide)
                            have hK := (hK.x hRo hno hX).upI (upI e406) (by decide) (by decide) (fun i hi => by have := (hRo.l87.2.2.2.2 i hi).2.1; omega) (by rw [e406, upd2_ne (.inl (by omega))]; exact Int.le_refl _)
                            have hth := (show I406 83 0 = I405 83 0 by rw [e406, upd2_ne (.inl (by omega))]).trans hth
                            have hzz : ySz I405 I406 := ySz_ofE (upI e406) (by omega)
                            have hB := (hB.trans hX).wr e406 rfl
                            have h3k : ∀ k, k ≠ 0 → I406 83 k = I 83 k := fun k hk => (congrFun (congrFun e406 83) k).trans ((upd2_ne (.inl (by omega))).trans ((congrFun (hX.2.1 83 (by omega)).2.1 k).trans (h3k k hk)))
                            have hg := (hg.gx hX (by omega)).skip e406 (by decide)
                            have hday : I406 83 1 = I 83 1 := (congrFun (congrFun e406 83) 1).trans ((upd2_ne (.inl (by omega))).trans ((congrFun (hX.2.1 83 (by omega)).2.1 1).trans hday))
                            have hRb : ∀ a, a < n → R a = R a := fun a ha => (hX.2.1 a (by omega)).2.2.trans (hRb a ha)
                            have hS0 := hS
                            have hR0 := hR1
                            have ht_b337 := (hX.2.1 _ hb_b337).1.trans ht_b337
                            have hb_b337 := Nat.lt_of_lt_of_le hb_b337 hX.1
                            have hb0_b337 := hb_b337
                            have ht_v388 := (hX.2.1 _ hb_v388).1.trans ht_v388
                            have hb_v388 := Nat.lt_of_lt_of_le hb_v388 hX.1
                            have hb0_v388 := hb_v388
                            have ht_v392 := (hX.2.1 _ hb_v392).1.trans ht_v392
                            have hb_v392 := Nat.lt_of_lt_of_le hb_v392 hX.1
                            have hb0_v392 := hb_v392
                            have ht_v396 := (hX.2.1 _ hb_v396).1.trans ht_v396
                            have hb_v396 := Nat.lt_of_lt_of_le hb_v396 hX.1
                            have hb0_v396 := hb_v396
                            have ht_v402 := (hX.2.1 _ hb_v402).1.trans ht_v402
                            have hb_v402 := Nat.lt_of_lt_of_le hb_v402 hX.1
                            have hb0_v402 := hb_v402
                            have ht_v404 := (hX.2.1 _ hb_v404).1.trans ht_v404
                            have hb_v404 := Nat.lt_of_lt_of_le hb_v404 hX.1
                            have hb0_v404 := hb_v404
                            have hn := Nat.le_refl n
                            have h94 := hS0.1
                            have hX := @yX.rf n tg I406 R
                            have hS := hS0.x hX
                            have hR := hR0.x hn hX
                            have hz := hX.sz h94
                            have hxn := hX.1
                            have hN := hR0.1
                            have hnb := hR0.2.2.2.2.2.2
                            have hthB := hth
                            refine y_aload_n rfl rfl ?_
                            refine y_getR rfl (ySh.t hS rfl) (ySh.n hS rfl) rfl rfl (ySh.r hS rfl) ?_
                            refine y_iload rfl rfl ?_
                            refine y_dup2 rfl rfl rfl ?_
                            refine y_ialoadv (J := _) rfl (ySh.t hS rfl) (ySh.n hS rfl) (by omega) (by omega) ((hB.trans hX).n (by omega)) ?_
                            refine y_iload rfl rfl ?_
                            refine y_isub rfl ?_
                            refine y_iastore rfl (ySh.t hS rfl) (ySh.n hS rfl) (Nat.le_of_ble_eq_true rfl) (by omega) (by omega) ?_
                            refine y_nameI (fun I407 e407 => ?_)
                            have hR1 := (hR0.grow hX).arr e407 (by decide)
                            have hK := (hK.x hRo hno hX).upI (upI e407) (by decide) (by decide) (fun i hi => by have := (hRo.l87.2.2.2.2 i hi).2.1; omega) (by rw [e407, upd2_ne (.inl (by omega))]; exact Int.le_refl _)
                            have hth := (show I407 83 0 = I406 83 0 by rw [e407, upd2_ne (.inl (by omega))]).trans hth
                            have hzz : ySz I406 I407 := ySz_ofE (upI e407) (by omega)
                            have hB := (hB.trans hX).wr e407 rfl
                            have h3k : ∀ k, k ≠ 0 → I407 83 k = I 83 k := fun k hk => (congrFun (congrFun e407 83) k).trans ((upd2_ne (.inl (by omega))).trans ((congrFun (hX.2.1 83 (by omega)).2.1 k).trans (h3k k hk)))
                            have hg := (hg.gx hX (by omega)).skip e407 (by decide)
                            have hday : I407 83 1 = I 83 1 := (congrFun (congrFun e407 83) 1).trans ((upd2_ne (.inl (by omega))).trans ((congrFun (hX.2.1 83 (by omega)).2.1 1).trans hday))
                            have hRb : ∀ a, a < n → R a = R a := fun a ha => (hX.2.1 a (by omega)).2.2.trans (hRb a ha)
                            have hS0 := hS
                            have hR0 := hR1
                            have ht_b337 := (hX.2.1 _ hb_b337).1.trans ht_b337
                            have hb_b337 := Nat.lt_of_lt_of_le hb_b337 hX.1
                            have hb0_b337 := hb_b337
                            have ht_v388 := (hX.2.1 _ hb_v388).1.trans ht_v388
                            have hb_v388 := Nat.lt_of_lt_of_le hb_v388 hX.1
                            have hb0_v388 := hb_v388
                            have ht_v392 := (hX.2.1 _ hb_v392).1.trans ht_v392
                            have hb_v392 := Nat.lt_of_lt_of_le hb_v392 hX.1
                            have hb0_v392 := hb_v392
                            have ht_v396 := (hX.2.1 _ hb_v396).1.trans ht_v396
                            have hb_v396 := Nat.lt_of_lt_of_le hb_v396 hX.1
                            have hb0_v396 := hb_v396
                            have ht_v402 := (hX.2.1 _ hb_v402).1.trans ht_v402
                            have hb_v402 := Nat.lt_of_lt_of_le hb_v402 hX.1
                            have hb0_v402 := hb_v402
                            have ht_v404 := (hX.2.1 _ hb_v404).1.trans ht_v404
                            have hb_v404 := Nat.lt_of_lt_of_le hb_v404 hX.1
                            have hb0_v404 := hb_v404
                            have hn := Nat.le_refl n
                            have h94 := hS0.1
                            have hX := @yX.rf n tg I407 R
                            have hS := hS0.x hX
                            have hR := hR0.x hn hX
                            have hz := hX.sz h94
                            have hxn := hX.1
                            have hN := hR0.1
                            have hnb := hR0.2.2.2.2.2.2
                            have hthB := hth
                            refine y_aload rfl rfl ?_
                            obtain ⟨hR_v408, hb_v408, ht_v408⟩ := hR0.ven hlo_b337 hb0_b337 ht_b337 (j := 1) (by decide)
                            have hb0_v408 := hb_v408
                            have hb_v408 := Nat.lt_of_lt_of_le hb_v408 hn
                            have hlo_v408 : 94 ≤ b337 + 1 + 1 := by omega
                            have hR2_v408 := (congrFun (hX.2.1 b337 hb_b337).2.2 1).trans hR_v408
                            refine y_getR rfl ((hX.2.1 _ hb_b337).1.trans ht_b337) (Nat.lt_of_lt_of_le hb_b337 hX.1) rfl rfl hR2_v408 ?_
                            refine y_iload rfl rfl ?_
                            refine y_ialoadw (j := 8) (J := _) rfl ((hX.2.1 _ hb_v408).1.trans ht_v408) (Nat.lt_of_lt_of_le hb_v408 hX.1) (by decide) (by decide) rfl ((hB.trans hX).n (by omega)) ?_
                            refine y_ireturn rfl rfl rfl ?_
                            exact hQ0 _ eb_b337 (by first | omega | (simp only [show ySeat x2 = x2 from if_neg (by omega), show ySeat x3 = x3 from if_neg (by omega)]; omega) | (simp only [show ySeat x2 = x2 from if_neg (by omega), show ySeat x3 = Int32.ofInt 8 from if_pos (by omega), show (Int32.ofInt 8).toInt.toNat = 8 from by decide]; omega) | (simp only [show ySeat x2 = Int32.ofInt 8 from if_pos (by omega), show ySeat x3 = x3 from if_neg (by omega), show (Int32.ofInt 8).toInt.toNat = 8 from by decide]; omega) | (simp only [show ySeat x2 = Int32.ofInt 8 from if_pos (by omega), show ySeat x3 = Int32.ofInt 8 from if_pos (by omega), show (Int32.ofInt 8).toInt.toNat = 8 from by decide]; omega)) _ _ _ _ _ _ _ hS ((hR0.grow hX).up (Nat.le_succ K) hk6) (hK.x hRo hno hX) hth (by first | exact (congrFun ((hB.trans hX).n (by omega)) _).symm | (simp only [show ySeat x2 = x2 from if_neg (by omega), show ySeat x3 = x3 from if_neg (by omega)]; exact (congrFun ((hB.trans hX).n (by omega)) _).symm) | (simp only [show ySeat x2 = x2 from if_neg (by omega), show ySeat x3 = Int32.ofInt 8 from if_pos (by omega), show (Int32.ofInt 8).toInt.toNat = 8 from by decide]; exact (congrFun ((hB.trans hX).n (by omega)) _).symm) | (simp only [show ySeat x2 = Int32.ofInt 8 from if_pos (by omega), show ySeat x3 = x3 from if_neg (by omega), show (Int32.ofInt 8).toInt.toNat = 8 from by decide]; exact (congrFun ((hB.trans hX).n (by omega)) _).symm) | (simp only [show ySeat x2 = Int32.ofInt 8 from if_pos (by omega), show ySeat x3 = Int32.ofInt 8 from if_pos (by omega), show (Int32.ofInt 8).toInt.toNat = 8 from by decide]; exact (congrFun ((hB.trans hX).n (by omega)) _).symm)) (by first | (exact hB.trans hX) | (simp only [show ySeat x2 = x2 from if_neg (by omega), show ySeat x3 = x3 from if_neg (by omega)]; exact hB.trans hX) | (simp only [show ySeat x2 = x2 from if_neg (by omega), show ySeat x3 = Int32.ofInt 8 from if_pos (by omega), show (Int32.ofInt 8).toInt.toNat = 8 from by decide]; exact hB.trans hX) | (simp only [show ySeat x2 = Int32.ofInt 8 from if_pos (by omega), show ySeat x3 = x3 from if_neg (by omega), show (Int32.ofInt 8).toInt.toNat = 8 from by decide]; exact hB.trans hX) | (simp only [show ySeat x2 = Int32.ofInt 8 from if_pos (by omega), show ySeat x3 = Int32.ofInt 8 from if_pos (by omega), show (Int32.ofInt 8).toInt.toNat = 8 from by decide]; exact hB.trans hX)) (by omega) (by omega)
                          · refine y_iconst rfl ?_
                            refine y_goto rfl j_X14_buyOut_147 ?_
                            refine y_iconst rfl ?_
                            refine y_virt rfl rfl rfl rfl rfl (ySh.t hS rfl) (ySh.n hS rfl) ?_
                            refine y_in (M := xm_X14_refuse) (ls := [some _, some _, some _]) rfl rfl rfl ?_
                            refine y_iload_n rfl rfl ?_
                            refine y_if_eqF rfl (by decide) ?_
                            refine y_aload_n rfl rfl ?_
                            refine y_getIv (v := Int32.ofInt (0)) rfl (ySh.t hS rfl) (ySh.n hS rfl) rfl rfl hth ?_
                            refine y_if_neF rfl (by decide) ?_
                            refine y_aload_n rfl rfl ?_
                            refine y_iload_n rfl rfl ?_
                            refine y_putI rfl (ySh.t hS rfl) (ySh.n hS rfl) rfl (Nat.le_of_ble_eq_true rfl) rfl rfl ?_
                            refine y_nameI (fun I409 e409 => ?_)
                            have hR1 := (hR0.grow hX).mod0 e409 (by decide) (by decide)
                            have hK := (hK.x hRo hno hX).upI (upI e409) (by decide) (by decide) (fun i hi => by have := (hRo.l87.2.2.2.2 i hi).2.1; omega) (by rw [e409, upd2_ne (.inr (by decide))]; exact Int.le_refl _)
                            have hth : I409 83 0 = Int32.ofInt (3) := by rw [e409, upd2_self]
                            have hzz : ySz8 I330 I409 := ySz8_of (upI e409) (by rw [e409]; exact ⟨upd2_ne (.inr (by decide)), upd2_ne (.inr (by decide))⟩)
                            have hB := (hB.trans hX).wr e409 rfl
                            have h8 : ∀ a, 84 ≤ a → a ≤ 86 → I409 a = I a := fun a h1 h2 => (upI e409 a (by omega)).trans ((hX.2.1 a (by omega)).2.1.trans (h8 a h1 h2))
                            have h3k : ∀ k, k ≠ 0 → I409 83 k = I 83 k := fun k hk => (congrFun (congrFun e409 83) k).trans ((upd2_ne (.inr hk)).trans ((congrFun (hX.2.1 83 (by omega)).2.1 k).trans (h3k k hk)))
                            have hg := (hg.gx hX (by omega)).skip e409 (by decide)
                            have hday : I409 83 1 = I 83 1 := (congrFun (congrFun e409 83) 1).trans ((upd2_ne (.inr (by decide))).trans ((congrFun (hX.2.1 83 (by omega)).2.1 1).trans hday))
                            have hRb : ∀ a, a < n → R a = R a := fun a ha => (hX.2.1 a (by omega)).2.2.trans (hRb a ha)
                            have hb83 : ∀ a, a ≠ 83 → a < n → I409 a = I a := fun a ha hb => (upI e409 a ha).trans ((hX.2.1 a (by omega)).2.1.trans (hb83 a ha hb))
                            have hS0 := hS
                            have hR0 := hR1
                            have ht_b337 := (hX.2.1 _ hb_b337).1.trans ht_b337
                            have hb_b337 := Nat.lt_of_lt_of_le hb_b337 hX.1
                            have hb0_b337 := hb_b337
                            have ht_v388 := (hX.2.1 _ hb_v388).1.trans ht_v388
                            have hb_v388 := Nat.lt_of_lt_of_le hb_v388 hX.1
                            have hb0_v388 := hb_v388
                            have ht_v392 := (hX.2.1 _ hb_v392).1.trans ht_v392
                            have hb_v392 := Nat.lt_of_lt_of_le hb_v392 hX.1
                            have hb0_v392 := hb_v392
                            have ht_v396 := (hX.2.1 _ hb_v396).1.trans ht_v396
                            have hb_v396 := Nat.lt_of_lt_of_le hb_v396 hX.1
                            have hb0_v396 := hb_v396
                            have hn := Nat.le_refl n
                            have h94 := hS0.1
                            have hX := @yX.rf n tg I409 R
                            have hS := hS0.x hX
                            have hR := hR0.x hn hX
                            have hz := hX.sz h94
                            have hxn := hX.1
                            have hN := hR0.1
                            have hnb := hR0.2.2.2.2.2.2
                            have hthB := hth
                            refine y_aload_n rfl rfl ?_
                            refine y_getIv (v := Int32.ofInt (3)) rfl (ySh.t hS rfl) (ySh.n hS rfl) rfl rfl hth ?_
                            refine y_if_leF rfl (by decide) ?_
                            refine y_iconst rfl ?_
                            refine y_goto rfl j_X14_refuse_28 ?_
                            refine y_ireturn rfl rfl rfl ?_
                            refine y_ret1 ?_
                            refine y_if_eqF rfl (by decide) ?_
                            refine y_iconst rfl ?_
                            refine y_ireturn rfl rfl rfl ?_
                            exact hQ3 _ eb_b337 (by first | omega | (simp only [show ySeat x2 = x2 from if_neg (by omega), show ySeat x3 = x3 from if_neg (by omega)]; omega) | (simp only [show ySeat x2 = x2 from if_neg (by omega), show ySeat x3 = Int32.ofInt 8 from if_pos (by omega), show (Int32.ofInt 8).toInt.toNat = 8 from by decide]; omega) | (simp only [show ySeat x2 = Int32.ofInt 8 from if_pos (by omega), show ySeat x3 = x3 from if_neg (by omega), show (Int32.ofInt 8).toInt.toNat = 8 from by decide]; omega) | (simp only [show ySeat x2 = Int32.ofInt 8 from if_pos (by omega), show ySeat x3 = Int32.ofInt 8 from if_pos (by omega), show (Int32.ofInt 8).toInt.toNat = 8 from by decide]; omega)) _ _ _ _ _ _ _ hS ((hR0.grow hX).up (Nat.le_succ K) hk6) (hK.x hRo hno hX) hth ((hB.trans hX).rf2 (by omega)) (by omega) (by omega)
                  · rw [yz_m1] at h_387
                    refine y_bip rfl (by decide) ?_
                    refine y_goto rfl j_X14_seat_11 ?_
                    refine y_ireturn rfl rfl rfl ?_
                    refine y_ret1 ?_
                    refine y_istore (ls' := [some _, some _, some _, some _, some _, some _, some _, some _]) rfl rfl rfl ?_
                    refine y_aload_n rfl rfl ?_
                    refine y_aload rfl rfl ?_
                    obtain ⟨hR_v410, hb_v410, ht_v410⟩ := hR0.ven hlo_b337 hb0_b337 ht_b337 (j := 0) (by decide)
                    have hb0_v410 := hb_v410
                    have hb_v410 := Nat.lt_of_lt_of_le hb_v410 hn
                    have hlo_v410 : 94 ≤ b337 + 1 + 0 := by omega
                    have hR2_v410 := (congrFun (hX.2.1 b337 hb_b337).2.2 0).trans hR_v410
                    refine y_getR rfl ((hX.2.1 _ hb_b337).1.trans ht_b337) (Nat.lt_of_lt_of_le hb_b337 hX.1) rfl rfl hR2_v410 ?_
                    refine y_iload rfl rfl ?_
                    refine y_baloadw (j := 8) (J := I (b337 + 1 + 0)) rfl ((hX.2.1 _ hb_v410).1.trans ht_v410) rfl (Nat.lt_of_lt_of_le hb_v410 hX.1) (by decide) (by decide) rfl (((hB.trans hX).n (by omega)).trans (by repeat (first | rfl | (rw [upd2_row (by first | decide | omega)]) | refine upd2_cg ?_))) ?_
                    refine y_if_eq rfl j_X14_buyOut_142 (fun h_411 => ?_) (fun h_412 => ?_)
                    · refine y_iconst rfl ?_
                      refine y_goto rfl j_X14_buyOut_147 ?_
                      refine y_iconst rfl ?_
                      refine y_virt rfl rfl rfl rfl rfl (ySh.t hS rfl) (ySh.n hS rfl) ?_
                      refine y_in (M := xm_X14_refuse) (ls := [some _, some _, some _]) rfl rfl rfl ?_
                      refine y_iload_n rfl rfl ?_
                      refine y_if_eqF rfl (by decide) ?_
                      refine y_aload_n rfl rfl ?_
                      refine y_getIv (v := Int32.ofInt (0)) rfl (ySh.t hS rfl) (ySh.n hS rfl) rfl rfl hth ?_
                      refine y_if_neF rfl (by decide) ?_
                      refine y_aload_n rfl rfl ?_
                      refine y_iload_n rfl rfl ?_
                      refine y_putI rfl (ySh.t hS rfl) (ySh.n hS rfl) rfl (Nat.le_of_ble_eq_true rfl) rfl rfl ?_
                      refine y_nameI (fun I413 e413 => ?_)
                      have hR1 := (hR0.grow hX).mod0 e413 (by decide) (by decide)
                      have hK := (hK.x hRo hno hX).upI (upI e413) (by decide) (by decide) (fun i hi => by have := (hRo.l87.2.2.2.2 i hi).2.1; omega) (by rw [e413, upd2_ne (.inr (by decide))]; exact Int.le_refl _)
                      have hth : I413 83 0 = Int32.ofInt (3) := by rw [e413, upd2_self]
                      have hzz : ySz8 I330 I413 := ySz8_of (upI e413) (by rw [e413]; exact ⟨upd2_ne (.inr (by decide)), upd2_ne (.inr (by decide))⟩)
                      have hB := (hB.trans hX).wr e413 rfl
                      have h8 : ∀ a, 84 ≤ a → a ≤ 86 → I413 a = I a := fun a h1 h2 => (upI e413 a (by omega)).trans ((hX.2.1 a (by omega)).2.1.trans (h8 a h1 h2))
                      have h3k : ∀ k, k ≠ 0 → I413 83 k = I 83 k := fun k hk => (congrFun (congrFun e413 83) k).trans ((upd2_ne (.inr hk)).trans ((congrFun (hX.2.1 83 (by omega)).2.1 k).trans (h3k k hk)))
                      have hg := (hg.gx hX (by omega)).skip e413 (by decide)
                      have hday : I413 83 1 = I 83 1 := (congrFun (congrFun e413 83) 1).trans ((upd2_ne (.inr (by decide))).trans ((congrFun (hX.2.1 83 (by omega)).2.1 1).trans hday))
                      have hRb : ∀ a, a < n → R a = R a := fun a ha => (hX.2.1 a (by omega)).2.2.trans (hRb a ha)
                      have hb83 : ∀ a, a ≠ 83 → a < n → I413 a = I a := fun a ha hb => (upI e413 a ha).trans ((hX.2.1 a (by omega)).2.1.trans (hb83 a ha hb))
                      have hS0 := hS
                      have hR0 := hR1
                      have ht_b337 := (hX.2.1 _ hb_b337).1.trans ht_b337
                      have hb_b337 := Nat.lt_of_lt_of_le hb_b337 hX.1
                      have hb0_b337 := hb_b337
                      have ht_v410 := (hX.2.1 _ hb_v410).1.trans ht_v410
                      have hb_v410 := Nat.lt_of_lt_of_le hb_v410 hX.1
                      have hb0_v410 := hb_v410
                      have hn := Nat.le_refl n
                      have h94 := hS0.1
                      have hX := @yX.rf n tg I413 R
                      have hS := hS0.x hX
                      have hR := hR0.x hn hX
                      have hz := hX.sz h94
                      have hxn := hX.1
                      have hN := hR0.1
                      have hnb := hR0.2.2.2.2.2.2
                      have hthB := hth
                      refine y_aload_n rfl rfl ?_
                      refine y_getIv (v := Int32.ofInt (3)) rfl (ySh.t hS rfl) (ySh.n hS rfl) rfl rfl hth ?_
                      refine y_if_leF rfl (by decide) ?_
                      refine y_iconst rfl ?_
                      refine y_goto rfl j_X14_refuse_28 ?_
                      refine y_ireturn rfl rfl rfl ?_
                      refine y_ret1 ?_
                      refine y_if_eqF rfl (by decide) ?_
                      refine y_iconst rfl ?_
                      refine y_ireturn rfl rfl rfl ?_
                      exact hQ3 _ eb_b337 (by first | omega | (simp only [show ySeat x2 = x2 from if_neg (by omega), show ySeat x3 = x3 from if_neg (by omega)]; omega) | (simp only [show ySeat x2 = x2 from if_neg (by omega), show ySeat x3 = Int32.ofInt 8 from if_pos (by omega), show (Int32.ofInt 8).toInt.toNat = 8 from by decide]; omega) | (simp only [show ySeat x2 = Int32.ofInt 8 from if_pos (by omega), show ySeat x3 = x3 from if_neg (by omega), show (Int32.ofInt 8).toInt.toNat = 8 from by decide]; omega) | (simp only [show ySeat x2 = Int32.ofInt 8 from if_pos (by omega), show ySeat x3 = Int32.ofInt 8 from if_pos (by omega), show (Int32.ofInt 8).toInt.toNat = 8 from by decide]; omega)) _ _ _ _ _ _ _ hS ((hR0.grow hX).up (Nat.le_succ K) hk6) (hK.x hRo hno hX) hth ((hB.trans hX).rf2 (by omega)) (by omega) (by omega)
                    · refine y_aload rfl rfl ?_
                      obtain ⟨hR_v414, hb_v414, ht_v414⟩ := hR0.ven hlo_b337 hb0_b337 ht_b337 (j := 0) (by decide)
                      have hb0_v414 := hb_v414
                      have hb_v414 := Nat.lt_of_lt_of_le hb_v414 hn
                      have hlo_v414 : 94 ≤ b337 + 1 + 0 := by omega
                      have hR2_v414 := (congrFun (hX.2.1 b337 hb_b337).2.2 0).trans hR_v414
                      refine y_getR rfl ((hX.2.1 _ hb_b337).1.trans ht_b337) (Nat.lt_of_lt_of_le hb_b337 hX.1) rfl rfl hR2_v414 ?_
                      refine y_iload rfl rfl ?_
                      refine y_baloadw (j := 8) (J := I (b337 + 1 + 0)) rfl ((hX.2.1 _ hb_v414).1.trans ht_v414) rfl (Nat.lt_of_lt_of_le hb_v414 hX.1) (by decide) (by decide) rfl (((hB.trans hX).n (by omega)).trans (by repeat (first | rfl | (rw [upd2_row (by first | decide | omega)]) | refine upd2_cg ?_))) ?_
                      refine y_if_eq rfl j_X14_buyOut_142 (fun h_415 => ?_) (fun h_416 => ?_)
                      · refine y_iconst rfl ?_
                        refine y_goto rfl j_X14_buyOut_147 ?_
                        refine y_iconst rfl ?_
                        refine y_virt rfl rfl rfl rfl rfl (ySh.t hS rfl) (ySh.n hS rfl) ?_
                        refine y_in (M := xm_X14_refuse) (ls := [some _, some _, some _]) rfl rfl rfl ?_
                        refine y_iload_n rfl rfl ?_
                        refine y_if_eqF rfl (by decide) ?_
                        refine y_aload_n rfl rfl ?_
                        refine y_getIv (v := Int32.ofInt (0)) rfl (ySh.t hS rfl) (ySh.n hS rfl) rfl rfl hth ?_
                        refine y_if_neF rfl (by decide) ?_
                        refine y_aload_n rfl rfl ?_
                        refine y_iload_n rfl rfl ?_
                        refine y_putI rfl (ySh.t hS rfl) (ySh.n hS rfl) rfl (Nat.le_of_ble_eq_true rfl) rfl rfl ?_
                        refine y_nameI (fun I417 e417 => ?_)
                        have hR1 := (hR0.grow hX).mod0 e417 (by decide) (by decide)
                        have hK := (hK.x hRo hno hX).upI (upI e417) (by decide) (by decide) (fun i hi => by have := (hRo.l87.2.2.2.2 i hi).2.1; omega) (by rw [e417, upd2_ne (.inr (by decide))]; exact Int.le_refl _)
                        have hth : I417 83 0 = Int32.ofInt (3) := by rw [e417, upd2_self]
                        have hzz : ySz8 I330 I417 := ySz8_of (upI e417) (by rw [e417]; exact ⟨upd2_ne (.inr (by decide)), upd2_ne (.inr (by decide))⟩)
                        have hB := (hB.trans hX).wr e417 rfl
                        have h8 : ∀ a, 84 ≤ a → a ≤ 86 → I417 a = I a := fun a h1 h2 => (upI e417 a (by omega)).trans ((hX.2.1 a (by omega)).2.1.trans (h8 a h1 h2))
                        have h3k : ∀ k, k ≠ 0 → I417 83 k = I 83 k := fun k hk => (congrFun (congrFun e417 83) k).trans ((upd2_ne (.inr hk)).trans ((congrFun (hX.2.1 83 (by omega)).2.1 k).trans (h3k k hk)))
                        have hg := (hg.gx hX (by omega)).skip e417 (by decide)
                        have hday : I417 83 1 = I 83 1 := (congrFun (congrFun e417 83) 1).trans ((upd2_ne (.inr (by decide))).trans ((congrFun (hX.2.1 83 (by omega)).2.1 1).trans hday))
                        have hRb : ∀ a, a < n → R a = R a := fun a ha => (hX.2.1 a (by omega)).2.2.trans (hRb a ha)
                        have hb83 : ∀ a, a ≠ 83 → a < n → I417 a = I a := fun a ha hb => (upI e417 a ha).trans ((hX.2.1 a (by omega)).2.1.trans (hb83 a ha hb))
                        have hS0 := hS
                        have hR0 := hR1
                        have ht_b337 := (hX.2.1 _ hb_b337).1.trans ht_b337
                        have hb_b337 := Nat.lt_of_lt_of_le hb_b337 hX.1
                        have hb0_b337 := hb_b337
                        have ht_v410 := (hX.2.1 _ hb_v410).1.trans ht_v410
                        have hb_v410 := Nat.lt_of_lt_of_le hb_v410 hX.1
                        have hb0_v410 := hb_v410
                        have ht_v414 := (hX.2.1 _ hb_v414).1.trans ht_v414
                        have hb_v414 := Nat.lt_of_lt_of_le hb_v414 hX.1
                        have hb0_v414 := hb_v414
                        have hn := Nat.le_refl n
                        have h94 := hS0.1
                        have hX := @yX.rf n tg I417 R
                        have hS := hS0.x hX
                        have hR := hR0.x hn hX
                        have hz := hX.sz h94
                        have hxn := hX.1
                        have hN := hR0.1
                        have hnb := hR0.2.2.2.2.2.2
                        have hthB := hth
                        refine y_aload_n rfl rfl ?_
                        refine y_getIv (v := Int32.ofInt (3)) rfl (ySh.t hS rfl) (ySh.n hS rfl) rfl rfl hth ?_
                        refine y_if_leF rfl (by decide) ?_
                        refine y_iconst rfl ?_
                        refine y_goto rfl j_X14_refuse_28 ?_
                        refine y_ireturn rfl rfl rfl ?_
                        refine y_ret1 ?_
                        refine y_if_eqF rfl (by decide) ?_
                        refine y_iconst rfl ?_
                        refine y_ireturn rfl rfl rfl ?_
                        exact hQ3 _ eb_b337 (by first | omega | (simp only [show ySeat x2 = x2 from if_neg (by omega), show ySeat x3 = x3 from if_neg (by omega)]; omega) | (simp only [show ySeat x2 = x2 from if_neg (by omega), show ySeat x3 = Int32.ofInt 8 from if_pos (by omega), show (Int32.ofInt 8).toInt.toNat = 8 from by decide]; omega) | (simp only [show ySeat x2 = Int32.ofInt 8 from if_pos (by omega), show ySeat x3 = x3 from if_neg (by omega), show (Int32.ofInt 8).toInt.toNat = 8 from by decide]; omega) | (simp only [show ySeat x2 = Int32.ofInt 8 from if_pos (by omega), show ySeat x3 = Int32.ofInt 8 from if_pos (by omega), show (Int32.ofInt 8).toInt.toNat = 8 from by decide]; omega)) _ _ _ _ _ _ _ hS ((hR0.grow hX).up (Nat.le_succ K) hk6) (hK.x hRo hno hX) hth ((hB.trans hX).rf2 (by omega)) (by omega) (by omega)
                      · refine y_aload rfl rfl ?_
                        obtain ⟨hR_v418, hb_v418, ht_v418⟩ := hR0.ven hlo_b337 hb0_b337 ht_b337 (j := 1) (by decide)
                        have hb0_v418 := hb_v418
                        have hb_v418 := Nat.lt_of_lt_of_le hb_v418 hn
                        have hlo_v418 : 94 ≤ b337 + 1 + 1 := by omega
                        have hR2_v418 := (congrFun (hX.2.1 b337 hb_b337).2.2 1).trans hR_v418
                        refine y_getR rfl ((hX.2.1 _ hb_b337).1.trans ht_b337) (Nat.lt_of_lt_of_le hb_b337 hX.1) rfl rfl hR2_v418 ?_
                        refine y_iload rfl rfl ?_
                        refine y_ialoadw (j := 8) (J := I (b337 + 1 + 1)) rfl ((hX.2.1 _ hb_v418).1.trans ht_v418) (Nat.lt_of_lt_of_le hb_v418 hX.1) (by decide) (by decide) rfl (((hB.trans hX).n (by omega)).trans (by repeat (first | rfl | (rw [upd2_row (by first | decide | omega)]) | refine upd2_cg ?_))) ?_
                        refine y_iload rfl rfl ?_
                        refine y_icmp_lt rfl j_X14_buyOut_142 (fun h_419 => ?_) (fun h_420 => ?_)
                        · refine y_iconst rfl ?_
                          refine y_goto rfl j_X14_buyOut_147 ?_
                          refine y_iconst rfl ?_
                          refine y_virt rfl rfl rfl rfl rfl (ySh.t hS rfl) (ySh.n hS rfl) ?_
                          refine y_in (M := xm_X14_refuse) (ls := [some _, some _, some _]) rfl rfl rfl ?_
                          refine y_iload_n rfl rfl ?_
                          refine y_if_eqF rfl (by decide) ?_
                          refine y_aload_n rfl rfl ?_
                          refine y_getIv (v := Int32.ofInt (0)) rfl (ySh.t hS rfl) (ySh.n hS rfl) rfl rfl hth ?_
                          refine y_if_neF rfl (by decide) ?_
                          refine y_aload_n rfl rfl ?_
                          refine y_iload_n rfl rfl ?_
                          refine y_putI rfl (ySh.t hS rfl) (ySh.n hS rfl) rfl (Nat.le_of_ble_eq_true rfl) rfl rfl ?_
                          refine y_nameI (fun I421 e421 => ?_)
                          have hR1 := (hR0.grow hX).mod0 e421 (by decide) (by decide)
                          have hK := (hK.x hRo hno hX).upI (upI e421) (by decide) (by decide) (fun i hi => by have := (hRo.l87.2.2.2.2 i hi).2.1; omega) (by rw [e421, upd2_ne (.inr (by decide))]; exact Int.le_refl _)
                          have hth : I421 83 0 = Int32.ofInt (3) := by rw [e421, upd2_self]
                          have hzz : ySz8 I330 I421 := ySz8_of (upI e421) (by rw [e421]; exact ⟨upd2_ne (.inr (by decide)), upd2_ne (.inr (by decide))⟩)
                          have hB := (hB.trans hX).wr e421 rfl
                          have h8 : ∀ a, 84 ≤ a → a ≤ 86 → I421 a = I a := fun a h1 h2 => (upI e421 a (by omega)).trans ((hX.2.1 a (by omega)).2.1.trans (h8 a h1 h2))
                          have h3k : ∀ k, k ≠ 0 → I421 83 k = I 83 k := fun k hk => (congrFun (congrFun e421 83) k).trans ((upd2_ne (.inr hk)).trans ((congrFun (hX.2.1 83 (by omega)).2.1 k).trans (h3k k hk)))
                          have hg := (hg.gx hX (by omega)).skip e421 (by decide)
                          have hday : I421 83 1 = I 83 1 := (congrFun (congrFun e421 83) 1).trans ((upd2_ne (.inr (by decide))).trans ((congrFun (hX.2.1 83 (by omega)).2.1 1).trans hday))
                          have hRb : ∀ a, a < n → R a = R a := fun a ha => (hX.2.1 a (by omega)).2.2.trans (hRb a ha)
                          have hb83 : ∀ a, a ≠ 83 → a < n → I421 a = I a := fun a ha hb => (upI e421 a ha).trans ((hX.2.1 a (by omega)).2.1.trans (hb83 a ha hb))
                          have hS0 := hS
                          have hR0 := hR1
                          have ht_b337 := (hX.2.1 _ hb_b337).1.trans ht_b337
                          have hb_b337 := Nat.lt_of_lt_of_le hb_b337 hX.1
                          have hb0_b337 := hb_b337
                          have ht_v410 := (hX.2.1 _ hb_v410).1.trans ht_v410
                          have hb_v410 := Nat.lt_of_lt_of_le hb_v410 hX.1
                          have hb0_v410 := hb_v410
                          have ht_v414 := (hX.2.1 _ hb_v414).1.trans ht_v414
                          have hb_v414 := Nat.lt_of_lt_of_le hb_v414 hX.1
                          have hb0_v414 := hb_v414
                          have ht_v418 := (hX.2.1 _ hb_v418).1.trans ht_v418
                          have hb_v418 := Nat.lt_of_lt_of_le hb_v418 hX.1
                          have hb0_v418 := hb_v418
                          have hn := Nat.le_refl n
                          have h94 := hS0.1
                          have hX := @yX.rf n tg I421 R
                          have hS := hS0.x hX
                          have hR := hR0.x hn hX
                          have hz := hX.sz h94
                          have hxn := hX.1
                          have hN := hR0.1
                          have hnb := hR0.2.2.2.2.2.2
                          have hthB := hth
                          refine y_aload_n rfl rfl ?_
                          refine y_getIv (v := Int32.ofInt (3)) rfl (ySh.t hS rfl) (ySh.n hS rfl) rfl rfl hth ?_
                          refine y_if_leF rfl (by decide) ?_
                          refine y_iconst rfl ?_
                          refine y_goto rfl j_X14_refuse_28 ?_
                          refine y_ireturn rfl rfl rfl ?_
                          refine y_ret1 ?_
                          refine y_if_eqF rfl (by decide) ?_
                          refine y_iconst rfl ?_
                          refine y_ireturn rfl rfl rfl ?_
                          exact hQ3 _ eb_b337 (by first | omega | (simp only [show ySeat x2 = x2 from if_neg (by omega), show ySeat x3 = x3 from if_neg (by omega)]; omega) | (simp only [show ySeat x2 = x2 from if_neg (by omega), show ySeat x3 = Int32.ofInt 8 from if_pos (by omega), show (Int32.ofInt 8).toInt.toNat = 8 from by decide]; omega) | (simp only [show ySeat x2 = Int32.ofInt 8 from if_pos (by omega), show ySeat x3 = x3 from if_neg (by omega), show (Int32.ofInt 8).toInt.toNat = 8 from by decide]; omega) | (simp only [show ySeat x2 = Int32.ofInt 8 from if_pos (by omega), show ySeat x3 = Int32.ofInt 8 from if_pos (by omega), show (Int32.ofInt 8).toInt.toNat = 8 from by decide]; omega)) _ _ _ _ _ _ _ hS ((hR0.grow hX).up (Nat.le_succ K) hk6) (hK.x hRo hno hX) hth ((hB.trans hX).rf2 (by omega)) (by omega) (by omega)
                        · refine y_aload_n rfl rfl ?_
                          refine y_getR rfl (ySh.t hS rfl) (ySh.n hS rfl) rfl rfl (ySh.r hS rfl) ?_
                          refine y_iload rfl rfl ?_
                          refine y_ialoadw (j := 8) (J := I 84) rfl (ySh.t hS rfl) (ySh.n hS rfl) (by decide) (by decide) rfl (((hB.trans hX).n (by omega)).trans (by repeat (first | rfl | (rw [upd2_row (by first | decide | omega)]) | refine upd2_cg ?_))) ?_
                          refine y_iload rfl rfl ?_
                          refine y_icmp_ge rfl j_X14_buyOut_146 (fun h_422 => ?_) (fun h_423 => ?_)
                          · refine y_iconst rfl ?_
                            refine y_iconst rfl ?_
                            refine y_virt rfl rfl rfl rfl rfl (ySh.t hS rfl) (ySh.n hS rfl) ?_
                            refine y_in (M := xm_X14_refuse) (ls := [some _, some _, some _]) rfl rfl rfl ?_
                            refine y_iload_n rfl rfl ?_
                            refine y_if_eqT rfl j_X14_refuse_16 (by decide) ?_
                            refine y_aload_n rfl rfl ?_
                            refine y_getIv (v := Int32.ofInt (0)) rfl (ySh.t hS rfl) (ySh.n hS rfl) rfl rfl hth ?_
                            refine y_if_leT rfl j_X14_refuse_27 (by decide) ?_
                            refine y_iconst rfl ?_
                            refine y_ireturn rfl rfl rfl ?_
                            refine y_ret1 ?_
                            refine y_if_eqT rfl j_X14_buyOut_156 (by decide) ?_
                            refine y_aload rfl rfl ?_
                            obtain ⟨hR_v424, hb_v424, ht_v424⟩ := hR0.ven hlo_b337 hb0_b337 ht_b337 (j := 1) (by decide)
                            have hb0_v424 := hb_v424
                            have hb_v424 := Nat.lt_of_lt_of_le hb_v424 hn
                            have hlo_v424 : 94 ≤ b337 + 1 + 1 := by omega
                            have hR2_v424 := (congrFun (hX.2.1 b337 hb_b337).2.2 1).trans hR_v424
                            refine y_getR rfl ((hX.2.1 _ hb_b337).1.trans ht_b337) (Nat.lt_of_lt_of_le hb_b337 hX.1) rfl rfl hR2_v424 ?_
                            refine y_iload rfl rfl ?_
                            refine y_dup2 rfl rfl rfl ?_
                            refine y_ialoadw (j := 8) (J := I (b337 + 1 + 1)) rfl ((hX.2.1 _ hb_v424).1.trans ht_v424) (Nat.lt_of_lt_of_le hb_v424 hX.1) (by decide) (by decide) rfl (((hB.trans hX).n (by omega)).trans (by repeat (first | rfl | (rw [upd2_row (by first | decide | omega)]) | refine upd2_cg ?_))) ?_
                            refine y_iload rfl rfl ?_
                            refine y_isub rfl ?_
                            refine y_iastoreC (j := 8) rfl ((hX.2.1 _ hb_v424).1.trans ht_v424) (Nat.lt_of_lt_of_le hb_v424 hX.1) (Nat.le_trans (by decide) (by omega : 94 ≤ _)) (by decide) (by decide) rfl ?_
                            refine y_nameI (fun I425 e425 => ?_)
                            have hB1 := (hR0.grow hX).capB1x hlo_b337 (by omega) ((hX.2.1 _ hb_b337).1.trans ht_b337) (by omega) e425 (by rw [show I330 (b337 + 1 + 1) = I (b337 + 1 + 1) from ((hB.trans hX).n (by omega)).trans (by repeat (first | rfl | (rw [upd2_row (by first | decide | omega)]) | refine upd2_cg ?_))]) ⟨by omega, by rw [show I330 (b337 + 1 + 1) = I (b337 + 1 + 1) from ((hB.trans hX).n (by omega)).trans (by repeat (first | rfl | (rw [upd2_row (by first | decide | omega)]) | refine upd2_cg ?_))]; omega⟩
                            have hR1 := hB1.1
                            have hK := (hK.x hRo hno hX).upE hRo hno (upI e425) (by omega) (by omega) (by rw [((hX.2.1 _ hb_v424).1.trans ht_v424)]; decide) (by rw [e425, upd2_ne (.inl (by omega))]; exact Int.le_refl _)
                            have hth := (show I425 83 0 = I330 83 0 by rw [e425, upd2_ne (.inl (by omega))]).trans hth
                            have hzz : ySz I330 I425 := ySz_ofE (upI e425) (by omega)
                            have hB := (hB.trans hX).wr e425 rfl
                            have h8 : ∀ a, 84 ≤ a → a ≤ 86 → I425 a = I a := fun a h1 h2 => (upI e425 a (by omega)).trans ((hX.2.1 a (by omega)).2.1.trans (h8 a h1 h2))
                            have h3k : ∀ k, k ≠ 0 → I425 83 k = I 83 k := fun k hk => (congrFun (congrFun e425 83) k).trans ((upd2_ne (.inl (by omega))).trans ((congrFun (hX.2.1 83 (by omega)).2.1 k).trans (h3k k hk)))
                            have hg := (hg.gx hX (by omega)).both e425
                            have hday : I425 83 1 = I 83 1 := (congrFun (congrFun e425 83) 1).trans ((upd2_ne (.inl (by omega))).trans ((congrFun (hX.2.1 83 (by omega)).2.1 1).trans hday))
                            have hRb : ∀ a, a < n → R a = R a := fun a ha => (hX.2.1 a (by omega)).2.2.trans (hRb a ha)
                            have hS0 := hS
                            have hR0 := hR1
                            have ht_b337 := (hX.2.1 _ hb_b337).1.trans ht_b337
                            have hb_b337 := Nat.lt_of_lt_of_le hb_b337 hX.1
                            have hb0_b337 := hb_b337
                            have ht_v410 := (hX.2.1 _ hb_v410).1.trans ht_v410
                            have hb_v410 := Nat.lt_of_lt_of_le hb_v410 hX.1
                            have hb0_v410 := hb_v410
                            have ht_v414 := (hX.2.1 _ hb_v414).1.trans ht_v414
                            have hb_v414 := Nat.lt_of_lt_of_le hb_v414 hX.1
                            have hb0_v414 := hb_v414
                            have ht_v418 := (hX.2.1 _ hb_v418).1.trans ht_v418
                            have hb_v418 := Nat.lt_of_lt_of_le hb_v418 hX.1
                            have hb0_v418 := hb_v418
                            have ht_v424 := (hX.2.1 _ hb_v424).1.trans ht_v424
                            have hb_v424 := Nat.lt_of_lt_of_le hb_v424 hX.1
                            have hb0_v424 := hb_v424
                            have hn := Nat.le_refl n
                            have h94 := hS0.1
                            have hX := @yX.rf n tg I425 R
                            have hS := hS0.x hX
                            have hR := hR0.x hn hX
                            have hz := hX.sz h94
                            have hxn := hX.1
                            have hN := hR0.1
                            have hnb := hR0.2.2.2.2.2.2
                            have hthB := hth
                            refine y_aload rfl rfl ?_
                            obtain ⟨hR_v426, hb_v426, ht_v426⟩ := hR0.ven hlo_b337 hb0_b337 ht_b337 (j := 1) (by decide)
                            have hb0_v426 := hb_v426
                            have hb_v426 := Nat.lt_of_lt_of_le hb_v426 hn
                            have hlo_v426 : 94 ≤ b337 + 1 + 1 := by omega
                            have hR2_v426 := (congrFun (hX.2.1 b337 hb_b337).2.2 1).trans hR_v426
                            refine y_getR rfl ((hX.2.1 _ hb_b337).1.trans ht_b337) (Nat.lt_of_lt_of_le hb_b337 hX.1) rfl rfl hR2_v426 ?_
                            refine y_iload rfl rfl ?_
                            refine y_dup2 rfl rfl rfl ?_
                            refine y_ialoadw (j := 8) (J := _) rfl ((hX.2.1 _ hb_v426).1.trans ht_v426) (Nat.lt_of_lt_of_le hb_v426 hX.1) (by decide) (by decide) rfl ((hB.trans hX).n (by omega)) ?_
                            refine y_iload rfl rfl ?_
                            refine y_iadd rfl ?_
                            refine y_iastoreC (j := 8) rfl ((hX.2.1 _ hb_v426).1.trans ht_v426) (Nat.lt_of_lt_of_le hb_v426 hX.1) (Nat.le_trans (by decide) (by omega : 94 ≤ _)) (by decide) (by decide) rfl ?_
                            refine y_nameI (fun I427 e427 => ?_)
                            have hR1 := (hR0.grow hX).capB2x hlo_b337 (by omega) ((hX.2.1 _ hb_b337).1.trans ht_b337) (by omega) (by omega) hB1.2.1 e427 (by rw [show I425 (b337 + 1 + 1) = _ from ((hB.trans hX).n (by omega))])
                            have hK := (hK.x hRo hno hX).upE hRo hno (upI e427) (by omega) (by omega) (by rw [((hX.2.1 _ hb_v426).1.trans ht_v426)]; decide) (by rw [e427, upd2_ne (.inl (by omega))]; exact Int.le_refl _)
                            have hth := (show I427 83 0 = I425 83 0 by rw [e427, upd2_ne (.inl (by omega))]).trans hth
                            have hzz : ySz I425 I427 := ySz_ofE (upI e427) (by omega)
                            have hB := (hB.trans hX).wr e427 rfl
                            have h8 : ∀ a, 84 ≤ a → a ≤ 86 → I427 a = I a := fun a h1 h2 => (upI e427 a (by omega)).trans ((hX.2.1 a (by omega)).2.1.trans (h8 a h1 h2))
                            have h3k : ∀ k, k ≠ 0 → I427 83 k = I 83 k := fun k hk => (congrFun (congrFun e427 83) k).trans ((upd2_ne (.inl (by omega))).trans ((congrFun (hX.2.1 83 (by omega)).2.1 k).trans (h3k k hk)))
                            have hg := (hg.gx hX (by omega)).both e427
                            have hday : I427 83 1 = I 83 1 := (congrFun (congrFun e427 83) 1).trans ((upd2_ne (.inl (by omega))).trans ((congrFun (hX.2.1 83 (by omega)).2.1 1).trans hday))
                            have hRb : ∀ a, a < n → R a = R a := fun a ha => (hX.2.1 a (by omega)).2.2.trans (hRb a ha)
                            have hS0 := hS
                            have hR0 := hR1
                            have ht_b337 := (hX.2.1 _ hb_b337).1.trans ht_b337
                            have hb_b337 := Nat.lt_of_lt_of_le hb_b337 hX.1
                            have hb0_b337 := hb_b337
                            have ht_v410 := (hX.2.1 _ hb_v410).1.trans ht_v410
                            have hb_v410 := Nat.lt_of_lt_of_le hb_v410 hX.1
                            have hb0_v410 := hb_v410
                            have ht_v414 := (hX.2.1 _ hb_v414).1.trans ht_v414
                            have hb_v414 := Nat.lt_of_lt_of_le hb_v414 hX.1
                            have hb0_v414 := hb_v414
                            have ht_v418 := (hX.2.1 _ hb_v418).1.trans ht_v418
                            have hb_v418 := Nat.lt_of_lt_of_le hb_v418 hX.1
                            have hb0_v418 := hb_v418
                            have ht_v424 := (hX.2.1 _ hb_v424).1.trans ht_v424
                            have hb_v424 := Nat.lt_of_lt_of_le hb_v424 hX.1
                            have hb0_v424 := hb_v424
                            have ht_v426 := (hX.2.1 _ hb_v426).1.trans ht_v426
                            have hb_v426 := Nat.lt_of_lt_of_le hb_v426 hX.1
                            have hb0_v426 := hb_v426
                            have hn := Nat.le_refl n
                            have h94 := hS0.1
                            have hX := @yX.rf n tg I427 R
                            have hS := hS0.x hX
                            have hR := hR0.x hn hX
                            have hz := hX.sz h94
                            have hxn := hX.1
                            have hN := hR0.1
                            have hnb := hR0.2.2.2.2.2.2
                            have hthB := hth
                            refine y_aload_n rfl rfl ?_
                            refine y_getR rfl (ySh.t hS rfl) (ySh.n hS rfl) rfl rfl (ySh.r hS rfl) ?_
                            refine y_iload rfl rfl ?_
                            refine y_dup2 rfl rfl rfl ?_
                            refine y_ialoadw (j := 8) (J := I 84) rfl (ySh.t hS rfl) (ySh.n hS rfl) (by decide) (by decide) rfl (((hB.trans hX).n (by omega)).trans (by repeat (first | rfl | (rw [upd2_row (by first | decide | omega)]) | refine upd2_cg ?_))) ?_
                            refine y_iload rfl rfl ?_
                            refine y_iadd rfl ?_
                            refine y_iastoreC (j := 8) rfl (ySh.t hS rfl) (ySh.n hS rfl) (Nat.le_of_ble_eq_true rfl) (by decide) (by decide) rfl ?_
                            refine y_nameI (fun I428 e428 => ?_)
                            have hR1 := (hR0.grow hX).arr e428 (by decide)
                            have hK := (hK.x hRo hno hX).upI (upI e428) (by decide) (by decide) (fun i hi => by have := (hRo.l87.2.2.2.2 i hi).2.1; omega) (by rw [e428, upd2_ne (.inl (by omega))]; exact Int.le_refl _)
                            have hth := (show I428 83 0 = I427 83 0 by rw [e428, upd2_ne (.inl (by omega))]).trans hth
                            have hzz : ySz I427 I428 := ySz_ofE (upI e428) (by omega)
                            have hB := (hB.trans hX).wr e428 rfl
                            have h3k : ∀ k, k ≠ 0 → I428 83 k = I 83 k := fun k hk => (congrFun (congrFun e428 83) k).trans ((upd2_ne (.inl (by omega))).trans ((congrFun (hX.2.1 83 (by omega)).2.1 k).trans (h3k k hk)))
                            have hg := (hg.gx hX (by omega)).skip e428 (by decide)
                            have hday : I428 83 1 = I 83 1 := (congrFun (congrFun e428 83) 1).trans ((upd2_ne (.inl (by omega))).trans ((congrFun (hX.2.1 83 (by omega)).2.1 1).trans hday))
                            have hRb : ∀ a, a < n → R a = R a := fun a ha => (hX.2.1 a (by omega)).2.2.trans (hRb a ha)
                            have hS0 := hS
                            have hR0 := hR1
                            have ht_b337 := (hX.2.1 _ hb_b337).1.trans ht_b337
                            have hb_b337 := Nat.lt_of_lt_of_le hb_b337 hX.1
                            have hb0_b337 := hb_b337
                            have ht_v410 := (hX.2.1 _ hb_v410).1.trans ht_v410
                            have hb_v410 := Nat.lt_of_lt_of_le hb_v410 hX.1
                            have hb0_v410 := hb_v410
                            have ht_v414 := (hX.2.1 _ hb_v414).1.trans ht_v414
                            have hb_v414 := Nat.lt_of_lt_of_le hb_v414 hX.1
                            have hb0_v414 := hb_v414
                            have ht_v418 := (hX.2.1 _ hb_v418).1.trans ht_v418
                            have hb_v418 := Nat.lt_of_lt_of_le hb_v418 hX.1
                            have hb0_v418 := hb_v418
                            have ht_v424 := (hX.2.1 _ hb_v424).1.trans ht_v424
                            have hb_v424 := Nat.lt_of_lt_of_le hb_v424 hX.1
                            have hb0_v424 := hb_v424
                            have ht_v426 := (hX.2.1 _ hb_v426).1.trans ht_v426
                            have hb_v426 := Nat.lt_of_lt_of_le hb_v426 hX.1
                            have hb0_v426 := hb_v426
                            have hn := Nat.le_refl n
                            have h94 := hS0.1
                            have hX := @yX.rf n tg I428 R
                            have hS := hS0.x hX
                            have hR := hR0.x hn hX
                            have hz := hX.sz h94
                            have hxn := hX.1
                            have hN := hR0.1
                            have hnb := hR0.2.2.2.2.2.2
                            have hthB := hth
                            refine y_aload_n rfl rfl ?_
                            refine y_getR rfl (ySh.t hS rfl) (ySh.n hS rfl) rfl rfl (ySh.r hS rfl) ?_
                            refine y_iload rfl rfl ?_
                            refine y_dup2 rfl rfl rfl ?_
                            refine y_ialoadw (j := 8) (J := _) rfl (ySh.t hS rfl) (ySh.n hS rfl) (by decide) (by decide) rfl ((hB.trans hX).n (by omega)) ?_
                            refine y_iload rfl rfl ?_
                            refine y_isub rfl ?_
                            refine y_iastoreC (j := 8) rfl (ySh.t hS rfl) (ySh.n hS rfl) (Nat.le_of_ble_eq_true rfl) (by decide) (by decide) rfl ?_
                            refine y_nameI (fun I429 e429 => ?_)
                            have hR1 := (hR0.grow hX).arr e429 (by decide)
                            have hK := (hK.x hRo hno hX).upI (upI e429) (by decide) (by decide) (fun i hi => by have := (hRo.l87.2.2.2.2 i hi).2.1; omega) (by rw [e429, upd2_ne (.inl (by omega))]; exact Int.le_refl _)
                            have hth := (show I429 83 0 = I428 83 0 by rw [e429, upd2_ne (.inl (by omega))]).trans hth
                            have hzz : ySz I428 I429 := ySz_ofE (upI e429) (by omega)
                            have hB := (hB.trans hX).wr e429 rfl
                            have h3k : ∀ k, k ≠ 0 → I429 83 k = I 83 k := fun k hk => (congrFun (congrFun e429 83) k).trans ((upd2_ne (.inl (by omega))).trans ((congrFun (hX.2.1 83 (by omega)).2.1 k).trans (h3k k hk)))
                            have hg := (hg.gx hX (by omega)).skip e429 (by decide)
                            have hday : I429 83 1 = I 83 1 := (congrFun (congrFun e429 83) 1).trans ((upd2_ne (.inl (by omega))).trans ((congrFun (hX.2.1 83 (by omega)).2.1 1).trans hday))
                            have hRb : ∀ a, a < n → R a = R a := fun a ha => (hX.2.1 a (by omega)).2.2.trans (hRb a ha)
                            have hS0 := hS
                            have hR0 := hR1
                            have ht_b337 := (hX.2.1 _ hb_b337).1.trans ht_b337
                            have hb_b337 := Nat.lt_of_lt_of_le hb_b337 hX.1
                            have hb0_b337 := hb_b337
                            have ht_v410 := (hX.2.1 _ hb_v410).1.trans ht_v410
                            have hb_v410 := Nat.lt_of_lt_of_le hb_v410 hX.1
                            have hb0_v410 := hb_v410
                            have ht_v414 := (hX.2.1 _ hb_v414).1.trans ht_v414
                            have hb_v414 := Nat.lt_of_lt_of_le hb_v414 hX.1
                            have hb0_v414 := hb_v414
                            have ht_v418 := (hX.2.1 _ hb_v418).1.trans ht_v418
                            have hb_v418 := Nat.lt_of_lt_of_le hb_v418 hX.1
                            have hb0_v418 := hb_v418
                            have ht_v424 := (hX.2.1 _ hb_v424).1.trans ht_v424
                            have hb_v424 := Nat.lt_of_lt_of_le hb_v424 hX.1
                            have hb0_v424 := hb_v424
                            have ht_v426 := (hX.2.1 _ hb_v426).1.trans ht_v426
                            have hb_v426 := Nat.lt_of_lt_of_le hb_v426 hX.1
                            have hb0_v426 := hb_v426
                            have hn := Nat.le_refl n
                            have h94 := hS0.1
                            have hX := @yX.rf n tg I429 R
                            have hS := hS0.x hX
                            have hR := hR0.x hn hX
                            have hz := hX.sz h94
                            have hxn := hX.1
                            have hN := hR0.1
                            have hnb := hR0.2.2.2.2.2.2
                            have hthB := hth
                            refine y_aload rfl rfl ?_
                            obtain ⟨hR_v430, hb_v430, ht_v430⟩ := hR0.ven hlo_b337 hb0_b337 ht_b337 (j := 1) (by decide)
                            have hb0_v430 := hb_v430
                            have hb_v430 := Nat.lt_of_lt_of_le hb_v430 hn
                            have hlo_v430 : 94 ≤ b337 + 1 + 1 := by omega
                            have hR2_v430 := (congrFun (hX.2.1 b337 hb_b337).2.2 1).trans hR_v430
                            refine y_getR rfl ((hX.2.1 _ hb_b337).1.trans ht_b337) (Nat.lt_of_lt_of_le hb_b337 hX.1) rfl rfl hR2_v430 ?_
                            refine y_iload rfl rfl ?_
                            refine y_ialoadw (j := 8) (J := _) rfl ((hX.2.1 _ hb_v430).1.trans ht_v430) (Nat.lt_of_lt_of_le hb_v430 hX.1) (by decide) (by decide) rfl ((hB.trans hX).n (by omega)) ?_
                            refine y_ireturn rfl rfl rfl ?_
                            exact hQ0 _ eb_b337 (by first | omega | (simp only [show ySeat x2 = x2 from if_neg (by omega), show ySeat x3 = x3 from if_neg (by omega)]; omega) | (simp only [show ySeat x2 = x2 from if_neg (by omega), show ySeat x3 = Int32.ofInt 8 from if_pos (by omega), show (Int32.ofInt 8).toInt.toNat = 8 from by decide]; omega) | (simp only [show ySeat x2 = Int32.ofInt 8 from if_pos (by omega), show ySeat x3 = x3 from if_neg (by omega), show (Int32.ofInt 8).toInt.toNat = 8 from by decide]; omega) | (simp only [show ySeat x2 = Int32.ofInt 8 from if_pos (by omega), show ySeat x3 = Int32.ofInt 8 from if_pos (by omega), show (Int32.ofInt 8).toInt.toNat = 8 from by decide]; omega)) _ _ _ _ _ _ _ hS ((hR0.grow hX).up (Nat.le_succ K) hk6) (hK.x hRo hno hX) hth (by first | exact (congrFun ((hB.trans hX).n (by omega)) _).symm | (simp only [show ySeat x2 = x2 from if_neg (by omega), show ySeat x3 = x3 from if_neg (by omega)]; exact (congrFun ((hB.trans hX).n (by omega)) _).symm) | (simp only [show ySeat x2 = x2 from if_neg (by omega), show ySeat x3 = Int32.ofInt 8 from if_pos (by omega), show (Int32.ofInt 8).toInt.toNat = 8 from by decide]; exact (congrFun ((hB.trans hX).n (by omega)) _).symm) | (simp only [show ySeat x2 = Int32.ofInt 8 from if_pos (by omega), show ySeat x3 = x3 from if_neg (by omega), show (Int32.ofInt 8).toInt.toNat = 8 from by decide]; exact (congrFun ((hB.trans hX).n (by omega)) _).symm) | (simp only [show ySeat x2 = Int32.ofInt 8 from if_pos (by omega), show ySeat x3 = Int32.ofInt 8 from if_pos (by omega), show (Int32.ofInt 8).toInt.toNat = 8 from by decide]; exact (congrFun ((hB.trans hX).n (by omega)) _).symm)) (by first | (exact hB.trans hX) | (simp only [show ySeat x2 = x2 from if_neg (by omega), show ySeat x3 = x3 from if_neg (by omega)]; exact hB.trans hX) | (simp only [show ySeat x2 = x2 from if_neg (by omega), show ySeat x3 = Int32.ofInt 8 from if_pos (by omega), show (Int32.ofInt 8).toInt.toNat = 8 from by decide]; exact hB.trans hX) | (simp only [show ySeat x2 = Int32.ofInt 8 from if_pos (by omega), show ySeat x3 = x3 from if_neg (by omega), show (Int32.ofInt 8).toInt.toNat = 8 from by decide]; exact hB.trans hX) | (simp only [show ySeat x2 = Int32.ofInt 8 from if_pos (by omega), show ySeat x3 = Int32.ofInt 8 from if_pos (by omega), show (Int32.ofInt 8).toInt.toNat = 8 from by decide]; exact hB.trans hX)) (by omega) (by omega)
                          · refine y_iconst rfl ?_
                            refine y_goto rfl j_X14_buyOut_147 ?_
                            refine y_iconst rfl ?_
                            refine y_virt rfl rfl rfl rfl rfl (ySh.t hS rfl) (ySh.n hS rfl) ?_
                            refine y_in (M := xm_X14_refuse) (ls := [some _, some _, some _]) rfl rfl rfl ?_
                            refine y_iload_n rfl rfl ?_
                            refine y_if_eqF rfl (by decide) ?_
                            refine y_aload_n rfl rfl ?_
                            refine y_getIv (v := Int32.ofInt (0)) rfl (ySh.t hS rfl) (ySh.n hS rfl) rfl rfl hth ?_
                            refine y_if_neF rfl (by decide) ?_
                            refine y_aload_n rfl rfl ?_
                            refine y_iload_n rfl rfl ?_
                            refine y_putI rfl (ySh.t hS rfl) (ySh.n hS rfl) rfl (Nat.le_of_ble_eq_true rfl) rfl rfl ?_
                            refine y_nameI (fun I431 e431 => ?_)
                            have hR1 := (hR0.grow hX).mod0 e431 (by decide) (by decide)
                            have hK := (hK.x hRo hno hX).upI (upI e431) (by decide) (by decide) (fun i hi => by have := (hRo.l87.2.2.2.2 i hi).2.1; omega) (by rw [e431, upd2_ne (.inr (by decide))]; exact Int.le_refl _)
                            have hth : I431 83 0 = Int32.ofInt (3) := by rw [e431, upd2_self]
                            have hzz : ySz8 I330 I431 := ySz8_of (upI e431) (by rw [e431]; exact ⟨upd2_ne (.inr (by decide)), upd2_ne (.inr (by decide))⟩)
                            have hB := (hB.trans hX).wr e431 rfl
                            have h8 : ∀ a, 84 ≤ a → a ≤ 86 → I431 a = I a := fun a h1 h2 => (upI e431 a (by omega)).trans ((hX.2.1 a (by omega)).2.1.trans (h8 a h1 h2))
                            have h3k : ∀ k, k ≠ 0 → I431 83 k = I 83 k := fun k hk => (congrFun (congrFun e431 83) k).trans ((upd2_ne (.inr hk)).trans ((congrFun (hX.2.1 83 (by omega)).2.1 k).trans (h3k k hk)))
                            have hg := (hg.gx hX (by omega)).skip e431 (by decide)
                            have hday : I431 83 1 = I 83 1 := (congrFun (congrFun e431 83) 1).trans ((upd2_ne (.inr (by decide))).trans ((congrFun (hX.2.1 83 (by omega)).2.1 1).trans hday))
                            have hRb : ∀ a, a < n → R a = R a := fun a ha => (hX.2.1 a (by omega)).2.2.trans (hRb a ha)
                            have hb83 : ∀ a, a ≠ 83 → a < n → I431 a = I a := fun a ha hb => (upI e431 a ha).trans ((hX.2.1 a (by omega)).2.1.trans (hb83 a ha hb))
                            have hS0 := hS
                            have hR0 := hR1
                            have ht_b337 := (hX.2.1 _ hb_b337).1.trans ht_b337
                            have hb_b337 := Nat.lt_of_lt_of_le hb_b337 hX.1
                            have hb0_b337 := hb_b337
                            have ht_v410 := (hX.2.1 _ hb_v410).1.trans ht_v410
                            have hb_v410 := Nat.lt_of_lt_of_le hb_v410 hX.1
                            have hb0_v410 := hb_v410
                            have ht_v414 := (hX.2.1 _ hb_v414).1.trans ht_v414
                            have hb_v414 := Nat.lt_of_lt_of_le hb_v414 hX.1
                            have hb0_v414 := hb_v414
                            have ht_v418 := (hX.2.1 _ hb_v418).1.trans ht_v418
                            have hb_v418 := Nat.lt_of_lt_of_le hb_v418 hX.1
                            have hb0_v418 := hb_v418
                            have hn := Nat.le_refl n
                            have h94 := hS0.1
                            have hX := @yX.rf n tg I431 R
                            have hS := hS0.x hX
                            have hR := hR0.x hn hX
                            have hz := hX.sz h94
                            have hxn := hX.1
                            have hN := hR0.1
                            have hnb := hR0.2.2.2.2.2.2
                            have hthB := hth
                            refine y_aload_n rfl rfl ?_
                            refine y_getIv (v := Int32.ofInt (3)) rfl (ySh.t hS rfl) (ySh.n hS rfl) rfl rfl hth ?_
                            refine y_if_leF rfl (by decide) ?_
                            refine y_iconst rfl ?_
                            refine y_goto rfl j_X14_refuse_28 ?_
                            refine y_ireturn rfl rfl rfl ?_
                            refine y_ret1 ?_
                            refine y_if_eqF rfl (by decide) ?_
                            refine y_iconst rfl ?_
                            refine y_ireturn rfl rfl rfl ?_
                            exact hQ3 _ eb_b337 (by first | omega | (simp only [show ySeat x2 = x2 from if_neg (by omega), show ySeat x3 = x3 from if_neg (by omega)]; omega) | (simp only [show ySeat x2 = x2 from if_neg (by omega), show ySeat x3 = Int32.ofInt 8 from if_pos (by omega), show (Int32.ofInt 8).toInt.toNat = 8 from by decide]; omega) | (simp only [show ySeat x2 = Int32.ofInt 8 from if_pos (by omega), show ySeat x3 = x3 from if_neg (by omega), show (Int32.ofInt 8).toInt.toNat = 8 from by decide]; omega) | (simp only [show ySeat x2 = Int32.ofInt 8 from if_pos (by omega), show ySeat x3 = Int32.ofInt 8 from if_pos (by omega), show (Int32.ofInt 8).toInt.toNat = 8 from by decide]; omega)) _ _ _ _ _ _ _ hS ((hR0.grow hX).up (Nat.le_succ K) hk6) (hK.x hRo hno hX) hth ((hB.trans hX).rf2 (by omega)) (by omega) (by omega)
              · rw [yz_1] at h_336
                rw [yz_999] at h_336
                refine y_ret1 ?_
                refine y_if_neF rfl (by decide) ?_
                refine y_iconst rfl ?_
                refine y_goto rfl j_X14_buyOut_60 ?_
                refine y_iconst rfl ?_
                refine y_virt rfl rfl rfl rfl rfl (ySh.t hS rfl) (ySh.n hS rfl) ?_
                refine y_in (M := xm_X14_refuse) (ls := [some _, some _, some _]) rfl rfl rfl ?_
                refine y_iload_n rfl rfl ?_
                refine y_if_eqF rfl (by decide) ?_
                refine y_aload_n rfl rfl ?_
                refine y_getIv (v := Int32.ofInt (0)) rfl (ySh.t hS rfl) (ySh.n hS rfl) rfl rfl hth ?_
                refine y_if_neF rfl (by decide) ?_
                refine y_aload_n rfl rfl ?_
                refine y_iload_n rfl rfl ?_
                refine y_putI rfl (ySh.t hS rfl) (ySh.n hS rfl) rfl (Nat.le_of_ble_eq_true rfl) rfl rfl ?_
                refine y_nameI (fun I432 e432 => ?_)
                have hR1 := (hR0.grow hX).mod0 e432 (by decide) (by decide)
                have hK := (hK.x hRo hno hX).upI (upI e432) (by decide) (by decide) (fun i hi => by have := (hRo.l87.2.2.2.2 i hi).2.1; omega) (by rw [e432, upd2_ne (.inr (by decide))]; exact Int.le_refl _)
                have hth : I432 83 0 = Int32.ofInt (2) := by rw [e432, upd2_self]
                have hzz : ySz8 I330 I432 := ySz8_of (upI e432) (by rw [e432]; exact ⟨upd2_ne (.inr (by decide)), upd2_ne (.inr (by decide))⟩)
                have hB := (hB.trans hX).wr e432 rfl
                have h8 : ∀ a, 84 ≤ a → a ≤ 86 → I432 a = I a := fun a h1 h2 => (upI e432 a (by omega)).trans ((hX.2.1 a (by omega)).2.1.trans (h8 a h1 h2))
                have h3k : ∀ k, k ≠ 0 → I432 83 k = I 83 k := fun k hk => (congrFun (congrFun e432 83) k).trans ((upd2_ne (.inr hk)).trans ((congrFun (hX.2.1 83 (by omega)).2.1 k).trans (h3k k hk)))
                have hg := (hg.gx hX (by omega)).skip e432 (by decide)
                have hday : I432 83 1 = I 83 1 := (congrFun (congrFun e432 83) 1).trans ((upd2_ne (.inr (by decide))).trans ((congrFun (hX.2.1 83 (by omega)).2.1 1).trans hday))
                have hRb : ∀ a, a < n → R a = R a := fun a ha => (hX.2.1 a (by omega)).2.2.trans (hRb a ha)
                have hb83 : ∀ a, a ≠ 83 → a < n → I432 a = I a := fun a ha hb => (upI e432 a ha).trans ((hX.2.1 a (by omega)).2.1.trans (hb83 a ha hb))
                have hS0 := hS
                have hR0 := hR1
                have hn := Nat.le_refl n
                have h94 := hS0.1
                have hX := @yX.rf n tg I432 R
                have hS := hS0.x hX
                have hR := hR0.x hn hX
                have hz := hX.sz h94
                have hxn := hX.1
                have hN := hR0.1
                have hnb := hR0.2.2.2.2.2.2
                have hthB := hth
                refine y_aload_n rfl rfl ?_
                refine y_getIv (v := Int32.ofInt (2)) rfl (ySh.t hS rfl) (ySh.n hS rfl) rfl rfl hth ?_
                refine y_if_leF rfl (by decide) ?_
                refine y_iconst rfl ?_
                refine y_goto rfl j_X14_refuse_28 ?_
                refine y_ireturn rfl rfl rfl ?_
                refine y_ret1 ?_
                refine y_if_eqF rfl (by decide) ?_
                refine y_iconst rfl ?_
                refine y_ireturn rfl rfl rfl ?_
                exact hQ2 (by first | omega | (simp only [show ySeat x2 = x2 from if_neg (by omega), show ySeat x3 = x3 from if_neg (by omega)]; omega) | (simp only [show ySeat x2 = x2 from if_neg (by omega), show ySeat x3 = Int32.ofInt 8 from if_pos (by omega), show (Int32.ofInt 8).toInt.toNat = 8 from by decide]; omega) | (simp only [show ySeat x2 = Int32.ofInt 8 from if_pos (by omega), show ySeat x3 = x3 from if_neg (by omega), show (Int32.ofInt 8).toInt.toNat = 8 from by decide]; omega) | (simp only [show ySeat x2 = Int32.ofInt 8 from if_pos (by omega), show ySeat x3 = Int32.ofInt 8 from if_pos (by omega), show (Int32.ofInt 8).toInt.toNat = 8 from by decide]; omega)) _ _ _ _ _ _ _ hS ((hR0.grow hX).up (Nat.le_succ K) hk6) (hK.x hRo hno hX) hth ((hB.trans hX).rf2 (by omega)) (by omega) (by omega)
          · rw [yz_0] at h_329
            try rw [ysub (by rw [yz_1]; omega) (by rw [yz_1]; omega), yz_1] at h_329
            refine y_ret1 ?_
            refine y_if_neF rfl (by decide) ?_
            refine y_iconst rfl ?_
            refine y_goto rfl j_X14_isNobody_19 ?_
            refine y_ireturn rfl rfl rfl ?_
            refine y_ret1 ?_
            refine y_if_eqF rfl (by decide) ?_
            refine y_iconst rfl ?_
            refine y_goto rfl j_X14_isNoOne_18 ?_
            refine y_ireturn rfl rfl rfl ?_
            refine y_ret1 ?_
            refine y_if_eqF rfl (by decide) ?_
            refine y_iconst rfl ?_
            refine y_goto rfl j_X14_buyOut_30 ?_
            refine y_iconst rfl ?_
            refine y_virt rfl rfl rfl rfl rfl (ySh.t hS rfl) (ySh.n hS rfl) ?_
            refine y_in (M := xm_X14_start) (ls := [some _, some _, some _]) rfl rfl rfl ?_
            refine y_aload_n rfl rfl ?_
            refine y_iconst rfl ?_
            refine y_putI rfl (ySh.t hS rfl) (ySh.n hS rfl) rfl (Nat.le_of_ble_eq_true rfl) rfl rfl ?_
            refine y_nameI (fun I433 e433 => ?_)
            have hR1 := (hR0.grow hX).mod0 e433 (by decide) (by decide)
            have hK := (hK.x hRo hno hX).upI (upI e433) (by decide) (by decide) (fun i hi => by have := (hRo.l87.2.2.2.2 i hi).2.1; omega) (by rw [e433, upd2_ne (.inr (by decide))]; exact Int.le_refl _)
            have hth : I433 83 0 = Int32.ofInt (0) := by rw [e433, upd2_self]
            have hzz : ySz8 I I433 := ySz8_of (upI e433) (by rw [e433]; exact ⟨upd2_ne (.inr (by decide)), upd2_ne (.inr (by decide))⟩)
            have hB := (hB.trans hX).wr e433 rfl
            have h8 : ∀ a, 84 ≤ a → a ≤ 86 → I433 a = I a := fun a h1 h2 => (upI e433 a (by omega)).trans ((hX.2.1 a (by omega)).2.1.trans (h8 a h1 h2))
            have h3k : ∀ k, k ≠ 0 → I433 83 k = I 83 k := fun k hk => (congrFun (congrFun e433 83) k).trans ((upd2_ne (.inr hk)).trans ((congrFun (hX.2.1 83 (by omega)).2.1 k).trans (h3k k hk)))
            have hg := (hg.gx hX (by omega)).skip e433 (by decide)
            have hday : I433 83 1 = I 83 1 := (congrFun (congrFun e433 83) 1).trans ((upd2_ne (.inr (by decide))).trans ((congrFun (hX.2.1 83 (by omega)).2.1 1).trans hday))
            have hRb : ∀ a, a < n → R a = R a := fun a ha => (hX.2.1 a (by omega)).2.2.trans (hRb a ha)
            have hb83 : ∀ a, a ≠ 83 → a < n → I433 a = I a := fun a ha hb => (upI e433 a ha).trans ((hX.2.1 a (by omega)).2.1.trans (hb83 a ha hb))
            have hS0 := hS
            have hR0 := hR1
            have hn := Nat.le_refl n
            have h94 := hS0.1
            have hX := @yX.rf n tg I433 R
            have hS := hS0.x hX
            have hR := hR0.x hn hX
            have hz := hX.sz h94
            have hxn := hX.1
            have hN := hR0.1
            have hnb := hR0.2.2.2.2.2.2
            have hthB := hth
            refine y_aload_n rfl rfl ?_
            refine y_iload_n rfl rfl ?_
            refine y_iload_n rfl rfl ?_
            refine y_virt rfl rfl rfl rfl rfl (ySh.t hS rfl) (ySh.n hS rfl) ?_
            refine y_in (M := xm_X14_refuse) (ls := [some _, some _, some _]) rfl rfl rfl ?_
            refine y_iload_n rfl rfl ?_
            refine y_if_eqF rfl (by decide) ?_
            refine y_aload_n rfl rfl ?_
            refine y_getIv (v := Int32.ofInt (0)) rfl (ySh.t hS rfl) (ySh.n hS rfl) rfl rfl hth ?_
            refine y_if_neF rfl (by decide) ?_
            refine y_aload_n rfl rfl ?_
            refine y_iload_n rfl rfl ?_
            refine y_putI rfl (ySh.t hS rfl) (ySh.n hS rfl) rfl (Nat.le_of_ble_eq_true rfl) rfl rfl ?_
            refine y_nameI (fun I434 e434 => ?_)
            have hR1 := (hR0.grow hX).mod0 e434 (by decide) (by decide)
            have hK := (hK.x hRo hno hX).upI (upI e434) (by decide) (by decide) (fun i hi => by have := (hRo.l87.2.2.2.2 i hi).2.1; omega) (by rw [e434, upd2_ne (.inr (by decide))]; exact Int.le_refl _)
            have hth : I434 83 0 = Int32.ofInt (1) := by rw [e434, upd2_self]
            have hzz : ySz8 I433 I434 := ySz8_of (upI e434) (by rw [e434]; exact ⟨upd2_ne (.inr (by decide)), upd2_ne (.inr (by decide))⟩)
            have hB := (hB.trans hX).wr e434 rfl
            have h8 : ∀ a, 84 ≤ a → a ≤ 86 → I434 a = I a := fun a h1 h2 => (upI e434 a (by omega)).trans ((hX.2.1 a (by omega)).2.1.trans (h8 a h1 h2))
            have h3k : ∀ k, k ≠ 0 → I434 83 k = I 83 k := fun k hk => (congrFun (congrFun e434 83) k).trans ((upd2_ne (.inr hk)).trans ((congrFun (hX.2.1 83 (by omega)).2.1 k).trans (h3k k hk)))
            have hg := (hg.gx hX (by omega)).skip e434 (by decide)
            have hday : I434 83 1 = I 83 1 := (congrFun (congrFun e434 83) 1).trans ((upd2_ne (.inr (by decide))).trans ((congrFun (hX.2.1 83 (by omega)).2.1 1).trans hday))
            have hRb : ∀ a, a < n → R a = R a := fun a ha => (hX.2.1 a (by omega)).2.2.trans (hRb a ha)
            have hb83 : ∀ a, a ≠ 83 → a < n → I434 a = I a := fun a ha hb => (upI e434 a ha).trans ((hX.2.1 a (by omega)).2.1.trans (hb83 a ha hb))
            have hS0 := hS
            have hR0 := hR1
            have hn := Nat.le_refl n
            have h94 := hS0.1
            have hX := @yX.rf n tg I434 R
            have hS := hS0.x hX
            have hR := hR0.x hn hX
            have hz := hX.sz h94
            have hxn := hX.1
            have hN := hR0.1
            have hnb := hR0.2.2.2.2.2.2
            have hthB := hth
            refine y_aload_n rfl rfl ?_
            refine y_getIv (v := Int32.ofInt (1)) rfl (ySh.t hS rfl) (ySh.n hS rfl) rfl rfl hth ?_
            refine y_if_leF rfl (by decide) ?_
            refine y_iconst rfl ?_
            refine y_goto rfl j_X14_refuse_28 ?_
            refine y_ireturn rfl rfl rfl ?_
            refine y_ret1 ?_
            refine y_ireturn rfl rfl rfl ?_
            refine y_ret1 ?_
            refine y_if_neT rfl j_X14_buyOut_67 (by decide) ?_
            refine y_iconst rfl ?_
            refine y_ireturn rfl rfl rfl ?_
            exact hQ1 (by first | omega | (simp only [show ySeat x2 = x2 from if_neg (by omega), show ySeat x3 = x3 from if_neg (by omega)]; omega) | (simp only [show ySeat x2 = x2 from if_neg (by omega), show ySeat x3 = Int32.ofInt 8 from if_pos (by omega), show (Int32.ofInt 8).toInt.toNat = 8 from by decide]; omega) | (simp only [show ySeat x2 = Int32.ofInt 8 from if_pos (by omega), show ySeat x3 = x3 from if_neg (by omega), show (Int32.ofInt 8).toInt.toNat = 8 from by decide]; omega) | (simp only [show ySeat x2 = Int32.ofInt 8 from if_pos (by omega), show ySeat x3 = Int32.ofInt 8 from if_pos (by omega), show (Int32.ofInt 8).toInt.toNat = 8 from by decide]; omega)) _ _ _ _ _ _ _ hS ((hR0.grow hX).up (Nat.le_succ K) hk6) (hK.x hRo hno hX) hth ((hB.trans hX).rf2 (by omega)) (by omega) (by omega)
      · rw [yz_0] at h_221
        try rw [ysub (by rw [yz_1]; omega) (by rw [yz_1]; omega), yz_1] at h_221
        refine y_ret1 ?_
        refine y_if_neF rfl (by decide) ?_
        refine y_iconst rfl ?_
        refine y_goto rfl j_X14_isNobody_19 ?_
        refine y_ireturn rfl rfl rfl ?_
        refine y_ret1 ?_
        refine y_if_eqF rfl (by decide) ?_
        refine y_iconst rfl ?_
        refine y_goto rfl j_X14_isNoOne_18 ?_
        refine y_ireturn rfl rfl rfl ?_
        refine y_ret1 ?_
        refine y_if_neT rfl j_X14_buyOut_25 (by decide) ?_
        refine y_iconst rfl ?_
        refine y_goto rfl j_X14_buyOut_30 ?_
        refine y_iconst rfl ?_
        refine y_virt rfl rfl rfl rfl rfl (ySh.t hS rfl) (ySh.n hS rfl) ?_
        refine y_in (M := xm_X14_start) (ls := [some _, some _, some _]) rfl rfl rfl ?_
        refine y_aload_n rfl rfl ?_
        refine y_iconst rfl ?_
        refine y_putI rfl (ySh.t hS rfl) (ySh.n hS rfl) rfl (Nat.le_of_ble_eq_true rfl) rfl rfl ?_
        refine y_nameI (fun I435 e435 => ?_)
        have hR1 := (hR0.grow hX).mod0 e435 (by decide) (by decide)
        have hK := (hK.x hRo hno hX).upI (upI e435) (by decide) (by decide) (fun i hi => by have := (hRo.l87.2.2.2.2 i hi).2.1; omega) (by rw [e435, upd2_ne (.inr (by decide))]; exact Int.le_refl _)
        have hth : I435 83 0 = Int32.ofInt (0) := by rw [e435, upd2_self]
        have hzz : ySz8 I I435 := ySz8_of (upI e435) (by rw [e435]; exact ⟨upd2_ne (.inr (by decide)), upd2_ne (.inr (by decide))⟩)
        have hB := (hB.trans hX).wr e435 rfl
        have h8 : ∀ a, 84 ≤ a → a ≤ 86 → I435 a = I a := fun a h1 h2 => (upI e435 a (by omega)).trans ((hX.2.1 a (by omega)).2.1.trans (h8 a h1 h2))
        have h3k : ∀ k, k ≠ 0 → I435 83 k = I 83 k := fun k hk => (congrFun (congrFun e435 83) k).trans ((upd2_ne (.inr hk)).trans ((congrFun (hX.2.1 83 (by omega)).2.1 k).trans (h3k k hk)))
        have hg := (hg.gx hX (by omega)).skip e435 (by decide)
        have hday : I435 83 1 = I 83 1 := (congrFun (congrFun e435 83) 1).trans ((upd2_ne (.inr (by decide))).trans ((congrFun (hX.2.1 83 (by omega)).2.1 1).trans hday))
        have hRb : ∀ a, a < n → R a = R a := fun a ha => (hX.2.1 a (by omega)).2.2.trans (hRb a ha)
        have hb83 : ∀ a, a ≠ 83 → a < n → I435 a = I a := fun a ha hb => (upI e435 a ha).trans ((hX.2.1 a (by omega)).2.1.trans (hb83 a ha hb))
        have hS0 := hS
        have hR0 := hR1
        have hn := Nat.le_refl n
        have h94 := hS0.1
        have hX := @yX.rf n tg I435 R
        have hS := hS0.x hX
        have hR := hR0.x hn hX
        have hz := hX.sz h94
        have hxn := hX.1
        have hN := hR0.1
        have hnb := hR0.2.2.2.2.2.2
        have hthB := hth
        refine y_aload_n rfl rfl ?_
        refine y_iload_n rfl rfl ?_
        refine y_iload_n rfl rfl ?_
        refine y_virt rfl rfl rfl rfl rfl (ySh.t hS rfl) (ySh.n hS rfl) ?_
        refine y_in (M := xm_X14_refuse) (ls := [some _, some _, some _]) rfl rfl rfl ?_
        refine y_iload_n rfl rfl ?_
        refine y_if_eqF rfl (by decide) ?_
        refine y_aload_n rfl rfl ?_
        refine y_getIv (v := Int32.ofInt (0)) rfl (ySh.t hS rfl) (ySh.n hS rfl) rfl rfl hth ?_
        refine y_if_neF rfl (by decide) ?_
        refine y_aload_n rfl rfl ?_
        refine y_iload_n rfl rfl ?_
        refine y_putI rfl (ySh.t hS rfl) (ySh.n hS rfl) rfl (Nat.le_of_ble_eq_true rfl) rfl rfl ?_
        refine y_nameI (fun I436 e436 => ?_)
        have hR1 := (hR0.grow hX).mod0 e436 (by decide) (by decide)
        have hK := (hK.x hRo hno hX).upI (upI e436) (by decide) (by decide) (fun i hi => by have := (hRo.l87.2.2.2.2 i hi).2.1; omega) (by rw [e436, upd2_ne (.inr (by decide))]; exact Int.le_refl _)
        have hth : I436 83 0 = Int32.ofInt (1) := by rw [e436, upd2_self]
        have hzz : ySz8 I435 I436 := ySz8_of (upI e436) (by rw [e436]; exact ⟨upd2_ne (.inr (by decide)), upd2_ne (.inr (by decide))⟩)
        have hB := (hB.trans hX).wr e436 rfl
        have h8 : ∀ a, 84 ≤ a → a ≤ 86 → I436 a = I a := fun a h1 h2 => (upI e436 a (by omega)).trans ((hX.2.1 a (by omega)).2.1.trans (h8 a h1 h2))
        have h3k : ∀ k, k ≠ 0 → I436 83 k = I 83 k := fun k hk => (congrFun (congrFun e436 83) k).trans ((upd2_ne (.inr hk)).trans ((congrFun (hX.2.1 83 (by omega)).2.1 k).trans (h3k k hk)))
        have hg := (hg.gx hX (by omega)).skip e436 (by decide)
        have hday : I436 83 1 = I 83 1 := (congrFun (congrFun e436 83) 1).trans ((upd2_ne (.inr (by decide))).trans ((congrFun (hX.2.1 83 (by omega)).2.1 1).trans hday))
        have hRb : ∀ a, a < n → R a = R a := fun a ha => (hX.2.1 a (by omega)).2.2.trans (hRb a ha)
        have hb83 : ∀ a, a ≠ 83 → a < n → I436 a = I a := fun a ha hb => (upI e436 a ha).trans ((hX.2.1 a (by omega)).2.1.trans (hb83 a ha hb))
        have hS0 := hS
        have hR0 := hR1
        have hn := Nat.le_refl n
        have h94 := hS0.1
        have hX := @yX.rf n tg I436 R
        have hS := hS0.x hX
        have hR := hR0.x hn hX
        have hz := hX.sz h94
        have hxn := hX.1
        have hN := hR0.1
        have hnb := hR0.2.2.2.2.2.2
        have hthB := hth
        refine y_aload_n rfl rfl ?_
        refine y_getIv (v := Int32.ofInt (1)) rfl (ySh.t hS rfl) (ySh.n hS rfl) rfl rfl hth ?_
        refine y_if_leF rfl (by decide) ?_
        refine y_iconst rfl ?_
        refine y_goto rfl j_X14_refuse_28 ?_
        refine y_ireturn rfl rfl rfl ?_
        refine y_ret1 ?_
        refine y_ireturn rfl rfl rfl ?_
        refine y_ret1 ?_
        refine y_if_neT rfl j_X14_buyOut_67 (by decide) ?_
        refine y_iconst rfl ?_
        refine y_ireturn rfl rfl rfl ?_
        exact hQ1 (by first | omega | (simp only [show ySeat x2 = x2 from if_neg (by omega), show ySeat x3 = x3 from if_neg (by omega)]; omega) | (simp only [show ySeat x2 = x2 from if_neg (by omega), show ySeat x3 = Int32.ofInt 8 from if_pos (by omega), show (Int32.ofInt 8).toInt.toNat = 8 from by decide]; omega) | (simp only [show ySeat x2 = Int32.ofInt 8 from if_pos (by omega), show ySeat x3 = x3 from if_neg (by omega), show (Int32.ofInt 8).toInt.toNat = 8 from by decide]; omega) | (simp only [show ySeat x2 = Int32.ofInt 8 from if_pos (by omega), show ySeat x3 = Int32.ofInt 8 from if_pos (by omega), show (Int32.ofInt 8).toInt.toNat = 8 from by decide]; omega)) _ _ _ _ _ _ _ hS ((hR0.grow hX).up (Nat.le_succ K) hk6) (hK.x hRo hno hX) hth ((hB.trans hX).rf2 (by omega)) (by omega) (by omega)
  · rw [yz_0] at h_3
    try rw [ysub (by rw [yz_1]; omega) (by rw [yz_1]; omega), yz_1] at h_3
    refine y_ret1 ?_
    refine y_if_neF rfl (by decide) ?_
    refine y_iconst rfl ?_
    refine y_goto rfl j_X14_isNoVenture_22 ?_
    refine y_ireturn rfl rfl rfl ?_
    refine y_ret1 ?_
    refine y_if_neT rfl j_X14_buyOut_25 (by decide) ?_
    refine y_iconst rfl ?_
    refine y_goto rfl j_X14_buyOut_30 ?_
    refine y_iconst rfl ?_
    refine y_virt rfl rfl rfl rfl rfl (ySh.t hS rfl) (ySh.n hS rfl) ?_
    refine y_in (M := xm_X14_start) (ls := [some _, some _, some _]) rfl rfl rfl ?_
    refine y_aload_n rfl rfl ?_
    refine y_iconst rfl ?_
    refine y_putI rfl (ySh.t hS rfl) (ySh.n hS rfl) rfl (Nat.le_of_ble_eq_true rfl) rfl rfl ?_
    refine y_nameI (fun I437 e437 => ?_)
    have hR1 := (hR0.grow hX).mod0 e437 (by decide) (by decide)
    have hK := (hK.x hRo hno hX).upI (upI e437) (by decide) (by decide) (fun i hi => by have := (hRo.l87.2.2.2.2 i hi).2.1; omega) (by rw [e437, upd2_ne (.inr (by decide))]; exact Int.le_refl _)
    have hth : I437 83 0 = Int32.ofInt (0) := by rw [e437, upd2_self]
    have hzz : ySz8 I I437 := ySz8_of (upI e437) (by rw [e437]; exact ⟨upd2_ne (.inr (by decide)), upd2_ne (.inr (by decide))⟩)
    have hB := (hB.trans hX).wr e437 rfl
    have h8 : ∀ a, 84 ≤ a → a ≤ 86 → I437 a = I a := fun a h1 h2 => (upI e437 a (by omega)).trans ((hX.2.1 a (by omega)).2.1.trans (h8 a h1 h2))
    have h3k : ∀ k, k ≠ 0 → I437 83 k = I 83 k := fun k hk => (congrFun (congrFun e437 83) k).trans ((upd2_ne (.inr hk)).trans ((congrFun (hX.2.1 83 (by omega)).2.1 k).trans (h3k k hk)))
    have hg := (hg.gx hX (by omega)).skip e437 (by decide)
    have hday : I437 83 1 = I 83 1 := (congrFun (congrFun e437 83) 1).trans ((upd2_ne (.inr (by decide))).trans ((congrFun (hX.2.1 83 (by omega)).2.1 1).trans hday))
    have hRb : ∀ a, a < n → R a = R a := fun a ha => (hX.2.1 a (by omega)).2.2.trans (hRb a ha)
    have hb83 : ∀ a, a ≠ 83 → a < n → I437 a = I a := fun a ha hb => (upI e437 a ha).trans ((hX.2.1 a (by omega)).2.1.trans (hb83 a ha hb))
    have hS0 := hS
    have hR0 := hR1
    have hn := Nat.le_refl n
    have h94 := hS0.1
    have hX := @yX.rf n tg I437 R
    have hS := hS0.x hX
    have hR := hR0.x hn hX
    have hz := hX.sz h94
    have hxn := hX.1
    have hN := hR0.1
    have hnb := hR0.2.2.2.2.2.2
    have hthB := hth
    refine y_aload_n rfl rfl ?_
    refine y_iload_n rfl rfl ?_
    refine y_iload_n rfl rfl ?_
    refine y_virt rfl rfl rfl rfl rfl (ySh.t hS rfl) (ySh.n hS rfl) ?_
    refine y_in (M := xm_X14_refuse) (ls := [some _, some _, some _]) rfl rfl rfl ?_
    refine y_iload_n rfl rfl ?_
    refine y_if_eqF rfl (by decide) ?_
    refine y_aload_n rfl rfl ?_
    refine y_getIv (v := Int32.ofInt (0)) rfl (ySh.t hS rfl) (ySh.n hS rfl) rfl rfl hth ?_
    refine y_if_neF rfl (by decide) ?_
    refine y_aload_n rfl rfl ?_
    refine y_iload_n rfl rfl ?_
    refine y_putI rfl (ySh.t hS rfl) (ySh.n hS rfl) rfl (Nat.le_of_ble_eq_true rfl) rfl rfl ?_
    refine y_nameI (fun I438 e438 => ?_)
    have hR1 := (hR0.grow hX).mod0 e438 (by decide) (by decide)
    have hK := (hK.x hRo hno hX).upI (upI e438) (by decide) (by decide) (fun i hi => by have := (hRo.l87.2.2.2.2 i hi).2.1; omega) (by rw [e438, upd2_ne (.inr (by decide))]; exact Int.le_refl _)
    have hth : I438 83 0 = Int32.ofInt (1) := by rw [e438, upd2_self]
    have hzz : ySz8 I437 I438 := ySz8_of (upI e438) (by rw [e438]; exact ⟨upd2_ne (.inr (by decide)), upd2_ne (.inr (by decide))⟩)
    have hB := (hB.trans hX).wr e438 rfl
    have h8 : ∀ a, 84 ≤ a → a ≤ 86 → I438 a = I a := fun a h1 h2 => (upI e438 a (by omega)).trans ((hX.2.1 a (by omega)).2.1.trans (h8 a h1 h2))
    have h3k : ∀ k, k ≠ 0 → I438 83 k = I 83 k := fun k hk => (congrFun (congrFun e438 83) k).trans ((upd2_ne (.inr hk)).trans ((congrFun (hX.2.1 83 (by omega)).2.1 k).trans (h3k k hk)))
    have hg := (hg.gx hX (by omega)).skip e438 (by decide)
    have hday : I438 83 1 = I 83 1 := (congrFun (congrFun e438 83) 1).trans ((upd2_ne (.inr (by decide))).trans ((congrFun (hX.2.1 83 (by omega)).2.1 1).trans hday))
    have hRb : ∀ a, a < n → R a = R a := fun a ha => (hX.2.1 a (by omega)).2.2.trans (hRb a ha)
    have hb83 : ∀ a, a ≠ 83 → a < n → I438 a = I a := fun a ha hb => (upI e438 a ha).trans ((hX.2.1 a (by omega)).2.1.trans (hb83 a ha hb))
    have hS0 := hS
    have hR0 := hR1
    have hn := Nat.le_refl n
    have h94 := hS0.1
    have hX := @yX.rf n tg I438 R
    have hS := hS0.x hX
    have hR := hR0.x hn hX
    have hz := hX.sz h94
    have hxn := hX.1
    have hN := hR0.1
    have hnb := hR0.2.2.2.2.2.2
    have hthB := hth
    refine y_aload_n rfl rfl ?_
    refine y_getIv (v := Int32.ofInt (1)) rfl (ySh.t hS rfl) (ySh.n hS rfl) rfl rfl hth ?_
    refine y_if_leF rfl (by decide) ?_
    refine y_iconst rfl ?_
    refine y_goto rfl j_X14_refuse_28 ?_
    refine y_ireturn rfl rfl rfl ?_
    refine y_ret1 ?_
    refine y_ireturn rfl rfl rfl ?_
    refine y_ret1 ?_
    refine y_if_neT rfl j_X14_buyOut_67 (by decide) ?_
    refine y_iconst rfl ?_
    refine y_ireturn rfl rfl rfl ?_
    exact hQ1 (by first | omega | (simp only [show ySeat x2 = x2 from if_neg (by omega), show ySeat x3 = x3 from if_neg (by omega)]; omega) | (simp only [show ySeat x2 = x2 from if_neg (by omega), show ySeat x3 = Int32.ofInt 8 from if_pos (by omega), show (Int32.ofInt 8).toInt.toNat = 8 from by decide]; omega) | (simp only [show ySeat x2 = Int32.ofInt 8 from if_pos (by omega), show ySeat x3 = x3 from if_neg (by omega), show (Int32.ofInt 8).toInt.toNat = 8 from by decide]; omega) | (simp only [show ySeat x2 = Int32.ofInt 8 from if_pos (by omega), show ySeat x3 = Int32.ofInt 8 from if_pos (by omega), show (Int32.ofInt 8).toInt.toNat = 8 from by decide]; omega)) _ _ _ _ _ _ _ hS ((hR0.grow hX).up (Nat.le_succ K) hk6) (hK.x hRo hno hX) hth ((hB.trans hX).rf2 (by omega)) (by omega) (by omega)
end YXW
