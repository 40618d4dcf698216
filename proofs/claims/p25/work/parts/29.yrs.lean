/-! THE REFERENCE: result (by gen28.py) -/
theorem yneg2 {x : Int32} (h0 : x.toInt < 0) (h1 : -999 ≤ x.toInt) : 0 ≤ (-x).toInt ∧ (-x).toInt ≤ 999 := by
  rw [show (-x).toInt = -x.toInt by rw [Int32.toInt_neg]; exact bmod32 (by omega) (by omega)]
  omega
section YRS
variable {K nb n : Nat} {tg : Nat → yT} {I : Nat → Nat → Int32} {R : Nat → Nat → Value} {c s : Nat} {Q : yQ}
theorem n_result (hS0 : ySh n tg R) (hR0 : yRI K n tg I R) (hk6 : K < 600) {x1 x2 x3 : Int32} (hQ : ∀ (v : Int32) n1 tg1 I1 R1 c1 s1, ySh n1 tg1 R1 → yRI (K + 1) n1 tg1 I1 R1 → yKp n tg I R n1 tg1 I1 R1 → c1 ≤ c + 1 → s1 ≤ s + 9 → Q (.inl (some (.int v))) (n1, tg1, I1, R1) c1 s1) : yC 213 [.ref 83, .int x1, .int x2, .int x3] (n, tg, I, R) c s Q := by
  have hno := Nat.le_refl n
  have hn := hno
  have hRo := hR0
  have hK : yKp n tg I R n tg I R := yKp.rf
  have hX : yX n tg I R n tg I R := yX.rf
  have hS := hS0
  have hR := hR0
  have h94 : 94 ≤ n := hS0.1
  have hz : ySz I I := hX.sz h94
  have hxn := hX.1
  have hN := hR0.1
  have hnb : 94 ≤ n := hR0.2.2.2.2.2.2
  refine y_in (M := xm_X14_result) (ls := [some _, some _, some _, some _, _]) rfl rfl rfl ?_
  refine y_aload_n rfl rfl ?_
  refine y_aload_n rfl rfl ?_
  refine y_iload_n rfl rfl ?_
  refine y_virt rfl rfl rfl rfl rfl (ySh.t hS rfl) (ySh.n hS rfl) ?_
  refine y_in (M := xm_X14_isNoVenture) (ls := [some _, some _]) rfl rfl rfl ?_
  refine y_iload_n rfl rfl ?_
  refine y_iconst rfl ?_
  refine y_aload_n rfl rfl ?_
  refine y_getR rfl (ySh.t hS rfl) (ySh.n hS rfl) rfl rfl (ySh.r hS rfl) ?_
  refine y_virt rfl rfl rfl rfl rfl (ySh.t hS rfl) (ySh.n hS rfl) ?_
  refine y_in (M := xm_Jx4a65c_size_8abf5) (ls := [some _]) rfl rfl rfl ?_
  refine y_aload_n rfl rfl ?_
  refine y_getI rfl (ySh.t hS rfl) (ySh.n hS rfl) rfl rfl ?_
  refine y_ireturn rfl rfl rfl ?_
  refine y_ret1 ?_
  refine y_iconst rfl ?_
  refine y_isub rfl ?_
  refine y_static rfl rfl rfl rfl rfl ?_
  refine r_isIn (fun h_1 h_2 => ?_) (fun h_3 => ?_)
  · rw [yz_0] at h_1
    try rw [ysub (by rw [yz_1]; omega) (by rw [yz_1]; omega), yz_1] at h_2
    refine y_ret1 ?_
    refine y_if_neT rfl j_X14_isNoVenture_21 (by decide) ?_
    refine y_iconst rfl ?_
    refine y_ireturn rfl rfl rfl ?_
    refine y_ret1 ?_
    refine y_if_neF rfl (by decide) ?_
    refine y_iload_n rfl rfl ?_
    refine y_bip rfl (by decide) ?_
    refine y_icmp_eq rfl j_X14_result_27 (fun h_4 => ?_) (fun h_5 => ?_)
    · rw [yz_m2] at h_4
      refine y_iconst rfl ?_
      refine y_iconst rfl ?_
      refine y_virt rfl rfl rfl rfl rfl (ySh.t hS rfl) (ySh.n hS rfl) ?_
      refine y_in (M := xm_X14_start) (ls := [some _, some _, some _]) rfl rfl rfl ?_
      refine y_aload_n rfl rfl ?_
      refine y_iconst rfl ?_
      refine y_putI rfl (ySh.t hS rfl) (ySh.n hS rfl) rfl (Nat.le_of_ble_eq_true rfl) rfl rfl ?_
      refine y_nameI (fun I6 e6 => ?_)
      have hR1 := (hR0.grow hX).mod0 e6 (by decide) (by decide)
      have hK := (hK.x hRo hno hX).upI (upI e6) (by decide) (by decide) (fun i hi => by have := (hRo.l87.2.2.2.2 i hi).2.1; omega) (by rw [e6, upd2_ne (.inr (by decide))]; exact Int.le_refl _)
      have hth : I6 83 0 = Int32.ofInt (0) := by rw [e6, upd2_self]
      have hzz : ySz8 I I6 := ySz8_of (upI e6) (by rw [e6]; exact ⟨upd2_ne (.inr (by decide)), upd2_ne (.inr (by decide))⟩)
      have hS0 := hS
      have hR0 := hR1
      have hn := Nat.le_refl n
      have h94 := hS0.1
      have hX := @yX.rf n tg I6 R
      have hS := hS0.x hX
      have hR := hR0.x hn hX
      have hz := hX.sz h94
      have hxn := hX.1
      have hN := hR0.1
      have hnb := hR0.2.2.2.2.2.2
      have hthB := hth
      refine y_aload_n rfl rfl ?_
      refine y_iload_n rfl rfl ?_
      refine y_iload_n rfl rfl ?_
      refine y_virt rfl rfl rfl rfl rfl (ySh.t hS rfl) (ySh.n hS rfl) ?_
      refine y_in (M := xm_X14_refuse) (ls := [some _, some _, some _]) rfl rfl rfl ?_
      refine y_iload_n rfl rfl ?_
      refine y_if_eqT rfl j_X14_refuse_16 (by decide) ?_
      refine y_aload_n rfl rfl ?_
      refine y_getIv (v := Int32.ofInt (0)) rfl (ySh.t hS rfl) (ySh.n hS rfl) rfl rfl hth ?_
      refine y_if_leT rfl j_X14_refuse_27 (by decide) ?_
      refine y_iconst rfl ?_
      refine y_ireturn rfl rfl rfl ?_
      refine y_ret1 ?_
      refine y_ireturn rfl rfl rfl ?_
      refine y_ret1 ?_
      refine y_if_neF rfl (by decide) ?_
      refine y_aload_n rfl rfl ?_
      refine y_iload_n rfl rfl ?_
      refine y_sip rfl (by decide) ?_
      refine y_sip rfl (by decide) ?_
      refine y_static rfl rfl rfl rfl rfl ?_
      refine r_isIn (fun h_7 h_8 => ?_) (fun h_9 => ?_)
      · rw [yz_m999] at h_7
        rw [yz_999] at h_8
        refine y_ret1 ?_
        refine y_if_neT rfl j_X14_result_53 (by decide) ?_
        refine y_iconst rfl ?_
        refine y_iconst rfl ?_
        refine y_virt rfl rfl rfl rfl rfl (ySh.t hS rfl) (ySh.n hS rfl) ?_
        refine y_in (M := xm_X14_refuse) (ls := [some _, some _, some _]) rfl rfl rfl ?_
        refine y_iload_n rfl rfl ?_
        refine y_if_eqT rfl j_X14_refuse_16 (by decide) ?_
        refine y_aload_n rfl rfl ?_
        refine y_getIv (v := Int32.ofInt (0)) rfl (ySh.t hS rfl) (ySh.n hS rfl) rfl rfl hth ?_
        refine y_if_leT rfl j_X14_refuse_27 (by decide) ?_
        refine y_iconst rfl ?_
        refine y_ireturn rfl rfl rfl ?_
        refine y_ret1 ?_
        refine y_if_neF rfl (by decide) ?_
        refine y_aload_n rfl rfl ?_
        refine y_iload_n rfl rfl ?_
        refine y_bip rfl (by decide) ?_
        refine y_icmp_eq rfl j_X14_result_94 (fun h_10 => ?_) (fun h_11 => ?_)
        · rw [yz_m2] at h_10
          refine y_iconst rfl ?_
          refine y_iconst rfl ?_
          refine y_virt rfl rfl rfl rfl rfl (ySh.t hS rfl) (ySh.n hS rfl) ?_
          refine y_in (M := xm_X14_refuse) (ls := [some _, some _, some _]) rfl rfl rfl ?_
          refine y_iload_n rfl rfl ?_
          refine y_if_eqT rfl j_X14_refuse_16 (by decide) ?_
          refine y_aload_n rfl rfl ?_
          refine y_getIv (v := Int32.ofInt (0)) rfl (ySh.t hS rfl) (ySh.n hS rfl) rfl rfl hth ?_
          refine y_if_leT rfl j_X14_refuse_27 (by decide) ?_
          refine y_iconst rfl ?_
          refine y_ireturn rfl rfl rfl ?_
          refine y_ret1 ?_
          refine y_if_eqT rfl j_X14_result_104 (by decide) ?_
          refine y_aload_n rfl rfl ?_
          refine y_getR rfl (ySh.t hS rfl) (ySh.n hS rfl) rfl rfl (ySh.r hS rfl) ?_
          refine y_iload_n rfl rfl ?_
          refine y_virt rfl rfl rfl rfl rfl (ySh.t hS rfl) (ySh.n hS rfl) ?_
          refine l_get (nb := n) (ySh.t hS rfl) (ySh.n hS rfl) (Nat.le_trans hn hX.1) hR.l91 (by omega) (by omega) (fun b12 eb_b12 hlo_b12 hb0_b12 ht_b12 => ?_)
          have hb_b12 := Nat.lt_of_lt_of_le hb0_b12 hn
          replace ht_b12 := (hX.2.1 _ hb_b12).1.symm.trans ht_b12
          refine y_ret1 ?_
          refine y_cast rfl ((hX.2.1 _ hb_b12).1.trans ht_b12) (Nat.lt_of_lt_of_le hb_b12 hX.1) ?_
          refine y_astore (ls' := [some _, some _, some _, some _, some _]) rfl rfl rfl ?_
          refine y_iload_n rfl rfl ?_
          refine y_if_lt rfl j_X14_result_131 (fun h_13 => ?_) (fun h_14 => ?_)
          · refine y_iload_n rfl rfl ?_
            refine y_bip rfl (by decide) ?_
            refine y_icmp_ne rfl j_X14_result_147 (fun h_15 => ?_) (fun h_16 => ?_)
            · rw [yz_m2] at h_15
              refine y_aload_n rfl rfl ?_
              refine y_getR rfl (ySh.t hS rfl) (ySh.n hS rfl) rfl rfl (ySh.r hS rfl) ?_
              refine y_iload_n rfl rfl ?_
              refine y_static rfl rfl rfl rfl rfl ?_
              refine y_in (M := xm_X14_seat) (ls := [some _]) rfl rfl rfl ?_
              refine y_iload_n rfl rfl ?_
              refine y_iconst rfl ?_
              refine y_icmp_ne rfl j_X14_seat_10 (fun h_17 => ?_) (fun h_18 => ?_)
              · rw [yz_m1] at h_17
                refine y_iload_n rfl rfl ?_
                refine y_ireturn rfl rfl rfl ?_
                refine y_ret1 ?_
                refine y_dup2 rfl rfl rfl ?_
                refine y_iaload rfl (ySh.t hS rfl) (ySh.n hS rfl) (by omega) (by omega) ?_
                refine y_iload_n rfl rfl ?_
                refine y_iadd rfl ?_
                refine y_iastore rfl (ySh.t hS rfl) (ySh.n hS rfl) (Nat.le_of_ble_eq_true rfl) (by omega) (by omega) ?_
                refine y_nameI (fun I19 e19 => ?_)
                have hR1 := (hR0.grow hX).arr e19 (by decide)
                have hK := (hK.x hRo hno hX).upI (upI e19) (by decide) (by decide) (fun i hi => by have := (hRo.l87.2.2.2.2 i hi).2.1; omega) (by rw [e19, upd2_ne (.inl (by omega))]; exact Int.le_refl _)
                have hth := (show I19 83 0 = I6 83 0 by rw [e19, upd2_ne (.inl (by omega))]).trans hth
                have hzz : ySz I6 I19 := ySz_ofE (upI e19) (by omega)
                have hS0 := hS
                have hR0 := hR1
                have ht_b12 := (hX.2.1 _ hb_b12).1.trans ht_b12
                have hb_b12 := Nat.lt_of_lt_of_le hb_b12 hX.1
                have hb0_b12 := hb_b12
                have hn := Nat.le_refl n
                have h94 := hS0.1
                have hX := @yX.rf n tg I19 R
                have hS := hS0.x hX
                have hR := hR0.x hn hX
                have hz := hX.sz h94
                have hxn := hX.1
                have hN := hR0.1
                have hnb := hR0.2.2.2.2.2.2
                have hthB := hth
                refine y_aload rfl rfl ?_
                refine y_aload rfl rfl ?_
                obtain ⟨hR_v20, hb_v20, ht_v20⟩ := hR0.ven hlo_b12 hb0_b12 ht_b12 (j := 1) (by decide)
                have hb0_v20 := hb_v20
                have hb_v20 := Nat.lt_of_lt_of_le hb_v20 hn
                have hlo_v20 : 94 ≤ b12 + 1 + 1 := by omega
                have hR2_v20 := (congrFun (hX.2.1 b12 hb_b12).2.2 1).trans hR_v20
                refine y_getR rfl ((hX.2.1 _ hb_b12).1.trans ht_b12) (Nat.lt_of_lt_of_le hb_b12 hX.1) rfl rfl hR2_v20 ?_
                refine y_virt rfl rfl rfl rfl rfl ((hX.2.1 _ hb_b12).1.trans ht_b12) (Nat.lt_of_lt_of_le hb_b12 hX.1) ?_
                refine r_all ((hX.2.1 _ hb_v20).1.trans ht_v20) (Nat.lt_of_lt_of_le hb_v20 hX.1) (fun v_ => ?_)
                refine y_ret1 ?_
                refine y_ireturn rfl rfl rfl ?_
                exact hQ _ _ _ _ _ _ _ hS ((hR0.grow hX).up (Nat.le_succ K) hk6) (hK.x hRo hno hX) (by omega) (by omega)
              · rw [yz_m1] at h_18
                refine y_bip rfl (by decide) ?_
                refine y_goto rfl j_X14_seat_11 ?_
                refine y_ireturn rfl rfl rfl ?_
                refine y_ret1 ?_
                refine y_dup2 rfl rfl rfl ?_
                refine y_ialoadC (j := 8) rfl (ySh.t hS rfl) (ySh.n hS rfl) (by decide) (by decide) rfl ?_
                refine y_iload_n rfl rfl ?_
                refine y_iadd rfl ?_
                refine y_iastoreC (j := 8) rfl (ySh.t hS rfl) (ySh.n hS rfl) (Nat.le_of_ble_eq_true rfl) (by decide) (by decide) rfl ?_
                refine y_nameI (fun I21 e21 => ?_)
                have hR1 := (hR0.grow hX).arr e21 (by decide)
                have hK := (hK.x hRo hno hX).upI (upI e21) (by decide) (by decide) (fun i hi => by have := (hRo.l87.2.2.2.2 i hi).2.1; omega) (by rw [e21, upd2_ne (.inl (by omega))]; exact Int.le_refl _)
                have hth := (show I21 83 0 = I6 83 0 by rw [e21, upd2_ne (.inl (by omega))]).trans hth
                have hzz : ySz I6 I21 := ySz_ofE (upI e21) (by omega)
                have hS0 := hS
                have hR0 := hR1
                have ht_b12 := (hX.2.1 _ hb_b12).1.trans ht_b12
                have hb_b12 := Nat.lt_of_lt_of_le hb_b12 hX.1
                have hb0_b12 := hb_b12
                have hn := Nat.le_refl n
                have h94 := hS0.1
                have hX := @yX.rf n tg I21 R
                have hS := hS0.x hX
                have hR := hR0.x hn hX
                have hz := hX.sz h94
                have hxn := hX.1
                have hN := hR0.1
                have hnb := hR0.2.2.2.2.2.2
                have hthB := hth
                refine y_aload rfl rfl ?_
                refine y_aload rfl rfl ?_
                obtain ⟨hR_v22, hb_v22, ht_v22⟩ := hR0.ven hlo_b12 hb0_b12 ht_b12 (j := 1) (by decide)
                have hb0_v22 := hb_v22
                have hb_v22 := Nat.lt_of_lt_of_le hb_v22 hn
                have hlo_v22 : 94 ≤ b12 + 1 + 1 := by omega
                have hR2_v22 := (congrFun (hX.2.1 b12 hb_b12).2.2 1).trans hR_v22
                refine y_getR rfl ((hX.2.1 _ hb_b12).1.trans ht_b12) (Nat.lt_of_lt_of_le hb_b12 hX.1) rfl rfl hR2_v22 ?_
                refine y_virt rfl rfl rfl rfl rfl ((hX.2.1 _ hb_b12).1.trans ht_b12) (Nat.lt_of_lt_of_le hb_b12 hX.1) ?_
                refine r_all ((hX.2.1 _ hb_v22).1.trans ht_v22) (Nat.lt_of_lt_of_le hb_v22 hX.1) (fun v_ => ?_)
                refine y_ret1 ?_
                refine y_ireturn rfl rfl rfl ?_
                exact hQ _ _ _ _ _ _ _ hS ((hR0.grow hX).up (Nat.le_succ K) hk6) (hK.x hRo hno hX) (by omega) (by omega)
            · rw [yz_m2] at h_16
              refine y_aload rfl rfl ?_
              refine y_iload_n rfl rfl ?_
              refine y_ineg rfl ?_
              refine y_virt rfl rfl rfl rfl rfl ((hX.2.1 _ hb_b12).1.trans ht_b12) (Nat.lt_of_lt_of_le hb_b12 hX.1) ?_
              refine h_lose hS (hR0.grow hX) hlo_b12 (Nat.lt_of_lt_of_le hb_b12 hX.1) ((hX.2.1 _ hb_b12).1.trans ht_b12) (yneg2 (by omega) (by omega)).1 (yneg2 (by omega) (by omega)).2 (fun n23 tg23 I23 R23 hS1 hR1 hK1 => ?_)
              have hK := (hK.x hRo hno hX).trans hK1
              have hnA := hK1.1
              have ht_b12 := (hK1.2.1 _ (Nat.lt_of_lt_of_le hb_b12 hX.1)).trans ((hX.2.1 _ hb_b12).1.trans ht_b12)
              have hb_b12 := Nat.lt_of_lt_of_le (Nat.lt_of_lt_of_le hb_b12 hX.1) hK1.1
              have hb0_b12 := hb_b12
              have hS0 := hS1
              have hR0 := hR1
              have hn := Nat.le_refl n23
              have h94 := hS0.1
              have hX := @yX.rf n23 tg23 I23 R23
              have hS := hS0.x hX
              have hR := hR0.x hn hX
              have hz := hX.sz h94
              have hxn := hX.1
              have hN := hR0.1
              have hnb := hR0.2.2.2.2.2.2
              refine y_ret0 ?_
              refine y_goto rfl j_X14_result_160 ?_
              refine y_aload rfl rfl ?_
              refine y_aload rfl rfl ?_
              obtain ⟨hR_v24, hb_v24, ht_v24⟩ := hR0.ven hlo_b12 hb0_b12 ht_b12 (j := 1) (by decide)
              have hb0_v24 := hb_v24
              have hb_v24 := Nat.lt_of_lt_of_le hb_v24 hn
              have hlo_v24 : 94 ≤ b12 + 1 + 1 := by omega
              have hR2_v24 := (congrFun (hX.2.1 b12 hb_b12).2.2 1).trans hR_v24
              refine y_getR rfl ((hX.2.1 _ hb_b12).1.trans ht_b12) (Nat.lt_of_lt_of_le hb_b12 hX.1) rfl rfl hR2_v24 ?_
              refine y_virt rfl rfl rfl rfl rfl ((hX.2.1 _ hb_b12).1.trans ht_b12) (Nat.lt_of_lt_of_le hb_b12 hX.1) ?_
              refine r_all ((hX.2.1 _ hb_v24).1.trans ht_v24) (Nat.lt_of_lt_of_le hb_v24 hX.1) (fun v_ => ?_)
              refine y_ret1 ?_
              refine y_ireturn rfl rfl rfl ?_
              exact hQ _ _ _ _ _ _ _ hS ((hR0.grow hX).up (Nat.le_succ K) hk6) (hK.x hRo hno hX) (by omega) (by omega)
          · refine y_aload_n rfl rfl ?_
            refine y_aload rfl rfl ?_
            refine y_iload_n rfl rfl ?_
            refine y_virt rfl rfl rfl rfl rfl (ySh.t hS rfl) (ySh.n hS rfl) ?_
            refine h_profit hS (hR0.grow hX) hlo_b12 (Nat.lt_of_lt_of_le hb_b12 hX.1) ((hX.2.1 _ hb_b12).1.trans ht_b12) (fun n25 tg25 I25 R25 hS1 hR1 hK1 => ?_)
            have hK := (hK.x hRo hno hX).trans hK1
            have hnA := hK1.1
            have ht_b12 := (hK1.2.1 _ (Nat.lt_of_lt_of_le hb_b12 hX.1)).trans ((hX.2.1 _ hb_b12).1.trans ht_b12)
            have hb_b12 := Nat.lt_of_lt_of_le (Nat.lt_of_lt_of_le hb_b12 hX.1) hK1.1
            have hb0_b12 := hb_b12
            have hS0 := hS1
            have hR0 := hR1
            have hn := Nat.le_refl n25
            have h94 := hS0.1
            have hX := @yX.rf n25 tg25 I25 R25
            have hS := hS0.x hX
            have hR := hR0.x hn hX
            have hz := hX.sz h94
            have hxn := hX.1
            have hN := hR0.1
            have hnb := hR0.2.2.2.2.2.2
            refine y_ret0 ?_
            refine y_goto rfl j_X14_result_160 ?_
            refine y_aload rfl rfl ?_
            refine y_aload rfl rfl ?_
            obtain ⟨hR_v26, hb_v26, ht_v26⟩ := hR0.ven hlo_b12 hb0_b12 ht_b12 (j := 1) (by decide)
            have hb0_v26 := hb_v26
            have hb_v26 := Nat.lt_of_lt_of_le hb_v26 hn
            have hlo_v26 : 94 ≤ b12 + 1 + 1 := by omega
            have hR2_v26 := (congrFun (hX.2.1 b12 hb_b12).2.2 1).trans hR_v26
            refine y_getR rfl ((hX.2.1 _ hb_b12).1.trans ht_b12) (Nat.lt_of_lt_of_le hb_b12 hX.1) rfl rfl hR2_v26 ?_
            refine y_virt rfl rfl rfl rfl rfl ((hX.2.1 _ hb_b12).1.trans ht_b12) (Nat.lt_of_lt_of_le hb_b12 hX.1) ?_
            refine r_all ((hX.2.1 _ hb_v26).1.trans ht_v26) (Nat.lt_of_lt_of_le hb_v26 hX.1) (fun v_ => ?_)
            refine y_ret1 ?_
            refine y_ireturn rfl rfl rfl ?_
            exact hQ _ _ _ _ _ _ _ hS ((hR0.grow hX).up (Nat.le_succ K) hk6) (hK.x hRo hno hX) (by omega) (by omega)
        · rw [yz_m2] at h_11
          refine y_aload_n rfl rfl ?_
          refine y_getR rfl (ySh.t hS rfl) (ySh.n hS rfl) rfl rfl (ySh.r hS rfl) ?_
          refine y_iload_n rfl rfl ?_
          refine y_virt rfl rfl rfl rfl rfl (ySh.t hS rfl) (ySh.n hS rfl) ?_
          refine l_get (nb := n) (ySh.t hS rfl) (ySh.n hS rfl) (Nat.le_trans hn hX.1) hR.l91 (by omega) (by omega) (fun b27 eb_b27 hlo_b27 hb0_b27 ht_b27 => ?_)
          have hb_b27 := Nat.lt_of_lt_of_le hb0_b27 hn
          replace ht_b27 := (hX.2.1 _ hb_b27).1.symm.trans ht_b27
          refine y_ret1 ?_
          refine y_cast rfl ((hX.2.1 _ hb_b27).1.trans ht_b27) (Nat.lt_of_lt_of_le hb_b27 hX.1) ?_
          obtain ⟨hR_v28, hb_v28, ht_v28⟩ := hR0.ven hlo_b27 hb0_b27 ht_b27 (j := 0) (by decide)
          have hb0_v28 := hb_v28
          have hb_v28 := Nat.lt_of_lt_of_le hb_v28 hn
          have hlo_v28 : 94 ≤ b27 + 1 + 0 := by omega
          have hR2_v28 := (congrFun (hX.2.1 b27 hb_b27).2.2 0).trans hR_v28
          refine y_getR rfl ((hX.2.1 _ hb_b27).1.trans ht_b27) (Nat.lt_of_lt_of_le hb_b27 hX.1) rfl rfl hR2_v28 ?_
          refine y_iload_n rfl rfl ?_
          refine y_static rfl rfl rfl rfl rfl ?_
          refine y_in (M := xm_X14_seat) (ls := [some _]) rfl rfl rfl ?_
          refine y_iload_n rfl rfl ?_
          refine y_iconst rfl ?_
          refine y_icmp_ne rfl j_X14_seat_10 (fun h_29 => ?_) (fun h_30 => ?_)
          · rw [yz_m1] at h_29
            refine y_iload_n rfl rfl ?_
            refine y_ireturn rfl rfl rfl ?_
            refine y_ret1 ?_
            refine y_baload rfl ((hX.2.1 _ hb_v28).1.trans ht_v28) rfl (Nat.lt_of_lt_of_le hb_v28 hX.1) (by omega) (by omega) ?_
            refine y_if_ne rfl j_X14_result_94 (fun h_31 => ?_) (fun h_32 => ?_)
            · refine y_iconst rfl ?_
              refine y_iconst rfl ?_
              refine y_virt rfl rfl rfl rfl rfl (ySh.t hS rfl) (ySh.n hS rfl) ?_
              refine y_in (M := xm_X14_refuse) (ls := [some _, some _, some _]) rfl rfl rfl ?_
              refine y_iload_n rfl rfl ?_
              refine y_if_eqT rfl j_X14_refuse_16 (by decide) ?_
              refine y_aload_n rfl rfl ?_
              refine y_getIv (v := Int32.ofInt (0)) rfl (ySh.t hS rfl) (ySh.n hS rfl) rfl rfl hth ?_
              refine y_if_leT rfl j_X14_refuse_27 (by decide) ?_
              refine y_iconst rfl ?_
              refine y_ireturn rfl rfl rfl ?_
              refine y_ret1 ?_
              refine y_if_eqT rfl j_X14_result_104 (by decide) ?_
              refine y_aload_n rfl rfl ?_
              refine y_getR rfl (ySh.t hS rfl) (ySh.n hS rfl) rfl rfl (ySh.r hS rfl) ?_
              refine y_iload_n rfl rfl ?_
              refine y_virt rfl rfl rfl rfl rfl (ySh.t hS rfl) (ySh.n hS rfl) ?_
              refine l_get (nb := n) (ySh.t hS rfl) (ySh.n hS rfl) (Nat.le_trans hn hX.1) hR.l91 (by omega) (by omega) (fun b33 eb_b33 hlo_b33 hb0_b33 ht_b33 => ?_)
              have hb_b33 := Nat.lt_of_lt_of_le hb0_b33 hn
              replace ht_b33 := (hX.2.1 _ hb_b33).1.symm.trans ht_b33
              refine y_ret1 ?_
              refine y_cast rfl ((hX.2.1 _ hb_b33).1.trans ht_b33) (Nat.lt_of_lt_of_le hb_b33 hX.1) ?_
              refine y_astore (ls' := [some _, some _, some _, some _, some _]) rfl rfl rfl ?_
              refine y_iload_n rfl rfl ?_
              refine y_if_lt rfl j_X14_result_131 (fun h_34 => ?_) (fun h_35 => ?_)
              · refine y_iload_n rfl rfl ?_
                refine y_bip rfl (by decide) ?_
                refine y_icmp_ne rfl j_X14_result_147 (fun h_36 => ?_) (fun h_37 => ?_)
                · rw [yz_m2] at h_36
                  refine y_aload_n rfl rfl ?_
                  refine y_getR rfl (ySh.t hS rfl) (ySh.n hS rfl) rfl rfl (ySh.r hS rfl) ?_
                  refine y_iload_n rfl rfl ?_
                  refine y_static rfl rfl rfl rfl rfl ?_
                  refine y_in (M := xm_X14_seat) (ls := [some _]) rfl rfl rfl ?_
                  refine y_iload_n rfl rfl ?_
                  refine y_iconst rfl ?_
                  refine y_icmp_ne rfl j_X14_seat_10 (fun h_38 => ?_) (fun h_39 => ?_)
                  · rw [yz_m1] at h_38
                    refine y_iload_n rfl rfl ?_
                    refine y_ireturn rfl rfl rfl ?_
                    refine y_ret1 ?_
                    refine y_dup2 rfl rfl rfl ?_
                    refine y_iaload rfl (ySh.t hS rfl) (ySh.n hS rfl) (by omega) (by omega) ?_
                    refine y_iload_n rfl rfl ?_
                    refine y_iadd rfl ?_
                    refine y_iastore rfl (ySh.t hS rfl) (ySh.n hS rfl) (Nat.le_of_ble_eq_true rfl) (by omega) (by omega) ?_
                    refine y_nameI (fun I40 e40 => ?_)
                    have hR1 := (hR0.grow hX).arr e40 (by decide)
                    have hK := (hK.x hRo hno hX).upI (upI e40) (by decide) (by decide) (fun i hi => by have := (hRo.l87.2.2.2.2 i hi).2.1; omega) (by rw [e40, upd2_ne (.inl (by omega))]; exact Int.le_refl _)
                    have hth := (show I40 83 0 = I6 83 0 by rw [e40, upd2_ne (.inl (by omega))]).trans hth
                    have hzz : ySz I6 I40 := ySz_ofE (upI e40) (by omega)
                    have hS0 := hS
                    have hR0 := hR1
                    have ht_b27 := (hX.2.1 _ hb_b27).1.trans ht_b27
                    have hb_b27 := Nat.lt_of_lt_of_le hb_b27 hX.1
                    have hb0_b27 := hb_b27
                    have ht_v28 := (hX.2.1 _ hb_v28).1.trans ht_v28
                    have hb_v28 := Nat.lt_of_lt_of_le hb_v28 hX.1
                    have hb0_v28 := hb_v28
                    have ht_b33 := (hX.2.1 _ hb_b33).1.trans ht_b33
                    have hb_b33 := Nat.lt_of_lt_of_le hb_b33 hX.1
                    have hb0_b33 := hb_b33
                    have hn := Nat.le_refl n
                    have h94 := hS0.1
                    have hX := @yX.rf n tg I40 R
                    have hS := hS0.x hX
                    have hR := hR0.x hn hX
                    have hz := hX.sz h94
                    have hxn := hX.1
                    have hN := hR0.1
                    have hnb := hR0.2.2.2.2.2.2
                    have hthB := hth
                    refine y_aload rfl rfl ?_
                    refine y_aload rfl rfl ?_
                    obtain ⟨hR_v41, hb_v41, ht_v41⟩ := hR0.ven hlo_b33 hb0_b33 ht_b33 (j := 1) (by decide)
                    have hb0_v41 := hb_v41
                    have hb_v41 := Nat.lt_of_lt_of_le hb_v41 hn
                    have hlo_v41 : 94 ≤ b33 + 1 + 1 := by omega
                    have hR2_v41 := (congrFun (hX.2.1 b33 hb_b33).2.2 1).trans hR_v41
                    refine y_getR rfl ((hX.2.1 _ hb_b33).1.trans ht_b33) (Nat.lt_of_lt_of_le hb_b33 hX.1) rfl rfl hR2_v41 ?_
                    refine y_virt rfl rfl rfl rfl rfl ((hX.2.1 _ hb_b33).1.trans ht_b33) (Nat.lt_of_lt_of_le hb_b33 hX.1) ?_
                    refine r_all ((hX.2.1 _ hb_v41).1.trans ht_v41) (Nat.lt_of_lt_of_le hb_v41 hX.1) (fun v_ => ?_)
                    refine y_ret1 ?_
                    refine y_ireturn rfl rfl rfl ?_
                    exact hQ _ _ _ _ _ _ _ hS ((hR0.grow hX).up (Nat.le_succ K) hk6) (hK.x hRo hno hX) (by omega) (by omega)
                  · rw [yz_m1] at h_39
                    refine y_bip rfl (by decide) ?_
                    refine y_goto rfl j_X14_seat_11 ?_
                    refine y_ireturn rfl rfl rfl ?_
                    refine y_ret1 ?_
                    refine y_dup2 rfl rfl rfl ?_
                    refine y_ialoadC (j := 8) rfl (ySh.t hS rfl) (ySh.n hS rfl) (by decide) (by decide) rfl ?_
                    refine y_iload_n rfl rfl ?_
                    refine y_iadd rfl ?_
                    refine y_iastoreC (j := 8) rfl (ySh.t hS rfl) (ySh.n hS rfl) (Nat.le_of_ble_eq_true rfl) (by decide) (by decide) rfl ?_
                    refine y_nameI (fun I42 e42 => ?_)
                    have hR1 := (hR0.grow hX).arr e42 (by decide)
                    have hK := (hK.x hRo hno hX).upI (upI e42) (by decide) (by decide) (fun i hi => by have := (hRo.l87.2.2.2.2 i hi).2.1; omega) (by rw [e42, upd2_ne (.inl (by omega))]; exact Int.le_refl _)
                    have hth := (show I42 83 0 = I6 83 0 by rw [e42, upd2_ne (.inl (by omega))]).trans hth
                    have hzz : ySz I6 I42 := ySz_ofE (upI e42) (by omega)
                    have hS0 := hS
                    have hR0 := hR1
                    have ht_b27 := (hX.2.1 _ hb_b27).1.trans ht_b27
                    have hb_b27 := Nat.lt_of_lt_of_le hb_b27 hX.1
                    have hb0_b27 := hb_b27
                    have ht_v28 := (hX.2.1 _ hb_v28).1.trans ht_v28
                    have hb_v28 := Nat.lt_of_lt_of_le hb_v28 hX.1
                    have hb0_v28 := hb_v28
                    have ht_b33 := (hX.2.1 _ hb_b33).1.trans ht_b33
                    have hb_b33 := Nat.lt_of_lt_of_le hb_b33 hX.1
                    have hb0_b33 := hb_b33
                    have hn := Nat.le_refl n
                    have h94 := hS0.1
                    have hX := @yX.rf n tg I42 R
                    have hS := hS0.x hX
                    have hR := hR0.x hn hX
                    have hz := hX.sz h94
                    have hxn := hX.1
                    have hN := hR0.1
                    have hnb := hR0.2.2.2.2.2.2
                    have hthB := hth
                    refine y_aload rfl rfl ?_
                    refine y_aload rfl rfl ?_
                    obtain ⟨hR_v43, hb_v43, ht_v43⟩ := hR0.ven hlo_b33 hb0_b33 ht_b33 (j := 1) (by decide)
                    have hb0_v43 := hb_v43
                    have hb_v43 := Nat.lt_of_lt_of_le hb_v43 hn
                    have hlo_v43 : 94 ≤ b33 + 1 + 1 := by omega
                    have hR2_v43 := (congrFun (hX.2.1 b33 hb_b33).2.2 1).trans hR_v43
                    refine y_getR rfl ((hX.2.1 _ hb_b33).1.trans ht_b33) (Nat.lt_of_lt_of_le hb_b33 hX.1) rfl rfl hR2_v43 ?_
                    refine y_virt rfl rfl rfl rfl rfl ((hX.2.1 _ hb_b33).1.trans ht_b33) (Nat.lt_of_lt_of_le hb_b33 hX.1) ?_
                    refine r_all ((hX.2.1 _ hb_v43).1.trans ht_v43) (Nat.lt_of_lt_of_le hb_v43 hX.1) (fun v_ => ?_)
                    refine y_ret1 ?_
                    refine y_ireturn rfl rfl rfl ?_
                    exact hQ _ _ _ _ _ _ _ hS ((hR0.grow hX).up (Nat.le_succ K) hk6) (hK.x hRo hno hX) (by omega) (by omega)
                · rw [yz_m2] at h_37
                  refine y_aload rfl rfl ?_
                  refine y_iload_n rfl rfl ?_
                  refine y_ineg rfl ?_
                  refine y_virt rfl rfl rfl rfl rfl ((hX.2.1 _ hb_b33).1.trans ht_b33) (Nat.lt_of_lt_of_le hb_b33 hX.1) ?_
                  refine h_lose hS (hR0.grow hX) hlo_b33 (Nat.lt_of_lt_of_le hb_b33 hX.1) ((hX.2.1 _ hb_b33).1.trans ht_b33) (yneg2 (by omega) (by omega)).1 (yneg2 (by omega) (by omega)).2 (fun n44 tg44 I44 R44 hS1 hR1 hK1 => ?_)
                  have hK := (hK.x hRo hno hX).trans hK1
                  have hnA := hK1.1
                  have ht_b27 := (hK1.2.1 _ (Nat.lt_of_lt_of_le hb_b27 hX.1)).trans ((hX.2.1 _ hb_b27).1.trans ht_b27)
                  have hb_b27 := Nat.lt_of_lt_of_le (Nat.lt_of_lt_of_le hb_b27 hX.1) hK1.1
                  have hb0_b27 := hb_b27
                  have ht_v28 := (hK1.2.1 _ (Nat.lt_of_lt_of_le hb_v28 hX.1)).trans ((hX.2.1 _ hb_v28).1.trans ht_v28)
                  have hb_v28 := Nat.lt_of_lt_of_le (Nat.lt_of_lt_of_le hb_v28 hX.1) hK1.1
                  have hb0_v28 := hb_v28
                  have ht_b33 := (hK1.2.1 _ (Nat.lt_of_lt_of_le hb_b33 hX.1)).trans ((hX.2.1 _ hb_b33).1.trans ht_b33)
                  have hb_b33 := Nat.lt_of_lt_of_le (Nat.lt_of_lt_of_le hb_b33 hX.1) hK1.1
                  have hb0_b33 := hb_b33
                  have hS0 := hS1
                  have hR0 := hR1
                  have hn := Nat.le_refl n44
                  have h94 := hS0.1
                  have hX := @yX.rf n44 tg44 I44 R44
                  have hS := hS0.x hX
                  have hR := hR0.x hn hX
                  have hz := hX.sz h94
                  have hxn := hX.1
                  have hN := hR0.1
                  have hnb := hR0.2.2.2.2.2.2
                  refine y_ret0 ?_
                  refine y_goto rfl j_X14_result_160 ?_
                  refine y_aload rfl rfl ?_
                  refine y_aload rfl rfl ?_
                  obtain ⟨hR_v45, hb_v45, ht_v45⟩ := hR0.ven hlo_b33 hb0_b33 ht_b33 (j := 1) (by decide)
                  have hb0_v45 := hb_v45
                  have hb_v45 := Nat.lt_of_lt_of_le hb_v45 hn
                  have hlo_v45 : 94 ≤ b33 + 1 + 1 := by omega
                  have hR2_v45 := (congrFun (hX.2.1 b33 hb_b33).2.2 1).trans hR_v45
                  refine y_getR rfl ((hX.2.1 _ hb_b33).1.trans ht_b33) (Nat.lt_of_lt_of_le hb_b33 hX.1) rfl rfl hR2_v45 ?_
                  refine y_virt rfl rfl rfl rfl rfl ((hX.2.1 _ hb_b33).1.trans ht_b33) (Nat.lt_of_lt_of_le hb_b33 hX.1) ?_
                  refine r_all ((hX.2.1 _ hb_v45).1.trans ht_v45) (Nat.lt_of_lt_of_le hb_v45 hX.1) (fun v_ => ?_)
                  refine y_ret1 ?_
                  refine y_ireturn rfl rfl rfl ?_
                  exact hQ _ _ _ _ _ _ _ hS ((hR0.grow hX).up (Nat.le_succ K) hk6) (hK.x hRo hno hX) (by omega) (by omega)
              · refine y_aload_n rfl rfl ?_
                refine y_aload rfl rfl ?_
                refine y_iload_n rfl rfl ?_
                refine y_virt rfl rfl rfl rfl rfl (ySh.t hS rfl) (ySh.n hS rfl) ?_
                refine h_profit hS (hR0.grow hX) hlo_b33 (Nat.lt_of_lt_of_le hb_b33 hX.1) ((hX.2.1 _ hb_b33).1.trans ht_b33) (fun n46 tg46 I46 R46 hS1 hR1 hK1 => ?_)
                have hK := (hK.x hRo hno hX).trans hK1
                have hnA := hK1.1
                have ht_b27 := (hK1.2.1 _ (Nat.lt_of_lt_of_le hb_b27 hX.1)).trans ((hX.2.1 _ hb_b27).1.trans ht_b27)
                have hb_b27 := Nat.lt_of_lt_of_le (Nat.lt_of_lt_of_le hb_b27 hX.1) hK1.1
                have hb0_b27 := hb_b27
                have ht_v28 := (hK1.2.1 _ (Nat.lt_of_lt_of_le hb_v28 hX.1)).trans ((hX.2.1 _ hb_v28).1.trans ht_v28)
                have hb_v28 := Nat.lt_of_lt_of_le (Nat.lt_of_lt_of_le hb_v28 hX.1) hK1.1
                have hb0_v28 := hb_v28
                have ht_b33 := (hK1.2.1 _ (Nat.lt_of_lt_of_le hb_b33 hX.1)).trans ((hX.2.1 _ hb_b33).1.trans ht_b33)
                have hb_b33 := Nat.lt_of_lt_of_le (Nat.lt_of_lt_of_le hb_b33 hX.1) hK1.1
                have hb0_b33 := hb_b33
                have hS0 := hS1
                have hR0 := hR1
                have hn := Nat.le_refl n46
                have h94 := hS0.1
                have hX := @yX.rf n46 tg46 I46 R46
                have hS := hS0.x hX
                have hR := hR0.x hn hX
                have hz := hX.sz h94
                have hxn := hX.1
                have hN := hR0.1
                have hnb := hR0.2.2.2.2.2.2
                refine y_ret0 ?_
                refine y_goto rfl j_X14_result_160 ?_
                refine y_aload rfl rfl ?_
                refine y_aload rfl rfl ?_
                obtain ⟨hR_v47, hb_v47, ht_v47⟩ := hR0.ven hlo_b33 hb0_b33 ht_b33 (j := 1) (by decide)
                have hb0_v47 := hb_v47
                have hb_v47 := Nat.lt_of_lt_of_le hb_v47 hn
                have hlo_v47 : 94 ≤ b33 + 1 + 1 := by omega
                have hR2_v47 := (congrFun (hX.2.1 b33 hb_b33).2.2 1).trans hR_v47
                refine y_getR rfl ((hX.2.1 _ hb_b33).1.trans ht_b33) (Nat.lt_of_lt_of_le hb_b33 hX.1) rfl rfl hR2_v47 ?_
                refine y_virt rfl rfl rfl rfl rfl ((hX.2.1 _ hb_b33).1.trans ht_b33) (Nat.lt_of_lt_of_le hb_b33 hX.1) ?_
                refine r_all ((hX.2.1 _ hb_v47).1.trans ht_v47) (Nat.lt_of_lt_of_le hb_v47 hX.1) (fun v_ => ?_)
                refine y_ret1 ?_
                refine y_ireturn rfl rfl rfl ?_
                exact hQ _ _ _ _ _ _ _ hS ((hR0.grow hX).up (Nat.le_succ K) hk6) (hK.x hRo hno hX) (by omega) (by omega)
            · refine y_iconst rfl ?_
              refine y_goto rfl j_X14_result_95 ?_
              refine y_iconst rfl ?_
              refine y_virt rfl rfl rfl rfl rfl (ySh.t hS rfl) (ySh.n hS rfl) ?_
              refine y_in (M := xm_X14_refuse) (ls := [some _, some _, some _]) rfl rfl rfl ?_
              refine y_iload_n rfl rfl ?_
              refine y_if_eqF rfl (by decide) ?_
              refine y_aload_n rfl rfl ?_
              refine y_getIv (v := Int32.ofInt (0)) rfl (ySh.t hS rfl) (ySh.n hS rfl) rfl rfl hth ?_
              refine y_if_neF rfl (by decide) ?_
              refine y_aload_n rfl rfl ?_
              refine y_iload_n rfl rfl ?_
              refine y_putI rfl (ySh.t hS rfl) (ySh.n hS rfl) rfl (Nat.le_of_ble_eq_true rfl) rfl rfl ?_
              refine y_nameI (fun I48 e48 => ?_)
              have hR1 := (hR0.grow hX).mod0 e48 (by decide) (by decide)
              have hK := (hK.x hRo hno hX).upI (upI e48) (by decide) (by decide) (fun i hi => by have := (hRo.l87.2.2.2.2 i hi).2.1; omega) (by rw [e48, upd2_ne (.inr (by decide))]; exact Int.le_refl _)
              have hth : I48 83 0 = Int32.ofInt (3) := by rw [e48, upd2_self]
              have hzz : ySz8 I6 I48 := ySz8_of (upI e48) (by rw [e48]; exact ⟨upd2_ne (.inr (by decide)), upd2_ne (.inr (by decide))⟩)
              have hS0 := hS
              have hR0 := hR1
              have ht_b27 := (hX.2.1 _ hb_b27).1.trans ht_b27
              have hb_b27 := Nat.lt_of_lt_of_le hb_b27 hX.1
              have hb0_b27 := hb_b27
              have ht_v28 := (hX.2.1 _ hb_v28).1.trans ht_v28
              have hb_v28 := Nat.lt_of_lt_of_le hb_v28 hX.1
              have hb0_v28 := hb_v28
              have hn := Nat.le_refl n
              have h94 := hS0.1
              have hX := @yX.rf n tg I48 R
              have hS := hS0.x hX
              have hR := hR0.x hn hX
              have hz := hX.sz h94
              have hxn := hX.1
              have hN := hR0.1
              have hnb := hR0.2.2.2.2.2.2
              have hthB := hth
              refine y_aload_n rfl rfl ?_
              refine y_getIv (v := Int32.ofInt (3)) rfl (ySh.t hS rfl) (ySh.n hS rfl) rfl rfl hth ?_
              refine y_if_leF rfl (by decide) ?_
              refine y_iconst rfl ?_
              refine y_goto rfl j_X14_refuse_28 ?_
              refine y_ireturn rfl rfl rfl ?_
              refine y_ret1 ?_
              refine y_if_eqF rfl (by decide) ?_
              refine y_iconst rfl ?_
              refine y_ireturn rfl rfl rfl ?_
              exact hQ _ _ _ _ _ _ _ hS ((hR0.grow hX).up (Nat.le_succ K) hk6) (hK.x hRo hno hX) (by omega) (by omega)
          · rw [yz_m1] at h_30
            refine y_bip rfl (by decide) ?_
            refine y_goto rfl j_X14_seat_11 ?_
            refine y_ireturn rfl rfl rfl ?_
            refine y_ret1 ?_
            refine y_baload rfl ((hX.2.1 _ hb_v28).1.trans ht_v28) rfl (Nat.lt_of_lt_of_le hb_v28 hX.1) (by decide) (by decide) ?_
            refine y_if_ne rfl j_X14_result_94 (fun h_49 => ?_) (fun h_50 => ?_)
            · refine y_iconst rfl ?_
              refine y_iconst rfl ?_
              refine y_virt rfl rfl rfl rfl rfl (ySh.t hS rfl) (ySh.n hS rfl) ?_
              refine y_in (M := xm_X14_refuse) (ls := [some _, some _, some _]) rfl rfl rfl ?_
              refine y_iload_n rfl rfl ?_
              refine y_if_eqT rfl j_X14_refuse_16 (by decide) ?_
              refine y_aload_n rfl rfl ?_
              refine y_getIv (v := Int32.ofInt (0)) rfl (ySh.t hS rfl) (ySh.n hS rfl) rfl rfl hth ?_
              refine y_if_leT rfl j_X14_refuse_27 (by decide) ?_
              refine y_iconst rfl ?_
              refine y_ireturn rfl rfl rfl ?_
              refine y_ret1 ?_
              refine y_if_eqT rfl j_X14_result_104 (by decide) ?_
              refine y_aload_n rfl rfl ?_
              refine y_getR rfl (ySh.t hS rfl) (ySh.n hS rfl) rfl rfl (ySh.r hS rfl) ?_
              refine y_iload_n rfl rfl ?_
              refine y_virt rfl rfl rfl rfl rfl (ySh.t hS rfl) (ySh.n hS rfl) ?_
              refine l_get (nb := n) (ySh.t hS rfl) (ySh.n hS rfl) (Nat.le_trans hn hX.1) hR.l91 (by omega) (by omega) (fun b51 eb_b51 hlo_b51 hb0_b51 ht_b51 => ?_)
              have hb_b51 := Nat.lt_of_lt_of_le hb0_b51 hn
              replace ht_b51 := (hX.2.1 _ hb_b51).1.symm.trans ht_b51
              refine y_ret1 ?_
              refine y_cast rfl ((hX.2.1 _ hb_b51).1.trans ht_b51) (Nat.lt_of_lt_of_le hb_b51 hX.1) ?_
              refine y_astore (ls' := [some _, some _, some _, some _, some _]) rfl rfl rfl ?_
              refine y_iload_n rfl rfl ?_
              refine y_if_lt rfl j_X14_result_131 (fun h_52 => ?_) (fun h_53 => ?_)
              · refine y_iload_n rfl rfl ?_
                refine y_bip rfl (by decide) ?_
                refine y_icmp_ne rfl j_X14_result_147 (fun h_54 => ?_) (fun h_55 => ?_)
                · rw [yz_m2] at h_54
                  refine y_aload_n rfl rfl ?_
                  refine y_getR rfl (ySh.t hS rfl) (ySh.n hS rfl) rfl rfl (ySh.r hS rfl) ?_
                  refine y_iload_n rfl rfl ?_
                  refine y_static rfl rfl rfl rfl rfl ?_
                  refine y_in (M := xm_X14_seat) (ls := [some _]) rfl rfl rfl ?_
                  refine y_iload_n rfl rfl ?_
                  refine y_iconst rfl ?_
                  refine y_icmp_ne rfl j_X14_seat_10 (fun h_56 => ?_) (fun h_57 => ?_)
                  · rw [yz_m1] at h_56
                    refine y_iload_n rfl rfl ?_
                    refine y_ireturn rfl rfl rfl ?_
                    refine y_ret1 ?_
                    refine y_dup2 rfl rfl rfl ?_
                    refine y_iaload rfl (ySh.t hS rfl) (ySh.n hS rfl) (by omega) (by omega) ?_
                    refine y_iload_n rfl rfl ?_
                    refine y_iadd rfl ?_
                    refine y_iastore rfl (ySh.t hS rfl) (ySh.n hS rfl) (Nat.le_of_ble_eq_true rfl) (by omega) (by omega) ?_
                    refine y_nameI (fun I58 e58 => ?_)
                    have hR1 := (hR0.grow hX).arr e58 (by decide)
                    have hK := (hK.x hRo hno hX).upI (upI e58) (by decide) (by decide) (fun i hi => by have := (hRo.l87.2.2.2.2 i hi).2.1; omega) (by rw [e58, upd2_ne (.inl (by omega))]; exact Int.le_refl _)
                    have hth := (show I58 83 0 = I6 83 0 by rw [e58, upd2_ne (.inl (by omega))]).trans hth
                    have hzz : ySz I6 I58 := ySz_ofE (upI e58) (by omega)
                    have hS0 := hS
                    have hR0 := hR1
                    have ht_b27 := (hX.2.1 _ hb_b27).1.trans ht_b27
                    have hb_b27 := Nat.lt_of_lt_of_le hb_b27 hX.1
                    have hb0_b27 := hb_b27
                    have ht_v28 := (hX.2.1 _ hb_v28).1.trans ht_v28
                    have hb_v28 := Nat.lt_of_lt_of_le hb_v28 hX.1
                    have hb0_v28 := hb_v28
                    have ht_b51 := (hX.2.1 _ hb_b51).1.trans ht_b51
                    have hb_b51 := Nat.lt_of_lt_of_le hb_b51 hX.1
                    have hb0_b51 := hb_b51
                    have hn := Nat.le_refl n
                    have h94 := hS0.1
                    have hX := @yX.rf n tg I58 R
                    have hS := hS0.x hX
                    have hR := hR0.x hn hX
                    have hz := hX.sz h94
                    have hxn := hX.1
                    have hN := hR0.1
                    have hnb := hR0.2.2.2.2.2.2
                    have hthB := hth
                    refine y_aload rfl rfl ?_
                    refine y_aload rfl rfl ?_
                    obtain ⟨hR_v59, hb_v59, ht_v59⟩ := hR0.ven hlo_b51 hb0_b51 ht_b51 (j := 1) (by decide)
                    have hb0_v59 := hb_v59
                    have hb_v59 := Nat.lt_of_lt_of_le hb_v59 hn
                    have hlo_v59 : 94 ≤ b51 + 1 + 1 := by omega
                    have hR2_v59 := (congrFun (hX.2.1 b51 hb_b51).2.2 1).trans hR_v59
                    refine y_getR rfl ((hX.2.1 _ hb_b51).1.trans ht_b51) (Nat.lt_of_lt_of_le hb_b51 hX.1) rfl rfl hR2_v59 ?_
                    refine y_virt rfl rfl rfl rfl rfl ((hX.2.1 _ hb_b51).1.trans ht_b51) (Nat.lt_of_lt_of_le hb_b51 hX.1) ?_
                    refine r_all ((hX.2.1 _ hb_v59).1.trans ht_v59) (Nat.lt_of_lt_of_le hb_v59 hX.1) (fun v_ => ?_)
                    refine y_ret1 ?_
                    refine y_ireturn rfl rfl rfl ?_
                    exact hQ _ _ _ _ _ _ _ hS ((hR0.grow hX).up (Nat.le_succ K) hk6) (hK.x hRo hno hX) (by omega) (by omega)
                  · rw [yz_m1] at h_57
                    refine y_bip rfl (by decide) ?_
                    refine y_goto rfl j_X14_seat_11 ?_
                    refine y_ireturn rfl rfl rfl ?_
                    refine y_ret1 ?_
                    refine y_dup2 rfl rfl rfl ?_
                    refine y_ialoadC (j := 8) rfl (ySh.t hS rfl) (ySh.n hS rfl) (by decide) (by decide) rfl ?_
                    refine y_iload_n rfl rfl ?_
                    refine y_iadd rfl ?_
                    refine y_iastoreC (j := 8) rfl (ySh.t hS rfl) (ySh.n hS rfl) (Nat.le_of_ble_eq_true rfl) (by decide) (by decide) rfl ?_
                    refine y_nameI (fun I60 e60 => ?_)
                    have hR1 := (hR0.grow hX).arr e60 (by decide)
                    have hK := (hK.x hRo hno hX).upI (upI e60) (by decide) (by decide) (fun i hi => by have := (hRo.l87.2.2.2.2 i hi).2.1; omega) (by rw [e60, upd2_ne (.inl (by omega))]; exact Int.le_refl _)
                    have hth := (show I60 83 0 = I6 83 0 by rw [e60, upd2_ne (.inl (by omega))]).trans hth
                    have hzz : ySz I6 I60 := ySz_ofE (upI e60) (by omega)
                    have hS0 := hS
                    have hR0 := hR1
                    have ht_b27 := (hX.2.1 _ hb_b27).1.trans ht_b27
                    have hb_b27 := Nat.lt_of_lt_of_le hb_b27 hX.1
                    have hb0_b27 := hb_b27
                    have ht_v28 := (hX.2.1 _ hb_v28).1.trans ht_v28
                    have hb_v28 := Nat.lt_of_lt_of_le hb_v28 hX.1
                    have hb0_v28 := hb_v28
                    have ht_b51 := (hX.2.1 _ hb_b51).1.trans ht_b51
                    have hb_b51 := Nat.lt_of_lt_of_le hb_b51 hX.1
                    have hb0_b51 := hb_b51
                    have hn := Nat.le_refl n
                    have h94 := hS0.1
                    have hX := @yX.rf n tg I60 R
                    have hS := hS0.x hX
                    have hR := hR0.x hn hX
                    have hz := hX.sz h94
                    have hxn := hX.1
                    have hN := hR0.1
                    have hnb := hR0.2.2.2.2.2.2
                    have hthB := hth
                    refine y_aload rfl rfl ?_
                    refine y_aload rfl rfl ?_
                    obtain ⟨hR_v61, hb_v61, ht_v61⟩ := hR0.ven hlo_b51 hb0_b51 ht_b51 (j := 1) (by decide)
                    have hb0_v61 := hb_v61
                    have hb_v61 := Nat.lt_of_lt_of_le hb_v61 hn
                    have hlo_v61 : 94 ≤ b51 + 1 + 1 := by omega
                    have hR2_v61 := (congrFun (hX.2.1 b51 hb_b51).2.2 1).trans hR_v61
                    refine y_getR rfl ((hX.2.1 _ hb_b51).1.trans ht_b51) (Nat.lt_of_lt_of_le hb_b51 hX.1) rfl rfl hR2_v61 ?_
                    refine y_virt rfl rfl rfl rfl rfl ((hX.2.1 _ hb_b51).1.trans ht_b51) (Nat.lt_of_lt_of_le hb_b51 hX.1) ?_
                    refine r_all ((hX.2.1 _ hb_v61).1.trans ht_v61) (Nat.lt_of_lt_of_le hb_v61 hX.1) (fun v_ => ?_)
                    refine y_ret1 ?_
                    refine y_ireturn rfl rfl rfl ?_
                    exact hQ _ _ _ _ _ _ _ hS ((hR0.grow hX).up (Nat.le_succ K) hk6) (hK.x hRo hno hX) (by omega) (by omega)
                · rw [yz_m2] at h_55
                  refine y_aload rfl rfl ?_
                  refine y_iload_n rfl rfl ?_
                  refine y_ineg rfl ?_
                  refine y_virt rfl rfl rfl rfl rfl ((hX.2.1 _ hb_b51).1.trans ht_b51) (Nat.lt_of_lt_of_le hb_b51 hX.1) ?_
                  refine h_lose hS (hR0.grow hX) hlo_b51 (Nat.lt_of_lt_of_le hb_b51 hX.1) ((hX.2.1 _ hb_b51).1.trans ht_b51) (yneg2 (by omega) (by omega)).1 (yneg2 (by omega) (by omega)).2 (fun n62 tg62 I62 R62 hS1 hR1 hK1 => ?_)
                  have hK := (hK.x hRo hno hX).trans hK1
                  have hnA := hK1.1
                  have ht_b27 := (hK1.2.1 _ (Nat.lt_of_lt_of_le hb_b27 hX.1)).trans ((hX.2.1 _ hb_b27).1.trans ht_b27)
                  have hb_b27 := Nat.lt_of_lt_of_le (Nat.lt_of_lt_of_le hb_b27 hX.1) hK1.1
                  have hb0_b27 := hb_b27
                  have ht_v28 := (hK1.2.1 _ (Nat.lt_of_lt_of_le hb_v28 hX.1)).trans ((hX.2.1 _ hb_v28).1.trans ht_v28)
                  have hb_v28 := Nat.lt_of_lt_of_le (Nat.lt_of_lt_of_le hb_v28 hX.1) hK1.1
                  have hb0_v28 := hb_v28
                  have ht_b51 := (hK1.2.1 _ (Nat.lt_of_lt_of_le hb_b51 hX.1)).trans ((hX.2.1 _ hb_b51).1.trans ht_b51)
                  have hb_b51 := Nat.lt_of_lt_of_le (Nat.lt_of_lt_of_le hb_b51 hX.1) hK1.1
                  have hb0_b51 := hb_b51
                  have hS0 := hS1
                  have hR0 := hR1
                  have hn := Nat.le_refl n62
                  have h94 := hS0.1
                  have hX := @yX.rf n62 tg62 I62 R62
                  have hS := hS0.x hX
                  have hR := hR0.x hn hX
                  have hz := hX.sz h94
                  have hxn := hX.1
                  have hN := hR0.1
                  have hnb := hR0.2.2.2.2.2.2
                  refine y_ret0 ?_
                  refine y_goto rfl j_X14_result_160 ?_
                  refine y_aload rfl rfl ?_
                  refine y_aload rfl rfl ?_
                  obtain ⟨hR_v63, hb_v63, ht_v63⟩ := hR0.ven hlo_b51 hb0_b51 ht_b51 (j := 1) (by decide)
                  have hb0_v63 := hb_v63
                  have hb_v63 := Nat.lt_of_lt_of_le hb_v63 hn
                  have hlo_v63 : 94 ≤ b51 + 1 + 1 := by omega
                  have hR2_v63 := (congrFun (hX.2.1 b51 hb_b51).2.2 1).trans hR_v63
                  refine y_getR rfl ((hX.2.1 _ hb_b51).1.trans ht_b51) (Nat.lt_of_lt_of_le hb_b51 hX.1) rfl rfl hR2_v63 ?_
                  refine y_virt rfl rfl rfl rfl rfl ((hX.2.1 _ hb_b51).1.trans ht_b51) (Nat.lt_of_lt_of_le hb_b51 hX.1) ?_
                  refine r_all ((hX.2.1 _ hb_v63).1.trans ht_v63) (Nat.lt_of_lt_of_le hb_v63 hX.1) (fun v_ => ?_)
                  refine y_ret1 ?_
                  refine y_ireturn rfl rfl rfl ?_
                  exact hQ _ _ _ _ _ _ _ hS ((hR0.grow hX).up (Nat.le_succ K) hk6) (hK.x hRo hno hX) (by omega) (by omega)
              · refine y_aload_n rfl rfl ?_
                refine y_aload rfl rfl ?_
                refine y_iload_n rfl rfl ?_
                refine y_virt rfl rfl rfl rfl rfl (ySh.t hS rfl) (ySh.n hS rfl) ?_
                refine h_profit hS (hR0.grow hX) hlo_b51 (Nat.lt_of_lt_of_le hb_b51 hX.1) ((hX.2.1 _ hb_b51).1.trans ht_b51) (fun n64 tg64 I64 R64 hS1 hR1 hK1 => ?_)
                have hK := (hK.x hRo hno hX).trans hK1
                have hnA := hK1.1
                have ht_b27 := (hK1.2.1 _ (Nat.lt_of_lt_of_le hb_b27 hX.1)).trans ((hX.2.1 _ hb_b27).1.trans ht_b27)
                have hb_b27 := Nat.lt_of_lt_of_le (Nat.lt_of_lt_of_le hb_b27 hX.1) hK1.1
                have hb0_b27 := hb_b27
                have ht_v28 := (hK1.2.1 _ (Nat.lt_of_lt_of_le hb_v28 hX.1)).trans ((hX.2.1 _ hb_v28).1.trans ht_v28)
                have hb_v28 := Nat.lt_of_lt_of_le (Nat.lt_of_lt_of_le hb_v28 hX.1) hK1.1
                have hb0_v28 := hb_v28
                have ht_b51 := (hK1.2.1 _ (Nat.lt_of_lt_of_le hb_b51 hX.1)).trans ((hX.2.1 _ hb_b51).1.trans ht_b51)
                have hb_b51 := Nat.lt_of_lt_of_le (Nat.lt_of_lt_of_le hb_b51 hX.1) hK1.1
                have hb0_b51 := hb_b51
                have hS0 := hS1
                have hR0 := hR1
                have hn := Nat.le_refl n64
                have h94 := hS0.1
                have hX := @yX.rf n64 tg64 I64 R64
                have hS := hS0.x hX
                have hR := hR0.x hn hX
                have hz := hX.sz h94
                have hxn := hX.1
                have hN := hR0.1
                have hnb := hR0.2.2.2.2.2.2
                refine y_ret0 ?_
                refine y_goto rfl j_X14_result_160 ?_
                refine y_aload rfl rfl ?_
                refine y_aload rfl rfl ?_
                obtain ⟨hR_v65, hb_v65, ht_v65⟩ := hR0.ven hlo_b51 hb0_b51 ht_b51 (j := 1) (by decide)
                have hb0_v65 := hb_v65
                have hb_v65 := Nat.lt_of_lt_of_le hb_v65 hn
                have hlo_v65 : 94 ≤ b51 + 1 + 1 := by omega
                have hR2_v65 := (congrFun (hX.2.1 b51 hb_b51).2.2 1).trans hR_v65
                refine y_getR rfl ((hX.2.1 _ hb_b51).1.trans ht_b51) (Nat.lt_of_lt_of_le hb_b51 hX.1) rfl rfl hR2_v65 ?_
                refine y_virt rfl rfl rfl rfl rfl ((hX.2.1 _ hb_b51).1.trans ht_b51) (Nat.lt_of_lt_of_le hb_b51 hX.1) ?_
                refine r_all ((hX.2.1 _ hb_v65).1.trans ht_v65) (Nat.lt_of_lt_of_le hb_v65 hX.1) (fun v_ => ?_)
                refine y_ret1 ?_
                refine y_ireturn rfl rfl rfl ?_
                exact hQ _ _ _ _ _ _ _ hS ((hR0.grow hX).up (Nat.le_succ K) hk6) (hK.x hRo hno hX) (by omega) (by omega)
            · refine y_iconst rfl ?_
              refine y_goto rfl j_X14_result_95 ?_
              refine y_iconst rfl ?_
              refine y_virt rfl rfl rfl rfl rfl (ySh.t hS rfl) (ySh.n hS rfl) ?_
              refine y_in (M := xm_X14_refuse) (ls := [some _, some _, some _]) rfl rfl rfl ?_
              refine y_iload_n rfl rfl ?_
              refine y_if_eqF rfl (by decide) ?_
              refine y_aload_n rfl rfl ?_
              refine y_getIv (v := Int32.ofInt (0)) rfl (ySh.t hS rfl) (ySh.n hS rfl) rfl rfl hth ?_
              refine y_if_neF rfl (by decide) ?_
              refine y_aload_n rfl rfl ?_
              refine y_iload_n rfl rfl ?_
              refine y_putI rfl (ySh.t hS rfl) (ySh.n hS rfl) rfl (Nat.le_of_ble_eq_true rfl) rfl rfl ?_
              refine y_nameI (fun I66 e66 => ?_)
              have hR1 := (hR0.grow hX).mod0 e66 (by decide) (by decide)
              have hK := (hK.x hRo hno hX).upI (upI e66) (by decide) (by decide) (fun i hi => by have := (hRo.l87.2.2.2.2 i hi).2.1; omega) (by rw [e66, upd2_ne (.inr (by decide))]; exact Int.le_refl _)
              have hth : I66 83 0 = Int32.ofInt (3) := by rw [e66, upd2_self]
              have hzz : ySz8 I6 I66 := ySz8_of (upI e66) (by rw [e66]; exact ⟨upd2_ne (.inr (by decide)), upd2_ne (.inr (by decide))⟩)
              have hS0 := hS
              have hR0 := hR1
              have ht_b27 := (hX.2.1 _ hb_b27).1.trans ht_b27
              have hb_b27 := Nat.lt_of_lt_of_le hb_b27 hX.1
              have hb0_b27 := hb_b27
              have ht_v28 := (hX.2.1 _ hb_v28).1.trans ht_v28
              have hb_v28 := Nat.lt_of_lt_of_le hb_v28 hX.1
              have hb0_v28 := hb_v28
              have hn := Nat.le_refl n
              have h94 := hS0.1
              have hX := @yX.rf n tg I66 R
              have hS := hS0.x hX
              have hR := hR0.x hn hX
              have hz := hX.sz h94
              have hxn := hX.1
              have hN := hR0.1
              have hnb := hR0.2.2.2.2.2.2
              have hthB := hth
              refine y_aload_n rfl rfl ?_
              refine y_getIv (v := Int32.ofInt (3)) rfl (ySh.t hS rfl) (ySh.n hS rfl) rfl rfl hth ?_
              refine y_if_leF rfl (by decide) ?_
              refine y_iconst rfl ?_
              refine y_goto rfl j_X14_refuse_28 ?_
              refine y_ireturn rfl rfl rfl ?_
              refine y_ret1 ?_
              refine y_if_eqF rfl (by decide) ?_
              refine y_iconst rfl ?_
              refine y_ireturn rfl rfl rfl ?_
              exact hQ _ _ _ _ _ _ _ hS ((hR0.grow hX).up (Nat.le_succ K) hk6) (hK.x hRo hno hX) (by omega) (by omega)
      · rw [yz_m999] at h_9
        rw [yz_999] at h_9
        refine y_ret1 ?_
        refine y_if_neF rfl (by decide) ?_
        refine y_iconst rfl ?_
        refine y_goto rfl j_X14_result_54 ?_
        refine y_iconst rfl ?_
        refine y_virt rfl rfl rfl rfl rfl (ySh.t hS rfl) (ySh.n hS rfl) ?_
        refine y_in (M := xm_X14_refuse) (ls := [some _, some _, some _]) rfl rfl rfl ?_
        refine y_iload_n rfl rfl ?_
        refine y_if_eqF rfl (by decide) ?_
        refine y_aload_n rfl rfl ?_
        refine y_getIv (v := Int32.ofInt (0)) rfl (ySh.t hS rfl) (ySh.n hS rfl) rfl rfl hth ?_
        refine y_if_neF rfl (by decide) ?_
        refine y_aload_n rfl rfl ?_
        refine y_iload_n rfl rfl ?_
        refine y_putI rfl (ySh.t hS rfl) (ySh.n hS rfl) rfl (Nat.le_of_ble_eq_true rfl) rfl rfl ?_
        refine y_nameI (fun I67 e67 => ?_)
        have hR1 := (hR0.grow hX).mod0 e67 (by decide) (by decide)
        have hK := (hK.x hRo hno hX).upI (upI e67) (by decide) (by decide) (fun i hi => by have := (hRo.l87.2.2.2.2 i hi).2.1; omega) (by rw [e67, upd2_ne (.inr (by decide))]; exact Int.le_refl _)
        have hth : I67 83 0 = Int32.ofInt (2) := by rw [e67, upd2_self]
        have hzz : ySz8 I6 I67 := ySz8_of (upI e67) (by rw [e67]; exact ⟨upd2_ne (.inr (by decide)), upd2_ne (.inr (by decide))⟩)
        have hS0 := hS
        have hR0 := hR1
        have hn := Nat.le_refl n
        have h94 := hS0.1
        have hX := @yX.rf n tg I67 R
        have hS := hS0.x hX
        have hR := hR0.x hn hX
        have hz := hX.sz h94
        have hxn := hX.1
        have hN := hR0.1
        have hnb := hR0.2.2.2.2.2.2
        have hthB := hth
        refine y_aload_n rfl rfl ?_
        refine y_getIv (v := Int32.ofInt (2)) rfl (ySh.t hS rfl) (ySh.n hS rfl) rfl rfl hth ?_
        refine y_if_leF rfl (by decide) ?_
        refine y_iconst rfl ?_
        refine y_goto rfl j_X14_refuse_28 ?_
        refine y_ireturn rfl rfl rfl ?_
        refine y_ret1 ?_
        refine y_if_neT rfl j_X14_result_102 (by decide) ?_
        refine y_iconst rfl ?_
        refine y_ireturn rfl rfl rfl ?_
        exact hQ _ _ _ _ _ _ _ hS ((hR0.grow hX).up (Nat.le_succ K) hk6) (hK.x hRo hno hX) (by omega) (by omega)
    · rw [yz_m2] at h_5
      refine y_aload_n rfl rfl ?_
      refine y_iload_n rfl rfl ?_
      refine y_virt rfl rfl rfl rfl rfl (ySh.t hS rfl) (ySh.n hS rfl) ?_
      refine y_in (M := xm_X14_isNoOne) (ls := [some _, some _]) rfl rfl rfl ?_
      refine y_iload_n rfl rfl ?_
      refine y_iconst rfl ?_
      refine y_icmp_eq rfl j_X14_isNoOne_17 (fun h_68 => ?_) (fun h_69 => ?_)
      · rw [yz_m1] at h_68
        refine y_iconst rfl ?_
        refine y_ireturn rfl rfl rfl ?_
        refine y_ret1 ?_
        refine y_if_eqT rfl j_X14_result_27 (by decide) ?_
        refine y_iconst rfl ?_
        refine y_iconst rfl ?_
        refine y_virt rfl rfl rfl rfl rfl (ySh.t hS rfl) (ySh.n hS rfl) ?_
        refine y_in (M := xm_X14_start) (ls := [some _, some _, some _]) rfl rfl rfl ?_
        refine y_aload_n rfl rfl ?_
        refine y_iconst rfl ?_
        refine y_putI rfl (ySh.t hS rfl) (ySh.n hS rfl) rfl (Nat.le_of_ble_eq_true rfl) rfl rfl ?_
        refine y_nameI (fun I70 e70 => ?_)
        have hR1 := (hR0.grow hX).mod0 e70 (by decide) (by decide)
        have hK := (hK.x hRo hno hX).upI (upI e70) (by decide) (by decide) (fun i hi => by have := (hRo.l87.2.2.2.2 i hi).2.1; omega) (by rw [e70, upd2_ne (.inr (by decide))]; exact Int.le_refl _)
        have hth : I70 83 0 = Int32.ofInt (0) := by rw [e70, upd2_self]
        have hzz : ySz8 I I70 := ySz8_of (upI e70) (by rw [e70]; exact ⟨upd2_ne (.inr (by decide)), upd2_ne (.inr (by decide))⟩)
        have hS0 := hS
        have hR0 := hR1
        have hn := Nat.le_refl n
        have h94 := hS0.1
        have hX := @yX.rf n tg I70 R
        have hS := hS0.x hX
        have hR := hR0.x hn hX
        have hz := hX.sz h94
        have hxn := hX.1
        have hN := hR0.1
        have hnb := hR0.2.2.2.2.2.2
        have hthB := hth
        refine y_aload_n rfl rfl ?_
        refine y_iload_n rfl rfl ?_
        refine y_iload_n rfl rfl ?_
        refine y_virt rfl rfl rfl rfl rfl (ySh.t hS rfl) (ySh.n hS rfl) ?_
        refine y_in (M := xm_X14_refuse) (ls := [some _, some _, some _]) rfl rfl rfl ?_
        refine y_iload_n rfl rfl ?_
        refine y_if_eqT rfl j_X14_refuse_16 (by decide) ?_
        refine y_aload_n rfl rfl ?_
        refine y_getIv (v := Int32.ofInt (0)) rfl (ySh.t hS rfl) (ySh.n hS rfl) rfl rfl hth ?_
        refine y_if_leT rfl j_X14_refuse_27 (by decide) ?_
        refine y_iconst rfl ?_
        refine y_ireturn rfl rfl rfl ?_
        refine y_ret1 ?_
        refine y_ireturn rfl rfl rfl ?_
        refine y_ret1 ?_
        refine y_if_neF rfl (by decide) ?_
        refine y_aload_n rfl rfl ?_
        refine y_iload_n rfl rfl ?_
        refine y_sip rfl (by decide) ?_
        refine y_sip rfl (by decide) ?_
        refine y_static rfl rfl rfl rfl rfl ?_
        refine r_isIn (fun h_71 h_72 => ?_) (fun h_73 => ?_)
        · rw [yz_m999] at h_71
          rw [yz_999] at h_72
          refine y_ret1 ?_
          refine y_if_neT rfl j_X14_result_53 (by decide) ?_
          refine y_iconst rfl ?_
          refine y_iconst rfl ?_
          refine y_virt rfl rfl rfl rfl rfl (ySh.t hS rfl) (ySh.n hS rfl) ?_
          refine y_in (M := xm_X14_refuse) (ls := [some _, some _, some _]) rfl rfl rfl ?_
          refine y_iload_n rfl rfl ?_
          refine y_if_eqT rfl j_X14_refuse_16 (by decide) ?_
          refine y_aload_n rfl rfl ?_
          refine y_getIv (v := Int32.ofInt (0)) rfl (ySh.t hS rfl) (ySh.n hS rfl) rfl rfl hth ?_
          refine y_if_leT rfl j_X14_refuse_27 (by decide) ?_
          refine y_iconst rfl ?_
          refine y_ireturn rfl rfl rfl ?_
          refine y_ret1 ?_
          refine y_if_neF rfl (by decide) ?_
          refine y_aload_n rfl rfl ?_
          refine y_iload_n rfl rfl ?_
          refine y_bip rfl (by decide) ?_
          refine y_icmp_eq rfl j_X14_result_94 (fun h_74 => ?_) (fun h_75 => ?_)
          · rw [yz_m2] at h_74
            refine y_iconst rfl ?_
            refine y_iconst rfl ?_
            refine y_virt rfl rfl rfl rfl rfl (ySh.t hS rfl) (ySh.n hS rfl) ?_
            refine y_in (M := xm_X14_refuse) (ls := [some _, some _, some _]) rfl rfl rfl ?_
            refine y_iload_n rfl rfl ?_
            refine y_if_eqT rfl j_X14_refuse_16 (by decide) ?_
            refine y_aload_n rfl rfl ?_
            refine y_getIv (v := Int32.ofInt (0)) rfl (ySh.t hS rfl) (ySh.n hS rfl) rfl rfl hth ?_
            refine y_if_leT rfl j_X14_refuse_27 (by decide) ?_
            refine y_iconst rfl ?_
            refine y_ireturn rfl rfl rfl ?_
            refine y_ret1 ?_
            refine y_if_eqT rfl j_X14_result_104 (by decide) ?_
            refine y_aload_n rfl rfl ?_
            refine y_getR rfl (ySh.t hS rfl) (ySh.n hS rfl) rfl rfl (ySh.r hS rfl) ?_
            refine y_iload_n rfl rfl ?_
            refine y_virt rfl rfl rfl rfl rfl (ySh.t hS rfl) (ySh.n hS rfl) ?_
            refine l_get (nb := n) (ySh.t hS rfl) (ySh.n hS rfl) (Nat.le_trans hn hX.1) hR.l91 (by omega) (by omega) (fun b76 eb_b76 hlo_b76 hb0_b76 ht_b76 => ?_)
            have hb_b76 := Nat.lt_of_lt_of_le hb0_b76 hn
            replace ht_b76 := (hX.2.1 _ hb_b76).1.symm.trans ht_b76
            refine y_ret1 ?_
            refine y_cast rfl ((hX.2.1 _ hb_b76).1.trans ht_b76) (Nat.lt_of_lt_of_le hb_b76 hX.1) ?_
            refine y_astore (ls' := [some _, some _, some _, some _, some _]) rfl rfl rfl ?_
            refine y_iload_n rfl rfl ?_
            refine y_if_lt rfl j_X14_result_131 (fun h_77 => ?_) (fun h_78 => ?_)
            · refine y_iload_n rfl rfl ?_
              refine y_bip rfl (by decide) ?_
              refine y_icmp_ne rfl j_X14_result_147 (fun h_79 => ?_) (fun h_80 => ?_)
              · rw [yz_m2] at h_79
                refine y_aload_n rfl rfl ?_
                refine y_getR rfl (ySh.t hS rfl) (ySh.n hS rfl) rfl rfl (ySh.r hS rfl) ?_
                refine y_iload_n rfl rfl ?_
                refine y_static rfl rfl rfl rfl rfl ?_
                refine y_in (M := xm_X14_seat) (ls := [some _]) rfl rfl rfl ?_
                refine y_iload_n rfl rfl ?_
                refine y_iconst rfl ?_
                refine y_icmp_ne rfl j_X14_seat_10 (fun h_81 => ?_) (fun h_82 => ?_)
                · rw [yz_m1] at h_81
                  refine y_iload_n rfl rfl ?_
                  refine y_ireturn rfl rfl rfl ?_
                  refine y_ret1 ?_
                  refine y_dup2 rfl rfl rfl ?_
                  refine y_iaload rfl (ySh.t hS rfl) (ySh.n hS rfl) (by omega) (by omega) ?_
                  refine y_iload_n rfl rfl ?_
                  refine y_iadd rfl ?_
                  refine y_iastore rfl (ySh.t hS rfl) (ySh.n hS rfl) (Nat.le_of_ble_eq_true rfl) (by omega) (by omega) ?_
                  refine y_nameI (fun I83 e83 => ?_)
                  have hR1 := (hR0.grow hX).arr e83 (by decide)
                  have hK := (hK.x hRo hno hX).upI (upI e83) (by decide) (by decide) (fun i hi => by have := (hRo.l87.2.2.2.2 i hi).2.1; omega) (by rw [e83, upd2_ne (.inl (by omega))]; exact Int.le_refl _)
                  have hth := (show I83 83 0 = I70 83 0 by rw [e83, upd2_ne (.inl (by omega))]).trans hth
                  have hzz : ySz I70 I83 := ySz_ofE (upI e83) (by omega)
                  have hS0 := hS
                  have hR0 := hR1
                  have ht_b76 := (hX.2.1 _ hb_b76).1.trans ht_b76
                  have hb_b76 := Nat.lt_of_lt_of_le hb_b76 hX.1
                  have hb0_b76 := hb_b76
                  have hn := Nat.le_refl n
                  have h94 := hS0.1
                  have hX := @yX.rf n tg I83 R
                  have hS := hS0.x hX
                  have hR := hR0.x hn hX
                  have hz := hX.sz h94
                  have hxn := hX.1
                  have hN := hR0.1
                  have hnb := hR0.2.2.2.2.2.2
                  have hthB := hth
                  refine y_aload rfl rfl ?_
                  refine y_aload rfl rfl ?_
                  obtain ⟨hR_v84, hb_v84, ht_v84⟩ := hR0.ven hlo_b76 hb0_b76 ht_b76 (j := 1) (by decide)
                  have hb0_v84 := hb_v84
                  have hb_v84 := Nat.lt_of_lt_of_le hb_v84 hn
                  have hlo_v84 : 94 ≤ b76 + 1 + 1 := by omega
                  have hR2_v84 := (congrFun (hX.2.1 b76 hb_b76).2.2 1).trans hR_v84
                  refine y_getR rfl ((hX.2.1 _ hb_b76).1.trans ht_b76) (Nat.lt_of_lt_of_le hb_b76 hX.1) rfl rfl hR2_v84 ?_
                  refine y_virt rfl rfl rfl rfl rfl ((hX.2.1 _ hb_b76).1.trans ht_b76) (Nat.lt_of_lt_of_le hb_b76 hX.1) ?_
                  refine r_all ((hX.2.1 _ hb_v84).1.trans ht_v84) (Nat.lt_of_lt_of_le hb_v84 hX.1) (fun v_ => ?_)
                  refine y_ret1 ?_
                  refine y_ireturn rfl rfl rfl ?_
                  exact hQ _ _ _ _ _ _ _ hS ((hR0.grow hX).up (Nat.le_succ K) hk6) (hK.x hRo hno hX) (by omega) (by omega)
                · rw [yz_m1] at h_82
                  refine y_bip rfl (by decide) ?_
                  refine y_goto rfl j_X14_seat_11 ?_
                  refine y_ireturn rfl rfl rfl ?_
                  refine y_ret1 ?_
                  refine y_dup2 rfl rfl rfl ?_
                  refine y_ialoadC (j := 8) rfl (ySh.t hS rfl) (ySh.n hS rfl) (by decide) (by decide) rfl ?_
                  refine y_iload_n rfl rfl ?_
                  refine y_iadd rfl ?_
                  refine y_iastoreC (j := 8) rfl (ySh.t hS rfl) (ySh.n hS rfl) (Nat.le_of_ble_eq_true rfl) (by decide) (by decide) rfl ?_
                  refine y_nameI (fun I85 e85 => ?_)
                  have hR1 := (hR0.grow hX).arr e85 (by decide)
                  have hK := (hK.x hRo hno hX).upI (upI e85) (by decide) (by decide) (fun i hi => by have := (hRo.l87.2.2.2.2 i hi).2.1; omega) (by rw [e85, upd2_ne (.inl (by omega))]; exact Int.le_refl _)
                  have hth := (show I85 83 0 = I70 83 0 by rw [e85, upd2_ne (.inl (by omega))]).trans hth
                  have hzz : ySz I70 I85 := ySz_ofE (upI e85) (by omega)
                  have hS0 := hS
                  have hR0 := hR1
                  have ht_b76 := (hX.2.1 _ hb_b76).1.trans ht_b76
                  have hb_b76 := Nat.lt_of_lt_of_le hb_b76 hX.1
                  have hb0_b76 := hb_b76
                  have hn := Nat.le_refl n
                  have h94 := hS0.1
                  have hX := @yX.rf n tg I85 R
                  have hS := hS0.x hX
                  have hR := hR0.x hn hX
                  have hz := hX.sz h94
                  have hxn := hX.1
                  have hN := hR0.1
                  have hnb := hR0.2.2.2.2.2.2
                  have hthB := hth
                  refine y_aload rfl rfl ?_
                  refine y_aload rfl rfl ?_
                  obtain ⟨hR_v86, hb_v86, ht_v86⟩ := hR0.ven hlo_b76 hb0_b76 ht_b76 (j := 1) (by decide)
                  have hb0_v86 := hb_v86
                  have hb_v86 := Nat.lt_of_lt_of_le hb_v86 hn
                  have hlo_v86 : 94 ≤ b76 + 1 + 1 := by omega
                  have hR2_v86 := (congrFun (hX.2.1 b76 hb_b76).2.2 1).trans hR_v86
                  refine y_getR rfl ((hX.2.1 _ hb_b76).1.trans ht_b76) (Nat.lt_of_lt_of_le hb_b76 hX.1) rfl rfl hR2_v86 ?_
                  refine y_virt rfl rfl rfl rfl rfl ((hX.2.1 _ hb_b76).1.trans ht_b76) (Nat.lt_of_lt_of_le hb_b76 hX.1) ?_
                  refine r_all ((hX.2.1 _ hb_v86).1.trans ht_v86) (Nat.lt_of_lt_of_le hb_v86 hX.1) (fun v_ => ?_)
                  refine y_ret1 ?_
                  refine y_ireturn rfl rfl rfl ?_
                  exact hQ _ _ _ _ _ _ _ hS ((hR0.grow hX).up (Nat.le_succ K) hk6) (hK.x hRo hno hX) (by omega) (by omega)
              · rw [yz_m2] at h_80
                refine y_aload rfl rfl ?_
                refine y_iload_n rfl rfl ?_
                refine y_ineg rfl ?_
                refine y_virt rfl rfl rfl rfl rfl ((hX.2.1 _ hb_b76).1.trans ht_b76) (Nat.lt_of_lt_of_le hb_b76 hX.1) ?_
                refine h_lose hS (hR0.grow hX) hlo_b76 (Nat.lt_of_lt_of_le hb_b76 hX.1) ((hX.2.1 _ hb_b76).1.trans ht_b76) (yneg2 (by omega) (by omega)).1 (yneg2 (by omega) (by omega)).2 (fun n87 tg87 I87 R87 hS1 hR1 hK1 => ?_)
                have hK := (hK.x hRo hno hX).trans hK1
                have hnA := hK1.1
                have ht_b76 := (hK1.2.1 _ (Nat.lt_of_lt_of_le hb_b76 hX.1)).trans ((hX.2.1 _ hb_b76).1.trans ht_b76)
                have hb_b76 := Nat.lt_of_lt_of_le (Nat.lt_of_lt_of_le hb_b76 hX.1) hK1.1
                have hb0_b76 := hb_b76
                have hS0 := hS1
                have hR0 := hR1
                have hn := Nat.le_refl n87
                have h94 := hS0.1
                have hX := @yX.rf n87 tg87 I87 R87
                have hS := hS0.x hX
                have hR := hR0.x hn hX
                have hz := hX.sz h94
                have hxn := hX.1
                have hN := hR0.1
                have hnb := hR0.2.2.2.2.2.2
                refine y_ret0 ?_
                refine y_goto rfl j_X14_result_160 ?_
                refine y_aload rfl rfl ?_
                refine y_aload rfl rfl ?_
                obtain ⟨hR_v88, hb_v88, ht_v88⟩ := hR0.ven hlo_b76 hb0_b76 ht_b76 (j := 1) (by decide)
                have hb0_v88 := hb_v88
                have hb_v88 := Nat.lt_of_lt_of_le hb_v88 hn
                have hlo_v88 : 94 ≤ b76 + 1 + 1 := by omega
                have hR2_v88 := (congrFun (hX.2.1 b76 hb_b76).2.2 1).trans hR_v88
                refine y_getR rfl ((hX.2.1 _ hb_b76).1.trans ht_b76) (Nat.lt_of_lt_of_le hb_b76 hX.1) rfl rfl hR2_v88 ?_
                refine y_virt rfl rfl rfl rfl rfl ((hX.2.1 _ hb_b76).1.trans ht_b76) (Nat.lt_of_lt_of_le hb_b76 hX.1) ?_
                refine r_all ((hX.2.1 _ hb_v88).1.trans ht_v88) (Nat.lt_of_lt_of_le hb_v88 hX.1) (fun v_ => ?_)
                refine y_ret1 ?_
                refine y_ireturn rfl rfl rfl ?_
                exact hQ _ _ _ _ _ _ _ hS ((hR0.grow hX).up (Nat.le_succ K) hk6) (hK.x hRo hno hX) (by omega) (by omega)
            · refine y_aload_n rfl rfl ?_
              refine y_aload rfl rfl ?_
              refine y_iload_n rfl rfl ?_
              refine y_virt rfl rfl rfl rfl rfl (ySh.t hS rfl) (ySh.n hS rfl) ?_
              refine h_profit hS (hR0.grow hX) hlo_b76 (Nat.lt_of_lt_of_le hb_b76 hX.1) ((hX.2.1 _ hb_b76).1.trans ht_b76) (fun n89 tg89 I89 R89 hS1 hR1 hK1 => ?_)
              have hK := (hK.x hRo hno hX).trans hK1
              have hnA := hK1.1
              have ht_b76 := (hK1.2.1 _ (Nat.lt_of_lt_of_le hb_b76 hX.1)).trans ((hX.2.1 _ hb_b76).1.trans ht_b76)
              have hb_b76 := Nat.lt_of_lt_of_le (Nat.lt_of_lt_of_le hb_b76 hX.1) hK1.1
              have hb0_b76 := hb_b76
              have hS0 := hS1
              have hR0 := hR1
              have hn := Nat.le_refl n89
              have h94 := hS0.1
              have hX := @yX.rf n89 tg89 I89 R89
              have hS := hS0.x hX
              have hR := hR0.x hn hX
              have hz := hX.sz h94
              have hxn := hX.1
              have hN := hR0.1
              have hnb := hR0.2.2.2.2.2.2
              refine y_ret0 ?_
              refine y_goto rfl j_X14_result_160 ?_
              refine y_aload rfl rfl ?_
              refine y_aload rfl rfl ?_
              obtain ⟨hR_v90, hb_v90, ht_v90⟩ := hR0.ven hlo_b76 hb0_b76 ht_b76 (j := 1) (by decide)
              have hb0_v90 := hb_v90
              have hb_v90 := Nat.lt_of_lt_of_le hb_v90 hn
              have hlo_v90 : 94 ≤ b76 + 1 + 1 := by omega
              have hR2_v90 := (congrFun (hX.2.1 b76 hb_b76).2.2 1).trans hR_v90
              refine y_getR rfl ((hX.2.1 _ hb_b76).1.trans ht_b76) (Nat.lt_of_lt_of_le hb_b76 hX.1) rfl rfl hR2_v90 ?_
              refine y_virt rfl rfl rfl rfl rfl ((hX.2.1 _ hb_b76).1.trans ht_b76) (Nat.lt_of_lt_of_le hb_b76 hX.1) ?_
              refine r_all ((hX.2.1 _ hb_v90).1.trans ht_v90) (Nat.lt_of_lt_of_le hb_v90 hX.1) (fun v_ => ?_)
              refine y_ret1 ?_
              refine y_ireturn rfl rfl rfl ?_
              exact hQ _ _ _ _ _ _ _ hS ((hR0.grow hX).up (Nat.le_succ K) hk6) (hK.x hRo hno hX) (by omega) (by omega)
          · rw [yz_m2] at h_75
            refine y_aload_n rfl rfl ?_
            refine y_getR rfl (ySh.t hS rfl) (ySh.n hS rfl) rfl rfl (ySh.r hS rfl) ?_
            refine y_iload_n rfl rfl ?_
            refine y_virt rfl rfl rfl rfl rfl (ySh.t hS rfl) (ySh.n hS rfl) ?_
            refine l_get (nb := n) (ySh.t hS rfl) (ySh.n hS rfl) (Nat.le_trans hn hX.1) hR.l91 (by omega) (by omega) (fun b91 eb_b91 hlo_b91 hb0_b91 ht_b91 => ?_)
            have hb_b91 := Nat.lt_of_lt_of_le hb0_b91 hn
            replace ht_b91 := (hX.2.1 _ hb_b91).1.symm.trans ht_b91
            refine y_ret1 ?_
            refine y_cast rfl ((hX.2.1 _ hb_b91).1.trans ht_b91) (Nat.lt_of_lt_of_le hb_b91 hX.1) ?_
            obtain ⟨hR_v92, hb_v92, ht_v92⟩ := hR0.ven hlo_b91 hb0_b91 ht_b91 (j := 0) (by decide)
            have hb0_v92 := hb_v92
            have hb_v92 := Nat.lt_of_lt_of_le hb_v92 hn
            have hlo_v92 : 94 ≤ b91 + 1 + 0 := by omega
            have hR2_v92 := (congrFun (hX.2.1 b91 hb_b91).2.2 0).trans hR_v92
            refine y_getR rfl ((hX.2.1 _ hb_b91).1.trans ht_b91) (Nat.lt_of_lt_of_le hb_b91 hX.1) rfl rfl hR2_v92 ?_
            refine y_iload_n rfl rfl ?_
            refine y_static rfl rfl rfl rfl rfl ?_
            refine y_in (M := xm_X14_seat) (ls := [some _]) rfl rfl rfl ?_
            refine y_iload_n rfl rfl ?_
            refine y_iconst rfl ?_
            refine y_icmp_ne rfl j_X14_seat_10 (fun h_93 => ?_) (fun h_94 => ?_)
            · rw [yz_m1] at h_93
              refine y_iload_n rfl rfl ?_
              refine y_ireturn rfl rfl rfl ?_
              refine y_ret1 ?_
              refine y_baload rfl ((hX.2.1 _ hb_v92).1.trans ht_v92) rfl (Nat.lt_of_lt_of_le hb_v92 hX.1) (by omega) (by omega) ?_
              refine y_if_ne rfl j_X14_result_94 (fun h_95 => ?_) (fun h_96 => ?_)
              · refine y_iconst rfl ?_
                refine y_iconst rfl ?_
                refine y_virt rfl rfl rfl rfl rfl (ySh.t hS rfl) (ySh.n hS rfl) ?_
                refine y_in (M := xm_X14_refuse) (ls := [some _, some _, some _]) rfl rfl rfl ?_
                refine y_iload_n rfl rfl ?_
                refine y_if_eqT rfl j_X14_refuse_16 (by decide) ?_
                refine y_aload_n rfl rfl ?_
                refine y_getIv (v := Int32.ofInt (0)) rfl (ySh.t hS rfl) (ySh.n hS rfl) rfl rfl hth ?_
                refine y_if_leT rfl j_X14_refuse_27 (by decide) ?_
                refine y_iconst rfl ?_
                refine y_ireturn rfl rfl rfl ?_
                refine y_ret1 ?_
                refine y_if_eqT rfl j_X14_result_104 (by decide) ?_
                refine y_aload_n rfl rfl ?_
                refine y_getR rfl (ySh.t hS rfl) (ySh.n hS rfl) rfl rfl (ySh.r hS rfl) ?_
                refine y_iload_n rfl rfl ?_
                refine y_virt rfl rfl rfl rfl rfl (ySh.t hS rfl) (ySh.n hS rfl) ?_
                refine l_get (nb := n) (ySh.t hS rfl) (ySh.n hS rfl) (Nat.le_trans hn hX.1) hR.l91 (by omega) (by omega) (fun b97 eb_b97 hlo_b97 hb0_b97 ht_b97 => ?_)
                have hb_b97 := Nat.lt_of_lt_of_le hb0_b97 hn
                replace ht_b97 := (hX.2.1 _ hb_b97).1.symm.trans ht_b97
                refine y_ret1 ?_
                refine y_cast rfl ((hX.2.1 _ hb_b97).1.trans ht_b97) (Nat.lt_of_lt_of_le hb_b97 hX.1) ?_
                refine y_astore (ls' := [some _, some _, some _, some _, some _]) rfl rfl rfl ?_
                refine y_iload_n rfl rfl ?_
                refine y_if_lt rfl j_X14_result_131 (fun h_98 => ?_) (fun h_99 => ?_)
                · refine y_iload_n rfl rfl ?_
                  refine y_bip rfl (by decide) ?_
                  refine y_icmp_ne rfl j_X14_result_147 (fun h_100 => ?_) (fun h_101 => ?_)
                  · rw [yz_m2] at h_100
                    refine y_aload_n rfl rfl ?_
                    refine y_getR rfl (ySh.t hS rfl) (ySh.n hS rfl) rfl rfl (ySh.r hS rfl) ?_
                    refine y_iload_n rfl rfl ?_
                    refine y_static rfl rfl rfl rfl rfl ?_
                    refine y_in (M := xm_X14_seat) (ls := [some _]) rfl rfl rfl ?_
                    refine y_iload_n rfl rfl ?_
                    refine y_iconst rfl ?_
                    refine y_icmp_ne rfl j_X14_seat_10 (fun h_102 => ?_) (fun h_103 => ?_)
                    · rw [yz_m1] at h_102
                      refine y_iload_n rfl rfl ?_
                      refine y_ireturn rfl rfl rfl ?_
                      refine y_ret1 ?_
                      refine y_dup2 rfl rfl rfl ?_
                      refine y_iaload rfl (ySh.t hS rfl) (ySh.n hS rfl) (by omega) (by omega) ?_
                      refine y_iload_n rfl rfl ?_
                      refine y_iadd rfl ?_
                      refine y_iastore rfl (ySh.t hS rfl) (ySh.n hS rfl) (Nat.le_of_ble_eq_true rfl) (by omega) (by omega) ?_
                      refine y_nameI (fun I104 e104 => ?_)
                      have hR1 := (hR0.grow hX).arr e104 (by decide)
                      have hK := (hK.x hRo hno hX).upI (upI e104) (by decide) (by decide) (fun i hi => by have := (hRo.l87.2.2.2.2 i hi).2.1; omega) (by rw [e104, upd2_ne (.inl (by omega))]; exact Int.le_refl _)
                      have hth := (show I104 83 0 = I70 83 0 by rw [e104, upd2_ne (.inl (by omega))]).trans hth
                      have hzz : ySz I70 I104 := ySz_ofE (upI e104) (by omega)
                      have hS0 := hS
                      have hR0 := hR1
                      have ht_b91 := (hX.2.1 _ hb_b91).1.trans ht_b91
                      have hb_b91 := Nat.lt_of_lt_of_le hb_b91 hX.1
                      have hb0_b91 := hb_b91
                      have ht_v92 := (hX.2.1 _ hb_v92).1.trans ht_v92
                      have hb_v92 := Nat.lt_of_lt_of_le hb_v92 hX.1
                      have hb0_v92 := hb_v92
                      have ht_b97 := (hX.2.1 _ hb_b97).1.trans ht_b97
                      have hb_b97 := Nat.lt_of_lt_of_le hb_b97 hX.1
                      have hb0_b97 := hb_b97
                      have hn := Nat.le_refl n
                      have h94 := hS0.1
                      have hX := @yX.rf n tg I104 R
                      have hS := hS0.x hX
                      have hR := hR0.x hn hX
                      have hz := hX.sz h94
                      have hxn := hX.1
                      have hN := hR0.1
                      have hnb := hR0.2.2.2.2.2.2
                      have hthB := hth
                      refine y_aload rfl rfl ?_
                      refine y_aload rfl rfl ?_
                      obtain ⟨hR_v105, hb_v105, ht_v105⟩ := hR0.ven hlo_b97 hb0_b97 ht_b97 (j := 1) (by decide)
                      have hb0_v105 := hb_v105
                      have hb_v105 := Nat.lt_of_lt_of_le hb_v105 hn
                      have hlo_v105 : 94 ≤ b97 + 1 + 1 := by omega
                      have hR2_v105 := (congrFun (hX.2.1 b97 hb_b97).2.2 1).trans hR_v105
                      refine y_getR rfl ((hX.2.1 _ hb_b97).1.trans ht_b97) (Nat.lt_of_lt_of_le hb_b97 hX.1) rfl rfl hR2_v105 ?_
                      refine y_virt rfl rfl rfl rfl rfl ((hX.2.1 _ hb_b97).1.trans ht_b97) (Nat.lt_of_lt_of_le hb_b97 hX.1) ?_
                      refine r_all ((hX.2.1 _ hb_v105).1.trans ht_v105) (Nat.lt_of_lt_of_le hb_v105 hX.1) (fun v_ => ?_)
                      refine y_ret1 ?_
                      refine y_ireturn rfl rfl rfl ?_
                      exact hQ _ _ _ _ _ _ _ hS ((hR0.grow hX).up (Nat.le_succ K) hk6) (hK.x hRo hno hX) (by omega) (by omega)
                    · rw [yz_m1] at h_103
                      refine y_bip rfl (by decide) ?_
                      refine y_goto rfl j_X14_seat_11 ?_
                      refine y_ireturn rfl rfl rfl ?_
                      refine y_ret1 ?_
                      refine y_dup2 rfl rfl rfl ?_
                      refine y_ialoadC (j := 8) rfl (ySh.t hS rfl) (ySh.n hS rfl) (by decide) (by decide) rfl ?_
                      refine y_iload_n rfl rfl ?_
                      refine y_iadd rfl ?_
                      refine y_iastoreC (j := 8) rfl (ySh.t hS rfl) (ySh.n hS rfl) (Nat.le_of_ble_eq_true rfl) (by decide) (by decide) rfl ?_
                      refine y_nameI (fun I106 e106 => ?_)
                      have hR1 := (hR0.grow hX).arr e106 (by decide)
                      have hK := (hK.x hRo hno hX).upI (upI e106) (by decide) (by decide) (fun i hi => by have := (hRo.l87.2.2.2.2 i hi).2.1; omega) (by rw [e106, upd2_ne (.inl (by omega))]; exact Int.le_refl _)
                      have hth := (show I106 83 0 = I70 83 0 by rw [e106, upd2_ne (.inl (by omega))]).trans hth
                      have hzz : ySz I70 I106 := ySz_ofE (upI e106) (by omega)
                      have hS0 := hS
                      have hR0 := hR1
                      have ht_b91 := (hX.2.1 _ hb_b91).1.trans ht_b91
                      have hb_b91 := Nat.lt_of_lt_of_le hb_b91 hX.1
                      have hb0_b91 := hb_b91
                      have ht_v92 := (hX.2.1 _ hb_v92).1.trans ht_v92
                      have hb_v92 := Nat.lt_of_lt_of_le hb_v92 hX.1
                      have hb0_v92 := hb_v92
                      have ht_b97 := (hX.2.1 _ hb_b97).1.trans ht_b97
                      have hb_b97 := Nat.lt_of_lt_of_le hb_b97 hX.1
                      have hb0_b97 := hb_b97
                      have hn := Nat.le_refl n
                      have h94 := hS0.1
                      have hX := @yX.rf n tg I106 R
                      have hS := hS0.x hX
                      have hR := hR0.x hn hX
                      have hz := hX.sz h94
                      have hxn := hX.1
                      have hN := hR0.1
                      have hnb := hR0.2.2.2.2.2.2
                      have hthB := hth
                      refine y_aload rfl rfl ?_
                      refine y_aload rfl rfl ?_
                      obtain ⟨hR_v107, hb_v107, ht_v107⟩ := hR0.ven hlo_b97 hb0_b97 ht_b97 (j := 1) (by decide)
                      have hb0_v107 := hb_v107
                      have hb_v107 := Nat.lt_of_lt_of_le hb_v107 hn
                      have hlo_v107 : 94 ≤ b97 + 1 + 1 := by omega
                      have hR2_v107 := (congrFun (hX.2.1 b97 hb_b97).2.2 1).trans hR_v107
                      refine y_getR rfl ((hX.2.1 _ hb_b97).1.trans ht_b97) (Nat.lt_of_lt_of_le hb_b97 hX.1) rfl rfl hR2_v107 ?_
                      refine y_virt rfl rfl rfl rfl rfl ((hX.2.1 _ hb_b97).1.trans ht_b97) (Nat.lt_of_lt_of_le hb_b97 hX.1) ?_
                      refine r_all ((hX.2.1 _ hb_v107).1.trans ht_v107) (Nat.lt_of_lt_of_le hb_v107 hX.1) (fun v_ => ?_)
                      refine y_ret1 ?_
                      refine y_ireturn rfl rfl rfl ?_
                      exact hQ _ _ _ _ _ _ _ hS ((hR0.grow hX).up (Nat.le_succ K) hk6) (hK.x hRo hno hX) (by omega) (by omega)
                  · rw [yz_m2] at h_101
                    refine y_aload rfl rfl ?_
                    refine y_iload_n rfl rfl ?_
                    refine y_ineg rfl ?_
                    refine y_virt rfl rfl rfl rfl rfl ((hX.2.1 _ hb_b97).1.trans ht_b97) (Nat.lt_of_lt_of_le hb_b97 hX.1) ?_
                    refine h_lose hS (hR0.grow hX) hlo_b97 (Nat.lt_of_lt_of_le hb_b97 hX.1) ((hX.2.1 _ hb_b97).1.trans ht_b97) (yneg2 (by omega) (by omega)).1 (yneg2 (by omega) (by omega)).2 (fun n108 tg108 I108 R108 hS1 hR1 hK1 => ?_)
                    have hK := (hK.x hRo hno hX).trans hK1
                    have hnA := hK1.1
                    have ht_b91 := (hK1.2.1 _ (Nat.lt_of_lt_of_le hb_b91 hX.1)).trans ((hX.2.1 _ hb_b91).1.trans ht_b91)
                    have hb_b91 := Nat.lt_of_lt_of_le (Nat.lt_of_lt_of_le hb_b91 hX.1) hK1.1
                    have hb0_b91 := hb_b91
                    have ht_v92 := (hK1.2.1 _ (Nat.lt_of_lt_of_le hb_v92 hX.1)).trans ((hX.2.1 _ hb_v92).1.trans ht_v92)
                    have hb_v92 := Nat.lt_of_lt_of_le (Nat.lt_of_lt_of_le hb_v92 hX.1) hK1.1
                    have hb0_v92 := hb_v92
                    have ht_b97 := (hK1.2.1 _ (Nat.lt_of_lt_of_le hb_b97 hX.1)).trans ((hX.2.1 _ hb_b97).1.trans ht_b97)
                    have hb_b97 := Nat.lt_of_lt_of_le (Nat.lt_of_lt_of_le hb_b97 hX.1) hK1.1
                    have hb0_b97 := hb_b97
                    have hS0 := hS1
                    have hR0 := hR1
                    have hn := Nat.le_refl n108
                    have h94 := hS0.1
                    have hX := @yX.rf n108 tg108 I108 R108
                    have hS := hS0.x hX
                    have hR := hR0.x hn hX
                    have hz := hX.sz h94
                    have hxn := hX.1
                    have hN := hR0.1
                    have hnb := hR0.2.2.2.2.2.2
                    refine y_ret0 ?_
                    refine y_goto rfl j_X14_result_160 ?_
                    refine y_aload rfl rfl ?_
                    refine y_aload rfl rfl ?_
                    obtain ⟨hR_v109, hb_v109, ht_v109⟩ := hR0.ven hlo_b97 hb0_b97 ht_b97 (j := 1) (by decide)
                    have hb0_v109 := hb_v109
                    have hb_v109 := Nat.lt_of_lt_of_le hb_v109 hn
                    have hlo_v109 : 94 ≤ b97 + 1 + 1 := by omega
                    have hR2_v109 := (congrFun (hX.2.1 b97 hb_b97).2.2 1).trans hR_v109
                    refine y_getR rfl ((hX.2.1 _ hb_b97).1.trans ht_b97) (Nat.lt_of_lt_of_le hb_b97 hX.1) rfl rfl hR2_v109 ?_
                    refine y_virt rfl rfl rfl rfl rfl ((hX.2.1 _ hb_b97).1.trans ht_b97) (Nat.lt_of_lt_of_le hb_b97 hX.1) ?_
                    refine r_all ((hX.2.1 _ hb_v109).1.trans ht_v109) (Nat.lt_of_lt_of_le hb_v109 hX.1) (fun v_ => ?_)
                    refine y_ret1 ?_
                    refine y_ireturn rfl rfl rfl ?_
                    exact hQ _ _ _ _ _ _ _ hS ((hR0.grow hX).up (Nat.le_succ K) hk6) (hK.x hRo hno hX) (by omega) (by omega)
                · refine y_aload_n rfl rfl ?_
                  refine y_aload rfl rfl ?_
                  refine y_iload_n rfl rfl ?_
                  refine y_virt rfl rfl rfl rfl rfl (ySh.t hS rfl) (ySh.n hS rfl) ?_
                  refine h_profit hS (hR0.grow hX) hlo_b97 (Nat.lt_of_lt_of_le hb_b97 hX.1) ((hX.2.1 _ hb_b97).1.trans ht_b97) (fun n110 tg110 I110 R110 hS1 hR1 hK1 => ?_)
                  have hK := (hK.x hRo hno hX).trans hK1
                  have hnA := hK1.1
                  have ht_b91 := (hK1.2.1 _ (Nat.lt_of_lt_of_le hb_b91 hX.1)).trans ((hX.2.1 _ hb_b91).1.trans ht_b91)
                  have hb_b91 := Nat.lt_of_lt_of_le (Nat.lt_of_lt_of_le hb_b91 hX.1) hK1.1
                  have hb0_b91 := hb_b91
                  have ht_v92 := (hK1.2.1 _ (Nat.lt_of_lt_of_le hb_v92 hX.1)).trans ((hX.2.1 _ hb_v92).1.trans ht_v92)
                  have hb_v92 := Nat.lt_of_lt_of_le (Nat.lt_of_lt_of_le hb_v92 hX.1) hK1.1
                  have hb0_v92 := hb_v92
                  have ht_b97 := (hK1.2.1 _ (Nat.lt_of_lt_of_le hb_b97 hX.1)).trans ((hX.2.1 _ hb_b97).1.trans ht_b97)
                  have hb_b97 := Nat.lt_of_lt_of_le (Nat.lt_of_lt_of_le hb_b97 hX.1) hK1.1
                  have hb0_b97 := hb_b97
                  have hS0 := hS1
                  have hR0 := hR1
                  have hn := Nat.le_refl n110
                  have h94 := hS0.1
                  have hX := @yX.rf n110 tg110 I110 R110
                  have hS := hS0.x hX
                  have hR := hR0.x hn hX
                  have hz := hX.sz h94
                  have hxn := hX.1
                  have hN := hR0.1
                  have hnb := hR0.2.2.2.2.2.2
                  refine y_ret0 ?_
                  refine y_goto rfl j_X14_result_160 ?_
                  refine y_aload rfl rfl ?_
                  refine y_aload rfl rfl ?_
                  obtain ⟨hR_v111, hb_v111, ht_v111⟩ := hR0.ven hlo_b97 hb0_b97 ht_b97 (j := 1) (by decide)
                  have hb0_v111 := hb_v111
                  have hb_v111 := Nat.lt_of_lt_of_le hb_v111 hn
                  have hlo_v111 : 94 ≤ b97 + 1 + 1 := by omega
                  have hR2_v111 := (congrFun (hX.2.1 b97 hb_b97).2.2 1).trans hR_v111
                  refine y_getR rfl ((hX.2.1 _ hb_b97).1.trans ht_b97) (Nat.lt_of_lt_of_le hb_b97 hX.1) rfl rfl hR2_v111 ?_
                  refine y_virt rfl rfl rfl rfl rfl ((hX.2.1 _ hb_b97).1.trans ht_b97) (Nat.lt_of_lt_of_le hb_b97 hX.1) ?_
                  refine r_all ((hX.2.1 _ hb_v111).1.trans ht_v111) (Nat.lt_of_lt_of_le hb_v111 hX.1) (fun v_ => ?_)
                  refine y_ret1 ?_
                  refine y_ireturn rfl rfl rfl ?_
                  exact hQ _ _ _ _ _ _ _ hS ((hR0.grow hX).up (Nat.le_succ K) hk6) (hK.x hRo hno hX) (by omega) (by omega)
              · refine y_iconst rfl ?_
                refine y_goto rfl j_X14_result_95 ?_
                refine y_iconst rfl ?_
                refine y_virt rfl rfl rfl rfl rfl (ySh.t hS rfl) (ySh.n hS rfl) ?_
                refine y_in (M := xm_X14_refuse) (ls := [some _, some _, some _]) rfl rfl rfl ?_
                refine y_iload_n rfl rfl ?_
                refine y_if_eqF rfl (by decide) ?_
                refine y_aload_n rfl rfl ?_
                refine y_getIv (v := Int32.ofInt (0)) rfl (ySh.t hS rfl) (ySh.n hS rfl) rfl rfl hth ?_
                refine y_if_neF rfl (by decide) ?_
                refine y_aload_n rfl rfl ?_
                refine y_iload_n rfl rfl ?_
                refine y_putI rfl (ySh.t hS rfl) (ySh.n hS rfl) rfl (Nat.le_of_ble_eq_true rfl) rfl rfl ?_
                refine y_nameI (fun I112 e112 => ?_)
                have hR1 := (hR0.grow hX).mod0 e112 (by decide) (by decide)
                have hK := (hK.x hRo hno hX).upI (upI e112) (by decide) (by decide) (fun i hi => by have := (hRo.l87.2.2.2.2 i hi).2.1; omega) (by rw [e112, upd2_ne (.inr (by decide))]; exact Int.le_refl _)
                have hth : I112 83 0 = Int32.ofInt (3) := by rw [e112, upd2_self]
                have hzz : ySz8 I70 I112 := ySz8_of (upI e112) (by rw [e112]; exact ⟨upd2_ne (.inr (by decide)), upd2_ne (.inr (by decide))⟩)
                have hS0 := hS
                have hR0 := hR1
                have ht_b91 := (hX.2.1 _ hb_b91).1.trans ht_b91
                have hb_b91 := Nat.lt_of_lt_of_le hb_b91 hX.1
                have hb0_b91 := hb_b91
                have ht_v92 := (hX.2.1 _ hb_v92).1.trans ht_v92
                have hb_v92 := Nat.lt_of_lt_of_le hb_v92 hX.1
                have hb0_v92 := hb_v92
                have hn := Nat.le_refl n
                have h94 := hS0.1
                have hX := @yX.rf n tg I112 R
                have hS := hS0.x hX
                have hR := hR0.x hn hX
                have hz := hX.sz h94
                have hxn := hX.1
                have hN := hR0.1
                have hnb := hR0.2.2.2.2.2.2
                have hthB := hth
                refine y_aload_n rfl rfl ?_
                refine y_getIv (v := Int32.ofInt (3)) rfl (ySh.t hS rfl) (ySh.n hS rfl) rfl rfl hth ?_
                refine y_if_leF rfl (by decide) ?_
                refine y_iconst rfl ?_
                refine y_goto rfl j_X14_refuse_28 ?_
                refine y_ireturn rfl rfl rfl ?_
                refine y_ret1 ?_
                refine y_if_eqF rfl (by decide) ?_
                refine y_iconst rfl ?_
                refine y_ireturn rfl rfl rfl ?_
                exact hQ _ _ _ _ _ _ _ hS ((hR0.grow hX).up (Nat.le_succ K) hk6) (hK.x hRo hno hX) (by omega) (by omega)
            · rw [yz_m1] at h_94
              refine y_bip rfl (by decide) ?_
              refine y_goto rfl j_X14_seat_11 ?_
              refine y_ireturn rfl rfl rfl ?_
              refine y_ret1 ?_
              refine y_baload rfl ((hX.2.1 _ hb_v92).1.trans ht_v92) rfl (Nat.lt_of_lt_of_le hb_v92 hX.1) (by decide) (by decide) ?_
              refine y_if_ne rfl j_X14_result_94 (fun h_113 => ?_) (fun h_114 => ?_)
              · refine y_iconst rfl ?_
                refine y_iconst rfl ?_
                refine y_virt rfl rfl rfl rfl rfl (ySh.t hS rfl) (ySh.n hS rfl) ?_
                refine y_in (M := xm_X14_refuse) (ls := [some _, some _, some _]) rfl rfl rfl ?_
                refine y_iload_n rfl rfl ?_
                refine y_if_eqT rfl j_X14_refuse_16 (by decide) ?_
                refine y_aload_n rfl rfl ?_
                refine y_getIv (v := Int32.ofInt (0)) rfl (ySh.t hS rfl) (ySh.n hS rfl) rfl rfl hth ?_
                refine y_if_leT rfl j_X14_refuse_27 (by decide) ?_
                refine y_iconst rfl ?_
                refine y_ireturn rfl rfl rfl ?_
                refine y_ret1 ?_
                refine y_if_eqT rfl j_X14_result_104 (by decide) ?_
                refine y_aload_n rfl rfl ?_
                refine y_getR rfl (ySh.t hS rfl) (ySh.n hS rfl) rfl rfl (ySh.r hS rfl) ?_
                refine y_iload_n rfl rfl ?_
                refine y_virt rfl rfl rfl rfl rfl (ySh.t hS rfl) (ySh.n hS rfl) ?_
                refine l_get (nb := n) (ySh.t hS rfl) (ySh.n hS rfl) (Nat.le_trans hn hX.1) hR.l91 (by omega) (by omega) (fun b115 eb_b115 hlo_b115 hb0_b115 ht_b115 => ?_)
                have hb_b115 := Nat.lt_of_lt_of_le hb0_b115 hn
                replace ht_b115 := (hX.2.1 _ hb_b115).1.symm.trans ht_b115
                refine y_ret1 ?_
                refine y_cast rfl ((hX.2.1 _ hb_b115).1.trans ht_b115) (Nat.lt_of_lt_of_le hb_b115 hX.1) ?_
                refine y_astore (ls' := [some _, some _, some _, some _, some _]) rfl rfl rfl ?_
                refine y_iload_n rfl rfl ?_
                refine y_if_lt rfl j_X14_result_131 (fun h_116 => ?_) (fun h_117 => ?_)
                · refine y_iload_n rfl rfl ?_
                  refine y_bip rfl (by decide) ?_
                  refine y_icmp_ne rfl j_X14_result_147 (fun h_118 => ?_) (fun h_119 => ?_)
                  · rw [yz_m2] at h_118
                    refine y_aload_n rfl rfl ?_
                    refine y_getR rfl (ySh.t hS rfl) (ySh.n hS rfl) rfl rfl (ySh.r hS rfl) ?_
                    refine y_iload_n rfl rfl ?_
                    refine y_static rfl rfl rfl rfl rfl ?_
                    refine y_in (M := xm_X14_seat) (ls := [some _]) rfl rfl rfl ?_
                    refine y_iload_n rfl rfl ?_
                    refine y_iconst rfl ?_
                    refine y_icmp_ne rfl j_X14_seat_10 (fun h_120 => ?_) (fun h_121 => ?_)
                    · rw [yz_m1] at h_120
                      refine y_iload_n rfl rfl ?_
                      refine y_ireturn rfl rfl rfl ?_
                      refine y_ret1 ?_
                      refine y_dup2 rfl rfl rfl ?_
                      refine y_iaload rfl (ySh.t hS rfl) (ySh.n hS rfl) (by omega) (by omega) ?_
                      refine y_iload_n rfl rfl ?_
                      refine y_iadd rfl ?_
                      refine y_iastore rfl (ySh.t hS rfl) (ySh.n hS rfl) (Nat.le_of_ble_eq_true rfl) (by omega) (by omega) ?_
                      refine y_nameI (fun I122 e122 => ?_)
                      have hR1 := (hR0.grow hX).arr e122 (by decide)
                      have hK := (hK.x hRo hno hX).upI (upI e122) (by decide) (by decide) (fun i hi => by have := (hRo.l87.2.2.2.2 i hi).2.1; omega) (by rw [e122, upd2_ne (.inl (by omega))]; exact Int.le_refl _)
                      have hth := (show I122 83 0 = I70 83 0 by rw [e122, upd2_ne (.inl (by omega))]).trans hth
                      have hzz : ySz I70 I122 := ySz_ofE (upI e122) (by omega)
                      have hS0 := hS
                      have hR0 := hR1
                      have ht_b91 := (hX.2.1 _ hb_b91).1.trans ht_b91
                      have hb_b91 := Nat.lt_of_lt_of_le hb_b91 hX.1
                      have hb0_b91 := hb_b91
                      have ht_v92 := (hX.2.1 _ hb_v92).1.trans ht_v92
                      have hb_v92 := Nat.lt_of_lt_of_le hb_v92 hX.1
                      have hb0_v92 := hb_v92
                      have ht_b115 := (hX.2.1 _ hb_b115).1.trans ht_b115
                      have hb_b115 := Nat.lt_of_lt_of_le hb_b115 hX.1
                      have hb0_b115 := hb_b115
                      have hn := Nat.le_refl n
                      have h94 := hS0.1
                      have hX := @yX.rf n tg I122 R
                      have hS := hS0.x hX
                      have hR := hR0.x hn hX
                      have hz := hX.sz h94
                      have hxn := hX.1
                      have hN := hR0.1
                      have hnb := hR0.2.2.2.2.2.2
                      have hthB := hth
                      refine y_aload rfl rfl ?_
                      refine y_aload rfl rfl ?_
                      obtain ⟨hR_v123, hb_v123, ht_v123⟩ := hR0.ven hlo_b115 hb0_b115 ht_b115 (j := 1) (by decide)
                      have hb0_v123 := hb_v123
                      have hb_v123 := Nat.lt_of_lt_of_le hb_v123 hn
                      have hlo_v123 : 94 ≤ b115 + 1 + 1 := by omega
                      have hR2_v123 := (congrFun (hX.2.1 b115 hb_b115).2.2 1).trans hR_v123
                      refine y_getR rfl ((hX.2.1 _ hb_b115).1.trans ht_b115) (Nat.lt_of_lt_of_le hb_b115 hX.1) rfl rfl hR2_v123 ?_
                      refine y_virt rfl rfl rfl rfl rfl ((hX.2.1 _ hb_b115).1.trans ht_b115) (Nat.lt_of_lt_of_le hb_b115 hX.1) ?_
                      refine r_all ((hX.2.1 _ hb_v123).1.trans ht_v123) (Nat.lt_of_lt_of_le hb_v123 hX.1) (fun v_ => ?_)
                      refine y_ret1 ?_
                      refine y_ireturn rfl rfl rfl ?_
                      exact hQ _ _ _ _ _ _ _ hS ((hR0.grow hX).up (Nat.le_succ K) hk6) (hK.x hRo hno hX) (by omega) (by omega)
                    · rw [yz_m1] at h_121
                      refine y_bip rfl (by decide) ?_
                      refine y_goto rfl j_X14_seat_11 ?_
                      refine y_ireturn rfl rfl rfl ?_
                      refine y_ret1 ?_
                      refine y_dup2 rfl rfl rfl ?_
                      refine y_ialoadC (j := 8) rfl (ySh.t hS rfl) (ySh.n hS rfl) (by decide) (by decide) rfl ?_
                      refine y_iload_n rfl rfl ?_
                      refine y_iadd rfl ?_
                      refine y_iastoreC (j := 8) rfl (ySh.t hS rfl) (ySh.n hS rfl) (Nat.le_of_ble_eq_true rfl) (by decide) (by decide) rfl ?_
                      refine y_nameI (fun I124 e124 => ?_)
                      have hR1 := (hR0.grow hX).arr e124 (by decide)
                      have hK := (hK.x hRo hno hX).upI (upI e124) (by decide) (by decide) (fun i hi => by have := (hRo.l87.2.2.2.2 i hi).2.1; omega) (by rw [e124, upd2_ne (.inl (by omega))]; exact Int.le_refl _)
                      have hth := (show I124 83 0 = I70 83 0 by rw [e124, upd2_ne (.inl (by omega))]).trans hth
                      have hzz : ySz I70 I124 := ySz_ofE (upI e124) (by omega)
                      have hS0 := hS
                      have hR0 := hR1
                      have ht_b91 := (hX.2.1 _ hb_b91).1.trans ht_b91
                      have hb_b91 := Nat.lt_of_lt_of_le hb_b91 hX.1
                      have hb0_b91 := hb_b91
                      have ht_v92 := (hX.2.1 _ hb_v92).1.trans ht_v92
                      have hb_v92 := Nat.lt_of_lt_of_le hb_v92 hX.1
                      have hb0_v92 := hb_v92
                      have ht_b115 := (hX.2.1 _ hb_b115).1.trans ht_b115
                      have hb_b115 := Nat.lt_of_lt_of_le hb_b115 hX.1
                      have hb0_b115 := hb_b115
                      have hn := Nat.le_refl n
                      have h94 := hS0.1
                      have hX := @yX.rf n tg I124 R
                      have hS := hS0.x hX
                      have hR := hR0.x hn hX
                      have hz := hX.sz h94
                      have hxn := hX.1
                      have hN := hR0.1
                      have hnb := hR0.2.2.2.2.2.2
                      have hthB := hth
                      refine y_aload rfl rfl ?_
                      refine y_aload rfl rfl ?_
                      obtain ⟨hR_v125, hb_v125, ht_v125⟩ := hR0.ven hlo_b115 hb0_b115 ht_b115 (j := 1) (by decide)
                      have hb0_v125 := hb_v125
                      have hb_v125 := Nat.lt_of_lt_of_le hb_v125 hn
                      have hlo_v125 : 94 ≤ b115 + 1 + 1 := by omega
                      have hR2_v125 := (congrFun (hX.2.1 b115 hb_b115).2.2 1).trans hR_v125
                      refine y_getR rfl ((hX.2.1 _ hb_b115).1.trans ht_b115) (Nat.lt_of_lt_of_le hb_b115 hX.1) rfl rfl hR2_v125 ?_
                      refine y_virt rfl rfl rfl rfl rfl ((hX.2.1 _ hb_b115).1.trans ht_b115) (Nat.lt_of_lt_of_le hb_b115 hX.1) ?_
                      refine r_all ((hX.2.1 _ hb_v125).1.trans ht_v125) (Nat.lt_of_lt_of_le hb_v125 hX.1) (fun v_ => ?_)
                      refine y_ret1 ?_
                      refine y_ireturn rfl rfl rfl ?_
                      exact hQ _ _ _ _ _ _ _ hS ((hR0.grow hX).up (Nat.le_succ K) hk6) (hK.x hRo hno hX) (by omega) (by omega)
                  · rw [yz_m2] at h_119
                    refine y_aload rfl rfl ?_
                    refine y_iload_n rfl rfl ?_
                    refine y_ineg rfl ?_
                    refine y_virt rfl rfl rfl rfl rfl ((hX.2.1 _ hb_b115).1.trans ht_b115) (Nat.lt_of_lt_of_le hb_b115 hX.1) ?_
                    refine h_lose hS (hR0.grow hX) hlo_b115 (Nat.lt_of_lt_of_le hb_b115 hX.1) ((hX.2.1 _ hb_b115).1.trans ht_b115) (yneg2 (by omega) (by omega)).1 (yneg2 (by omega) (by omega)).2 (fun n126 tg126 I126 R126 hS1 hR1 hK1 => ?_)
                    have hK := (hK.x hRo hno hX).trans hK1
                    have hnA := hK1.1
                    have ht_b91 := (hK1.2.1 _ (Nat.lt_of_lt_of_le hb_b91 hX.1)).trans ((hX.2.1 _ hb_b91).1.trans ht_b91)
                    have hb_b91 := Nat.lt_of_lt_of_le (Nat.lt_of_lt_of_le hb_b91 hX.1) hK1.1
                    have hb0_b91 := hb_b91
                    have ht_v92 := (hK1.2.1 _ (Nat.lt_of_lt_of_le hb_v92 hX.1)).trans ((hX.2.1 _ hb_v92).1.trans ht_v92)
                    have hb_v92 := Nat.lt_of_lt_of_le (Nat.lt_of_lt_of_le hb_v92 hX.1) hK1.1
                    have hb0_v92 := hb_v92
                    have ht_b115 := (hK1.2.1 _ (Nat.lt_of_lt_of_le hb_b115 hX.1)).trans ((hX.2.1 _ hb_b115).1.trans ht_b115)
                    have hb_b115 := Nat.lt_of_lt_of_le (Nat.lt_of_lt_of_le hb_b115 hX.1) hK1.1
                    have hb0_b115 := hb_b115
                    have hS0 := hS1
                    have hR0 := hR1
                    have hn := Nat.le_refl n126
                    have h94 := hS0.1
                    have hX := @yX.rf n126 tg126 I126 R126
                    have hS := hS0.x hX
                    have hR := hR0.x hn hX
                    have hz := hX.sz h94
                    have hxn := hX.1
                    have hN := hR0.1
                    have hnb := hR0.2.2.2.2.2.2
                    refine y_ret0 ?_
                    refine y_goto rfl j_X14_result_160 ?_
                    refine y_aload rfl rfl ?_
                    refine y_aload rfl rfl ?_
                    obtain ⟨hR_v127, hb_v127, ht_v127⟩ := hR0.ven hlo_b115 hb0_b115 ht_b115 (j := 1) (by decide)
                    have hb0_v127 := hb_v127
                    have hb_v127 := Nat.lt_of_lt_of_le hb_v127 hn
                    have hlo_v127 : 94 ≤ b115 + 1 + 1 := by omega
                    have hR2_v127 := (congrFun (hX.2.1 b115 hb_b115).2.2 1).trans hR_v127
                    refine y_getR rfl ((hX.2.1 _ hb_b115).1.trans ht_b115) (Nat.lt_of_lt_of_le hb_b115 hX.1) rfl rfl hR2_v127 ?_
                    refine y_virt rfl rfl rfl rfl rfl ((hX.2.1 _ hb_b115).1.trans ht_b115) (Nat.lt_of_lt_of_le hb_b115 hX.1) ?_
                    refine r_all ((hX.2.1 _ hb_v127).1.trans ht_v127) (Nat.lt_of_lt_of_le hb_v127 hX.1) (fun v_ => ?_)
                    refine y_ret1 ?_
                    refine y_ireturn rfl rfl rfl ?_
                    exact hQ _ _ _ _ _ _ _ hS ((hR0.grow hX).up (Nat.le_succ K) hk6) (hK.x hRo hno hX) (by omega) (by omega)
                · refine y_aload_n rfl rfl ?_
                  refine y_aload rfl rfl ?_
                  refine y_iload_n rfl rfl ?_
                  refine y_virt rfl rfl rfl rfl rfl (ySh.t hS rfl) (ySh.n hS rfl) ?_
                  refine h_profit hS (hR0.grow hX) hlo_b115 (Nat.lt_of_lt_of_le hb_b115 hX.1) ((hX.2.1 _ hb_b115).1.trans ht_b115) (fun n128 tg128 I128 R128 hS1 hR1 hK1 => ?_)
                  have hK := (hK.x hRo hno hX).trans hK1
                  have hnA := hK1.1
                  have ht_b91 := (hK1.2.1 _ (Nat.lt_of_lt_of_le hb_b91 hX.1)).trans ((hX.2.1 _ hb_b91).1.trans ht_b91)
                  have hb_b91 := Nat.lt_of_lt_of_le (Nat.lt_of_lt_of_le hb_b91 hX.1) hK1.1
                  have hb0_b91 := hb_b91
                  have ht_v92 := (hK1.2.1 _ (Nat.lt_of_lt_of_le hb_v92 hX.1)).trans ((hX.2.1 _ hb_v92).1.trans ht_v92)
                  have hb_v92 := Nat.lt_of_lt_of_le (Nat.lt_of_lt_of_le hb_v92 hX.1) hK1.1
                  have hb0_v92 := hb_v92
                  have ht_b115 := (hK1.2.1 _ (Nat.lt_of_lt_of_le hb_b115 hX.1)).trans ((hX.2.1 _ hb_b115).1.trans ht_b115)
                  have hb_b115 := Nat.lt_of_lt_of_le (Nat.lt_of_lt_of_le hb_b115 hX.1) hK1.1
                  have hb0_b115 := hb_b115
                  have hS0 := hS1
                  have hR0 := hR1
                  have hn := Nat.le_refl n128
                  have h94 := hS0.1
                  have hX := @yX.rf n128 tg128 I128 R128
                  have hS := hS0.x hX
                  have hR := hR0.x hn hX
                  have hz := hX.sz h94
                  have hxn := hX.1
                  have hN := hR0.1
                  have hnb := hR0.2.2.2.2.2.2
                  refine y_ret0 ?_
                  refine y_goto rfl j_X14_result_160 ?_
                  refine y_aload rfl rfl ?_
                  refine y_aload rfl rfl ?_
                  obtain ⟨hR_v129, hb_v129, ht_v129⟩ := hR0.ven hlo_b115 hb0_b115 ht_b115 (j := 1) (by decide)
                  have hb0_v129 := hb_v129
                  have hb_v129 := Nat.lt_of_lt_of_le hb_v129 hn
                  have hlo_v129 : 94 ≤ b115 + 1 + 1 := by omega
                  have hR2_v129 := (congrFun (hX.2.1 b115 hb_b115).2.2 1).trans hR_v129
                  refine y_getR rfl ((hX.2.1 _ hb_b115).1.trans ht_b115) (Nat.lt_of_lt_of_le hb_b115 hX.1) rfl rfl hR2_v129 ?_
                  refine y_virt rfl rfl rfl rfl rfl ((hX.2.1 _ hb_b115).1.trans ht_b115) (Nat.lt_of_lt_of_le hb_b115 hX.1) ?_
                  refine r_all ((hX.2.1 _ hb_v129).1.trans ht_v129) (Nat.lt_of_lt_of_le hb_v129 hX.1) (fun v_ => ?_)
                  refine y_ret1 ?_
                  refine y_ireturn rfl rfl rfl ?_
                  exact hQ _ _ _ _ _ _ _ hS ((hR0.grow hX).up (Nat.le_succ K) hk6) (hK.x hRo hno hX) (by omega) (by omega)
              · refine y_iconst rfl ?_
                refine y_goto rfl j_X14_result_95 ?_
                refine y_iconst rfl ?_
                refine y_virt rfl rfl rfl rfl rfl (ySh.t hS rfl) (ySh.n hS rfl) ?_
                refine y_in (M := xm_X14_refuse) (ls := [some _, some _, some _]) rfl rfl rfl ?_
                refine y_iload_n rfl rfl ?_
                refine y_if_eqF rfl (by decide) ?_
                refine y_aload_n rfl rfl ?_
                refine y_getIv (v := Int32.ofInt (0)) rfl (ySh.t hS rfl) (ySh.n hS rfl) rfl rfl hth ?_
                refine y_if_neF rfl (by decide) ?_
                refine y_aload_n rfl rfl ?_
                refine y_iload_n rfl rfl ?_
                refine y_putI rfl (ySh.t hS rfl) (ySh.n hS rfl) rfl (Nat.le_of_ble_eq_true rfl) rfl rfl ?_
                refine y_nameI (fun I130 e130 => ?_)
                have hR1 := (hR0.grow hX).mod0 e130 (by decide) (by decide)
                have hK := (hK.x hRo hno hX).upI (upI e130) (by decide) (by decide) (fun i hi => by have := (hRo.l87.2.2.2.2 i hi).2.1; omega) (by rw [e130, upd2_ne (.inr (by decide))]; exact Int.le_refl _)
                have hth : I130 83 0 = Int32.ofInt (3) := by rw [e130, upd2_self]
                have hzz : ySz8 I70 I130 := ySz8_of (upI e130) (by rw [e130]; exact ⟨upd2_ne (.inr (by decide)), upd2_ne (.inr (by decide))⟩)
                have hS0 := hS
                have hR0 := hR1
                have ht_b91 := (hX.2.1 _ hb_b91).1.trans ht_b91
                have hb_b91 := Nat.lt_of_lt_of_le hb_b91 hX.1
                have hb0_b91 := hb_b91
                have ht_v92 := (hX.2.1 _ hb_v92).1.trans ht_v92
                have hb_v92 := Nat.lt_of_lt_of_le hb_v92 hX.1
                have hb0_v92 := hb_v92
                have hn := Nat.le_refl n
                have h94 := hS0.1
                have hX := @yX.rf n tg I130 R
                have hS := hS0.x hX
                have hR := hR0.x hn hX
                have hz := hX.sz h94
                have hxn := hX.1
                have hN := hR0.1
                have hnb := hR0.2.2.2.2.2.2
                have hthB := hth
                refine y_aload_n rfl rfl ?_
                refine y_getIv (v := Int32.ofInt (3)) rfl (ySh.t hS rfl) (ySh.n hS rfl) rfl rfl hth ?_
                refine y_if_leF rfl (by decide) ?_
                refine y_iconst rfl ?_
                refine y_goto rfl j_X14_refuse_28 ?_
                refine y_ireturn rfl rfl rfl ?_
                refine y_ret1 ?_
                refine y_if_eqF rfl (by decide) ?_
                refine y_iconst rfl ?_
                refine y_ireturn rfl rfl rfl ?_
                exact hQ _ _ _ _ _ _ _ hS ((hR0.grow hX).up (Nat.le_succ K) hk6) (hK.x hRo hno hX) (by omega) (by omega)
        · rw [yz_m999] at h_73
          rw [yz_999] at h_73
          refine y_ret1 ?_
          refine y_if_neF rfl (by decide) ?_
          refine y_iconst rfl ?_
          refine y_goto rfl j_X14_result_54 ?_
          refine y_iconst rfl ?_
          refine y_virt rfl rfl rfl rfl rfl (ySh.t hS rfl) (ySh.n hS rfl) ?_
          refine y_in (M := xm_X14_refuse) (ls := [some _, some _, some _]) rfl rfl rfl ?_
          refine y_iload_n rfl rfl ?_
          refine y_if_eqF rfl (by decide) ?_
          refine y_aload_n rfl rfl ?_
          refine y_getIv (v := Int32.ofInt (0)) rfl (ySh.t hS rfl) (ySh.n hS rfl) rfl rfl hth ?_
          refine y_if_neF rfl (by decide) ?_
          refine y_aload_n rfl rfl ?_
          refine y_iload_n rfl rfl ?_
          refine y_putI rfl (ySh.t hS rfl) (ySh.n hS rfl) rfl (Nat.le_of_ble_eq_true rfl) rfl rfl ?_
          refine y_nameI (fun I131 e131 => ?_)
          have hR1 := (hR0.grow hX).mod0 e131 (by decide) (by decide)
          have hK := (hK.x hRo hno hX).upI (upI e131) (by decide) (by decide) (fun i hi => by have := (hRo.l87.2.2.2.2 i hi).2.1; omega) (by rw [e131, upd2_ne (.inr (by decide))]; exact Int.le_refl _)
          have hth : I131 83 0 = Int32.ofInt (2) := by rw [e131, upd2_self]
          have hzz : ySz8 I70 I131 := ySz8_of (upI e131) (by rw [e131]; exact ⟨upd2_ne (.inr (by decide)), upd2_ne (.inr (by decide))⟩)
          have hS0 := hS
          have hR0 := hR1
          have hn := Nat.le_refl n
          have h94 := hS0.1
          have hX := @yX.rf n tg I131 R
          have hS := hS0.x hX
          have hR := hR0.x hn hX
          have hz := hX.sz h94
          have hxn := hX.1
          have hN := hR0.1
          have hnb := hR0.2.2.2.2.2.2
          have hthB := hth
          refine y_aload_n rfl rfl ?_
          refine y_getIv (v := Int32.ofInt (2)) rfl (ySh.t hS rfl) (ySh.n hS rfl) rfl rfl hth ?_
          refine y_if_leF rfl (by decide) ?_
          refine y_iconst rfl ?_
          refine y_goto rfl j_X14_refuse_28 ?_
          refine y_ireturn rfl rfl rfl ?_
          refine y_ret1 ?_
          refine y_if_neT rfl j_X14_result_102 (by decide) ?_
          refine y_iconst rfl ?_
          refine y_ireturn rfl rfl rfl ?_
          exact hQ _ _ _ _ _ _ _ hS ((hR0.grow hX).up (Nat.le_succ K) hk6) (hK.x hRo hno hX) (by omega) (by omega)
      · rw [yz_m1] at h_69
        refine y_aload_n rfl rfl ?_
        refine y_iload_n rfl rfl ?_
        refine y_virt rfl rfl rfl rfl rfl (ySh.t hS rfl) (ySh.n hS rfl) ?_
        refine y_in (M := xm_X14_isNobody) (ls := [some _, some _]) rfl rfl rfl ?_
        refine y_iload_n rfl rfl ?_
        refine y_iconst rfl ?_
        refine y_aload_n rfl rfl ?_
        refine y_getI rfl (ySh.t hS rfl) (ySh.n hS rfl) rfl rfl ?_
        refine y_iconst rfl ?_
        refine y_isub rfl ?_
        refine y_static rfl rfl rfl rfl rfl ?_
        refine r_isIn (fun h_132 h_133 => ?_) (fun h_134 => ?_)
        · rw [yz_0] at h_132
          try rw [ysub (by rw [yz_1]; omega) (by rw [yz_1]; omega), yz_1] at h_133
          refine y_ret1 ?_
          refine y_if_neT rfl j_X14_isNobody_18 (by decide) ?_
          refine y_iconst rfl ?_
          refine y_ireturn rfl rfl rfl ?_
          refine y_ret1 ?_
          refine y_if_eqT rfl j_X14_isNoOne_17 (by decide) ?_
          refine y_iconst rfl ?_
          refine y_ireturn rfl rfl rfl ?_
          refine y_ret1 ?_
          refine y_if_eqT rfl j_X14_result_27 (by decide) ?_
          refine y_iconst rfl ?_
          refine y_iconst rfl ?_
          refine y_virt rfl rfl rfl rfl rfl (ySh.t hS rfl) (ySh.n hS rfl) ?_
          refine y_in (M := xm_X14_start) (ls := [some _, some _, some _]) rfl rfl rfl ?_
          refine y_aload_n rfl rfl ?_
          refine y_iconst rfl ?_
          refine y_putI rfl (ySh.t hS rfl) (ySh.n hS rfl) rfl (Nat.le_of_ble_eq_true rfl) rfl rfl ?_
          refine y_nameI (fun I135 e135 => ?_)
          have hR1 := (hR0.grow hX).mod0 e135 (by decide) (by decide)
          have hK := (hK.x hRo hno hX).upI (upI e135) (by decide) (by decide) (fun i hi => by have := (hRo.l87.2.2.2.2 i hi).2.1; omega) (by rw [e135, upd2_ne (.inr (by decide))]; exact Int.le_refl _)
          have hth : I135 83 0 = Int32.ofInt (0) := by rw [e135, upd2_self]
          have hzz : ySz8 I I135 := ySz8_of (upI e135) (by rw [e135]; exact ⟨upd2_ne (.inr (by decide)), upd2_ne (.inr (by decide))⟩)
          have hS0 := hS
          have hR0 := hR1
          have hn := Nat.le_refl n
          have h94 := hS0.1
          have hX := @yX.rf n tg I135 R
          have hS := hS0.x hX
          have hR := hR0.x hn hX
          have hz := hX.sz h94
          have hxn := hX.1
          have hN := hR0.1
          have hnb := hR0.2.2.2.2.2.2
          have hthB := hth
          refine y_aload_n rfl rfl ?_
          refine y_iload_n rfl rfl ?_
          refine y_iload_n rfl rfl ?_
          refine y_virt rfl rfl rfl rfl rfl (ySh.t hS rfl) (ySh.n hS rfl) ?_
          refine y_in (M := xm_X14_refuse) (ls := [some _, some _, some _]) rfl rfl rfl ?_
          refine y_iload_n rfl rfl ?_
          refine y_if_eqT rfl j_X14_refuse_16 (by decide) ?_
          refine y_aload_n rfl rfl ?_
          refine y_getIv (v := Int32.ofInt (0)) rfl (ySh.t hS rfl) (ySh.n hS rfl) rfl rfl hth ?_
          refine y_if_leT rfl j_X14_refuse_27 (by decide) ?_
          refine y_iconst rfl ?_
          refine y_ireturn rfl rfl rfl ?_
          refine y_ret1 ?_
          refine y_ireturn rfl rfl rfl ?_
          refine y_ret1 ?_
          refine y_if_neF rfl (by decide) ?_
          refine y_aload_n rfl rfl ?_
          refine y_iload_n rfl rfl ?_
          refine y_sip rfl (by decide) ?_
          refine y_sip rfl (by decide) ?_
          refine y_static rfl rfl rfl rfl rfl ?_
          refine r_isIn (fun h_136 h_137 => ?_) (fun h_138 => ?_)
          · rw [yz_m999] at h_136
            rw [yz_999] at h_137
            refine y_ret1 ?_
            refine y_if_neT rfl j_X14_result_53 (by decide) ?_
            refine y_iconst rfl ?_
            refine y_iconst rfl ?_
            refine y_virt rfl rfl rfl rfl rfl (ySh.t hS rfl) (ySh.n hS rfl) ?_
            refine y_in (M := xm_X14_refuse) (ls := [some _, some _, some _]) rfl rfl rfl ?_
            refine y_iload_n rfl rfl ?_
            refine y_if_eqT rfl j_X14_refuse_16 (by decide) ?_
            refine y_aload_n rfl rfl ?_
            refine y_getIv (v := Int32.ofInt (0)) rfl (ySh.t hS rfl) (ySh.n hS rfl) rfl rfl hth ?_
            refine y_if_leT rfl j_X14_refuse_27 (by decide) ?_
            refine y_iconst rfl ?_
            refine y_ireturn rfl rfl rfl ?_
            refine y_ret1 ?_
            refine y_if_neF rfl (by decide) ?_
            refine y_aload_n rfl rfl ?_
            refine y_iload_n rfl rfl ?_
            refine y_bip rfl (by decide) ?_
            refine y_icmp_eq rfl j_X14_result_94 (fun h_139 => ?_) (fun h_140 => ?_)
            · rw [yz_m2] at h_139
              refine y_iconst rfl ?_
              refine y_iconst rfl ?_
              refine y_virt rfl rfl rfl rfl rfl (ySh.t hS rfl) (ySh.n hS rfl) ?_
              refine y_in (M := xm_X14_refuse) (ls := [some _, some _, some _]) rfl rfl rfl ?_
              refine y_iload_n rfl rfl ?_
              refine y_if_eqT rfl j_X14_refuse_16 (by decide) ?_
              refine y_aload_n rfl rfl ?_
              refine y_getIv (v := Int32.ofInt (0)) rfl (ySh.t hS rfl) (ySh.n hS rfl) rfl rfl hth ?_
              refine y_if_leT rfl j_X14_refuse_27 (by decide) ?_
              refine y_iconst rfl ?_
              refine y_ireturn rfl rfl rfl ?_
              refine y_ret1 ?_
              refine y_if_eqT rfl j_X14_result_104 (by decide) ?_
              refine y_aload_n rfl rfl ?_
              refine y_getR rfl (ySh.t hS rfl) (ySh.n hS rfl) rfl rfl (ySh.r hS rfl) ?_
              refine y_iload_n rfl rfl ?_
              refine y_virt rfl rfl rfl rfl rfl (ySh.t hS rfl) (ySh.n hS rfl) ?_
              refine l_get (nb := n) (ySh.t hS rfl) (ySh.n hS rfl) (Nat.le_trans hn hX.1) hR.l91 (by omega) (by omega) (fun b141 eb_b141 hlo_b141 hb0_b141 ht_b141 => ?_)
              have hb_b141 := Nat.lt_of_lt_of_le hb0_b141 hn
              replace ht_b141 := (hX.2.1 _ hb_b141).1.symm.trans ht_b141
              refine y_ret1 ?_
              refine y_cast rfl ((hX.2.1 _ hb_b141).1.trans ht_b141) (Nat.lt_of_lt_of_le hb_b141 hX.1) ?_
              refine y_astore (ls' := [some _, some _, some _, some _, some _]) rfl rfl rfl ?_
              refine y_iload_n rfl rfl ?_
              refine y_if_lt rfl j_X14_result_131 (fun h_142 => ?_) (fun h_143 => ?_)
              · refine y_iload_n rfl rfl ?_
                refine y_bip rfl (by decide) ?_
                refine y_icmp_ne rfl j_X14_result_147 (fun h_144 => ?_) (fun h_145 => ?_)
                · rw [yz_m2] at h_144
                  refine y_aload_n rfl rfl ?_
                  refine y_getR rfl (ySh.t hS rfl) (ySh.n hS rfl) rfl rfl (ySh.r hS rfl) ?_
                  refine y_iload_n rfl rfl ?_
                  refine y_static rfl rfl rfl rfl rfl ?_
                  refine y_in (M := xm_X14_seat) (ls := [some _]) rfl rfl rfl ?_
                  refine y_iload_n rfl rfl ?_
                  refine y_iconst rfl ?_
                  refine y_icmp_ne rfl j_X14_seat_10 (fun h_146 => ?_) (fun h_147 => ?_)
                  · rw [yz_m1] at h_146
                    refine y_iload_n rfl rfl ?_
                    refine y_ireturn rfl rfl rfl ?_
                    refine y_ret1 ?_
                    refine y_dup2 rfl rfl rfl ?_
                    refine y_iaload rfl (ySh.t hS rfl) (ySh.n hS rfl) (by omega) (by omega) ?_
                    refine y_iload_n rfl rfl ?_
                    refine y_iadd rfl ?_
                    refine y_iastore rfl (ySh.t hS rfl) (ySh.n hS rfl) (Nat.le_of_ble_eq_true rfl) (by omega) (by omega) ?_
                    refine y_nameI (fun I148 e148 => ?_)
                    have hR1 := (hR0.grow hX).arr e148 (by decide)
                    have hK := (hK.x hRo hno hX).upI (upI e148) (by decide) (by decide) (fun i hi => by have := (hRo.l87.2.2.2.2 i hi).2.1; omega) (by rw [e148, upd2_ne (.inl (by omega))]; exact Int.le_refl _)
                    have hth := (show I148 83 0 = I135 83 0 by rw [e148, upd2_ne (.inl (by omega))]).trans hth
                    have hzz : ySz I135 I148 := ySz_ofE (upI e148) (by omega)
                    have hS0 := hS
                    have hR0 := hR1
                    have ht_b141 := (hX.2.1 _ hb_b141).1.trans ht_b141
                    have hb_b141 := Nat.lt_of_lt_of_le hb_b141 hX.1
                    have hb0_b141 := hb_b141
                    have hn := Nat.le_refl n
                    have h94 := hS0.1
                    have hX := @yX.rf n tg I148 R
                    have hS := hS0.x hX
                    have hR := hR0.x hn hX
                    have hz := hX.sz h94
                    have hxn := hX.1
                    have hN := hR0.1
                    have hnb := hR0.2.2.2.2.2.2
                    have hthB := hth
                    refine y_aload rfl rfl ?_
                    refine y_aload rfl rfl ?_
                    obtain ⟨hR_v149, hb_v149, ht_v149⟩ := hR0.ven hlo_b141 hb0_b141 ht_b141 (j := 1) (by decide)
                    have hb0_v149 := hb_v149
                    have hb_v149 := Nat.lt_of_lt_of_le hb_v149 hn
                    have hlo_v149 : 94 ≤ b141 + 1 + 1 := by omega
                    have hR2_v149 := (congrFun (hX.2.1 b141 hb_b141).2.2 1).trans hR_v149
                    refine y_getR rfl ((hX.2.1 _ hb_b141).1.trans ht_b141) (Nat.lt_of_lt_of_le hb_b141 hX.1) rfl rfl hR2_v149 ?_
                    refine y_virt rfl rfl rfl rfl rfl ((hX.2.1 _ hb_b141).1.trans ht_b141) (Nat.lt_of_lt_of_le hb_b141 hX.1) ?_
                    refine r_all ((hX.2.1 _ hb_v149).1.trans ht_v149) (Nat.lt_of_lt_of_le hb_v149 hX.1) (fun v_ => ?_)
                    refine y_ret1 ?_
                    refine y_ireturn rfl rfl rfl ?_
                    exact hQ _ _ _ _ _ _ _ hS ((hR0.grow hX).up (Nat.le_succ K) hk6) (hK.x hRo hno hX) (by omega) (by omega)
                  · rw [yz_m1] at h_147
                    refine y_bip rfl (by decide) ?_
                    refine y_goto rfl j_X14_seat_11 ?_
                    refine y_ireturn rfl rfl rfl ?_
                    refine y_ret1 ?_
                    refine y_dup2 rfl rfl rfl ?_
                    refine y_ialoadC (j := 8) rfl (ySh.t hS rfl) (ySh.n hS rfl) (by decide) (by decide) rfl ?_
                    refine y_iload_n rfl rfl ?_
                    refine y_iadd rfl ?_
                    refine y_iastoreC (j := 8) rfl (ySh.t hS rfl) (ySh.n hS rfl) (Nat.le_of_ble_eq_true rfl) (by decide) (by decide) rfl ?_
                    refine y_nameI (fun I150 e150 => ?_)
                    have hR1 := (hR0.grow hX).arr e150 (by decide)
                    have hK := (hK.x hRo hno hX).upI (upI e150) (by decide) (by decide) (fun i hi => by have := (hRo.l87.2.2.2.2 i hi).2.1; omega) (by rw [e150, upd2_ne (.inl (by omega))]; exact Int.le_refl _)
                    have hth := (show I150 83 0 = I135 83 0 by rw [e150, upd2_ne (.inl (by omega))]).trans hth
                    have hzz : ySz I135 I150 := ySz_ofE (upI e150) (by omega)
                    have hS0 := hS
                    have hR0 := hR1
                    have ht_b141 := (hX.2.1 _ hb_b141).1.trans ht_b141
                    have hb_b141 := Nat.lt_of_lt_of_le hb_b141 hX.1
                    have hb0_b141 := hb_b141
                    have hn := Nat.le_refl n
                    have h94 := hS0.1
                    have hX := @yX.rf n tg I150 R
                    have hS := hS0.x hX
                    have hR := hR0.x hn hX
                    have hz := hX.sz h94
                    have hxn := hX.1
                    have hN := hR0.1
                    have hnb := hR0.2.2.2.2.2.2
                    have hthB := hth
                    refine y_aload rfl rfl ?_
                    refine y_aload rfl rfl ?_
                    obtain ⟨hR_v151, hb_v151, ht_v151⟩ := hR0.ven hlo_b141 hb0_b141 ht_b141 (j := 1) (by decide)
                    have hb0_v151 := hb_v151
                    have hb_v151 := Nat.lt_of_lt_of_le hb_v151 hn
                    have hlo_v151 : 94 ≤ b141 + 1 + 1 := by omega
                    have hR2_v151 := (congrFun (hX.2.1 b141 hb_b141).2.2 1).trans hR_v151
                    refine y_getR rfl ((hX.2.1 _ hb_b141).1.trans ht_b141) (Nat.lt_of_lt_of_le hb_b141 hX.1) rfl rfl hR2_v151 ?_
                    refine y_virt rfl rfl rfl rfl rfl ((hX.2.1 _ hb_b141).1.trans ht_b141) (Nat.lt_of_lt_of_le hb_b141 hX.1) ?_
                    refine r_all ((hX.2.1 _ hb_v151).1.trans ht_v151) (Nat.lt_of_lt_of_le hb_v151 hX.1) (fun v_ => ?_)
                    refine y_ret1 ?_
                    refine y_ireturn rfl rfl rfl ?_
                    exact hQ _ _ _ _ _ _ _ hS ((hR0.grow hX).up (Nat.le_succ K) hk6) (hK.x hRo hno hX) (by omega) (by omega)
                · rw [yz_m2] at h_145
                  refine y_aload rfl rfl ?_
                  refine y_iload_n rfl rfl ?_
                  refine y_ineg rfl ?_
                  refine y_virt rfl rfl rfl rfl rfl ((hX.2.1 _ hb_b141).1.trans ht_b141) (Nat.lt_of_lt_of_le hb_b141 hX.1) ?_
                  refine h_lose hS (hR0.grow hX) hlo_b141 (Nat.lt_of_lt_of_le hb_b141 hX.1) ((hX.2.1 _ hb_b141).1.trans ht_b141) (yneg2 (by omega) (by omega)).1 (yneg2 (by omega) (by omega)).2 (fun n152 tg152 I152 R152 hS1 hR1 hK1 => ?_)
                  have hK := (hK.x hRo hno hX).trans hK1
                  have hnA := hK1.1
                  have ht_b141 := (hK1.2.1 _ (Nat.lt_of_lt_of_le hb_b141 hX.1)).trans ((hX.2.1 _ hb_b141).1.trans ht_b141)
                  have hb_b141 := Nat.lt_of_lt_of_le (Nat.lt_of_lt_of_le hb_b141 hX.1) hK1.1
                  have hb0_b141 := hb_b141
                  have hS0 := hS1
                  have hR0 := hR1
                  have hn := Nat.le_refl n152
                  have h94 := hS0.1
                  have hX := @yX.rf n152 tg152 I152 R152
                  have hS := hS0.x hX
                  have hR := hR0.x hn hX
                  have hz := hX.sz h94
                  have hxn := hX.1
                  have hN := hR0.1
                  have hnb := hR0.2.2.2.2.2.2
                  refine y_ret0 ?_
                  refine y_goto rfl j_X14_result_160 ?_
                  refine y_aload rfl rfl ?_
                  refine y_aload rfl rfl ?_
                  obtain ⟨hR_v153, hb_v153, ht_v153⟩ := hR0.ven hlo_b141 hb0_b141 ht_b141 (j := 1) (by decide)
                  have hb0_v153 := hb_v153
                  have hb_v153 := Nat.lt_of_lt_of_le hb_v153 hn
                  have hlo_v153 : 94 ≤ b141 + 1 + 1 := by omega
                  have hR2_v153 := (congrFun (hX.2.1 b141 hb_b141).2.2 1).trans hR_v153
                  refine y_getR rfl ((hX.2.1 _ hb_b141).1.trans ht_b141) (Nat.lt_of_lt_of_le hb_b141 hX.1) rfl rfl hR2_v153 ?_
                  refine y_virt rfl rfl rfl rfl rfl ((hX.2.1 _ hb_b141).1.trans ht_b141) (Nat.lt_of_lt_of_le hb_b141 hX.1) ?_
                  refine r_all ((hX.2.1 _ hb_v153).1.trans ht_v153) (Nat.lt_of_lt_of_le hb_v153 hX.1) (fun v_ => ?_)
                  refine y_ret1 ?_
                  refine y_ireturn rfl rfl rfl ?_
                  exact hQ _ _ _ _ _ _ _ hS ((hR0.grow hX).up (Nat.le_succ K) hk6) (hK.x hRo hno hX) (by omega) (by omega)
              · refine y_aload_n rfl rfl ?_
                refine y_aload rfl rfl ?_
                refine y_iload_n rfl rfl ?_
                refine y_virt rfl rfl rfl rfl rfl (ySh.t hS rfl) (ySh.n hS rfl) ?_
                refine h_profit hS (hR0.grow hX) hlo_b141 (Nat.lt_of_lt_of_le hb_b141 hX.1) ((hX.2.1 _ hb_b141).1.trans ht_b141) (fun n154 tg154 I154 R154 hS1 hR1 hK1 => ?_)
                have hK := (hK.x hRo hno hX).trans hK1
                have hnA := hK1.1
                have ht_b141 := (hK1.2.1 _ (Nat.lt_of_lt_of_le hb_b141 hX.1)).trans ((hX.2.1 _ hb_b141).1.trans ht_b141)
                have hb_b141 := Nat.lt_of_lt_of_le (Nat.lt_of_lt_of_le hb_b141 hX.1) hK1.1
                have hb0_b141 := hb_b141
                have hS0 := hS1
                have hR0 := hR1
                have hn := Nat.le_refl n154
                have h94 := hS0.1
                have hX := @yX.rf n154 tg154 I154 R154
                have hS := hS0.x hX
                have hR := hR0.x hn hX
                have hz := hX.sz h94
                have hxn := hX.1
                have hN := hR0.1
                have hnb := hR0.2.2.2.2.2.2
                refine y_ret0 ?_
                refine y_goto rfl j_X14_result_160 ?_
                refine y_aload rfl rfl ?_
                refine y_aload rfl rfl ?_
                obtain ⟨hR_v155, hb_v155, ht_v155⟩ := hR0.ven hlo_b141 hb0_b141 ht_b141 (j := 1) (by decide)
                have hb0_v155 := hb_v155
                have hb_v155 := Nat.lt_of_lt_of_le hb_v155 hn
                have hlo_v155 : 94 ≤ b141 + 1 + 1 := by omega
                have hR2_v155 := (congrFun (hX.2.1 b141 hb_b141).2.2 1).trans hR_v155
                refine y_getR rfl ((hX.2.1 _ hb_b141).1.trans ht_b141) (Nat.lt_of_lt_of_le hb_b141 hX.1) rfl rfl hR2_v155 ?_
                refine y_virt rfl rfl rfl rfl rfl ((hX.2.1 _ hb_b141).1.trans ht_b141) (Nat.lt_of_lt_of_le hb_b141 hX.1) ?_
                refine r_all ((hX.2.1 _ hb_v155).1.trans ht_v155) (Nat.lt_of_lt_of_le hb_v155 hX.1) (fun v_ => ?_)
                refine y_ret1 ?_
                refine y_ireturn rfl rfl rfl ?_
                exact hQ _ _ _ _ _ _ _ hS ((hR0.grow hX).up (Nat.le_succ K) hk6) (hK.x hRo hno hX) (by omega) (by omega)
            · rw [yz_m2] at h_140
              refine y_aload_n rfl rfl ?_
              refine y_getR rfl (ySh.t hS rfl) (ySh.n hS rfl) rfl rfl (ySh.r hS rfl) ?_
              refine y_iload_n rfl rfl ?_
              refine y_virt rfl rfl rfl rfl rfl (ySh.t hS rfl) (ySh.n hS rfl) ?_
              refine l_get (nb := n) (ySh.t hS rfl) (ySh.n hS rfl) (Nat.le_trans hn hX.1) hR.l91 (by omega) (by omega) (fun b156 eb_b156 hlo_b156 hb0_b156 ht_b156 => ?_)
              have hb_b156 := Nat.lt_of_lt_of_le hb0_b156 hn
              replace ht_b156 := (hX.2.1 _ hb_b156).1.symm.trans ht_b156
              refine y_ret1 ?_
              refine y_cast rfl ((hX.2.1 _ hb_b156).1.trans ht_b156) (Nat.lt_of_lt_of_le hb_b156 hX.1) ?_
              obtain ⟨hR_v157, hb_v157, ht_v157⟩ := hR0.ven hlo_b156 hb0_b156 ht_b156 (j := 0) (by decide)
              have hb0_v157 := hb_v157
              have hb_v157 := Nat.lt_of_lt_of_le hb_v157 hn
              have hlo_v157 : 94 ≤ b156 + 1 + 0 := by omega
              have hR2_v157 := (congrFun (hX.2.1 b156 hb_b156).2.2 0).trans hR_v157
              refine y_getR rfl ((hX.2.1 _ hb_b156).1.trans ht_b156) (Nat.lt_of_lt_of_le hb_b156 hX.1) rfl rfl hR2_v157 ?_
              refine y_iload_n rfl rfl ?_
              refine y_static rfl rfl rfl rfl rfl ?_
              refine y_in (M := xm_X14_seat) (ls := [some _]) rfl rfl rfl ?_
              refine y_iload_n rfl rfl ?_
              refine y_iconst rfl ?_
              refine y_icmp_ne rfl j_X14_seat_10 (fun h_158 => ?_) (fun h_159 => ?_)
              · rw [yz_m1] at h_158
                refine y_iload_n rfl rfl ?_
                refine y_ireturn rfl rfl rfl ?_
                refine y_ret1 ?_
                refine y_baload rfl ((hX.2.1 _ hb_v157).1.trans ht_v157) rfl (Nat.lt_of_lt_of_le hb_v157 hX.1) (by omega) (by omega) ?_
                refine y_if_ne rfl j_X14_result_94 (fun h_160 => ?_) (fun h_161 => ?_)
                · refine y_iconst rfl ?_
                  refine y_iconst rfl ?_
                  refine y_virt rfl rfl rfl rfl rfl (ySh.t hS rfl) (ySh.n hS rfl) ?_
                  refine y_in (M := xm_X14_refuse) (ls := [some _, some _, some _]) rfl rfl rfl ?_
                  refine y_iload_n rfl rfl ?_
                  refine y_if_eqT rfl j_X14_refuse_16 (by decide) ?_
                  refine y_aload_n rfl rfl ?_
                  refine y_getIv (v := Int32.ofInt (0)) rfl (ySh.t hS rfl) (ySh.n hS rfl) rfl rfl hth ?_
                  refine y_if_leT rfl j_X14_refuse_27 (by decide) ?_
                  refine y_iconst rfl ?_
                  refine y_ireturn rfl rfl rfl ?_
                  refine y_ret1 ?_
                  refine y_if_eqT rfl j_X14_result_104 (by decide) ?_
                  refine y_aload_n rfl rfl ?_
                  refine y_getR rfl (ySh.t hS rfl) (ySh.n hS rfl) rfl rfl (ySh.r hS rfl) ?_
                  refine y_iload_n rfl rfl ?_
                  refine y_virt rfl rfl rfl rfl rfl (ySh.t hS rfl) (ySh.n hS rfl) ?_
                  refine l_get (nb := n) (ySh.t hS rfl) (ySh.n hS rfl) (Nat.le_trans hn hX.1) hR.l91 (by omega) (by omega) (fun b162 eb_b162 hlo_b162 hb0_b162 ht_b162 => ?_)
                  have hb_b162 := Nat.lt_of_lt_of_le hb0_b162 hn
                  replace ht_b162 := (hX.2.1 _ hb_b162).1.symm.trans ht_b162
                  refine y_ret1 ?_
                  refine y_cast rfl ((hX.2.1 _ hb_b162).1.trans ht_b162) (Nat.lt_of_lt_of_le hb_b162 hX.1) ?_
                  refine y_astore (ls' := [some _, some _, some _, some _, some _]) rfl rfl rfl ?_
                  refine y_iload_n rfl rfl ?_
                  refine y_if_lt rfl j_X14_result_131 (fun h_163 => ?_) (fun h_164 => ?_)
                  · refine y_iload_n rfl rfl ?_
                    refine y_bip rfl (by decide) ?_
                    refine y_icmp_ne rfl j_X14_result_147 (fun h_165 => ?_) (fun h_166 => ?_)
                    · rw [yz_m2] at h_165
                      refine y_aload_n rfl rfl ?_
                      refine y_getR rfl (ySh.t hS rfl) (ySh.n hS rfl) rfl rfl (ySh.r hS rfl) ?_
                      refine y_iload_n rfl rfl ?_
                      refine y_static rfl rfl rfl rfl rfl ?_
                      refine y_in (M := xm_X14_seat) (ls := [some _]) rfl rfl rfl ?_
                      refine y_iload_n rfl rfl ?_
                      refine y_iconst rfl ?_
                      refine y_icmp_ne rfl j_X14_seat_10 (fun h_167 => ?_) (fun h_168 => ?_)
                      · rw [yz_m1] at h_167
                        refine y_iload_n rfl rfl ?_
                        refine y_ireturn rfl rfl rfl ?_
                        refine y_ret1 ?_
                        refine y_dup2 rfl rfl rfl ?_
                        refine y_iaload rfl (ySh.t hS rfl) (ySh.n hS rfl) (by omega) (by omega) ?_
                        refine y_iload_n rfl rfl ?_
                        refine y_iadd rfl ?_
                        refine y_iastore rfl (ySh.t hS rfl) (ySh.n hS rfl) (Nat.le_of_ble_eq_true rfl) (by omega) (by omega) ?_
                        refine y_nameI (fun I169 e169 => ?_)
                        have hR1 := (hR0.grow hX).arr e169 (by decide)
                        have hK := (hK.x hRo hno hX).upI (upI e169) (by decide) (by decide) (fun i hi => by have := (hRo.l87.2.2.2.2 i hi).2.1; omega) (by rw [e169, upd2_ne (.inl (by omega))]; exact Int.le_refl _)
                        have hth := (show I169 83 0 = I135 83 0 by rw [e169, upd2_ne (.inl (by omega))]).trans hth
                        have hzz : ySz I135 I169 := ySz_ofE (upI e169) (by omega)
                        have hS0 := hS
                        have hR0 := hR1
                        have ht_b156 := (hX.2.1 _ hb_b156).1.trans ht_b156
                        have hb_b156 := Nat.lt_of_lt_of_le hb_b156 hX.1
                        have hb0_b156 := hb_b156
                        have ht_v157 := (hX.2.1 _ hb_v157).1.trans ht_v157
                        have hb_v157 := Nat.lt_of_lt_of_le hb_v157 hX.1
                        have hb0_v157 := hb_v157
                        have ht_b162 := (hX.2.1 _ hb_b162).1.trans ht_b162
                        have hb_b162 := Nat.lt_of_lt_of_le hb_b162 hX.1
                        have hb0_b162 := hb_b162
                        have hn := Nat.le_refl n
                        have h94 := hS0.1
                        have hX := @yX.rf n tg I169 R
                        have hS := hS0.x hX
                        have hR := hR0.x hn hX
                        have hz := hX.sz h94
                        have hxn := hX.1
                        have hN := hR0.1
                        have hnb := hR0.2.2.2.2.2.2
                        have hthB := hth
                        refine y_aload rfl rfl ?_
                        refine y_aload rfl rfl ?_
                        obtain ⟨hR_v170, hb_v170, ht_v170⟩ := hR0.ven hlo_b162 hb0_b162 ht_b162 (j := 1) (by decide)
                        have hb0_v170 := hb_v170
                        have hb_v170 := Nat.lt_of_lt_of_le hb_v170 hn
                        have hlo_v170 : 94 ≤ b162 + 1 + 1 := by omega
                        have hR2_v170 := (congrFun (hX.2.1 b162 hb_b162).2.2 1).trans hR_v170
                        refine y_getR rfl ((hX.2.1 _ hb_b162).1.trans ht_b162) (Nat.lt_of_lt_of_le hb_b162 hX.1) rfl rfl hR2_v170 ?_
                        refine y_virt rfl rfl rfl rfl rfl ((hX.2.1 _ hb_b162).1.trans ht_b162) (Nat.lt_of_lt_of_le hb_b162 hX.1) ?_
                        refine r_all ((hX.2.1 _ hb_v170).1.trans ht_v170) (Nat.lt_of_lt_of_le hb_v170 hX.1) (fun v_ => ?_)
                        refine y_ret1 ?_
                        refine y_ireturn rfl rfl rfl ?_
                        exact hQ _ _ _ _ _ _ _ hS ((hR0.grow hX).up (Nat.le_succ K) hk6) (hK.x hRo hno hX) (by omega) (by omega)
                      · rw [yz_m1] at h_168
                        refine y_bip rfl (by decide) ?_
                        refine y_goto rfl j_X14_seat_11 ?_
                        refine y_ireturn rfl rfl rfl ?_
                        refine y_ret1 ?_
                        refine y_dup2 rfl rfl rfl ?_
                        refine y_ialoadC (j := 8) rfl (ySh.t hS rfl) (ySh.n hS rfl) (by decide) (by decide) rfl ?_
                        refine y_iload_n rfl rfl ?_
                        refine y_iadd rfl ?_
                        refine y_iastoreC (j := 8) rfl (ySh.t hS rfl) (ySh.n hS rfl) (Nat.le_of_ble_eq_true rfl) (by decide) (by decide) rfl ?_
                        refine y_nameI (fun I171 e171 => ?_)
                        have hR1 := (hR0.grow hX).arr e171 (by decide)
                        have hK := (hK.x hRo hno hX).upI (upI e171) (by decide) (by decide) (fun i hi => by have := (hRo.l87.2.2.2.2 i hi).2.1; omega) (by rw [e171, upd2_ne (.inl (by omega))]; exact Int.le_refl _)
                        have hth := (show I171 83 0 = I135 83 0 by rw [e171, upd2_ne (.inl (by omega))]).trans hth
                        have hzz : ySz I135 I171 := ySz_ofE (upI e171) (by omega)
                        have hS0 := hS
                        have hR0 := hR1
                        have ht_b156 := (hX.2.1 _ hb_b156).1.trans ht_b156
                        have hb_b156 := Nat.lt_of_lt_of_le hb_b156 hX.1
                        have hb0_b156 := hb_b156
                        have ht_v157 := (hX.2.1 _ hb_v157).1.trans ht_v157
                        have hb_v157 := Nat.lt_of_lt_of_le hb_v157 hX.1
                        have hb0_v157 := hb_v157
                        have ht_b162 := (hX.2.1 _ hb_b162).1.trans ht_b162
                        have hb_b162 := Nat.lt_of_lt_of_le hb_b162 hX.1
                        have hb0_b162 := hb_b162
                        have hn := Nat.le_refl n
                        have h94 := hS0.1
                        have hX := @yX.rf n tg I171 R
                        have hS := hS0.x hX
                        have hR := hR0.x hn hX
                        have hz := hX.sz h94
                        have hxn := hX.1
                        have hN := hR0.1
                        have hnb := hR0.2.2.2.2.2.2
                        have hthB := hth
                        refine y_aload rfl rfl ?_
                        refine y_aload rfl rfl ?_
                        obtain ⟨hR_v172, hb_v172, ht_v172⟩ := hR0.ven hlo_b162 hb0_b162 ht_b162 (j := 1) (by decide)
                        have hb0_v172 := hb_v172
                        have hb_v172 := Nat.lt_of_lt_of_le hb_v172 hn
                        have hlo_v172 : 94 ≤ b162 + 1 + 1 := by omega
                        have hR2_v172 := (congrFun (hX.2.1 b162 hb_b162).2.2 1).trans hR_v172
                        refine y_getR rfl ((hX.2.1 _ hb_b162).1.trans ht_b162) (Nat.lt_of_lt_of_le hb_b162 hX.1) rfl rfl hR2_v172 ?_
                        refine y_virt rfl rfl rfl rfl rfl ((hX.2.1 _ hb_b162).1.trans ht_b162) (Nat.lt_of_lt_of_le hb_b162 hX.1) ?_
                        refine r_all ((hX.2.1 _ hb_v172).1.trans ht_v172) (Nat.lt_of_lt_of_le hb_v172 hX.1) (fun v_ => ?_)
                        refine y_ret1 ?_
                        refine y_ireturn rfl rfl rfl ?_
                        exact hQ _ _ _ _ _ _ _ hS ((hR0.grow hX).up (Nat.le_succ K) hk6) (hK.x hRo hno hX) (by omega) (by omega)
                    · rw [yz_m2] at h_166
                      refine y_aload rfl rfl ?_
                      refine y_iload_n rfl rfl ?_
                      refine y_ineg rfl ?_
                      refine y_virt rfl rfl rfl rfl rfl ((hX.2.1 _ hb_b162).1.trans ht_b162) (Nat.lt_of_lt_of_le hb_b162 hX.1) ?_
                      refine h_lose hS (hR0.grow hX) hlo_b162 (Nat.lt_of_lt_of_le hb_b162 hX.1) ((hX.2.1 _ hb_b162).1.trans ht_b162) (yneg2 (by omega) (by omega)).1 (yneg2 (by omega) (by omega)).2 (fun n173 tg173 I173 R173 hS1 hR1 hK1 => ?_)
                      have hK := (hK.x hRo hno hX).trans hK1
                      have hnA := hK1.1
                      have ht_b156 := (hK1.2.1 _ (Nat.lt_of_lt_of_le hb_b156 hX.1)).trans ((hX.2.1 _ hb_b156).1.trans ht_b156)
                      have hb_b156 := Nat.lt_of_lt_of_le (Nat.lt_of_lt_of_le hb_b156 hX.1) hK1.1
                      have hb0_b156 := hb_b156
                      have ht_v157 := (hK1.2.1 _ (Nat.lt_of_lt_of_le hb_v157 hX.1)).trans ((hX.2.1 _ hb_v157).1.trans ht_v157)
                      have hb_v157 := Nat.lt_of_lt_of_le (Nat.lt_of_lt_of_le hb_v157 hX.1) hK1.1
                      have hb0_v157 := hb_v157
                      have ht_b162 := (hK1.2.1 _ (Nat.lt_of_lt_of_le hb_b162 hX.1)).trans ((hX.2.1 _ hb_b162).1.trans ht_b162)
                      have hb_b162 := Nat.lt_of_lt_of_le (Nat.lt_of_lt_of_le hb_b162 hX.1) hK1.1
                      have hb0_b162 := hb_b162
                      have hS0 := hS1
                      have hR0 := hR1
                      have hn := Nat.le_refl n173
                      have h94 := hS0.1
                      have hX := @yX.rf n173 tg173 I173 R173
                      have hS := hS0.x hX
                      have hR := hR0.x hn hX
                      have hz := hX.sz h94
                      have hxn := hX.1
                      have hN := hR0.1
                      have hnb := hR0.2.2.2.2.2.2
                      refine y_ret0 ?_
                      refine y_goto rfl j_X14_result_160 ?_
                      refine y_aload rfl rfl ?_
                      refine y_aload rfl rfl ?_
                      obtain ⟨hR_v174, hb_v174, ht_v174⟩ := hR0.ven hlo_b162 hb0_b162 ht_b162 (j := 1) (by decide)
                      have hb0_v174 := hb_v174
                      have hb_v174 := Nat.lt_of_lt_of_le hb_v174 hn
                      have hlo_v174 : 94 ≤ b162 + 1 + 1 := by omega
                      have hR2_v174 := (congrFun (hX.2.1 b162 hb_b162).2.2 1).trans hR_v174
                      refine y_getR rfl ((hX.2.1 _ hb_b162).1.trans ht_b162) (Nat.lt_of_lt_of_le hb_b162 hX.1) rfl rfl hR2_v174 ?_
                      refine y_virt rfl rfl rfl rfl rfl ((hX.2.1 _ hb_b162).1.trans ht_b162) (Nat.lt_of_lt_of_le hb_b162 hX.1) ?_
                      refine r_all ((hX.2.1 _ hb_v174).1.trans ht_v174) (Nat.lt_of_lt_of_le hb_v174 hX.1) (fun v_ => ?_)
                      refine y_ret1 ?_
                      refine y_ireturn rfl rfl rfl ?_
                      exact hQ _ _ _ _ _ _ _ hS ((hR0.grow hX).up (Nat.le_succ K) hk6) (hK.x hRo hno hX) (by omega) (by omega)
                  · refine y_aload_n rfl rfl ?_
                    refine y_aload rfl rfl ?_
                    refine y_iload_n rfl rfl ?_
                    refine y_virt rfl rfl rfl rfl rfl (ySh.t hS rfl) (ySh.n hS rfl) ?_
                    refine h_profit hS (hR0.grow hX) hlo_b162 (Nat.lt_of_lt_of_le hb_b162 hX.1) ((hX.2.1 _ hb_b162).1.trans ht_b162) (fun n175 tg175 I175 R175 hS1 hR1 hK1 => ?_)
                    have hK := (hK.x hRo hno hX).trans hK1
                    have hnA := hK1.1
                    have ht_b156 := (hK1.2.1 _ (Nat.lt_of_lt_of_le hb_b156 hX.1)).trans ((hX.2.1 _ hb_b156).1.trans ht_b156)
                    have hb_b156 := Nat.lt_of_lt_of_le (Nat.lt_of_lt_of_le hb_b156 hX.1) hK1.1
                    have hb0_b156 := hb_b156
                    have ht_v157 := (hK1.2.1 _ (Nat.lt_of_lt_of_le hb_v157 hX.1)).trans ((hX.2.1 _ hb_v157).1.trans ht_v157)
                    have hb_v157 := Nat.lt_of_lt_of_le (Nat.lt_of_lt_of_le hb_v157 hX.1) hK1.1
                    have hb0_v157 := hb_v157
                    have ht_b162 := (hK1.2.1 _ (Nat.lt_of_lt_of_le hb_b162 hX.1)).trans ((hX.2.1 _ hb_b162).1.trans ht_b162)
                    have hb_b162 := Nat.lt_of_lt_of_le (Nat.lt_of_lt_of_le hb_b162 hX.1) hK1.1
                    have hb0_b162 := hb_b162
                    have hS0 := hS1
                    have hR0 := hR1
                    have hn := Nat.le_refl n175
                    have h94 := hS0.1
                    have hX := @yX.rf n175 tg175 I175 R175
                    have hS := hS0.x hX
                    have hR := hR0.x hn hX
                    have hz := hX.sz h94
                    have hxn := hX.1
                    have hN := hR0.1
                    have hnb := hR0.2.2.2.2.2.2
                    refine y_ret0 ?_
                    refine y_goto rfl j_X14_result_160 ?_
                    refine y_aload rfl rfl ?_
                    refine y_aload rfl rfl ?_
                    obtain ⟨hR_v176, hb_v176, ht_v176⟩ := hR0.ven hlo_b162 hb0_b162 ht_b162 (j := 1) (by decide)
                    have hb0_v176 := hb_v176
                    have hb_v176 := Nat.lt_of_lt_of_le hb_v176 hn
                    have hlo_v176 : 94 ≤ b162 + 1 + 1 := by omega
                    have hR2_v176 := (congrFun (hX.2.1 b162 hb_b162).2.2 1).trans hR_v176
                    refine y_getR rfl ((hX.2.1 _ hb_b162).1.trans ht_b162) (Nat.lt_of_lt_of_le hb_b162 hX.1) rfl rfl hR2_v176 ?_
                    refine y_virt rfl rfl rfl rfl rfl ((hX.2.1 _ hb_b162).1.trans ht_b162) (Nat.lt_of_lt_of_le hb_b162 hX.1) ?_
                    refine r_all ((hX.2.1 _ hb_v176).1.trans ht_v176) (Nat.lt_of_lt_of_le hb_v176 hX.1) (fun v_ => ?_)
                    refine y_ret1 ?_
                    refine y_ireturn rfl rfl rfl ?_
                    exact hQ _ _ _ _ _ _ _ hS ((hR0.grow hX).up (Nat.le_succ K) hk6) (hK.x hRo hno hX) (by omega) (by omega)
                · refine y_iconst rfl ?_
                  refine y_goto rfl j_X14_result_95 ?_
                  refine y_iconst rfl ?_
                  refine y_virt rfl rfl rfl rfl rfl (ySh.t hS rfl) (ySh.n hS rfl) ?_
                  refine y_in (M := xm_X14_refuse) (ls := [some _, some _, some _]) rfl rfl rfl ?_
                  refine y_iload_n rfl rfl ?_
                  refine y_if_eqF rfl (by decide) ?_
                  refine y_aload_n rfl rfl ?_
                  refine y_getIv (v := Int32.ofInt (0)) rfl (ySh.t hS rfl) (ySh.n hS rfl) rfl rfl hth ?_
                  refine y_if_neF rfl (by decide) ?_
                  refine y_aload_n rfl rfl ?_
                  refine y_iload_n rfl rfl ?_
                  refine y_putI rfl (ySh.t hS rfl) (ySh.n hS rfl) rfl (Nat.le_of_ble_eq_true rfl) rfl rfl ?_
                  refine y_nameI (fun I177 e177 => ?_)
                  have hR1 := (hR0.grow hX).mod0 e177 (by decide) (by decide)
                  have hK := (hK.x hRo hno hX).upI (upI e177) (by decide) (by decide) (fun i hi => by have := (hRo.l87.2.2.2.2 i hi).2.1; omega) (by rw [e177, upd2_ne (.inr (by decide))]; exact Int.le_refl _)
                  have hth : I177 83 0 = Int32.ofInt (3) := by rw [e177, upd2_self]
                  have hzz : ySz8 I135 I177 := ySz8_of (upI e177) (by rw [e177]; exact ⟨upd2_ne (.inr (by decide)), upd2_ne (.inr (by decide))⟩)
                  have hS0 := hS
                  have hR0 := hR1
                  have ht_b156 := (hX.2.1 _ hb_b156).1.trans ht_b156
                  have hb_b156 := Nat.lt_of_lt_of_le hb_b156 hX.1
                  have hb0_b156 := hb_b156
                  have ht_v157 := (hX.2.1 _ hb_v157).1.trans ht_v157
                  have hb_v157 := Nat.lt_of_lt_of_le hb_v157 hX.1
                  have hb0_v157 := hb_v157
                  have hn := Nat.le_refl n
                  have h94 := hS0.1
                  have hX := @yX.rf n tg I177 R
                  have hS := hS0.x hX
                  have hR := hR0.x hn hX
                  have hz := hX.sz h94
                  have hxn := hX.1
                  have hN := hR0.1
                  have hnb := hR0.2.2.2.2.2.2
                  have hthB := hth
                  refine y_aload_n rfl rfl ?_
                  refine y_getIv (v := Int32.ofInt (3)) rfl (ySh.t hS rfl) (ySh.n hS rfl) rfl rfl hth ?_
                  refine y_if_leF rfl (by decide) ?_
                  refine y_iconst rfl ?_
                  refine y_goto rfl j_X14_refuse_28 ?_
                  refine y_ireturn rfl rfl rfl ?_
                  refine y_ret1 ?_
                  refine y_if_eqF rfl (by decide) ?_
                  refine y_iconst rfl ?_
                  refine y_ireturn rfl rfl rfl ?_
                  exact hQ _ _ _ _ _ _ _ hS ((hR0.grow hX).up (Nat.le_succ K) hk6) (hK.x hRo hno hX) (by omega) (by omega)
              · rw [yz_m1] at h_159
                refine y_bip rfl (by decide) ?_
                refine y_goto rfl j_X14_seat_11 ?_
                refine y_ireturn rfl rfl rfl ?_
                refine y_ret1 ?_
                refine y_baload rfl ((hX.2.1 _ hb_v157).1.trans ht_v157) rfl (Nat.lt_of_lt_of_le hb_v157 hX.1) (by decide) (by decide) ?_
                refine y_if_ne rfl j_X14_result_94 (fun h_178 => ?_) (fun h_179 => ?_)
                · refine y_iconst rfl ?_
                  refine y_iconst rfl ?_
                  refine y_virt rfl rfl rfl rfl rfl (ySh.t hS rfl) (ySh.n hS rfl) ?_
                  refine y_in (M := xm_X14_refuse) (ls := [some _, some _, some _]) rfl rfl rfl ?_
                  refine y_iload_n rfl rfl ?_
                  refine y_if_eqT rfl j_X14_refuse_16 (by decide) ?_
                  refine y_aload_n rfl rfl ?_
                  refine y_getIv (v := Int32.ofInt (0)) rfl (ySh.t hS rfl) (ySh.n hS rfl) rfl rfl hth ?_
                  refine y_if_leT rfl j_X14_refuse_27 (by decide) ?_
                  refine y_iconst rfl ?_
                  refine y_ireturn rfl rfl rfl ?_
                  refine y_ret1 ?_
                  refine y_if_eqT rfl j_X14_result_104 (by decide) ?_
                  refine y_aload_n rfl rfl ?_
                  refine y_getR rfl (ySh.t hS rfl) (ySh.n hS rfl) rfl rfl (ySh.r hS rfl) ?_
                  refine y_iload_n rfl rfl ?_
                  refine y_virt rfl rfl rfl rfl rfl (ySh.t hS rfl) (ySh.n hS rfl) ?_
                  refine l_get (nb := n) (ySh.t hS rfl) (ySh.n hS rfl) (Nat.le_trans hn hX.1) hR.l91 (by omega) (by omega) (fun b180 eb_b180 hlo_b180 hb0_b180 ht_b180 => ?_)
                  have hb_b180 := Nat.lt_of_lt_of_le hb0_b180 hn
                  replace ht_b180 := (hX.2.1 _ hb_b180).1.symm.trans ht_b180
                  refine y_ret1 ?_
                  refine y_cast rfl ((hX.2.1 _ hb_b180).1.trans ht_b180) (Nat.lt_of_lt_of_le hb_b180 hX.1) ?_
                  refine y_astore (ls' := [some _, some _, some _, some _, some _]) rfl rfl rfl ?_
                  refine y_iload_n rfl rfl ?_
                  refine y_if_lt rfl j_X14_result_131 (fun h_181 => ?_) (fun h_182 => ?_)
                  · refine y_iload_n rfl rfl ?_
                    refine y_bip rfl (by decide) ?_
                    refine y_icmp_ne rfl j_X14_result_147 (fun h_183 => ?_) (fun h_184 => ?_)
                    · rw [yz_m2] at h_183
                      refine y_aload_n rfl rfl ?_
                      refine y_getR rfl (ySh.t hS rfl) (ySh.n hS rfl) rfl rfl (ySh.r hS rfl) ?_
                      refine y_iload_n rfl rfl ?_
                      refine y_static rfl rfl rfl rfl rfl ?_
                      refine y_in (M := xm_X14_seat) (ls := [some _]) rfl rfl rfl ?_
                      refine y_iload_n rfl rfl ?_
                      refine y_iconst rfl ?_
                      refine y_icmp_ne rfl j_X14_seat_10 (fun h_185 => ?_) (fun h_186 => ?_)
                      · rw [yz_m1] at h_185
                        refine y_iload_n rfl rfl ?_
                        refine y_ireturn rfl rfl rfl ?_
                        refine y_ret1 ?_
                        refine y_dup2 rfl rfl rfl ?_
                        refine y_iaload rfl (ySh.t hS rfl) (ySh.n hS rfl) (by omega) (by omega) ?_
                        refine y_iload_n rfl rfl ?_
                        refine y_iadd rfl ?_
                        refine y_iastore rfl (ySh.t hS rfl) (ySh.n hS rfl) (Nat.le_of_ble_eq_true rfl) (by omega) (by omega) ?_
                        refine y_nameI (fun I187 e187 => ?_)
                        have hR1 := (hR0.grow hX).arr e187 (by decide)
                        have hK := (hK.x hRo hno hX).upI (upI e187) (by decide) (by decide) (fun i hi => by have := (hRo.l87.2.2.2.2 i hi).2.1; omega) (by rw [e187, upd2_ne (.inl (by omega))]; exact Int.le_refl _)
                        have hth := (show I187 83 0 = I135 83 0 by rw [e187, upd2_ne (.inl (by omega))]).trans hth
                        have hzz : ySz I135 I187 := ySz_ofE (upI e187) (by omega)
                        have hS0 := hS
                        have hR0 := hR1
                        have ht_b156 := (hX.2.1 _ hb_b156).1.trans ht_b156
                        have hb_b156 := Nat.lt_of_lt_of_le hb_b156 hX.1
                        have hb0_b156 := hb_b156
                        have ht_v157 := (hX.2.1 _ hb_v157).1.trans ht_v157
                        have hb_v157 := Nat.lt_of_lt_of_le hb_v157 hX.1
                        have hb0_v157 := hb_v157
                        have ht_b180 := (hX.2.1 _ hb_b180).1.trans ht_b180
                        have hb_b180 := Nat.lt_of_lt_of_le hb_b180 hX.1
                        have hb0_b180 := hb_b180
                        have hn := Nat.le_refl n
                        have h94 := hS0.1
                        have hX := @yX.rf n tg I187 R
                        have hS := hS0.x hX
                        have hR := hR0.x hn hX
                        have hz := hX.sz h94
                        have hxn := hX.1
                        have hN := hR0.1
                        have hnb := hR0.2.2.2.2.2.2
                        have hthB := hth
                        refine y_aload rfl rfl ?_
                        refine y_aload rfl rfl ?_
                        obtain ⟨hR_v188, hb_v188, ht_v188⟩ := hR0.ven hlo_b180 hb0_b180 ht_b180 (j := 1) (by decide)
                        have hb0_v188 := hb_v188
                        have hb_v188 := Nat.lt_of_lt_of_le hb_v188 hn
                        have hlo_v188 : 94 ≤ b180 + 1 + 1 := by omega
                        have hR2_v188 := (congrFun (hX.2.1 b180 hb_b180).2.2 1).trans hR_v188
                        refine y_getR rfl ((hX.2.1 _ hb_b180).1.trans ht_b180) (Nat.lt_of_lt_of_le hb_b180 hX.1) rfl rfl hR2_v188 ?_
                        refine y_virt rfl rfl rfl rfl rfl ((hX.2.1 _ hb_b180).1.trans ht_b180) (Nat.lt_of_lt_of_le hb_b180 hX.1) ?_
                        refine r_all ((hX.2.1 _ hb_v188).1.trans ht_v188) (Nat.lt_of_lt_of_le hb_v188 hX.1) (fun v_ => ?_)
                        refine y_ret1 ?_
                        refine y_ireturn rfl rfl rfl ?_
                        exact hQ _ _ _ _ _ _ _ hS ((hR0.grow hX).up (Nat.le_succ K) hk6) (hK.x hRo hno hX) (by omega) (by omega)
                      · rw [yz_m1] at h_186
                        refine y_bip rfl (by decide) ?_
                        refine y_goto rfl j_X14_seat_11 ?_
                        refine y_ireturn rfl rfl rfl ?_
                        refine y_ret1 ?_
                        refine y_dup2 rfl rfl rfl ?_
                        refine y_ialoadC (j := 8) rfl (ySh.t hS rfl) (ySh.n hS rfl) (by decide) (by decide) rfl ?_
                        refine y_iload_n rfl rfl ?_
                        refine y_iadd rfl ?_
                        refine y_iastoreC (j := 8) rfl (ySh.t hS rfl) (ySh.n hS rfl) (Nat.le_of_ble_eq_true rfl) (by decide) (by decide) rfl ?_
                        refine y_nameI (fun I189 e189 => ?_)
                        have hR1 := (hR0.grow hX).arr e189 (by decide)
                        have hK := (hK.x hRo hno hX).upI (upI e189) (by decide) (by decide) (fun i hi => by have := (hRo.l87.2.2.2.2 i hi).2.1; omega) (by rw [e189, upd2_ne (.inl (by omega))]; exact Int.le_refl _)
                        have hth := (show I189 83 0 = I135 83 0 by rw [e189, upd2_ne (.inl (by omega))]).trans hth
                        have hzz : ySz I135 I189 := ySz_ofE (upI e189) (by omega)
                        have hS0 := hS
                        have hR0 := hR1
                        have ht_b156 := (hX.2.1 _ hb_b156).1.trans ht_b156
                        have hb_b156 := Nat.lt_of_lt_of_le hb_b156 hX.1
                        have hb0_b156 := hb_b156
                        have ht_v157 := (hX.2.1 _ hb_v157).1.trans ht_v157
                        have hb_v157 := Nat.lt_of_lt_of_le hb_v157 hX.1
                        have hb0_v157 := hb_v157
                        have ht_b180 := (hX.2.1 _ hb_b180).1.trans ht_b180
                        have hb_b180 := Nat.lt_of_lt_of_le hb_b180 hX.1
                        have hb0_b180 := hb_b180
                        have hn := Nat.le_refl n
                        have h94 := hS0.1
                        have hX := @yX.rf n tg I189 R
                        have hS := hS0.x hX
                        have hR := hR0.x hn hX
                        have hz := hX.sz h94
                        have hxn := hX.1
                        have hN := hR0.1
                        have hnb := hR0.2.2.2.2.2.2
                        have hthB := hth
                        refine y_aload rfl rfl ?_
                        refine y_aload rfl rfl ?_
                        obtain ⟨hR_v190, hb_v190, ht_v190⟩ := hR0.ven hlo_b180 hb0_b180 ht_b180 (j := 1) (by decide)
                        have hb0_v190 := hb_v190
                        have hb_v190 := Nat.lt_of_lt_of_le hb_v190 hn
                        have hlo_v190 : 94 ≤ b180 + 1 + 1 := by omega
                        have hR2_v190 := (congrFun (hX.2.1 b180 hb_b180).2.2 1).trans hR_v190
                        refine y_getR rfl ((hX.2.1 _ hb_b180).1.trans ht_b180) (Nat.lt_of_lt_of_le hb_b180 hX.1) rfl rfl hR2_v190 ?_
                        refine y_virt rfl rfl rfl rfl rfl ((hX.2.1 _ hb_b180).1.trans ht_b180) (Nat.lt_of_lt_of_le hb_b180 hX.1) ?_
                        refine r_all ((hX.2.1 _ hb_v190).1.trans ht_v190) (Nat.lt_of_lt_of_le hb_v190 hX.1) (fun v_ => ?_)
                        refine y_ret1 ?_
                        refine y_ireturn rfl rfl rfl ?_
                        exact hQ _ _ _ _ _ _ _ hS ((hR0.grow hX).up (Nat.le_succ K) hk6) (hK.x hRo hno hX) (by omega) (by omega)
                    · rw [yz_m2] at h_184
                      refine y_aload rfl rfl ?_
                      refine y_iload_n rfl rfl ?_
                      refine y_ineg rfl ?_
                      refine y_virt rfl rfl rfl rfl rfl ((hX.2.1 _ hb_b180).1.trans ht_b180) (Nat.lt_of_lt_of_le hb_b180 hX.1) ?_
                      refine h_lose hS (hR0.grow hX) hlo_b180 (Nat.lt_of_lt_of_le hb_b180 hX.1) ((hX.2.1 _ hb_b180).1.trans ht_b180) (yneg2 (by omega) (by omega)).1 (yneg2 (by omega) (by omega)).2 (fun n191 tg191 I191 R191 hS1 hR1 hK1 => ?_)
                      have hK := (hK.x hRo hno hX).trans hK1
                      have hnA := hK1.1
                      have ht_b156 := (hK1.2.1 _ (Nat.lt_of_lt_of_le hb_b156 hX.1)).trans ((hX.2.1 _ hb_b156).1.trans ht_b156)
                      have hb_b156 := Nat.lt_of_lt_of_le (Nat.lt_of_lt_of_le hb_b156 hX.1) hK1.1
                      have hb0_b156 := hb_b156
                      have ht_v157 := (hK1.2.1 _ (Nat.lt_of_lt_of_le hb_v157 hX.1)).trans ((hX.2.1 _ hb_v157).1.trans ht_v157)
                      have hb_v157 := Nat.lt_of_lt_of_le (Nat.lt_of_lt_of_le hb_v157 hX.1) hK1.1
                      have hb0_v157 := hb_v157
                      have ht_b180 := (hK1.2.1 _ (Nat.lt_of_lt_of_le hb_b180 hX.1)).trans ((hX.2.1 _ hb_b180).1.trans ht_b180)
                      have hb_b180 := Nat.lt_of_lt_of_le (Nat.lt_of_lt_of_le hb_b180 hX.1) hK1.1
                      have hb0_b180 := hb_b180
                      have hS0 := hS1
                      have hR0 := hR1
                      have hn := Nat.le_refl n191
                      have h94 := hS0.1
                      have hX := @yX.rf n191 tg191 I191 R191
                      have hS := hS0.x hX
                      have hR := hR0.x hn hX
                      have hz := hX.sz h94
                      have hxn := hX.1
                      have hN := hR0.1
                      have hnb := hR0.2.2.2.2.2.2
                      refine y_ret0 ?_
                      refine y_goto rfl j_X14_result_160 ?_
                      refine y_aload rfl rfl ?_
                      refine y_aload rfl rfl ?_
                      obtain ⟨hR_v192, hb_v192, ht_v192⟩ := hR0.ven hlo_b180 hb0_b180 ht_b180 (j := 1) (by decide)
                      have hb0_v192 := hb_v192
                      have hb_v192 := Nat.lt_of_lt_of_le hb_v192 hn
                      have hlo_v192 : 94 ≤ b180 + 1 + 1 := by omega
                      have hR2_v192 := (congrFun (hX.2.1 b180 hb_b180).2.2 1).trans hR_v192
                      refine y_getR rfl ((hX.2.1 _ hb_b180).1.trans ht_b180) (Nat.lt_of_lt_of_le hb_b180 hX.1) rfl rfl hR2_v192 ?_
                      refine y_virt rfl rfl rfl rfl rfl ((hX.2.1 _ hb_b180).1.trans ht_b180) (Nat.lt_of_lt_of_le hb_b180 hX.1) ?_
                      refine r_all ((hX.2.1 _ hb_v192).1.trans ht_v192) (Nat.lt_of_lt_of_le hb_v192 hX.1) (fun v_ => ?_)
                      refine y_ret1 ?_
                      refine y_ireturn rfl rfl rfl ?_
                      exact hQ _ _ _ _ _ _ _ hS ((hR0.grow hX).up (Nat.le_succ K) hk6) (hK.x hRo hno hX) (by omega) (by omega)
                  · refine y_aload_n rfl rfl ?_
                    refine y_aload rfl rfl ?_
                    refine y_iload_n rfl rfl ?_
                    refine y_virt rfl rfl rfl rfl rfl (ySh.t hS rfl) (ySh.n hS rfl) ?_
                    refine h_profit hS (hR0.grow hX) hlo_b180 (Nat.lt_of_lt_of_le hb_b180 hX.1) ((hX.2.1 _ hb_b180).1.trans ht_b180) (fun n193 tg193 I193 R193 hS1 hR1 hK1 => ?_)
                    have hK := (hK.x hRo hno hX).trans hK1
                    have hnA := hK1.1
                    have ht_b156 := (hK1.2.1 _ (Nat.lt_of_lt_of_le hb_b156 hX.1)).trans ((hX.2.1 _ hb_b156).1.trans ht_b156)
                    have hb_b156 := Nat.lt_of_lt_of_le (Nat.lt_of_lt_of_le hb_b156 hX.1) hK1.1
                    have hb0_b156 := hb_b156
                    have ht_v157 := (hK1.2.1 _ (Nat.lt_of_lt_of_le hb_v157 hX.1)).trans ((hX.2.1 _ hb_v157).1.trans ht_v157)
                    have hb_v157 := Nat.lt_of_lt_of_le (Nat.lt_of_lt_of_le hb_v157 hX.1) hK1.1
                    have hb0_v157 := hb_v157
                    have ht_b180 := (hK1.2.1 _ (Nat.lt_of_lt_of_le hb_b180 hX.1)).trans ((hX.2.1 _ hb_b180).1.trans ht_b180)
                    have hb_b180 := Nat.lt_of_lt_of_le (Nat.lt_of_lt_of_le hb_b180 hX.1) hK1.1
                    have hb0_b180 := hb_b180
                    have hS0 := hS1
                    have hR0 := hR1
                    have hn := Nat.le_refl n193
                    have h94 := hS0.1
                    have hX := @yX.rf n193 tg193 I193 R193
                    have hS := hS0.x hX
                    have hR := hR0.x hn hX
                    have hz := hX.sz h94
                    have hxn := hX.1
                    have hN := hR0.1
                    have hnb := hR0.2.2.2.2.2.2
                    refine y_ret0 ?_
                    refine y_goto rfl j_X14_result_160 ?_
                    refine y_aload rfl rfl ?_
                    refine y_aload rfl rfl ?_
                    obtain ⟨hR_v194, hb_v194, ht_v194⟩ := hR0.ven hlo_b180 hb0_b180 ht_b180 (j := 1) (by decide)
                    have hb0_v194 := hb_v194
                    have hb_v194 := Nat.lt_of_lt_of_le hb_v194 hn
                    have hlo_v194 : 94 ≤ b180 + 1 + 1 := by omega
                    have hR2_v194 := (congrFun (hX.2.1 b180 hb_b180).2.2 1).trans hR_v194
                    refine y_getR rfl ((hX.2.1 _ hb_b180).1.trans ht_b180) (Nat.lt_of_lt_of_le hb_b180 hX.1) rfl rfl hR2_v194 ?_
                    refine y_virt rfl rfl rfl rfl rfl ((hX.2.1 _ hb_b180).1.trans ht_b180) (Nat.lt_of_lt_of_le hb_b180 hX.1) ?_
                    refine r_all ((hX.2.1 _ hb_v194).1.trans ht_v194) (Nat.lt_of_lt_of_le hb_v194 hX.1) (fun v_ => ?_)
                    refine y_ret1 ?_
                    refine y_ireturn rfl rfl rfl ?_
                    exact hQ _ _ _ _ _ _ _ hS ((hR0.grow hX).up (Nat.le_succ K) hk6) (hK.x hRo hno hX) (by omega) (by omega)
                · refine y_iconst rfl ?_
                  refine y_goto rfl j_X14_result_95 ?_
                  refine y_iconst rfl ?_
                  refine y_virt rfl rfl rfl rfl rfl (ySh.t hS rfl) (ySh.n hS rfl) ?_
                  refine y_in (M := xm_X14_refuse) (ls := [some _, some _, some _]) rfl rfl rfl ?_
                  refine y_iload_n rfl rfl ?_
                  refine y_if_eqF rfl (by decide) ?_
                  refine y_aload_n rfl rfl ?_
                  refine y_getIv (v := Int32.ofInt (0)) rfl (ySh.t hS rfl) (ySh.n hS rfl) rfl rfl hth ?_
                  refine y_if_neF rfl (by decide) ?_
                  refine y_aload_n rfl rfl ?_
                  refine y_iload_n rfl rfl ?_
                  refine y_putI rfl (ySh.t hS rfl) (ySh.n hS rfl) rfl (Nat.le_of_ble_eq_true rfl) rfl rfl ?_
                  refine y_nameI (fun I195 e195 => ?_)
                  have hR1 := (hR0.grow hX).mod0 e195 (by decide) (by decide)
                  have hK := (hK.x hRo hno hX).upI (upI e195) (by decide) (by decide) (fun i hi => by have := (hRo.l87.2.2.2.2 i hi).2.1; omega) (by rw [e195, upd2_ne (.inr (by decide))]; exact Int.le_refl _)
                  have hth : I195 83 0 = Int32.ofInt (3) := by rw [e195, upd2_self]
                  have hzz : ySz8 I135 I195 := ySz8_of (upI e195) (by rw [e195]; exact ⟨upd2_ne (.inr (by decide)), upd2_ne (.inr (by decide))⟩)
                  have hS0 := hS
                  have hR0 := hR1
                  have ht_b156 := (hX.2.1 _ hb_b156).1.trans ht_b156
                  have hb_b156 := Nat.lt_of_lt_of_le hb_b156 hX.1
                  have hb0_b156 := hb_b156
                  have ht_v157 := (hX.2.1 _ hb_v157).1.trans ht_v157
                  have hb_v157 := Nat.lt_of_lt_of_le hb_v157 hX.1
                  have hb0_v157 := hb_v157
                  have hn := Nat.le_refl n
                  have h94 := hS0.1
                  have hX := @yX.rf n tg I195 R
                  have hS := hS0.x hX
                  have hR := hR0.x hn hX
                  have hz := hX.sz h94
                  have hxn := hX.1
                  have hN := hR0.1
                  have hnb := hR0.2.2.2.2.2.2
                  have hthB := hth
                  refine y_aload_n rfl rfl ?_
                  refine y_getIv (v := Int32.ofInt (3)) rfl (ySh.t hS rfl) (ySh.n hS rfl) rfl rfl hth ?_
                  refine y_if_leF rfl (by decide) ?_
                  refine y_iconst rfl ?_
                  refine y_goto rfl j_X14_refuse_28 ?_
                  refine y_ireturn rfl rfl rfl ?_
                  refine y_ret1 ?_
                  refine y_if_eqF rfl (by decide) ?_
                  refine y_iconst rfl ?_
                  refine y_ireturn rfl rfl rfl ?_
                  exact hQ _ _ _ _ _ _ _ hS ((hR0.grow hX).up (Nat.le_succ K) hk6) (hK.x hRo hno hX) (by omega) (by omega)
          · rw [yz_m999] at h_138
            rw [yz_999] at h_138
            refine y_ret1 ?_
            refine y_if_neF rfl (by decide) ?_
            refine y_iconst rfl ?_
            refine y_goto rfl j_X14_result_54 ?_
            refine y_iconst rfl ?_
            refine y_virt rfl rfl rfl rfl rfl (ySh.t hS rfl) (ySh.n hS rfl) ?_
            refine y_in (M := xm_X14_refuse) (ls := [some _, some _, some _]) rfl rfl rfl ?_
            refine y_iload_n rfl rfl ?_
            refine y_if_eqF rfl (by decide) ?_
            refine y_aload_n rfl rfl ?_
            refine y_getIv (v := Int32.ofInt (0)) rfl (ySh.t hS rfl) (ySh.n hS rfl) rfl rfl hth ?_
            refine y_if_neF rfl (by decide) ?_
            refine y_aload_n rfl rfl ?_
            refine y_iload_n rfl rfl ?_
            refine y_putI rfl (ySh.t hS rfl) (ySh.n hS rfl) rfl (Nat.le_of_ble_eq_true rfl) rfl rfl ?_
            refine y_nameI (fun I196 e196 => ?_)
            have hR1 := (hR0.grow hX).mod0 e196 (by decide) (by decide)
            have hK := (hK.x hRo hno hX).upI (upI e196) (by decide) (by decide) (fun i hi => by have := (hRo.l87.2.2.2.2 i hi).2.1; omega) (by rw [e196, upd2_ne (.inr (by decide))]; exact Int.le_refl _)
            have hth : I196 83 0 = Int32.ofInt (2) := by rw [e196, upd2_self]
            have hzz : ySz8 I135 I196 := ySz8_of (upI e196) (by rw [e196]; exact ⟨upd2_ne (.inr (by decide)), upd2_ne (.inr (by decide))⟩)
            have hS0 := hS
            have hR0 := hR1
            have hn := Nat.le_refl n
            have h94 := hS0.1
            have hX := @yX.rf n tg I196 R
            have hS := hS0.x hX
            have hR := hR0.x hn hX
            have hz := hX.sz h94
            have hxn := hX.1
            have hN := hR0.1
            have hnb := hR0.2.2.2.2.2.2
            have hthB := hth
            refine y_aload_n rfl rfl ?_
            refine y_getIv (v := Int32.ofInt (2)) rfl (ySh.t hS rfl) (ySh.n hS rfl) rfl rfl hth ?_
            refine y_if_leF rfl (by decide) ?_
            refine y_iconst rfl ?_
            refine y_goto rfl j_X14_refuse_28 ?_
            refine y_ireturn rfl rfl rfl ?_
            refine y_ret1 ?_
            refine y_if_neT rfl j_X14_result_102 (by decide) ?_
            refine y_iconst rfl ?_
            refine y_ireturn rfl rfl rfl ?_
            exact hQ _ _ _ _ _ _ _ hS ((hR0.grow hX).up (Nat.le_succ K) hk6) (hK.x hRo hno hX) (by omega) (by omega)
        · rw [yz_0] at h_134
          try rw [ysub (by rw [yz_1]; omega) (by rw [yz_1]; omega), yz_1] at h_134
          refine y_ret1 ?_
          refine y_if_neF rfl (by decide) ?_
          refine y_iconst rfl ?_
          refine y_goto rfl j_X14_isNobody_19 ?_
          refine y_ireturn rfl rfl rfl ?_
          refine y_ret1 ?_
          refine y_if_eqF rfl (by decide) ?_
          refine y_iconst rfl ?_
          refine y_goto rfl j_X14_isNoOne_18 ?_
          refine y_ireturn rfl rfl rfl ?_
          refine y_ret1 ?_
          refine y_if_eqF rfl (by decide) ?_
          refine y_iconst rfl ?_
          refine y_goto rfl j_X14_result_28 ?_
          refine y_iconst rfl ?_
          refine y_virt rfl rfl rfl rfl rfl (ySh.t hS rfl) (ySh.n hS rfl) ?_
          refine y_in (M := xm_X14_start) (ls := [some _, some _, some _]) rfl rfl rfl ?_
          refine y_aload_n rfl rfl ?_
          refine y_iconst rfl ?_
          refine y_putI rfl (ySh.t hS rfl) (ySh.n hS rfl) rfl (Nat.le_of_ble_eq_true rfl) rfl rfl ?_
          refine y_nameI (fun I197 e197 => ?_)
          have hR1 := (hR0.grow hX).mod0 e197 (by decide) (by decide)
          have hK := (hK.x hRo hno hX).upI (upI e197) (by decide) (by decide) (fun i hi => by have := (hRo.l87.2.2.2.2 i hi).2.1; omega) (by rw [e197, upd2_ne (.inr (by decide))]; exact Int.le_refl _)
          have hth : I197 83 0 = Int32.ofInt (0) := by rw [e197, upd2_self]
          have hzz : ySz8 I I197 := ySz8_of (upI e197) (by rw [e197]; exact ⟨upd2_ne (.inr (by decide)), upd2_ne (.inr (by decide))⟩)
          have hS0 := hS
          have hR0 := hR1
          have hn := Nat.le_refl n
          have h94 := hS0.1
          have hX := @yX.rf n tg I197 R
          have hS := hS0.x hX
          have hR := hR0.x hn hX
          have hz := hX.sz h94
          have hxn := hX.1
          have hN := hR0.1
          have hnb := hR0.2.2.2.2.2.2
          have hthB := hth
          refine y_aload_n rfl rfl ?_
          refine y_iload_n rfl rfl ?_
          refine y_iload_n rfl rfl ?_
          refine y_virt rfl rfl rfl rfl rfl (ySh.t hS rfl) (ySh.n hS rfl) ?_
          refine y_in (M := xm_X14_refuse) (ls := [some _, some _, some _]) rfl rfl rfl ?_
          refine y_iload_n rfl rfl ?_
          refine y_if_eqF rfl (by decide) ?_
          refine y_aload_n rfl rfl ?_
          refine y_getIv (v := Int32.ofInt (0)) rfl (ySh.t hS rfl) (ySh.n hS rfl) rfl rfl hth ?_
          refine y_if_neF rfl (by decide) ?_
          refine y_aload_n rfl rfl ?_
          refine y_iload_n rfl rfl ?_
          refine y_putI rfl (ySh.t hS rfl) (ySh.n hS rfl) rfl (Nat.le_of_ble_eq_true rfl) rfl rfl ?_
          refine y_nameI (fun I198 e198 => ?_)
          have hR1 := (hR0.grow hX).mod0 e198 (by decide) (by decide)
          have hK := (hK.x hRo hno hX).upI (upI e198) (by decide) (by decide) (fun i hi => by have := (hRo.l87.2.2.2.2 i hi).2.1; omega) (by rw [e198, upd2_ne (.inr (by decide))]; exact Int.le_refl _)
          have hth : I198 83 0 = Int32.ofInt (1) := by rw [e198, upd2_self]
          have hzz : ySz8 I197 I198 := ySz8_of (upI e198) (by rw [e198]; exact ⟨upd2_ne (.inr (by decide)), upd2_ne (.inr (by decide))⟩)
          have hS0 := hS
          have hR0 := hR1
          have hn := Nat.le_refl n
          have h94 := hS0.1
          have hX := @yX.rf n tg I198 R
          have hS := hS0.x hX
          have hR := hR0.x hn hX
          have hz := hX.sz h94
          have hxn := hX.1
          have hN := hR0.1
          have hnb := hR0.2.2.2.2.2.2
          have hthB := hth
          refine y_aload_n rfl rfl ?_
          refine y_getIv (v := Int32.ofInt (1)) rfl (ySh.t hS rfl) (ySh.n hS rfl) rfl rfl hth ?_
          refine y_if_leF rfl (by decide) ?_
          refine y_iconst rfl ?_
          refine y_goto rfl j_X14_refuse_28 ?_
          refine y_ireturn rfl rfl rfl ?_
          refine y_ret1 ?_
          refine y_ireturn rfl rfl rfl ?_
          refine y_ret1 ?_
          refine y_if_neT rfl j_X14_result_102 (by decide) ?_
          refine y_iconst rfl ?_
          refine y_ireturn rfl rfl rfl ?_
          exact hQ _ _ _ _ _ _ _ hS ((hR0.grow hX).up (Nat.le_succ K) hk6) (hK.x hRo hno hX) (by omega) (by omega)
  · rw [yz_0] at h_3
    try rw [ysub (by rw [yz_1]; omega) (by rw [yz_1]; omega), yz_1] at h_3
    refine y_ret1 ?_
    refine y_if_neF rfl (by decide) ?_
    refine y_iconst rfl ?_
    refine y_goto rfl j_X14_isNoVenture_22 ?_
    refine y_ireturn rfl rfl rfl ?_
    refine y_ret1 ?_
    refine y_if_neT rfl j_X14_result_23 (by decide) ?_
    refine y_iconst rfl ?_
    refine y_goto rfl j_X14_result_28 ?_
    refine y_iconst rfl ?_
    refine y_virt rfl rfl rfl rfl rfl (ySh.t hS rfl) (ySh.n hS rfl) ?_
    refine y_in (M := xm_X14_start) (ls := [some _, some _, some _]) rfl rfl rfl ?_
    refine y_aload_n rfl rfl ?_
    refine y_iconst rfl ?_
    refine y_putI rfl (ySh.t hS rfl) (ySh.n hS rfl) rfl (Nat.le_of_ble_eq_true rfl) rfl rfl ?_
    refine y_nameI (fun I199 e199 => ?_)
    have hR1 := (hR0.grow hX).mod0 e199 (by decide) (by decide)
    have hK := (hK.x hRo hno hX).upI (upI e199) (by decide) (by decide) (fun i hi => by have := (hRo.l87.2.2.2.2 i hi).2.1; omega) (by rw [e199, upd2_ne (.inr (by decide))]; exact Int.le_refl _)
    have hth : I199 83 0 = Int32.ofInt (0) := by rw [e199, upd2_self]
    have hzz : ySz8 I I199 := ySz8_of (upI e199) (by rw [e199]; exact ⟨upd2_ne (.inr (by decide)), upd2_ne (.inr (by decide))⟩)
    have hS0 := hS
    have hR0 := hR1
    have hn := Nat.le_refl n
    have h94 := hS0.1
    have hX := @yX.rf n tg I199 R
    have hS := hS0.x hX
    have hR := hR0.x hn hX
    have hz := hX.sz h94
    have hxn := hX.1
    have hN := hR0.1
    have hnb := hR0.2.2.2.2.2.2
    have hthB := hth
    refine y_aload_n rfl rfl ?_
    refine y_iload_n rfl rfl ?_
    refine y_iload_n rfl rfl ?_
    refine y_virt rfl rfl rfl rfl rfl (ySh.t hS rfl) (ySh.n hS rfl) ?_
    refine y_in (M := xm_X14_refuse) (ls := [some _, some _, some _]) rfl rfl rfl ?_
    refine y_iload_n rfl rfl ?_
    refine y_if_eqF rfl (by decide) ?_
    refine y_aload_n rfl rfl ?_
    refine y_getIv (v := Int32.ofInt (0)) rfl (ySh.t hS rfl) (ySh.n hS rfl) rfl rfl hth ?_
    refine y_if_neF rfl (by decide) ?_
    refine y_aload_n rfl rfl ?_
    refine y_iload_n rfl rfl ?_
    refine y_putI rfl (ySh.t hS rfl) (ySh.n hS rfl) rfl (Nat.le_of_ble_eq_true rfl) rfl rfl ?_
    refine y_nameI (fun I200 e200 => ?_)
    have hR1 := (hR0.grow hX).mod0 e200 (by decide) (by decide)
    have hK := (hK.x hRo hno hX).upI (upI e200) (by decide) (by decide) (fun i hi => by have := (hRo.l87.2.2.2.2 i hi).2.1; omega) (by rw [e200, upd2_ne (.inr (by decide))]; exact Int.le_refl _)
    have hth : I200 83 0 = Int32.ofInt (1) := by rw [e200, upd2_self]
    have hzz : ySz8 I199 I200 := ySz8_of (upI e200) (by rw [e200]; exact ⟨upd2_ne (.inr (by decide)), upd2_ne (.inr (by decide))⟩)
    have hS0 := hS
    have hR0 := hR1
    have hn := Nat.le_refl n
    have h94 := hS0.1
    have hX := @yX.rf n tg I200 R
    have hS := hS0.x hX
    have hR := hR0.x hn hX
    have hz := hX.sz h94
    have hxn := hX.1
    have hN := hR0.1
    have hnb := hR0.2.2.2.2.2.2
    have hthB := hth
    refine y_aload_n rfl rfl ?_
    refine y_getIv (v := Int32.ofInt (1)) rfl (ySh.t hS rfl) (ySh.n hS rfl) rfl rfl hth ?_
    refine y_if_leF rfl (by decide) ?_
    refine y_iconst rfl ?_
    refine y_goto rfl j_X14_refuse_28 ?_
    refine y_ireturn rfl rfl rfl ?_
    refine y_ret1 ?_
    refine y_ireturn rfl rfl rfl ?_
    refine y_ret1 ?_
    refine y_if_neT rfl j_X14_result_102 (by decide) ?_
    refine y_iconst rfl ?_
    refine y_ireturn rfl rfl rfl ?_
    exact hQ _ _ _ _ _ _ _ hS ((hR0.grow hX).up (Nat.le_succ K) hk6) (hK.x hRo hno hX) (by omega) (by omega)
end YRS
