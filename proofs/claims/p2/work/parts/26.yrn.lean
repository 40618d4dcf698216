/-! THE REFERENCE: methods that tell something new; ventures, days (by gen26.py) -/
section YRN
variable {K nb n : Nat} {tg : Nat → yT} {I : Nat → Nat → Int32} {R : Nat → Nat → Value} {c s : Nat} {Q : yQ}
theorem n_digest (hS0 : ySh n tg R) (hR0 : yRI K n tg I R) (hk6 : K < 600) (hQ : ∀ (v : Int64) n1 tg1 I1 R1 c1 s1, ySh n1 tg1 R1 → yRI (K + 1) n1 tg1 I1 R1 → yKp n tg I R n1 tg1 I1 R1 → c1 ≤ c + 651 → s1 ≤ s + 4015 → Q (.inl (some (.long v))) (n1, tg1, I1, R1) c1 s1) : yC 250 [.ref 83] (n, tg, I, R) c s Q := by
  have hno := Nat.le_refl n
  have hn := hno
  have hRo := hR0
  have hK : yKp n tg I R n tg I R := yKp.rf
  have hX : yX n tg I R n tg I R := yX.rf
  have hS := hS0
  have hR := hR0
  have h94 : 94 ≤ n := hS0.1
  have hz : ySz I I := hX.sz h94
  have hxn := hX.1
  have hN := hR0.1
  have hnb : 94 ≤ n := hR0.2.2.2.2.2.2
  refine y_in (M := xm_X14_digest) (ls := [some _, _, _, _, _, _]) rfl rfl rfl ?_
  refine y_aload_n rfl rfl ?_
  refine y_iconst rfl ?_
  refine y_putI rfl (ySh.t hS rfl) (ySh.n hS rfl) rfl (Nat.le_of_ble_eq_true rfl) rfl rfl ?_
  refine y_nameI (fun I1 e1 => ?_)
  have hR1 := (hR0.grow hX).mod0 e1 (by decide) (by decide)
  have hK := (hK.x hRo hno hX).upI (upI e1) (by decide) (by decide) (fun i hi => by have := (hRo.l87.2.2.2.2 i hi).2.1; omega) (by rw [e1, upd2_ne (.inr (by decide))]; exact Int.le_refl _)
  have hth : I1 83 0 = Int32.ofInt (0) := by rw [e1, upd2_self]
  have hzz : ySz8 I I1 := ySz8_of (upI e1) (by rw [e1]; exact ⟨upd2_ne (.inr (by decide)), upd2_ne (.inr (by decide))⟩)
  have hS0 := hS
  have hR0 := hR1
  have hn := Nat.le_refl n
  have h94 := hS0.1
  have hX := @yX.rf n tg I1 R
  have hS := hS0.x hX
  have hR := hR0.x hn hX
  have hz := hX.sz h94
  have hxn := hX.1
  have hN := hR0.1
  have hnb := hR0.2.2.2.2.2.2
  have hthB := hth
  exact r_digest2 hS0 hR0 hn (fun v n1 tg1 I1 R1 c1 s1 hX2 hc hs => hQ _ _ _ _ _ _ _ (hS0.x hX2) ((hR0.grow hX2).up (Nat.le_succ K) hk6) (hK.x hRo hno hX2) (by omega) (by omega))
theorem n_thing (hS0 : ySh n tg R) (hR0 : yRI K n tg I R) (hk6 : K < 600) {x1 x2 : Int32} (hQ : ∀ (v : Int32) n1 tg1 I1 R1 c1 s1, ySh n1 tg1 R1 → yRI (K + 1) n1 tg1 I1 R1 → yKp n tg I R n1 tg1 I1 R1 → c1 ≤ c + 2 → s1 ≤ s + 1310 → Q (.inl (some (.int v))) (n1, tg1, I1, R1) c1 s1) : yC 196 [.ref 83, .int x1, .int x2] (n, tg, I, R) c s Q := by
  have hno := Nat.le_refl n
  have hn := hno
  have hRo := hR0
  have hK : yKp n tg I R n tg I R := yKp.rf
  have hX : yX n tg I R n tg I R := yX.rf
  have hS := hS0
  have hR := hR0
  have h94 : 94 ≤ n := hS0.1
  have hz : ySz I I := hX.sz h94
  have hxn := hX.1
  have hN := hR0.1
  have hnb : 94 ≤ n := hR0.2.2.2.2.2.2
  refine y_in (M := xm_X14_thing) (ls := [some _, some _, some _]) rfl rfl rfl ?_
  refine y_aload_n rfl rfl ?_
  refine y_iload_n rfl rfl ?_
  refine y_iconst rfl ?_
  refine y_icmp_eq rfl j_X14_thing_18 (fun h_1 => ?_) (fun h_2 => ?_)
  · rw [yz_m1] at h_1
    refine y_iconst rfl ?_
    refine y_iconst rfl ?_
    refine y_virt rfl rfl rfl rfl rfl (ySh.t hS rfl) (ySh.n hS rfl) ?_
    refine y_in (M := xm_X14_start) (ls := [some _, some _, some _]) rfl rfl rfl ?_
    refine y_aload_n rfl rfl ?_
    refine y_iconst rfl ?_
    refine y_putI rfl (ySh.t hS rfl) (ySh.n hS rfl) rfl (Nat.le_of_ble_eq_true rfl) rfl rfl ?_
    refine y_nameI (fun I3 e3 => ?_)
    have hR1 := (hR0.grow hX).mod0 e3 (by decide) (by decide)
    have hK := (hK.x hRo hno hX).upI (upI e3) (by decide) (by decide) (fun i hi => by have := (hRo.l87.2.2.2.2 i hi).2.1; omega) (by rw [e3, upd2_ne (.inr (by decide))]; exact Int.le_refl _)
    have hth : I3 83 0 = Int32.ofInt (0) := by rw [e3, upd2_self]
    have hzz : ySz8 I I3 := ySz8_of (upI e3) (by rw [e3]; exact ⟨upd2_ne (.inr (by decide)), upd2_ne (.inr (by decide))⟩)
    have hS0 := hS
    have hR0 := hR1
    have hn := Nat.le_refl n
    have h94 := hS0.1
    have hX := @yX.rf n tg I3 R
    have hS := hS0.x hX
    have hR := hR0.x hn hX
    have hz := hX.sz h94
    have hxn := hX.1
    have hN := hR0.1
    have hnb := hR0.2.2.2.2.2.2
    have hthB := hth
    refine y_aload_n rfl rfl ?_
    refine y_iload_n rfl rfl ?_
    refine y_iload_n rfl rfl ?_
    refine y_virt rfl rfl rfl rfl rfl (ySh.t hS rfl) (ySh.n hS rfl) ?_
    refine y_in (M := xm_X14_refuse) (ls := [some _, some _, some _]) rfl rfl rfl ?_
    refine y_iload_n rfl rfl ?_
    refine y_if_eqT rfl j_X14_refuse_16 (by decide) ?_
    refine y_aload_n rfl rfl ?_
    refine y_getIv (v := Int32.ofInt (0)) rfl (ySh.t hS rfl) (ySh.n hS rfl) rfl rfl hth ?_
    refine y_if_leT rfl j_X14_refuse_27 (by decide) ?_
    refine y_iconst rfl ?_
    refine y_ireturn rfl rfl rfl ?_
    refine y_ret1 ?_
    refine y_ireturn rfl rfl rfl ?_
    refine y_ret1 ?_
    refine y_if_neF rfl (by decide) ?_
    refine y_aload_n rfl rfl ?_
    refine y_iload_n rfl rfl ?_
    refine y_iconst rfl ?_
    refine y_sip rfl (by decide) ?_
    refine y_static rfl rfl rfl rfl rfl ?_
    refine r_isIn (fun h_4 h_5 => ?_) (fun h_6 => ?_)
    · rw [yz_1] at h_4
      rw [yz_999] at h_5
      refine y_ret1 ?_
      refine y_if_neT rfl j_X14_thing_42 (by decide) ?_
      refine y_iconst rfl ?_
      refine y_iconst rfl ?_
      refine y_virt rfl rfl rfl rfl rfl (ySh.t hS rfl) (ySh.n hS rfl) ?_
      refine y_in (M := xm_X14_refuse) (ls := [some _, some _, some _]) rfl rfl rfl ?_
      refine y_iload_n rfl rfl ?_
      refine y_if_eqT rfl j_X14_refuse_16 (by decide) ?_
      refine y_aload_n rfl rfl ?_
      refine y_getIv (v := Int32.ofInt (0)) rfl (ySh.t hS rfl) (ySh.n hS rfl) rfl rfl hth ?_
      refine y_if_leT rfl j_X14_refuse_27 (by decide) ?_
      refine y_iconst rfl ?_
      refine y_ireturn rfl rfl rfl ?_
      refine y_ret1 ?_
      refine y_if_neF rfl (by decide) ?_
      refine y_aload_n rfl rfl ?_
      refine y_aload_n rfl rfl ?_
      refine y_getR rfl (ySh.t hS rfl) (ySh.n hS rfl) rfl rfl (ySh.r hS rfl) ?_
      refine y_virt rfl rfl rfl rfl rfl (ySh.t hS rfl) (ySh.n hS rfl) ?_
      refine y_in (M := xm_Jx4a65c_size_8abf5) (ls := [some _]) rfl rfl rfl ?_
      refine y_aload_n rfl rfl ?_
      refine y_getI rfl (ySh.t hS rfl) (ySh.n hS rfl) rfl rfl ?_
      refine y_ireturn rfl rfl rfl ?_
      refine y_ret1 ?_
      refine y_bip rfl (by decide) ?_
      refine y_icmp_ne rfl j_X14_thing_67 (fun h_7 => ?_) (fun h_8 => ?_)
      · rw [yz_16] at h_7
        refine y_iconst rfl ?_
        refine y_iconst rfl ?_
        refine y_virt rfl rfl rfl rfl rfl (ySh.t hS rfl) (ySh.n hS rfl) ?_
        refine y_in (M := xm_X14_refuse) (ls := [some _, some _, some _]) rfl rfl rfl ?_
        refine y_iload_n rfl rfl ?_
        refine y_if_eqT rfl j_X14_refuse_16 (by decide) ?_
        refine y_aload_n rfl rfl ?_
        refine y_getIv (v := Int32.ofInt (0)) rfl (ySh.t hS rfl) (ySh.n hS rfl) rfl rfl hth ?_
        refine y_if_leT rfl j_X14_refuse_27 (by decide) ?_
        refine y_iconst rfl ?_
        refine y_ireturn rfl rfl rfl ?_
        refine y_ret1 ?_
        refine y_if_eqT rfl j_X14_thing_77 (by decide) ?_
        refine y_aload_n rfl rfl ?_
        refine y_getR rfl (ySh.t hS rfl) (ySh.n hS rfl) rfl rfl (ySh.r hS rfl) ?_
        refine y_newX rfl rfl rfl (fun n9 tg9 I9 R9 hA => ?_)
        have hnA := hA.1
        have hnw := yNw.al hX hA
        have ht_f10 : tg9 n = (20, 0) := hA.2.1
        have ha_f10 : n < n9 := by omega
        have hX := hX.y.trans hA.y
        have hS := hS0.y hX
        have hR := hR0.y hn hX
        have hz := hX.sz h94
        have hxn := hX.1
        have hth := (congrFun (hA.2.2.2.2 83 (by omega)).2.1 0).trans hth
        refine y_dup rfl rfl ?_
        refine y_iload_n rfl rfl ?_
        refine y_iload_n rfl rfl ?_
        refine y_iconst rfl ?_
        refine y_icmp_ne rfl j_X14_thing_96 (fun h_11 => ?_) (fun h_12 => ?_)
        · rw [yz_m1] at h_11
          refine y_iload_n rfl rfl ?_
          refine y_init rfl rfl rfl rfl rfl ?_
          refine y_in (M := xm_X12_init) (ls := [some _, some _, some _]) rfl rfl rfl ?_
          refine y_aload_n rfl rfl ?_
          refine y_obj rfl ha_f10 rfl ?_
          refine y_aload_n rfl rfl ?_
          refine y_iconst rfl ?_
          refine y_putI rfl ht_f10 ha_f10 rfl (Nat.le_trans (by decide) (by omega : 94 ≤ _)) rfl rfl ?_
          refine y_nameI (fun I13 e13 => ?_)
          have hX := hX.upI (by omega) (upI e13)
          have hS := hS0.y hX
          have hR := hR0.y hn hX
          have hz := hX.sz h94
          have hxn := hX.1
          have hth := (congrFun (upI e13 83 (by omega)) 0).trans hth
          refine y_aload_n rfl rfl ?_
          refine y_iconst rfl ?_
          refine y_putI rfl ht_f10 ha_f10 rfl (Nat.le_trans (by decide) (by omega : 94 ≤ _)) rfl rfl ?_
          refine y_nameI (fun I14 e14 => ?_)
          have hX := hX.upI (by omega) (upI e14)
          have hS := hS0.y hX
          have hR := hR0.y hn hX
          have hz := hX.sz h94
          have hxn := hX.1
          have hth := (congrFun (upI e14 83 (by omega)) 0).trans hth
          refine y_aload_n rfl rfl ?_
          refine y_iload_n rfl rfl ?_
          refine y_putI rfl ht_f10 ha_f10 rfl (Nat.le_trans (by decide) (by omega : 94 ≤ _)) rfl rfl ?_
          refine y_nameI (fun I15 e15 => ?_)
          have hX := hX.upI (by omega) (upI e15)
          have hS := hS0.y hX
          have hR := hR0.y hn hX
          have hz := hX.sz h94
          have hxn := hX.1
          have hth := (congrFun (upI e15 83 (by omega)) 0).trans hth
          refine y_aload_n rfl rfl ?_
          refine y_iload_n rfl rfl ?_
          refine y_putI rfl ht_f10 ha_f10 rfl (Nat.le_trans (by decide) (by omega : 94 ≤ _)) rfl rfl ?_
          refine y_nameI (fun I16 e16 => ?_)
          have hX := hX.upI (by omega) (upI e16)
          have hS := hS0.y hX
          have hR := hR0.y hn hX
          have hz := hX.sz h94
          have hxn := hX.1
          have hth := (congrFun (upI e16 83 (by omega)) 0).trans hth
          refine y_return rfl ?_
          refine y_ret0 ?_
          refine y_virt rfl rfl rfl rfl rfl (ySh.t hS rfl) (ySh.n hS rfl) ?_
          refine l_add hS (by decide) (by decide) (ySh.t hS rfl) (Nat.le_trans hn hX.1) hR.l88 (by omega) (by omega) ha_f10 (fun n17 tg17 I17 R17 c_17 s_17 hAd hc_17 hs_17 => ?_)
          have hsA := hAd.sz
          have hnA := hAd.n
          have hNu : yNum K I17 := yNum.add (K := K) hR.1 hAd (by omega) (by decide) (by decide) (Nat.le_refl K) (by omega) (fun h => by omega) (fun h => by omega) (fun h => by omega) (fun h => by omega) (fun h => by omega) (fun h => by omega)
          have htx : tg17 n = (20, 0) := (hAd.tg _ ha_f10).trans ht_f10
          have hIx := hAd.I _ ha_f10 (by omega)
          have hOb : yOb K n17 tg17 I17 R17 n := ⟨fun _ => by rw [hIx]; simp only [e16, e15, e14, e13, upd2]; first | omega | (simp; omega) | simp | (simp; decide) | decide, fun hq => absurd (show (20 : Nat) = 19 from congrArg Prod.fst (htx.symm.trans hq)) (by decide), fun hq => absurd (show (20 : Nat) = 18 from congrArg Prod.fst (htx.symm.trans hq)) (by decide), fun hq => absurd (show (20 : Nat) = 21 from congrArg Prod.fst (htx.symm.trans hq)) (by decide)⟩
          have hR1 : yRI K n17 tg17 I17 R17 := yRI.add hR (Nat.le_trans hn hX.1) hAd (by decide) (by decide) rfl (by omega) ha_f10 ht_f10 hnw (Nat.le_refl K) hNu hOb (fun h => absurd h (by decide)) (fun h => absurd h (by decide))
          have hK := (hK.y hRo hno hX).add hRo hno hR.di hAd (by decide) (by decide) (hR.zl 88 (by decide) (by decide))
          have hS := hS.add hAd (by decide) (by decide) (hR.zl 88 (by decide) (by decide))
          have hth := (congrFun (hAd.I 83 (by omega) (by decide)) 0).trans hth
          have ht_f10 := (hAd.tg _ ha_f10).trans ht_f10
          have ha_f10 := Nat.lt_of_lt_of_le ha_f10 hAd.n
          have hS0 := hS
          have hR0 := hR1
          have hn := Nat.le_refl n17
          have h94 := hS0.1
          have hX := @yX.rf n17 tg17 I17 R17
          have hS := hS0.x hX
          have hR := hR0.x hn hX
          have hz := hX.sz h94
          have hxn := hX.1
          have hN := hR0.1
          have hnb := hR0.2.2.2.2.2.2
          have hthB := hth
          refine y_ret1 ?_
          refine y_pop rfl rfl ?_
          refine y_aload_n rfl rfl ?_
          refine y_getR rfl (ySh.t hS rfl) (ySh.n hS rfl) rfl rfl (ySh.r hS rfl) ?_
          refine y_virt rfl rfl rfl rfl rfl (ySh.t hS rfl) (ySh.n hS rfl) ?_
          refine y_in (M := xm_Jx4a65c_size_8abf5) (ls := [some _]) rfl rfl rfl ?_
          refine y_aload_n rfl rfl ?_
          refine y_getI rfl (ySh.t hS rfl) (ySh.n hS rfl) rfl rfl ?_
          refine y_ireturn rfl rfl rfl ?_
          refine y_ret1 ?_
          refine y_iconst rfl ?_
          refine y_isub rfl ?_
          refine y_ireturn rfl rfl rfl ?_
          exact hQ _ _ _ _ _ _ _ hS ((hR0.grow hX).up (Nat.le_succ K) hk6) (hK.x hRo hno hX) (by omega) (by omega)
        · rw [yz_m1] at h_12
          refine y_bip rfl (by decide) ?_
          refine y_goto rfl j_X14_thing_97 ?_
          refine y_init rfl rfl rfl rfl rfl ?_
          refine y_in (M := xm_X12_init) (ls := [some _, some _, some _]) rfl rfl rfl ?_
          refine y_aload_n rfl rfl ?_
          refine y_obj rfl ha_f10 rfl ?_
          refine y_aload_n rfl rfl ?_
          refine y_iconst rfl ?_
          refine y_putI rfl ht_f10 ha_f10 rfl (Nat.le_trans (by decide) (by omega : 94 ≤ _)) rfl rfl ?_
          refine y_nameI (fun I18 e18 => ?_)
          have hX := hX.upI (by omega) (upI e18)
          have hS := hS0.y hX
          have hR := hR0.y hn hX
          have hz := hX.sz h94
          have hxn := hX.1
          have hth := (congrFun (upI e18 83 (by omega)) 0).trans hth
          refine y_aload_n rfl rfl ?_
          refine y_iconst rfl ?_
          refine y_putI rfl ht_f10 ha_f10 rfl (Nat.le_trans (by decide) (by omega : 94 ≤ _)) rfl rfl ?_
          refine y_nameI (fun I19 e19 => ?_)
          have hX := hX.upI (by omega) (upI e19)
          have hS := hS0.y hX
          have hR := hR0.y hn hX
          have hz := hX.sz h94
          have hxn := hX.1
          have hth := (congrFun (upI e19 83 (by omega)) 0).trans hth
          refine y_aload_n rfl rfl ?_
          refine y_iload_n rfl rfl ?_
          refine y_putI rfl ht_f10 ha_f10 rfl (Nat.le_trans (by decide) (by omega : 94 ≤ _)) rfl rfl ?_
          refine y_nameI (fun I20 e20 => ?_)
          have hX := hX.upI (by omega) (upI e20)
          have hS := hS0.y hX
          have hR := hR0.y hn hX
          have hz := hX.sz h94
          have hxn := hX.1
          have hth := (congrFun (upI e20 83 (by omega)) 0).trans hth
          refine y_aload_n rfl rfl ?_
          refine y_iload_n rfl rfl ?_
          refine y_putI rfl ht_f10 ha_f10 rfl (Nat.le_trans (by decide) (by omega : 94 ≤ _)) rfl rfl ?_
          refine y_nameI (fun I21 e21 => ?_)
          have hX := hX.upI (by omega) (upI e21)
          have hS := hS0.y hX
          have hR := hR0.y hn hX
          have hz := hX.sz h94
          have hxn := hX.1
          have hth := (congrFun (upI e21 83 (by omega)) 0).trans hth
          refine y_return rfl ?_
          refine y_ret0 ?_
          refine y_virt rfl rfl rfl rfl rfl (ySh.t hS rfl) (ySh.n hS rfl) ?_
          refine l_add hS (by decide) (by decide) (ySh.t hS rfl) (Nat.le_trans hn hX.1) hR.l88 (by omega) (by omega) ha_f10 (fun n22 tg22 I22 R22 c_22 s_22 hAd hc_22 hs_22 => ?_)
          have hsA := hAd.sz
          have hnA := hAd.n
          have hNu : yNum K I22 := yNum.add (K := K) hR.1 hAd (by omega) (by decide) (by decide) (Nat.le_refl K) (by omega) (fun h => by omega) (fun h => by omega) (fun h => by omega) (fun h => by omega) (fun h => by omega) (fun h => by omega)
          have htx : tg22 n = (20, 0) := (hAd.tg _ ha_f10).trans ht_f10
          have hIx := hAd.I _ ha_f10 (by omega)
          have hOb : yOb K n22 tg22 I22 R22 n := ⟨fun _ => by rw [hIx]; simp only [e21, e20, e19, e18, upd2]; first | omega | (simp; omega) | simp | (simp; decide) | decide, fun hq => absurd (show (20 : Nat) = 19 from congrArg Prod.fst (htx.symm.trans hq)) (by decide), fun hq => absurd (show (20 : Nat) = 18 from congrArg Prod.fst (htx.symm.trans hq)) (by decide), fun hq => absurd (show (20 : Nat) = 21 from congrArg Prod.fst (htx.symm.trans hq)) (by decide)⟩
          have hR1 : yRI K n22 tg22 I22 R22 := yRI.add hR (Nat.le_trans hn hX.1) hAd (by decide) (by decide) rfl (by omega) ha_f10 ht_f10 hnw (Nat.le_refl K) hNu hOb (fun h => absurd h (by decide)) (fun h => absurd h (by decide))
          have hK := (hK.y hRo hno hX).add hRo hno hR.di hAd (by decide) (by decide) (hR.zl 88 (by decide) (by decide))
          have hS := hS.add hAd (by decide) (by decide) (hR.zl 88 (by decide) (by decide))
          have hth := (congrFun (hAd.I 83 (by omega) (by decide)) 0).trans hth
          have ht_f10 := (hAd.tg _ ha_f10).trans ht_f10
          have ha_f10 := Nat.lt_of_lt_of_le ha_f10 hAd.n
          have hS0 := hS
          have hR0 := hR1
          have hn := Nat.le_refl n22
          have h94 := hS0.1
          have hX := @yX.rf n22 tg22 I22 R22
          have hS := hS0.x hX
          have hR := hR0.x hn hX
          have hz := hX.sz h94
          have hxn := hX.1
          have hN := hR0.1
          have hnb := hR0.2.2.2.2.2.2
          have hthB := hth
          refine y_ret1 ?_
          refine y_pop rfl rfl ?_
          refine y_aload_n rfl rfl ?_
          refine y_getR rfl (ySh.t hS rfl) (ySh.n hS rfl) rfl rfl (ySh.r hS rfl) ?_
          refine y_virt rfl rfl rfl rfl rfl (ySh.t hS rfl) (ySh.n hS rfl) ?_
          refine y_in (M := xm_Jx4a65c_size_8abf5) (ls := [some _]) rfl rfl rfl ?_
          refine y_aload_n rfl rfl ?_
          refine y_getI rfl (ySh.t hS rfl) (ySh.n hS rfl) rfl rfl ?_
          refine y_ireturn rfl rfl rfl ?_
          refine y_ret1 ?_
          refine y_iconst rfl ?_
          refine y_isub rfl ?_
          refine y_ireturn rfl rfl rfl ?_
          exact hQ _ _ _ _ _ _ _ hS ((hR0.grow hX).up (Nat.le_succ K) hk6) (hK.x hRo hno hX) (by omega) (by omega)
      · rw [yz_16] at h_8
        refine y_iconst rfl ?_
        refine y_goto rfl j_X14_thing_68 ?_
        refine y_iconst rfl ?_
        refine y_virt rfl rfl rfl rfl rfl (ySh.t hS rfl) (ySh.n hS rfl) ?_
        refine y_in (M := xm_X14_refuse) (ls := [some _, some _, some _]) rfl rfl rfl ?_
        refine y_iload_n rfl rfl ?_
        refine y_if_eqF rfl (by decide) ?_
        refine y_aload_n rfl rfl ?_
        refine y_getIv (v := Int32.ofInt (0)) rfl (ySh.t hS rfl) (ySh.n hS rfl) rfl rfl hth ?_
        refine y_if_neF rfl (by decide) ?_
        refine y_aload_n rfl rfl ?_
        refine y_iload_n rfl rfl ?_
        refine y_putI rfl (ySh.t hS rfl) (ySh.n hS rfl) rfl (Nat.le_of_ble_eq_true rfl) rfl rfl ?_
        refine y_nameI (fun I23 e23 => ?_)
        have hR1 := (hR0.grow hX).mod0 e23 (by decide) (by decide)
        have hK := (hK.x hRo hno hX).upI (upI e23) (by decide) (by decide) (fun i hi => by have := (hRo.l87.2.2.2.2 i hi).2.1; omega) (by rw [e23, upd2_ne (.inr (by decide))]; exact Int.le_refl _)
        have hth : I23 83 0 = Int32.ofInt (3) := by rw [e23, upd2_self]
        have hzz : ySz8 I3 I23 := ySz8_of (upI e23) (by rw [e23]; exact ⟨upd2_ne (.inr (by decide)), upd2_ne (.inr (by decide))⟩)
        have hS0 := hS
        have hR0 := hR1
        have hn := Nat.le_refl n
        have h94 := hS0.1
        have hX := @yX.rf n tg I23 R
        have hS := hS0.x hX
        have hR := hR0.x hn hX
        have hz := hX.sz h94
        have hxn := hX.1
        have hN := hR0.1
        have hnb := hR0.2.2.2.2.2.2
        have hthB := hth
        refine y_aload_n rfl rfl ?_
        refine y_getIv (v := Int32.ofInt (3)) rfl (ySh.t hS rfl) (ySh.n hS rfl) rfl rfl hth ?_
        refine y_if_leF rfl (by decide) ?_
        refine y_iconst rfl ?_
        refine y_goto rfl j_X14_refuse_28 ?_
        refine y_ireturn rfl rfl rfl ?_
        refine y_ret1 ?_
        refine y_if_eqF rfl (by decide) ?_
        refine y_iconst rfl ?_
        refine y_ireturn rfl rfl rfl ?_
        exact hQ _ _ _ _ _ _ _ hS ((hR0.grow hX).up (Nat.le_succ K) hk6) (hK.x hRo hno hX) (by omega) (by omega)
    · rw [yz_1] at h_6
      rw [yz_999] at h_6
      refine y_ret1 ?_
      refine y_if_neF rfl (by decide) ?_
      refine y_iconst rfl ?_
      refine y_goto rfl j_X14_thing_43 ?_
      refine y_iconst rfl ?_
      refine y_virt rfl rfl rfl rfl rfl (ySh.t hS rfl) (ySh.n hS rfl) ?_
      refine y_in (M := xm_X14_refuse) (ls := [some _, some _, some _]) rfl rfl rfl ?_
      refine y_iload_n rfl rfl ?_
      refine y_if_eqF rfl (by decide) ?_
      refine y_aload_n rfl rfl ?_
      refine y_getIv (v := Int32.ofInt (0)) rfl (ySh.t hS rfl) (ySh.n hS rfl) rfl rfl hth ?_
      refine y_if_neF rfl (by decide) ?_
      refine y_aload_n rfl rfl ?_
      refine y_iload_n rfl rfl ?_
      refine y_putI rfl (ySh.t hS rfl) (ySh.n hS rfl) rfl (Nat.le_of_ble_eq_true rfl) rfl rfl ?_
      refine y_nameI (fun I24 e24 => ?_)
      have hR1 := (hR0.grow hX).mod0 e24 (by decide) (by decide)
      have hK := (hK.x hRo hno hX).upI (upI e24) (by decide) (by decide) (fun i hi => by have := (hRo.l87.2.2.2.2 i hi).2.1; omega) (by rw [e24, upd2_ne (.inr (by decide))]; exact Int.le_refl _)
      have hth : I24 83 0 = Int32.ofInt (2) := by rw [e24, upd2_self]
      have hzz : ySz8 I3 I24 := ySz8_of (upI e24) (by rw [e24]; exact ⟨upd2_ne (.inr (by decide)), upd2_ne (.inr (by decide))⟩)
      have hS0 := hS
      have hR0 := hR1
      have hn := Nat.le_refl n
      have h94 := hS0.1
      have hX := @yX.rf n tg I24 R
      have hS := hS0.x hX
      have hR := hR0.x hn hX
      have hz := hX.sz h94
      have hxn := hX.1
      have hN := hR0.1
      have hnb := hR0.2.2.2.2.2.2
      have hthB := hth
      refine y_aload_n rfl rfl ?_
      refine y_getIv (v := Int32.ofInt (2)) rfl (ySh.t hS rfl) (ySh.n hS rfl) rfl rfl hth ?_
      refine y_if_leF rfl (by decide) ?_
      refine y_iconst rfl ?_
      refine y_goto rfl j_X14_refuse_28 ?_
      refine y_ireturn rfl rfl rfl ?_
      refine y_ret1 ?_
      refine y_if_neT rfl j_X14_thing_75 (by decide) ?_
      refine y_iconst rfl ?_
      refine y_ireturn rfl rfl rfl ?_
      exact hQ _ _ _ _ _ _ _ hS ((hR0.grow hX).up (Nat.le_succ K) hk6) (hK.x hRo hno hX) (by omega) (by omega)
  · rw [yz_m1] at h_2
    refine y_aload_n rfl rfl ?_
    refine y_iload_n rfl rfl ?_
    refine y_virt rfl rfl rfl rfl rfl (ySh.t hS rfl) (ySh.n hS rfl) ?_
    refine y_in (M := xm_X14_isNobody) (ls := [some _, some _]) rfl rfl rfl ?_
    refine y_iload_n rfl rfl ?_
    refine y_iconst rfl ?_
    refine y_aload_n rfl rfl ?_
    refine y_getI rfl (ySh.t hS rfl) (ySh.n hS rfl) rfl rfl ?_
    refine y_iconst rfl ?_
    refine y_isub rfl ?_
    refine y_static rfl rfl rfl rfl rfl ?_
    refine r_isIn (fun h_25 h_26 => ?_) (fun h_27 => ?_)
    · rw [yz_0] at h_25
      try rw [ysub (by rw [yz_1]; omega) (by rw [yz_1]; omega), yz_1] at h_26
      refine y_ret1 ?_
      refine y_if_neT rfl j_X14_isNobody_18 (by decide) ?_
      refine y_iconst rfl ?_
      refine y_ireturn rfl rfl rfl ?_
      refine y_ret1 ?_
      refine y_if_eqT rfl j_X14_thing_18 (by decide) ?_
      refine y_iconst rfl ?_
      refine y_iconst rfl ?_
      refine y_virt rfl rfl rfl rfl rfl (ySh.t hS rfl) (ySh.n hS rfl) ?_
      refine y_in (M := xm_X14_start) (ls := [some _, some _, some _]) rfl rfl rfl ?_
      refine y_aload_n rfl rfl ?_
      refine y_iconst rfl ?_
      refine y_putI rfl (ySh.t hS rfl) (ySh.n hS rfl) rfl (Nat.le_of_ble_eq_true rfl) rfl rfl ?_
      refine y_nameI (fun I28 e28 => ?_)
      have hR1 := (hR0.grow hX).mod0 e28 (by decide) (by decide)
      have hK := (hK.x hRo hno hX).upI (upI e28) (by decide) (by decide) (fun i hi => by have := (hRo.l87.2.2.2.2 i hi).2.1; omega) (by rw [e28, upd2_ne (.inr (by decide))]; exact Int.le_refl _)
      have hth : I28 83 0 = Int32.ofInt (0) := by rw [e28, upd2_self]
      have hzz : ySz8 I I28 := ySz8_of (upI e28) (by rw [e28]; exact ⟨upd2_ne (.inr (by decide)), upd2_ne (.inr (by decide))⟩)
      have hS0 := hS
      have hR0 := hR1
      have hn := Nat.le_refl n
      have h94 := hS0.1
      have hX := @yX.rf n tg I28 R
      have hS := hS0.x hX
      have hR := hR0.x hn hX
      have hz := hX.sz h94
      have hxn := hX.1
      have hN := hR0.1
      have hnb := hR0.2.2.2.2.2.2
      have hthB := hth
      refine y_aload_n rfl rfl ?_
      refine y_iload_n rfl rfl ?_
      refine y_iload_n rfl rfl ?_
      refine y_virt rfl rfl rfl rfl rfl (ySh.t hS rfl) (ySh.n hS rfl) ?_
      refine y_in (M := xm_X14_refuse) (ls := [some _, some _, some _]) rfl rfl rfl ?_
      refine y_iload_n rfl rfl ?_
      refine y_if_eqT rfl j_X14_refuse_16 (by decide) ?_
      refine y_aload_n rfl rfl ?_
      refine y_getIv (v := Int32.ofInt (0)) rfl (ySh.t hS rfl) (ySh.n hS rfl) rfl rfl hth ?_
      refine y_if_leT rfl j_X14_refuse_27 (by decide) ?_
      refine y_iconst rfl ?_
      refine y_ireturn rfl rfl rfl ?_
      refine y_ret1 ?_
      refine y_ireturn rfl rfl rfl ?_
      refine y_ret1 ?_
      refine y_if_neF rfl (by decide) ?_
      refine y_aload_n rfl rfl ?_
      refine y_iload_n rfl rfl ?_
      refine y_iconst rfl ?_
      refine y_sip rfl (by decide) ?_
      refine y_static rfl rfl rfl rfl rfl ?_
      refine r_isIn (fun h_29 h_30 => ?_) (fun h_31 => ?_)
      · rw [yz_1] at h_29
        rw [yz_999] at h_30
        refine y_ret1 ?_
        refine y_if_neT rfl j_X14_thing_42 (by decide) ?_
        refine y_iconst rfl ?_
        refine y_iconst rfl ?_
        refine y_virt rfl rfl rfl rfl rfl (ySh.t hS rfl) (ySh.n hS rfl) ?_
        refine y_in (M := xm_X14_refuse) (ls := [some _, some _, some _]) rfl rfl rfl ?_
        refine y_iload_n rfl rfl ?_
        refine y_if_eqT rfl j_X14_refuse_16 (by decide) ?_
        refine y_aload_n rfl rfl ?_
        refine y_getIv (v := Int32.ofInt (0)) rfl (ySh.t hS rfl) (ySh.n hS rfl) rfl rfl hth ?_
        refine y_if_leT rfl j_X14_refuse_27 (by decide) ?_
        refine y_iconst rfl ?_
        refine y_ireturn rfl rfl rfl ?_
        refine y_ret1 ?_
        refine y_if_neF rfl (by decide) ?_
        refine y_aload_n rfl rfl ?_
        refine y_aload_n rfl rfl ?_
        refine y_getR rfl (ySh.t hS rfl) (ySh.n hS rfl) rfl rfl (ySh.r hS rfl) ?_
        refine y_virt rfl rfl rfl rfl rfl (ySh.t hS rfl) (ySh.n hS rfl) ?_
        refine y_in (M := xm_Jx4a65c_size_8abf5) (ls := [some _]) rfl rfl rfl ?_
        refine y_aload_n rfl rfl ?_
        refine y_getI rfl (ySh.t hS rfl) (ySh.n hS rfl) rfl rfl ?_
        refine y_ireturn rfl rfl rfl ?_
        refine y_ret1 ?_
        refine y_bip rfl (by decide) ?_
        refine y_icmp_ne rfl j_X14_thing_67 (fun h_32 => ?_) (fun h_33 => ?_)
        · rw [yz_16] at h_32
          refine y_iconst rfl ?_
          refine y_iconst rfl ?_
          refine y_virt rfl rfl rfl rfl rfl (ySh.t hS rfl) (ySh.n hS rfl) ?_
          refine y_in (M := xm_X14_refuse) (ls := [some _, some _, some _]) rfl rfl rfl ?_
          refine y_iload_n rfl rfl ?_
          refine y_if_eqT rfl j_X14_refuse_16 (by decide) ?_
          refine y_aload_n rfl rfl ?_
          refine y_getIv (v := Int32.ofInt (0)) rfl (ySh.t hS rfl) (ySh.n hS rfl) rfl rfl hth ?_
          refine y_if_leT rfl j_X14_refuse_27 (by decide) ?_
          refine y_iconst rfl ?_
          refine y_ireturn rfl rfl rfl ?_
          refine y_ret1 ?_
          refine y_if_eqT rfl j_X14_thing_77 (by decide) ?_
          refine y_aload_n rfl rfl ?_
          refine y_getR rfl (ySh.t hS rfl) (ySh.n hS rfl) rfl rfl (ySh.r hS rfl) ?_
          refine y_newX rfl rfl rfl (fun n34 tg34 I34 R34 hA => ?_)
          have hnA := hA.1
          have hnw := yNw.al hX hA
          have ht_f35 : tg34 n = (20, 0) := hA.2.1
          have ha_f35 : n < n34 := by omega
          have hX := hX.y.trans hA.y
          have hS := hS0.y hX
          have hR := hR0.y hn hX
          have hz := hX.sz h94
          have hxn := hX.1
          have hth := (congrFun (hA.2.2.2.2 83 (by omega)).2.1 0).trans hth
          refine y_dup rfl rfl ?_
          refine y_iload_n rfl rfl ?_
          refine y_iload_n rfl rfl ?_
          refine y_iconst rfl ?_
          refine y_icmp_ne rfl j_X14_thing_96 (fun h_36 => ?_) (fun h_37 => ?_)
          · rw [yz_m1] at h_36
            refine y_iload_n rfl rfl ?_
            refine y_init rfl rfl rfl rfl rfl ?_
            refine y_in (M := xm_X12_init) (ls := [some _, some _, some _]) rfl rfl rfl ?_
            refine y_aload_n rfl rfl ?_
            refine y_obj rfl ha_f35 rfl ?_
            refine y_aload_n rfl rfl ?_
            refine y_iconst rfl ?_
            refine y_putI rfl ht_f35 ha_f35 rfl (Nat.le_trans (by decide) (by omega : 94 ≤ _)) rfl rfl ?_
            refine y_nameI (fun I38 e38 => ?_)
            have hX := hX.upI (by omega) (upI e38)
            have hS := hS0.y hX
            have hR := hR0.y hn hX
            have hz := hX.sz h94
            have hxn := hX.1
            have hth := (congrFun (upI e38 83 (by omega)) 0).trans hth
            refine y_aload_n rfl rfl ?_
            refine y_iconst rfl ?_
            refine y_putI rfl ht_f35 ha_f35 rfl (Nat.le_trans (by decide) (by omega : 94 ≤ _)) rfl rfl ?_
            refine y_nameI (fun I39 e39 => ?_)
            have hX := hX.upI (by omega) (upI e39)
            have hS := hS0.y hX
            have hR := hR0.y hn hX
            have hz := hX.sz h94
            have hxn := hX.1
            have hth := (congrFun (upI e39 83 (by omega)) 0).trans hth
            refine y_aload_n rfl rfl ?_
            refine y_iload_n rfl rfl ?_
            refine y_putI rfl ht_f35 ha_f35 rfl (Nat.le_trans (by decide) (by omega : 94 ≤ _)) rfl rfl ?_
            refine y_nameI (fun I40 e40 => ?_)
            have hX := hX.upI (by omega) (upI e40)
            have hS := hS0.y hX
            have hR := hR0.y hn hX
            have hz := hX.sz h94
            have hxn := hX.1
            have hth := (congrFun (upI e40 83 (by omega)) 0).trans hth
            refine y_aload_n rfl rfl ?_
            refine y_iload_n rfl rfl ?_
            refine y_putI rfl ht_f35 ha_f35 rfl (Nat.le_trans (by decide) (by omega : 94 ≤ _)) rfl rfl ?_
            refine y_nameI (fun I41 e41 => ?_)
            have hX := hX.upI (by omega) (upI e41)
            have hS := hS0.y hX
            have hR := hR0.y hn hX
            have hz := hX.sz h94
            have hxn := hX.1
            have hth := (congrFun (upI e41 83 (by omega)) 0).trans hth
            refine y_return rfl ?_
            refine y_ret0 ?_
            refine y_virt rfl rfl rfl rfl rfl (ySh.t hS rfl) (ySh.n hS rfl) ?_
            refine l_add hS (by decide) (by decide) (ySh.t hS rfl) (Nat.le_trans hn hX.1) hR.l88 (by omega) (by omega) ha_f35 (fun n42 tg42 I42 R42 c_42 s_42 hAd hc_42 hs_42 => ?_)
            have hsA := hAd.sz
            have hnA := hAd.n
            have hNu : yNum K I42 := yNum.add (K := K) hR.1 hAd (by omega) (by decide) (by decide) (Nat.le_refl K) (by omega) (fun h => by omega) (fun h => by omega) (fun h => by omega) (fun h => by omega) (fun h => by omega) (fun h => by omega)
            have htx : tg42 n = (20, 0) := (hAd.tg _ ha_f35).trans ht_f35
            have hIx := hAd.I _ ha_f35 (by omega)
            have hOb : yOb K n42 tg42 I42 R42 n := ⟨fun _ => by rw [hIx]; simp only [e41, e40, e39, e38, upd2]; first | omega | (simp; omega) | simp | (simp; decide) | decide, fun hq => absurd (show (20 : Nat) = 19 from congrArg Prod.fst (htx.symm.trans hq)) (by decide), fun hq => absurd (show (20 : Nat) = 18 from congrArg Prod.fst (htx.symm.trans hq)) (by decide), fun hq => absurd (show (20 : Nat) = 21 from congrArg Prod.fst (htx.symm.trans hq)) (by decide)⟩
            have hR1 : yRI K n42 tg42 I42 R42 := yRI.add hR (Nat.le_trans hn hX.1) hAd (by decide) (by decide) rfl (by omega) ha_f35 ht_f35 hnw (Nat.le_refl K) hNu hOb (fun h => absurd h (by decide)) (fun h => absurd h (by decide))
            have hK := (hK.y hRo hno hX).add hRo hno hR.di hAd (by decide) (by decide) (hR.zl 88 (by decide) (by decide))
            have hS := hS.add hAd (by decide) (by decide) (hR.zl 88 (by decide) (by decide))
            have hth := (congrFun (hAd.I 83 (by omega) (by decide)) 0).trans hth
            have ht_f35 := (hAd.tg _ ha_f35).trans ht_f35
            have ha_f35 := Nat.lt_of_lt_of_le ha_f35 hAd.n
            have hS0 := hS
            have hR0 := hR1
            have hn := Nat.le_refl n42
            have h94 := hS0.1
            have hX := @yX.rf n42 tg42 I42 R42
            have hS := hS0.x hX
            have hR := hR0.x hn hX
            have hz := hX.sz h94
            have hxn := hX.1
            have hN := hR0.1
            have hnb := hR0.2.2.2.2.2.2
            have hthB := hth
            refine y_ret1 ?_
            refine y_pop rfl rfl ?_
            refine y_aload_n rfl rfl ?_
            refine y_getR rfl (ySh.t hS rfl) (ySh.n hS rfl) rfl rfl (ySh.r hS rfl) ?_
            refine y_virt rfl rfl rfl rfl rfl (ySh.t hS rfl) (ySh.n hS rfl) ?_
            refine y_in (M := xm_Jx4a65c_size_8abf5) (ls := [some _]) rfl rfl rfl ?_
            refine y_aload_n rfl rfl ?_
            refine y_getI rfl (ySh.t hS rfl) (ySh.n hS rfl) rfl rfl ?_
            refine y_ireturn rfl rfl rfl ?_
            refine y_ret1 ?_
            refine y_iconst rfl ?_
            refine y_isub rfl ?_
            refine y_ireturn rfl rfl rfl ?_
            exact hQ _ _ _ _ _ _ _ hS ((hR0.grow hX).up (Nat.le_succ K) hk6) (hK.x hRo hno hX) (by omega) (by omega)
          · rw [yz_m1] at h_37
            refine y_bip rfl (by decide) ?_
            refine y_goto rfl j_X14_thing_97 ?_
            refine y_init rfl rfl rfl rfl rfl ?_
            refine y_in (M := xm_X12_init) (ls := [some _, some _, some _]) rfl rfl rfl ?_
            refine y_aload_n rfl rfl ?_
            refine y_obj rfl ha_f35 rfl ?_
            refine y_aload_n rfl rfl ?_
            refine y_iconst rfl ?_
            refine y_putI rfl ht_f35 ha_f35 rfl (Nat.le_trans (by decide) (by omega : 94 ≤ _)) rfl rfl ?_
            refine y_nameI (fun I43 e43 => ?_)
            have hX := hX.upI (by omega) (upI e43)
            have hS := hS0.y hX
            have hR := hR0.y hn hX
            have hz := hX.sz h94
            have hxn := hX.1
            have hth := (congrFun (upI e43 83 (by omega)) 0).trans hth
            refine y_aload_n rfl rfl ?_
            refine y_iconst rfl ?_
            refine y_putI rfl ht_f35 ha_f35 rfl (Nat.le_trans (by decide) (by omega : 94 ≤ _)) rfl rfl ?_
            refine y_nameI (fun I44 e44 => ?_)
            have hX := hX.upI (by omega) (upI e44)
            have hS := hS0.y hX
            have hR := hR0.y hn hX
            have hz := hX.sz h94
            have hxn := hX.1
            have hth := (congrFun (upI e44 83 (by omega)) 0).trans hth
            refine y_aload_n rfl rfl ?_
            refine y_iload_n rfl rfl ?_
            refine y_putI rfl ht_f35 ha_f35 rfl (Nat.le_trans (by decide) (by omega : 94 ≤ _)) rfl rfl ?_
            refine y_nameI (fun I45 e45 => ?_)
            have hX := hX.upI (by omega) (upI e45)
            have hS := hS0.y hX
            have hR := hR0.y hn hX
            have hz := hX.sz h94
            have hxn := hX.1
            have hth := (congrFun (upI e45 83 (by omega)) 0).trans hth
            refine y_aload_n rfl rfl ?_
            refine y_iload_n rfl rfl ?_
            refine y_putI rfl ht_f35 ha_f35 rfl (Nat.le_trans (by decide) (by omega : 94 ≤ _)) rfl rfl ?_
            refine y_nameI (fun I46 e46 => ?_)
            have hX := hX.upI (by omega) (upI e46)
            have hS := hS0.y hX
            have hR := hR0.y hn hX
            have hz := hX.sz h94
            have hxn := hX.1
            have hth := (congrFun (upI e46 83 (by omega)) 0).trans hth
            refine y_return rfl ?_
            refine y_ret0 ?_
            refine y_virt rfl rfl rfl rfl rfl (ySh.t hS rfl) (ySh.n hS rfl) ?_
            refine l_add hS (by decide) (by decide) (ySh.t hS rfl) (Nat.le_trans hn hX.1) hR.l88 (by omega) (by omega) ha_f35 (fun n47 tg47 I47 R47 c_47 s_47 hAd hc_47 hs_47 => ?_)
            have hsA := hAd.sz
            have hnA := hAd.n
            have hNu : yNum K I47 := yNum.add (K := K) hR.1 hAd (by omega) (by decide) (by decide) (Nat.le_refl K) (by omega) (fun h => by omega) (fun h => by omega) (fun h => by omega) (fun h => by omega) (fun h => by omega) (fun h => by omega)
            have htx : tg47 n = (20, 0) := (hAd.tg _ ha_f35).trans ht_f35
            have hIx := hAd.I _ ha_f35 (by omega)
            have hOb : yOb K n47 tg47 I47 R47 n := ⟨fun _ => by rw [hIx]; simp only [e46, e45, e44, e43, upd2]; first | omega | (simp; omega) | simp | (simp; decide) | decide, fun hq => absurd (show (20 : Nat) = 19 from congrArg Prod.fst (htx.symm.trans hq)) (by decide), fun hq => absurd (show (20 : Nat) = 18 from congrArg Prod.fst (htx.symm.trans hq)) (by decide), fun hq => absurd (show (20 : Nat) = 21 from congrArg Prod.fst (htx.symm.trans hq)) (by decide)⟩
            have hR1 : yRI K n47 tg47 I47 R47 := yRI.add hR (Nat.le_trans hn hX.1) hAd (by decide) (by decide) rfl (by omega) ha_f35 ht_f35 hnw (Nat.le_refl K) hNu hOb (fun h => absurd h (by decide)) (fun h => absurd h (by decide))
            have hK := (hK.y hRo hno hX).add hRo hno hR.di hAd (by decide) (by decide) (hR.zl 88 (by decide) (by decide))
            have hS := hS.add hAd (by decide) (by decide) (hR.zl 88 (by decide) (by decide))
            have hth := (congrFun (hAd.I 83 (by omega) (by decide)) 0).trans hth
            have ht_f35 := (hAd.tg _ ha_f35).trans ht_f35
            have ha_f35 := Nat.lt_of_lt_of_le ha_f35 hAd.n
            have hS0 := hS
            have hR0 := hR1
            have hn := Nat.le_refl n47
            have h94 := hS0.1
            have hX := @yX.rf n47 tg47 I47 R47
            have hS := hS0.x hX
            have hR := hR0.x hn hX
            have hz := hX.sz h94
            have hxn := hX.1
            have hN := hR0.1
            have hnb := hR0.2.2.2.2.2.2
            have hthB := hth
            refine y_ret1 ?_
            refine y_pop rfl rfl ?_
            refine y_aload_n rfl rfl ?_
            refine y_getR rfl (ySh.t hS rfl) (ySh.n hS rfl) rfl rfl (ySh.r hS rfl) ?_
            refine y_virt rfl rfl rfl rfl rfl (ySh.t hS rfl) (ySh.n hS rfl) ?_
            refine y_in (M := xm_Jx4a65c_size_8abf5) (ls := [some _]) rfl rfl rfl ?_
            refine y_aload_n rfl rfl ?_
            refine y_getI rfl (ySh.t hS rfl) (ySh.n hS rfl) rfl rfl ?_
            refine y_ireturn rfl rfl rfl ?_
            refine y_ret1 ?_
            refine y_iconst rfl ?_
            refine y_isub rfl ?_
            refine y_ireturn rfl rfl rfl ?_
            exact hQ _ _ _ _ _ _ _ hS ((hR0.grow hX).up (Nat.le_succ K) hk6) (hK.x hRo hno hX) (by omega) (by omega)
        · rw [yz_16] at h_33
          refine y_iconst rfl ?_
          refine y_goto rfl j_X14_thing_68 ?_
          refine y_iconst rfl ?_
          refine y_virt rfl rfl rfl rfl rfl (ySh.t hS rfl) (ySh.n hS rfl) ?_
          refine y_in (M := xm_X14_refuse) (ls := [some _, some _, some _]) rfl rfl rfl ?_
          refine y_iload_n rfl rfl ?_
          refine y_if_eqF rfl (by decide) ?_
          refine y_aload_n rfl rfl ?_
          refine y_getIv (v := Int32.ofInt (0)) rfl (ySh.t hS rfl) (ySh.n hS rfl) rfl rfl hth ?_
          refine y_if_neF rfl (by decide) ?_
          refine y_aload_n rfl rfl ?_
          refine y_iload_n rfl rfl ?_
          refine y_putI rfl (ySh.t hS rfl) (ySh.n hS rfl) rfl (Nat.le_of_ble_eq_true rfl) rfl rfl ?_
          refine y_nameI (fun I48 e48 => ?_)
          have hR1 := (hR0.grow hX).mod0 e48 (by decide) (by decide)
          have hK := (hK.x hRo hno hX).upI (upI e48) (by decide) (by decide) (fun i hi => by have := (hRo.l87.2.2.2.2 i hi).2.1; omega) (by rw [e48, upd2_ne (.inr (by decide))]; exact Int.le_refl _)
          have hth : I48 83 0 = Int32.ofInt (3) := by rw [e48, upd2_self]
          have hzz : ySz8 I28 I48 := ySz8_of (upI e48) (by rw [e48]; exact ⟨upd2_ne (.inr (by decide)), upd2_ne (.inr (by decide))⟩)
          have hS0 := hS
          have hR0 := hR1
          have hn := Nat.le_refl n
          have h94 := hS0.1
          have hX := @yX.rf n tg I48 R
          have hS := hS0.x hX
          have hR := hR0.x hn hX
          have hz := hX.sz h94
          have hxn := hX.1
          have hN := hR0.1
          have hnb := hR0.2.2.2.2.2.2
          have hthB := hth
          refine y_aload_n rfl rfl ?_
          refine y_getIv (v := Int32.ofInt (3)) rfl (ySh.t hS rfl) (ySh.n hS rfl) rfl rfl hth ?_
          refine y_if_leF rfl (by decide) ?_
          refine y_iconst rfl ?_
          refine y_goto rfl j_X14_refuse_28 ?_
          refine y_ireturn rfl rfl rfl ?_
          refine y_ret1 ?_
          refine y_if_eqF rfl (by decide) ?_
          refine y_iconst rfl ?_
          refine y_ireturn rfl rfl rfl ?_
          exact hQ _ _ _ _ _ _ _ hS ((hR0.grow hX).up (Nat.le_succ K) hk6) (hK.x hRo hno hX) (by omega) (by omega)
      · rw [yz_1] at h_31
        rw [yz_999] at h_31
        refine y_ret1 ?_
        refine y_if_neF rfl (by decide) ?_
        refine y_iconst rfl ?_
        refine y_goto rfl j_X14_thing_43 ?_
        refine y_iconst rfl ?_
        refine y_virt rfl rfl rfl rfl rfl (ySh.t hS rfl) (ySh.n hS rfl) ?_
        refine y_in (M := xm_X14_refuse) (ls := [some _, some _, some _]) rfl rfl rfl ?_
        refine y_iload_n rfl rfl ?_
        refine y_if_eqF rfl (by decide) ?_
        refine y_aload_n rfl rfl ?_
        refine y_getIv (v := Int32.ofInt (0)) rfl (ySh.t hS rfl) (ySh.n hS rfl) rfl rfl hth ?_
        refine y_if_neF rfl (by decide) ?_
        refine y_aload_n rfl rfl ?_
        refine y_iload_n rfl rfl ?_
        refine y_putI rfl (ySh.t hS rfl) (ySh.n hS rfl) rfl (Nat.le_of_ble_eq_true rfl) rfl rfl ?_
        refine y_nameI (fun I49 e49 => ?_)
        have hR1 := (hR0.grow hX).mod0 e49 (by decide) (by decide)
        have hK := (hK.x hRo hno hX).upI (upI e49) (by decide) (by decide) (fun i hi => by have := (hRo.l87.2.2.2.2 i hi).2.1; omega) (by rw [e49, upd2_ne (.inr (by decide))]; exact Int.le_refl _)
        have hth : I49 83 0 = Int32.ofInt (2) := by rw [e49, upd2_self]
        have hzz : ySz8 I28 I49 := ySz8_of (upI e49) (by rw [e49]; exact ⟨upd2_ne (.inr (by decide)), upd2_ne (.inr (by decide))⟩)
        have hS0 := hS
        have hR0 := hR1
        have hn := Nat.le_refl n
        have h94 := hS0.1
        have hX := @yX.rf n tg I49 R
        have hS := hS0.x hX
        have hR := hR0.x hn hX
        have hz := hX.sz h94
        have hxn := hX.1
        have hN := hR0.1
        have hnb := hR0.2.2.2.2.2.2
        have hthB := hth
        refine y_aload_n rfl rfl ?_
        refine y_getIv (v := Int32.ofInt (2)) rfl (ySh.t hS rfl) (ySh.n hS rfl) rfl rfl hth ?_
        refine y_if_leF rfl (by decide) ?_
        refine y_iconst rfl ?_
        refine y_goto rfl j_X14_refuse_28 ?_
        refine y_ireturn rfl rfl rfl ?_
        refine y_ret1 ?_
        refine y_if_neT rfl j_X14_thing_75 (by decide) ?_
        refine y_iconst rfl ?_
        refine y_ireturn rfl rfl rfl ?_
        exact hQ _ _ _ _ _ _ _ hS ((hR0.grow hX).up (Nat.le_succ K) hk6) (hK.x hRo hno hX) (by omega) (by omega)
    · rw [yz_0] at h_27
      try rw [ysub (by rw [yz_1]; omega) (by rw [yz_1]; omega), yz_1] at h_27
      refine y_ret1 ?_
      refine y_if_neF rfl (by decide) ?_
      refine y_iconst rfl ?_
      refine y_goto rfl j_X14_isNobody_19 ?_
      refine y_ireturn rfl rfl rfl ?_
      refine y_ret1 ?_
      refine y_if_eqF rfl (by decide) ?_
      refine y_iconst rfl ?_
      refine y_goto rfl j_X14_thing_19 ?_
      refine y_iconst rfl ?_
      refine y_virt rfl rfl rfl rfl rfl (ySh.t hS rfl) (ySh.n hS rfl) ?_
      refine y_in (M := xm_X14_start) (ls := [some _, some _, some _]) rfl rfl rfl ?_
      refine y_aload_n rfl rfl ?_
      refine y_iconst rfl ?_
      refine y_putI rfl (ySh.t hS rfl) (ySh.n hS rfl) rfl (Nat.le_of_ble_eq_true rfl) rfl rfl ?_
      refine y_nameI (fun I50 e50 => ?_)
      have hR1 := (hR0.grow hX).mod0 e50 (by decide) (by decide)
      have hK := (hK.x hRo hno hX).upI (upI e50) (by decide) (by decide) (fun i hi => by have := (hRo.l87.2.2.2.2 i hi).2.1; omega) (by rw [e50, upd2_ne (.inr (by decide))]; exact Int.le_refl _)
      have hth : I50 83 0 = Int32.ofInt (0) := by rw [e50, upd2_self]
      have hzz : ySz8 I I50 := ySz8_of (upI e50) (by rw [e50]; exact ⟨upd2_ne (.inr (by decide)), upd2_ne (.inr (by decide))⟩)
      have hS0 := hS
      have hR0 := hR1
      have hn := Nat.le_refl n
      have h94 := hS0.1
      have hX := @yX.rf n tg I50 R
      have hS := hS0.x hX
      have hR := hR0.x hn hX
      have hz := hX.sz h94
      have hxn := hX.1
      have hN := hR0.1
      have hnb := hR0.2.2.2.2.2.2
      have hthB := hth
      refine y_aload_n rfl rfl ?_
      refine y_iload_n rfl rfl ?_
      refine y_iload_n rfl rfl ?_
      refine y_virt rfl rfl rfl rfl rfl (ySh.t hS rfl) (ySh.n hS rfl) ?_
      refine y_in (M := xm_X14_refuse) (ls := [some _, some _, some _]) rfl rfl rfl ?_
      refine y_iload_n rfl rfl ?_
      refine y_if_eqF rfl (by decide) ?_
      refine y_aload_n rfl rfl ?_
      refine y_getIv (v := Int32.ofInt (0)) rfl (ySh.t hS rfl) (ySh.n hS rfl) rfl rfl hth ?_
      refine y_if_neF rfl (by decide) ?_
      refine y_aload_n rfl rfl ?_
      refine y_iload_n rfl rfl ?_
      refine y_putI rfl (ySh.t hS rfl) (ySh.n hS rfl) rfl (Nat.le_of_ble_eq_true rfl) rfl rfl ?_
      refine y_nameI (fun I51 e51 => ?_)
      have hR1 := (hR0.grow hX).mod0 e51 (by decide) (by decide)
      have hK := (hK.x hRo hno hX).upI (upI e51) (by decide) (by decide) (fun i hi => by have := (hRo.l87.2.2.2.2 i hi).2.1; omega) (by rw [e51, upd2_ne (.inr (by decide))]; exact Int.le_refl _)
      have hth : I51 83 0 = Int32.ofInt (1) := by rw [e51, upd2_self]
      have hzz : ySz8 I50 I51 := ySz8_of (upI e51) (by rw [e51]; exact ⟨upd2_ne (.inr (by decide)), upd2_ne (.inr (by decide))⟩)
      have hS0 := hS
      have hR0 := hR1
      have hn := Nat.le_refl n
      have h94 := hS0.1
      have hX := @yX.rf n tg I51 R
      have hS := hS0.x hX
      have hR := hR0.x hn hX
      have hz := hX.sz h94
      have hxn := hX.1
      have hN := hR0.1
      have hnb := hR0.2.2.2.2.2.2
      have hthB := hth
      refine y_aload_n rfl rfl ?_
      refine y_getIv (v := Int32.ofInt (1)) rfl (ySh.t hS rfl) (ySh.n hS rfl) rfl rfl hth ?_
      refine y_if_leF rfl (by decide) ?_
      refine y_iconst rfl ?_
      refine y_goto rfl j_X14_refuse_28 ?_
      refine y_ireturn rfl rfl rfl ?_
      refine y_ret1 ?_
      refine y_ireturn rfl rfl rfl ?_
      refine y_ret1 ?_
      refine y_if_neT rfl j_X14_thing_75 (by decide) ?_
      refine y_iconst rfl ?_
      refine y_ireturn rfl rfl rfl ?_
      exact hQ _ _ _ _ _ _ _ hS ((hR0.grow hX).up (Nat.le_succ K) hk6) (hK.x hRo hno hX) (by omega) (by omega)
end YRN
