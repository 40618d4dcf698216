/-! THE SAME, WHAT IS TOLD AND THE REST -/
section YXM
variable {K nb n : Nat} {tg : Nat → yT} {I : Nat → Nat → Int32} {R : Nat → Nat → Value} {c s : Nat} {Q : yQ}
theorem h_venture (hS0 : ySh n tg R) (hR0 : yRI K n tg I R) (hk6 : K < 600) (hQ1 : (I 91 2).toInt = 6 → ∀ (v : Int32) n1 tg1 I1 R1 c1 s1, ySh n1 tg1 R1 → yRI (K + 1) n1 tg1 I1 R1 → yKp n tg I R n1 tg1 I1 R1 → I1 83 0 = Int32.ofInt 1 → yGm n I1 I → (I1 88 2).toInt = (I 88 2).toInt → (I1 89 2).toInt = (I 89 2).toInt → (I1 90 2).toInt = (I 90 2).toInt → (I1 91 2).toInt = (I 91 2).toInt → (I1 92 2).toInt = (I 92 2).toInt → yLk I R R1 → yRf n I R I1 R1 → c1 ≤ c + 6 → s1 ≤ s + 1360 → Q (.inl (some (.int v))) (n1, tg1, I1, R1) c1 s1) (hQ0 : (I 91 2).toInt < 6 → ∀ (v : Int32) n1 tg1 I1 R1 c1 s1, ySh n1 tg1 R1 → yRI (K + 1) n1 tg1 I1 R1 → yKp n tg I R n1 tg1 I1 R1 → I1 83 0 = Int32.ofInt 0 → v.toInt = (I 91 2).toInt → yGm n I1 I → (I1 88 2).toInt = (I 88 2).toInt → (I1 89 2).toInt = (I 89 2).toInt → (I1 90 2).toInt = (I 90 2).toInt → (I1 91 2).toInt = (I 91 2).toInt + 1 → (I1 92 2).toInt = (I 92 2).toInt → yLk I R R1 → ∀ x, x = yAd R1 91 (I 91 2).toInt.toNat → n ≤ x → (∀ i, i < 4 → ∀ k, I1 (x + 1 + i) k = 0) → y8 I I1 → c1 ≤ c + 6 → s1 ≤ s + 1360 → Q (.inl (some (.int v))) (n1, tg1, I1, R1) c1 s1) : yC 208 [.ref 83] (n, tg, I, R) c s Q := by
  have hno := Nat.le_refl n
  have hn := hno
  have hRo := hR0
  have hK : yKp n tg I R n tg I R := yKp.rf
  have hX : yX n tg I R n tg I R := yX.rf
  have hS := hS0
  have hR := hR0
  have h94 : 94 ≤ n := hS0.1
  have hz : ySz I I := hX.sz h94
  have hxn := hX.1
  have hN := hR0.1
  have hnb : 94 ≤ n := hR0.2.2.2.2.2.2
  have hg : yGm n I I := yGm.rf
  have hday : I 83 1 = I 83 1 := rfl
  have hb83 : ∀ a, a ≠ 83 → a < n → I a = I a := fun _ _ _ => rfl
  have hRb : ∀ a, a < n → R a = R a := fun _ _ => rfl
  have hB : yX n tg I R n tg I R := yX.rf
  have h8 : ∀ a, 84 ≤ a → a ≤ 86 → I a = I a := fun _ _ _ => rfl
  have h3k : ∀ k, k ≠ 0 → I 83 k = I 83 k := fun _ _ => rfl
  refine y_in (M := xm_X14_venture) (ls := [some _]) rfl rfl rfl ?_
  refine y_aload_n rfl rfl ?_
  refine y_aload_n rfl rfl ?_
  refine y_getR rfl (ySh.t hS rfl) (ySh.n hS rfl) rfl rfl (ySh.r hS rfl) ?_
  refine y_virt rfl rfl rfl rfl rfl (ySh.t hS rfl) (ySh.n hS rfl) ?_
  refine y_in (M := xm_Jx4a65c_size_8abf5) (ls := [some _]) rfl rfl rfl ?_
  refine y_aload_n rfl rfl ?_
  refine y_getI rfl (ySh.t hS rfl) (ySh.n hS rfl) rfl rfl ?_
  refine y_ireturn rfl rfl rfl ?_
  refine y_ret1 ?_
  refine y_bip rfl (by decide) ?_
  refine y_icmp_ne rfl j_X14_venture_17 (fun h_1 => ?_) (fun h_2 => ?_)
  · rw [yz_6] at h_1
    refine y_iconst rfl ?_
    refine y_iconst rfl ?_
    refine y_virt rfl rfl rfl rfl rfl (ySh.t hS rfl) (ySh.n hS rfl) ?_
    refine y_in (M := xm_X14_start) (ls := [some _, some _, some _]) rfl rfl rfl ?_
    refine y_aload_n rfl rfl ?_
    refine y_iconst rfl ?_
    refine y_putI rfl (ySh.t hS rfl) (ySh.n hS rfl) rfl (Nat.le_of_ble_eq_true rfl) rfl rfl ?_
    refine y_nameI (fun I3 e3 => ?_)
    have hR1 := (hR0.grow hX).mod0 e3 (by decide) (by decide)
    have hK := (hK.x hRo hno hX).upI (upI e3) (by decide) (by decide) (fun i hi => by have := (hRo.l87.2.2.2.2 i hi).2.1; omega) (by rw [e3, upd2_ne (.inr (by decide))]; exact Int.le_refl _)
    have hth : I3 83 0 = Int32.ofInt (0) := by rw [e3, upd2_self]
    have hzz : ySz8 I I3 := ySz8_of (upI e3) (by rw [e3]; exact ⟨upd2_ne (.inr (by decide)), upd2_ne (.inr (by decide))⟩)
    have hB := (hB.trans hX).wr e3 rfl
    have h8 : ∀ a, 84 ≤ a → a ≤ 86 → I3 a = I a := fun a h1 h2 => (upI e3 a (by omega)).trans ((hX.2.1 a (by omega)).2.1.trans (h8 a h1 h2))
    have h3k : ∀ k, k ≠ 0 → I3 83 k = I 83 k := fun k hk => (congrFun (congrFun e3 83) k).trans ((upd2_ne (.inr hk)).trans ((congrFun (hX.2.1 83 (by omega)).2.1 k).trans (h3k k hk)))
    have hg := (hg.gx hX (by omega)).skip e3 (by decide)
    have hday : I3 83 1 = I 83 1 := (congrFun (congrFun e3 83) 1).trans ((upd2_ne (.inr (by decide))).trans ((congrFun (hX.2.1 83 (by omega)).2.1 1).trans hday))
    have hRb : ∀ a, a < n → R a = R a := fun a ha => (hX.2.1 a (by omega)).2.2.trans (hRb a ha)
    have hb83 : ∀ a, a ≠ 83 → a < n → I3 a = I a := fun a ha hb => (upI e3 a ha).trans ((hX.2.1 a (by omega)).2.1.trans (hb83 a ha hb))
    have hS0 := hS
    have hR0 := hR1
    have hn := Nat.le_refl n
    have h94 := hS0.1
    have hX := @yX.rf n tg I3 R
    have hS := hS0.x hX
    have hR := hR0.x hn hX
    have hz := hX.sz h94
    have hxn := hX.1
    have hN := hR0.1
    have hnb := hR0.2.2.2.2.2.2
    have hthB := hth
    refine y_aload_n rfl rfl ?_
    refine y_iload_n rfl rfl ?_
    refine y_iload_n rfl rfl ?_
    refine y_virt rfl rfl rfl rfl rfl (ySh.t hS rfl) (ySh.n hS rfl) ?_
    refine y_in (M := xm_X14_refuse) (ls := [some _, some _, some _]) rfl rfl rfl ?_
    refine y_iload_n rfl rfl ?_
    refine y_if_eqT rfl j_X14_refuse_16 (by decide) ?_
    refine y_aload_n rfl rfl ?_
    refine y_getIv (v := Int32.ofInt (0)) rfl (ySh.t hS rfl) (ySh.n hS rfl) rfl rfl hth ?_
    refine y_if_leT rfl j_X14_refuse_27 (by decide) ?_
    refine y_iconst rfl ?_
    refine y_ireturn rfl rfl rfl ?_
    refine y_ret1 ?_
    refine y_ireturn rfl rfl rfl ?_
    refine y_ret1 ?_
    refine y_if_eqT rfl j_X14_venture_27 (by decide) ?_
    refine y_aload_n rfl rfl ?_
    refine y_getR rfl (ySh.t hS rfl) (ySh.n hS rfl) rfl rfl (ySh.r hS rfl) ?_
    refine y_newX rfl rfl rfl (fun n4 tg4 I4 R4 hA => ?_)
    have hnA := hA.1
    have hnw := yNw.al hX hA
    have ht_f5 : tg4 n = (21, 0) := hA.2.1
    have ha_f5 : n < n4 := by omega
    have hX := hX.y.trans hA.y
    have hS := hS0.y hX
    have hR := hR0.y hn hX
    have hz := hX.sz h94
    have hxn := hX.1
    have hth := (congrFun (hA.2.2.2.2 83 (by omega)).2.1 0).trans hth
    refine y_dup rfl rfl ?_
    refine y_init rfl rfl rfl rfl rfl ?_
    refine y_in (M := xm_X13_init) (ls := [some _]) rfl rfl rfl ?_
    refine y_aload_n rfl rfl ?_
    refine y_obj rfl ha_f5 rfl ?_
    refine y_aload_n rfl rfl ?_
    refine y_bip rfl (by decide) ?_
    refine y_newarrL (m := 9) rfl rfl (by decide) (by decide) rfl (fun n6 tg6 I6 R6 hA => ?_)
    have hnA := hA.1
    have ht_f5 := ((hA.x rfl).2.1 _ ha_f5).1.trans ht_f5
    have ha_f5 : n < n6 := by omega
    have ht_f7 : tg6 n4 = (1, 9) := hA.2.1
    have ha_f7 : n4 < n6 := by omega
    have hz_f7 : ∀ k, I6 n4 k = 0 := hA.2.2.1
    have hrx_7 : R6 n = R4 n := (hA.2.2.2.2 _ (by omega)).2.2
    have hnw := hnw.x (hA.x rfl)
    have hX := hX.trans (hA.x rfl).y
    have hS := hS0.y hX
    have hR := hR0.y hn hX
    have hz := hX.sz h94
    have hxn := hX.1
    have hth := (congrFun ((hA.x rfl).2.1 83 (by omega)).2.1 0).trans hth
    refine y_putR rfl ht_f5 ha_f5 rfl (Nat.le_trans (by decide) (by omega : 94 ≤ _)) rfl rfl ?_
    refine y_nameR (fun R8 e8 => ?_)
    have hX := hX.upR (by omega) (upR e8)
    have hS := hS0.y hX
    have hR := hR0.y hn hX
    have hz := hX.sz h94
    have hxn := hX.1
    refine y_aload_n rfl rfl ?_
    refine y_bip rfl (by decide) ?_
    refine y_newarrL (m := 9) rfl rfl (by decide) (by decide) rfl (fun n9 tg9 I9 R9 hA => ?_)
    have hnA := hA.1
    have ht_f5 := ((hA.x rfl).2.1 _ ha_f5).1.trans ht_f5
    have ha_f5 : n < n9 := by omega
    have hz_f7 : ∀ k, I9 n4 k = 0 := fun k => by rw [((hA.x rfl).2.1 _ ha_f7).2.1]; exact hz_f7 k
    have ht_f7 := ((hA.x rfl).2.1 _ ha_f7).1.trans ht_f7
    have ha_f7 : n4 < n9 := by omega
    have ht_f10 : tg9 n6 = (0, 9) := hA.2.1
    have ha_f10 : n6 < n9 := by omega
    have hz_f10 : ∀ k, I9 n6 k = 0 := hA.2.2.1
    have hrx_10 : R9 n = R8 n := (hA.2.2.2.2 _ (by omega)).2.2
    have hnw := hnw.x (hA.x rfl)
    have hX := hX.trans (hA.x rfl).y
    have hS := hS0.y hX
    have hR := hR0.y hn hX
    have hz := hX.sz h94
    have hxn := hX.1
    have hth := (congrFun ((hA.x rfl).2.1 83 (by omega)).2.1 0).trans hth
    refine y_putR rfl ht_f5 ha_f5 rfl (Nat.le_trans (by decide) (by omega : 94 ≤ _)) rfl rfl ?_
    refine y_nameR (fun R11 e11 => ?_)
    have hX := hX.upR (by omega) (upR e11)
    have hS := hS0.y hX
    have hR := hR0.y hn hX
    have hz := hX.sz h94
    have hxn := hX.1
    refine y_aload_n rfl rfl ?_
    refine y_bip rfl (by decide) ?_
    refine y_newarrL (m := 9) rfl rfl (by decide) (by decide) rfl (fun n12 tg12 I12 R12 hA => ?_)
    have hnA := hA.1
    have ht_f5 := ((hA.x rfl).2.1 _ ha_f5).1.trans ht_f5
    have ha_f5 : n < n12 := by omega
    have hz_f7 : ∀ k, I12 n4 k = 0 := fun k => by rw [((hA.x rfl).2.1 _ ha_f7).2.1]; exact hz_f7 k
    have ht_f7 := ((hA.x rfl).2.1 _ ha_f7).1.trans ht_f7
    have ha_f7 : n4 < n12 := by omega
    have hz_f10 : ∀ k, I12 n6 k = 0 := fun k => by rw [((hA.x rfl).2.1 _ ha_f10).2.1]; exact hz_f10 k
    have ht_f10 := ((hA.x rfl).2.1 _ ha_f10).1.trans ht_f10
    have ha_f10 : n6 < n12 := by omega
    have ht_f13 : tg12 n9 = (0, 9) := hA.2.1
    have ha_f13 : n9 < n12 := by omega
    have hz_f13 : ∀ k, I12 n9 k = 0 := hA.2.2.1
    have hrx_13 : R12 n = R11 n := (hA.2.2.2.2 _ (by omega)).2.2
    have hnw := hnw.x (hA.x rfl)
    have hX := hX.trans (hA.x rfl).y
    have hS := hS0.y hX
    have hR := hR0.y hn hX
    have hz := hX.sz h94
    have hxn := hX.1
    have hth := (congrFun ((hA.x rfl).2.1 83 (by omega)).2.1 0).trans hth
    refine y_putR rfl ht_f5 ha_f5 rfl (Nat.le_trans (by decide) (by omega : 94 ≤ _)) rfl rfl ?_
    refine y_nameR (fun R14 e14 => ?_)
    have hX := hX.upR (by omega) (upR e14)
    have hS := hS0.y hX
    have hR := hR0.y hn hX
    have hz := hX.sz h94
    have hxn := hX.1
    refine y_aload_n rfl rfl ?_
    refine y_bip rfl (by decide) ?_
    refine y_newarrL (m := 9) rfl rfl (by decide) (by decide) rfl (fun n15 tg15 I15 R15 hA => ?_)
    have hnA := hA.1
    have ht_f5 := ((hA.x rfl).2.1 _ ha_f5).1.trans ht_f5
    have ha_f5 : n < n15 := by omega
    have hz_f7 : ∀ k, I15 n4 k = 0 := fun k => by rw [((hA.x rfl).2.1 _ ha_f7).2.1]; exact hz_f7 k
    have ht_f7 := ((hA.x rfl).2.1 _ ha_f7).1.trans ht_f7
    have ha_f7 : n4 < n15 := by omega
    have hz_f10 : ∀ k, I15 n6 k = 0 := fun k => by rw [((hA.x rfl).2.1 _ ha_f10).2.1]; exact hz_f10 k
    have ht_f10 := ((hA.x rfl).2.1 _ ha_f10).1.trans ht_f10
    have ha_f10 : n6 < n15 := by omega
    have hz_f13 : ∀ k, I15 n9 k = 0 := fun k => by rw [((hA.x rfl).2.1 _ ha_f13).2.1]; exact hz_f13 k
    have ht_f13 := ((hA.x rfl).2.1 _ ha_f13).1.trans ht_f13
    have ha_f13 : n9 < n15 := by omega
    have ht_f16 : tg15 n12 = (0, 9) := hA.2.1
    have ha_f16 : n12 < n15 := by omega
    have hz_f16 : ∀ k, I15 n12 k = 0 := hA.2.2.1
    have hrx_16 : R15 n = R14 n := (hA.2.2.2.2 _ (by omega)).2.2
    have hnw := hnw.x (hA.x rfl)
    have hX := hX.trans (hA.x rfl).y
    have hS := hS0.y hX
    have hR := hR0.y hn hX
    have hz := hX.sz h94
    have hxn := hX.1
    have hth := (congrFun ((hA.x rfl).2.1 83 (by omega)).2.1 0).trans hth
    refine y_putR rfl ht_f5 ha_f5 rfl (Nat.le_trans (by decide) (by omega : 94 ≤ _)) rfl rfl ?_
    refine y_nameR (fun R17 e17 => ?_)
    have hX := hX.upR (by omega) (upR e17)
    have hS := hS0.y hX
    have hR := hR0.y hn hX
    have hz := hX.sz h94
    have hxn := hX.1
    refine y_return rfl ?_
    refine y_ret0 ?_
    refine y_virt rfl rfl rfl rfl rfl (ySh.t hS rfl) (ySh.n hS rfl) ?_
    refine l_add hS (by decide) (by decide) (ySh.t hS rfl) (Nat.le_trans hn hX.1) hR.l91 (by omega) (by omega) ha_f5 (fun n18 tg18 I18 R18 c_18 s_18 hAd hc_18 hs_18 => ?_)
    have hsA := hAd.sz
    have hsz87 := congrArg Int32.toInt (congrFun (hAd.I 87 (by omega) (by decide)) 2)
    have hsz88 := congrArg Int32.toInt (congrFun (hAd.I 88 (by omega) (by decide)) 2)
    have hsz89 := congrArg Int32.toInt (congrFun (hAd.I 89 (by omega) (by decide)) 2)
    have hsz90 := congrArg Int32.toInt (congrFun (hAd.I 90 (by omega) (by decide)) 2)
    have hsz92 := congrArg Int32.toInt (congrFun (hAd.I 92 (by omega) (by decide)) 2)
    have hszp := congrArg Int32.toInt (congrFun (hAd.I 83 (by omega) (by decide)) 8)
    have hLk0 := yAdd.lk hR (Nat.le_trans hn hX.1) hAd (by decide) (by decide)
    have hcs : ∀ l', 87 ≤ l' → l' ≤ 92 → (I15 l' 2).toInt = (I l' 2).toInt := fun l' h1 h2 => by rw [(hX.2.1 l' (by omega)).2.1, hb83 l' (by omega) (by omega)]
    have hLk : yLk I R R18 := fun l' h1 h2 i hi => (hLk0.1 l' h1 h2 i (by rw [hcs l' h1 h2]; exact hi)).trans (yAd_eq ((hX.2.1 l' (by omega)).2.2.trans (hRb l' (by omega))) ((hX.2.1 _ (by have := hRo.lt6 l' h1 h2; omega)).2.2.trans (hRb _ (hRo.lt6 l' h1 h2))))
    have hAx : yAd R18 91 (I 91 2).toInt.toNat = n := by rw [← hcs 91 (by decide) (by decide)]; exact hLk0.2
    have hno_x : n ≤ n := by omega
    have hg := (hg.y hX (by omega)).add hAd (by omega) (by decide)
    have h8 : ∀ a, 84 ≤ a → a ≤ 86 → I18 a = I a := fun a h1 h2 => (hAd.I a (by omega) (by omega)).trans ((hX.2.1 a (by omega)).2.1.trans (h8 a h1 h2))
    have h3k : ∀ k, k ≠ 0 → I18 83 k = I 83 k := fun k hk => (congrFun (hAd.I 83 (by omega) (by decide)) k).trans ((congrFun (hX.2.1 83 (by omega)).2.1 k).trans (h3k k hk))
    have hday := (congrFun (hAd.I 83 (by omega) (by decide)) 1).trans ((congrFun (hX.2.1 83 (by omega)).2.1 1).trans hday)
    have hvz : ∀ i, i < 4 → ∀ k, I18 (n + 1 + i) k = 0 := fun i hi k => by
      rw [hAd.I _ (by omega) (by omega)]
      rcases (by omega : i = 0 ∨ i = 1 ∨ i = 2 ∨ i = 3) with rfl | rfl | rfl | rfl
      · rw [show n + 1 + 0 = n4 by omega]; exact hz_f7 k
      · rw [show n + 1 + 1 = n6 by omega]; exact hz_f10 k
      · rw [show n + 1 + 2 = n9 by omega]; exact hz_f13 k
      · rw [show n + 1 + 3 = n12 by omega]; exact hz_f16 k
    have hnA := hAd.n
    have hNu : yNum K I18 := yNum.add (K := K) hR.1 hAd (by omega) (by decide) (by decide) (Nat.le_refl K) (by omega) (fun h => by omega) (fun h => by omega) (fun h => by omega) (fun h => by omega) (fun h => by omega) (fun h => by omega)
    have hw0 : n4 = n + 0 + 1 := by omega
    have hw1 : n6 = n + 1 + 1 := by omega
    have hw2 : n9 = n + 2 + 1 := by omega
    have hw3 : n12 = n + 3 + 1 := by omega
    have hRx : R18 n = R17 n := hAd.R _ (by omega) (by omega) (.inl (by have := hR.li; omega))
    have hzc : ∀ j, (I18 (n + 2) j).toInt = 0 := fun j => by rw [show n + 2 = n6 by omega, hAd.I _ ha_f10 (by omega), hz_f10]; decide
    have htx : tg18 n = (21, 0) := (hAd.tg _ ha_f5).trans ht_f5
    have hOb : yOb K n18 tg18 I18 R18 n := by
      refine ⟨fun hq => absurd (show (21 : Nat) = 20 from congrArg Prod.fst (htx.symm.trans hq)) (by decide), fun hq => absurd (show (21 : Nat) = 19 from congrArg Prod.fst (htx.symm.trans hq)) (by decide), fun hq => absurd (show (21 : Nat) = 18 from congrArg Prod.fst (htx.symm.trans hq)) (by decide), fun _ => ⟨by omega, fun j hj => ?_, (by rw [show n + 1 = n4 by omega, hAd.tg _ ha_f7]; exact ht_f7), (by rw [show n + 2 = n6 by omega, hAd.tg _ ha_f10]; exact ht_f10), (by rw [show n + 3 = n9 by omega, hAd.tg _ ha_f13]; exact ht_f13), (by rw [show n + 4 = n12 by omega, hAd.tg _ ha_f16]; exact ht_f16), fun j _ => by rw [hzc j]; decide, ?_⟩⟩
      · exact match j, hj with
          | 0, _ => (by rw [hRx]; simp only [hrx_16, hrx_13, hrx_10, hrx_7, e17, e14, e11, e8, upd2]; first | (simp; exact hw0) | (simp; omega) | simp)
          | 1, _ => (by rw [hRx]; simp only [hrx_16, hrx_13, hrx_10, hrx_7, e17, e14, e11, e8, upd2]; first | (simp; exact hw1) | (simp; omega) | simp)
          | 2, _ => (by rw [hRx]; simp only [hrx_16, hrx_13, hrx_10, hrx_7, e17, e14, e11, e8, upd2]; first | (simp; exact hw2) | (simp; omega) | simp)
          | 3, _ => (by rw [hRx]; simp only [hrx_16, hrx_13, hrx_10, hrx_7, e17, e14, e11, e8, upd2]; first | (simp; exact hw3) | (simp; omega) | simp)
      · rw [ySum_eq (g := fun _ => 0) (fun j _ => hzc j)]
        exact Int.le_trans (by decide : ySum (fun _ => 0) 9 ≤ 0) (by omega)
    have hR1 : yRI K n18 tg18 I18 R18 := yRI.add hR (Nat.le_trans hn hX.1) hAd (by decide) (by decide) rfl (by omega) ha_f5 ht_f5 hnw (Nat.le_refl K) hNu hOb (fun h => absurd h (by decide)) (fun h => absurd h (by decide))
    have hK := (hK.y hRo hno hX).add hRo hno hR.di hAd (by decide) (by decide) (hR.zl 91 (by decide) (by decide))
    have hS := hS.add hAd (by decide) (by decide) (hR.zl 91 (by decide) (by decide))
    have hth := (congrFun (hAd.I 83 (by omega) (by decide)) 0).trans hth
    have ht_f5 := (hAd.tg _ ha_f5).trans ht_f5
    have ha_f5 := Nat.lt_of_lt_of_le ha_f5 hAd.n
    have hS0 := hS
    have hR0 := hR1
    have hn := Nat.le_refl n18
    have h94 := hS0.1
    have hX := @yX.rf n18 tg18 I18 R18
    have hS := hS0.x hX
    have hR := hR0.x hn hX
    have hz := hX.sz h94
    have hxn := hX.1
    have hN := hR0.1
    have hnb := hR0.2.2.2.2.2.2
    have hthB := hth
    refine y_ret1 ?_
    refine y_pop rfl rfl ?_
    refine y_aload_n rfl rfl ?_
    refine y_getR rfl (ySh.t hS rfl) (ySh.n hS rfl) rfl rfl (ySh.r hS rfl) ?_
    refine y_virt rfl rfl rfl rfl rfl (ySh.t hS rfl) (ySh.n hS rfl) ?_
    refine y_in (M := xm_Jx4a65c_size_8abf5) (ls := [some _]) rfl rfl rfl ?_
    refine y_aload_n rfl rfl ?_
    refine y_getI rfl (ySh.t hS rfl) (ySh.n hS rfl) rfl rfl ?_
    refine y_ireturn rfl rfl rfl ?_
    refine y_ret1 ?_
    refine y_iconst rfl ?_
    refine y_isub rfl ?_
    refine y_ireturn rfl rfl rfl ?_
    exact hQ0 (by omega) _ _ _ _ _ _ _ hS ((hR0.grow hX).up (Nat.le_succ K) hk6) (hK.x hRo hno hX) hth (by first | omega | (rw [ysub (by rw [yz_1]; omega) (by rw [yz_1]; omega), yz_1]; omega)) (hg.gx hX (by omega)) (by omega) (by omega) (by omega) (by omega) (by omega) hLk _ hAx.symm hno_x hvz ⟨fun a_ h1_ h2_ => (hX.2.1 a_ (by omega)).2.1.trans (h8 a_ h1_ h2_), fun k_ hk_ => (congrFun (hX.2.1 83 (by omega)).2.1 k_).trans (h3k k_ hk_)⟩ (by omega) (by omega)
  · rw [yz_6] at h_2
    refine y_iconst rfl ?_
    refine y_goto rfl j_X14_venture_18 ?_
    refine y_iconst rfl ?_
    refine y_virt rfl rfl rfl rfl rfl (ySh.t hS rfl) (ySh.n hS rfl) ?_
    refine y_in (M := xm_X14_start) (ls := [some _, some _, some _]) rfl rfl rfl ?_
    refine y_aload_n rfl rfl ?_
    refine y_iconst rfl ?_
    refine y_putI rfl (ySh.t hS rfl) (ySh.n hS rfl) rfl (Nat.le_of_ble_eq_true rfl) rfl rfl ?_
    refine y_nameI (fun I19 e19 => ?_)
    have hR1 := (hR0.grow hX).mod0 e19 (by decide) (by decide)
    have hK := (hK.x hRo hno hX).upI (upI e19) (by decide) (by decide) (fun i hi => by have := (hRo.l87.2.2.2.2 i hi).2.1; omega) (by rw [e19, upd2_ne (.inr (by decide))]; exact Int.le_refl _)
    have hth : I19 83 0 = Int32.ofInt (0) := by rw [e19, upd2_self]
    have hzz : ySz8 I I19 := ySz8_of (upI e19) (by rw [e19]; exact ⟨upd2_ne (.inr (by decide)), upd2_ne (.inr (by decide))⟩)
    have hB := (hB.trans hX).wr e19 rfl
    have h8 : ∀ a, 84 ≤ a → a ≤ 86 → I19 a = I a := fun a h1 h2 => (upI e19 a (by omega)).trans ((hX.2.1 a (by omega)).2.1.trans (h8 a h1 h2))
    have h3k : ∀ k, k ≠ 0 → I19 83 k = I 83 k := fun k hk => (congrFun (congrFun e19 83) k).trans ((upd2_ne (.inr hk)).trans ((congrFun (hX.2.1 83 (by omega)).2.1 k).trans (h3k k hk)))
    have hg := (hg.gx hX (by omega)).skip e19 (by decide)
    have hday : I19 83 1 = I 83 1 := (congrFun (congrFun e19 83) 1).trans ((upd2_ne (.inr (by decide))).trans ((congrFun (hX.2.1 83 (by omega)).2.1 1).trans hday))
    have hRb : ∀ a, a < n → R a = R a := fun a ha => (hX.2.1 a (by omega)).2.2.trans (hRb a ha)
    have hb83 : ∀ a, a ≠ 83 → a < n → I19 a = I a := fun a ha hb => (upI e19 a ha).trans ((hX.2.1 a (by omega)).2.1.trans (hb83 a ha hb))
    have hS0 := hS
    have hR0 := hR1
    have hn := Nat.le_refl n
    have h94 := hS0.1
    have hX := @yX.rf n tg I19 R
    have hS := hS0.x hX
    have hR := hR0.x hn hX
    have hz := hX.sz h94
    have hxn := hX.1
    have hN := hR0.1
    have hnb := hR0.2.2.2.2.2.2
    have hthB := hth
    refine y_aload_n rfl rfl ?_
    refine y_iload_n rfl rfl ?_
    refine y_iload_n rfl rfl ?_
    refine y_virt rfl rfl rfl rfl rfl (ySh.t hS rfl) (ySh.n hS rfl) ?_
    refine y_in (M := xm_X14_refuse) (ls := [some _, some _, some _]) rfl rfl rfl ?_
    refine y_iload_n rfl rfl ?_
    refine y_if_eqF rfl (by decide) ?_
    refine y_aload_n rfl rfl ?_
    refine y_getIv (v := Int32.ofInt (0)) rfl (ySh.t hS rfl) (ySh.n hS rfl) rfl rfl hth ?_
    refine y_if_neF rfl (by decide) ?_
    refine y_aload_n rfl rfl ?_
    refine y_iload_n rfl rfl ?_
    refine y_putI rfl (ySh.t hS rfl) (ySh.n hS rfl) rfl (Nat.le_of_ble_eq_true rfl) rfl rfl ?_
    refine y_nameI (fun I20 e20 => ?_)
    have hR1 := (hR0.grow hX).mod0 e20 (by decide) (by decide)
    have hK := (hK.x hRo hno hX).upI (upI e20) (by decide) (by decide) (fun i hi => by have := (hRo.l87.2.2.2.2 i hi).2.1; omega) (by rw [e20, upd2_ne (.inr (by decide))]; exact Int.le_refl _)
    have hth : I20 83 0 = Int32.ofInt (1) := by rw [e20, upd2_self]
    have hzz : ySz8 I19 I20 := ySz8_of (upI e20) (by rw [e20]; exact ⟨upd2_ne (.inr (by decide)), upd2_ne (.inr (by decide))⟩)
    have hB := (hB.trans hX).wr e20 rfl
    have h8 : ∀ a, 84 ≤ a → a ≤ 86 → I20 a = I a := fun a h1 h2 => (upI e20 a (by omega)).trans ((hX.2.1 a (by omega)).2.1.trans (h8 a h1 h2))
    have h3k : ∀ k, k ≠ 0 → I20 83 k = I 83 k := fun k hk => (congrFun (congrFun e20 83) k).trans ((upd2_ne (.inr hk)).trans ((congrFun (hX.2.1 83 (by omega)).2.1 k).trans (h3k k hk)))
    have hg := (hg.gx hX (by omega)).skip e20 (by decide)
    have hday : I20 83 1 = I 83 1 := (congrFun (congrFun e20 83) 1).trans ((upd2_ne (.inr (by decide))).trans ((congrFun (hX.2.1 83 (by omega)).2.1 1).trans hday))
    have hRb : ∀ a, a < n → R a = R a := fun a ha => (hX.2.1 a (by omega)).2.2.trans (hRb a ha)
    have hb83 : ∀ a, a ≠ 83 → a < n → I20 a = I a := fun a ha hb => (upI e20 a ha).trans ((hX.2.1 a (by omega)).2.1.trans (hb83 a ha hb))
    have hS0 := hS
    have hR0 := hR1
    have hn := Nat.le_refl n
    have h94 := hS0.1
    have hX := @yX.rf n tg I20 R
    have hS := hS0.x hX
    have hR := hR0.x hn hX
    have hz := hX.sz h94
    have hxn := hX.1
    have hN := hR0.1
    have hnb := hR0.2.2.2.2.2.2
    have hthB := hth
    refine y_aload_n rfl rfl ?_
    refine y_getIv (v := Int32.ofInt (1)) rfl (ySh.t hS rfl) (ySh.n hS rfl) rfl rfl hth ?_
    refine y_if_leF rfl (by decide) ?_
    refine y_iconst rfl ?_
    refine y_goto rfl j_X14_refuse_28 ?_
    refine y_ireturn rfl rfl rfl ?_
    refine y_ret1 ?_
    refine y_ireturn rfl rfl rfl ?_
    refine y_ret1 ?_
    refine y_if_eqF rfl (by decide) ?_
    refine y_iconst rfl ?_
    refine y_ireturn rfl rfl rfl ?_
    exact hQ1 (by omega) _ _ _ _ _ _ _ hS ((hR0.grow hX).up (Nat.le_succ K) hk6) (hK.x hRo hno hX) hth (hg.gx hX (by omega)) (by omega) (by omega) (by omega) (by omega) (by omega) (fun l_ h1_ h2_ i_ _ => yAd_eq ((hX.2.1 l_ (by omega)).2.2.trans (hRb l_ (by omega))) ((hX.2.1 _ (by have := hRo.lt6 l_ h1_ h2_; omega)).2.2.trans (hRb _ (hRo.lt6 l_ h1_ h2_)))) ((hB.trans hX).rf2 (by omega)) (by omega) (by omega)
theorem h_firm (hS0 : ySh n tg R) (hR0 : yRI K n tg I R) (hk6 : K < 600) {x1 x2 x3 x4 x5 x6 : Int32} (hQ1 : ¬ ((1 ≤ x1.toInt ∧ x1.toInt ≤ 999) ∧ (0 ≤ x2.toInt ∧ x2.toInt ≤ 999) ∧ (0 ≤ x3.toInt ∧ x3.toInt ≤ 999) ∧ (0 ≤ x4.toInt ∧ x4.toInt ≤ 999) ∧ (1 ≤ x5.toInt ∧ x5.toInt ≤ 99) ∧ (0 ≤ x6.toInt ∧ x6.toInt ≤ 99)) → ∀ (v : Int32) n1 tg1 I1 R1 c1 s1, ySh n1 tg1 R1 → yRI (K + 1) n1 tg1 I1 R1 → yKp n tg I R n1 tg1 I1 R1 → I1 83 0 = Int32.ofInt 1 → yGm n I1 I → (I1 88 2).toInt = (I 88 2).toInt → (I1 89 2).toInt = (I 89 2).toInt → (I1 90 2).toInt = (I 90 2).toInt → (I1 91 2).toInt = (I 91 2).toInt → (I1 92 2).toInt = (I 92 2).toInt → yLk I R R1 → yRf n I R I1 R1 → c1 ≤ c + 2 → s1 ≤ s + 1310 → Q (.inl (some (.int v))) (n1, tg1, I1, R1) c1 s1) (hQ2 : ((1 ≤ x1.toInt ∧ x1.toInt ≤ 999) ∧ (0 ≤ x2.toInt ∧ x2.toInt ≤ 999) ∧ (0 ≤ x3.toInt ∧ x3.toInt ≤ 999) ∧ (0 ≤ x4.toInt ∧ x4.toInt ≤ 999) ∧ (1 ≤ x5.toInt ∧ x5.toInt ≤ 99) ∧ (0 ≤ x6.toInt ∧ x6.toInt ≤ 99)) ∧ (I 92 2).toInt = 10 → ∀ (v : Int32) n1 tg1 I1 R1 c1 s1, ySh n1 tg1 R1 → yRI (K + 1) n1 tg1 I1 R1 → yKp n tg I R n1 tg1 I1 R1 → I1 83 0 = Int32.ofInt 2 → yGm n I1 I → (I1 88 2).toInt = (I 88 2).toInt → (I1 89 2).toInt = (I 89 2).toInt → (I1 90 2).toInt = (I 90 2).toInt → (I1 91 2).toInt = (I 91 2).toInt → (I1 92 2).toInt = (I 92 2).toInt → yLk I R R1 → yRf n I R I1 R1 → c1 ≤ c + 2 → s1 ≤ s + 1310 → Q (.inl (some (.int v))) (n1, tg1, I1, R1) c1 s1) (hQ0 : ((1 ≤ x1.toInt ∧ x1.toInt ≤ 999) ∧ (0 ≤ x2.toInt ∧ x2.toInt ≤ 999) ∧ (0 ≤ x3.toInt ∧ x3.toInt ≤ 999) ∧ (0 ≤ x4.toInt ∧ x4.toInt ≤ 999) ∧ (1 ≤ x5.toInt ∧ x5.toInt ≤ 99) ∧ (0 ≤ x6.toInt ∧ x6.toInt ≤ 99)) ∧ (I 92 2).toInt < 10 → ∀ (v : Int32) n1 tg1 I1 R1 c1 s1, ySh n1 tg1 R1 → yRI (K + 1) n1 tg1 I1 R1 → yKp n tg I R n1 tg1 I1 R1 → I1 83 0 = Int32.ofInt 0 → v.toInt = (I 92 2).toInt → yGm n I1 I → (I1 88 2).toInt = (I 88 2).toInt → (I1 89 2).toInt = (I 89 2).toInt → (I1 90 2).toInt = (I 90 2).toInt → (I1 91 2).toInt = (I 91 2).toInt → (I1 92 2).toInt = (I 92 2).toInt + 1 → yLk I R R1 → ∀ x, x = yAd R1 92 (I 92 2).toInt.toNat → n ≤ x → I1 x 0 = x1 → I1 x 1 = x2 → I1 x 2 = x3 → I1 x 3 = x4 → I1 x 4 = x5 → I1 x 5 = x6 → I1 x 6 = (Int32.ofInt 0) → y8 I I1 → c1 ≤ c + 2 → s1 ≤ s + 1310 → Q (.inl (some (.int v))) (n1, tg1, I1, R1) c1 s1) : yC 219 [.ref 83, .int x1, .int x2, .int x3, .int x4, .int x5, .int x6] (n, tg, I, R) c s Q := by
  have hno := Nat.le_refl n
  have hn := hno
  have hRo := hR0
  have hK : yKp n tg I R n tg I R := yKp.rf
  have hX : yX n tg I R n tg I R := yX.rf
  have hS := hS0
  have hR := hR0
  have h94 : 94 ≤ n := hS0.1
  have hz : ySz I I := hX.sz h94
  have hxn := hX.1
  have hN := hR0.1
  have hnb : 94 ≤ n := hR0.2.2.2.2.2.2
  have hg : yGm n I I := yGm.rf
  have hday : I 83 1 = I 83 1 := rfl
  have hb83 : ∀ a, a ≠ 83 → a < n → I a = I a := fun _ _ _ => rfl
  have hRb : ∀ a, a < n → R a = R a := fun _ _ => rfl
  have hB : yX n tg I R n tg I R := yX.rf
  have h8 : ∀ a, 84 ≤ a → a ≤ 86 → I a = I a := fun _ _ _ => rfl
  have h3k : ∀ k, k ≠ 0 → I 83 k = I 83 k := fun _ _ => rfl
  refine y_in (M := xm_X14_firm) (ls := [some _, some _, some _, some _, some _, some _, some _]) rfl rfl rfl ?_
  refine y_aload_n rfl rfl ?_
  refine y_iload_n rfl rfl ?_
  refine y_iconst rfl ?_
  refine y_sip rfl (by decide) ?_
  refine y_static rfl rfl rfl rfl rfl ?_
  refine r_isIn (fun h_1 h_2 => ?_) (fun h_3 => ?_)
  · rw [yz_1] at h_1
    rw [yz_999] at h_2
    refine y_ret1 ?_
    refine y_if_eqF rfl (by decide) ?_
    refine y_iload_n rfl rfl ?_
    refine y_iconst rfl ?_
    refine y_sip rfl (by decide) ?_
    refine y_static rfl rfl rfl rfl rfl ?_
    refine r_isIn (fun h_4 h_5 => ?_) (fun h_6 => ?_)
    · rw [yz_0] at h_4
      rw [yz_999] at h_5
      refine y_ret1 ?_
      refine y_if_eqF rfl (by decide) ?_
      refine y_iload_n rfl rfl ?_
      refine y_iconst rfl ?_
      refine y_sip rfl (by decide) ?_
      refine y_static rfl rfl rfl rfl rfl ?_
      refine r_isIn (fun h_7 h_8 => ?_) (fun h_9 => ?_)
      · rw [yz_0] at h_7
        rw [yz_999] at h_8
        refine y_ret1 ?_
        refine y_if_eqF rfl (by decide) ?_
        refine y_iload rfl rfl ?_
        refine y_iconst rfl ?_
        refine y_sip rfl (by decide) ?_
        refine y_static rfl rfl rfl rfl rfl ?_
        refine r_isIn (fun h_10 h_11 => ?_) (fun h_12 => ?_)
        · rw [yz_0] at h_10
          rw [yz_999] at h_11
          refine y_ret1 ?_
          refine y_if_eqF rfl (by decide) ?_
          refine y_iload rfl rfl ?_
          refine y_iconst rfl ?_
          refine y_bip rfl (by decide) ?_
          refine y_static rfl rfl rfl rfl rfl ?_
          refine r_isIn (fun h_13 h_14 => ?_) (fun h_15 => ?_)
          · rw [yz_1] at h_13
            rw [yz_99] at h_14
            refine y_ret1 ?_
            refine y_if_eqF rfl (by decide) ?_
            refine y_iload rfl rfl ?_
            refine y_iconst rfl ?_
            refine y_bip rfl (by decide) ?_
            refine y_static rfl rfl rfl rfl rfl ?_
            refine r_isIn (fun h_16 h_17 => ?_) (fun h_18 => ?_)
            · rw [yz_0] at h_16
              rw [yz_99] at h_17
              refine y_ret1 ?_
              refine y_if_neT rfl j_X14_firm_72 (by decide) ?_
              refine y_iconst rfl ?_
              refine y_iconst rfl ?_
              refine y_virt rfl rfl rfl rfl rfl (ySh.t hS rfl) (ySh.n hS rfl) ?_
              refine y_in (M := xm_X14_start) (ls := [some _, some _, some _]) rfl rfl rfl ?_
              refine y_aload_n rfl rfl ?_
              refine y_iconst rfl ?_
              refine y_putI rfl (ySh.t hS rfl) (ySh.n hS rfl) rfl (Nat.le_of_ble_eq_true rfl) rfl rfl ?_
              refine y_nameI (fun I19 e19 => ?_)
              have hR1 := (hR0.grow hX).mod0 e19 (by decide) (by decide)
              have hK := (hK.x hRo hno hX).upI (upI e19) (by decide) (by decide) (fun i hi => by have := (hRo.l87.2.2.2.2 i hi).2.1; omega) (by rw [e19, upd2_ne (.inr (by decide))]; exact Int.le_refl _)
              have hth : I19 83 0 = Int32.ofInt (0) := by rw [e19, upd2_self]
              have hzz : ySz8 I I19 := ySz8_of (upI e19) (by rw [e19]; exact ⟨upd2_ne (.inr (by decide)), upd2_ne (.inr (by decide))⟩)
              have hB := (hB.trans hX).wr e19 rfl
              have h8 : ∀ a, 84 ≤ a → a ≤ 86 → I19 a = I a := fun a h1 h2 => (upI e19 a (by omega)).trans ((hX.2.1 a (by omega)).2.1.trans (h8 a h1 h2))
              have h3k : ∀ k, k ≠ 0 → I19 83 k = I 83 k := fun k hk => (congrFun (congrFun e19 83) k).trans ((upd2_ne (.inr hk)).trans ((congrFun (hX.2.1 83 (by omega)).2.1 k).trans (h3k k hk)))
              have hg := (hg.gx hX (by omega)).skip e19 (by decide)
              have hday : I19 83 1 = I 83 1 := (congrFun (congrFun e19 83) 1).trans ((upd2_ne (.inr (by decide))).trans ((congrFun (hX.2.1 83 (by omega)).2.1 1).trans hday))
              have hRb : ∀ a, a < n → R a = R a := fun a ha => (hX.2.1 a (by omega)).2.2.trans (hRb a ha)
              have hb83 : ∀ a, a ≠ 83 → a < n → I19 a = I a := fun a ha hb => (upI e19 a ha).trans ((hX.2.1 a (by omega)).2.1.trans (hb83 a ha hb))
              have hS0 := hS
              have hR0 := hR1
              have hn := Nat.le_refl n
              have h94 := hS0.1
              have hX := @yX.rf n tg I19 R
              have hS := hS0.x hX
              have hR := hR0.x hn hX
              have hz := hX.sz h94
              have hxn := hX.1
              have hN := hR0.1
              have hnb := hR0.2.2.2.2.2.2
              have hthB := hth
              refine y_aload_n rfl rfl ?_
              refine y_iload_n rfl rfl ?_
              refine y_iload_n rfl rfl ?_
              refine y_virt rfl rfl rfl rfl rfl (ySh.t hS rfl) (ySh.n hS rfl) ?_
              refine y_in (M := xm_X14_refuse) (ls := [some _, some _, some _]) rfl rfl rfl ?_
              refine y_iload_n rfl rfl ?_
              refine y_if_eqT rfl j_X14_refuse_16 (by decide) ?_
              refine y_aload_n rfl rfl ?_
              refine y_getIv (v := Int32.ofInt (0)) rfl (ySh.t hS rfl) (ySh.n hS rfl) rfl rfl hth ?_
              refine y_if_leT rfl j_X14_refuse_27 (by decide) ?_
              refine y_iconst rfl ?_
              refine y_ireturn rfl rfl rfl ?_
              refine y_ret1 ?_
              refine y_ireturn rfl rfl rfl ?_
              refine y_ret1 ?_
              refine y_if_neF rfl (by decide) ?_
              refine y_aload_n rfl rfl ?_
              refine y_aload_n rfl rfl ?_
              refine y_getR rfl (ySh.t hS rfl) (ySh.n hS rfl) rfl rfl (ySh.r hS rfl) ?_
              refine y_virt rfl rfl rfl rfl rfl (ySh.t hS rfl) (ySh.n hS rfl) ?_
              refine y_in (M := xm_Jx4a65c_size_8abf5) (ls := [some _]) rfl rfl rfl ?_
              refine y_aload_n rfl rfl ?_
              refine y_getI rfl (ySh.t hS rfl) (ySh.n hS rfl) rfl rfl ?_
              refine y_ireturn rfl rfl rfl ?_
              refine y_ret1 ?_
              refine y_bip rfl (by decide) ?_
              refine y_icmp_ne rfl j_X14_firm_97 (fun h_20 => ?_) (fun h_21 => ?_)
              · rw [yz_10] at h_20
                refine y_iconst rfl ?_
                refine y_iconst rfl ?_
                refine y_virt rfl rfl rfl rfl rfl (ySh.t hS rfl) (ySh.n hS rfl) ?_
                refine y_in (M := xm_X14_refuse) (ls := [some _, some _, some _]) rfl rfl rfl ?_
                refine y_iload_n rfl rfl ?_
                refine y_if_eqT rfl j_X14_refuse_16 (by decide) ?_
                refine y_aload_n rfl rfl ?_
                refine y_getIv (v := Int32.ofInt (0)) rfl (ySh.t hS rfl) (ySh.n hS rfl) rfl rfl hth ?_
                refine y_if_leT rfl j_X14_refuse_27 (by decide) ?_
                refine y_iconst rfl ?_
                refine y_ireturn rfl rfl rfl ?_
                refine y_ret1 ?_
                refine y_if_eqT rfl j_X14_firm_107 (by decide) ?_
                refine y_aload_n rfl rfl ?_
                refine y_getR rfl (ySh.t hS rfl) (ySh.n hS rfl) rfl rfl (ySh.r hS rfl) ?_
                refine y_bip rfl (by decide) ?_
                refine y_newarrL (m := 7) rfl rfl (by decide) (by decide) rfl (fun n22 tg22 I22 R22 hA => ?_)
                have hnA := hA.1
                have ht_f23 : tg22 n = (0, 7) := hA.2.1
                have ha_f23 : n < n22 := by omega
                have hX := hX.trans (hA.x rfl)
                have hS := hS0.x hX
                have hR := hR0.x hn hX
                have hz := hX.sz h94
                have hxn := hX.1
                have hth := (congrFun ((hA.x rfl).2.1 83 (by omega)).2.1 0).trans hth
                refine y_dup rfl rfl ?_
                refine y_iconst rfl ?_
                refine y_iload_n rfl rfl ?_
                refine y_iastoreC (j := 0) rfl ht_f23 ha_f23 (Nat.le_trans (by decide) (by omega : 94 ≤ _)) (by decide) (by decide) rfl ?_
                refine y_nameI (fun I24 e24 => ?_)
                have hX := hX.upI (by omega) (upI e24)
                have hS := hS0.x hX
                have hR := hR0.x hn hX
                have hz := hX.sz h94
                have hxn := hX.1
                have hth := (congrFun (upI e24 83 (by omega)) 0).trans hth
                refine y_dup rfl rfl ?_
                refine y_iconst rfl ?_
                refine y_iload_n rfl rfl ?_
                refine y_iastoreC (j := 1) rfl ht_f23 ha_f23 (Nat.le_trans (by decide) (by omega : 94 ≤ _)) (by decide) (by decide) rfl ?_
                refine y_nameI (fun I25 e25 => ?_)
                have hX := hX.upI (by omega) (upI e25)
                have hS := hS0.x hX
                have hR := hR0.x hn hX
                have hz := hX.sz h94
                have hxn := hX.1
                have hth := (congrFun (upI e25 83 (by omega)) 0).trans hth
                refine y_dup rfl rfl ?_
                refine y_iconst rfl ?_
                refine y_iload_n rfl rfl ?_
                refine y_iastoreC (j := 2) rfl ht_f23 ha_f23 (Nat.le_trans (by decide) (by omega : 94 ≤ _)) (by decide) (by decide) rfl ?_
                refine y_nameI (fun I26 e26 => ?_)
                have hX := hX.upI (by omega) (upI e26)
                have hS := hS0.x hX
                have hR := hR0.x hn hX
                have hz := hX.sz h94
                have hxn := hX.1
                have hth := (congrFun (upI e26 83 (by omega)) 0).trans hth
                refine y_dup rfl rfl ?_
                refine y_iconst rfl ?_
                refine y_iload rfl rfl ?_
                refine y_iastoreC (j := 3) rfl ht_f23 ha_f23 (Nat.le_trans (by decide) (by omega : 94 ≤ _)) (by decide) (by decide) rfl ?_
                refine y_nameI (fun I27 e27 => ?_)
                have hX := hX.upI (by omega) (upI e27)
                have hS := hS0.x hX
                have hR := hR0.x hn hX
                have hz := hX.sz h94
                have hxn := hX.1
                have hth := (congrFun (upI e27 83 (by omega)) 0).trans hth
                refine y_dup rfl rfl ?_
                refine y_iconst rfl ?_
                refine y_iload rfl rfl ?_
                refine y_iastoreC (j := 4) rfl ht_f23 ha_f23 (Nat.le_trans (by decide) (by omega : 94 ≤ _)) (by decide) (by decide) rfl ?_
                refine y_nameI (fun I28 e28 => ?_)
                have hX := hX.upI (by omega) (upI e28)
                have hS := hS0.x hX
                have hR := hR0.x hn hX
                have hz := hX.sz h94
                have hxn := hX.1
                have hth := (congrFun (upI e28 83 (by omega)) 0).trans hth
                refine y_dup rfl rfl ?_
                refine y_iconst rfl ?_
                refine y_iload rfl rfl ?_
                refine y_iastoreC (j := 5) rfl ht_f23 ha_f23 (Nat.le_trans (by decide) (by omega : 94 ≤ _)) (by decide) (by decide) rfl ?_
                refine y_nameI (fun I29 e29 => ?_)
                have hX := hX.upI (by omega) (upI e29)
                have hS := hS0.x hX
                have hR := hR0.x hn hX
                have hz := hX.sz h94
                have hxn := hX.1
                have hth := (congrFun (upI e29 83 (by omega)) 0).trans hth
                refine y_dup rfl rfl ?_
                refine y_bip rfl (by decide) ?_
                refine y_iconst rfl ?_
                refine y_iastoreC (j := 6) rfl ht_f23 ha_f23 (Nat.le_trans (by decide) (by omega : 94 ≤ _)) (by decide) (by decide) rfl ?_
                refine y_nameI (fun I30 e30 => ?_)
                have hX := hX.upI (by omega) (upI e30)
                have hS := hS0.x hX
                have hR := hR0.x hn hX
                have hz := hX.sz h94
                have hxn := hX.1
                have hth := (congrFun (upI e30 83 (by omega)) 0).trans hth
                refine y_virt rfl rfl rfl rfl rfl (ySh.t hS rfl) (ySh.n hS rfl) ?_
                have hnw : yNw n n22 tg22 n := fun a h1 h2 h3 => hX.2.2 a h1 h2
                have hX := hX.y
                refine l_add hS (by decide) (by decide) (ySh.t hS rfl) (Nat.le_trans hn hX.1) hR.l92 (by omega) (by omega) ha_f23 (fun n31 tg31 I31 R31 c_31 s_31 hAd hc_31 hs_31 => ?_)
                have hsA := hAd.sz
                have hsz87 := congrArg Int32.toInt (congrFun (hAd.I 87 (by omega) (by decide)) 2)
                have hsz88 := congrArg Int32.toInt (congrFun (hAd.I 88 (by omega) (by decide)) 2)
                have hsz89 := congrArg Int32.toInt (congrFun (hAd.I 89 (by omega) (by decide)) 2)
                have hsz90 := congrArg Int32.toInt (congrFun (hAd.I 90 (by omega) (by decide)) 2)
                have hsz91 := congrArg Int32.toInt (congrFun (hAd.I 91 (by omega) (by decide)) 2)
                have hszp := congrArg Int32.toInt (congrFun (hAd.I 83 (by omega) (by decide)) 8)
                have hLk0 := yAdd.lk hR (Nat.le_trans hn hX.1) hAd (by decide) (by decide)
                have hcs : ∀ l', 87 ≤ l' → l' ≤ 92 → (I30 l' 2).toInt = (I l' 2).toInt := fun l' h1 h2 => by rw [(hX.2.1 l' (by omega)).2.1, hb83 l' (by omega) (by omega)]
                have hLk : yLk I R R31 := fun l' h1 h2 i hi => (hLk0.1 l' h1 h2 i (by rw [hcs l' h1 h2]; exact hi)).trans (yAd_eq ((hX.2.1 l' (by omega)).2.2.trans (hRb l' (by omega))) ((hX.2.1 _ (by have := hRo.lt6 l' h1 h2; omega)).2.2.trans (hRb _ (hRo.lt6 l' h1 h2))))
                have hAx : yAd R31 92 (I 92 2).toInt.toNat = n := by rw [← hcs 92 (by decide) (by decide)]; exact hLk0.2
                have hno_x : n ≤ n := by omega
                have hg := (hg.y hX (by omega)).add hAd (by omega) (by decide)
                have h8 : ∀ a, 84 ≤ a → a ≤ 86 → I31 a = I a := fun a h1 h2 => (hAd.I a (by omega) (by omega)).trans ((hX.2.1 a (by omega)).2.1.trans (h8 a h1 h2))
                have h3k : ∀ k, k ≠ 0 → I31 83 k = I 83 k := fun k hk => (congrFun (hAd.I 83 (by omega) (by decide)) k).trans ((congrFun (hX.2.1 83 (by omega)).2.1 k).trans (h3k k hk))
                have hday := (congrFun (hAd.I 83 (by omega) (by decide)) 1).trans ((congrFun (hX.2.1 83 (by omega)).2.1 1).trans hday)
                have hf0 : I31 n 0 = x1 := by rw [hAd.I _ ha_f23 (by omega)]; simp only [e30, e29, e28, e27, e26, e25, e24, upd2]; first | rfl | (simp; done) | (simp; exact hz_f23 _) | (simp; omega) | exact hz_f23 _
                have hf1 : I31 n 1 = x2 := by rw [hAd.I _ ha_f23 (by omega)]; simp only [e30, e29, e28, e27, e26, e25, e24, upd2]; first | rfl | (simp; done) | (simp; exact hz_f23 _) | (simp; omega) | exact hz_f23 _
                have hf2 : I31 n 2 = x3 := by rw [hAd.I _ ha_f23 (by omega)]; simp only [e30, e29, e28, e27, e26, e25, e24, upd2]; first | rfl | (simp; done) | (simp; exact hz_f23 _) | (simp; omega) | exact hz_f23 _
                have hf3 : I31 n 3 = x4 := by rw [hAd.I _ ha_f23 (by omega)]; simp only [e30, e29, e28, e27, e26, e25, e24, upd2]; first | rfl | (simp; done) | (simp; exact hz_f23 _) | (simp; omega) | exact hz_f23 _
                have hf4 : I31 n 4 = x5 := by rw [hAd.I _ ha_f23 (by omega)]; simp only [e30, e29, e28, e27, e26, e25, e24, upd2]; first | rfl | (simp; done) | (simp; exact hz_f23 _) | (simp; omega) | exact hz_f23 _
                have hf5 : I31 n 5 = x6 := by rw [hAd.I _ ha_f23 (by omega)]; simp only [e30, e29, e28, e27, e26, e25, e24, upd2]; first | rfl | (simp; done) | (simp; exact hz_f23 _) | (simp; omega) | exact hz_f23 _
                have hf6 : I31 n 6 = (Int32.ofInt 0) := by rw [hAd.I _ ha_f23 (by omega)]; simp only [e30, e29, e28, e27, e26, e25, e24, upd2]; first | rfl | (simp; done) | (simp; exact hz_f23 _) | (simp; omega) | exact hz_f23 _
                have hnA := hAd.n
                have hNu : yNum K I31 := yNum.add (K := K) hR.1 hAd (by omega) (by decide) (by decide) (Nat.le_refl K) (by omega) (fun h => by omega) (fun h => by omega) (fun h => by omega) (fun h => by omega) (fun h => by omega) (fun h => by omega)
                have htx : tg31 n = (0, 7) := (hAd.tg _ ha_f23).trans ht_f23
                have hIx := hAd.I _ ha_f23 (by omega)
                have hOb : yOb K n31 tg31 I31 R31 n := ⟨fun hq => absurd (show (0 : Nat) = 20 from congrArg Prod.fst (htx.symm.trans hq)) (by decide), fun hq => absurd (show (0 : Nat) = 19 from congrArg Prod.fst (htx.symm.trans hq)) (by decide), fun hq => absurd (show (0 : Nat) = 18 from congrArg Prod.fst (htx.symm.trans hq)) (by decide), fun hq => absurd (show (0 : Nat) = 21 from congrArg Prod.fst (htx.symm.trans hq)) (by decide)⟩
                have hFr : (92 : Nat) = 92 → 1 ≤ (I30 n 0).toInt ∧ (I30 n 0).toInt ≤ 999 := fun _ => by simp only [e30, e29, e28, e27, e26, e25, e24, upd2]; first | omega | (simp; omega) | simp | (simp; decide) | decide
                have hR1 : yRI K n31 tg31 I31 R31 := yRI.add hR (Nat.le_trans hn hX.1) hAd (by decide) (by decide) rfl (by omega) ha_f23 ht_f23 hnw (Nat.le_refl K) hNu hOb hFr (fun h => absurd h (by decide))
                have hK := (hK.y hRo hno hX).add hRo hno hR.di hAd (by decide) (by decide) (hR.zl 92 (by decide) (by decide))
                have hS := hS.add hAd (by decide) (by decide) (hR.zl 92 (by decide) (by decide))
                have hth := (congrFun (hAd.I 83 (by omega) (by decide)) 0).trans hth
                have ht_f23 := (hAd.tg _ ha_f23).trans ht_f23
                have ha_f23 := Nat.lt_of_lt_of_le ha_f23 hAd.n
                have hS0 := hS
                have hR0 := hR1
                have hn := Nat.le_refl n31
                have h94 := hS0.1
                have hX := @yX.rf n31 tg31 I31 R31
                have hS := hS0.x hX
                have hR := hR0.x hn hX
                have hz := hX.sz h94
                have hxn := hX.1
                have hN := hR0.1
                have hnb := hR0.2.2.2.2.2.2
                have hthB := hth
                refine y_ret1 ?_
                refine y_pop rfl rfl ?_
                refine y_aload_n rfl rfl ?_
                refine y_getR rfl (ySh.t hS rfl) (ySh.n hS rfl) rfl rfl (ySh.r hS rfl) ?_
                refine y_virt rfl rfl rfl rfl rfl (ySh.t hS rfl) (ySh.n hS rfl) ?_
                refine y_in (M := xm_Jx4a65c_size_8abf5) (ls := [some _]) rfl rfl rfl ?_
                refine y_aload_n rfl rfl ?_
                refine y_getI rfl (ySh.t hS rfl) (ySh.n hS rfl) rfl rfl ?_
                refine y_ireturn rfl rfl rfl ?_
                refine y_ret1 ?_
                refine y_iconst rfl ?_
                refine y_isub rfl ?_
                refine y_ireturn rfl rfl rfl ?_
                exact hQ0 (by omega) _ _ _ _ _ _ _ hS ((hR0.grow hX).up (Nat.le_succ K) hk6) (hK.x hRo hno hX) hth (by first | omega | (rw [ysub (by rw [yz_1]; omega) (by rw [yz_1]; omega), yz_1]; omega)) (hg.gx hX (by omega)) (by omega) (by omega) (by omega) (by omega) (by omega) hLk _ hAx.symm hno_x hf0 hf1 hf2 hf3 hf4 hf5 hf6 ⟨fun a_ h1_ h2_ => (hX.2.1 a_ (by omega)).2.1.trans (h8 a_ h1_ h2_), fun k_ hk_ => (congrFun (hX.2.1 83 (by omega)).2.1 k_).trans (h3k k_ hk_)⟩ (by omega) (by omega)
              · rw [yz_10] at h_21
                refine y_iconst rfl ?_
                refine y_goto rfl j_X14_firm_98 ?_
                refine y_iconst rfl ?_
                refine y_virt rfl rfl rfl rfl rfl (ySh.t hS rfl) (ySh.n hS rfl) ?_
                refine y_in (M := xm_X14_refuse) (ls := [some _, some _, some _]) rfl rfl rfl ?_
                refine y_iload_n rfl rfl ?_
                refine y_if_eqF rfl (by decide) ?_
                refine y_aload_n rfl rfl ?_
                refine y_getIv (v := Int32.ofInt (0)) rfl (ySh.t hS rfl) (ySh.n hS rfl) rfl rfl hth ?_
                refine y_if_neF rfl (by decide) ?_
                refine y_aload_n rfl rfl ?_
                refine y_iload_n rfl rfl ?_
                refine y_putI rfl (ySh.t hS rfl) (ySh.n hS rfl) rfl (Nat.le_of_ble_eq_true rfl) rfl rfl ?_
                refine y_nameI (fun I32 e32 => ?_)
                have hR1 := (hR0.grow hX).mod0 e32 (by decide) (by decide)
                have hK := (hK.x hRo hno hX).upI (upI e32) (by decide) (by decide) (fun i hi => by have := (hRo.l87.2.2.2.2 i hi).2.1; omega) (by rw [e32, upd2_ne (.inr (by decide))]; exact Int.le_refl _)
                have hth : I32 83 0 = Int32.ofInt (2) := by rw [e32, upd2_self]
                have hzz : ySz8 I19 I32 := ySz8_of (upI e32) (by rw [e32]; exact ⟨upd2_ne (.inr (by decide)), upd2_ne (.inr (by decide))⟩)
                have hB := (hB.trans hX).wr e32 rfl
                have h8 : ∀ a, 84 ≤ a → a ≤ 86 → I32 a = I a := fun a h1 h2 => (upI e32 a (by omega)).trans ((hX.2.1 a (by omega)).2.1.trans (h8 a h1 h2))
                have h3k : ∀ k, k ≠ 0 → I32 83 k = I 83 k := fun k hk => (congrFun (congrFun e32 83) k).trans ((upd2_ne (.inr hk)).trans ((congrFun (hX.2.1 83 (by omega)).2.1 k).trans (h3k k hk)))
                have hg := (hg.gx hX (by omega)).skip e32 (by decide)
                have hday : I32 83 1 = I 83 1 := (congrFun (congrFun e32 83) 1).trans ((upd2_ne (.inr (by decide))).trans ((congrFun (hX.2.1 83 (by omega)).2.1 1).trans hday))
                have hRb : ∀ a, a < n → R a = R a := fun a ha => (hX.2.1 a (by omega)).2.2.trans (hRb a ha)
                have hb83 : ∀ a, a ≠ 83 → a < n → I32 a = I a := fun a ha hb => (upI e32 a ha).trans ((hX.2.1 a (by omega)).2.1.trans (hb83 a ha hb))
                have hS0 := hS
                have hR0 := hR1
                have hn := Nat.le_refl n
                have h94 := hS0.1
                have hX := @yX.rf n tg I32 R
                have hS := hS0.x hX
                have hR := hR0.x hn hX
                have hz := hX.sz h94
                have hxn := hX.1
                have hN := hR0.1
                have hnb := hR0.2.2.2.2.2.2
                have hthB := hth
                refine y_aload_n rfl rfl ?_
                refine y_getIv (v := Int32.ofInt (2)) rfl (ySh.t hS rfl) (ySh.n hS rfl) rfl rfl hth ?_
                refine y_if_leF rfl (by decide) ?_
                refine y_iconst rfl ?_
                refine y_goto rfl j_X14_refuse_28 ?_
                refine y_ireturn rfl rfl rfl ?_
                refine y_ret1 ?_
                refine y_if_eqF rfl (by decide) ?_
                refine y_iconst rfl ?_
                refine y_ireturn rfl rfl rfl ?_
                exact hQ2 (by omega) _ _ _ _ _ _ _ hS ((hR0.grow hX).up (Nat.le_succ K) hk6) (hK.x hRo hno hX) hth (hg.gx hX (by omega)) (by omega) (by omega) (by omega) (by omega) (by omega) (fun l_ h1_ h2_ i_ _ => yAd_eq ((hX.2.1 l_ (by omega)).2.2.trans (hRb l_ (by omega))) ((hX.2.1 _ (by have := hRo.lt6 l_ h1_ h2_; omega)).2.2.trans (hRb _ (hRo.lt6 l_ h1_ h2_)))) ((hB.trans hX).rf2 (by omega)) (by omega) (by omega)
            · rw [yz_0] at h_18
              rw [yz_99] at h_18
              refine y_ret1 ?_
              refine y_if_neF rfl (by decide) ?_
              refine y_iconst rfl ?_
              refine y_goto rfl j_X14_firm_73 ?_
              refine y_iconst rfl ?_
              refine y_virt rfl rfl rfl rfl rfl (ySh.t hS rfl) (ySh.n hS rfl) ?_
              refine y_in (M := xm_X14_start) (ls := [some _, some _, some _]) rfl rfl rfl ?_
              refine y_aload_n rfl rfl ?_
              refine y_iconst rfl ?_
              refine y_putI rfl (ySh.t hS rfl) (ySh.n hS rfl) rfl (Nat.le_of_ble_eq_true rfl) rfl rfl ?_
              refine y_nameI (fun I33 e33 => ?_)
              have hR1 := (hR0.grow hX).mod0 e33 (by decide) (by decide)
              have hK := (hK.x hRo hno hX).upI (upI e33) (by decide) (by decide) (fun i hi => by have := (hRo.l87.2.2.2.2 i hi).2.1; omega) (by rw [e33, upd2_ne (.inr (by decide))]; exact Int.le_refl _)
              have hth : I33 83 0 = Int32.ofInt (0) := by rw [e33, upd2_self]
              have hzz : ySz8 I I33 := ySz8_of (upI e33) (by rw [e33]; exact ⟨upd2_ne (.inr (by decide)), upd2_ne (.inr (by decide))⟩)
              have hB := (hB.trans hX).wr e33 rfl
              have h8 : ∀ a, 84 ≤ a → a ≤ 86 → I33 a = I a := fun a h1 h2 => (upI e33 a (by omega)).trans ((hX.2.1 a (by omega)).2.1.trans (h8 a h1 h2))
              have h3k : ∀ k, k ≠ 0 → I33 83 k = I 83 k := fun k hk => (congrFun (congrFun e33 83) k).trans ((upd2_ne (.inr hk)).trans ((congrFun (hX.2.1 83 (by omega)).2.1 k).trans (h3k k hk)))
              have hg := (hg.gx hX (by omega)).skip e33 (by decide)
              have hday : I33 83 1 = I 83 1 := (congrFun (congrFun e33 83) 1).trans ((upd2_ne (.inr (by decide))).trans ((congrFun (hX.2.1 83 (by omega)).2.1 1).trans hday))
              have hRb : ∀ a, a < n → R a = R a := fun a ha => (hX.2.1 a (by omega)).2.2.trans (hRb a ha)
              have hb83 : ∀ a, a ≠ 83 → a < n → I33 a = I a := fun a ha hb => (upI e33 a ha).trans ((hX.2.1 a (by omega)).2.1.trans (hb83 a ha hb))
              have hS0 := hS
              have hR0 := hR1
              have hn := Nat.le_refl n
              have h94 := hS0.1
              have hX := @yX.rf n tg I33 R
              have hS := hS0.x hX
              have hR := hR0.x hn hX
              have hz := hX.sz h94
              have hxn := hX.1
              have hN := hR0.1
              have hnb := hR0.2.2.2.2.2.2
              have hthB := hth
              refine y_aload_n rfl rfl ?_
              refine y_iload_n rfl rfl ?_
              refine y_iload_n rfl rfl ?_
              refine y_virt rfl rfl rfl rfl rfl (ySh.t hS rfl) (ySh.n hS rfl) ?_
              refine y_in (M := xm_X14_refuse) (ls := [some _, some _, some _]) rfl rfl rfl ?_
              refine y_iload_n rfl rfl ?_
              refine y_if_eqF rfl (by decide) ?_
              refine y_aload_n rfl rfl ?_
              refine y_getIv (v := Int32.ofInt (0)) rfl (ySh.t hS rfl) (ySh.n hS rfl) rfl rfl hth ?_
              refine y_if_neF rfl (by decide) ?_
              refine y_aload_n rfl rfl ?_
              refine y_iload_n rfl rfl ?_
              refine y_putI rfl (ySh.t hS rfl) (ySh.n hS rfl) rfl (Nat.le_of_ble_eq_true rfl) rfl rfl ?_
              refine y_nameI (fun I34 e34 => ?_)
              have hR1 := (hR0.grow hX).mod0 e34 (by decide) (by decide)
              have hK := (hK.x hRo hno hX).upI (upI e34) (by decide) (by decide) (fun i hi => by have := (hRo.l87.2.2.2.2 i hi).2.1; omega) (by rw [e34, upd2_ne (.inr (by decide))]; exact Int.le_refl _)
              have hth : I34 83 0 = Int32.ofInt (1) := by rw [e34, upd2_self]
              have hzz : ySz8 I33 I34 := ySz8_of (upI e34) (by rw [e34]; exact ⟨upd2_ne (.inr (by decide)), upd2_ne (.inr (by decide))⟩)
              have hB := (hB.trans hX).wr e34 rfl
              have h8 : ∀ a, 84 ≤ a → a ≤ 86 → I34 a = I a := fun a h1 h2 => (upI e34 a (by omega)).trans ((hX.2.1 a (by omega)).2.1.trans (h8 a h1 h2))
              have h3k : ∀ k, k ≠ 0 → I34 83 k = I 83 k := fun k hk => (congrFun (congrFun e34 83) k).trans ((upd2_ne (.inr hk)).trans ((congrFun (hX.2.1 83 (by omega)).2.1 k).trans (h3k k hk)))
              have hg := (hg.gx hX (by omega)).skip e34 (by decide)
              have hday : I34 83 1 = I 83 1 := (congrFun (congrFun e34 83) 1).trans ((upd2_ne (.inr (by decide))).trans ((congrFun (hX.2.1 83 (by omega)).2.1 1).trans hday))
              have hRb : ∀ a, a < n → R a = R a := fun a ha => (hX.2.1 a (by omega)).2.2.trans (hRb a ha)
              have hb83 : ∀ a, a ≠ 83 → a < n → I34 a = I a := fun a ha hb => (upI e34 a ha).trans ((hX.2.1 a (by omega)).2.1.trans (hb83 a ha hb))
              have hS0 := hS
              have hR0 := hR1
              have hn := Nat.le_refl n
              have h94 := hS0.1
              have hX := @yX.rf n tg I34 R
              have hS := hS0.x hX
              have hR := hR0.x hn hX
              have hz := hX.sz h94
              have hxn := hX.1
              have hN := hR0.1
              have hnb := hR0.2.2.2.2.2.2
              have hthB := hth
              refine y_aload_n rfl rfl ?_
              refine y_getIv (v := Int32.ofInt (1)) rfl (ySh.t hS rfl) (ySh.n hS rfl) rfl rfl hth ?_
              refine y_if_leF rfl (by decide) ?_
              refine y_iconst rfl ?_
              refine y_goto rfl j_X14_refuse_28 ?_
              refine y_ireturn rfl rfl rfl ?_
              refine y_ret1 ?_
              refine y_ireturn rfl rfl rfl ?_
              refine y_ret1 ?_
              refine y_if_neT rfl j_X14_firm_105 (by decide) ?_
              refine y_iconst rfl ?_
              refine y_ireturn rfl rfl rfl ?_
              exact hQ1 (by omega) _ _ _ _ _ _ _ hS ((hR0.grow hX).up (Nat.le_succ K) hk6) (hK.x hRo hno hX) hth (hg.gx hX (by omega)) (by omega) (by omega) (by omega) (by omega) (by omega) (fun l_ h1_ h2_ i_ _ => yAd_eq ((hX.2.1 l_ (by omega)).2.2.trans (hRb l_ (by omega))) ((hX.2.1 _ (by have := hRo.lt6 l_ h1_ h2_; omega)).2.2.trans (hRb _ (hRo.lt6 l_ h1_ h2_)))) ((hB.trans hX).rf2 (by omega)) (by omega) (by omega)
          · rw [yz_1] at h_15
            rw [yz_99] at h_15
            refine y_ret1 ?_
            refine y_if_eqT rfl j_X14_firm_68 (by decide) ?_
            refine y_iconst rfl ?_
            refine y_goto rfl j_X14_firm_73 ?_
            refine y_iconst rfl ?_
            refine y_virt rfl rfl rfl rfl rfl (ySh.t hS rfl) (ySh.n hS rfl) ?_
            refine y_in (M := xm_X14_start) (ls := [some _, some _, some _]) rfl rfl rfl ?_
            refine y_aload_n rfl rfl ?_
            refine y_iconst rfl ?_
            refine y_putI rfl (ySh.t hS rfl) (ySh.n hS rfl) rfl (Nat.le_of_ble_eq_true rfl) rfl rfl ?_
            refine y_nameI (fun I35 e35 => ?_)
            have hR1 := (hR0.grow hX).mod0 e35 (by decide) (by decide)
            have hK := (hK.x hRo hno hX).upI (upI e35) (by decide) (by decide) (fun i hi => by have := (hRo.l87.2.2.2.2 i hi).2.1; omega) (by rw [e35, upd2_ne (.inr (by decide))]; exact Int.le_refl _)
            have hth : I35 83 0 = Int32.ofInt (0) := by rw [e35, upd2_self]
            have hzz : ySz8 I I35 := ySz8_of (upI e35) (by rw [e35]; exact ⟨upd2_ne (.inr (by decide)), upd2_ne (.inr (by decide))⟩)
            have hB := (hB.trans hX).wr e35 rfl
            have h8 : ∀ a, 84 ≤ a → a ≤ 86 → I35 a = I a := fun a h1 h2 => (upI e35 a (by omega)).trans ((hX.2.1 a (by omega)).2.1.trans (h8 a h1 h2))
            have h3k : ∀ k, k ≠ 0 → I35 83 k = I 83 k := fun k hk => (congrFun (congrFun e35 83) k).trans ((upd2_ne (.inr hk)).trans ((congrFun (hX.2.1 83 (by omega)).2.1 k).trans (h3k k hk)))
            have hg := (hg.gx hX (by omega)).skip e35 (by decide)
            have hday : I35 83 1 = I 83 1 := (congrFun (congrFun e35 83) 1).trans ((upd2_ne (.inr (by decide))).trans ((congrFun (hX.2.1 83 (by omega)).2.1 1).trans hday))
            have hRb : ∀ a, a < n → R a = R a := fun a ha => (hX.2.1 a (by omega)).2.2.trans (hRb a ha)
            have hb83 : ∀ a, a ≠ 83 → a < n → I35 a = I a := fun a ha hb => (upI e35 a ha).trans ((hX.2.1 a (by omega)).2.1.trans (hb83 a ha hb))
            have hS0 := hS
            have hR0 := hR1
            have hn := Nat.le_refl n
            have h94 := hS0.1
            have hX := @yX.rf n tg I35 R
            have hS := hS0.x hX
            have hR := hR0.x hn hX
            have hz := hX.sz h94
            have hxn := hX.1
            have hN := hR0.1
            have hnb := hR0.2.2.2.2.2.2
            have hthB := hth
            refine y_aload_n rfl rfl ?_
            refine y_iload_n rfl rfl ?_
            refine y_iload_n rfl rfl ?_
            refine y_virt rfl rfl rfl rfl rfl (ySh.t hS rfl) (ySh.n hS rfl) ?_
            refine y_in (M := xm_X14_refuse) (ls := [some _, some _, some _]) rfl rfl rfl ?_
            refine y_iload_n rfl rfl ?_
            refine y_if_eqF rfl (by decide) ?_
            refine y_aload_n rfl rfl ?_
            refine y_getIv (v := Int32.ofInt (0)) rfl (ySh.t hS rfl) (ySh.n hS rfl) rfl rfl hth ?_
            refine y_if_neF rfl (by decide) ?_
            refine y_aload_n rfl rfl ?_
            refine y_iload_n rfl rfl ?_
            refine y_putI rfl (ySh.t hS rfl) (ySh.n hS rfl) rfl (Nat.le_of_ble_eq_true rfl) rfl rfl ?_
            refine y_nameI (fun I36 e36 => ?_)
            have hR1 := (hR0.grow hX).mod0 e36 (by decide) (by decide)
            have hK := (hK.x hRo hno hX).upI (upI e36) (by decide) (by decide) (fun i hi => by have := (hRo.l87.2.2.2.2 i hi).2.1; omega) (by rw [e36, upd2_ne (.inr (by decide))]; exact Int.le_refl _)
            have hth : I36 83 0 = Int32.ofInt (1) := by rw [e36, upd2_self]
            have hzz : ySz8 I35 I36 := ySz8_of (upI e36) (by rw [e36]; exact ⟨upd2_ne (.inr (by decide)), upd2_ne (.inr (by decide))⟩)
            have hB := (hB.trans hX).wr e36 rfl
            have h8 : ∀ a, 84 ≤ a → a ≤ 86 → I36 a = I a := fun a h1 h2 => (upI e36 a (by omega)).trans ((hX.2.1 a (by omega)).2.1.trans (h8 a h1 h2))
            have h3k : ∀ k, k ≠ 0 → I36 83 k = I 83 k := fun k hk => (congrFun (congrFun e36 83) k).trans ((upd2_ne (.inr hk)).trans ((congrFun (hX.2.1 83 (by omega)).2.1 k).trans (h3k k hk)))
            have hg := (hg.gx hX (by omega)).skip e36 (by decide)
            have hday : I36 83 1 = I 83 1 := (congrFun (congrFun e36 83) 1).trans ((upd2_ne (.inr (by decide))).trans ((congrFun (hX.2.1 83 (by omega)).2.1 1).trans hday))
            have hRb : ∀ a, a < n → R a = R a := fun a ha => (hX.2.1 a (by omega)).2.2.trans (hRb a ha)
            have hb83 : ∀ a, a ≠ 83 → a < n → I36 a = I a := fun a ha hb => (upI e36 a ha).trans ((hX.2.1 a (by omega)).2.1.trans (hb83 a ha hb))
            have hS0 := hS
            have hR0 := hR1
            have hn := Nat.le_refl n
            have h94 := hS0.1
            have hX := @yX.rf n tg I36 R
            have hS := hS0.x hX
            have hR := hR0.x hn hX
            have hz := hX.sz h94
            have hxn := hX.1
            have hN := hR0.1
            have hnb := hR0.2.2.2.2.2.2
            have hthB := hth
            refine y_aload_n rfl rfl ?_
            refine y_getIv (v := Int32.ofInt (1)) rfl (ySh.t hS rfl) (ySh.n hS rfl) rfl rfl hth ?_
            refine y_if_leF rfl (by decide) ?_
            refine y_iconst rfl ?_
            refine y_goto rfl j_X14_refuse_28 ?_
            refine y_ireturn rfl rfl rfl ?_
            refine y_ret1 ?_
            refine y_ireturn rfl rfl rfl ?_
            refine y_ret1 ?_
            refine y_if_neT rfl j_X14_firm_105 (by decide) ?_
            refine y_iconst rfl ?_
            refine y_ireturn rfl rfl rfl ?_
            exact hQ1 (by omega) _ _ _ _ _ _ _ hS ((hR0.grow hX).up (Nat.le_succ K) hk6) (hK.x hRo hno hX) hth (hg.gx hX (by omega)) (by omega) (by omega) (by omega) (by omega) (by omega) (fun l_ h1_ h2_ i_ _ => yAd_eq ((hX.2.1 l_ (by omega)).2.2.trans (hRb l_ (by omega))) ((hX.2.1 _ (by have := hRo.lt6 l_ h1_ h2_; omega)).2.2.trans (hRb _ (hRo.lt6 l_ h1_ h2_)))) ((hB.trans hX).rf2 (by omega)) (by omega) (by omega)
        · rw [yz_0] at h_12
          rw [yz_999] at h_12
          refine y_ret1 ?_
          refine y_if_eqT rfl j_X14_firm_68 (by decide) ?_
          refine y_iconst rfl ?_
          refine y_goto rfl j_X14_firm_73 ?_
          refine y_iconst rfl ?_
          refine y_virt rfl rfl rfl rfl rfl (ySh.t hS rfl) (ySh.n hS rfl) ?_
          refine y_in (M := xm_X14_start) (ls := [some _, some _, some _]) rfl rfl rfl ?_
          refine y_aload_n rfl rfl ?_
          refine y_iconst rfl ?_
          refine y_putI rfl (ySh.t hS rfl) (ySh.n hS rfl) rfl (Nat.le_of_ble_eq_true rfl) rfl rfl ?_
          refine y_nameI (fun I37 e37 => ?_)
          have hR1 := (hR0.grow hX).mod0 e37 (by decide) (by decide)
          have hK := (hK.x hRo hno hX).upI (upI e37) (by decide) (by decide) (fun i hi => by have := (hRo.l87.2.2.2.2 i hi).2.1; omega) (by rw [e37, upd2_ne (.inr (by decide))]; exact Int.le_refl _)
          have hth : I37 83 0 = Int32.ofInt (0) := by rw [e37, upd2_self]
          have hzz : ySz8 I I37 := ySz8_of (upI e37) (by rw [e37]; exact ⟨upd2_ne (.inr (by decide)), upd2_ne (.inr (by decide))⟩)
          have hB := (hB.trans hX).wr e37 rfl
          have h8 : ∀ a, 84 ≤ a → a ≤ 86 → I37 a = I a := fun a h1 h2 => (upI e37 a (by omega)).trans ((hX.2.1 a (by omega)).2.1.trans (h8 a h1 h2))
          have h3k : ∀ k, k ≠ 0 → I37 83 k = I 83 k := fun k hk => (congrFun (congrFun e37 83) k).trans ((upd2_ne (.inr hk)).trans ((congrFun (hX.2.1 83 (by omega)).2.1 k).trans (h3k k hk)))
          have hg := (hg.gx hX (by omega)).skip e37 (by decide)
          have hday : I37 83 1 = I 83 1 := (congrFun (congrFun e37 83) 1).trans ((upd2_ne (.inr (by decide))).trans ((congrFun (hX.2.1 83 (by omega)).2.1 1).trans hday))
          have hRb : ∀ a, a < n → R a = R a := fun a ha => (hX.2.1 a (by omega)).2.2.trans (hRb a ha)
          have hb83 : ∀ a, a ≠ 83 → a < n → I37 a = I a := fun a ha hb => (upI e37 a ha).trans ((hX.2.1 a (by omega)).2.1.trans (hb83 a ha hb))
          have hS0 := hS
          have hR0 := hR1
          have hn := Nat.le_refl n
          have h94 := hS0.1
          have hX := @yX.rf n tg I37 R
          have hS := hS0.x hX
          have hR := hR0.x hn hX
          have hz := hX.sz h94
          have hxn := hX.1
          have hN := hR0.1
          have hnb := hR0.2.2.2.2.2.2
          have hthB := hth
          refine y_aload_n rfl rfl ?_
          refine y_iload_n rfl rfl ?_
          refine y_iload_n rfl rfl ?_
          refine y_virt rfl rfl rfl rfl rfl (ySh.t hS rfl) (ySh.n hS rfl) ?_
          refine y_in (M := xm_X14_refuse) (ls := [some _, some _, some _]) rfl rfl rfl ?_
          refine y_iload_n rfl rfl ?_
          refine y_if_eqF rfl (by decide) ?_
          refine y_aload_n rfl rfl ?_
          refine y_getIv (v := Int32.ofInt (0)) rfl (ySh.t hS rfl) (ySh.n hS rfl) rfl rfl hth ?_
          refine y_if_neF rfl (by decide) ?_
          refine y_aload_n rfl rfl ?_
          refine y_iload_n rfl rfl ?_
          refine y_putI rfl (ySh.t hS rfl) (ySh.n hS rfl) rfl (Nat.le_of_ble_eq_true rfl) rfl rfl ?_
          refine y_nameI (fun I38 e38 => ?_)
          have hR1 := (hR0.grow hX).mod0 e38 (by decide) (by decide)
          have hK := (hK.x hRo hno hX).upI (upI e38) (by decide) (by decide) (fun i hi => by have := (hRo.l87.2.2.2.2 i hi).2.1; omega) (by rw [e38, upd2_ne (.inr (by decide))]; exact Int.le_refl _)
          have hth : I38 83 0 = Int32.ofInt (1) := by rw [e38, upd2_self]
          have hzz : ySz8 I37 I38 := ySz8_of (upI e38) (by rw [e38]; exact ⟨upd2_ne (.inr (by decide)), upd2_ne (.inr (by decide))⟩)
          have hB := (hB.trans hX).wr e38 rfl
          have h8 : ∀ a, 84 ≤ a → a ≤ 86 → I38 a = I a := fun a h1 h2 => (upI e38 a (by omega)).trans ((hX.2.1 a (by omega)).2.1.trans (h8 a h1 h2))
          have h3k : ∀ k, k ≠ 0 → I38 83 k = I 83 k := fun k hk => (congrFun (congrFun e38 83) k).trans ((upd2_ne (.inr hk)).trans ((congrFun (hX.2.1 83 (by omega)).2.1 k).trans (h3k k hk)))
          have hg := (hg.gx hX (by omega)).skip e38 (by decide)
          have hday : I38 83 1 = I 83 1 := (congrFun (congrFun e38 83) 1).trans ((upd2_ne (.inr (by decide))).trans ((congrFun (hX.2.1 83 (by omega)).2.1 1).trans hday))
          have hRb : ∀ a, a < n → R a = R a := fun a ha => (hX.2.1 a (by omega)).2.2.trans (hRb a ha)
          have hb83 : ∀ a, a ≠ 83 → a < n → I38 a = I a := fun a ha hb => (upI e38 a ha).trans ((hX.2.1 a (by omega)).2.1.trans (hb83 a ha hb))
          have hS0 := hS
          have hR0 := hR1
          have hn := Nat.le_refl n
          have h94 := hS0.1
          have hX := @yX.rf n tg I38 R
          have hS := hS0.x hX
          have hR := hR0.x hn hX
          have hz := hX.sz h94
          have hxn := hX.1
          have hN := hR0.1
          have hnb := hR0.2.2.2.2.2.2
          have hthB := hth
          refine y_aload_n rfl rfl ?_
          refine y_getIv (v := Int32.ofInt (1)) rfl (ySh.t hS rfl) (ySh.n hS rfl) rfl rfl hth ?_
          refine y_if_leF rfl (by decide) ?_
          refine y_iconst rfl ?_
          refine y_goto rfl j_X14_refuse_28 ?_
          refine y_ireturn rfl rfl rfl ?_
          refine y_ret1 ?_
          refine y_ireturn rfl rfl rfl ?_
          refine y_ret1 ?_
          refine y_if_neT rfl j_X14_firm_105 (by decide) ?_
          refine y_iconst rfl ?_
          refine y_ireturn rfl rfl rfl ?_
          exact hQ1 (by omega) _ _ _ _ _ _ _ hS ((hR0.grow hX).up (Nat.le_succ K) hk6) (hK.x hRo hno hX) hth (hg.gx hX (by omega)) (by omega) (by omega) (by omega) (by omega) (by omega) (fun l_ h1_ h2_ i_ _ => yAd_eq ((hX.2.1 l_ (by omega)).2.2.trans (hRb l_ (by omega))) ((hX.2.1 _ (by have := hRo.lt6 l_ h1_ h2_; omega)).2.2.trans (hRb _ (hRo.lt6 l_ h1_ h2_)))) ((hB.trans hX).rf2 (by omega)) (by omega) (by omega)
      · rw [yz_0] at h_9
        rw [yz_999] at h_9
        refine y_ret1 ?_
        refine y_if_eqT rfl j_X14_firm_68 (by decide) ?_
        refine y_iconst rfl ?_
        refine y_goto rfl j_X14_firm_73 ?_
        refine y_iconst rfl ?_
        refine y_virt rfl rfl rfl rfl rfl (ySh.t hS rfl) (ySh.n hS rfl) ?_
        refine y_in (M := xm_X14_start) (ls := [some _, some _, some _]) rfl rfl rfl ?_
        refine y_aload_n rfl rfl ?_
        refine y_iconst rfl ?_
        refine y_putI rfl (ySh.t hS rfl) (ySh.n hS rfl) rfl (Nat.le_of_ble_eq_true rfl) rfl rfl ?_
        refine y_nameI (fun I39 e39 => ?_)
        have hR1 := (hR0.grow hX).mod0 e39 (by decide) (by decide)
        have hK := (hK.x hRo hno hX).upI (upI e39) (by decide) (by decide) (fun i hi => by have := (hRo.l87.2.2.2.2 i hi).2.1; omega) (by rw [e39, upd2_ne (.inr (by decide))]; exact Int.le_refl _)
        have hth : I39 83 0 = Int32.ofInt (0) := by rw [e39, upd2_self]
        have hzz : ySz8 I I39 := ySz8_of (upI e39) (by rw [e39]; exact ⟨upd2_ne (.inr (by decide)), upd2_ne (.inr (by decide))⟩)
        have hB := (hB.trans hX).wr e39 rfl
        have h8 : ∀ a, 84 ≤ a → a ≤ 86 → I39 a = I a := fun a h1 h2 => (upI e39 a (by omega)).trans ((hX.2.1 a (by omega)).2.1.trans (h8 a h1 h2))
        have h3k : ∀ k, k ≠ 0 → I39 83 k = I 83 k := fun k hk => (congrFun (congrFun e39 83) k).trans ((upd2_ne (.inr hk)).trans ((congrFun (hX.2.1 83 (by omega)).2.1 k).trans (h3k k hk)))
        have hg := (hg.gx hX (by omega)).skip e39 (by decide)
        have hday : I39 83 1 = I 83 1 := (congrFun (congrFun e39 83) 1).trans ((upd2_ne (.inr (by decide))).trans ((congrFun (hX.2.1 83 (by omega)).2.1 1).trans hday))
        have hRb : ∀ a, a < n → R a = R a := fun a ha => (hX.2.1 a (by omega)).2.2.trans (hRb a ha)
        have hb83 : ∀ a, a ≠ 83 → a < n → I39 a = I a := fun a ha hb => (upI e39 a ha).trans ((hX.2.1 a (by omega)).2.1.trans (hb83 a ha hb))
        have hS0 := hS
        have hR0 := hR1
        have hn := Nat.le_refl n
        have h94 := hS0.1
        have hX := @yX.rf n tg I39 R
        have hS := hS0.x hX
        have hR := hR0.x hn hX
        have hz := hX.sz h94
        have hxn := hX.1
        have hN := hR0.1
        have hnb := hR0.2.2.2.2.2.2
        have hthB := hth
        refine y_aload_n rfl rfl ?_
        refine y_iload_n rfl rfl ?_
        refine y_iload_n rfl rfl ?_
        refine y_virt rfl rfl rfl rfl rfl (ySh.t hS rfl) (ySh.n hS rfl) ?_
        refine y_in (M := xm_X14_refuse) (ls := [some _, some _, some _]) rfl rfl rfl ?_
        refine y_iload_n rfl rfl ?_
        refine y_if_eqF rfl (by decide) ?_
        refine y_aload_n rfl rfl ?_
        refine y_getIv (v := Int32.ofInt (0)) rfl (ySh.t hS rfl) (ySh.n hS rfl) rfl rfl hth ?_
        refine y_if_neF rfl (by decide) ?_
        refine y_aload_n rfl rfl ?_
        refine y_iload_n rfl rfl ?_
        refine y_putI rfl (ySh.t hS rfl) (ySh.n hS rfl) rfl (Nat.le_of_ble_eq_true rfl) rfl rfl ?_
        refine y_nameI (fun I40 e40 => ?_)
        have hR1 := (hR0.grow hX).mod0 e40 (by decide) (by decide)
        have hK := (hK.x hRo hno hX).upI (upI e40) (by decide) (by decide) (fun i hi => by have := (hRo.l87.2.2.2.2 i hi).2.1; omega) (by rw [e40, upd2_ne (.inr (by decide))]; exact Int.le_refl _)
        have hth : I40 83 0 = Int32.ofInt (1) := by rw [e40, upd2_self]
        have hzz : ySz8 I39 I40 := ySz8_of (upI e40) (by rw [e40]; exact ⟨upd2_ne (.inr (by decide)), upd2_ne (.inr (by decide))⟩)
        have hB := (hB.trans hX).wr e40 rfl
        have h8 : ∀ a, 84 ≤ a → a ≤ 86 → I40 a = I a := fun a h1 h2 => (upI e40 a (by omega)).trans ((hX.2.1 a (by omega)).2.1.trans (h8 a h1 h2))
        have h3k : ∀ k, k ≠ 0 → I40 83 k = I 83 k := fun k hk => (congrFun (congrFun e40 83) k).trans ((upd2_ne (.inr hk)).trans ((congrFun (hX.2.1 83 (by omega)).2.1 k).trans (h3k k hk)))
        have hg := (hg.gx hX (by omega)).skip e40 (by decide)
        have hday : I40 83 1 = I 83 1 := (congrFun (congrFun e40 83) 1).trans ((upd2_ne (.inr (by decide))).trans ((congrFun (hX.2.1 83 (by omega)).2.1 1).trans hday))
        have hRb : ∀ a, a < n → R a = R a := fun a ha => (hX.2.1 a (by omega)).2.2.trans (hRb a ha)
        have hb83 : ∀ a, a ≠ 83 → a < n → I40 a = I a := fun a ha hb => (upI e40 a ha).trans ((hX.2.1 a (by omega)).2.1.trans (hb83 a ha hb))
        have hS0 := hS
        have hR0 := hR1
        have hn := Nat.le_refl n
        have h94 := hS0.1
        have hX := @yX.rf n tg I40 R
        have hS := hS0.x hX
        have hR := hR0.x hn hX
        have hz := hX.sz h94
        have hxn := hX.1
        have hN := hR0.1
        have hnb := hR0.2.2.2.2.2.2
        have hthB := hth
        refine y_aload_n rfl rfl ?_
        refine y_getIv (v := Int32.ofInt (1)) rfl (ySh.t hS rfl) (ySh.n hS rfl) rfl rfl hth ?_
        refine y_if_leF rfl (by decide) ?_
        refine y_iconst rfl ?_
        refine y_goto rfl j_X14_refuse_28 ?_
        refine y_ireturn rfl rfl rfl ?_
        refine y_ret1 ?_
        refine y_ireturn rfl rfl rfl ?_
        refine y_ret1 ?_
        refine y_if_neT rfl j_X14_firm_105 (by decide) ?_
        refine y_iconst rfl ?_
        refine y_ireturn rfl rfl rfl ?_
        exact hQ1 (by omega) _ _ _ _ _ _ _ hS ((hR0.grow hX).up (Nat.le_succ K) hk6) (hK.x hRo hno hX) hth (hg.gx hX (by omega)) (by omega) (by omega) (by omega) (by omega) (by omega) (fun l_ h1_ h2_ i_ _ => yAd_eq ((hX.2.1 l_ (by omega)).2.2.trans (hRb l_ (by omega))) ((hX.2.1 _ (by have := hRo.lt6 l_ h1_ h2_; omega)).2.2.trans (hRb _ (hRo.lt6 l_ h1_ h2_)))) ((hB.trans hX).rf2 (by omega)) (by omega) (by omega)
    · rw [yz_0] at h_6
      rw [yz_999] at h_6
      refine y_ret1 ?_
      refine y_if_eqT rfl j_X14_firm_68 (by decide) ?_
      refine y_iconst rfl ?_
      refine y_goto rfl j_X14_firm_73 ?_
      refine y_iconst rfl ?_
      refine y_virt rfl rfl rfl rfl rfl (ySh.t hS rfl) (ySh.n hS rfl) ?_
      refine y_in (M := xm_X14_start) (ls := [some _, some _, some _]) rfl rfl rfl ?_
      refine y_aload_n rfl rfl ?_
      refine y_iconst rfl ?_
      refine y_putI rfl (ySh.t hS rfl) (ySh.n hS rfl) rfl (Nat.le_of_ble_eq_true rfl) rfl rfl ?_
      refine y_nameI (fun I41 e41 => ?_)
      have hR1 := (hR0.grow hX).mod0 e41 (by decide) (by decide)
      have hK := (hK.x hRo hno hX).upI (upI e41) (by decide) (by decide) (fun i hi => by have := (hRo.l87.2.2.2.2 i hi).2.1; omega) (by rw [e41, upd2_ne (.inr (by decide))]; exact Int.le_refl _)
      have hth : I41 83 0 = Int32.ofInt (0) := by rw [e41, upd2_self]
      have hzz : ySz8 I I41 := ySz8_of (upI e41) (by rw [e41]; exact ⟨upd2_ne (.inr (by decide)), upd2_ne (.inr (by decide))⟩)
      have hB := (hB.trans hX).wr e41 rfl
      have h8 : ∀ a, 84 ≤ a → a ≤ 86 → I41 a = I a := fun a h1 h2 => (upI e41 a (by omega)).trans ((hX.2.1 a (by omega)).2.1.trans (h8 a h1 h2))
      have h3k : ∀ k, k ≠ 0 → I41 83 k = I 83 k := fun k hk => (congrFun (congrFun e41 83) k).trans ((upd2_ne (.inr hk)).trans ((congrFun (hX.2.1 83 (by omega)).2.1 k).trans (h3k k hk)))
      have hg := (hg.gx hX (by omega)).skip e41 (by decide)
      have hday : I41 83 1 = I 83 1 := (congrFun (congrFun e41 83) 1).trans ((upd2_ne (.inr (by decide))).trans ((congrFun (hX.2.1 83 (by omega)).2.1 1).trans hday))
      have hRb : ∀ a, a < n → R a = R a := fun a ha => (hX.2.1 a (by omega)).2.2.trans (hRb a ha)
      have hb83 : ∀ a, a ≠ 83 → a < n → I41 a = I a := fun a ha hb => (upI e41 a ha).trans ((hX.2.1 a (by omega)).2.1.trans (hb83 a ha hb))
      have hS0 := hS
      have hR0 := hR1
      have hn := Nat.le_refl n
      have h94 := hS0.1
      have hX := @yX.rf n tg I41 R
      have hS := hS0.x hX
      have hR := hR0.x hn hX
      have hz := hX.sz h94
      have hxn := hX.1
      have hN := hR0.1
      have hnb := hR0.2.2.2.2.2.2
      have hthB := hth
      refine y_aload_n rfl rfl ?_
      refine y_iload_n rfl rfl ?_
      refine y_iload_n rfl rfl ?_
      refine y_virt rfl rfl rfl rfl rfl (ySh.t hS rfl) (ySh.n hS rfl) ?_
      refine y_in (M := xm_X14_refuse) (ls := [some _, some _, some _]) rfl rfl rfl ?_
      refine y_iload_n rfl rfl ?_
      refine y_if_eqF rfl (by decide) ?_
      refine y_aload_n rfl rfl ?_
      refine y_getIv (v := Int32.ofInt (0)) rfl (ySh.t hS rfl) (ySh.n hS rfl) rfl rfl hth ?_
      refine y_if_neF rfl (by decide) ?_
      refine y_aload_n rfl rfl ?_
      refine y_iload_n rfl rfl ?_
      refine y_putI rfl (ySh.t hS rfl) (ySh.n hS rfl) rfl (Nat.le_of_ble_eq_true rfl) rfl rfl ?_
      refine y_nameI (fun I42 e42 => ?_)
      have hR1 := (hR0.grow hX).mod0 e42 (by decide) (by decide)
      have hK := (hK.x hRo hno hX).upI (upI e42) (by decide) (by decide) (fun i hi => by have := (hRo.l87.2.2.2.2 i hi).2.1; omega) (by rw [e42, upd2_ne (.inr (by decide))]; exact Int.le_refl _)
      have hth : I42 83 0 = Int32.ofInt (1) := by rw [e42, upd2_self]
      have hzz : ySz8 I41 I42 := ySz8_of (upI e42) (by rw [e42]; exact ⟨upd2_ne (.inr (by decide)), upd2_ne (.inr (by decide))⟩)
      have hB := (hB.trans hX).wr e42 rfl
      have h8 : ∀ a, 84 ≤ a → a ≤ 86 → I42 a = I a := fun a h1 h2 => (upI e42 a (by omega)).trans ((hX.2.1 a (by omega)).2.1.trans (h8 a h1 h2))
      have h3k : ∀ k, k ≠ 0 → I42 83 k = I 83 k := fun k hk => (congrFun (congrFun e42 83) k).trans ((upd2_ne (.inr hk)).trans ((congrFun (hX.2.1 83 (by omega)).2.1 k).trans (h3k k hk)))
      have hg := (hg.gx hX (by omega)).skip e42 (by decide)
      have hday : I42 83 1 = I 83 1 := (congrFun (congrFun e42 83) 1).trans ((upd2_ne (.inr (by decide))).trans ((congrFun (hX.2.1 83 (by omega)).2.1 1).trans hday))
      have hRb : ∀ a, a < n → R a = R a := fun a ha => (hX.2.1 a (by omega)).2.2.trans (hRb a ha)
      have hb83 : ∀ a, a ≠ 83 → a < n → I42 a = I a := fun a ha hb => (upI e42 a ha).trans ((hX.2.1 a (by omega)).2.1.trans (hb83 a ha hb))
      have hS0 := hS
      have hR0 := hR1
      have hn := Nat.le_refl n
      have h94 := hS0.1
      have hX := @yX.rf n tg I42 R
      have hS := hS0.x hX
      have hR := hR0.x hn hX
      have hz := hX.sz h94
      have hxn := hX.1
      have hN := hR0.1
      have hnb := hR0.2.2.2.2.2.2
      have hthB := hth
      refine y_aload_n rfl rfl ?_
      refine y_getIv (v := Int32.ofInt (1)) rfl (ySh.t hS rfl) (ySh.n hS rfl) rfl rfl hth ?_
      refine y_if_leF rfl (by decide) ?_
      refine y_iconst rfl ?_
      refine y_goto rfl j_X14_refuse_28 ?_
      refine y_ireturn rfl rfl rfl ?_
      refine y_ret1 ?_
      refine y_ireturn rfl rfl rfl ?_
      refine y_ret1 ?_
      refine y_if_neT rfl j_X14_firm_105 (by decide) ?_
      refine y_iconst rfl ?_
      refine y_ireturn rfl rfl rfl ?_
      exact hQ1 (by omega) _ _ _ _ _ _ _ hS ((hR0.grow hX).up (Nat.le_succ K) hk6) (hK.x hRo hno hX) hth (hg.gx hX (by omega)) (by omega) (by omega) (by omega) (by omega) (by omega) (fun l_ h1_ h2_ i_ _ => yAd_eq ((hX.2.1 l_ (by omega)).2.2.trans (hRb l_ (by omega))) ((hX.2.1 _ (by have := hRo.lt6 l_ h1_ h2_; omega)).2.2.trans (hRb _ (hRo.lt6 l_ h1_ h2_)))) ((hB.trans hX).rf2 (by omega)) (by omega) (by omega)
  · rw [yz_1] at h_3
    rw [yz_999] at h_3
    refine y_ret1 ?_
    refine y_if_eqT rfl j_X14_firm_68 (by decide) ?_
    refine y_iconst rfl ?_
    refine y_goto rfl j_X14_firm_73 ?_
    refine y_iconst rfl ?_
    refine y_virt rfl rfl rfl rfl rfl (ySh.t hS rfl) (ySh.n hS rfl) ?_
    refine y_in (M := xm_X14_start) (ls := [some _, some _, some _]) rfl rfl rfl ?_
    refine y_aload_n rfl rfl ?_
    refine y_iconst rfl ?_
    refine y_putI rfl (ySh.t hS rfl) (ySh.n hS rfl) rfl (Nat.le_of_ble_eq_true rfl) rfl rfl ?_
    refine y_nameI (fun I43 e43 => ?_)
    have hR1 := (hR0.grow hX).mod0 e43 (by decide) (by decide)
    have hK := (hK.x hRo hno hX).upI (upI e43) (by decide) (by decide) (fun i hi => by have := (hRo.l87.2.2.2.2 i hi).2.1; omega) (by rw [e43, upd2_ne (.inr (by decide))]; exact Int.le_refl _)
    have hth : I43 83 0 = Int32.ofInt (0) := by rw [e43, upd2_self]
    have hzz : ySz8 I I43 := ySz8_of (upI e43) (by rw [e43]; exact ⟨upd2_ne (.inr (by decide)), upd2_ne (.inr (by decide))⟩)
    have hB := (hB.trans hX).wr e43 rfl
    have h8 : ∀ a, 84 ≤ a → a ≤ 86 → I43 a = I a := fun a h1 h2 => (upI e43 a (by omega)).trans ((hX.2.1 a (by omega)).2.1.trans (h8 a h1 h2))
    have h3k : ∀ k, k ≠ 0 → I43 83 k = I 83 k := fun k hk => (congrFun (congrFun e43 83) k).trans ((upd2_ne (.inr hk)).trans ((congrFun (hX.2.1 83 (by omega)).2.1 k).trans (h3k k hk)))
    have hg := (hg.gx hX (by omega)).skip e43 (by decide)
    have hday : I43 83 1 = I 83 1 := (congrFun (congrFun e43 83) 1).trans ((upd2_ne (.inr (by decide))).trans ((congrFun (hX.2.1 83 (by omega)).2.1 1).trans hday))
    have hRb : ∀ a, a < n → R a = R a := fun a ha => (hX.2.1 a (by omega)).2.2.trans (hRb a ha)
    have hb83 : ∀ a, a ≠ 83 → a < n → I43 a = I a := fun a ha hb => (upI e43 a ha).trans ((hX.2.1 a (by omega)).2.1.trans (hb83 a ha hb))
    have hS0 := hS
    have hR0 := hR1
    have hn := Nat.le_refl n
    have h94 := hS0.1
    have hX := @yX.rf n tg I43 R
    have hS := hS0.x hX
    have hR := hR0.x hn hX
    have hz := hX.sz h94
    have hxn := hX.1
    have hN := hR0.1
    have hnb := hR0.2.2.2.2.2.2
    have hthB := hth
    refine y_aload_n rfl rfl ?_
    refine y_iload_n rfl rfl ?_
    refine y_iload_n rfl rfl ?_
    refine y_virt rfl rfl rfl rfl rfl (ySh.t hS rfl) (ySh.n hS rfl) ?_
    refine y_in (M := xm_X14_refuse) (ls := [some _, some _, some _]) rfl rfl rfl ?_
    refine y_iload_n rfl rfl ?_
    refine y_if_eqF rfl (by decide) ?_
    refine y_aload_n rfl rfl ?_
    refine y_getIv (v := Int32.ofInt (0)) rfl (ySh.t hS rfl) (ySh.n hS rfl) rfl rfl hth ?_
    refine y_if_neF rfl (by decide) ?_
    refine y_aload_n rfl rfl ?_
    refine y_iload_n rfl rfl ?_
    refine y_putI rfl (ySh.t hS rfl) (ySh.n hS rfl) rfl (Nat.le_of_ble_eq_true rfl) rfl rfl ?_
    refine y_nameI (fun I44 e44 => ?_)
    have hR1 := (hR0.grow hX).mod0 e44 (by decide) (by decide)
    have hK := (hK.x hRo hno hX).upI (upI e44) (by decide) (by decide) (fun i hi => by have := (hRo.l87.2.2.2.2 i hi).2.1; omega) (by rw [e44, upd2_ne (.inr (by decide))]; exact Int.le_refl _)
    have hth : I44 83 0 = Int32.ofInt (1) := by rw [e44, upd2_self]
    have hzz : ySz8 I43 I44 := ySz8_of (upI e44) (by rw [e44]; exact ⟨upd2_ne (.inr (by decide)), upd2_ne (.inr (by decide))⟩)
    have hB := (hB.trans hX).wr e44 rfl
    have h8 : ∀ a, 84 ≤ a → a ≤ 86 → I44 a = I a := fun a h1 h2 => (upI e44 a (by omega)).trans ((hX.2.1 a (by omega)).2.1.trans (h8 a h1 h2))
    have h3k : ∀ k, k ≠ 0 → I44 83 k = I 83 k := fun k hk => (congrFun (congrFun e44 83) k).trans ((upd2_ne (.inr hk)).trans ((congrFun (hX.2.1 83 (by omega)).2.1 k).trans (h3k k hk)))
    have hg := (hg.gx hX (by omega)).skip e44 (by decide)
    have hday : I44 83 1 = I 83 1 := (congrFun (congrFun e44 83) 1).trans ((upd2_ne (.inr (by decide))).trans ((congrFun (hX.2.1 83 (by omega)).2.1 1).trans hday))
    have hRb : ∀ a, a < n → R a = R a := fun a ha => (hX.2.1 a (by omega)).2.2.trans (hRb a ha)
    have hb83 : ∀ a, a ≠ 83 → a < n → I44 a = I a := fun a ha hb => (upI e44 a ha).trans ((hX.2.1 a (by omega)).2.1.trans (hb83 a ha hb))
    have hS0 := hS
    have hR0 := hR1
    have hn := Nat.le_refl n
    have h94 := hS0.1
    have hX := @yX.rf n tg I44 R
    have hS := hS0.x hX
    have hR := hR0.x hn hX
    have hz := hX.sz h94
    have hxn := hX.1
    have hN := hR0.1
    have hnb := hR0.2.2.2.2.2.2
    have hthB := hth
    refine y_aload_n rfl rfl ?_
    refine y_getIv (v := Int32.ofInt (1)) rfl (ySh.t hS rfl) (ySh.n hS rfl) rfl rfl hth ?_
    refine y_if_leF rfl (by decide) ?_
    refine y_iconst rfl ?_
    refine y_goto rfl j_X14_refuse_28 ?_
    refine y_ireturn rfl rfl rfl ?_
    refine y_ret1 ?_
    refine y_ireturn rfl rfl rfl ?_
    refine y_ret1 ?_
    refine y_if_neT rfl j_X14_firm_105 (by decide) ?_
    refine y_iconst rfl ?_
    refine y_ireturn rfl rfl rfl ?_
    exact hQ1 (by omega) _ _ _ _ _ _ _ hS ((hR0.grow hX).up (Nat.le_succ K) hk6) (hK.x hRo hno hX) hth (hg.gx hX (by omega)) (by omega) (by omega) (by omega) (by omega) (by omega) (fun l_ h1_ h2_ i_ _ => yAd_eq ((hX.2.1 l_ (by omega)).2.2.trans (hRb l_ (by omega))) ((hX.2.1 _ (by have := hRo.lt6 l_ h1_ h2_; omega)).2.2.trans (hRb _ (hRo.lt6 l_ h1_ h2_)))) ((hB.trans hX).rf2 (by omega)) (by omega) (by omega)
theorem h_person (hS0 : ySh n tg R) (hR0 : yRI K n tg I R) (hk6 : K < 600) {x1 : Int32} (hQ1 : ¬ (0 ≤ x1.toInt ∧ x1.toInt ≤ 9999) → ∀ (v : Int32) n1 tg1 I1 R1 c1 s1, ySh n1 tg1 R1 → yRI (K + 1) n1 tg1 I1 R1 → yKp n tg I R n1 tg1 I1 R1 → I1 83 0 = Int32.ofInt 1 → yRf n I R I1 R1 → c1 ≤ c + 0 → s1 ≤ s + 0 → Q (.inl (some (.int v))) (n1, tg1, I1, R1) c1 s1) (hQ2 : (0 ≤ x1.toInt ∧ x1.toInt ≤ 9999) ∧ (I 83 8).toInt = 8 → ∀ (v : Int32) n1 tg1 I1 R1 c1 s1, ySh n1 tg1 R1 → yRI (K + 1) n1 tg1 I1 R1 → yKp n tg I R n1 tg1 I1 R1 → I1 83 0 = Int32.ofInt 2 → yRf n I R I1 R1 → c1 ≤ c + 0 → s1 ≤ s + 0 → Q (.inl (some (.int v))) (n1, tg1, I1, R1) c1 s1) (hQ0 : (0 ≤ x1.toInt ∧ x1.toInt ≤ 9999) ∧ (I 83 8).toInt < 8 → ∀ (v : Int32) n1 tg1 I1 R1 c1 s1, ySh n1 tg1 R1 → yRI (K + 1) n1 tg1 I1 R1 → yKp n tg I R n1 tg1 I1 R1 → I1 83 0 = Int32.ofInt 0 → v.toInt = (I 83 8).toInt → yX n tg (upd2 (upd2 (upd2 I 83 0 (Int32.ofInt 0)) 84 (I 83 8).toInt.toNat x1) 83 8 (I 83 8 + Int32.ofInt 1)) R n1 tg1 I1 R1 → c1 ≤ c + 0 → s1 ≤ s + 0 → Q (.inl (some (.int v))) (n1, tg1, I1, R1) c1 s1) : yC 195 [.ref 83, .int x1] (n, tg, I, R) c s Q := by
  have hno := Nat.le_refl n
  have hn := hno
  have hRo := hR0
  have hK : yKp n tg I R n tg I R := yKp.rf
  have hX : yX n tg I R n tg I R := yX.rf
  have hS := hS0
  have hR := hR0
  have h94 : 94 ≤ n := hS0.1
  have hz : ySz I I := hX.sz h94
  have hxn := hX.1
  have hN := hR0.1
  have hnb : 94 ≤ n := hR0.2.2.2.2.2.2
  have hg : yGm n I I := yGm.rf
  have hday : I 83 1 = I 83 1 := rfl
  have hb83 : ∀ a, a ≠ 83 → a < n → I a = I a := fun _ _ _ => rfl
  have hRb : ∀ a, a < n → R a = R a := fun _ _ => rfl
  have hB : yX n tg I R n tg I R := yX.rf
  have h8 : ∀ a, 84 ≤ a → a ≤ 86 → I a = I a := fun _ _ _ => rfl
  have h3k : ∀ k, k ≠ 0 → I 83 k = I 83 k := fun _ _ => rfl
  refine y_in (M := xm_X14_person) (ls := [some _, some _]) rfl rfl rfl ?_
  refine y_aload_n rfl rfl ?_
  refine y_iload_n rfl rfl ?_
  refine y_iconst rfl ?_
  refine y_sip rfl (by decide) ?_
  refine y_static rfl rfl rfl rfl rfl ?_
  refine r_isIn (fun h_1 h_2 => ?_) (fun h_3 => ?_)
  · rw [yz_0] at h_1
    rw [yz_9999] at h_2
    refine y_ret1 ?_
    refine y_if_neT rfl j_X14_person_16 (by decide) ?_
    refine y_iconst rfl ?_
    refine y_iconst rfl ?_
    refine y_virt rfl rfl rfl rfl rfl (ySh.t hS rfl) (ySh.n hS rfl) ?_
    refine y_in (M := xm_X14_start) (ls := [some _, some _, some _]) rfl rfl rfl ?_
    refine y_aload_n rfl rfl ?_
    refine y_iconst rfl ?_
    refine y_putI rfl (ySh.t hS rfl) (ySh.n hS rfl) rfl (Nat.le_of_ble_eq_true rfl) rfl rfl ?_
    refine y_nameI (fun I4 e4 => ?_)
    have hR1 := (hR0.grow hX).mod0 e4 (by decide) (by decide)
    have hK := (hK.x hRo hno hX).upI (upI e4) (by decide) (by decide) (fun i hi => by have := (hRo.l87.2.2.2.2 i hi).2.1; omega) (by rw [e4, upd2_ne (.inr (by decide))]; exact Int.le_refl _)
    have hth : I4 83 0 = Int32.ofInt (0) := by rw [e4, upd2_self]
    have hzz : ySz8 I I4 := ySz8_of (upI e4) (by rw [e4]; exact ⟨upd2_ne (.inr (by decide)), upd2_ne (.inr (by decide))⟩)
    have hB := (hB.trans hX).wr e4 rfl
    have h8 : ∀ a, 84 ≤ a → a ≤ 86 → I4 a = I a := fun a h1 h2 => (upI e4 a (by omega)).trans ((hX.2.1 a (by omega)).2.1.trans (h8 a h1 h2))
    have h3k : ∀ k, k ≠ 0 → I4 83 k = I 83 k := fun k hk => (congrFun (congrFun e4 83) k).trans ((upd2_ne (.inr hk)).trans ((congrFun (hX.2.1 83 (by omega)).2.1 k).trans (h3k k hk)))
    have hg := (hg.gx hX (by omega)).skip e4 (by decide)
    have hday : I4 83 1 = I 83 1 := (congrFun (congrFun e4 83) 1).trans ((upd2_ne (.inr (by decide))).trans ((congrFun (hX.2.1 83 (by omega)).2.1 1).trans hday))
    have hRb : ∀ a, a < n → R a = R a := fun a ha => (hX.2.1 a (by omega)).2.2.trans (hRb a ha)
    have hb83 : ∀ a, a ≠ 83 → a < n → I4 a = I a := fun a ha hb => (upI e4 a ha).trans ((hX.2.1 a (by omega)).2.1.trans (hb83 a ha hb))
    have hS0 := hS
    have hR0 := hR1
    have hn := Nat.le_refl n
    have h94 := hS0.1
    have hX := @yX.rf n tg I4 R
    have hS := hS0.x hX
    have hR := hR0.x hn hX
    have hz := hX.sz h94
    have hxn := hX.1
    have hN := hR0.1
    have hnb := hR0.2.2.2.2.2.2
    have hthB := hth
    refine y_aload_n rfl rfl ?_
    refine y_iload_n rfl rfl ?_
    refine y_iload_n rfl rfl ?_
    refine y_virt rfl rfl rfl rfl rfl (ySh.t hS rfl) (ySh.n hS rfl) ?_
    refine y_in (M := xm_X14_refuse) (ls := [some _, some _, some _]) rfl rfl rfl ?_
    refine y_iload_n rfl rfl ?_
    refine y_if_eqT rfl j_X14_refuse_16 (by decide) ?_
    refine y_aload_n rfl rfl ?_
    refine y_getIv (v := Int32.ofInt (0)) rfl (ySh.t hS rfl) (ySh.n hS rfl) rfl rfl hth ?_
    refine y_if_leT rfl j_X14_refuse_27 (by decide) ?_
    refine y_iconst rfl ?_
    refine y_ireturn rfl rfl rfl ?_
    refine y_ret1 ?_
    refine y_ireturn rfl rfl rfl ?_
    refine y_ret1 ?_
    refine y_if_neF rfl (by decide) ?_
    refine y_aload_n rfl rfl ?_
    refine y_aload_n rfl rfl ?_
    refine y_getIv (v := I 83 8) rfl (ySh.t hS rfl) (ySh.n hS rfl) rfl rfl ((congrFun ((hB.trans hX).n (by omega : 83 < n)) 8).trans (by repeat (first | rfl | rw [upd2_ne (by first | exact .inl (by omega) | exact .inr (by decide))]))) ?_
    refine y_bip rfl (by decide) ?_
    refine y_icmp_ne rfl j_X14_person_38 (fun h_5 => ?_) (fun h_6 => ?_)
    · rw [yz_8] at h_5
      refine y_iconst rfl ?_
      refine y_iconst rfl ?_
      refine y_virt rfl rfl rfl rfl rfl (ySh.t hS rfl) (ySh.n hS rfl) ?_
      refine y_in (M := xm_X14_refuse) (ls := [some _, some _, some _]) rfl rfl rfl ?_
      refine y_iload_n rfl rfl ?_
      refine y_if_eqT rfl j_X14_refuse_16 (by decide) ?_
      refine y_aload_n rfl rfl ?_
      refine y_getIv (v := Int32.ofInt (0)) rfl (ySh.t hS rfl) (ySh.n hS rfl) rfl rfl hth ?_
      refine y_if_leT rfl j_X14_refuse_27 (by decide) ?_
      refine y_iconst rfl ?_
      refine y_ireturn rfl rfl rfl ?_
      refine y_ret1 ?_
      refine y_if_eqT rfl j_X14_person_48 (by decide) ?_
      refine y_aload_n rfl rfl ?_
      refine y_getR rfl (ySh.t hS rfl) (ySh.n hS rfl) rfl rfl (ySh.r hS rfl) ?_
      refine y_aload_n rfl rfl ?_
      refine y_getIv (v := I 83 8) rfl (ySh.t hS rfl) (ySh.n hS rfl) rfl rfl ((congrFun ((hB.trans hX).n (by omega : 83 < n)) 8).trans (by repeat (first | rfl | rw [upd2_ne (by first | exact .inl (by omega) | exact .inr (by decide))]))) ?_
      refine y_iload_n rfl rfl ?_
      refine y_iastore rfl (ySh.t hS rfl) (ySh.n hS rfl) (Nat.le_of_ble_eq_true rfl) (by omega) (by omega) ?_
      refine y_nameI (fun I7 e7 => ?_)
      have hR1 := (hR0.grow hX).arr e7 (by decide)
      have hK := (hK.x hRo hno hX).upI (upI e7) (by decide) (by decide) (fun i hi => by have := (hRo.l87.2.2.2.2 i hi).2.1; omega) (by rw [e7, upd2_ne (.inl (by omega))]; exact Int.le_refl _)
      have hth := (show I7 83 0 = I4 83 0 by rw [e7, upd2_ne (.inl (by omega))]).trans hth
      have hzz : ySz I4 I7 := ySz_ofE (upI e7) (by omega)
      have hB := (hB.trans hX).wr e7 rfl
      have h3k : ∀ k, k ≠ 0 → I7 83 k = I 83 k := fun k hk => (congrFun (congrFun e7 83) k).trans ((upd2_ne (.inl (by omega))).trans ((congrFun (hX.2.1 83 (by omega)).2.1 k).trans (h3k k hk)))
      have hg := (hg.gx hX (by omega)).skip e7 (by decide)
      have hday : I7 83 1 = I 83 1 := (congrFun (congrFun e7 83) 1).trans ((upd2_ne (.inl (by omega))).trans ((congrFun (hX.2.1 83 (by omega)).2.1 1).trans hday))
      have hRb : ∀ a, a < n → R a = R a := fun a ha => (hX.2.1 a (by omega)).2.2.trans (hRb a ha)
      have hS0 := hS
      have hR0 := hR1
      have hn := Nat.le_refl n
      have h94 := hS0.1
      have hX := @yX.rf n tg I7 R
      have hS := hS0.x hX
      have hR := hR0.x hn hX
      have hz := hX.sz h94
      have hxn := hX.1
      have hN := hR0.1
      have hnb := hR0.2.2.2.2.2.2
      have hthB := hth
      refine y_aload_n rfl rfl ?_
      refine y_dup rfl rfl ?_
      refine y_getIv (v := I 83 8) rfl (ySh.t hS rfl) (ySh.n hS rfl) rfl rfl ((congrFun ((hB.trans hX).n (by omega : 83 < n)) 8).trans (by repeat (first | rfl | rw [upd2_ne (by first | exact .inl (by omega) | exact .inr (by decide))]))) ?_
      refine y_iconst rfl ?_
      refine y_iadd rfl ?_
      refine y_putI rfl (ySh.t hS rfl) (ySh.n hS rfl) rfl (Nat.le_of_ble_eq_true rfl) rfl rfl ?_
      refine y_nameI (fun I8 e8 => ?_)
      have hR1 := (hR0.grow hX).mod (upI e8) (by rw [e8, upd2_self, yinc (by omega)]; omega) ⟨by rw [e8, upd2_ne (.inr (by decide))]; exact Int.le_refl _, by rw [e8, upd2_ne (.inr (by decide))]; omega⟩
      have hK := (hK.x hRo hno hX).upI (upI e8) (by decide) (by decide) (fun i hi => by have := (hRo.l87.2.2.2.2 i hi).2.1; omega) (by rw [e8, upd2_ne (.inr (by decide))]; exact Int.le_refl _)
      have hth := (show I8 83 0 = I7 83 0 by rw [e8, upd2_ne (.inr (by decide))]).trans hth
      have hzz : (I8 83 8).toInt = (I7 83 8).toInt + 1 := by rw [e8, upd2_self, yinc (by omega)]; exact congrArg (· + 1) (congrArg Int32.toInt ((congrFun ((hB.trans hX).n (by omega : 83 < n)) 8).trans (by repeat (first | rfl | rw [upd2_ne (by first | exact .inl (by omega) | exact .inr (by decide))])))).symm
      have hB := (hB.trans hX).wr e8 rfl
      have hg := (hg.gx hX (by omega)).skip e8 (by decide)
      have hday : I8 83 1 = I 83 1 := (congrFun (congrFun e8 83) 1).trans ((upd2_ne (.inr (by decide))).trans ((congrFun (hX.2.1 83 (by omega)).2.1 1).trans hday))
      have hRb : ∀ a, a < n → R a = R a := fun a ha => (hX.2.1 a (by omega)).2.2.trans (hRb a ha)
      have hS0 := hS
      have hR0 := hR1
      have hn := Nat.le_refl n
      have h94 := hS0.1
      have hX := @yX.rf n tg I8 R
      have hS := hS0.x hX
      have hR := hR0.x hn hX
      have hz := hX.sz h94
      have hxn := hX.1
      have hN := hR0.1
      have hnb := hR0.2.2.2.2.2.2
      have hthB := hth
      refine y_aload_n rfl rfl ?_
      refine y_getI rfl (ySh.t hS rfl) (ySh.n hS rfl) rfl rfl ?_
      refine y_iconst rfl ?_
      refine y_isub rfl ?_
      refine y_ireturn rfl rfl rfl ?_
      exact hQ0 (by omega) _ _ _ _ _ _ _ hS ((hR0.grow hX).up (Nat.le_succ K) hk6) (hK.x hRo hno hX) hth (by first | omega | (rw [ysub (by rw [yz_1]; omega) (by rw [yz_1]; omega), yz_1]; omega)) (hB.trans hX) (by omega) (by omega)
    · rw [yz_8] at h_6
      refine y_iconst rfl ?_
      refine y_goto rfl j_X14_person_39 ?_
      refine y_iconst rfl ?_
      refine y_virt rfl rfl rfl rfl rfl (ySh.t hS rfl) (ySh.n hS rfl) ?_
      refine y_in (M := xm_X14_refuse) (ls := [some _, some _, some _]) rfl rfl rfl ?_
      refine y_iload_n rfl rfl ?_
      refine y_if_eqF rfl (by decide) ?_
      refine y_aload_n rfl rfl ?_
      refine y_getIv (v := Int32.ofInt (0)) rfl (ySh.t hS rfl) (ySh.n hS rfl) rfl rfl hth ?_
      refine y_if_neF rfl (by decide) ?_
      refine y_aload_n rfl rfl ?_
      refine y_iload_n rfl rfl ?_
      refine y_putI rfl (ySh.t hS rfl) (ySh.n hS rfl) rfl (Nat.le_of_ble_eq_true rfl) rfl rfl ?_
      refine y_nameI (fun I9 e9 => ?_)
      have hR1 := (hR0.grow hX).mod0 e9 (by decide) (by decide)
      have hK := (hK.x hRo hno hX).upI (upI e9) (by decide) (by decide) (fun i hi => by have := (hRo.l87.2.2.2.2 i hi).2.1; omega) (by rw [e9, upd2_ne (.inr (by decide))]; exact Int.le_refl _)
      have hth : I9 83 0 = Int32.ofInt (2) := by rw [e9, upd2_self]
      have hzz : ySz8 I4 I9 := ySz8_of (upI e9) (by rw [e9]; exact ⟨upd2_ne (.inr (by decide)), upd2_ne (.inr (by decide))⟩)
      have hB := (hB.trans hX).wr e9 rfl
      have h8 : ∀ a, 84 ≤ a → a ≤ 86 → I9 a = I a := fun a h1 h2 => (upI e9 a (by omega)).trans ((hX.2.1 a (by omega)).2.1.trans (h8 a h1 h2))
      have h3k : ∀ k, k ≠ 0 → I9 83 k = I 83 k := fun k hk => (congrFun (congrFun e9 83) k).trans ((upd2_ne (.inr hk)).trans ((congrFun (hX.2.1 83 (by omega)).2.1 k).trans (h3k k hk)))
      have hg := (hg.gx hX (by omega)).skip e9 (by decide)
      have hday : I9 83 1 = I 83 1 := (congrFun (congrFun e9 83) 1).trans ((upd2_ne (.inr (by decide))).trans ((congrFun (hX.2.1 83 (by omega)).2.1 1).trans hday))
      have hRb : ∀ a, a < n → R a = R a := fun a ha => (hX.2.1 a (by omega)).2.2.trans (hRb a ha)
      have hb83 : ∀ a, a ≠ 83 → a < n → I9 a = I a := fun a ha hb => (upI e9 a ha).trans ((hX.2.1 a (by omega)).2.1.trans (hb83 a ha hb))
      have hS0 := hS
      have hR0 := hR1
      have hn := Nat.le_refl n
      have h94 := hS0.1
      have hX := @yX.rf n tg I9 R
      have hS := hS0.x hX
      have hR := hR0.x hn hX
      have hz := hX.sz h94
      have hxn := hX.1
      have hN := hR0.1
      have hnb := hR0.2.2.2.2.2.2
      have hthB := hth
      refine y_aload_n rfl rfl ?_
      refine y_getIv (v := Int32.ofInt (2)) rfl (ySh.t hS rfl) (ySh.n hS rfl) rfl rfl hth ?_
      refine y_if_leF rfl (by decide) ?_
      refine y_iconst rfl ?_
      refine y_goto rfl j_X14_refuse_28 ?_
      refine y_ireturn rfl rfl rfl ?_
      refine y_ret1 ?_
      refine y_if_eqF rfl (by decide) ?_
      refine y_iconst rfl ?_
      refine y_ireturn rfl rfl rfl ?_
      exact hQ2 (by omega) _ _ _ _ _ _ _ hS ((hR0.grow hX).up (Nat.le_succ K) hk6) (hK.x hRo hno hX) hth ((hB.trans hX).rf2 (by omega)) (by omega) (by omega)
  · rw [yz_0] at h_3
    rw [yz_9999] at h_3
    refine y_ret1 ?_
    refine y_if_neF rfl (by decide) ?_
    refine y_iconst rfl ?_
    refine y_goto rfl j_X14_person_17 ?_
    refine y_iconst rfl ?_
    refine y_virt rfl rfl rfl rfl rfl (ySh.t hS rfl) (ySh.n hS rfl) ?_
    refine y_in (M := xm_X14_start) (ls := [some _, some _, some _]) rfl rfl rfl ?_
    refine y_aload_n rfl rfl ?_
    refine y_iconst rfl ?_
    refine y_putI rfl (ySh.t hS rfl) (ySh.n hS rfl) rfl (Nat.le_of_ble_eq_true rfl) rfl rfl ?_
    refine y_nameI (fun I10 e10 => ?_)
    have hR1 := (hR0.grow hX).mod0 e10 (by decide) (by decide)
    have hK := (hK.x hRo hno hX).upI (upI e10) (by decide) (by decide) (fun i hi => by have := (hRo.l87.2.2.2.2 i hi).2.1; omega) (by rw [e10, upd2_ne (.inr (by decide))]; exact Int.le_refl _)
    have hth : I10 83 0 = Int32.ofInt (0) := by rw [e10, upd2_self]
    have hzz : ySz8 I I10 := ySz8_of (upI e10) (by rw [e10]; exact ⟨upd2_ne (.inr (by decide)), upd2_ne (.inr (by decide))⟩)
    have hB := (hB.trans hX).wr e10 rfl
    have h8 : ∀ a, 84 ≤ a → a ≤ 86 → I10 a = I a := fun a h1 h2 => (upI e10 a (by omega)).trans ((hX.2.1 a (by omega)).2.1.trans (h8 a h1 h2))
    have h3k : ∀ k, k ≠ 0 → I10 83 k = I 83 k := fun k hk => (congrFun (congrFun e10 83) k).trans ((upd2_ne (.inr hk)).trans ((congrFun (hX.2.1 83 (by omega)).2.1 k).trans (h3k k hk)))
    have hg := (hg.gx hX (by omega)).skip e10 (by decide)
    have hday : I10 83 1 = I 83 1 := (congrFun (congrFun e10 83) 1).trans ((upd2_ne (.inr (by decide))).trans ((congrFun (hX.2.1 83 (by omega)).2.1 1).trans hday))
    have hRb : ∀ a, a < n → R a = R a := fun a ha => (hX.2.1 a (by omega)).2.2.trans (hRb a ha)
    have hb83 : ∀ a, a ≠ 83 → a < n → I10 a = I a := fun a ha hb => (upI e10 a ha).trans ((hX.2.1 a (by omega)).2.1.trans (hb83 a ha hb))
    have hS0 := hS
    have hR0 := hR1
    have hn := Nat.le_refl n
    have h94 := hS0.1
    have hX := @yX.rf n tg I10 R
    have hS := hS0.x hX
    have hR := hR0.x hn hX
    have hz := hX.sz h94
    have hxn := hX.1
    have hN := hR0.1
    have hnb := hR0.2.2.2.2.2.2
    have hthB := hth
    refine y_aload_n rfl rfl ?_
    refine y_iload_n rfl rfl ?_
    refine y_iload_n rfl rfl ?_
    refine y_virt rfl rfl rfl rfl rfl (ySh.t hS rfl) (ySh.n hS rfl) ?_
    refine y_in (M := xm_X14_refuse) (ls := [some _, some _, some _]) rfl rfl rfl ?_
    refine y_iload_n rfl rfl ?_
    refine y_if_eqF rfl (by decide) ?_
    refine y_aload_n rfl rfl ?_
    refine y_getIv (v := Int32.ofInt (0)) rfl (ySh.t hS rfl) (ySh.n hS rfl) rfl rfl hth ?_
    refine y_if_neF rfl (by decide) ?_
    refine y_aload_n rfl rfl ?_
    refine y_iload_n rfl rfl ?_
    refine y_putI rfl (ySh.t hS rfl) (ySh.n hS rfl) rfl (Nat.le_of_ble_eq_true rfl) rfl rfl ?_
    refine y_nameI (fun I11 e11 => ?_)
    have hR1 := (hR0.grow hX).mod0 e11 (by decide) (by decide)
    have hK := (hK.x hRo hno hX).upI (upI e11) (by decide) (by decide) (fun i hi => by have := (hRo.l87.2.2.2.2 i hi).2.1; omega) (by rw [e11, upd2_ne (.inr (by decide))]; exact Int.le_refl _)
    have hth : I11 83 0 = Int32.ofInt (1) := by rw [e11, upd2_self]
    have hzz : ySz8 I10 I11 := ySz8_of (upI e11) (by rw [e11]; exact ⟨upd2_ne (.inr (by decide)), upd2_ne (.inr (by decide))⟩)
    have hB := (hB.trans hX).wr e11 rfl
    have h8 : ∀ a, 84 ≤ a → a ≤ 86 → I11 a = I a := fun a h1 h2 => (upI e11 a (by omega)).trans ((hX.2.1 a (by omega)).2.1.trans (h8 a h1 h2))
    have h3k : ∀ k, k ≠ 0 → I11 83 k = I 83 k := fun k hk => (congrFun (congrFun e11 83) k).trans ((upd2_ne (.inr hk)).trans ((congrFun (hX.2.1 83 (by omega)).2.1 k).trans (h3k k hk)))
    have hg := (hg.gx hX (by omega)).skip e11 (by decide)
    have hday : I11 83 1 = I 83 1 := (congrFun (congrFun e11 83) 1).trans ((upd2_ne (.inr (by decide))).trans ((congrFun (hX.2.1 83 (by omega)).2.1 1).trans hday))
    have hRb : ∀ a, a < n → R a = R a := fun a ha => (hX.2.1 a (by omega)).2.2.trans (hRb a ha)
    have hb83 : ∀ a, a ≠ 83 → a < n → I11 a = I a := fun a ha hb => (upI e11 a ha).trans ((hX.2.1 a (by omega)).2.1.trans (hb83 a ha hb))
    have hS0 := hS
    have hR0 := hR1
    have hn := Nat.le_refl n
    have h94 := hS0.1
    have hX := @yX.rf n tg I11 R
    have hS := hS0.x hX
    have hR := hR0.x hn hX
    have hz := hX.sz h94
    have hxn := hX.1
    have hN := hR0.1
    have hnb := hR0.2.2.2.2.2.2
    have hthB := hth
    refine y_aload_n rfl rfl ?_
    refine y_getIv (v := Int32.ofInt (1)) rfl (ySh.t hS rfl) (ySh.n hS rfl) rfl rfl hth ?_
    refine y_if_leF rfl (by decide) ?_
    refine y_iconst rfl ?_
    refine y_goto rfl j_X14_refuse_28 ?_
    refine y_ireturn rfl rfl rfl ?_
    refine y_ret1 ?_
    refine y_ireturn rfl rfl rfl ?_
    refine y_ret1 ?_
    refine y_if_neT rfl j_X14_person_46 (by decide) ?_
    refine y_iconst rfl ?_
    refine y_ireturn rfl rfl rfl ?_
    exact hQ1 (by omega) _ _ _ _ _ _ _ hS ((hR0.grow hX).up (Nat.le_succ K) hk6) (hK.x hRo hno hX) hth ((hB.trans hX).rf2 (by omega)) (by omega) (by omega)
theorem h_benchmark (hS0 : ySh n tg R) (hR0 : yRI K n tg I R) (hk6 : K < 600) {x1 : Int32} (hQ1 : ¬ (0 ≤ x1.toInt ∧ x1.toInt ≤ 99) → ∀ (v : Int32) n1 tg1 I1 R1 c1 s1, ySh n1 tg1 R1 → yRI (K + 1) n1 tg1 I1 R1 → yKp n tg I R n1 tg1 I1 R1 → I1 83 0 = Int32.ofInt 1 → yRf n I R I1 R1 → c1 ≤ c + 0 → s1 ≤ s + 0 → Q (.inl (some (.int v))) (n1, tg1, I1, R1) c1 s1) (hQ0 : (0 ≤ x1.toInt ∧ x1.toInt ≤ 99) → ∀ (v : Int32) n1 tg1 I1 R1 c1 s1, ySh n1 tg1 R1 → yRI (K + 1) n1 tg1 I1 R1 → yKp n tg I R n1 tg1 I1 R1 → I1 83 0 = Int32.ofInt 0 → v = I 83 4 → yX n tg (upd2 (upd2 I 83 0 (Int32.ofInt 0)) 83 4 x1) R n1 tg1 I1 R1 → c1 ≤ c + 0 → s1 ≤ s + 0 → Q (.inl (some (.int v))) (n1, tg1, I1, R1) c1 s1) : yC 205 [.ref 83, .int x1] (n, tg, I, R) c s Q := by
  have hno := Nat.le_refl n
  have hn := hno
  have hRo := hR0
  have hK : yKp n tg I R n tg I R := yKp.rf
  have hX : yX n tg I R n tg I R := yX.rf
  have hS := hS0
  have hR := hR0
  have h94 : 94 ≤ n := hS0.1
  have hz : ySz I I := hX.sz h94
  have hxn := hX.1
  have hN := hR0.1
  have hnb : 94 ≤ n := hR0.2.2.2.2.2.2
  have hg : yGm n I I := yGm.rf
  have hday : I 83 1 = I 83 1 := rfl
  have hb83 : ∀ a, a ≠ 83 → a < n → I a = I a := fun _ _ _ => rfl
  have hRb : ∀ a, a < n → R a = R a := fun _ _ => rfl
  have hB : yX n tg I R n tg I R := yX.rf
  have h8 : ∀ a, 84 ≤ a → a ≤ 86 → I a = I a := fun _ _ _ => rfl
  have h3k : ∀ k, k ≠ 0 → I 83 k = I 83 k := fun _ _ => rfl
  refine y_in (M := xm_X14_benchmark) (ls := [some _, some _, _]) rfl rfl rfl ?_
  refine y_aload_n rfl rfl ?_
  refine y_iload_n rfl rfl ?_
  refine y_iconst rfl ?_
  refine y_bip rfl (by decide) ?_
  refine y_static rfl rfl rfl rfl rfl ?_
  refine r_isIn (fun h_1 h_2 => ?_) (fun h_3 => ?_)
  · rw [yz_0] at h_1
    rw [yz_99] at h_2
    refine y_ret1 ?_
    refine y_if_neT rfl j_X14_benchmark_15 (by decide) ?_
    refine y_iconst rfl ?_
    refine y_iconst rfl ?_
    refine y_virt rfl rfl rfl rfl rfl (ySh.t hS rfl) (ySh.n hS rfl) ?_
    refine y_in (M := xm_X14_start) (ls := [some _, some _, some _]) rfl rfl rfl ?_
    refine y_aload_n rfl rfl ?_
    refine y_iconst rfl ?_
    refine y_putI rfl (ySh.t hS rfl) (ySh.n hS rfl) rfl (Nat.le_of_ble_eq_true rfl) rfl rfl ?_
    refine y_nameI (fun I4 e4 => ?_)
    have hR1 := (hR0.grow hX).mod0 e4 (by decide) (by decide)
    have hK := (hK.x hRo hno hX).upI (upI e4) (by decide) (by decide) (fun i hi => by have := (hRo.l87.2.2.2.2 i hi).2.1; omega) (by rw [e4, upd2_ne (.inr (by decide))]; exact Int.le_refl _)
    have hth : I4 83 0 = Int32.ofInt (0) := by rw [e4, upd2_self]
    have hzz : ySz8 I I4 := ySz8_of (upI e4) (by rw [e4]; exact ⟨upd2_ne (.inr (by decide)), upd2_ne (.inr (by decide))⟩)
    have hB := (hB.trans hX).wr e4 rfl
    have h8 : ∀ a, 84 ≤ a → a ≤ 86 → I4 a = I a := fun a h1 h2 => (upI e4 a (by omega)).trans ((hX.2.1 a (by omega)).2.1.trans (h8 a h1 h2))
    have h3k : ∀ k, k ≠ 0 → I4 83 k = I 83 k := fun k hk => (congrFun (congrFun e4 83) k).trans ((upd2_ne (.inr hk)).trans ((congrFun (hX.2.1 83 (by omega)).2.1 k).trans (h3k k hk)))
    have hg := (hg.gx hX (by omega)).skip e4 (by decide)
    have hday : I4 83 1 = I 83 1 := (congrFun (congrFun e4 83) 1).trans ((upd2_ne (.inr (by decide))).trans ((congrFun (hX.2.1 83 (by omega)).2.1 1).trans hday))
    have hRb : ∀ a, a < n → R a = R a := fun a ha => (hX.2.1 a (by omega)).2.2.trans (hRb a ha)
    have hb83 : ∀ a, a ≠ 83 → a < n → I4 a = I a := fun a ha hb => (upI e4 a ha).trans ((hX.2.1 a (by omega)).2.1.trans (hb83 a ha hb))
    have hS0 := hS
    have hR0 := hR1
    have hn := Nat.le_refl n
    have h94 := hS0.1
    have hX := @yX.rf n tg I4 R
    have hS := hS0.x hX
    have hR := hR0.x hn hX
    have hz := hX.sz h94
    have hxn := hX.1
    have hN := hR0.1
    have hnb := hR0.2.2.2.2.2.2
    have hthB := hth
    refine y_aload_n rfl rfl ?_
    refine y_iload_n rfl rfl ?_
    refine y_iload_n rfl rfl ?_
    refine y_virt rfl rfl rfl rfl rfl (ySh.t hS rfl) (ySh.n hS rfl) ?_
    refine y_in (M := xm_X14_refuse) (ls := [some _, some _, some _]) rfl rfl rfl ?_
    refine y_iload_n rfl rfl ?_
    refine y_if_eqT rfl j_X14_refuse_16 (by decide) ?_
    refine y_aload_n rfl rfl ?_
    refine y_getIv (v := Int32.ofInt (0)) rfl (ySh.t hS rfl) (ySh.n hS rfl) rfl rfl hth ?_
    refine y_if_leT rfl j_X14_refuse_27 (by decide) ?_
    refine y_iconst rfl ?_
    refine y_ireturn rfl rfl rfl ?_
    refine y_ret1 ?_
    refine y_ireturn rfl rfl rfl ?_
    refine y_ret1 ?_
    refine y_if_eqT rfl j_X14_benchmark_25 (by decide) ?_
    refine y_aload_n rfl rfl ?_
    refine y_getIv (v := I 83 4) rfl (ySh.t hS rfl) (ySh.n hS rfl) rfl rfl ((congrFun ((hB.trans hX).n (by omega : 83 < n)) 4).trans (by repeat (first | rfl | rw [upd2_ne (by first | exact .inl (by omega) | exact .inr (by decide))]))) ?_
    refine y_istore_n (ls' := [some _, some _, some _]) rfl rfl rfl ?_
    refine y_aload_n rfl rfl ?_
    refine y_iload_n rfl rfl ?_
    refine y_putI rfl (ySh.t hS rfl) (ySh.n hS rfl) rfl (Nat.le_of_ble_eq_true rfl) rfl rfl ?_
    refine y_nameI (fun I5 e5 => ?_)
    have hR1 := (hR0.grow hX).mod0 e5 (by decide) (by decide)
    have hK := (hK.x hRo hno hX).upI (upI e5) (by decide) (by decide) (fun i hi => by have := (hRo.l87.2.2.2.2 i hi).2.1; omega) (by rw [e5, upd2_ne (.inr (by decide))]; exact Int.le_refl _)
    have hth := (show I5 83 0 = I4 83 0 by rw [e5, upd2_ne (.inr (by decide))]).trans hth
    have hzz : ySz I4 I5 := ySz_ofM (upI e5) (by rw [e5]; exact ⟨upd2_ne (.inr (by decide)), upd2_ne (.inr (by decide)), upd2_ne (.inr (by decide))⟩)
    have hB := (hB.trans hX).wr e5 rfl
    have h8 : ∀ a, 84 ≤ a → a ≤ 86 → I5 a = I a := fun a h1 h2 => (upI e5 a (by omega)).trans ((hX.2.1 a (by omega)).2.1.trans (h8 a h1 h2))
    have hg := (hg.gx hX (by omega)).skip e5 (by decide)
    have hday : I5 83 1 = I 83 1 := (congrFun (congrFun e5 83) 1).trans ((upd2_ne (.inr (by decide))).trans ((congrFun (hX.2.1 83 (by omega)).2.1 1).trans hday))
    have hRb : ∀ a, a < n → R a = R a := fun a ha => (hX.2.1 a (by omega)).2.2.trans (hRb a ha)
    have hb83 : ∀ a, a ≠ 83 → a < n → I5 a = I a := fun a ha hb => (upI e5 a ha).trans ((hX.2.1 a (by omega)).2.1.trans (hb83 a ha hb))
    have hS0 := hS
    have hR0 := hR1
    have hn := Nat.le_refl n
    have h94 := hS0.1
    have hX := @yX.rf n tg I5 R
    have hS := hS0.x hX
    have hR := hR0.x hn hX
    have hz := hX.sz h94
    have hxn := hX.1
    have hN := hR0.1
    have hnb := hR0.2.2.2.2.2.2
    have hthB := hth
    refine y_iload_n rfl rfl ?_
    refine y_ireturn rfl rfl rfl ?_
    exact hQ0 (by omega) _ _ _ _ _ _ _ hS ((hR0.grow hX).up (Nat.le_succ K) hk6) (hK.x hRo hno hX) hth rfl (hB.trans hX) (by omega) (by omega)
  · rw [yz_0] at h_3
    rw [yz_99] at h_3
    refine y_ret1 ?_
    refine y_if_neF rfl (by decide) ?_
    refine y_iconst rfl ?_
    refine y_goto rfl j_X14_benchmark_16 ?_
    refine y_iconst rfl ?_
    refine y_virt rfl rfl rfl rfl rfl (ySh.t hS rfl) (ySh.n hS rfl) ?_
    refine y_in (M := xm_X14_start) (ls := [some _, some _, some _]) rfl rfl rfl ?_
    refine y_aload_n rfl rfl ?_
    refine y_iconst rfl ?_
    refine y_putI rfl (ySh.t hS rfl) (ySh.n hS rfl) rfl (Nat.le_of_ble_eq_true rfl) rfl rfl ?_
    refine y_nameI (fun I6 e6 => ?_)
    have hR1 := (hR0.grow hX).mod0 e6 (by decide) (by decide)
    have hK := (hK.x hRo hno hX).upI (upI e6) (by decide) (by decide) (fun i hi => by have := (hRo.l87.2.2.2.2 i hi).2.1; omega) (by rw [e6, upd2_ne (.inr (by decide))]; exact Int.le_refl _)
    have hth : I6 83 0 = Int32.ofInt (0) := by rw [e6, upd2_self]
    have hzz : ySz8 I I6 := ySz8_of (upI e6) (by rw [e6]; exact ⟨upd2_ne (.inr (by decide)), upd2_ne (.inr (by decide))⟩)
    have hB := (hB.trans hX).wr e6 rfl
    have h8 : ∀ a, 84 ≤ a → a ≤ 86 → I6 a = I a := fun a h1 h2 => (upI e6 a (by omega)).trans ((hX.2.1 a (by omega)).2.1.trans (h8 a h1 h2))
    have h3k : ∀ k, k ≠ 0 → I6 83 k = I 83 k := fun k hk => (congrFun (congrFun e6 83) k).trans ((upd2_ne (.inr hk)).trans ((congrFun (hX.2.1 83 (by omega)).2.1 k).trans (h3k k hk)))
    have hg := (hg.gx hX (by omega)).skip e6 (by decide)
    have hday : I6 83 1 = I 83 1 := (congrFun (congrFun e6 83) 1).trans ((upd2_ne (.inr (by decide))).trans ((congrFun (hX.2.1 83 (by omega)).2.1 1).trans hday))
    have hRb : ∀ a, a < n → R a = R a := fun a ha => (hX.2.1 a (by omega)).2.2.trans (hRb a ha)
    have hb83 : ∀ a, a ≠ 83 → a < n → I6 a = I a := fun a ha hb => (upI e6 a ha).trans ((hX.2.1 a (by omega)).2.1.trans (hb83 a ha hb))
    have hS0 := hS
    have hR0 := hR1
    have hn := Nat.le_refl n
    have h94 := hS0.1
    have hX := @yX.rf n tg I6 R
    have hS := hS0.x hX
    have hR := hR0.x hn hX
    have hz := hX.sz h94
    have hxn := hX.1
    have hN := hR0.1
    have hnb := hR0.2.2.2.2.2.2
    have hthB := hth
    refine y_aload_n rfl rfl ?_
    refine y_iload_n rfl rfl ?_
    refine y_iload_n rfl rfl ?_
    refine y_virt rfl rfl rfl rfl rfl (ySh.t hS rfl) (ySh.n hS rfl) ?_
    refine y_in (M := xm_X14_refuse) (ls := [some _, some _, some _]) rfl rfl rfl ?_
    refine y_iload_n rfl rfl ?_
    refine y_if_eqF rfl (by decide) ?_
    refine y_aload_n rfl rfl ?_
    refine y_getIv (v := Int32.ofInt (0)) rfl (ySh.t hS rfl) (ySh.n hS rfl) rfl rfl hth ?_
    refine y_if_neF rfl (by decide) ?_
    refine y_aload_n rfl rfl ?_
    refine y_iload_n rfl rfl ?_
    refine y_putI rfl (ySh.t hS rfl) (ySh.n hS rfl) rfl (Nat.le_of_ble_eq_true rfl) rfl rfl ?_
    refine y_nameI (fun I7 e7 => ?_)
    have hR1 := (hR0.grow hX).mod0 e7 (by decide) (by decide)
    have hK := (hK.x hRo hno hX).upI (upI e7) (by decide) (by decide) (fun i hi => by have := (hRo.l87.2.2.2.2 i hi).2.1; omega) (by rw [e7, upd2_ne (.inr (by decide))]; exact Int.le_refl _)
    have hth : I7 83 0 = Int32.ofInt (1) := by rw [e7, upd2_self]
    have hzz : ySz8 I6 I7 := ySz8_of (upI e7) (by rw [e7]; exact ⟨upd2_ne (.inr (by decide)), upd2_ne (.inr (by decide))⟩)
    have hB := (hB.trans hX).wr e7 rfl
    have h8 : ∀ a, 84 ≤ a → a ≤ 86 → I7 a = I a := fun a h1 h2 => (upI e7 a (by omega)).trans ((hX.2.1 a (by omega)).2.1.trans (h8 a h1 h2))
    have h3k : ∀ k, k ≠ 0 → I7 83 k = I 83 k := fun k hk => (congrFun (congrFun e7 83) k).trans ((upd2_ne (.inr hk)).trans ((congrFun (hX.2.1 83 (by omega)).2.1 k).trans (h3k k hk)))
    have hg := (hg.gx hX (by omega)).skip e7 (by decide)
    have hday : I7 83 1 = I 83 1 := (congrFun (congrFun e7 83) 1).trans ((upd2_ne (.inr (by decide))).trans ((congrFun (hX.2.1 83 (by omega)).2.1 1).trans hday))
    have hRb : ∀ a, a < n → R a = R a := fun a ha => (hX.2.1 a (by omega)).2.2.trans (hRb a ha)
    have hb83 : ∀ a, a ≠ 83 → a < n → I7 a = I a := fun a ha hb => (upI e7 a ha).trans ((hX.2.1 a (by omega)).2.1.trans (hb83 a ha hb))
    have hS0 := hS
    have hR0 := hR1
    have hn := Nat.le_refl n
    have h94 := hS0.1
    have hX := @yX.rf n tg I7 R
    have hS := hS0.x hX
    have hR := hR0.x hn hX
    have hz := hX.sz h94
    have hxn := hX.1
    have hN := hR0.1
    have hnb := hR0.2.2.2.2.2.2
    have hthB := hth
    refine y_aload_n rfl rfl ?_
    refine y_getIv (v := Int32.ofInt (1)) rfl (ySh.t hS rfl) (ySh.n hS rfl) rfl rfl hth ?_
    refine y_if_leF rfl (by decide) ?_
    refine y_iconst rfl ?_
    refine y_goto rfl j_X14_refuse_28 ?_
    refine y_ireturn rfl rfl rfl ?_
    refine y_ret1 ?_
    refine y_ireturn rfl rfl rfl ?_
    refine y_ret1 ?_
    refine y_if_eqF rfl (by decide) ?_
    refine y_iconst rfl ?_
    refine y_ireturn rfl rfl rfl ?_
    exact hQ1 (by omega) _ _ _ _ _ _ _ hS ((hR0.grow hX).up (Nat.le_succ K) hk6) (hK.x hRo hno hX) hth ((hB.trans hX).rf2 (by omega)) (by omega) (by omega)
theorem h_deposit (hS0 : ySh n tg R) (hR0 : yRI K n tg I R) (hk6 : K < 600) {x1 x2 : Int32} (hQ1 : ¬ (0 ≤ x1.toInt ∧ x1.toInt < (I 83 8).toInt) → ∀ (v : Int32) n1 tg1 I1 R1 c1 s1, ySh n1 tg1 R1 → yRI (K + 1) n1 tg1 I1 R1 → yKp n tg I R n1 tg1 I1 R1 → I1 83 0 = Int32.ofInt 1 → yRf n I R I1 R1 → c1 ≤ c + 0 → s1 ≤ s + 0 → Q (.inl (some (.int v))) (n1, tg1, I1, R1) c1 s1) (hQ2 : (0 ≤ x1.toInt ∧ x1.toInt < (I 83 8).toInt) ∧ ¬ (¬ x2.toInt = 0 ∧ -9999 ≤ x2.toInt ∧ x2.toInt ≤ 9999) → ∀ (v : Int32) n1 tg1 I1 R1 c1 s1, ySh n1 tg1 R1 → yRI (K + 1) n1 tg1 I1 R1 → yKp n tg I R n1 tg1 I1 R1 → I1 83 0 = Int32.ofInt 2 → yRf n I R I1 R1 → c1 ≤ c + 0 → s1 ≤ s + 0 → Q (.inl (some (.int v))) (n1, tg1, I1, R1) c1 s1) (hQ3 : (0 ≤ x1.toInt ∧ x1.toInt < (I 83 8).toInt) ∧ (¬ x2.toInt = 0 ∧ -9999 ≤ x2.toInt ∧ x2.toInt ≤ 9999) ∧ ¬ ((x2.toInt ≤ 0 ∨ x2.toInt ≤ (I 84 x1.toInt.toNat).toInt) ∧ (0 ≤ x2.toInt ∨ (-x2).toInt ≤ (I 85 x1.toInt.toNat).toInt) ∧ (I 85 x1.toInt.toNat + x2).toInt ≤ 99999) → ∀ (v : Int32) n1 tg1 I1 R1 c1 s1, ySh n1 tg1 R1 → yRI (K + 1) n1 tg1 I1 R1 → yKp n tg I R n1 tg1 I1 R1 → I1 83 0 = Int32.ofInt 3 → yRf n I R I1 R1 → c1 ≤ c + 0 → s1 ≤ s + 0 → Q (.inl (some (.int v))) (n1, tg1, I1, R1) c1 s1) (hQ0 : (0 ≤ x1.toInt ∧ x1.toInt < (I 83 8).toInt) ∧ (¬ x2.toInt = 0 ∧ -9999 ≤ x2.toInt ∧ x2.toInt ≤ 9999) ∧ ((x2.toInt ≤ 0 ∨ x2.toInt ≤ (I 84 x1.toInt.toNat).toInt) ∧ (0 ≤ x2.toInt ∨ (-x2).toInt ≤ (I 85 x1.toInt.toNat).toInt) ∧ (I 85 x1.toInt.toNat + x2).toInt ≤ 99999) → ∀ (v : Int32) n1 tg1 I1 R1 c1 s1, ySh n1 tg1 R1 → yRI (K + 1) n1 tg1 I1 R1 → yKp n tg I R n1 tg1 I1 R1 → I1 83 0 = Int32.ofInt 0 → v = I 85 x1.toInt.toNat + x2 → yX n tg (upd2 (upd2 (upd2 I 83 0 (Int32.ofInt 0)) 85 x1.toInt.toNat (I 85 x1.toInt.toNat + x2)) 84 x1.toInt.toNat (I 84 x1.toInt.toNat - x2)) R n1 tg1 I1 R1 → c1 ≤ c + 0 → s1 ≤ s + 0 → Q (.inl (some (.int v))) (n1, tg1, I1, R1) c1 s1) : yC 216 [.ref 83, .int x1, .int x2] (n, tg, I, R) c s Q := by
  have hno := Nat.le_refl n
  have hn := hno
  have hRo := hR0
  have hK : yKp n tg I R n tg I R := yKp.rf
  have hX : yX n tg I R n tg I R := yX.rf
  have hS := hS0
  have hR := hR0
  have h94 : 94 ≤ n := hS0.1
  have hz : ySz I I := hX.sz h94
  have hxn := hX.1
  have hN := hR0.1
  have hnb : 94 ≤ n := hR0.2.2.2.2.2.2
  have hg : yGm n I I := yGm.rf
  have hday : I 83 1 = I 83 1 := rfl
  have hb83 : ∀ a, a ≠ 83 → a < n → I a = I a := fun _ _ _ => rfl
  have hRb : ∀ a, a < n → R a = R a := fun _ _ => rfl
  have hB : yX n tg I R n tg I R := yX.rf
  have h8 : ∀ a, 84 ≤ a → a ≤ 86 → I a = I a := fun _ _ _ => rfl
  have h3k : ∀ k, k ≠ 0 → I 83 k = I 83 k := fun _ _ => rfl
  refine y_in (M := xm_X14_deposit) (ls := [some _, some _, some _]) rfl rfl rfl ?_
  refine y_aload_n rfl rfl ?_
  refine y_aload_n rfl rfl ?_
  refine y_iload_n rfl rfl ?_
  refine y_virt rfl rfl rfl rfl rfl (ySh.t hS rfl) (ySh.n hS rfl) ?_
  refine y_in (M := xm_X14_isNobody) (ls := [some _, some _]) rfl rfl rfl ?_
  refine y_iload_n rfl rfl ?_
  refine y_iconst rfl ?_
  refine y_aload_n rfl rfl ?_
  refine y_getIv (v := I 83 8) rfl (ySh.t hS rfl) (ySh.n hS rfl) rfl rfl ((congrFun ((hB.trans hX).n (by omega : 83 < n)) 8).trans (by repeat (first | rfl | rw [upd2_ne (by first | exact .inl (by omega) | exact .inr (by decide))]))) ?_
  refine y_iconst rfl ?_
  refine y_isub rfl ?_
  refine y_static rfl rfl rfl rfl rfl ?_
  refine r_isIn (fun h_1 h_2 => ?_) (fun h_3 => ?_)
  · rw [yz_0] at h_1
    try rw [ysub (by rw [yz_1]; omega) (by rw [yz_1]; omega), yz_1] at h_2
    refine y_ret1 ?_
    refine y_if_neT rfl j_X14_isNobody_18 (by decide) ?_
    refine y_iconst rfl ?_
    refine y_ireturn rfl rfl rfl ?_
    refine y_ret1 ?_
    refine y_iconst rfl ?_
    refine y_virt rfl rfl rfl rfl rfl (ySh.t hS rfl) (ySh.n hS rfl) ?_
    refine y_in (M := xm_X14_start) (ls := [some _, some _, some _]) rfl rfl rfl ?_
    refine y_aload_n rfl rfl ?_
    refine y_iconst rfl ?_
    refine y_putI rfl (ySh.t hS rfl) (ySh.n hS rfl) rfl (Nat.le_of_ble_eq_true rfl) rfl rfl ?_
    refine y_nameI (fun I4 e4 => ?_)
    have hR1 := (hR0.grow hX).mod0 e4 (by decide) (by decide)
    have hK := (hK.x hRo hno hX).upI (upI e4) (by decide) (by decide) (fun i hi => by have := (hRo.l87.2.2.2.2 i hi).2.1; omega) (by rw [e4, upd2_ne (.inr (by decide))]; exact Int.le_refl _)
    have hth : I4 83 0 = Int32.ofInt (0) := by rw [e4, upd2_self]
    have hzz : ySz8 I I4 := ySz8_of (upI e4) (by rw [e4]; exact ⟨upd2_ne (.inr (by decide)), upd2_ne (.inr (by decide))⟩)
    have hB := (hB.trans hX).wr e4 rfl
    have h8 : ∀ a, 84 ≤ a → a ≤ 86 → I4 a = I a := fun a h1 h2 => (upI e4 a (by omega)).trans ((hX.2.1 a (by omega)).2.1.trans (h8 a h1 h2))
    have h3k : ∀ k, k ≠ 0 → I4 83 k = I 83 k := fun k hk => (congrFun (congrFun e4 83) k).trans ((upd2_ne (.inr hk)).trans ((congrFun (hX.2.1 83 (by omega)).2.1 k).trans (h3k k hk)))
    have hg := (hg.gx hX (by omega)).skip e4 (by decide)
    have hday : I4 83 1 = I 83 1 := (congrFun (congrFun e4 83) 1).trans ((upd2_ne (.inr (by decide))).trans ((congrFun (hX.2.1 83 (by omega)).2.1 1).trans hday))
    have hRb : ∀ a, a < n → R a = R a := fun a ha => (hX.2.1 a (by omega)).2.2.trans (hRb a ha)
    have hb83 : ∀ a, a ≠ 83 → a < n → I4 a = I a := fun a ha hb => (upI e4 a ha).trans ((hX.2.1 a (by omega)).2.1.trans (hb83 a ha hb))
    have hS0 := hS
    have hR0 := hR1
    have hn := Nat.le_refl n
    have h94 := hS0.1
    have hX := @yX.rf n tg I4 R
    have hS := hS0.x hX
    have hR := hR0.x hn hX
    have hz := hX.sz h94
    have hxn := hX.1
    have hN := hR0.1
    have hnb := hR0.2.2.2.2.2.2
    have hthB := hth
    refine y_aload_n rfl rfl ?_
    refine y_iload_n rfl rfl ?_
    refine y_iload_n rfl rfl ?_
    refine y_virt rfl rfl rfl rfl rfl (ySh.t hS rfl) (ySh.n hS rfl) ?_
    refine y_in (M := xm_X14_refuse) (ls := [some _, some _, some _]) rfl rfl rfl ?_
    refine y_iload_n rfl rfl ?_
    refine y_if_eqT rfl j_X14_refuse_16 (by decide) ?_
    refine y_aload_n rfl rfl ?_
    refine y_getIv (v := Int32.ofInt (0)) rfl (ySh.t hS rfl) (ySh.n hS rfl) rfl rfl hth ?_
    refine y_if_leT rfl j_X14_refuse_27 (by decide) ?_
    refine y_iconst rfl ?_
    refine y_ireturn rfl rfl rfl ?_
    refine y_ret1 ?_
    refine y_ireturn rfl rfl rfl ?_
    refine y_ret1 ?_
    refine y_if_neF rfl (by decide) ?_
    refine y_aload_n rfl rfl ?_
    refine y_iload_n rfl rfl ?_
    refine y_if_eq rfl j_X14_deposit_31 (fun h_5 => ?_) (fun h_6 => ?_)
    · refine y_iconst rfl ?_
      refine y_goto rfl j_X14_deposit_36 ?_
      refine y_iconst rfl ?_
      refine y_virt rfl rfl rfl rfl rfl (ySh.t hS rfl) (ySh.n hS rfl) ?_
      refine y_in (M := xm_X14_refuse) (ls := [some _, some _, some _]) rfl rfl rfl ?_
      refine y_iload_n rfl rfl ?_
      refine y_if_eqF rfl (by decide) ?_
      refine y_aload_n rfl rfl ?_
      refine y_getIv (v := Int32.ofInt (0)) rfl (ySh.t hS rfl) (ySh.n hS rfl) rfl rfl hth ?_
      refine y_if_neF rfl (by decide) ?_
      refine y_aload_n rfl rfl ?_
      refine y_iload_n rfl rfl ?_
      refine y_putI rfl (ySh.t hS rfl) (ySh.n hS rfl) rfl (Nat.le_of_ble_eq_true rfl) rfl rfl ?_
      refine y_nameI (fun I7 e7 => ?_)
      have hR1 := (hR0.grow hX).mod0 e7 (by decide) (by decide)
      have hK := (hK.x hRo hno hX).upI (upI e7) (by decide) (by decide) (fun i hi => by have := (hRo.l87.2.2.2.2 i hi).2.1; omega) (by rw [e7, upd2_ne (.inr (by decide))]; exact Int.le_refl _)
      have hth : I7 83 0 = Int32.ofInt (2) := by rw [e7, upd2_self]
      have hzz : ySz8 I4 I7 := ySz8_of (upI e7) (by rw [e7]; exact ⟨upd2_ne (.inr (by decide)), upd2_ne (.inr (by decide))⟩)
      have hB := (hB.trans hX).wr e7 rfl
      have h8 : ∀ a, 84 ≤ a → a ≤ 86 → I7 a = I a := fun a h1 h2 => (upI e7 a (by omega)).trans ((hX.2.1 a (by omega)).2.1.trans (h8 a h1 h2))
      have h3k : ∀ k, k ≠ 0 → I7 83 k = I 83 k := fun k hk => (congrFun (congrFun e7 83) k).trans ((upd2_ne (.inr hk)).trans ((congrFun (hX.2.1 83 (by omega)).2.1 k).trans (h3k k hk)))
      have hg := (hg.gx hX (by omega)).skip e7 (by decide)
      have hday : I7 83 1 = I 83 1 := (congrFun (congrFun e7 83) 1).trans ((upd2_ne (.inr (by decide))).trans ((congrFun (hX.2.1 83 (by omega)).2.1 1).trans hday))
      have hRb : ∀ a, a < n → R a = R a := fun a ha => (hX.2.1 a (by omega)).2.2.trans (hRb a ha)
      have hb83 : ∀ a, a ≠ 83 → a < n → I7 a = I a := fun a ha hb => (upI e7 a ha).trans ((hX.2.1 a (by omega)).2.1.trans (hb83 a ha hb))
      have hS0 := hS
      have hR0 := hR1
      have hn := Nat.le_refl n
      have h94 := hS0.1
      have hX := @yX.rf n tg I7 R
      have hS := hS0.x hX
      have hR := hR0.x hn hX
      have hz := hX.sz h94
      have hxn := hX.1
      have hN := hR0.1
      have hnb := hR0.2.2.2.2.2.2
      have hthB := hth
      refine y_aload_n rfl rfl ?_
      refine y_getIv (v := Int32.ofInt (2)) rfl (ySh.t hS rfl) (ySh.n hS rfl) rfl rfl hth ?_
      refine y_if_leF rfl (by decide) ?_
      refine y_iconst rfl ?_
      refine y_goto rfl j_X14_refuse_28 ?_
      refine y_ireturn rfl rfl rfl ?_
      refine y_ret1 ?_
      refine y_if_neT rfl j_X14_deposit_98 (by decide) ?_
      refine y_iconst rfl ?_
      refine y_ireturn rfl rfl rfl ?_
      exact hQ2 (by omega) _ _ _ _ _ _ _ hS ((hR0.grow hX).up (Nat.le_succ K) hk6) (hK.x hRo hno hX) hth ((hB.trans hX).rf2 (by omega)) (by omega) (by omega)
    · refine y_iload_n rfl rfl ?_
      refine y_sip rfl (by decide) ?_
      refine y_sip rfl (by decide) ?_
      refine y_static rfl rfl rfl rfl rfl ?_
      refine r_isIn (fun h_8 h_9 => ?_) (fun h_10 => ?_)
      · rw [yz_m9999] at h_8
        rw [yz_9999] at h_9
        refine y_ret1 ?_
        refine y_if_neT rfl j_X14_deposit_35 (by decide) ?_
        refine y_iconst rfl ?_
        refine y_iconst rfl ?_
        refine y_virt rfl rfl rfl rfl rfl (ySh.t hS rfl) (ySh.n hS rfl) ?_
        refine y_in (M := xm_X14_refuse) (ls := [some _, some _, some _]) rfl rfl rfl ?_
        refine y_iload_n rfl rfl ?_
        refine y_if_eqT rfl j_X14_refuse_16 (by decide) ?_
        refine y_aload_n rfl rfl ?_
        refine y_getIv (v := Int32.ofInt (0)) rfl (ySh.t hS rfl) (ySh.n hS rfl) rfl rfl hth ?_
        refine y_if_leT rfl j_X14_refuse_27 (by decide) ?_
        refine y_iconst rfl ?_
        refine y_ireturn rfl rfl rfl ?_
        refine y_ret1 ?_
        refine y_if_neF rfl (by decide) ?_
        refine y_aload_n rfl rfl ?_
        refine y_iload_n rfl rfl ?_
        refine y_if_le rfl j_X14_deposit_58 (fun h_11 => ?_) (fun h_12 => ?_)
        · refine y_iload_n rfl rfl ?_
          refine y_if_ge rfl j_X14_deposit_73 (fun h_13 => ?_) (fun h_14 => ?_)
          · refine y_aload_n rfl rfl ?_
            refine y_getR rfl (ySh.t hS rfl) (ySh.n hS rfl) rfl rfl (ySh.r hS rfl) ?_
            refine y_iload_n rfl rfl ?_
            refine y_ialoadv (J := I 85) rfl (ySh.t hS rfl) (ySh.n hS rfl) (by omega) (by omega) (((hB.trans hX).n (by omega)).trans (by repeat (first | rfl | (rw [upd2_row (by first | decide | omega)]) | refine upd2_cg ?_))) ?_
            refine y_iload_n rfl rfl ?_
            refine y_iadd rfl ?_
            refine y_ldcI (v := (99999 : Int)) rfl rfl rfl (by decide) ?_
            refine y_icmp_le rfl j_X14_deposit_90 (fun h_15 => ?_) (fun h_16 => ?_)
            · rw [yz_99999] at h_15
              refine y_iconst rfl ?_
              refine y_iconst rfl ?_
              refine y_virt rfl rfl rfl rfl rfl (ySh.t hS rfl) (ySh.n hS rfl) ?_
              refine y_in (M := xm_X14_refuse) (ls := [some _, some _, some _]) rfl rfl rfl ?_
              refine y_iload_n rfl rfl ?_
              refine y_if_eqT rfl j_X14_refuse_16 (by decide) ?_
              refine y_aload_n rfl rfl ?_
              refine y_getIv (v := Int32.ofInt (0)) rfl (ySh.t hS rfl) (ySh.n hS rfl) rfl rfl hth ?_
              refine y_if_leT rfl j_X14_refuse_27 (by decide) ?_
              refine y_iconst rfl ?_
              refine y_ireturn rfl rfl rfl ?_
              refine y_ret1 ?_
              refine y_if_eqT rfl j_X14_deposit_100 (by decide) ?_
              refine y_aload_n rfl rfl ?_
              refine y_getR rfl (ySh.t hS rfl) (ySh.n hS rfl) rfl rfl (ySh.r hS rfl) ?_
              refine y_iload_n rfl rfl ?_
              refine y_dup2 rfl rfl rfl ?_
              refine y_ialoadv (J := I 85) rfl (ySh.t hS rfl) (ySh.n hS rfl) (by omega) (by omega) (((hB.trans hX).n (by omega)).trans (by repeat (first | rfl | (rw [upd2_row (by first | decide | omega)]) | refine upd2_cg ?_))) ?_
              refine y_iload_n rfl rfl ?_
              refine y_iadd rfl ?_
              refine y_iastore rfl (ySh.t hS rfl) (ySh.n hS rfl) (Nat.le_of_ble_eq_true rfl) (by omega) (by omega) ?_
              refine y_nameI (fun I17 e17 => ?_)
              have hR1 := (hR0.grow hX).arr e17 (by decide)
              have hK := (hK.x hRo hno hX).upI (upI e17) (by decide) (by decide) (fun i hi => by have := (hRo.l87.2.2.2.2 i hi).2.1; omega) (by rw [e17, upd2_ne (.inl (by omega))]; exact Int.le_refl _)
              have hth := (show I17 83 0 = I4 83 0 by rw [e17, upd2_ne (.inl (by omega))]).trans hth
              have hzz : ySz I4 I17 := ySz_ofE (upI e17) (by omega)
              have hB := (hB.trans hX).wr e17 rfl
              have h3k : ∀ k, k ≠ 0 → I17 83 k = I 83 k := fun k hk => (congrFun (congrFun e17 83) k).trans ((upd2_ne (.inl (by omega))).trans ((congrFun (hX.2.1 83 (by omega)).2.1 k).trans (h3k k hk)))
              have hg := (hg.gx hX (by omega)).skip e17 (by decide)
              have hday : I17 83 1 = I 83 1 := (congrFun (congrFun e17 83) 1).trans ((upd2_ne (.inl (by omega))).trans ((congrFun (hX.2.1 83 (by omega)).2.1 1).trans hday))
              have hRb : ∀ a, a < n → R a = R a := fun a ha => (hX.2.1 a (by omega)).2.2.trans (hRb a ha)
              have hS0 := hS
              have hR0 := hR1
              have hn := Nat.le_refl n
              have h94 := hS0.1
              have hX := @yX.rf n tg I17 R
              have hS := hS0.x hX
              have hR := hR0.x hn hX
              have hz := hX.sz h94
              have hxn := hX.1
              have hN := hR0.1
              have hnb := hR0.2.2.2.2.2.2
              have hthB := hth
              refine y_aload_n rfl rfl ?_
              refine y_getR rfl (ySh.t hS rfl) (ySh.n hS rfl) rfl rfl (ySh.r hS rfl) ?_
              refine y_iload_n rfl rfl ?_
              refine y_dup2 rfl rfl rfl ?_
              refine y_ialoadv (J := I 84) rfl (ySh.t hS rfl) (ySh.n hS rfl) (by omega) (by omega) (((hB.trans hX).n (by omega)).trans (by repeat (first | rfl | (rw [upd2_row (by first | decide | omega)]) | refine upd2_cg ?_))) ?_
              refine y_iload_n rfl rfl ?_
              refine y_isub rfl ?_
              refine y_iastore rfl (ySh.t hS rfl) (ySh.n hS rfl) (Nat.le_of_ble_eq_true rfl) (by omega) (by omega) ?_
              refine y_nameI (fun I18 e18 => ?_)
              have hR1 := (hR0.grow hX).arr e18 (by decide)
              have hK := (hK.x hRo hno hX).upI (upI e18) (by decide) (by decide) (fun i hi => by have := (hRo.l87.2.2.2.2 i hi).2.1; omega) (by rw [e18, upd2_ne (.inl (by omega))]; exact Int.le_refl _)
              have hth := (show I18 83 0 = I17 83 0 by rw [e18, upd2_ne (.inl (by omega))]).trans hth
              have hzz : ySz I17 I18 := ySz_ofE (upI e18) (by omega)
              have hB := (hB.trans hX).wr e18 rfl
              have h3k : ∀ k, k ≠ 0 → I18 83 k = I 83 k := fun k hk => (congrFun (congrFun e18 83) k).trans ((upd2_ne (.inl (by omega))).trans ((congrFun (hX.2.1 83 (by omega)).2.1 k).trans (h3k k hk)))
              have hg := (hg.gx hX (by omega)).skip e18 (by decide)
              have hday : I18 83 1 = I 83 1 := (congrFun (congrFun e18 83) 1).trans ((upd2_ne (.inl (by omega))).trans ((congrFun (hX.2.1 83 (by omega)).2.1 1).trans hday))
              have hRb : ∀ a, a < n → R a = R a := fun a ha => (hX.2.1 a (by omega)).2.2.trans (hRb a ha)
              have hS0 := hS
              have hR0 := hR1
              have hn := Nat.le_refl n
              have h94 := hS0.1
              have hX := @yX.rf n tg I18 R
              have hS := hS0.x hX
              have hR := hR0.x hn hX
              have hz := hX.sz h94
              have hxn := hX.1
              have hN := hR0.1
              have hnb := hR0.2.2.2.2.2.2
              have hthB := hth
              refine y_aload_n rfl rfl ?_
              refine y_getR rfl (ySh.t hS rfl) (ySh.n hS rfl) rfl rfl (ySh.r hS rfl) ?_
              refine y_iload_n rfl rfl ?_
              refine y_ialoadv (J := _) rfl (ySh.t hS rfl) (ySh.n hS rfl) (by omega) (by omega) ((hB.trans hX).n (by omega)) ?_
              refine y_ireturn rfl rfl rfl ?_
              exact hQ0 (by omega) _ _ _ _ _ _ _ hS ((hR0.grow hX).up (Nat.le_succ K) hk6) (hK.x hRo hno hX) hth (by rw [upd2_row (by decide), upd2_self]) (hB.trans hX) (by omega) (by omega)
            · rw [yz_99999] at h_16
              refine y_iconst rfl ?_
              refine y_goto rfl j_X14_deposit_91 ?_
              refine y_iconst rfl ?_
              refine y_virt rfl rfl rfl rfl rfl (ySh.t hS rfl) (ySh.n hS rfl) ?_
              refine y_in (M := xm_X14_refuse) (ls := [some _, some _, some _]) rfl rfl rfl ?_
              refine y_iload_n rfl rfl ?_
              refine y_if_eqF rfl (by decide) ?_
              refine y_aload_n rfl rfl ?_
              refine y_getIv (v := Int32.ofInt (0)) rfl (ySh.t hS rfl) (ySh.n hS rfl) rfl rfl hth ?_
              refine y_if_neF rfl (by decide) ?_
              refine y_aload_n rfl rfl ?_
              refine y_iload_n rfl rfl ?_
              refine y_putI rfl (ySh.t hS rfl) (ySh.n hS rfl) rfl (Nat.le_of_ble_eq_true rfl) rfl rfl ?_
              refine y_nameI (fun I19 e19 => ?_)
              have hR1 := (hR0.grow hX).mod0 e19 (by decide) (by decide)
              have hK := (hK.x hRo hno hX).upI (upI e19) (by decide) (by decide) (fun i hi => by have := (hRo.l87.2.2.2.2 i hi).2.1; omega) (by rw [e19, upd2_ne (.inr (by decide))]; exact Int.le_refl _)
              have hth : I19 83 0 = Int32.ofInt (3) := by rw [e19, upd2_self]
              have hzz : ySz8 I4 I19 := ySz8_of (upI e19) (by rw [e19]; exact ⟨upd2_ne (.inr (by decide)), upd2_ne (.inr (by decide))⟩)
              have hB := (hB.trans hX).wr e19 rfl
              have h8 : ∀ a, 84 ≤ a → a ≤ 86 → I19 a = I a := fun a h1 h2 => (upI e19 a (by omega)).trans ((hX.2.1 a (by omega)).2.1.trans (h8 a h1 h2))
              have h3k : ∀ k, k ≠ 0 → I19 83 k = I 83 k := fun k hk => (congrFun (congrFun e19 83) k).trans ((upd2_ne (.inr hk)).trans ((congrFun (hX.2.1 83 (by omega)).2.1 k).trans (h3k k hk)))
              have hg := (hg.gx hX (by omega)).skip e19 (by decide)
              have hday : I19 83 1 = I 83 1 := (congrFun (congrFun e19 83) 1).trans ((upd2_ne (.inr (by decide))).trans ((congrFun (hX.2.1 83 (by omega)).2.1 1).trans hday))
              have hRb : ∀ a, a < n → R a = R a := fun a ha => (hX.2.1 a (by omega)).2.2.trans (hRb a ha)
              have hb83 : ∀ a, a ≠ 83 → a < n → I19 a = I a := fun a ha hb => (upI e19 a ha).trans ((hX.2.1 a (by omega)).2.1.trans (hb83 a ha hb))
              have hS0 := hS
              have hR0 := hR1
              have hn := Nat.le_refl n
              have h94 := hS0.1
              have hX := @yX.rf n tg I19 R
              have hS := hS0.x hX
              have hR := hR0.x hn hX
              have hz := hX.sz h94
              have hxn := hX.1
              have hN := hR0.1
              have hnb := hR0.2.2.2.2.2.2
              have hthB := hth
              refine y_aload_n rfl rfl ?_
              refine y_getIv (v := Int32.ofInt (3)) rfl (ySh.t hS rfl) (ySh.n hS rfl) rfl rfl hth ?_
              refine y_if_leF rfl (by decide) ?_
              refine y_iconst rfl ?_
              refine y_goto rfl j_X14_refuse_28 ?_
              refine y_ireturn rfl rfl rfl ?_
              refine y_ret1 ?_
              refine y_if_eqF rfl (by decide) ?_
              refine y_iconst rfl ?_
              refine y_ireturn rfl rfl rfl ?_
              exact hQ3 (by omega) _ _ _ _ _ _ _ hS ((hR0.grow hX).up (Nat.le_succ K) hk6) (hK.x hRo hno hX) hth ((hB.trans hX).rf2 (by omega)) (by omega) (by omega)
          · refine y_aload_n rfl rfl ?_
            refine y_getR rfl (ySh.t hS rfl) (ySh.n hS rfl) rfl rfl (ySh.r hS rfl) ?_
            refine y_iload_n rfl rfl ?_
            refine y_ialoadv (J := I 85) rfl (ySh.t hS rfl) (ySh.n hS rfl) (by omega) (by omega) (((hB.trans hX).n (by omega)).trans (by repeat (first | rfl | (rw [upd2_row (by first | decide | omega)]) | refine upd2_cg ?_))) ?_
            refine y_iload_n rfl rfl ?_
            refine y_ineg rfl ?_
            refine y_icmp_lt rfl j_X14_deposit_86 (fun h_20 => ?_) (fun h_21 => ?_)
            · refine y_iconst rfl ?_
              refine y_goto rfl j_X14_deposit_91 ?_
              refine y_iconst rfl ?_
              refine y_virt rfl rfl rfl rfl rfl (ySh.t hS rfl) (ySh.n hS rfl) ?_
              refine y_in (M := xm_X14_refuse) (ls := [some _, some _, some _]) rfl rfl rfl ?_
              refine y_iload_n rfl rfl ?_
              refine y_if_eqF rfl (by decide) ?_
              refine y_aload_n rfl rfl ?_
              refine y_getIv (v := Int32.ofInt (0)) rfl (ySh.t hS rfl) (ySh.n hS rfl) rfl rfl hth ?_
              refine y_if_neF rfl (by decide) ?_
              refine y_aload_n rfl rfl ?_
              refine y_iload_n rfl rfl ?_
              refine y_putI rfl (ySh.t hS rfl) (ySh.n hS rfl) rfl (Nat.le_of_ble_eq_true rfl) rfl rfl ?_
              refine y_nameI (fun I22 e22 => ?_)
              have hR1 := (hR0.grow hX).mod0 e22 (by decide) (by decide)
              have hK := (hK.x hRo hno hX).upI (upI e22) (by decide) (by decide) (fun i hi => by have := (hRo.l87.2.2.2.2 i hi).2.1; omega) (by rw [e22, upd2_ne (.inr (by decide))]; exact Int.le_refl _)
              have hth : I22 83 0 = Int32.ofInt (3) := by rw [e22, upd2_self]
              have hzz : ySz8 I4 I22 := ySz8_of (upI e22) (by rw [e22]; exact ⟨upd2_ne (.inr (by decide)), upd2_ne (.inr (by decide))⟩)
              have hB := (hB.trans hX).wr e22 rfl
              have h8 : ∀ a, 84 ≤ a → a ≤ 86 → I22 a = I a := fun a h1 h2 => (upI e22 a (by omega)).trans ((hX.2.1 a (by omega)).2.1.trans (h8 a h1 h2))
              have h3k : ∀ k, k ≠ 0 → I22 83 k = I 83 k := fun k hk => (congrFun (congrFun e22 83) k).trans ((upd2_ne (.inr hk)).trans ((congrFun (hX.2.1 83 (by omega)).2.1 k).trans (h3k k hk)))
              have hg := (hg.gx hX (by omega)).skip e22 (by decide)
              have hday : I22 83 1 = I 83 1 := (congrFun (congrFun e22 83) 1).trans ((upd2_ne (.inr (by decide))).trans ((congrFun (hX.2.1 83 (by omega)).2.1 1).trans hday))
              have hRb : ∀ a, a < n → R a = R a := fun a ha => (hX.2.1 a (by omega)).2.2.trans (hRb a ha)
              have hb83 : ∀ a, a ≠ 83 → a < n → I22 a = I a := fun a ha hb => (upI e22 a ha).trans ((hX.2.1 a (by omega)).2.1.trans (hb83 a ha hb))
              have hS0 := hS
              have hR0 := hR1
              have hn := Nat.le_refl n
              have h94 := hS0.1
              have hX := @yX.rf n tg I22 R
              have hS := hS0.x hX
              have hR := hR0.x hn hX
              have hz := hX.sz h94
              have hxn := hX.1
              have hN := hR0.1
              have hnb := hR0.2.2.2.2.2.2
              have hthB := hth
              refine y_aload_n rfl rfl ?_
              refine y_getIv (v := Int32.ofInt (3)) rfl (ySh.t hS rfl) (ySh.n hS rfl) rfl rfl hth ?_
              refine y_if_leF rfl (by decide) ?_
              refine y_iconst rfl ?_
              refine y_goto rfl j_X14_refuse_28 ?_
              refine y_ireturn rfl rfl rfl ?_
              refine y_ret1 ?_
              refine y_if_eqF rfl (by decide) ?_
              refine y_iconst rfl ?_
              refine y_ireturn rfl rfl rfl ?_
              exact hQ3 (by omega) _ _ _ _ _ _ _ hS ((hR0.grow hX).up (Nat.le_succ K) hk6) (hK.x hRo hno hX) hth ((hB.trans hX).rf2 (by omega)) (by omega) (by omega)
            · refine y_aload_n rfl rfl ?_
              refine y_getR rfl (ySh.t hS rfl) (ySh.n hS rfl) rfl rfl (ySh.r hS rfl) ?_
              refine y_iload_n rfl rfl ?_
              refine y_ialoadv (J := I 85) rfl (ySh.t hS rfl) (ySh.n hS rfl) (by omega) (by omega) (((hB.trans hX).n (by omega)).trans (by repeat (first | rfl | (rw [upd2_row (by first | decide | omega)]) | refine upd2_cg ?_))) ?_
              refine y_iload_n rfl rfl ?_
              refine y_iadd rfl ?_
              refine y_ldcI (v := (99999 : Int)) rfl rfl rfl (by decide) ?_
              refine y_icmp_le rfl j_X14_deposit_90 (fun h_23 => ?_) (fun h_24 => ?_)
              · rw [yz_99999] at h_23
                refine y_iconst rfl ?_
                refine y_iconst rfl ?_
                refine y_virt rfl rfl rfl rfl rfl (ySh.t hS rfl) (ySh.n hS rfl) ?_
                refine y_in (M := xm_X14_refuse) (ls := [some _, some _, some _]) rfl rfl rfl ?_
                refine y_iload_n rfl rfl ?_
                refine y_if_eqT rfl j_X14_refuse_16 (by decide) ?_
                refine y_aload_n rfl rfl ?_
                refine y_getIv (v := Int32.ofInt (0)) rfl (ySh.t hS rfl) (ySh.n hS rfl) rfl rfl hth ?_
                refine y_if_leT rfl j_X14_refuse_27 (by decide) ?_
                refine y_iconst rfl ?_
                refine y_ireturn rfl rfl rfl ?_
                refine y_ret1 ?_
                refine y_if_eqT rfl j_X14_deposit_100 (by decide) ?_
                refine y_aload_n rfl rfl ?_
                refine y_getR rfl (ySh.t hS rfl) (ySh.n hS rfl) rfl rfl (ySh.r hS rfl) ?_
                refine y_iload_n rfl rfl ?_
                refine y_dup2 rfl rfl rfl ?_
                refine y_ialoadv (J := I 85) rfl (ySh.t hS rfl) (ySh.n hS rfl) (by omega) (by omega) (((hB.trans hX).n (by omega)).trans (by repeat (first | rfl | (rw [upd2_row (by first | decide | omega)]) | refine upd2_cg ?_))) ?_
                refine y_iload_n rfl rfl ?_
                refine y_iadd rfl ?_
                refine y_iastore rfl (ySh.t hS rfl) (ySh.n hS rfl) (Nat.le_of_ble_eq_true rfl) (by omega) (by omega) ?_
                refine y_nameI (fun I25 e25 => ?_)
                have hR1 := (hR0.grow hX).arr e25 (by decide)
                have hK := (hK.x hRo hno hX).upI (upI e25) (by decide) (by decide) (fun i hi => by have := (hRo.l87.2.2.2.2 i hi).2.1; omega) (by rw [e25, upd2_ne (.inl (by omega))]; exact Int.le_refl _)
                have hth := (show I25 83 0 = I4 83 0 by rw [e25, upd2_ne (.inl (by omega))]).trans hth
                have hzz : ySz I4 I25 := ySz_ofE (upI e25) (by omega)
                have hB := (hB.trans hX).wr e25 rfl
                have h3k : ∀ k, k ≠ 0 → I25 83 k = I 83 k := fun k hk => (congrFun (congrFun e25 83) k).trans ((upd2_ne (.inl (by omega))).trans ((congrFun (hX.2.1 83 (by omega)).2.1 k).trans (h3k k hk)))
                have hg := (hg.gx hX (by omega)).skip e25 (by decide)
                have hday : I25 83 1 = I 83 1 := (congrFun (congrFun e25 83) 1).trans ((upd2_ne (.inl (by omega))).trans ((congrFun (hX.2.1 83 (by omega)).2.1 1).trans hday))
                have hRb : ∀ a, a < n → R a = R a := fun a ha => (hX.2.1 a (by omega)).2.2.trans (hRb a ha)
                have hS0 := hS
                have hR0 := hR1
                have hn := Nat.le_refl n
                have h94 := hS0.1
                have hX := @yX.rf n tg I25 R
                have hS := hS0.x hX
                have hR := hR0.x hn hX
                have hz := hX.sz h94
                have hxn := hX.1
                have hN := hR0.1
                have hnb := hR0.2.2.2.2.2.2
                have hthB := hth
                refine y_aload_n rfl rfl ?_
                refine y_getR rfl (ySh.t hS rfl) (ySh.n hS rfl) rfl rfl (ySh.r hS rfl) ?_
                refine y_iload_n rfl rfl ?_
                refine y_dup2 rfl rfl rfl ?_
                refine y_ialoadv (J := I 84) rfl (ySh.t hS rfl) (ySh.n hS rfl) (by omega) (by omega) (((hB.trans hX).n (by omega)).trans (by repeat (first | rfl | (rw [upd2_row (by first | decide | omega)]) | refine upd2_cg ?_))) ?_
                refine y_iload_n rfl rfl ?_
                refine y_isub rfl ?_
                refine y_iastore rfl (ySh.t hS rfl) (ySh.n hS rfl) (Nat.le_of_ble_eq_true rfl) (by omega) (by omega) ?_
                refine y_nameI (fun I26 e26 => ?_)
                have hR1 := (hR0.grow hX).arr e26 (by decide)
                have hK := (hK.x hRo hno hX).upI (upI e26) (by decide) (by decide) (fun i hi => by have := (hRo.l87.2.2.2.2 i hi).2.1; omega) (by rw [e26, upd2_ne (.inl (by omega))]; exact Int.le_refl _)
                have hth := (show I26 83 0 = I25 83 0 by rw [e26, upd2_ne (.inl (by omega))]).trans hth
                have hzz : ySz I25 I26 := ySz_ofE (upI e26) (by omega)
                have hB := (hB.trans hX).wr e26 rfl
                have h3k : ∀ k, k ≠ 0 → I26 83 k = I 83 k := fun k hk => (congrFun (congrFun e26 83) k).trans ((upd2_ne (.inl (by omega))).trans ((congrFun (hX.2.1 83 (by omega)).2.1 k).trans (h3k k hk)))
                have hg := (hg.gx hX (by omega)).skip e26 (by decide)
                have hday : I26 83 1 = I 83 1 := (congrFun (congrFun e26 83) 1).trans ((upd2_ne (.inl (by omega))).trans ((congrFun (hX.2.1 83 (by omega)).2.1 1).trans hday))
                have hRb : ∀ a, a < n → R a = R a := fun a ha => (hX.2.1 a (by omega)).2.2.trans (hRb a ha)
                have hS0 := hS
                have hR0 := hR1
                have hn := Nat.le_refl n
                have h94 := hS0.1
                have hX := @yX.rf n tg I26 R
                have hS := hS0.x hX
                have hR := hR0.x hn hX
                have hz := hX.sz h94
                have hxn := hX.1
                have hN := hR0.1
                have hnb := hR0.2.2.2.2.2.2
                have hthB := hth
                refine y_aload_n rfl rfl ?_
                refine y_getR rfl (ySh.t hS rfl) (ySh.n hS rfl) rfl rfl (ySh.r hS rfl) ?_
                refine y_iload_n rfl rfl ?_
                refine y_ialoadv (J := _) rfl (ySh.t hS rfl) (ySh.n hS rfl) (by omega) (by omega) ((hB.trans hX).n (by omega)) ?_
                refine y_ireturn rfl rfl rfl ?_
                exact hQ0 (by omega) _ _ _ _ _ _ _ hS ((hR0.grow hX).up (Nat.le_succ K) hk6) (hK.x hRo hno hX) hth (by rw [upd2_row (by decide), upd2_self]) (hB.trans hX) (by omega) (by omega)
              · rw [yz_99999] at h_24
                refine y_iconst rfl ?_
                refine y_goto rfl j_X14_deposit_91 ?_
                refine y_iconst rfl ?_
                refine y_virt rfl rfl rfl rfl rfl (ySh.t hS rfl) (ySh.n hS rfl) ?_
                refine y_in (M := xm_X14_refuse) (ls := [some _, some _, some _]) rfl rfl rfl ?_
                refine y_iload_n rfl rfl ?_
                refine y_if_eqF rfl (by decide) ?_
                refine y_aload_n rfl rfl ?_
                refine y_getIv (v := Int32.ofInt (0)) rfl (ySh.t hS rfl) (ySh.n hS rfl) rfl rfl hth ?_
                refine y_if_neF rfl (by decide) ?_
                refine y_aload_n rfl rfl ?_
                refine y_iload_n rfl rfl ?_
                refine y_putI rfl (ySh.t hS rfl) (ySh.n hS rfl) rfl (Nat.le_of_ble_eq_true rfl) rfl rfl ?_
                refine y_nameI (fun I27 e27 => ?_)
                have hR1 := (hR0.grow hX).mod0 e27 (by decide) (by decide)
                have hK := (hK.x hRo hno hX).upI (upI e27) (by decide) (by decide) (fun i hi => by have := (hRo.l87.2.2.2.2 i hi).2.1; omega) (by rw [e27, upd2_ne (.inr (by decide))]; exact Int.le_refl _)
                have hth : I27 83 0 = Int32.ofInt (3) := by rw [e27, upd2_self]
                have hzz : ySz8 I4 I27 := ySz8_of (upI e27) (by rw [e27]; exact ⟨upd2_ne (.inr (by decide)), upd2_ne (.inr (by decide))⟩)
                have hB := (hB.trans hX).wr e27 rfl
                have h8 : ∀ a, 84 ≤ a → a ≤ 86 → I27 a = I a := fun a h1 h2 => (upI e27 a (by omega)).trans ((hX.2.1 a (by omega)).2.1.trans (h8 a h1 h2))
                have h3k : ∀ k, k ≠ 0 → I27 83 k = I 83 k := fun k hk => (congrFun (congrFun e27 83) k).trans ((upd2_ne (.inr hk)).trans ((congrFun (hX.2.1 83 (by omega)).2.1 k).trans (h3k k hk)))
                have hg := (hg.gx hX (by omega)).skip e27 (by decide)
                have hday : I27 83 1 = I 83 1 := (congrFun (congrFun e27 83) 1).trans ((upd2_ne (.inr (by decide))).trans ((congrFun (hX.2.1 83 (by omega)).2.1 1).trans hday))
                have hRb : ∀ a, a < n → R a = R a := fun a ha => (hX.2.1 a (by omega)).2.2.trans (hRb a ha)
                have hb83 : ∀ a, a ≠ 83 → a < n → I27 a = I a := fun a ha hb => (upI e27 a ha).trans ((hX.2.1 a (by omega)).2.1.trans (hb83 a ha hb))
                have hS0 := hS
                have hR0 := hR1
                have hn := Nat.le_refl n
                have h94 := hS0.1
                have hX := @yX.rf n tg I27 R
                have hS := hS0.x hX
                have hR := hR0.x hn hX
                have hz := hX.sz h94
                have hxn := hX.1
                have hN := hR0.1
                have hnb := hR0.2.2.2.2.2.2
                have hthB := hth
                refine y_aload_n rfl rfl ?_
                refine y_getIv (v := Int32.ofInt (3)) rfl (ySh.t hS rfl) (ySh.n hS rfl) rfl rfl hth ?_
                refine y_if_leF rfl (by decide) ?_
                refine y_iconst rfl ?_
                refine y_goto rfl j_X14_refuse_28 ?_
                refine y_ireturn rfl rfl rfl ?_
                refine y_ret1 ?_
                refine y_if_eqF rfl (by decide) ?_
                refine y_iconst rfl ?_
                refine y_ireturn rfl rfl rfl ?_
                exact hQ3 (by omega) _ _ _ _ _ _ _ hS ((hR0.grow hX).up (Nat.le_succ K) hk6) (hK.x hRo hno hX) hth ((hB.trans hX).rf2 (by omega)) (by omega) (by omega)
        · refine y_aload_n rfl rfl ?_
          refine y_getR rfl (ySh.t hS rfl) (ySh.n hS rfl) rfl rfl (ySh.r hS rfl) ?_
          refine y_iload_n rfl rfl ?_
          refine y_ialoadv (J := I 84) rfl (ySh.t hS rfl) (ySh.n hS rfl) (by omega) (by omega) (((hB.trans hX).n (by omega)).trans (by repeat (first | rfl | (rw [upd2_row (by first | decide | omega)]) | refine upd2_cg ?_))) ?_
          refine y_iload_n rfl rfl ?_
          refine y_icmp_lt rfl j_X14_deposit_86 (fun h_28 => ?_) (fun h_29 => ?_)
          · refine y_iconst rfl ?_
            refine y_goto rfl j_X14_deposit_91 ?_
            refine y_iconst rfl ?_
            refine y_virt rfl rfl rfl rfl rfl (ySh.t hS rfl) (ySh.n hS rfl) ?_
            refine y_in (M := xm_X14_refuse) (ls := [some _, some _, some _]) rfl rfl rfl ?_
            refine y_iload_n rfl rfl ?_
            refine y_if_eqF rfl (by decide) ?_
            refine y_aload_n rfl rfl ?_
            refine y_getIv (v := Int32.ofInt (0)) rfl (ySh.t hS rfl) (ySh.n hS rfl) rfl rfl hth ?_
            refine y_if_neF rfl (by decide) ?_
            refine y_aload_n rfl rfl ?_
            refine y_iload_n rfl rfl ?_
            refine y_putI rfl (ySh.t hS rfl) (ySh.n hS rfl) rfl (Nat.le_of_ble_eq_true rfl) rfl rfl ?_
            refine y_nameI (fun I30 e30 => ?_)
            have hR1 := (hR0.grow hX).mod0 e30 (by decide) (by decide)
            have hK := (hK.x hRo hno hX).upI (upI e30) (by decide) (by decide) (fun i hi => by have := (hRo.l87.2.2.2.2 i hi).2.1; omega) (by rw [e30, upd2_ne (.inr (by decide))]; exact Int.le_refl _)
            have hth : I30 83 0 = Int32.ofInt (3) := by rw [e30, upd2_self]
            have hzz : ySz8 I4 I30 := ySz8_of (upI e30) (by rw [e30]; exact ⟨upd2_ne (.inr (by decide)), upd2_ne (.inr (by decide))⟩)
            have hB := (hB.trans hX).wr e30 rfl
            have h8 : ∀ a, 84 ≤ a → a ≤ 86 → I30 a = I a := fun a h1 h2 => (upI e30 a (by omega)).trans ((hX.2.1 a (by omega)).2.1.trans (h8 a h1 h2))
            have h3k : ∀ k, k ≠ 0 → I30 83 k = I 83 k := fun k hk => (congrFun (congrFun e30 83) k).trans ((upd2_ne (.inr hk)).trans ((congrFun (hX.2.1 83 (by omega)).2.1 k).trans (h3k k hk)))
            have hg := (hg.gx hX (by omega)).skip e30 (by decide)
            have hday : I30 83 1 = I 83 1 := (congrFun (congrFun e30 83) 1).trans ((upd2_ne (.inr (by decide))).trans ((congrFun (hX.2.1 83 (by omega)).2.1 1).trans hday))
            have hRb : ∀ a, a < n → R a = R a := fun a ha => (hX.2.1 a (by omega)).2.2.trans (hRb a ha)
            have hb83 : ∀ a, a ≠ 83 → a < n → I30 a = I a := fun a ha hb => (upI e30 a ha).trans ((hX.2.1 a (by omega)).2.1.trans (hb83 a ha hb))
            have hS0 := hS
            have hR0 := hR1
            have hn := Nat.le_refl n
            have h94 := hS0.1
            have hX := @yX.rf n tg I30 R
            have hS := hS0.x hX
            have hR := hR0.x hn hX
            have hz := hX.sz h94
            have hxn := hX.1
            have hN := hR0.1
            have hnb := hR0.2.2.2.2.2.2
            have hthB := hth
            refine y_aload_n rfl rfl ?_
            refine y_getIv (v := Int32.ofInt (3)) rfl (ySh.t hS rfl) (ySh.n hS rfl) rfl rfl hth ?_
            refine y_if_leF rfl (by decide) ?_
            refine y_iconst rfl ?_
            refine y_goto rfl j_X14_refuse_28 ?_
            refine y_ireturn rfl rfl rfl ?_
            refine y_ret1 ?_
            refine y_if_eqF rfl (by decide) ?_
            refine y_iconst rfl ?_
            refine y_ireturn rfl rfl rfl ?_
            exact hQ3 (by omega) _ _ _ _ _ _ _ hS ((hR0.grow hX).up (Nat.le_succ K) hk6) (hK.x hRo hno hX) hth ((hB.trans hX).rf2 (by omega)) (by omega) (by omega)
          · refine y_iload_n rfl rfl ?_
            refine y_if_ge rfl j_X14_deposit_73 (fun h_31 => ?_) (fun h_32 => ?_)
            · refine y_aload_n rfl rfl ?_
              refine y_getR rfl (ySh.t hS rfl) (ySh.n hS rfl) rfl rfl (ySh.r hS rfl) ?_
              refine y_iload_n rfl rfl ?_
              refine y_ialoadv (J := I 85) rfl (ySh.t hS rfl) (ySh.n hS rfl) (by omega) (by omega) (((hB.trans hX).n (by omega)).trans (by repeat (first | rfl | (rw [upd2_row (by first | decide | omega)]) | refine upd2_cg ?_))) ?_
              refine y_iload_n rfl rfl ?_
              refine y_iadd rfl ?_
              refine y_ldcI (v := (99999 : Int)) rfl rfl rfl (by decide) ?_
              refine y_icmp_le rfl j_X14_deposit_90 (fun h_33 => ?_) (fun h_34 => ?_)
              · rw [yz_99999] at h_33
                refine y_iconst rfl ?_
                refine y_iconst rfl ?_
                refine y_virt rfl rfl rfl rfl rfl (ySh.t hS rfl) (ySh.n hS rfl) ?_
                refine y_in (M := xm_X14_refuse) (ls := [some _, some _, some _]) rfl rfl rfl ?_
                refine y_iload_n rfl rfl ?_
                refine y_if_eqT rfl j_X14_refuse_16 (by decide) ?_
                refine y_aload_n rfl rfl ?_
                refine y_getIv (v := Int32.ofInt (0)) rfl (ySh.t hS rfl) (ySh.n hS rfl) rfl rfl hth ?_
                refine y_if_leT rfl j_X14_refuse_27 (by decide) ?_
                refine y_iconst rfl ?_
                refine y_ireturn rfl rfl rfl ?_
                refine y_ret1 ?_
                refine y_if_eqT rfl j_X14_deposit_100 (by decide) ?_
                refine y_aload_n rfl rfl ?_
                refine y_getR rfl (ySh.t hS rfl) (ySh.n hS rfl) rfl rfl (ySh.r hS rfl) ?_
                refine y_iload_n rfl rfl ?_
                refine y_dup2 rfl rfl rfl ?_
                refine y_ialoadv (J := I 85) rfl (ySh.t hS rfl) (ySh.n hS rfl) (by omega) (by omega) (((hB.trans hX).n (by omega)).trans (by repeat (first | rfl | (rw [upd2_row (by first | decide | omega)]) | refine upd2_cg ?_))) ?_
                refine y_iload_n rfl rfl ?_
                refine y_iadd rfl ?_
                refine y_iastore rfl (ySh.t hS rfl) (ySh.n hS rfl) (Nat.le_of_ble_eq_true rfl) (by omega) (by omega) ?_
                refine y_nameI (fun I35 e35 => ?_)
                have hR1 := (hR0.grow hX).arr e35 (by decide)
                have hK := (hK.x hRo hno hX).upI (upI e35) (by decide) (by decide) (fun i hi => by have := (hRo.l87.2.2.2.2 i hi).2.1; omega) (by rw [e35, upd2_ne (.inl (by omega))]; exact Int.le_refl _)
                have hth := (show I35 83 0 = I4 83 0 by rw [e35, upd2_ne (.inl (by omega))]).trans hth
                have hzz : ySz I4 I35 := ySz_ofE (upI e35) (by omega)
                have hB := (hB.trans hX).wr e35 rfl
                have h3k : ∀ k, k ≠ 0 → I35 83 k = I 83 k := fun k hk => (congrFun (congrFun e35 83) k).trans ((upd2_ne (.inl (by omega))).trans ((congrFun (hX.2.1 83 (by omega)).2.1 k).trans (h3k k hk)))
                have hg := (hg.gx hX (by omega)).skip e35 (by decide)
                have hday : I35 83 1 = I 83 1 := (congrFun (congrFun e35 83) 1).trans ((upd2_ne (.inl (by omega))).trans ((congrFun (hX.2.1 83 (by omega)).2.1 1).trans hday))
                have hRb : ∀ a, a < n → R a = R a := fun a ha => (hX.2.1 a (by omega)).2.2.trans (hRb a ha)
                have hS0 := hS
                have hR0 := hR1
                have hn := Nat.le_refl n
                have h94 := hS0.1
                have hX := @yX.rf n tg I35 R
                have hS := hS0.x hX
                have hR := hR0.x hn hX
                have hz := hX.sz h94
                have hxn := hX.1
                have hN := hR0.1
                have hnb := hR0.2.2.2.2.2.2
                have hthB := hth
                refine y_aload_n rfl rfl ?_
                refine y_getR rfl (ySh.t hS rfl) (ySh.n hS rfl) rfl rfl (ySh.r hS rfl) ?_
                refine y_iload_n rfl rfl ?_
                refine y_dup2 rfl rfl rfl ?_
                refine y_ialoadv (J := I 84) rfl (ySh.t hS rfl) (ySh.n hS rfl) (by omega) (by omega) (((hB.trans hX).n (by omega)).trans (by repeat (first | rfl | (rw [upd2_row (by first | decide | omega)]) | refine upd2_cg ?_))) ?_
                refine y_iload_n rfl rfl ?_
                refine y_isub rfl ?_
                refine y_iastore rfl (ySh.t hS rfl) (ySh.n hS rfl) (Nat.le_of_ble_eq_true rfl) (by omega) (by omega) ?_
                refine y_nameI (fun I36 e36 => ?_)
                have hR1 := (hR0.grow hX).arr e36 (by decide)
                have hK := (hK.x hRo hno hX).upI (upI e36) (by decide) (by decide) (fun i hi => by have := (hRo.l87.2.2.2.2 i hi).2.1; omega) (by rw [e36, upd2_ne (.inl (by omega))]; exact Int.le_refl _)
                have hth := (show I36 83 0 = I35 83 0 by rw [e36, upd2_ne (.inl (by omega))]).trans hth
                have hzz : ySz I35 I36 := ySz_ofE (upI e36) (by omega)
                have hB := (hB.trans hX).wr e36 rfl
                have h3k : ∀ k, k ≠ 0 → I36 83 k = I 83 k := fun k hk => (congrFun (congrFun e36 83) k).trans ((upd2_ne (.inl (by omega))).trans ((congrFun (hX.2.1 83 (by omega)).2.1 k).trans (h3k k hk)))
                have hg := (hg.gx hX (by omega)).skip e36 (by decide)
                have hday : I36 83 1 = I 83 1 := (congrFun (congrFun e36 83) 1).trans ((upd2_ne (.inl (by omega))).trans ((congrFun (hX.2.1 83 (by omega)).2.1 1).trans hday))
                have hRb : ∀ a, a < n → R a = R a := fun a ha => (hX.2.1 a (by omega)).2.2.trans (hRb a ha)
                have hS0 := hS
                have hR0 := hR1
                have hn := Nat.le_refl n
                have h94 := hS0.1
                have hX := @yX.rf n tg I36 R
                have hS := hS0.x hX
                have hR := hR0.x hn hX
                have hz := hX.sz h94
                have hxn := hX.1
                have hN := hR0.1
                have hnb := hR0.2.2.2.2.2.2
                have hthB := hth
                refine y_aload_n rfl rfl ?_
                refine y_getR rfl (ySh.t hS rfl) (ySh.n hS rfl) rfl rfl (ySh.r hS rfl) ?_
                refine y_iload_n rfl rfl ?_
                refine y_ialoadv (J := _) rfl (ySh.t hS rfl) (ySh.n hS rfl) (by omega) (by omega) ((hB.trans hX).n (by omega)) ?_
                refine y_ireturn rfl rfl rfl ?_
                exact hQ0 (by omega) _ _ _ _ _ _ _ hS ((hR0.grow hX).up (Nat.le_succ K) hk6) (hK.x hRo hno hX) hth (by rw [upd2_row (by decide), upd2_self]) (hB.trans hX) (by omega) (by omega)
              · rw [yz_99999] at h_34
                refine y_iconst rfl ?_
                refine y_goto rfl j_X14_deposit_91 ?_
                refine y_iconst rfl ?_
                refine y_virt rfl rfl rfl rfl rfl (ySh.t hS rfl) (ySh.n hS rfl) ?_
                refine y_in (M := xm_X14_refuse) (ls := [some _, some _, some _]) rfl rfl rfl ?_
                refine y_iload_n rfl rfl ?_
                refine y_if_eqF rfl (by decide) ?_
                refine y_aload_n rfl rfl ?_
                refine y_getIv (v := Int32.ofInt (0)) rfl (ySh.t hS rfl) (ySh.n hS rfl) rfl rfl hth ?_
                refine y_if_neF rfl (by decide) ?_
                refine y_aload_n rfl rfl ?_
                refine y_iload_n rfl rfl ?_
                refine y_putI rfl (ySh.t hS rfl) (ySh.n hS rfl) rfl (Nat.le_of_ble_eq_true rfl) rfl rfl ?_
                refine y_nameI (fun I37 e37 => ?_)
                have hR1 := (hR0.grow hX).mod0 e37 (by decide) (by decide)
                have hK := (hK.x hRo hno hX).upI (upI e37) (by decide) (by decide) (fun i hi => by have := (hRo.l87.2.2.2.2 i hi).2.1; omega) (by rw [e37, upd2_ne (.inr (by decide))]; exact Int.le_refl _)
                have hth : I37 83 0 = Int32.ofInt (3) := by rw [e37, upd2_self]
                have hzz : ySz8 I4 I37 := ySz8_of (upI e37) (by rw [e37]; exact ⟨upd2_ne (.inr (by decide)), upd2_ne (.inr (by decide))⟩)
                have hB := (hB.trans hX).wr e37 rfl
                have h8 : ∀ a, 84 ≤ a → a ≤ 86 → I37 a = I a := fun a h1 h2 => (upI e37 a (by omega)).trans ((hX.2.1 a (by omega)).2.1.trans (h8 a h1 h2))
                have h3k : ∀ k, k ≠ 0 → I37 83 k = I 83 k := fun k hk => (congrFun (congrFun e37 83) k).trans ((upd2_ne (.inr hk)).trans ((congrFun (hX.2.1 83 (by omega)).2.1 k).trans (h3k k hk)))
                have hg := (hg.gx hX (by omega)).skip e37 (by decide)
                have hday : I37 83 1 = I 83 1 := (congrFun (congrFun e37 83) 1).trans ((upd2_ne (.inr (by decide))).trans ((congrFun (hX.2.1 83 (by omega)).2.1 1).trans hday))
                have hRb : ∀ a, a < n → R a = R a := fun a ha => (hX.2.1 a (by omega)).2.2.trans (hRb a ha)
                have hb83 : ∀ a, a ≠ 83 → a < n → I37 a = I a := fun a ha hb => (upI e37 a ha).trans ((hX.2.1 a (by omega)).2.1.trans (hb83 a ha hb))
                have hS0 := hS
                have hR0 := hR1
                have hn := Nat.le_refl n
                have h94 := hS0.1
                have hX := @yX.rf n tg I37 R
                have hS := hS0.x hX
                have hR := hR0.x hn hX
                have hz := hX.sz h94
                have hxn := hX.1
                have hN := hR0.1
                have hnb := hR0.2.2.2.2.2.2
                have hthB := hth
                refine y_aload_n rfl rfl ?_
                refine y_getIv (v := Int32.ofInt (3)) rfl (ySh.t hS rfl) (ySh.n hS rfl) rfl rfl hth ?_
                refine y_if_leF rfl (by decide) ?_
                refine y_iconst rfl ?_
                refine y_goto rfl j_X14_refuse_28 ?_
                refine y_ireturn rfl rfl rfl ?_
                refine y_ret1 ?_
                refine y_if_eqF rfl (by decide) ?_
                refine y_iconst rfl ?_
                refine y_ireturn rfl rfl rfl ?_
                exact hQ3 (by omega) _ _ _ _ _ _ _ hS ((hR0.grow hX).up (Nat.le_succ K) hk6) (hK.x hRo hno hX) hth ((hB.trans hX).rf2 (by omega)) (by omega) (by omega)
            · refine y_aload_n rfl rfl ?_
              refine y_getR rfl (ySh.t hS rfl) (ySh.n hS rfl) rfl rfl (ySh.r hS rfl) ?_
              refine y_iload_n rfl rfl ?_
              refine y_ialoadv (J := I 85) rfl (ySh.t hS rfl) (ySh.n hS rfl) (by omega) (by omega) (((hB.trans hX).n (by omega)).trans (by repeat (first | rfl | (rw [upd2_row (by first | decide | omega)]) | refine upd2_cg ?_))) ?_
              refine y_iload_n rfl rfl ?_
              refine y_ineg rfl ?_
              refine y_icmp_lt rfl j_X14_deposit_86 (fun h_38 => ?_) (fun h_39 => ?_)
              · refine y_iconst rfl ?_
                refine y_goto rfl j_X14_deposit_91 ?_
                refine y_iconst rfl ?_
                refine y_virt rfl rfl rfl rfl rfl (ySh.t hS rfl) (ySh.n hS rfl) ?_
                refine y_in (M := xm_X14_refuse) (ls := [some _, some _, some _]) rfl rfl rfl ?_
                refine y_iload_n rfl rfl ?_
                refine y_if_eqF rfl (by decide) ?_
                refine y_aload_n rfl rfl ?_
                refine y_getIv (v := Int32.ofInt (0)) rfl (ySh.t hS rfl) (ySh.n hS rfl) rfl rfl hth ?_
                refine y_if_neF rfl (by decide) ?_
                refine y_aload_n rfl rfl ?_
                refine y_iload_n rfl rfl ?_
                refine y_putI rfl (ySh.t hS rfl) (ySh.n hS rfl) rfl (Nat.le_of_ble_eq_true rfl) rfl rfl ?_
                refine y_nameI (fun I40 e40 => ?_)
                have hR1 := (hR0.grow hX).mod0 e40 (by decide) (by decide)
                have hK := (hK.x hRo hno hX).upI (upI e40) (by decide) (by decide) (fun i hi => by have := (hRo.l87.2.2.2.2 i hi).2.1; omega) (by rw [e40, upd2_ne (.inr (by decide))]; exact Int.le_refl _)
                have hth : I40 83 0 = Int32.ofInt (3) := by rw [e40, upd2_self]
                have hzz : ySz8 I4 I40 := ySz8_of (upI e40) (by rw [e40]; exact ⟨upd2_ne (.inr (by decide)), upd2_ne (.inr (by decide))⟩)
                have hB := (hB.trans hX).wr e40 rfl
                have h8 : ∀ a, 84 ≤ a → a ≤ 86 → I40 a = I a := fun a h1 h2 => (upI e40 a (by omega)).trans ((hX.2.1 a (by omega)).2.1.trans (h8 a h1 h2))
                have h3k : ∀ k, k ≠ 0 → I40 83 k = I 83 k := fun k hk => (congrFun (congrFun e40 83) k).trans ((upd2_ne (.inr hk)).trans ((congrFun (hX.2.1 83 (by omega)).2.1 k).trans (h3k k hk)))
                have hg := (hg.gx hX (by omega)).skip e40 (by decide)
                have hday : I40 83 1 = I 83 1 := (congrFun (congrFun e40 83) 1).trans ((upd2_ne (.inr (by decide))).trans ((congrFun (hX.2.1 83 (by omega)).2.1 1).trans hday))
                have hRb : ∀ a, a < n → R a = R a := fun a ha => (hX.2.1 a (by omega)).2.2.trans (hRb a ha)
                have hb83 : ∀ a, a ≠ 83 → a < n → I40 a = I a := fun a ha hb => (upI e40 a ha).trans ((hX.2.1 a (by omega)).2.1.trans (hb83 a ha hb))
                have hS0 := hS
                have hR0 := hR1
                have hn := Nat.le_refl n
                have h94 := hS0.1
                have hX := @yX.rf n tg I40 R
                have hS := hS0.x hX
                have hR := hR0.x hn hX
                have hz := hX.sz h94
                have hxn := hX.1
                have hN := hR0.1
                have hnb := hR0.2.2.2.2.2.2
                have hthB := hth
                refine y_aload_n rfl rfl ?_
                refine y_getIv (v := Int32.ofInt (3)) rfl (ySh.t hS rfl) (ySh.n hS rfl) rfl rfl hth ?_
                refine y_if_leF rfl (by decide) ?_
                refine y_iconst rfl ?_
                refine y_goto rfl j_X14_refuse_28 ?_
                refine y_ireturn rfl rfl rfl ?_
                refine y_ret1 ?_
                refine y_if_eqF rfl (by decide) ?_
                refine y_iconst rfl ?_
                refine y_ireturn rfl rfl rfl ?_
                exact hQ3 (by omega) _ _ _ _ _ _ _ hS ((hR0.grow hX).up (Nat.le_succ K) hk6) (hK.x hRo hno hX) hth ((hB.trans hX).rf2 (by omega)) (by omega) (by omega)
              · refine y_aload_n rfl rfl ?_
                refine y_getR rfl (ySh.t hS rfl) (ySh.n hS rfl) rfl rfl (ySh.r hS rfl) ?_
                refine y_iload_n rfl rfl ?_
                refine y_ialoadv (J := I 85) rfl (ySh.t hS rfl) (ySh.n hS rfl) (by omega) (by omega) (((hB.trans hX).n (by omega)).trans (by repeat (first | rfl | (rw [upd2_row (by first | decide | omega)]) | refine upd2_cg ?_))) ?_
                refine y_iload_n rfl rfl ?_
                refine y_iadd rfl ?_
                refine y_ldcI (v := (99999 : Int)) rfl rfl rfl (by decide) ?_
                refine y_icmp_le rfl j_X14_deposit_90 (fun h_41 => ?_) (fun h_42 => ?_)
                · rw [yz_99999] at h_41
                  refine y_iconst rfl ?_
                  refine y_iconst rfl ?_
                  refine y_virt rfl rfl rfl rfl rfl (ySh.t hS rfl) (ySh.n hS rfl) ?_
                  refine y_in (M := xm_X14_refuse) (ls := [some _, some _, some _]) rfl rfl rfl ?_
                  refine y_iload_n rfl rfl ?_
                  refine y_if_eqT rfl j_X14_refuse_16 (by decide) ?_
                  refine y_aload_n rfl rfl ?_
                  refine y_getIv (v := Int32.ofInt (0)) rfl (ySh.t hS rfl) (ySh.n hS rfl) rfl rfl hth ?_
                  refine y_if_leT rfl j_X14_refuse_27 (by decide) ?_
                  refine y_iconst rfl ?_
                  refine y_ireturn rfl rfl rfl ?_
                  refine y_ret1 ?_
                  refine y_if_eqT rfl j_X14_deposit_100 (by decide) ?_
                  refine y_aload_n rfl rfl ?_
                  refine y_getR rfl (ySh.t hS rfl) (ySh.n hS rfl) rfl rfl (ySh.r hS rfl) ?_
                  refine y_iload_n rfl rfl ?_
                  refine y_dup2 rfl rfl rfl ?_
                  refine y_ialoadv (J := I 85) rfl (ySh.t hS rfl) (ySh.n hS rfl) (by omega) (by omega) (((hB.trans hX).n (by omega)).trans (by repeat (first | rfl | (rw [upd2_row (by first | decide | omega)]) | refine upd2_cg ?_))) ?_
                  refine y_iload_n rfl rfl ?_
                  refine y_iadd rfl ?_
                  refine y_iastore rfl (ySh.t hS rfl) (ySh.n hS rfl) (Nat.le_of_ble_eq_true rfl) (by omega) (by omega) ?_
                  refine y_nameI (fun I43 e43 => ?_)
                  have hR1 := (hR0.grow hX).arr e43 (by decide)
                  have hK := (hK.x hRo hno hX).upI (upI e43) (by decide) (by decide) (fun i hi => by have := (hRo.l87.2.2.2.2 i hi).2.1; omega) (by rw [e43, upd2_ne (.inl (by omega))]; exact Int.le_refl _)
                  have hth := (show I43 83 0 = I4 83 0 by rw [e43, upd2_ne (.inl (by omega))]).trans hth
                  have hzz : ySz I4 I43 := ySz_ofE (upI e43) (by omega)
                  have hB := (hB.trans hX).wr e43 rfl
                  have h3k : ∀ k, k ≠ 0 → I43 83 k = I 83 k := fun k hk => (congrFun (congrFun e43 83) k).trans ((upd2_ne (.inl (by omega))).trans ((congrFun (hX.2.1 83 (by omega)).2.1 k).trans (h3k k hk)))
                  have hg := (hg.gx hX (by omega)).skip e43 (by decide)
                  have hday : I43 83 1 = I 83 1 := (congrFun (congrFun e43 83) 1).trans ((upd2_ne (.inl (by omega))).trans ((congrFun (hX.2.1 83 (by omega)).2.1 1).trans hday))
                  have hRb : ∀ a, a < n → R a = R a := fun a ha => (hX.2.1 a (by omega)).2.2.trans (hRb a ha)
                  have hS0 := hS
                  have hR0 := hR1
                  have hn := Nat.le_refl n
                  have h94 := hS0.1
                  have hX := @yX.rf n tg I43 R
                  have hS := hS0.x hX
                  have hR := hR0.x hn hX
                  have hz := hX.sz h94
                  have hxn := hX.1
                  have hN := hR0.1
                  have hnb := hR0.2.2.2.2.2.2
                  have hthB := hth
                  refine y_aload_n rfl rfl ?_
                  refine y_getR rfl (ySh.t hS rfl) (ySh.n hS rfl) rfl rfl (ySh.r hS rfl) ?_
                  refine y_iload_n rfl rfl ?_
                  refine y_dup2 rfl rfl rfl ?_
                  refine y_ialoadv (J := I 84) rfl (ySh.t hS rfl) (ySh.n hS rfl) (by omega) (by omega) (((hB.trans hX).n (by omega)).trans (by repeat (first | rfl | (rw [upd2_row (by first | decide | omega)]) | refine upd2_cg ?_))) ?_
                  refine y_iload_n rfl rfl ?_
                  refine y_isub rfl ?_
                  refine y_iastore rfl (ySh.t hS rfl) (ySh.n hS rfl) (Nat.le_of_ble_eq_true rfl) (by omega) (by omega) ?_
                  refine y_nameI (fun I44 e44 => ?_)
                  have hR1 := (hR0.grow hX).arr e44 (by decide)
                  have hK := (hK.x hRo hno hX).upI (upI e44) (by decide) (by decide) (fun i hi => by have := (hRo.l87.2.2.2.2 i hi).2.1; omega) (by rw [e44, upd2_ne (.inl (by omega))]; exact Int.le_refl _)
                  have hth := (show I44 83 0 = I43 83 0 by rw [e44, upd2_ne (.inl (by omega))]).trans hth
                  have hzz : ySz I43 I44 := ySz_ofE (upI e44) (by omega)
                  have hB := (hB.trans hX).wr e44 rfl
                  have h3k : ∀ k, k ≠ 0 → I44 83 k = I 83 k := fun k hk => (congrFun (congrFun e44 83) k).trans ((upd2_ne (.inl (by omega))).trans ((congrFun (hX.2.1 83 (by omega)).2.1 k).trans (h3k k hk)))
                  have hg := (hg.gx hX (by omega)).skip e44 (by decide)
                  have hday : I44 83 1 = I 83 1 := (congrFun (congrFun e44 83) 1).trans ((upd2_ne (.inl (by omega))).trans ((congrFun (hX.2.1 83 (by omega)).2.1 1).trans hday))
                  have hRb : ∀ a, a < n → R a = R a := fun a ha => (hX.2.1 a (by omega)).2.2.trans (hRb a ha)
                  have hS0 := hS
                  have hR0 := hR1
                  have hn := Nat.le_refl n
                  have h94 := hS0.1
                  have hX := @yX.rf n tg I44 R
                  have hS := hS0.x hX
                  have hR := hR0.x hn hX
                  have hz := hX.sz h94
                  have hxn := hX.1
                  have hN := hR0.1
                  have hnb := hR0.2.2.2.2.2.2
                  have hthB := hth
                  refine y_aload_n rfl rfl ?_
                  refine y_getR rfl (ySh.t hS rfl) (ySh.n hS rfl) rfl rfl (ySh.r hS rfl) ?_
                  refine y_iload_n rfl rfl ?_
                  refine y_ialoadv (J := _) rfl (ySh.t hS rfl) (ySh.n hS rfl) (by omega) (by omega) ((hB.trans hX).n (by omega)) ?_
                  refine y_ireturn rfl rfl rfl ?_
                  exact hQ0 (by omega) _ _ _ _ _ _ _ hS ((hR0.grow hX).up (Nat.le_succ K) hk6) (hK.x hRo hno hX) hth (by rw [upd2_row (by decide), upd2_self]) (hB.trans hX) (by omega) (by omega)
                · rw [yz_99999] at h_42
                  refine y_iconst rfl ?_
                  refine y_goto rfl j_X14_deposit_91 ?_
                  refine y_iconst rfl ?_
                  refine y_virt rfl rfl rfl rfl rfl (ySh.t hS rfl) (ySh.n hS rfl) ?_
                  refine y_in (M := xm_X14_refuse) (ls := [some _, some _, some _]) rfl rfl rfl ?_
                  refine y_iload_n rfl rfl ?_
                  refine y_if_eqF rfl (by decide) ?_
                  refine y_aload_n rfl rfl ?_
                  refine y_getIv (v := Int32.ofInt (0)) rfl (ySh.t hS rfl) (ySh.n hS rfl) rfl rfl hth ?_
                  refine y_if_neF rfl (by decide) ?_
                  refine y_aload_n rfl rfl ?_
                  refine y_iload_n rfl rfl ?_
                  refine y_putI rfl (ySh.t hS rfl) (ySh.n hS rfl) rfl (Nat.le_of_ble_eq_true rfl) rfl rfl ?_
                  refine y_nameI (fun I45 e45 => ?_)
                  have hR1 := (hR0.grow hX).mod0 e45 (by decide) (by decide)
                  have hK := (hK.x hRo hno hX).upI (upI e45) (by decide) (by decide) (fun i hi => by have := (hRo.l87.2.2.2.2 i hi).2.1; omega) (by rw [e45, upd2_ne (.inr (by decide))]; exact Int.le_refl _)
                  have hth : I45 83 0 = Int32.ofInt (3) := by rw [e45, upd2_self]
                  have hzz : ySz8 I4 I45 := ySz8_of (upI e45) (by rw [e45]; exact ⟨upd2_ne (.inr (by decide)), upd2_ne (.inr (by decide))⟩)
                  have hB := (hB.trans hX).wr e45 rfl
                  have h8 : ∀ a, 84 ≤ a → a ≤ 86 → I45 a = I a := fun a h1 h2 => (upI e45 a (by omega)).trans ((hX.2.1 a (by omega)).2.1.trans (h8 a h1 h2))
                  have h3k : ∀ k, k ≠ 0 → I45 83 k = I 83 k := fun k hk => (congrFun (congrFun e45 83) k).trans ((upd2_ne (.inr hk)).trans ((congrFun (hX.2.1 83 (by omega)).2.1 k).trans (h3k k hk)))
                  have hg := (hg.gx hX (by omega)).skip e45 (by decide)
                  have hday : I45 83 1 = I 83 1 := (congrFun (congrFun e45 83) 1).trans ((upd2_ne (.inr (by decide))).trans ((congrFun (hX.2.1 83 (by omega)).2.1 1).trans hday))
                  have hRb : ∀ a, a < n → R a = R a := fun a ha => (hX.2.1 a (by omega)).2.2.trans (hRb a ha)
                  have hb83 : ∀ a, a ≠ 83 → a < n → I45 a = I a := fun a ha hb => (upI e45 a ha).trans ((hX.2.1 a (by omega)).2.1.trans (hb83 a ha hb))
                  have hS0 := hS
                  have hR0 := hR1
                  have hn := Nat.le_refl n
                  have h94 := hS0.1
                  have hX := @yX.rf n tg I45 R
                  have hS := hS0.x hX
                  have hR := hR0.x hn hX
                  have hz := hX.sz h94
                  have hxn := hX.1
                  have hN := hR0.1
                  have hnb := hR0.2.2.2.2.2.2
                  have hthB := hth
                  refine y_aload_n rfl rfl ?_
                  refine y_getIv (v := Int32.ofInt (3)) rfl (ySh.t hS rfl) (ySh.n hS rfl) rfl rfl hth ?_
                  refine y_if_leF rfl (by decide) ?_
                  refine y_iconst rfl ?_
                  refine y_goto rfl j_X14_refuse_28 ?_
                  refine y_ireturn rfl rfl rfl ?_
                  refine y_ret1 ?_
                  refine y_if_eqF rfl (by decide) ?_
                  refine y_iconst rfl ?_
                  refine y_ireturn rfl rfl rfl ?_
                  exact hQ3 (by omega) _ _ _ _ _ _ _ hS ((hR0.grow hX).up (Nat.le_succ K) hk6) (hK.x hRo hno hX) hth ((hB.trans hX).rf2 (by omega)) (by omega) (by omega)
      · rw [yz_m9999] at h_10
        rw [yz_9999] at h_10
        refine y_ret1 ?_
        refine y_if_neF rfl (by decide) ?_
        refine y_iconst rfl ?_
        refine y_goto rfl j_X14_deposit_36 ?_
        refine y_iconst rfl ?_
        refine y_virt rfl rfl rfl rfl rfl (ySh.t hS rfl) (ySh.n hS rfl) ?_
        refine y_in (M := xm_X14_refuse) (ls := [some _, some _, some _]) rfl rfl rfl ?_
        refine y_iload_n rfl rfl ?_
        refine y_if_eqF rfl (by decide) ?_
        refine y_aload_n rfl rfl ?_
        refine y_getIv (v := Int32.ofInt (0)) rfl (ySh.t hS rfl) (ySh.n hS rfl) rfl rfl hth ?_
        refine y_if_neF rfl (by decide) ?_
        refine y_aload_n rfl rfl ?_
        refine y_iload_n rfl rfl ?_
        refine y_putI rfl (ySh.t hS rfl) (ySh.n hS rfl) rfl (Nat.le_of_ble_eq_true rfl) rfl rfl ?_
        refine y_nameI (fun I46 e46 => ?_)
        have hR1 := (hR0.grow hX).mod0 e46 (by decide) (by decide)
        have hK := (hK.x hRo hno hX).upI (upI e46) (by decide) (by decide) (fun i hi => by have := (hRo.l87.2.2.2.2 i hi).2.1; omega) (by rw [e46, upd2_ne (.inr (by decide))]; exact Int.le_refl _)
        have hth : I46 83 0 = Int32.ofInt (2) := by rw [e46, upd2_self]
        have hzz : ySz8 I4 I46 := ySz8_of (upI e46) (by rw [e46]; exact ⟨upd2_ne (.inr (by decide)), upd2_ne (.inr (by decide))⟩)
        have hB := (hB.trans hX).wr e46 rfl
        have h8 : ∀ a, 84 ≤ a → a ≤ 86 → I46 a = I a := fun a h1 h2 => (upI e46 a (by omega)).trans ((hX.2.1 a (by omega)).2.1.trans (h8 a h1 h2))
        have h3k : ∀ k, k ≠ 0 → I46 83 k = I 83 k := fun k hk => (congrFun (congrFun e46 83) k).trans ((upd2_ne (.inr hk)).trans ((congrFun (hX.2.1 83 (by omega)).2.1 k).trans (h3k k hk)))
        have hg := (hg.gx hX (by omega)).skip e46 (by decide)
        have hday : I46 83 1 = I 83 1 := (congrFun (congrFun e46 83) 1).trans ((upd2_ne (.inr (by decide))).trans ((congrFun (hX.2.1 83 (by omega)).2.1 1).trans hday))
        have hRb : ∀ a, a < n → R a = R a := fun a ha => (hX.2.1 a (by omega)).2.2.trans (hRb a ha)
        have hb83 : ∀ a, a ≠ 83 → a < n → I46 a = I a := fun a ha hb => (upI e46 a ha).trans ((hX.2.1 a (by omega)).2.1.trans (hb83 a ha hb))
        have hS0 := hS
        have hR0 := hR1
        have hn := Nat.le_refl n
        have h94 := hS0.1
        have hX := @yX.rf n tg I46 R
        have hS := hS0.x hX
        have hR := hR0.x hn hX
        have hz := hX.sz h94
        have hxn := hX.1
        have hN := hR0.1
        have hnb := hR0.2.2.2.2.2.2
        have hthB := hth
        refine y_aload_n rfl rfl ?_
        refine y_getIv (v := Int32.ofInt (2)) rfl (ySh.t hS rfl) (ySh.n hS rfl) rfl rfl hth ?_
        refine y_if_leF rfl (by decide) ?_
        refine y_iconst rfl ?_
        refine y_goto rfl j_X14_refuse_28 ?_
        refine y_ireturn rfl rfl rfl ?_
        refine y_ret1 ?_
        refine y_if_neT rfl j_X14_deposit_98 (by decide) ?_
        refine y_iconst rfl ?_
        refine y_ireturn rfl rfl rfl ?_
        exact hQ2 (by omega) _ _ _ _ _ _ _ hS ((hR0.grow hX).up (Nat.le_succ K) hk6) (hK.x hRo hno hX) hth ((hB.trans hX).rf2 (by omega)) (by omega) (by omega)
  · rw [yz_0] at h_3
    try rw [ysub (by rw [yz_1]; omega) (by rw [yz_1]; omega), yz_1] at h_3
    refine y_ret1 ?_
    refine y_if_neF rfl (by decide) ?_
    refine y_iconst rfl ?_
    refine y_goto rfl j_X14_isNobody_19 ?_
    refine y_ireturn rfl rfl rfl ?_
    refine y_ret1 ?_
    refine y_iconst rfl ?_
    refine y_virt rfl rfl rfl rfl rfl (ySh.t hS rfl) (ySh.n hS rfl) ?_
    refine y_in (M := xm_X14_start) (ls := [some _, some _, some _]) rfl rfl rfl ?_
    refine y_aload_n rfl rfl ?_
    refine y_iconst rfl ?_
    refine y_putI rfl (ySh.t hS rfl) (ySh.n hS rfl) rfl (Nat.le_of_ble_eq_true rfl) rfl rfl ?_
    refine y_nameI (fun I47 e47 => ?_)
    have hR1 := (hR0.grow hX).mod0 e47 (by decide) (by decide)
    have hK := (hK.x hRo hno hX).upI (upI e47) (by decide) (by decide) (fun i hi => by have := (hRo.l87.2.2.2.2 i hi).2.1; omega) (by rw [e47, upd2_ne (.inr (by decide))]; exact Int.le_refl _)
    have hth : I47 83 0 = Int32.ofInt (0) := by rw [e47, upd2_self]
    have hzz : ySz8 I I47 := ySz8_of (upI e47) (by rw [e47]; exact ⟨upd2_ne (.inr (by decide)), upd2_ne (.inr (by decide))⟩)
    have hB := (hB.trans hX).wr e47 rfl
    have h8 : ∀ a, 84 ≤ a → a ≤ 86 → I47 a = I a := fun a h1 h2 => (upI e47 a (by omega)).trans ((hX.2.1 a (by omega)).2.1.trans (h8 a h1 h2))
    have h3k : ∀ k, k ≠ 0 → I47 83 k = I 83 k := fun k hk => (congrFun (congrFun e47 83) k).trans ((upd2_ne (.inr hk)).trans ((congrFun (hX.2.1 83 (by omega)).2.1 k).trans (h3k k hk)))
    have hg := (hg.gx hX (by omega)).skip e47 (by decide)
    have hday : I47 83 1 = I 83 1 := (congrFun (congrFun e47 83) 1).trans ((upd2_ne (.inr (by decide))).trans ((congrFun (hX.2.1 83 (by omega)).2.1 1).trans hday))
    have hRb : ∀ a, a < n → R a = R a := fun a ha => (hX.2.1 a (by omega)).2.2.trans (hRb a ha)
    have hb83 : ∀ a, a ≠ 83 → a < n → I47 a = I a := fun a ha hb => (upI e47 a ha).trans ((hX.2.1 a (by omega)).2.1.trans (hb83 a ha hb))
    have hS0 := hS
    have hR0 := hR1
    have hn := Nat.le_refl n
    have h94 := hS0.1
    have hX := @yX.rf n tg I47 R
    have hS := hS0.x hX
    have hR := hR0.x hn hX
    have hz := hX.sz h94
    have hxn := hX.1
    have hN := hR0.1
    have hnb := hR0.2.2.2.2.2.2
    have hthB := hth
    refine y_aload_n rfl rfl ?_
    refine y_iload_n rfl rfl ?_
    refine y_iload_n rfl rfl ?_
    refine y_virt rfl rfl rfl rfl rfl (ySh.t hS rfl) (ySh.n hS rfl) ?_
    refine y_in (M := xm_X14_refuse) (ls := [some _, some _, some _]) rfl rfl rfl ?_
    refine y_iload_n rfl rfl ?_
    refine y_if_eqF rfl (by decide) ?_
    refine y_aload_n rfl rfl ?_
    refine y_getIv (v := Int32.ofInt (0)) rfl (ySh.t hS rfl) (ySh.n hS rfl) rfl rfl hth ?_
    refine y_if_neF rfl (by decide) ?_
    refine y_aload_n rfl rfl ?_
    refine y_iload_n rfl rfl ?_
    refine y_putI rfl (ySh.t hS rfl) (ySh.n hS rfl) rfl (Nat.le_of_ble_eq_true rfl) rfl rfl ?_
    refine y_nameI (fun I48 e48 => ?_)
    have hR1 := (hR0.grow hX).mod0 e48 (by decide) (by decide)
    have hK := (hK.x hRo hno hX).upI (upI e48) (by decide) (by decide) (fun i hi => by have := (hRo.l87.2.2.2.2 i hi).2.1; omega) (by rw [e48, upd2_ne (.inr (by decide))]; exact Int.le_refl _)
    have hth : I48 83 0 = Int32.ofInt (1) := by rw [e48, upd2_self]
    have hzz : ySz8 I47 I48 := ySz8_of (upI e48) (by rw [e48]; exact ⟨upd2_ne (.inr (by decide)), upd2_ne (.inr (by decide))⟩)
    have hB := (hB.trans hX).wr e48 rfl
    have h8 : ∀ a, 84 ≤ a → a ≤ 86 → I48 a = I a := fun a h1 h2 => (upI e48 a (by omega)).trans ((hX.2.1 a (by omega)).2.1.trans (h8 a h1 h2))
    have h3k : ∀ k, k ≠ 0 → I48 83 k = I 83 k := fun k hk => (congrFun (congrFun e48 83) k).trans ((upd2_ne (.inr hk)).trans ((congrFun (hX.2.1 83 (by omega)).2.1 k).trans (h3k k hk)))
    have hg := (hg.gx hX (by omega)).skip e48 (by decide)
    have hday : I48 83 1 = I 83 1 := (congrFun (congrFun e48 83) 1).trans ((upd2_ne (.inr (by decide))).trans ((congrFun (hX.2.1 83 (by omega)).2.1 1).trans hday))
    have hRb : ∀ a, a < n → R a = R a := fun a ha => (hX.2.1 a (by omega)).2.2.trans (hRb a ha)
    have hb83 : ∀ a, a ≠ 83 → a < n → I48 a = I a := fun a ha hb => (upI e48 a ha).trans ((hX.2.1 a (by omega)).2.1.trans (hb83 a ha hb))
    have hS0 := hS
    have hR0 := hR1
    have hn := Nat.le_refl n
    have h94 := hS0.1
    have hX := @yX.rf n tg I48 R
    have hS := hS0.x hX
    have hR := hR0.x hn hX
    have hz := hX.sz h94
    have hxn := hX.1
    have hN := hR0.1
    have hnb := hR0.2.2.2.2.2.2
    have hthB := hth
    refine y_aload_n rfl rfl ?_
    refine y_getIv (v := Int32.ofInt (1)) rfl (ySh.t hS rfl) (ySh.n hS rfl) rfl rfl hth ?_
    refine y_if_leF rfl (by decide) ?_
    refine y_iconst rfl ?_
    refine y_goto rfl j_X14_refuse_28 ?_
    refine y_ireturn rfl rfl rfl ?_
    refine y_ret1 ?_
    refine y_ireturn rfl rfl rfl ?_
    refine y_ret1 ?_
    refine y_if_neT rfl j_X14_deposit_98 (by decide) ?_
    refine y_iconst rfl ?_
    refine y_ireturn rfl rfl rfl ?_
    exact hQ1 (by omega) _ _ _ _ _ _ _ hS ((hR0.grow hX).up (Nat.le_succ K) hk6) (hK.x hRo hno hX) hth ((hB.trans hX).rf2 (by omega)) (by omega) (by omega)
end YXM
