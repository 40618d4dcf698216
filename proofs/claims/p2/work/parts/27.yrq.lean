/-! THE REFERENCE: loops that change (by gen27.py) -/
theorem ySum_set {f g : Nat → Int} {j0 : Nat} : ∀ {k : Nat}, j0 < k → (∀ j, j ≠ j0 → g j = f j) → ySum g k = ySum f k - f j0 + g j0
  | 0, h, _ => absurd h (Nat.not_lt_zero _)
  | k + 1, h, hg => by
    show ySum g k + g k = ySum f k + f k - f j0 + g j0
    by_cases hj : j0 = k
    · subst hj
      rw [ySum_eq (f := g) (g := f) (fun j hj => hg j (by omega))]
      omega
    · rw [ySum_set (k := k) (by omega) hg, hg k (Ne.symm hj)]
      omega
theorem yKp.trans {K nb n n1 n2 : Nat} {tg tg1 tg2 : Nat → yT} {I I1 I2 : Nat → Nat → Int32} {R R1 R2 : Nat → Nat → Value} (h : yKp n tg I R n1 tg1 I1 R1) (h2 : yKp n1 tg1 I1 R1 n2 tg2 I2 R2) : yKp n tg I R n2 tg2 I2 R2 := by
  obtain ⟨a1, a2, a3, a4, a5, a6, a7, a8⟩ := h
  obtain ⟨b1, b2, b3, b4, b5, b6, b7, b8⟩ := h2
  have hE : yEl R1 87 = yEl R 87 := yEl_eq a4
  refine ⟨by omega, fun a ha => (b2 a (by omega)).trans (a2 a ha), fun a ha => (b3 a ha).trans (a3 a ha), b4.trans a4, ?_, b6.trans a6, fun i hi => ?_, by omega⟩
  · rw [← hE, b5, hE]; exact a5
  · have := b7 i (by rw [a6]; exact hi)
    rw [show yAd R1 87 i = yAd R 87 i from yAd_eq a4 a5] at this
    exact this.trans (a7 i hi)
section YRQ
variable {K nb n : Nat} {tg : Nat → yT} {I : Nat → Nat → Int32} {R : Nat → Nat → Value} {c s : Nat} {Q : yQ}
theorem lm_share (hRo : yRI K n tg I R) (hno : n ≤ n) {x1 x2 x3 : Int32} {md : Nat} (hQ : ∀ (v : Int32) n1 tg1 I1 R1, ySh n1 tg1 R1 → yRI K n1 tg1 I1 R1 → yKp n tg I R n1 tg1 I1 R1 → Q (.inl (some (.int v))) (n1, tg1, I1, R1) c s) : ∀ (m : Nat) (x5 : Int32) (x6 : Int32) (n1 : Nat) (tg1 : Nat → yT) (I1 : Nat → Nat → Int32) (R1 : Nat → Nat → Value), ySh n1 tg1 R1 → yRI K n1 tg1 I1 R1 → yKp n tg I R n1 tg1 I1 R1 → tg1 md = (0, 11) → md < n1 → (0 ≤ x6.toInt) → (x6.toInt ≤ 8) → 8 - x6.toInt < m → yW xm_X14_share xc_X14_share_72 [some (.ref 83), some (.int x1), some (.int x2), some (.int x3), some (.ref md), some (.int x5), some (.int x6)] [] (n1, tg1, I1, R1) c s Q := by
  intro m
  induction m with
  | zero => intro x5 x6 n1 tg1 I1 R1 hS0 hR0 hK ht_pa ha_pa i0 i1 hm; have hN := hR0.1; exfalso; omega
  | succ m ih =>
    intro x5 x6 n1 tg1 I1 R1 hS0 hR0 hK ht_pa ha_pa i0 i1 hm
    have hn := Nat.le_refl n1
    have hX := @yX.rf n1 tg1 I1 R1
    have hS := hS0
    have hR := hR0
    have h94 : 94 ≤ n1 := hS0.1
    have hz : ySz I1 I1 := hX.sz h94
    have hxn := hX.1
    have hN := hR0.1
    have hnb : 94 ≤ n1 := hR0.2.2.2.2.2.2
    refine y_iload rfl rfl ?_
    refine y_bip rfl (by decide) ?_
    refine y_icmp_ge rfl j_X14_share_118 (fun h_1 => ?_) (fun h_2 => ?_)
    · rw [yz_8] at h_1
      refine y_aload_n rfl rfl ?_
      refine y_getR rfl (ySh.t hS rfl) (ySh.n hS rfl) rfl rfl (ySh.r hS rfl) ?_
      refine y_bip rfl (by decide) ?_
      refine y_dup2 rfl rfl rfl ?_
      refine y_ialoadC (j := 8) rfl (ySh.t hS rfl) (ySh.n hS rfl) (by decide) (by decide) rfl ?_
      refine y_aload rfl rfl ?_
      refine y_bip rfl (by decide) ?_
      refine y_ialoadC (j := 8) rfl ht_pa ha_pa (by decide) (by decide) rfl ?_
      refine y_iadd rfl ?_
      refine y_iastoreC (j := 8) rfl (ySh.t hS rfl) (ySh.n hS rfl) (Nat.le_of_ble_eq_true rfl) (by decide) (by decide) rfl ?_
      refine y_nameI (fun I3 e3 => ?_)
      have hR1 := (hR0.grow hX).arr e3 (by decide)
      have hK := (hK.x hRo hno hX).upI (upI e3) (by decide) (by decide) (fun i hi => by have := (hRo.l87.2.2.2.2 i hi).2.1; omega) (by rw [e3, upd2_ne (.inl (by omega))]; exact Int.le_refl _)
      have hzz : ySz I1 I3 := ySz_ofE (upI e3) (by omega)
      have hS0 := hS
      have hR0 := hR1
      have hn := Nat.le_refl n1
      have h94 := hS0.1
      have hX := @yX.rf n1 tg1 I3 R1
      have hS := hS0.x hX
      have hR := hR0.x hn hX
      have hz := hX.sz h94
      have hxn := hX.1
      have hN := hR0.1
      have hnb := hR0.2.2.2.2.2.2
      refine y_aload_n rfl rfl ?_
      refine y_dup rfl rfl ?_
      refine y_getI rfl (ySh.t hS rfl) (ySh.n hS rfl) rfl rfl ?_
      refine y_aload rfl rfl ?_
      refine y_bip rfl (by decide) ?_
      refine y_ialoadC (j := 9) rfl ht_pa ha_pa (by decide) (by decide) rfl ?_
      refine y_iadd rfl ?_
      refine y_putI rfl (ySh.t hS rfl) (ySh.n hS rfl) rfl (Nat.le_of_ble_eq_true rfl) rfl rfl ?_
      refine y_nameI (fun I4 e4 => ?_)
      have hR1 := (hR0.grow hX).mod0 e4 (by decide) (by decide)
      have hK := (hK.x hRo hno hX).upI (upI e4) (by decide) (by decide) (fun i hi => by have := (hRo.l87.2.2.2.2 i hi).2.1; omega) (by rw [e4, upd2_ne (.inr (by decide))]; exact Int.le_refl _)
      have hzz : ySz I3 I4 := ySz_ofM (upI e4) (by rw [e4]; exact ⟨upd2_ne (.inr (by decide)), upd2_ne (.inr (by decide)), upd2_ne (.inr (by decide))⟩)
      have hS0 := hS
      have hR0 := hR1
      have hn := Nat.le_refl n1
      have h94 := hS0.1
      have hX := @yX.rf n1 tg1 I4 R1
      have hS := hS0.x hX
      have hR := hR0.x hn hX
      have hz := hX.sz h94
      have hxn := hX.1
      have hN := hR0.1
      have hnb := hR0.2.2.2.2.2.2
      refine y_aload_n rfl rfl ?_
      refine y_dup rfl rfl ?_
      refine y_getI rfl (ySh.t hS rfl) (ySh.n hS rfl) rfl rfl ?_
      refine y_aload rfl rfl ?_
      refine y_bip rfl (by decide) ?_
      refine y_ialoadC (j := 10) rfl ht_pa ha_pa (by decide) (by decide) rfl ?_
      refine y_iadd rfl ?_
      refine y_putI rfl (ySh.t hS rfl) (ySh.n hS rfl) rfl (Nat.le_of_ble_eq_true rfl) rfl rfl ?_
      refine y_nameI (fun I5 e5 => ?_)
      have hR1 := (hR0.grow hX).mod0 e5 (by decide) (by decide)
      have hK := (hK.x hRo hno hX).upI (upI e5) (by decide) (by decide) (fun i hi => by have := (hRo.l87.2.2.2.2 i hi).2.1; omega) (by rw [e5, upd2_ne (.inr (by decide))]; exact Int.le_refl _)
      have hzz : ySz I4 I5 := ySz_ofM (upI e5) (by rw [e5]; exact ⟨upd2_ne (.inr (by decide)), upd2_ne (.inr (by decide)), upd2_ne (.inr (by decide))⟩)
      have hS0 := hS
      have hR0 := hR1
      have hn := Nat.le_refl n1
      have h94 := hS0.1
      have hX := @yX.rf n1 tg1 I5 R1
      have hS := hS0.x hX
      have hR := hR0.x hn hX
      have hz := hX.sz h94
      have hxn := hX.1
      have hN := hR0.1
      have hnb := hR0.2.2.2.2.2.2
      refine y_iload rfl rfl ?_
      refine y_ireturn rfl rfl rfl ?_
      exact hQ _ _ _ _ _ hS (hR0.grow hX) (hK.x hRo hno hX)
    · rw [yz_8] at h_2
      refine y_aload_n rfl rfl ?_
      refine y_getR rfl (ySh.t hS rfl) (ySh.n hS rfl) rfl rfl (ySh.r hS rfl) ?_
      refine y_iload rfl rfl ?_
      refine y_dup2 rfl rfl rfl ?_
      refine y_iaload rfl (ySh.t hS rfl) (ySh.n hS rfl) (by omega) (by omega) ?_
      refine y_aload rfl rfl ?_
      refine y_iload rfl rfl ?_
      refine y_iaload rfl ht_pa ha_pa (by omega) (by omega) ?_
      refine y_iadd rfl ?_
      refine y_iastore rfl (ySh.t hS rfl) (ySh.n hS rfl) (Nat.le_of_ble_eq_true rfl) (by omega) (by omega) ?_
      refine y_nameI (fun I6 e6 => ?_)
      have hR1 := (hR0.grow hX).arr e6 (by decide)
      have hK := (hK.x hRo hno hX).upI (upI e6) (by decide) (by decide) (fun i hi => by have := (hRo.l87.2.2.2.2 i hi).2.1; omega) (by rw [e6, upd2_ne (.inl (by omega))]; exact Int.le_refl _)
      have hzz : ySz I1 I6 := ySz_ofE (upI e6) (by omega)
      have hS0 := hS
      have hR0 := hR1
      have hn := Nat.le_refl n1
      have h94 := hS0.1
      have hX := @yX.rf n1 tg1 I6 R1
      have hS := hS0.x hX
      have hR := hR0.x hn hX
      have hz := hX.sz h94
      have hxn := hX.1
      have hN := hR0.1
      have hnb := hR0.2.2.2.2.2.2
      refine y_iload rfl rfl ?_
      refine y_aload rfl rfl ?_
      refine y_iload rfl rfl ?_
      refine y_iaload rfl ht_pa ha_pa (by omega) (by omega) ?_
      refine y_iadd rfl ?_
      refine y_istore (ls' := [some _, some _, some _, some _, some _, some _, some _]) rfl rfl rfl ?_
      refine y_aload_n rfl rfl ?_
      refine y_getR rfl (ySh.t hS rfl) (ySh.n hS rfl) rfl rfl (ySh.r hS rfl) ?_
      refine y_iload rfl rfl ?_
      refine y_iconst rfl ?_
      refine y_iastore rfl (ySh.t hS rfl) (ySh.n hS rfl) (Nat.le_of_ble_eq_true rfl) (by omega) (by omega) ?_
      refine y_nameI (fun I7 e7 => ?_)
      have hR1 := (hR0.grow hX).arr e7 (by decide)
      have hK := (hK.x hRo hno hX).upI (upI e7) (by decide) (by decide) (fun i hi => by have := (hRo.l87.2.2.2.2 i hi).2.1; omega) (by rw [e7, upd2_ne (.inl (by omega))]; exact Int.le_refl _)
      have hzz : ySz I6 I7 := ySz_ofE (upI e7) (by omega)
      have hS0 := hS
      have hR0 := hR1
      have hn := Nat.le_refl n1
      have h94 := hS0.1
      have hX := @yX.rf n1 tg1 I7 R1
      have hS := hS0.x hX
      have hR := hR0.x hn hX
      have hz := hX.sz h94
      have hxn := hX.1
      have hN := hR0.1
      have hnb := hR0.2.2.2.2.2.2
      refine y_iinc (ls' := [some _, some _, some _, some _, some _, some _, some _]) rfl rfl rfl rfl ?_
      refine y_goto rfl j_X14_share_72 ?_
      exact ih _ _ _ _ _ _ hS (hR0.grow hX) (hK.x hRo hno hX) ht_pa ha_pa  (by first | omega | (rw [yinc (by omega)]; omega)) (by first | omega | (rw [yinc (by omega)]; omega)) (by first | omega | (rw [yinc (by omega)]; omega))
theorem n_share (hS0 : ySh n tg R) (hR0 : yRI K n tg I R) (hk6 : K < 600) {x1 x2 x3 : Int32} (hQ : ∀ (v : Int32) n1 tg1 I1 R1 c1 s1, ySh n1 tg1 R1 → yRI (K + 1) n1 tg1 I1 R1 → yKp n tg I R n1 tg1 I1 R1 → c1 ≤ c + 3 → s1 ≤ s + 20 → Q (.inl (some (.int v))) (n1, tg1, I1, R1) c1 s1) : yC 218 [.ref 83, .int x1, .int x2, .int x3] (n, tg, I, R) c s Q := by
  have hno := Nat.le_refl n
  have hn := hno
  have hRo := hR0
  have hK : yKp n tg I R n tg I R := yKp.rf
  have hX : yX n tg I R n tg I R := yX.rf
  have hS := hS0
  have hR := hR0
  have h94 : 94 ≤ n := hS0.1
  have hz : ySz I I := hX.sz h94
  have hxn := hX.1
  have hN := hR0.1
  have hnb : 94 ≤ n := hR0.2.2.2.2.2.2
  refine y_in (M := xm_X14_share) (ls := [some _, some _, some _, some _, _, _, _]) rfl rfl rfl ?_
  refine y_aload_n rfl rfl ?_
  refine y_iload_n rfl rfl ?_
  refine y_iconst rfl ?_
  refine y_sip rfl (by decide) ?_
  refine y_static rfl rfl rfl rfl rfl ?_
  refine r_isIn (fun h_1 h_2 => ?_) (fun h_3 => ?_)
  · rw [yz_0] at h_1
    rw [yz_9999] at h_2
    refine y_ret1 ?_
    refine y_if_eqF rfl (by decide) ?_
    refine y_iload_n rfl rfl ?_
    refine y_iconst rfl ?_
    refine y_sip rfl (by decide) ?_
    refine y_static rfl rfl rfl rfl rfl ?_
    refine r_isIn (fun h_4 h_5 => ?_) (fun h_6 => ?_)
    · rw [yz_0] at h_4
      rw [yz_999] at h_5
      refine y_ret1 ?_
      refine y_if_eqF rfl (by decide) ?_
      refine y_iload_n rfl rfl ?_
      refine y_iconst rfl ?_
      refine y_bip rfl (by decide) ?_
      refine y_static rfl rfl rfl rfl rfl ?_
      refine r_isIn (fun h_7 h_8 => ?_) (fun h_9 => ?_)
      · rw [yz_0] at h_7
        rw [yz_50] at h_8
        refine y_ret1 ?_
        refine y_if_neT rfl j_X14_share_37 (by decide) ?_
        refine y_iconst rfl ?_
        refine y_iconst rfl ?_
        refine y_virt rfl rfl rfl rfl rfl (ySh.t hS rfl) (ySh.n hS rfl) ?_
        refine y_in (M := xm_X14_start) (ls := [some _, some _, some _]) rfl rfl rfl ?_
        refine y_aload_n rfl rfl ?_
        refine y_iconst rfl ?_
        refine y_putI rfl (ySh.t hS rfl) (ySh.n hS rfl) rfl (Nat.le_of_ble_eq_true rfl) rfl rfl ?_
        refine y_nameI (fun I10 e10 => ?_)
        have hR1 := (hR0.grow hX).mod0 e10 (by decide) (by decide)
        have hK := (hK.x hRo hno hX).upI (upI e10) (by decide) (by decide) (fun i hi => by have := (hRo.l87.2.2.2.2 i hi).2.1; omega) (by rw [e10, upd2_ne (.inr (by decide))]; exact Int.le_refl _)
        have hth : I10 83 0 = Int32.ofInt (0) := by rw [e10, upd2_self]
        have hzz : ySz8 I I10 := ySz8_of (upI e10) (by rw [e10]; exact ⟨upd2_ne (.inr (by decide)), upd2_ne (.inr (by decide))⟩)
        have hS0 := hS
        have hR0 := hR1
        have hn := Nat.le_refl n
        have h94 := hS0.1
        have hX := @yX.rf n tg I10 R
        have hS := hS0.x hX
        have hR := hR0.x hn hX
        have hz := hX.sz h94
        have hxn := hX.1
        have hN := hR0.1
        have hnb := hR0.2.2.2.2.2.2
        have hthB := hth
        refine y_aload_n rfl rfl ?_
        refine y_iload_n rfl rfl ?_
        refine y_iload_n rfl rfl ?_
        refine y_virt rfl rfl rfl rfl rfl (ySh.t hS rfl) (ySh.n hS rfl) ?_
        refine y_in (M := xm_X14_refuse) (ls := [some _, some _, some _]) rfl rfl rfl ?_
        refine y_iload_n rfl rfl ?_
        refine y_if_eqT rfl j_X14_refuse_16 (by decide) ?_
        refine y_aload_n rfl rfl ?_
        refine y_getIv (v := Int32.ofInt (0)) rfl (ySh.t hS rfl) (ySh.n hS rfl) rfl rfl hth ?_
        refine y_if_leT rfl j_X14_refuse_27 (by decide) ?_
        refine y_iconst rfl ?_
        refine y_ireturn rfl rfl rfl ?_
        refine y_ret1 ?_
        refine y_ireturn rfl rfl rfl ?_
        refine y_ret1 ?_
        refine y_if_eqT rfl j_X14_share_47 (by decide) ?_
        refine y_aload_n rfl rfl ?_
        refine y_iload_n rfl rfl ?_
        refine y_putI rfl (ySh.t hS rfl) (ySh.n hS rfl) rfl (Nat.le_of_ble_eq_true rfl) rfl rfl ?_
        refine y_nameI (fun I11 e11 => ?_)
        have hR1 := (hR0.grow hX).mod0 e11 (by decide) (by decide)
        have hK := (hK.x hRo hno hX).upI (upI e11) (by decide) (by decide) (fun i hi => by have := (hRo.l87.2.2.2.2 i hi).2.1; omega) (by rw [e11, upd2_ne (.inr (by decide))]; exact Int.le_refl _)
        have hth := (show I11 83 0 = I10 83 0 by rw [e11, upd2_ne (.inr (by decide))]).trans hth
        have hzz : ySz I10 I11 := ySz_ofM (upI e11) (by rw [e11]; exact ⟨upd2_ne (.inr (by decide)), upd2_ne (.inr (by decide)), upd2_ne (.inr (by decide))⟩)
        have hS0 := hS
        have hR0 := hR1
        have hn := Nat.le_refl n
        have h94 := hS0.1
        have hX := @yX.rf n tg I11 R
        have hS := hS0.x hX
        have hR := hR0.x hn hX
        have hz := hX.sz h94
        have hxn := hX.1
        have hN := hR0.1
        have hnb := hR0.2.2.2.2.2.2
        have hthB := hth
        refine y_aload_n rfl rfl ?_
        refine y_iload_n rfl rfl ?_
        refine y_putI rfl (ySh.t hS rfl) (ySh.n hS rfl) rfl (Nat.le_of_ble_eq_true rfl) rfl rfl ?_
        refine y_nameI (fun I12 e12 => ?_)
        have hR1 := (hR0.grow hX).mod0 e12 (by decide) (by decide)
        have hK := (hK.x hRo hno hX).upI (upI e12) (by decide) (by decide) (fun i hi => by have := (hRo.l87.2.2.2.2 i hi).2.1; omega) (by rw [e12, upd2_ne (.inr (by decide))]; exact Int.le_refl _)
        have hth := (show I12 83 0 = I11 83 0 by rw [e12, upd2_ne (.inr (by decide))]).trans hth
        have hzz : ySz I11 I12 := ySz_ofM (upI e12) (by rw [e12]; exact ⟨upd2_ne (.inr (by decide)), upd2_ne (.inr (by decide)), upd2_ne (.inr (by decide))⟩)
        have hS0 := hS
        have hR0 := hR1
        have hn := Nat.le_refl n
        have h94 := hS0.1
        have hX := @yX.rf n tg I12 R
        have hS := hS0.x hX
        have hR := hR0.x hn hX
        have hz := hX.sz h94
        have hxn := hX.1
        have hN := hR0.1
        have hnb := hR0.2.2.2.2.2.2
        have hthB := hth
        refine y_aload_n rfl rfl ?_
        refine y_iload_n rfl rfl ?_
        refine y_iload_n rfl rfl ?_
        refine y_iload_n rfl rfl ?_
        refine y_virt rfl rfl rfl rfl rfl (ySh.t hS rfl) (ySh.n hS rfl) ?_
        refine r_shared hS hR (Nat.le_trans hn hX.1) (fun bs_13 n13 tg13 I13 R13 c_13 s_13 hX1 hfb ha_f13 ht_f13 hc_13 hs_13 => ?_)
        have hnA := hX1.1
        have hX := hX.trans hX1
        have hS := hS0.x hX
        have hR := hR0.x hn hX
        have hz := hX.sz h94
        have hxn := hX.1
        have hth := (congrFun (hX1.2.1 83 (by omega)).2.1 0).trans hth
        refine y_ret1 ?_
        refine y_astore (ls' := [some _, some _, some _, some _, some _, _, _]) rfl rfl rfl ?_
        refine y_iconst rfl ?_
        refine y_istore (ls' := [some _, some _, some _, some _, some _, some _, _]) rfl rfl rfl ?_
        refine y_iconst rfl ?_
        refine y_istore (ls' := [some _, some _, some _, some _, some _, some _, some _]) rfl rfl rfl ?_
        exact lm_share hRo hno (fun v n1 tg1 I1 R1 h1 h2 h3 => hQ _ _ _ _ _ _ _ h1 (h2.up (Nat.le_succ K) hk6) h3 (by omega) (by omega)) 100 _ _ _ _ _ _ hS (hR0.grow hX) (hK.x hRo hno hX) ht_f13 ha_f13 (by decide) (by decide) (by decide)
      · rw [yz_0] at h_9
        rw [yz_50] at h_9
        refine y_ret1 ?_
        refine y_if_neF rfl (by decide) ?_
        refine y_iconst rfl ?_
        refine y_goto rfl j_X14_share_38 ?_
        refine y_iconst rfl ?_
        refine y_virt rfl rfl rfl rfl rfl (ySh.t hS rfl) (ySh.n hS rfl) ?_
        refine y_in (M := xm_X14_start) (ls := [some _, some _, some _]) rfl rfl rfl ?_
        refine y_aload_n rfl rfl ?_
        refine y_iconst rfl ?_
        refine y_putI rfl (ySh.t hS rfl) (ySh.n hS rfl) rfl (Nat.le_of_ble_eq_true rfl) rfl rfl ?_
        refine y_nameI (fun I14 e14 => ?_)
        have hR1 := (hR0.grow hX).mod0 e14 (by decide) (by decide)
        have hK := (hK.x hRo hno hX).upI (upI e14) (by decide) (by decide) (fun i hi => by have := (hRo.l87.2.2.2.2 i hi).2.1; omega) (by rw [e14, upd2_ne (.inr (by decide))]; exact Int.le_refl _)
        have hth : I14 83 0 = Int32.ofInt (0) := by rw [e14, upd2_self]
        have hzz : ySz8 I I14 := ySz8_of (upI e14) (by rw [e14]; exact ⟨upd2_ne (.inr (by decide)), upd2_ne (.inr (by decide))⟩)
        have hS0 := hS
        have hR0 := hR1
        have hn := Nat.le_refl n
        have h94 := hS0.1
        have hX := @yX.rf n tg I14 R
        have hS := hS0.x hX
        have hR := hR0.x hn hX
        have hz := hX.sz h94
        have hxn := hX.1
        have hN := hR0.1
        have hnb := hR0.2.2.2.2.2.2
        have hthB := hth
        refine y_aload_n rfl rfl ?_
        refine y_iload_n rfl rfl ?_
        refine y_iload_n rfl rfl ?_
        refine y_virt rfl rfl rfl rfl rfl (ySh.t hS rfl) (ySh.n hS rfl) ?_
        refine y_in (M := xm_X14_refuse) (ls := [some _, some _, some _]) rfl rfl rfl ?_
        refine y_iload_n rfl rfl ?_
        refine y_if_eqF rfl (by decide) ?_
        refine y_aload_n rfl rfl ?_
        refine y_getIv (v := Int32.ofInt (0)) rfl (ySh.t hS rfl) (ySh.n hS rfl) rfl rfl hth ?_
        refine y_if_neF rfl (by decide) ?_
        refine y_aload_n rfl rfl ?_
        refine y_iload_n rfl rfl ?_
        refine y_putI rfl (ySh.t hS rfl) (ySh.n hS rfl) rfl (Nat.le_of_ble_eq_true rfl) rfl rfl ?_
        refine y_nameI (fun I15 e15 => ?_)
        have hR1 := (hR0.grow hX).mod0 e15 (by decide) (by decide)
        have hK := (hK.x hRo hno hX).upI (upI e15) (by decide) (by decide) (fun i hi => by have := (hRo.l87.2.2.2.2 i hi).2.1; omega) (by rw [e15, upd2_ne (.inr (by decide))]; exact Int.le_refl _)
        have hth : I15 83 0 = Int32.ofInt (1) := by rw [e15, upd2_self]
        have hzz : ySz8 I14 I15 := ySz8_of (upI e15) (by rw [e15]; exact ⟨upd2_ne (.inr (by decide)), upd2_ne (.inr (by decide))⟩)
        have hS0 := hS
        have hR0 := hR1
        have hn := Nat.le_refl n
        have h94 := hS0.1
        have hX := @yX.rf n tg I15 R
        have hS := hS0.x hX
        have hR := hR0.x hn hX
        have hz := hX.sz h94
        have hxn := hX.1
        have hN := hR0.1
        have hnb := hR0.2.2.2.2.2.2
        have hthB := hth
        refine y_aload_n rfl rfl ?_
        refine y_getIv (v := Int32.ofInt (1)) rfl (ySh.t hS rfl) (ySh.n hS rfl) rfl rfl hth ?_
        refine y_if_leF rfl (by decide) ?_
        refine y_iconst rfl ?_
        refine y_goto rfl j_X14_refuse_28 ?_
        refine y_ireturn rfl rfl rfl ?_
        refine y_ret1 ?_
        refine y_ireturn rfl rfl rfl ?_
        refine y_ret1 ?_
        refine y_if_eqF rfl (by decide) ?_
        refine y_iconst rfl ?_
        refine y_ireturn rfl rfl rfl ?_
        exact hQ _ _ _ _ _ _ _ hS ((hR0.grow hX).up (Nat.le_succ K) hk6) (hK.x hRo hno hX) (by omega) (by omega)
    · rw [yz_0] at h_6
      rw [yz_999] at h_6
      refine y_ret1 ?_
      refine y_if_eqT rfl j_X14_share_33 (by decide) ?_
      refine y_iconst rfl ?_
      refine y_goto rfl j_X14_share_38 ?_
      refine y_iconst rfl ?_
      refine y_virt rfl rfl rfl rfl rfl (ySh.t hS rfl) (ySh.n hS rfl) ?_
      refine y_in (M := xm_X14_start) (ls := [some _, some _, some _]) rfl rfl rfl ?_
      refine y_aload_n rfl rfl ?_
      refine y_iconst rfl ?_
      refine y_putI rfl (ySh.t hS rfl) (ySh.n hS rfl) rfl (Nat.le_of_ble_eq_true rfl) rfl rfl ?_
      refine y_nameI (fun I16 e16 => ?_)
      have hR1 := (hR0.grow hX).mod0 e16 (by decide) (by decide)
      have hK := (hK.x hRo hno hX).upI (upI e16) (by decide) (by decide) (fun i hi => by have := (hRo.l87.2.2.2.2 i hi).2.1; omega) (by rw [e16, upd2_ne (.inr (by decide))]; exact Int.le_refl _)
      have hth : I16 83 0 = Int32.ofInt (0) := by rw [e16, upd2_self]
      have hzz : ySz8 I I16 := ySz8_of (upI e16) (by rw [e16]; exact ⟨upd2_ne (.inr (by decide)), upd2_ne (.inr (by decide))⟩)
      have hS0 := hS
      have hR0 := hR1
      have hn := Nat.le_refl n
      have h94 := hS0.1
      have hX := @yX.rf n tg I16 R
      have hS := hS0.x hX
      have hR := hR0.x hn hX
      have hz := hX.sz h94
      have hxn := hX.1
      have hN := hR0.1
      have hnb := hR0.2.2.2.2.2.2
      have hthB := hth
      refine y_aload_n rfl rfl ?_
      refine y_iload_n rfl rfl ?_
      refine y_iload_n rfl rfl ?_
      refine y_virt rfl rfl rfl rfl rfl (ySh.t hS rfl) (ySh.n hS rfl) ?_
      refine y_in (M := xm_X14_refuse) (ls := [some _, some _, some _]) rfl rfl rfl ?_
      refine y_iload_n rfl rfl ?_
      refine y_if_eqF rfl (by decide) ?_
      refine y_aload_n rfl rfl ?_
      refine y_getIv (v := Int32.ofInt (0)) rfl (ySh.t hS rfl) (ySh.n hS rfl) rfl rfl hth ?_
      refine y_if_neF rfl (by decide) ?_
      refine y_aload_n rfl rfl ?_
      refine y_iload_n rfl rfl ?_
      refine y_putI rfl (ySh.t hS rfl) (ySh.n hS rfl) rfl (Nat.le_of_ble_eq_true rfl) rfl rfl ?_
      refine y_nameI (fun I17 e17 => ?_)
      have hR1 := (hR0.grow hX).mod0 e17 (by decide) (by decide)
      have hK := (hK.x hRo hno hX).upI (upI e17) (by decide) (by decide) (fun i hi => by have := (hRo.l87.2.2.2.2 i hi).2.1; omega) (by rw [e17, upd2_ne (.inr (by decide))]; exact Int.le_refl _)
      have hth : I17 83 0 = Int32.ofInt (1) := by rw [e17, upd2_self]
      have hzz : ySz8 I16 I17 := ySz8_of (upI e17) (by rw [e17]; exact ⟨upd2_ne (.inr (by decide)), upd2_ne (.inr (by decide))⟩)
      have hS0 := hS
      have hR0 := hR1
      have hn := Nat.le_refl n
      have h94 := hS0.1
      have hX := @yX.rf n tg I17 R
      have hS := hS0.x hX
      have hR := hR0.x hn hX
      have hz := hX.sz h94
      have hxn := hX.1
      have hN := hR0.1
      have hnb := hR0.2.2.2.2.2.2
      have hthB := hth
      refine y_aload_n rfl rfl ?_
      refine y_getIv (v := Int32.ofInt (1)) rfl (ySh.t hS rfl) (ySh.n hS rfl) rfl rfl hth ?_
      refine y_if_leF rfl (by decide) ?_
      refine y_iconst rfl ?_
      refine y_goto rfl j_X14_refuse_28 ?_
      refine y_ireturn rfl rfl rfl ?_
      refine y_ret1 ?_
      refine y_ireturn rfl rfl rfl ?_
      refine y_ret1 ?_
      refine y_if_eqF rfl (by decide) ?_
      refine y_iconst rfl ?_
      refine y_ireturn rfl rfl rfl ?_
      exact hQ _ _ _ _ _ _ _ hS ((hR0.grow hX).up (Nat.le_succ K) hk6) (hK.x hRo hno hX) (by omega) (by omega)
  · rw [yz_0] at h_3
    rw [yz_9999] at h_3
    refine y_ret1 ?_
    refine y_if_eqT rfl j_X14_share_33 (by decide) ?_
    refine y_iconst rfl ?_
    refine y_goto rfl j_X14_share_38 ?_
    refine y_iconst rfl ?_
    refine y_virt rfl rfl rfl rfl rfl (ySh.t hS rfl) (ySh.n hS rfl) ?_
    refine y_in (M := xm_X14_start) (ls := [some _, some _, some _]) rfl rfl rfl ?_
    refine y_aload_n rfl rfl ?_
    refine y_iconst rfl ?_
    refine y_putI rfl (ySh.t hS rfl) (ySh.n hS rfl) rfl (Nat.le_of_ble_eq_true rfl) rfl rfl ?_
    refine y_nameI (fun I18 e18 => ?_)
    have hR1 := (hR0.grow hX).mod0 e18 (by decide) (by decide)
    have hK := (hK.x hRo hno hX).upI (upI e18) (by decide) (by decide) (fun i hi => by have := (hRo.l87.2.2.2.2 i hi).2.1; omega) (by rw [e18, upd2_ne (.inr (by decide))]; exact Int.le_refl _)
    have hth : I18 83 0 = Int32.ofInt (0) := by rw [e18, upd2_self]
    have hzz : ySz8 I I18 := ySz8_of (upI e18) (by rw [e18]; exact ⟨upd2_ne (.inr (by decide)), upd2_ne (.inr (by decide))⟩)
    have hS0 := hS
    have hR0 := hR1
    have hn := Nat.le_refl n
    have h94 := hS0.1
    have hX := @yX.rf n tg I18 R
    have hS := hS0.x hX
    have hR := hR0.x hn hX
    have hz := hX.sz h94
    have hxn := hX.1
    have hN := hR0.1
    have hnb := hR0.2.2.2.2.2.2
    have hthB := hth
    refine y_aload_n rfl rfl ?_
    refine y_iload_n rfl rfl ?_
    refine y_iload_n rfl rfl ?_
    refine y_virt rfl rfl rfl rfl rfl (ySh.t hS rfl) (ySh.n hS rfl) ?_
    refine y_in (M := xm_X14_refuse) (ls := [some _, some _, some _]) rfl rfl rfl ?_
    refine y_iload_n rfl rfl ?_
    refine y_if_eqF rfl (by decide) ?_
    refine y_aload_n rfl rfl ?_
    refine y_getIv (v := Int32.ofInt (0)) rfl (ySh.t hS rfl) (ySh.n hS rfl) rfl rfl hth ?_
    refine y_if_neF rfl (by decide) ?_
    refine y_aload_n rfl rfl ?_
    refine y_iload_n rfl rfl ?_
    refine y_putI rfl (ySh.t hS rfl) (ySh.n hS rfl) rfl (Nat.le_of_ble_eq_true rfl) rfl rfl ?_
    refine y_nameI (fun I19 e19 => ?_)
    have hR1 := (hR0.grow hX).mod0 e19 (by decide) (by decide)
    have hK := (hK.x hRo hno hX).upI (upI e19) (by decide) (by decide) (fun i hi => by have := (hRo.l87.2.2.2.2 i hi).2.1; omega) (by rw [e19, upd2_ne (.inr (by decide))]; exact Int.le_refl _)
    have hth : I19 83 0 = Int32.ofInt (1) := by rw [e19, upd2_self]
    have hzz : ySz8 I18 I19 := ySz8_of (upI e19) (by rw [e19]; exact ⟨upd2_ne (.inr (by decide)), upd2_ne (.inr (by decide))⟩)
    have hS0 := hS
    have hR0 := hR1
    have hn := Nat.le_refl n
    have h94 := hS0.1
    have hX := @yX.rf n tg I19 R
    have hS := hS0.x hX
    have hR := hR0.x hn hX
    have hz := hX.sz h94
    have hxn := hX.1
    have hN := hR0.1
    have hnb := hR0.2.2.2.2.2.2
    have hthB := hth
    refine y_aload_n rfl rfl ?_
    refine y_getIv (v := Int32.ofInt (1)) rfl (ySh.t hS rfl) (ySh.n hS rfl) rfl rfl hth ?_
    refine y_if_leF rfl (by decide) ?_
    refine y_iconst rfl ?_
    refine y_goto rfl j_X14_refuse_28 ?_
    refine y_ireturn rfl rfl rfl ?_
    refine y_ret1 ?_
    refine y_ireturn rfl rfl rfl ?_
    refine y_ret1 ?_
    refine y_if_eqF rfl (by decide) ?_
    refine y_iconst rfl ?_
    refine y_ireturn rfl rfl rfl ?_
    exact hQ _ _ _ _ _ _ _ hS ((hR0.grow hX).up (Nat.le_succ K) hk6) (hK.x hRo hno hX) (by omega) (by omega)
theorem lm_profit (hRo : yRI K n tg I R) (hno : n ≤ n) {x2 : Int32} {bv : Nat} (hlo_bv : 94 ≤ bv) (hQ : ∀ n1 tg1 I1 R1, ySh n1 tg1 R1 → yRI K n1 tg1 I1 R1 → yKp n tg I R n1 tg1 I1 R1 → Q (.inl none) (n1, tg1, I1, R1) c s) : ∀ (m : Nat) (x3 : Int32) (x4 : Int32) (n1 : Nat) (tg1 : Nat → yT) (I1 : Nat → Nat → Int32) (R1 : Nat → Nat → Value), ySh n1 tg1 R1 → yRI K n1 tg1 I1 R1 → yKp n tg I R n1 tg1 I1 R1 → tg1 bv = (21, 0) → bv < n1 → (0 ≤ x4.toInt) → (x4.toInt ≤ 9) → 9 - x4.toInt < m → yW xm_X14_profit xc_X14_profit_5 [some (.ref 83), some (.ref bv), some (.int x2), some (.int x3), some (.int x4), none] [] (n1, tg1, I1, R1) c s Q := by
  intro m
  induction m with
  | zero => intro x3 x4 n1 tg1 I1 R1 hS0 hR0 hK ht_bv hb_bv i0 i1 hm; have hN := hR0.1; exfalso; omega
  | succ m ih =>
    intro x3 x4 n1 tg1 I1 R1 hS0 hR0 hK ht_bv hb_bv i0 i1 hm
    have hn := Nat.le_refl n1
    have hX := @yX.rf n1 tg1 I1 R1
    have hS := hS0
    have hR := hR0
    have h94 : 94 ≤ n1 := hS0.1
    have hz : ySz I1 I1 := hX.sz h94
    have hxn := hX.1
    have hN := hR0.1
    have hnb : 94 ≤ n1 := hR0.2.2.2.2.2.2
    have hb0_bv := hb_bv
    refine y_iload rfl rfl ?_
    refine y_bip rfl (by decide) ?_
    refine y_icmp_gt rfl j_X14_profit_72 (fun h_1 => ?_) (fun h_2 => ?_)
    · rw [yz_8] at h_1
      refine y_return rfl ?_
      exact hQ _ _ _ _ hS (hR0.grow hX) (hK.x hRo hno hX)
    · rw [yz_8] at h_2
      refine y_iload rfl rfl ?_
      refine y_bip rfl (by decide) ?_
      refine y_icmp_ne rfl j_X14_profit_23 (fun h_3 => ?_) (fun h_4 => ?_)
      · rw [yz_8] at h_3
        refine y_iload_n rfl rfl ?_
        refine y_aload_n rfl rfl ?_
        obtain ⟨hR_v5, hb_v5, ht_v5⟩ := hR0.ven hlo_bv hb0_bv ht_bv (j := 2) (by decide)
        have hb0_v5 := hb_v5
        have hb_v5 := Nat.lt_of_lt_of_le hb_v5 hn
        have hlo_v5 : 94 ≤ bv + 1 + 2 := by omega
        have hR2_v5 := (congrFun (hX.2.1 bv hb_bv).2.2 2).trans hR_v5
        refine y_getR rfl ((hX.2.1 _ hb_bv).1.trans ht_bv) (Nat.lt_of_lt_of_le hb_bv hX.1) rfl rfl hR2_v5 ?_
        refine y_iload rfl rfl ?_
        refine y_iaload rfl ((hX.2.1 _ hb_v5).1.trans ht_v5) (Nat.lt_of_lt_of_le hb_v5 hX.1) (by omega) (by omega) ?_
        refine y_imul rfl ?_
        refine y_bip rfl (by decide) ?_
        refine y_idiv rfl (by decide) ?_
        refine y_istore (ls' := [some _, some _, some _, some _, some _, some _]) rfl rfl rfl ?_
        refine y_iload_n rfl rfl ?_
        refine y_iload rfl rfl ?_
        refine y_isub rfl ?_
        refine y_istore_n (ls' := [some _, some _, some _, some _, some _, some _]) rfl rfl rfl ?_
        refine y_aload_n rfl rfl ?_
        obtain ⟨hR_v6, hb_v6, ht_v6⟩ := hR0.ven hlo_bv hb0_bv ht_bv (j := 3) (by decide)
        have hb0_v6 := hb_v6
        have hb_v6 := Nat.lt_of_lt_of_le hb_v6 hn
        have hlo_v6 : 94 ≤ bv + 1 + 3 := by omega
        have hR2_v6 := (congrFun (hX.2.1 bv hb_bv).2.2 3).trans hR_v6
        refine y_getR rfl ((hX.2.1 _ hb_bv).1.trans ht_bv) (Nat.lt_of_lt_of_le hb_bv hX.1) rfl rfl hR2_v6 ?_
        refine y_iload rfl rfl ?_
        refine y_dup2 rfl rfl rfl ?_
        refine y_iaload rfl ((hX.2.1 _ hb_v6).1.trans ht_v6) (Nat.lt_of_lt_of_le hb_v6 hX.1) (by omega) (by omega) ?_
        refine y_iload rfl rfl ?_
        refine y_iadd rfl ?_
        refine y_iastore rfl ((hX.2.1 _ hb_v6).1.trans ht_v6) (Nat.lt_of_lt_of_le hb_v6 hX.1) (Nat.le_trans (by decide) (by omega : 94 ≤ _)) (by omega) (by omega) ?_
        refine y_nameI (fun I7 e7 => ?_)
        have hR1 := (hR0.grow hX).upV hlo_bv (by omega) ((hX.2.1 _ hb_bv).1.trans ht_bv) (j := 3) (by decide) e7
        have hK := (hK.x hRo hno hX).upE hRo hno (upI e7) (by omega) (by omega) (by rw [((hX.2.1 _ hb_v6).1.trans ht_v6)]; decide) (by rw [e7, upd2_ne (.inl (by omega))]; exact Int.le_refl _)
        have hzz : ySz I1 I7 := ySz_ofE (upI e7) (by omega)
        have hS0 := hS
        have hR0 := hR1
        have ht_bv := (hX.2.1 _ hb_bv).1.trans ht_bv
        have hb_bv := Nat.lt_of_lt_of_le hb_bv hX.1
        have hb0_bv := hb_bv
        have ht_v5 := (hX.2.1 _ hb_v5).1.trans ht_v5
        have hb_v5 := Nat.lt_of_lt_of_le hb_v5 hX.1
        have hb0_v5 := hb_v5
        have ht_v6 := (hX.2.1 _ hb_v6).1.trans ht_v6
        have hb_v6 := Nat.lt_of_lt_of_le hb_v6 hX.1
        have hb0_v6 := hb_v6
        have hn := Nat.le_refl n1
        have h94 := hS0.1
        have hX := @yX.rf n1 tg1 I7 R1
        have hS := hS0.x hX
        have hR := hR0.x hn hX
        have hz := hX.sz h94
        have hxn := hX.1
        have hN := hR0.1
        have hnb := hR0.2.2.2.2.2.2
        refine y_aload_n rfl rfl ?_
        refine y_getR rfl (ySh.t hS rfl) (ySh.n hS rfl) rfl rfl (ySh.r hS rfl) ?_
        refine y_iload rfl rfl ?_
        refine y_dup2 rfl rfl rfl ?_
        refine y_iaload rfl (ySh.t hS rfl) (ySh.n hS rfl) (by omega) (by omega) ?_
        refine y_iload rfl rfl ?_
        refine y_iadd rfl ?_
        refine y_iastore rfl (ySh.t hS rfl) (ySh.n hS rfl) (Nat.le_of_ble_eq_true rfl) (by omega) (by omega) ?_
        refine y_nameI (fun I8 e8 => ?_)
        have hR1 := (hR0.grow hX).arr e8 (by decide)
        have hK := (hK.x hRo hno hX).upI (upI e8) (by decide) (by decide) (fun i hi => by have := (hRo.l87.2.2.2.2 i hi).2.1; omega) (by rw [e8, upd2_ne (.inl (by omega))]; exact Int.le_refl _)
        have hzz : ySz I7 I8 := ySz_ofE (upI e8) (by omega)
        have hS0 := hS
        have hR0 := hR1
        have ht_bv := (hX.2.1 _ hb_bv).1.trans ht_bv
        have hb_bv := Nat.lt_of_lt_of_le hb_bv hX.1
        have hb0_bv := hb_bv
        have ht_v5 := (hX.2.1 _ hb_v5).1.trans ht_v5
        have hb_v5 := Nat.lt_of_lt_of_le hb_v5 hX.1
        have hb0_v5 := hb_v5
        have ht_v6 := (hX.2.1 _ hb_v6).1.trans ht_v6
        have hb_v6 := Nat.lt_of_lt_of_le hb_v6 hX.1
        have hb0_v6 := hb_v6
        have hn := Nat.le_refl n1
        have h94 := hS0.1
        have hX := @yX.rf n1 tg1 I8 R1
        have hS := hS0.x hX
        have hR := hR0.x hn hX
        have hz := hX.sz h94
        have hxn := hX.1
        have hN := hR0.1
        have hnb := hR0.2.2.2.2.2.2
        refine y_iinc (ls' := [some _, some _, some _, some _, some _, some _]) rfl rfl rfl rfl ?_
        refine y_goto rfl j_X14_profit_5 ?_
        refine y_fgt (ls := [some _, some _, some _, some _, some _, none]) ⟨rfl, rfl, rfl, rfl, rfl, trivial⟩ ?_
        exact ih _ _ _ _ _ _ hS (hR0.grow hX) (hK.x hRo hno hX)  ((hX.2.1 _ hb_bv).1.trans ht_bv) (Nat.lt_of_lt_of_le hb_bv hX.1) (by first | omega | (rw [yinc (by omega)]; omega)) (by first | omega | (rw [yinc (by omega)]; omega)) (by first | omega | (rw [yinc (by omega)]; omega))
      · rw [yz_8] at h_4
        refine y_iload_n rfl rfl ?_
        refine y_goto rfl j_X14_profit_35 ?_
        refine y_istore (ls' := [some _, some _, some _, some _, some _, some _]) rfl rfl rfl ?_
        refine y_iload_n rfl rfl ?_
        refine y_iload rfl rfl ?_
        refine y_isub rfl ?_
        refine y_istore_n (ls' := [some _, some _, some _, some _, some _, some _]) rfl rfl rfl ?_
        refine y_aload_n rfl rfl ?_
        obtain ⟨hR_v9, hb_v9, ht_v9⟩ := hR0.ven hlo_bv hb0_bv ht_bv (j := 3) (by decide)
        have hb0_v9 := hb_v9
        have hb_v9 := Nat.lt_of_lt_of_le hb_v9 hn
        have hlo_v9 : 94 ≤ bv + 1 + 3 := by omega
        have hR2_v9 := (congrFun (hX.2.1 bv hb_bv).2.2 3).trans hR_v9
        refine y_getR rfl ((hX.2.1 _ hb_bv).1.trans ht_bv) (Nat.lt_of_lt_of_le hb_bv hX.1) rfl rfl hR2_v9 ?_
        refine y_iload rfl rfl ?_
        refine y_dup2 rfl rfl rfl ?_
        refine y_iaload rfl ((hX.2.1 _ hb_v9).1.trans ht_v9) (Nat.lt_of_lt_of_le hb_v9 hX.1) (by omega) (by omega) ?_
        refine y_iload rfl rfl ?_
        refine y_iadd rfl ?_
        refine y_iastore rfl ((hX.2.1 _ hb_v9).1.trans ht_v9) (Nat.lt_of_lt_of_le hb_v9 hX.1) (Nat.le_trans (by decide) (by omega : 94 ≤ _)) (by omega) (by omega) ?_
        refine y_nameI (fun I10 e10 => ?_)
        have hR1 := (hR0.grow hX).upV hlo_bv (by omega) ((hX.2.1 _ hb_bv).1.trans ht_bv) (j := 3) (by decide) e10
        have hK := (hK.x hRo hno hX).upE hRo hno (upI e10) (by omega) (by omega) (by rw [((hX.2.1 _ hb_v9).1.trans ht_v9)]; decide) (by rw [e10, upd2_ne (.inl (by omega))]; exact Int.le_refl _)
        have hzz : ySz I1 I10 := ySz_ofE (upI e10) (by omega)
        have hS0 := hS
        have hR0 := hR1
        have ht_bv := (hX.2.1 _ hb_bv).1.trans ht_bv
        have hb_bv := Nat.lt_of_lt_of_le hb_bv hX.1
        have hb0_bv := hb_bv
        have ht_v9 := (hX.2.1 _ hb_v9).1.trans ht_v9
        have hb_v9 := Nat.lt_of_lt_of_le hb_v9 hX.1
        have hb0_v9 := hb_v9
        have hn := Nat.le_refl n1
        have h94 := hS0.1
        have hX := @yX.rf n1 tg1 I10 R1
        have hS := hS0.x hX
        have hR := hR0.x hn hX
        have hz := hX.sz h94
        have hxn := hX.1
        have hN := hR0.1
        have hnb := hR0.2.2.2.2.2.2
        refine y_aload_n rfl rfl ?_
        refine y_getR rfl (ySh.t hS rfl) (ySh.n hS rfl) rfl rfl (ySh.r hS rfl) ?_
        refine y_iload rfl rfl ?_
        refine y_dup2 rfl rfl rfl ?_
        refine y_iaload rfl (ySh.t hS rfl) (ySh.n hS rfl) (by omega) (by omega) ?_
        refine y_iload rfl rfl ?_
        refine y_iadd rfl ?_
        refine y_iastore rfl (ySh.t hS rfl) (ySh.n hS rfl) (Nat.le_of_ble_eq_true rfl) (by omega) (by omega) ?_
        refine y_nameI (fun I11 e11 => ?_)
        have hR1 := (hR0.grow hX).arr e11 (by decide)
        have hK := (hK.x hRo hno hX).upI (upI e11) (by decide) (by decide) (fun i hi => by have := (hRo.l87.2.2.2.2 i hi).2.1; omega) (by rw [e11, upd2_ne (.inl (by omega))]; exact Int.le_refl _)
        have hzz : ySz I10 I11 := ySz_ofE (upI e11) (by omega)
        have hS0 := hS
        have hR0 := hR1
        have ht_bv := (hX.2.1 _ hb_bv).1.trans ht_bv
        have hb_bv := Nat.lt_of_lt_of_le hb_bv hX.1
        have hb0_bv := hb_bv
        have ht_v9 := (hX.2.1 _ hb_v9).1.trans ht_v9
        have hb_v9 := Nat.lt_of_lt_of_le hb_v9 hX.1
        have hb0_v9 := hb_v9
        have hn := Nat.le_refl n1
        have h94 := hS0.1
        have hX := @yX.rf n1 tg1 I11 R1
        have hS := hS0.x hX
        have hR := hR0.x hn hX
        have hz := hX.sz h94
        have hxn := hX.1
        have hN := hR0.1
        have hnb := hR0.2.2.2.2.2.2
        refine y_iinc (ls' := [some _, some _, some _, some _, some _, some _]) rfl rfl rfl rfl ?_
        refine y_goto rfl j_X14_profit_5 ?_
        refine y_fgt (ls := [some _, some _, some _, some _, some _, none]) ⟨rfl, rfl, rfl, rfl, rfl, trivial⟩ ?_
        exact ih _ _ _ _ _ _ hS (hR0.grow hX) (hK.x hRo hno hX)  ((hX.2.1 _ hb_bv).1.trans ht_bv) (Nat.lt_of_lt_of_le hb_bv hX.1) (by first | omega | (rw [yinc (by omega)]; omega)) (by first | omega | (rw [yinc (by omega)]; omega)) (by first | omega | (rw [yinc (by omega)]; omega))
end YRQ
