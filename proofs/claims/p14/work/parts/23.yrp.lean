/-! THE REFERENCE: longer readers (by gen23.py) -/
section YRP
variable {K nb n : Nat} {tg : Nat → yT} {I : Nat → Nat → Int32} {R : Nat → Nat → Value} {c s : Nat} {Q : yQ}
theorem lp_r_houseTold1 (hS0 : ySh n tg R) (hR0 : yRI K nb tg I R) (hn : nb ≤ n) {x1 : Int32} (hx : ∀ (x2 : Int32) (x3 : Int32) (x4 : Int32) (x5 : Int32) (x6 : Int32) (x7 : Int32), yW xm_X14_houseTold xc_X14_houseTold_55 [some (.ref 83), some (.int x1), some (.int x2), some (.int x3), some (.int x4), some (.int x5), some (.int x6), some (.int x7), none, none, none, none] [] (n, tg, I, R) c s Q) : ∀ (m : Nat) (x2 : Int32) (x3 : Int32) (x4 : Int32) (x5 : Int32) (x6 : Int32) (x7 : Int32) (x9 : Int32) (x10 : Int32), (x9.toInt = 8) → (0 ≤ x10.toInt) → (x10.toInt ≤ 8) → 8 - x10.toInt < m → yW xm_X14_houseTold xc_X14_houseTold_30 [some (.ref 83), some (.int x1), some (.int x2), some (.int x3), some (.int x4), some (.int x5), some (.int x6), some (.int x7), some (.ref 85), some (.int x9), some (.int x10), none] [] (n, tg, I, R) c s Q := by
  intro m
  induction m with
  | zero =>
    intro x2 x3 x4 x5 x6 x7 x9 x10 i0 i1 i2 hm
    have hX : yX n tg I R n tg I R := yX.rf
    have hS := hS0
    have hR := hR0
    have h94 : 94 ≤ n := hS0.1
    have hz : ySz I I := hX.sz h94
    have hxn := hX.1
    have hN := hR0.1
    have hnb : 94 ≤ nb := hR0.2.2.2.2.2.2
    exfalso; omega
  | succ m ih =>
    intro x2 x3 x4 x5 x6 x7 x9 x10 i0 i1 i2 hm
    have hX : yX n tg I R n tg I R := yX.rf
    have hS := hS0
    have hR := hR0
    have h94 : 94 ≤ n := hS0.1
    have hz : ySz I I := hX.sz h94
    have hxn := hX.1
    have hN := hR0.1
    have hnb : 94 ≤ nb := hR0.2.2.2.2.2.2
    refine y_iload rfl rfl ?_
    refine y_iload rfl rfl ?_
    refine y_icmp_ge rfl j_X14_houseTold_55 (fun h_1 => ?_) (fun h_2 => ?_)
    · refine y_fgt (ls := [some _, some _, some _, some _, some _, some _, some _, some _, none, none, none, none]) ⟨rfl, rfl, rfl, rfl, rfl, rfl, rfl, rfl, trivial⟩ ?_
      exact hx _ _ _ _ _ _
    · refine y_aload rfl rfl ?_
      refine y_iload rfl rfl ?_
      refine y_iaload rfl (ySh.t hS rfl) (ySh.n hS rfl) (by omega) (by omega) ?_
      refine y_istore (ls' := [some _, some _, some _, some _, some _, some _, some _, some _, some _, some _, some _, some _]) rfl rfl rfl ?_
      refine y_iload_n rfl rfl ?_
      refine y_iload rfl rfl ?_
      refine y_iadd rfl ?_
      refine y_istore_n (ls' := [some _, some _, some _, some _, some _, some _, some _, some _, some _, some _, some _, some _]) rfl rfl rfl ?_
      refine y_iinc (ls' := [some _, some _, some _, some _, some _, some _, some _, some _, some _, some _, some _, some _]) rfl rfl rfl rfl ?_
      refine y_goto rfl j_X14_houseTold_30 ?_
      refine y_fgt (ls := [some _, some _, some _, some _, some _, some _, some _, some _, some _, some _, some _, none]) ⟨rfl, rfl, rfl, rfl, rfl, rfl, rfl, rfl, rfl, rfl, rfl, trivial⟩ ?_
      exact ih _ _ _ _ _ _ _ _ (by assumption) (by first | omega | (rw [yinc (by omega)]; omega)) (by first | omega | (rw [yinc (by omega)]; omega)) (by first | omega | (rw [yinc (by omega)]; omega))
theorem e_r_houseTold64 (hS0 : ySh n tg R) (hR0 : yRI K nb tg I R) (hn : nb ≤ n) {x1 : Int32} (hx : ∀ (x2 : Int32) (x3 : Int32) (x4 : Int32) (x5 : Int32) (x6 : Int32) (x7 : Int32) n1 tg1 I1 R1, yX n tg I R n1 tg1 I1 R1 → yW xm_X14_houseTold xc_X14_houseTold_142 [some (.ref 83), some (.int x1), some (.int x2), some (.int x3), some (.int x4), some (.int x5), some (.int x6), some (.int x7), none, none, none, none] [] (n1, tg1, I1, R1) c s Q) : ∀ (m : Nat) (z : Int) (it : Nat) (x2 : Int32) (x3 : Int32) (x4 : Int32) (x5 : Int32) (x6 : Int32) (x7 : Int32) (n1 : Nat) (tg1 : Nat → yT) (I1 : Nat → Nat → Int32) (R1 : Nat → Nat → Value), yX n tg I R n1 tg1 I1 R1 → n ≤ it → yIt nb n1 tg1 I1 R1 it 89 z → (I 89 2).toInt - z < m → yW xm_X14_houseTold xc_X14_houseTold_64 [some (.ref 83), some (.int x1), some (.int x2), some (.int x3), some (.int x4), some (.int x5), some (.int x6), some (.int x7), some (.ref it), none, none, none] [] (n1, tg1, I1, R1) c s Q := by
  intro m
  induction m with
  | zero =>
    intro z it x2 x3 x4 x5 x6 x7 n1 tg1 I1 R1 hX hit hI_it hm
    have hz := hX.sz hS0.1
    have h7 := hI_it.2.2.2.2.2.2.1
    exfalso; omega
  | succ m ih =>
    intro z it x2 x3 x4 x5 x6 x7 n1 tg1 I1 R1 hX hit hI_it hm
    have hS := hS0.x hX
    have hR := hR0.x hn hX
    have h94 : 94 ≤ n := hS0.1
    have hz := hX.sz h94
    have hxn := hX.1
    have hN := hR0.1
    have hnb : 94 ≤ nb := hR0.2.2.2.2.2.2
    refine y_aload rfl rfl ?_
    refine y_intf rfl rfl rfl rfl rfl hI_it.2.2.1 hI_it.2.1 ?_
    refine i_hasNext hI_it (fun h_1 => ?_) (fun h_2 => ?_)
    · refine y_ret1 ?_
      refine y_if_eqF rfl (by decide) ?_
      refine y_aload rfl rfl ?_
      refine y_intf rfl rfl rfl rfl rfl hI_it.2.2.1 hI_it.2.1 ?_
      have hz0 := hI_it.2.2.2.2.2.1
      refine i_next (nb := nb) (Nat.le_trans (by decide) (by have := hI_it.1; omega : 94 ≤ _)) (Nat.le_trans hn hX.1) hI_it hR.l89 (by omega) h_1 (fun b3 I3 eb_b3 hlo_b3 hb0_b3 ht_b3 hI1 hIe => ?_)
      have hb_b3 := Nat.lt_of_lt_of_le hb0_b3 hn
      replace ht_b3 := (hX.2.1 _ hb_b3).1.symm.trans ht_b3
      have hI_it := hI1
      have hX := hX.upI (by omega) hIe
      have hS := hS0.x hX
      have hR := hR0.x hn hX
      have hz := hX.sz h94
      have hxn := hX.1
      have hw_b3 := hR.sal hlo_b3 hb0_b3 ((hX.2.1 _ hb_b3).1.trans ht_b3)
      refine y_ret1 ?_
      refine y_cast rfl ((hX.2.1 _ hb_b3).1.trans ht_b3) (Nat.lt_of_lt_of_le hb_b3 hX.1) ?_
      refine y_astore (ls' := [some _, some _, some _, some _, some _, some _, some _, some _, some _, some _, _, _]) rfl rfl rfl ?_
      refine y_iload_n rfl rfl ?_
      refine y_aload rfl rfl ?_
      refine y_getI rfl ((hX.2.1 _ hb_b3).1.trans ht_b3) (Nat.lt_of_lt_of_le hb_b3 hX.1) rfl rfl ?_
      refine y_if_eq rfl j_X14_houseTold_99 (fun h_4 => ?_) (fun h_5 => ?_)
      · refine y_iconst rfl ?_
        refine y_static rfl rfl rfl rfl rfl ?_
        refine r_one (fun v_ hv_ => ?_)
        refine y_ret1 ?_
        refine y_iadd rfl ?_
        refine y_istore_n (ls' := [some _, some _, some _, some _, some _, some _, some _, some _, some _, some _, _, _]) rfl rfl rfl ?_
        refine y_iload rfl rfl ?_
        refine y_aload rfl rfl ?_
        refine y_getI rfl ((hX.2.1 _ hb_b3).1.trans ht_b3) (Nat.lt_of_lt_of_le hb_b3 hX.1) rfl rfl ?_
        refine y_if_ne rfl j_X14_houseTold_132 (fun h_6 => ?_) (fun h_7 => ?_)
        · refine y_iconst rfl ?_
          refine y_static rfl rfl rfl rfl rfl ?_
          refine r_one (fun v_ hv_ => ?_)
          refine y_ret1 ?_
          refine y_iadd rfl ?_
          refine y_istore (ls' := [some _, some _, some _, some _, some _, some _, some _, some _, some _, some _, _, _]) rfl rfl rfl ?_
          refine y_goto rfl j_X14_houseTold_64 ?_
          refine y_fgt (ls := [some _, some _, some _, some _, some _, some _, some _, some _, some _, none, none, none]) ⟨rfl, rfl, rfl, rfl, rfl, rfl, rfl, rfl, rfl, trivial⟩ ?_
          exact ih _ _ _ _ _ _ _ _ _ _ _ _ hX (by omega) hI_it  (by omega)
        · refine y_aload rfl rfl ?_
          refine y_getI rfl ((hX.2.1 _ hb_b3).1.trans ht_b3) (Nat.lt_of_lt_of_le hb_b3 hX.1) rfl rfl ?_
          refine y_aload rfl rfl ?_
          refine y_getI rfl ((hX.2.1 _ hb_b3).1.trans ht_b3) (Nat.lt_of_lt_of_le hb_b3 hX.1) rfl rfl ?_
          refine y_icmp_ne rfl j_X14_houseTold_132 (fun h_8 => ?_) (fun h_9 => ?_)
          · refine y_iconst rfl ?_
            refine y_static rfl rfl rfl rfl rfl ?_
            refine r_one (fun v_ hv_ => ?_)
            refine y_ret1 ?_
            refine y_iadd rfl ?_
            refine y_istore (ls' := [some _, some _, some _, some _, some _, some _, some _, some _, some _, some _, _, _]) rfl rfl rfl ?_
            refine y_goto rfl j_X14_houseTold_64 ?_
            refine y_fgt (ls := [some _, some _, some _, some _, some _, some _, some _, some _, some _, none, none, none]) ⟨rfl, rfl, rfl, rfl, rfl, rfl, rfl, rfl, rfl, trivial⟩ ?_
            exact ih _ _ _ _ _ _ _ _ _ _ _ _ hX (by omega) hI_it  (by omega)
          · refine y_iconst rfl ?_
            refine y_goto rfl j_X14_houseTold_133 ?_
            refine y_static rfl rfl rfl rfl rfl ?_
            refine r_one (fun v_ hv_ => ?_)
            refine y_ret1 ?_
            refine y_iadd rfl ?_
            refine y_istore (ls' := [some _, some _, some _, some _, some _, some _, some _, some _, some _, some _, _, _]) rfl rfl rfl ?_
            refine y_goto rfl j_X14_houseTold_64 ?_
            refine y_fgt (ls := [some _, some _, some _, some _, some _, some _, some _, some _, some _, none, none, none]) ⟨rfl, rfl, rfl, rfl, rfl, rfl, rfl, rfl, rfl, trivial⟩ ?_
            exact ih _ _ _ _ _ _ _ _ _ _ _ _ hX (by omega) hI_it  (by omega)
      · refine y_iconst rfl ?_
        refine y_goto rfl j_X14_houseTold_100 ?_
        refine y_static rfl rfl rfl rfl rfl ?_
        refine r_one (fun v_ hv_ => ?_)
        refine y_ret1 ?_
        refine y_iadd rfl ?_
        refine y_istore_n (ls' := [some _, some _, some _, some _, some _, some _, some _, some _, some _, some _, _, _]) rfl rfl rfl ?_
        refine y_iload rfl rfl ?_
        refine y_aload rfl rfl ?_
        refine y_getI rfl ((hX.2.1 _ hb_b3).1.trans ht_b3) (Nat.lt_of_lt_of_le hb_b3 hX.1) rfl rfl ?_
        refine y_if_ne rfl j_X14_houseTold_132 (fun h_10 => ?_) (fun h_11 => ?_)
        · refine y_iconst rfl ?_
          refine y_static rfl rfl rfl rfl rfl ?_
          refine r_one (fun v_ hv_ => ?_)
          refine y_ret1 ?_
          refine y_iadd rfl ?_
          refine y_istore (ls' := [some _, some _, some _, some _, some _, some _, some _, some _, some _, some _, _, _]) rfl rfl rfl ?_
          refine y_goto rfl j_X14_houseTold_64 ?_
          refine y_fgt (ls := [some _, some _, some _, some _, some _, some _, some _, some _, some _, none, none, none]) ⟨rfl, rfl, rfl, rfl, rfl, rfl, rfl, rfl, rfl, trivial⟩ ?_
          exact ih _ _ _ _ _ _ _ _ _ _ _ _ hX (by omega) hI_it  (by omega)
        · refine y_aload rfl rfl ?_
          refine y_getI rfl ((hX.2.1 _ hb_b3).1.trans ht_b3) (Nat.lt_of_lt_of_le hb_b3 hX.1) rfl rfl ?_
          refine y_aload rfl rfl ?_
          refine y_getI rfl ((hX.2.1 _ hb_b3).1.trans ht_b3) (Nat.lt_of_lt_of_le hb_b3 hX.1) rfl rfl ?_
          refine y_icmp_ne rfl j_X14_houseTold_132 (fun h_12 => ?_) (fun h_13 => ?_)
          · refine y_iconst rfl ?_
            refine y_static rfl rfl rfl rfl rfl ?_
            refine r_one (fun v_ hv_ => ?_)
            refine y_ret1 ?_
            refine y_iadd rfl ?_
            refine y_istore (ls' := [some _, some _, some _, some _, some _, some _, some _, some _, some _, some _, _, _]) rfl rfl rfl ?_
            refine y_goto rfl j_X14_houseTold_64 ?_
            refine y_fgt (ls := [some _, some _, some _, some _, some _, some _, some _, some _, some _, none, none, none]) ⟨rfl, rfl, rfl, rfl, rfl, rfl, rfl, rfl, rfl, trivial⟩ ?_
            exact ih _ _ _ _ _ _ _ _ _ _ _ _ hX (by omega) hI_it  (by omega)
          · refine y_iconst rfl ?_
            refine y_goto rfl j_X14_houseTold_133 ?_
            refine y_static rfl rfl rfl rfl rfl ?_
            refine r_one (fun v_ hv_ => ?_)
            refine y_ret1 ?_
            refine y_iadd rfl ?_
            refine y_istore (ls' := [some _, some _, some _, some _, some _, some _, some _, some _, some _, some _, _, _]) rfl rfl rfl ?_
            refine y_goto rfl j_X14_houseTold_64 ?_
            refine y_fgt (ls := [some _, some _, some _, some _, some _, some _, some _, some _, some _, none, none, none]) ⟨rfl, rfl, rfl, rfl, rfl, rfl, rfl, rfl, rfl, trivial⟩ ?_
            exact ih _ _ _ _ _ _ _ _ _ _ _ _ hX (by omega) hI_it  (by omega)
    · refine y_ret1 ?_
      refine y_if_eqT rfl j_X14_houseTold_142 (by decide) ?_
      refine y_fgt (ls := [some _, some _, some _, some _, some _, some _, some _, some _, none, none, none, none]) ⟨rfl, rfl, rfl, rfl, rfl, rfl, rfl, rfl, trivial⟩ ?_
      exact hx _ _ _ _ _ _ _ _ _ _ hX
theorem e_r_houseTold151 (hS0 : ySh n tg R) (hR0 : yRI K nb tg I R) (hn : nb ≤ n) {x1 : Int32} (hx : ∀ (x2 : Int32) (x3 : Int32) (x4 : Int32) (x5 : Int32) (x6 : Int32) (x7 : Int32) n1 tg1 I1 R1, yX n tg I R n1 tg1 I1 R1 → yW xm_X14_houseTold xc_X14_houseTold_197 [some (.ref 83), some (.int x1), some (.int x2), some (.int x3), some (.int x4), some (.int x5), some (.int x6), some (.int x7), none, none, none, none] [] (n1, tg1, I1, R1) c s Q) : ∀ (m : Nat) (z : Int) (it : Nat) (x2 : Int32) (x3 : Int32) (x4 : Int32) (x5 : Int32) (x6 : Int32) (x7 : Int32) (n1 : Nat) (tg1 : Nat → yT) (I1 : Nat → Nat → Int32) (R1 : Nat → Nat → Value), yX n tg I R n1 tg1 I1 R1 → n ≤ it → yIt nb n1 tg1 I1 R1 it 90 z → (I 90 2).toInt - z < m → yW xm_X14_houseTold xc_X14_houseTold_151 [some (.ref 83), some (.int x1), some (.int x2), some (.int x3), some (.int x4), some (.int x5), some (.int x6), some (.int x7), some (.ref it), none, none, none] [] (n1, tg1, I1, R1) c s Q := by
  intro m
  induction m with
  | zero =>
    intro z it x2 x3 x4 x5 x6 x7 n1 tg1 I1 R1 hX hit hI_it hm
    have hz := hX.sz hS0.1
    have h7 := hI_it.2.2.2.2.2.2.1
    exfalso; omega
  | succ m ih =>
    intro z it x2 x3 x4 x5 x6 x7 n1 tg1 I1 R1 hX hit hI_it hm
    have hS := hS0.x hX
    have hR := hR0.x hn hX
    have h94 : 94 ≤ n := hS0.1
    have hz := hX.sz h94
    have hxn := hX.1
    have hN := hR0.1
    have hnb : 94 ≤ nb := hR0.2.2.2.2.2.2
    refine y_aload rfl rfl ?_
    refine y_intf rfl rfl rfl rfl rfl hI_it.2.2.1 hI_it.2.1 ?_
    refine i_hasNext hI_it (fun h_1 => ?_) (fun h_2 => ?_)
    · refine y_ret1 ?_
      refine y_if_eqF rfl (by decide) ?_
      refine y_aload rfl rfl ?_
      refine y_intf rfl rfl rfl rfl rfl hI_it.2.2.1 hI_it.2.1 ?_
      have hz0 := hI_it.2.2.2.2.2.1
      refine i_next (nb := nb) (Nat.le_trans (by decide) (by have := hI_it.1; omega : 94 ≤ _)) (Nat.le_trans hn hX.1) hI_it hR.l90 (by omega) h_1 (fun b3 I3 eb_b3 hlo_b3 hb0_b3 ht_b3 hI1 hIe => ?_)
      have hb_b3 := Nat.lt_of_lt_of_le hb0_b3 hn
      replace ht_b3 := (hX.2.1 _ hb_b3).1.symm.trans ht_b3
      have hI_it := hI1
      have hX := hX.upI (by omega) hIe
      have hS := hS0.x hX
      have hR := hR0.x hn hX
      have hz := hX.sz h94
      have hxn := hX.1
      have hw_b3 := hR.lea hlo_b3 hb0_b3 ((hX.2.1 _ hb_b3).1.trans ht_b3)
      refine y_ret1 ?_
      refine y_cast rfl ((hX.2.1 _ hb_b3).1.trans ht_b3) (Nat.lt_of_lt_of_le hb_b3 hX.1) ?_
      refine y_astore (ls' := [some _, some _, some _, some _, some _, some _, some _, some _, some _, some _, _, _]) rfl rfl rfl ?_
      refine y_iload rfl rfl ?_
      refine y_aload rfl rfl ?_
      refine y_getI rfl ((hX.2.1 _ hb_b3).1.trans ht_b3) (Nat.lt_of_lt_of_le hb_b3 hX.1) rfl rfl ?_
      refine y_if_ne rfl j_X14_houseTold_187 (fun h_4 => ?_) (fun h_5 => ?_)
      · refine y_iconst rfl ?_
        refine y_static rfl rfl rfl rfl rfl ?_
        refine r_one (fun v_ hv_ => ?_)
        refine y_ret1 ?_
        refine y_iadd rfl ?_
        refine y_istore (ls' := [some _, some _, some _, some _, some _, some _, some _, some _, some _, some _, _, _]) rfl rfl rfl ?_
        refine y_goto rfl j_X14_houseTold_151 ?_
        refine y_fgt (ls := [some _, some _, some _, some _, some _, some _, some _, some _, some _, none, none, none]) ⟨rfl, rfl, rfl, rfl, rfl, rfl, rfl, rfl, rfl, trivial⟩ ?_
        exact ih _ _ _ _ _ _ _ _ _ _ _ _ hX (by omega) hI_it  (by omega)
      · refine y_iconst rfl ?_
        refine y_goto rfl j_X14_houseTold_188 ?_
        refine y_static rfl rfl rfl rfl rfl ?_
        refine r_one (fun v_ hv_ => ?_)
        refine y_ret1 ?_
        refine y_iadd rfl ?_
        refine y_istore (ls' := [some _, some _, some _, some _, some _, some _, some _, some _, some _, some _, _, _]) rfl rfl rfl ?_
        refine y_goto rfl j_X14_houseTold_151 ?_
        refine y_fgt (ls := [some _, some _, some _, some _, some _, some _, some _, some _, some _, none, none, none]) ⟨rfl, rfl, rfl, rfl, rfl, rfl, rfl, rfl, rfl, trivial⟩ ?_
        exact ih _ _ _ _ _ _ _ _ _ _ _ _ hX (by omega) hI_it  (by omega)
    · refine y_ret1 ?_
      refine y_if_eqT rfl j_X14_houseTold_197 (by decide) ?_
      refine y_fgt (ls := [some _, some _, some _, some _, some _, some _, some _, some _, none, none, none, none]) ⟨rfl, rfl, rfl, rfl, rfl, rfl, rfl, rfl, trivial⟩ ?_
      exact hx _ _ _ _ _ _ _ _ _ _ hX
theorem e_r_houseTold206 (hS0 : ySh n tg R) (hR0 : yRI K nb tg I R) (hn : nb ≤ n) {x1 : Int32} (hx : ∀ (x2 : Int32) (x3 : Int32) (x4 : Int32) (x5 : Int32) (x6 : Int32) (x7 : Int32) n1 tg1 I1 R1, yX n tg I R n1 tg1 I1 R1 → yW xm_X14_houseTold xc_X14_houseTold_254 [some (.ref 83), some (.int x1), some (.int x2), some (.int x3), some (.int x4), some (.int x5), some (.int x6), some (.int x7), none, none, none, none] [] (n1, tg1, I1, R1) c s Q) : ∀ (m : Nat) (z : Int) (it : Nat) (x2 : Int32) (x3 : Int32) (x4 : Int32) (x5 : Int32) (x6 : Int32) (x7 : Int32) (n1 : Nat) (tg1 : Nat → yT) (I1 : Nat → Nat → Int32) (R1 : Nat → Nat → Value), yX n tg I R n1 tg1 I1 R1 → n ≤ it → yIt nb n1 tg1 I1 R1 it 88 z → (I 88 2).toInt - z < m → yW xm_X14_houseTold xc_X14_houseTold_206 [some (.ref 83), some (.int x1), some (.int x2), some (.int x3), some (.int x4), some (.int x5), some (.int x6), some (.int x7), some (.ref it), none, none, none] [] (n1, tg1, I1, R1) c s Q := by
  intro m
  induction m with
  | zero =>
    intro z it x2 x3 x4 x5 x6 x7 n1 tg1 I1 R1 hX hit hI_it hm
    have hz := hX.sz hS0.1
    have h7 := hI_it.2.2.2.2.2.2.1
    exfalso; omega
  | succ m ih =>
    intro z it x2 x3 x4 x5 x6 x7 n1 tg1 I1 R1 hX hit hI_it hm
    have hS := hS0.x hX
    have hR := hR0.x hn hX
    have h94 : 94 ≤ n := hS0.1
    have hz := hX.sz h94
    have hxn := hX.1
    have hN := hR0.1
    have hnb : 94 ≤ nb := hR0.2.2.2.2.2.2
    refine y_aload rfl rfl ?_
    refine y_intf rfl rfl rfl rfl rfl hI_it.2.2.1 hI_it.2.1 ?_
    refine i_hasNext hI_it (fun h_1 => ?_) (fun h_2 => ?_)
    · refine y_ret1 ?_
      refine y_if_eqF rfl (by decide) ?_
      refine y_aload rfl rfl ?_
      refine y_intf rfl rfl rfl rfl rfl hI_it.2.2.1 hI_it.2.1 ?_
      have hz0 := hI_it.2.2.2.2.2.1
      refine i_next (nb := nb) (Nat.le_trans (by decide) (by have := hI_it.1; omega : 94 ≤ _)) (Nat.le_trans hn hX.1) hI_it hR.l88 (by omega) h_1 (fun b3 I3 eb_b3 hlo_b3 hb0_b3 ht_b3 hI1 hIe => ?_)
      have hb_b3 := Nat.lt_of_lt_of_le hb0_b3 hn
      replace ht_b3 := (hX.2.1 _ hb_b3).1.symm.trans ht_b3
      have hI_it := hI1
      have hX := hX.upI (by omega) hIe
      have hS := hS0.x hX
      have hR := hR0.x hn hX
      have hz := hX.sz h94
      have hxn := hX.1
      have hw_b3 := hR.thi hlo_b3 hb0_b3 ((hX.2.1 _ hb_b3).1.trans ht_b3)
      refine y_ret1 ?_
      refine y_cast rfl ((hX.2.1 _ hb_b3).1.trans ht_b3) (Nat.lt_of_lt_of_le hb_b3 hX.1) ?_
      refine y_astore (ls' := [some _, some _, some _, some _, some _, some _, some _, some _, some _, some _, _, _]) rfl rfl rfl ?_
      refine y_iload rfl rfl ?_
      refine y_aload rfl rfl ?_
      refine y_getI rfl ((hX.2.1 _ hb_b3).1.trans ht_b3) (Nat.lt_of_lt_of_le hb_b3 hX.1) rfl rfl ?_
      refine y_bip rfl (by decide) ?_
      refine y_icmp_ne rfl j_X14_houseTold_244 (fun h_4 => ?_) (fun h_5 => ?_)
      · rw [yz_8] at h_4
        refine y_iconst rfl ?_
        refine y_static rfl rfl rfl rfl rfl ?_
        refine r_one (fun v_ hv_ => ?_)
        refine y_ret1 ?_
        refine y_iadd rfl ?_
        refine y_istore (ls' := [some _, some _, some _, some _, some _, some _, some _, some _, some _, some _, _, _]) rfl rfl rfl ?_
        refine y_goto rfl j_X14_houseTold_206 ?_
        refine y_fgt (ls := [some _, some _, some _, some _, some _, some _, some _, some _, some _, none, none, none]) ⟨rfl, rfl, rfl, rfl, rfl, rfl, rfl, rfl, rfl, trivial⟩ ?_
        exact ih _ _ _ _ _ _ _ _ _ _ _ _ hX (by omega) hI_it  (by omega)
      · rw [yz_8] at h_5
        refine y_iconst rfl ?_
        refine y_goto rfl j_X14_houseTold_245 ?_
        refine y_static rfl rfl rfl rfl rfl ?_
        refine r_one (fun v_ hv_ => ?_)
        refine y_ret1 ?_
        refine y_iadd rfl ?_
        refine y_istore (ls' := [some _, some _, some _, some _, some _, some _, some _, some _, some _, some _, _, _]) rfl rfl rfl ?_
        refine y_goto rfl j_X14_houseTold_206 ?_
        refine y_fgt (ls := [some _, some _, some _, some _, some _, some _, some _, some _, some _, none, none, none]) ⟨rfl, rfl, rfl, rfl, rfl, rfl, rfl, rfl, rfl, trivial⟩ ?_
        exact ih _ _ _ _ _ _ _ _ _ _ _ _ hX (by omega) hI_it  (by omega)
    · refine y_ret1 ?_
      refine y_if_eqT rfl j_X14_houseTold_254 (by decide) ?_
      refine y_fgt (ls := [some _, some _, some _, some _, some _, some _, some _, some _, none, none, none, none]) ⟨rfl, rfl, rfl, rfl, rfl, rfl, rfl, rfl, trivial⟩ ?_
      exact hx _ _ _ _ _ _ _ _ _ _ hX
theorem lp_r_houseTold5 (hS0 : ySh n tg R) (hR0 : yRI K nb tg I R) (hn : nb ≤ n) {x1 : Int32} (hx : ∀ (x2 : Int32) (x3 : Int32) (x4 : Int32) (x5 : Int32) (x6 : Int32) (x7 : Int32), yW xm_X14_houseTold xc_X14_houseTold_284 [some (.ref 83), some (.int x1), some (.int x2), some (.int x3), some (.int x4), some (.int x5), some (.int x6), some (.int x7), none, none, none, none] [] (n, tg, I, R) c s Q) : ∀ (m : Nat) (x2 : Int32) (x3 : Int32) (x4 : Int32) (x5 : Int32) (x6 : Int32) (x7 : Int32) (x8 : Int32), (0 ≤ x8.toInt) → (x8.toInt ≤ (I 83 8).toInt) → (I 83 8).toInt - x8.toInt < m → yW xm_X14_houseTold xc_X14_houseTold_257 [some (.ref 83), some (.int x1), some (.int x2), some (.int x3), some (.int x4), some (.int x5), some (.int x6), some (.int x7), some (.int x8), none, none, none] [] (n, tg, I, R) c s Q := by
  intro m
  induction m with
  | zero =>
    intro x2 x3 x4 x5 x6 x7 x8 i0 i1 hm
    have hX : yX n tg I R n tg I R := yX.rf
    have hS := hS0
    have hR := hR0
    have h94 : 94 ≤ n := hS0.1
    have hz : ySz I I := hX.sz h94
    have hxn := hX.1
    have hN := hR0.1
    have hnb : 94 ≤ nb := hR0.2.2.2.2.2.2
    exfalso; omega
  | succ m ih =>
    intro x2 x3 x4 x5 x6 x7 x8 i0 i1 hm
    have hX : yX n tg I R n tg I R := yX.rf
    have hS := hS0
    have hR := hR0
    have h94 : 94 ≤ n := hS0.1
    have hz : ySz I I := hX.sz h94
    have hxn := hX.1
    have hN := hR0.1
    have hnb : 94 ≤ nb := hR0.2.2.2.2.2.2
    refine y_iload rfl rfl ?_
    refine y_aload_n rfl rfl ?_
    refine y_getI rfl (ySh.t hS rfl) (ySh.n hS rfl) rfl rfl ?_
    refine y_icmp_ge rfl j_X14_houseTold_284 (fun h_1 => ?_) (fun h_2 => ?_)
    · refine y_fgt (ls := [some _, some _, some _, some _, some _, some _, some _, some _, none, none, none, none]) ⟨rfl, rfl, rfl, rfl, rfl, rfl, rfl, rfl, trivial⟩ ?_
      exact hx _ _ _ _ _ _
    · refine y_iload rfl rfl ?_
      refine y_aload_n rfl rfl ?_
      refine y_getR rfl (ySh.t hS rfl) (ySh.n hS rfl) rfl rfl (ySh.r hS rfl) ?_
      refine y_iload rfl rfl ?_
      refine y_iaload rfl (ySh.t hS rfl) (ySh.n hS rfl) (by omega) (by omega) ?_
      refine y_iadd rfl ?_
      refine y_istore (ls' := [some _, some _, some _, some _, some _, some _, some _, some _, some _, _, _, _]) rfl rfl rfl ?_
      refine y_iinc (ls' := [some _, some _, some _, some _, some _, some _, some _, some _, some _, _, _, _]) rfl rfl rfl rfl ?_
      refine y_goto rfl j_X14_houseTold_257 ?_
      exact ih _ _ _ _ _ _ _ (by first | omega | (rw [yinc (by omega)]; omega)) (by first | omega | (rw [yinc (by omega)]; omega)) (by first | omega | (rw [yinc (by omega)]; omega))
theorem r_houseTold (hS0 : ySh n tg R) (hR0 : yRI K nb tg I R) (hn : nb ≤ n) {x1 : Int32} (h0 : 0 ≤ x1.toInt) (h1 : x1.toInt < 16) (hQ : ∀ v n1 tg1 I1 R1 c1 s1, yX n tg I R n1 tg1 I1 R1 → c1 ≤ c + 4 → s1 ≤ s + 28 → Q (.inl (some (.int v))) (n1, tg1, I1, R1) c1 s1) : yC 240 [.ref 83, .int x1] (n, tg, I, R) c s Q := by
  have hX : yX n tg I R n tg I R := yX.rf
  have hS := hS0
  have hR := hR0
  have h94 : 94 ≤ n := hS0.1
  have hz : ySz I I := hX.sz h94
  have hxn := hX.1
  have hN := hR0.1
  have hnb : 94 ≤ nb := hR0.2.2.2.2.2.2
  refine y_in (M := xm_X14_houseTold) (ls := [some _, some _, _, _, _, _, _, _, _, _, _, _]) rfl rfl rfl ?_
  refine y_iconst rfl ?_
  refine y_istore_n (ls' := [some _, some _, some _, _, _, _, _, _, _, _, _, _]) rfl rfl rfl ?_
  refine y_iconst rfl ?_
  refine y_istore_n (ls' := [some _, some _, some _, some _, _, _, _, _, _, _, _, _]) rfl rfl rfl ?_
  refine y_iconst rfl ?_
  refine y_istore (ls' := [some _, some _, some _, some _, some _, _, _, _, _, _, _, _]) rfl rfl rfl ?_
  refine y_iconst rfl ?_
  refine y_istore (ls' := [some _, some _, some _, some _, some _, some _, _, _, _, _, _, _]) rfl rfl rfl ?_
  refine y_iconst rfl ?_
  refine y_istore (ls' := [some _, some _, some _, some _, some _, some _, some _, _, _, _, _, _]) rfl rfl rfl ?_
  refine y_iconst rfl ?_
  refine y_istore (ls' := [some _, some _, some _, some _, some _, some _, some _, some _, _, _, _, _]) rfl rfl rfl ?_
  refine y_aload_n rfl rfl ?_
  refine y_getR rfl (ySh.t hS rfl) (ySh.n hS rfl) rfl rfl (ySh.r hS rfl) ?_
  refine y_astore (ls' := [some _, some _, some _, some _, some _, some _, some _, some _, some _, _, _, _]) rfl rfl rfl ?_
  refine y_aload rfl rfl ?_
  refine y_alenI (v := 8) rfl (ySh.t hS rfl) rfl (ySh.n hS rfl) (by decide) ?_
  refine y_istore (ls' := [some _, some _, some _, some _, some _, some _, some _, some _, some _, some _, _, _]) rfl rfl rfl ?_
  refine y_iconst rfl ?_
  refine y_istore (ls' := [some _, some _, some _, some _, some _, some _, some _, some _, some _, some _, some _, _]) rfl rfl rfl ?_
  refine lp_r_houseTold1 hS hR (Nat.le_trans hn hX.1) (fun u1_0 u1_1 u1_2 u1_3 u1_4 u1_5 => ?_) 100000 _ _ _ _ _ _ _ _ (by decide) (by decide) (by decide) (by decide)
  refine y_aload_n rfl rfl ?_
  refine y_getR rfl (ySh.t hS rfl) (ySh.n hS rfl) rfl rfl (ySh.r hS rfl) ?_
  refine y_virt rfl rfl rfl rfl rfl (ySh.t hS rfl) (ySh.n hS rfl) ?_
  refine l_iter (nb := nb) (l := 89) hS (ySh.t hS rfl) (ySh.n hS rfl) (by omega) (Nat.le_trans hn hX.1) hR.l89.2.2.2.1 (fun n2 tg2 I2 R2 hnA hX1 hI_it2 => ?_)
  have hX := hX.trans hX1
  have hS := hS0.x hX
  have hR := hR0.x hn hX
  have hz := hX.sz h94
  have hxn := hX.1
  refine y_ret1 ?_
  refine y_astore (ls' := [some _, some _, some _, some _, some _, some _, some _, some _, some _, _, _, _]) rfl rfl rfl ?_
  refine e_r_houseTold64 hS0 hR0 hn (fun a4_2 a4_3 a4_4 a4_5 a4_6 a4_7 n3 tg3 I3 R3 hX => ?_) 100000 0 _ _ _ _ _ _ _ _ _ _ _ hX (by omega) hI_it2 (by omega)
  have hS := hS0.x hX
  have hR := hR0.x hn hX
  have hz := hX.sz h94
  have hxn := hX.1
  refine y_aload_n rfl rfl ?_
  refine y_getR rfl (ySh.t hS rfl) (ySh.n hS rfl) rfl rfl (ySh.r hS rfl) ?_
  refine y_virt rfl rfl rfl rfl rfl (ySh.t hS rfl) (ySh.n hS rfl) ?_
  refine l_iter (nb := nb) (l := 90) hS (ySh.t hS rfl) (ySh.n hS rfl) (by omega) (Nat.le_trans hn hX.1) hR.l90.2.2.2.1 (fun n5 tg5 I5 R5 hnA hX1 hI_it5 => ?_)
  have hX := hX.trans hX1
  have hS := hS0.x hX
  have hR := hR0.x hn hX
  have hz := hX.sz h94
  have hxn := hX.1
  refine y_ret1 ?_
  refine y_astore (ls' := [some _, some _, some _, some _, some _, some _, some _, some _, some _, _, _, _]) rfl rfl rfl ?_
  refine e_r_houseTold151 hS0 hR0 hn (fun a7_2 a7_3 a7_4 a7_5 a7_6 a7_7 n6 tg6 I6 R6 hX => ?_) 100000 0 _ _ _ _ _ _ _ _ _ _ _ hX (by omega) hI_it5 (by omega)
  have hS := hS0.x hX
  have hR := hR0.x hn hX
  have hz := hX.sz h94
  have hxn := hX.1
  refine y_aload_n rfl rfl ?_
  refine y_getR rfl (ySh.t hS rfl) (ySh.n hS rfl) rfl rfl (ySh.r hS rfl) ?_
  refine y_virt rfl rfl rfl rfl rfl (ySh.t hS rfl) (ySh.n hS rfl) ?_
  refine l_iter (nb := nb) (l := 88) hS (ySh.t hS rfl) (ySh.n hS rfl) (by omega) (Nat.le_trans hn hX.1) hR.l88.2.2.2.1 (fun n8 tg8 I8 R8 hnA hX1 hI_it8 => ?_)
  have hX := hX.trans hX1
  have hS := hS0.x hX
  have hR := hR0.x hn hX
  have hz := hX.sz h94
  have hxn := hX.1
  refine y_ret1 ?_
  refine y_astore (ls' := [some _, some _, some _, some _, some _, some _, some _, some _, some _, _, _, _]) rfl rfl rfl ?_
  refine e_r_houseTold206 hS0 hR0 hn (fun a10_2 a10_3 a10_4 a10_5 a10_6 a10_7 n9 tg9 I9 R9 hX => ?_) 100000 0 _ _ _ _ _ _ _ _ _ _ _ hX (by omega) hI_it8 (by omega)
  have hS := hS0.x hX
  have hR := hR0.x hn hX
  have hz := hX.sz h94
  have hxn := hX.1
  refine y_iconst rfl ?_
  refine y_istore (ls' := [some _, some _, some _, some _, some _, some _, some _, some _, some _, _, _, _]) rfl rfl rfl ?_
  refine lp_r_houseTold5 hS hR (Nat.le_trans hn hX.1) (fun u11_0 u11_1 u11_2 u11_3 u11_4 u11_5 => ?_) 100000 _ _ _ _ _ _ _ (by decide) (by rw [yz_0]; omega) (by rw [yz_0]; omega)
  refine y_bip rfl (by decide) ?_
  refine y_newarrL (m := 16) rfl rfl (by decide) (by decide) rfl (fun n12 tg12 I12 R12 hA => ?_)
  have hnA := hA.1
  have ht_f13 : tg12 n9 = (0, 16) := hA.2.1
  have ha_f13 : n9 < n12 := by omega
  have hX := hX.trans (hA.x rfl)
  have hS := hS0.x hX
  have hR := hR0.x hn hX
  have hz := hX.sz h94
  have hxn := hX.1
  refine y_dup rfl rfl ?_
  refine y_iconst rfl ?_
  refine y_aload_n rfl rfl ?_
  refine y_getI rfl (ySh.t hS rfl) (ySh.n hS rfl) rfl rfl ?_
  refine y_iastoreC (j := 0) rfl ht_f13 ha_f13 (Nat.le_trans (by decide) (by omega : 94 ≤ _)) (by decide) (by decide) rfl ?_
  refine y_nameI (fun I14 e14 => ?_)
  have hX := hX.upI (by omega) (upI e14)
  have hS := hS0.x hX
  have hR := hR0.x hn hX
  have hz := hX.sz h94
  have hxn := hX.1
  refine y_dup rfl rfl ?_
  refine y_iconst rfl ?_
  refine y_aload_n rfl rfl ?_
  refine y_getR rfl (ySh.t hS rfl) (ySh.n hS rfl) rfl rfl (ySh.r hS rfl) ?_
  refine y_bip rfl (by decide) ?_
  refine y_ialoadC (j := 8) rfl (ySh.t hS rfl) (ySh.n hS rfl) (by decide) (by decide) rfl ?_
  refine y_iastoreC (j := 1) rfl ht_f13 ha_f13 (Nat.le_trans (by decide) (by omega : 94 ≤ _)) (by decide) (by decide) rfl ?_
  refine y_nameI (fun I15 e15 => ?_)
  have hX := hX.upI (by omega) (upI e15)
  have hS := hS0.x hX
  have hR := hR0.x hn hX
  have hz := hX.sz h94
  have hxn := hX.1
  refine y_dup rfl rfl ?_
  refine y_iconst rfl ?_
  refine y_aload_n rfl rfl ?_
  refine y_getI rfl (ySh.t hS rfl) (ySh.n hS rfl) rfl rfl ?_
  refine y_iastoreC (j := 2) rfl ht_f13 ha_f13 (Nat.le_trans (by decide) (by omega : 94 ≤ _)) (by decide) (by decide) rfl ?_
  refine y_nameI (fun I16 e16 => ?_)
  have hX := hX.upI (by omega) (upI e16)
  have hS := hS0.x hX
  have hR := hR0.x hn hX
  have hz := hX.sz h94
  have hxn := hX.1
  refine y_dup rfl rfl ?_
  refine y_iconst rfl ?_
  refine y_aload_n rfl rfl ?_
  refine y_getI rfl (ySh.t hS rfl) (ySh.n hS rfl) rfl rfl ?_
  refine y_iastoreC (j := 3) rfl ht_f13 ha_f13 (Nat.le_trans (by decide) (by omega : 94 ≤ _)) (by decide) (by decide) rfl ?_
  refine y_nameI (fun I17 e17 => ?_)
  have hX := hX.upI (by omega) (upI e17)
  have hS := hS0.x hX
  have hR := hR0.x hn hX
  have hz := hX.sz h94
  have hxn := hX.1
  refine y_dup rfl rfl ?_
  refine y_iconst rfl ?_
  refine y_iload_n rfl rfl ?_
  refine y_iastoreC (j := 4) rfl ht_f13 ha_f13 (Nat.le_trans (by decide) (by omega : 94 ≤ _)) (by decide) (by decide) rfl ?_
  refine y_nameI (fun I18 e18 => ?_)
  have hX := hX.upI (by omega) (upI e18)
  have hS := hS0.x hX
  have hR := hR0.x hn hX
  have hz := hX.sz h94
  have hxn := hX.1
  refine y_dup rfl rfl ?_
  refine y_iconst rfl ?_
  refine y_aload_n rfl rfl ?_
  refine y_getI rfl (ySh.t hS rfl) (ySh.n hS rfl) rfl rfl ?_
  refine y_iastoreC (j := 5) rfl ht_f13 ha_f13 (Nat.le_trans (by decide) (by omega : 94 ≤ _)) (by decide) (by decide) rfl ?_
  refine y_nameI (fun I19 e19 => ?_)
  have hX := hX.upI (by omega) (upI e19)
  have hS := hS0.x hX
  have hR := hR0.x hn hX
  have hz := hX.sz h94
  have hxn := hX.1
  refine y_dup rfl rfl ?_
  refine y_bip rfl (by decide) ?_
  refine y_aload_n rfl rfl ?_
  refine y_getR rfl (ySh.t hS rfl) (ySh.n hS rfl) rfl rfl (ySh.r hS rfl) ?_
  refine y_virt rfl rfl rfl rfl rfl (ySh.t hS rfl) (ySh.n hS rfl) ?_
  refine y_in (M := xm_Jx4a65c_size_8abf5) (ls := [some _]) rfl rfl rfl ?_
  refine y_aload_n rfl rfl ?_
  refine y_getI rfl (ySh.t hS rfl) (ySh.n hS rfl) rfl rfl ?_
  refine y_ireturn rfl rfl rfl ?_
  refine y_ret1 ?_
  refine y_iastoreC (j := 6) rfl ht_f13 ha_f13 (Nat.le_trans (by decide) (by omega : 94 ≤ _)) (by decide) (by decide) rfl ?_
  refine y_nameI (fun I20 e20 => ?_)
  have hX := hX.upI (by omega) (upI e20)
  have hS := hS0.x hX
  have hR := hR0.x hn hX
  have hz := hX.sz h94
  have hxn := hX.1
  refine y_dup rfl rfl ?_
  refine y_bip rfl (by decide) ?_
  refine y_iload_n rfl rfl ?_
  refine y_iastoreC (j := 7) rfl ht_f13 ha_f13 (Nat.le_trans (by decide) (by omega : 94 ≤ _)) (by decide) (by decide) rfl ?_
  refine y_nameI (fun I21 e21 => ?_)
  have hX := hX.upI (by omega) (upI e21)
  have hS := hS0.x hX
  have hR := hR0.x hn hX
  have hz := hX.sz h94
  have hxn := hX.1
  refine y_dup rfl rfl ?_
  refine y_bip rfl (by decide) ?_
  refine y_iload rfl rfl ?_
  refine y_iastoreC (j := 8) rfl ht_f13 ha_f13 (Nat.le_trans (by decide) (by omega : 94 ≤ _)) (by decide) (by decide) rfl ?_
  refine y_nameI (fun I22 e22 => ?_)
  have hX := hX.upI (by omega) (upI e22)
  have hS := hS0.x hX
  have hR := hR0.x hn hX
  have hz := hX.sz h94
  have hxn := hX.1
  refine y_dup rfl rfl ?_
  refine y_bip rfl (by decide) ?_
  refine y_iload rfl rfl ?_
  refine y_iastoreC (j := 9) rfl ht_f13 ha_f13 (Nat.le_trans (by decide) (by omega : 94 ≤ _)) (by decide) (by decide) rfl ?_
  refine y_nameI (fun I23 e23 => ?_)
  have hX := hX.upI (by omega) (upI e23)
  have hS := hS0.x hX
  have hR := hR0.x hn hX
  have hz := hX.sz h94
  have hxn := hX.1
  refine y_dup rfl rfl ?_
  refine y_bip rfl (by decide) ?_
  refine y_aload_n rfl rfl ?_
  refine y_getR rfl (ySh.t hS rfl) (ySh.n hS rfl) rfl rfl (ySh.r hS rfl) ?_
  refine y_virt rfl rfl rfl rfl rfl (ySh.t hS rfl) (ySh.n hS rfl) ?_
  refine y_in (M := xm_Jx4a65c_size_8abf5) (ls := [some _]) rfl rfl rfl ?_
  refine y_aload_n rfl rfl ?_
  refine y_getI rfl (ySh.t hS rfl) (ySh.n hS rfl) rfl rfl ?_
  refine y_ireturn rfl rfl rfl ?_
  refine y_ret1 ?_
  refine y_iastoreC (j := 10) rfl ht_f13 ha_f13 (Nat.le_trans (by decide) (by omega : 94 ≤ _)) (by decide) (by decide) rfl ?_
  refine y_nameI (fun I24 e24 => ?_)
  have hX := hX.upI (by omega) (upI e24)
  have hS := hS0.x hX
  have hR := hR0.x hn hX
  have hz := hX.sz h94
  have hxn := hX.1
  refine y_dup rfl rfl ?_
  refine y_bip rfl (by decide) ?_
  refine y_aload_n rfl rfl ?_
  refine y_getI rfl (ySh.t hS rfl) (ySh.n hS rfl) rfl rfl ?_
  refine y_iastoreC (j := 11) rfl ht_f13 ha_f13 (Nat.le_trans (by decide) (by omega : 94 ≤ _)) (by decide) (by decide) rfl ?_
  refine y_nameI (fun I25 e25 => ?_)
  have hX := hX.upI (by omega) (upI e25)
  have hS := hS0.x hX
  have hR := hR0.x hn hX
  have hz := hX.sz h94
  have hxn := hX.1
  refine y_dup rfl rfl ?_
  refine y_bip rfl (by decide) ?_
  refine y_iload rfl rfl ?_
  refine y_iastoreC (j := 12) rfl ht_f13 ha_f13 (Nat.le_trans (by decide) (by omega : 94 ≤ _)) (by decide) (by decide) rfl ?_
  refine y_nameI (fun I26 e26 => ?_)
  have hX := hX.upI (by omega) (upI e26)
  have hS := hS0.x hX
  have hR := hR0.x hn hX
  have hz := hX.sz h94
  have hxn := hX.1
  refine y_dup rfl rfl ?_
  refine y_bip rfl (by decide) ?_
  refine y_iload rfl rfl ?_
  refine y_iastoreC (j := 13) rfl ht_f13 ha_f13 (Nat.le_trans (by decide) (by omega : 94 ≤ _)) (by decide) (by decide) rfl ?_
  refine y_nameI (fun I27 e27 => ?_)
  have hX := hX.upI (by omega) (upI e27)
  have hS := hS0.x hX
  have hR := hR0.x hn hX
  have hz := hX.sz h94
  have hxn := hX.1
  refine y_dup rfl rfl ?_
  refine y_bip rfl (by decide) ?_
  refine y_aload_n rfl rfl ?_
  refine y_getI rfl (ySh.t hS rfl) (ySh.n hS rfl) rfl rfl ?_
  refine y_iastoreC (j := 14) rfl ht_f13 ha_f13 (Nat.le_trans (by decide) (by omega : 94 ≤ _)) (by decide) (by decide) rfl ?_
  refine y_nameI (fun I28 e28 => ?_)
  have hX := hX.upI (by omega) (upI e28)
  have hS := hS0.x hX
  have hR := hR0.x hn hX
  have hz := hX.sz h94
  have hxn := hX.1
  refine y_dup rfl rfl ?_
  refine y_bip rfl (by decide) ?_
  refine y_aload_n rfl rfl ?_
  refine y_getI rfl (ySh.t hS rfl) (ySh.n hS rfl) rfl rfl ?_
  refine y_iastoreC (j := 15) rfl ht_f13 ha_f13 (Nat.le_trans (by decide) (by omega : 94 ≤ _)) (by decide) (by decide) rfl ?_
  refine y_nameI (fun I29 e29 => ?_)
  have hX := hX.upI (by omega) (upI e29)
  have hS := hS0.x hX
  have hR := hR0.x hn hX
  have hz := hX.sz h94
  have hxn := hX.1
  refine y_astore (ls' := [some _, some _, some _, some _, some _, some _, some _, some _, some _, _, _, _]) rfl rfl rfl ?_
  refine y_aload rfl rfl ?_
  refine y_iload_n rfl rfl ?_
  refine y_iaload rfl ht_f13 ha_f13 (by omega) (by omega) ?_
  refine y_ireturn rfl rfl rfl ?_
  exact hQ _ _ _ _ _ _ _ hX (by omega) (by omega)
theorem e_r_isWhole1 (hS0 : ySh n tg R) (hR0 : yRI K nb tg I R) (hn : nb ≤ n) (hQ0 : ∀ n1 tg1 I1 R1, yX n tg I R n1 tg1 I1 R1 → Q (.inl (some (.int (Int32.ofInt 0)))) (n1, tg1, I1, R1) c s) (hx : ∀ (x1 : Int32) n1 tg1 I1 R1, yX n tg I R n1 tg1 I1 R1 → yW xm_X14_isWhole xc_X14_isWhole_55 [some (.ref 83), some (.int x1), none, none, none, none, none, none] [] (n1, tg1, I1, R1) c s Q) : ∀ (m : Nat) (z : Int) (it : Nat) (x1 : Int32) (n1 : Nat) (tg1 : Nat → yT) (I1 : Nat → Nat → Int32) (R1 : Nat → Nat → Value), yX n tg I R n1 tg1 I1 R1 → n ≤ it → yIt nb n1 tg1 I1 R1 it 89 z → (I 89 2).toInt - z < m → yW xm_X14_isWhole xc_X14_isWhole_10 [some (.ref 83), some (.int x1), some (.ref it), none, none, none, none, none] [] (n1, tg1, I1, R1) c s Q := by
  intro m
  induction m with
  | zero =>
    intro z it x1 n1 tg1 I1 R1 hX hit hI_it hm
    have hz := hX.sz hS0.1
    have h7 := hI_it.2.2.2.2.2.2.1
    exfalso; omega
  | succ m ih =>
    intro z it x1 n1 tg1 I1 R1 hX hit hI_it hm
    have hS := hS0.x hX
    have hR := hR0.x hn hX
    have h94 : 94 ≤ n := hS0.1
    have hz := hX.sz h94
    have hxn := hX.1
    have hN := hR0.1
    have hnb : 94 ≤ nb := hR0.2.2.2.2.2.2
    refine y_aload_n rfl rfl ?_
    refine y_intf rfl rfl rfl rfl rfl hI_it.2.2.1 hI_it.2.1 ?_
    refine i_hasNext hI_it (fun h_1 => ?_) (fun h_2 => ?_)
    · refine y_ret1 ?_
      refine y_if_eqF rfl (by decide) ?_
      refine y_aload_n rfl rfl ?_
      refine y_intf rfl rfl rfl rfl rfl hI_it.2.2.1 hI_it.2.1 ?_
      have hz0 := hI_it.2.2.2.2.2.1
      refine i_next (nb := nb) (Nat.le_trans (by decide) (by have := hI_it.1; omega : 94 ≤ _)) (Nat.le_trans hn hX.1) hI_it hR.l89 (by omega) h_1 (fun b3 I3 eb_b3 hlo_b3 hb0_b3 ht_b3 hI1 hIe => ?_)
      have hb_b3 := Nat.lt_of_lt_of_le hb0_b3 hn
      replace ht_b3 := (hX.2.1 _ hb_b3).1.symm.trans ht_b3
      have hI_it := hI1
      have hX := hX.upI (by omega) hIe
      have hS := hS0.x hX
      have hR := hR0.x hn hX
      have hz := hX.sz h94
      have hxn := hX.1
      have hw_b3 := hR.sal hlo_b3 hb0_b3 ((hX.2.1 _ hb_b3).1.trans ht_b3)
      refine y_ret1 ?_
      refine y_cast rfl ((hX.2.1 _ hb_b3).1.trans ht_b3) (Nat.lt_of_lt_of_le hb_b3 hX.1) ?_
      refine y_astore_n (ls' := [some _, some _, some _, some _, _, _, _, _]) rfl rfl rfl ?_
      refine y_iload_n rfl rfl ?_
      refine y_aload_n rfl rfl ?_
      refine y_getI rfl ((hX.2.1 _ hb_b3).1.trans ht_b3) (Nat.lt_of_lt_of_le hb_b3 hX.1) rfl rfl ?_
      refine y_iadd rfl ?_
      refine y_istore_n (ls' := [some _, some _, some _, some _, _, _, _, _]) rfl rfl rfl ?_
      refine y_aload_n rfl rfl ?_
      refine y_getI rfl ((hX.2.1 _ hb_b3).1.trans ht_b3) (Nat.lt_of_lt_of_le hb_b3 hX.1) rfl rfl ?_
      refine y_if_eq rfl j_X14_isWhole_52 (fun h_4 => ?_) (fun h_5 => ?_)
      · refine y_goto rfl j_X14_isWhole_10 ?_
        refine y_fgt (ls := [some _, some _, some _, none, none, none, none, none]) ⟨rfl, rfl, rfl, trivial⟩ ?_
        exact ih _ _ _ _ _ _ _ hX (by omega) hI_it  (by omega)
      · refine y_aload_n rfl rfl ?_
        refine y_getI rfl ((hX.2.1 _ hb_b3).1.trans ht_b3) (Nat.lt_of_lt_of_le hb_b3 hX.1) rfl rfl ?_
        refine y_if_le rfl j_X14_isWhole_52 (fun h_6 => ?_) (fun h_7 => ?_)
        · refine y_goto rfl j_X14_isWhole_10 ?_
          refine y_fgt (ls := [some _, some _, some _, none, none, none, none, none]) ⟨rfl, rfl, rfl, trivial⟩ ?_
          exact ih _ _ _ _ _ _ _ hX (by omega) hI_it  (by omega)
        · refine y_iconst rfl ?_
          refine y_ireturn rfl rfl rfl ?_
          exact hQ0 _ _ _ _ hX
    · refine y_ret1 ?_
      refine y_if_eqT rfl j_X14_isWhole_55 (by decide) ?_
      refine y_fgt (ls := [some _, some _, none, none, none, none, none, none]) ⟨rfl, rfl, trivial⟩ ?_
      exact hx _ _ _ _ _ hX
theorem lp_r_isWholeV {bv av it : Nat} (hb_av : av < n) (ht_av : tg av = (0, 9)) (hx : ∀ x1 : Int32, yW xm_X14_isWhole xc_X14_isWhole_138 [some (.ref 83), some (.int x1), some (.ref it), none, none, none, none, none] [] (n, tg, I, R) c s Q) (hQ0 : Q (.inl (some (.int (Int32.ofInt 0)))) (n, tg, I, R) c s) : ∀ (m : Nat) (x1 x5 x6 : Int32), x5.toInt = 9 → 0 ≤ x6.toInt → x6.toInt ≤ 9 → 9 - x6.toInt < m → yW xm_X14_isWhole xc_X14_isWhole_111 [some (.ref 83), some (.int x1), some (.ref it), some (.ref bv), some (.ref av), some (.int x5), some (.int x6), none] [] (n, tg, I, R) c s Q := by
  intro m
  induction m with
  | zero => intro x1 x5 x6 i0 i1 i2 hm; exfalso; omega
  | succ m ih =>
    intro x1 x5 x6 i0 i1 i2 hm
    have hX : yX n tg I R n tg I R := yX.rf
    refine y_iload rfl rfl ?_
    refine y_iload rfl rfl ?_
    refine y_icmp_ge rfl j_X14_isWhole_138 (fun h_1 => ?_) (fun h_2 => ?_)
    · refine y_fgt (ls := [some _, some _, some _, none, none, none, none, none]) ⟨rfl, rfl, rfl, trivial⟩ ?_
      exact hx _
    · refine y_aload rfl rfl ?_
      refine y_iload rfl rfl ?_
      refine y_iaload rfl ((hX.2.1 _ hb_av).1.trans ht_av) (Nat.lt_of_lt_of_le hb_av hX.1) (by omega) (by omega) ?_
      refine y_istore (ls' := [some _, some _, some _, some _, some _, some _, some _, some _]) rfl rfl rfl ?_
      refine y_iload rfl rfl ?_
      refine y_if_ge rfl j_X14_isWhole_132 (fun h_3 => ?_) (fun h_4 => ?_)
      · refine y_iinc (ls' := [some _, some _, some _, some _, some _, some _, some _, some _]) rfl rfl rfl rfl ?_
        refine y_goto rfl j_X14_isWhole_111 ?_
        refine y_fgt (ls := [some _, some _, some _, some _, some _, some _, some _, none]) ⟨rfl, rfl, rfl, rfl, rfl, rfl, rfl, trivial⟩ ?_
        exact ih _ _ _ (by assumption) (by first | omega | (rw [yinc (by omega)]; omega)) (by first | omega | (rw [yinc (by omega)]; omega)) (by first | omega | (rw [yinc (by omega)]; omega))
      · refine y_iconst rfl ?_
        refine y_ireturn rfl rfl rfl ?_
        exact hQ0
theorem e_r_isWhole2 (hS0 : ySh n tg R) (hR0 : yRI K nb tg I R) (hn : nb ≤ n) (hQ0 : ∀ n1 tg1 I1 R1, yX n tg I R n1 tg1 I1 R1 → Q (.inl (some (.int (Int32.ofInt 0)))) (n1, tg1, I1, R1) c s) (hx : ∀ (x1 : Int32) n1 tg1 I1 R1, yX n tg I R n1 tg1 I1 R1 → yW xm_X14_isWhole xc_X14_isWhole_141 [some (.ref 83), some (.int x1), none, none, none, none, none, none] [] (n1, tg1, I1, R1) c s Q) : ∀ (m : Nat) (z : Int) (it : Nat) (x1 : Int32) (n1 : Nat) (tg1 : Nat → yT) (I1 : Nat → Nat → Int32) (R1 : Nat → Nat → Value), yX n tg I R n1 tg1 I1 R1 → n ≤ it → yIt nb n1 tg1 I1 R1 it 91 z → (I 91 2).toInt - z < m → yW xm_X14_isWhole xc_X14_isWhole_63 [some (.ref 83), some (.int x1), some (.ref it), none, none, none, none, none] [] (n1, tg1, I1, R1) c s Q := by
  intro m
  induction m with
  | zero =>
    intro z it x1 n1 tg1 I1 R1 hX hit hI_it hm
    have hz := hX.sz hS0.1
    have h7 := hI_it.2.2.2.2.2.2.1
    exfalso; omega
  | succ m ih =>
    intro z it x1 n1 tg1 I1 R1 hX hit hI_it hm
    have hS := hS0.x hX
    have hR := hR0.x hn hX
    have h94 : 94 ≤ n := hS0.1
    have hz := hX.sz h94
    have hxn := hX.1
    have hN := hR0.1
    have hnb : 94 ≤ nb := hR0.2.2.2.2.2.2
    refine y_aload_n rfl rfl ?_
    refine y_intf rfl rfl rfl rfl rfl hI_it.2.2.1 hI_it.2.1 ?_
    refine i_hasNext hI_it (fun h_1 => ?_) (fun h_2 => ?_)
    · refine y_ret1 ?_
      refine y_if_eqF rfl (by decide) ?_
      refine y_aload_n rfl rfl ?_
      refine y_intf rfl rfl rfl rfl rfl hI_it.2.2.1 hI_it.2.1 ?_
      have hz0 := hI_it.2.2.2.2.2.1
      refine i_next (nb := nb) (Nat.le_trans (by decide) (by have := hI_it.1; omega : 94 ≤ _)) (Nat.le_trans hn hX.1) hI_it hR.l91 (by omega) h_1 (fun b3 I3 eb_b3 hlo_b3 hb0_b3 ht_b3 hI1 hIe => ?_)
      have hb_b3 := Nat.lt_of_lt_of_le hb0_b3 hn
      replace ht_b3 := (hX.2.1 _ hb_b3).1.symm.trans ht_b3
      have hI_it := hI1
      have hX := hX.upI (by omega) hIe
      have hS := hS0.x hX
      have hR := hR0.x hn hX
      have hz := hX.sz h94
      have hxn := hX.1
      refine y_ret1 ?_
      refine y_cast rfl ((hX.2.1 _ hb_b3).1.trans ht_b3) (Nat.lt_of_lt_of_le hb_b3 hX.1) ?_
      refine y_astore_n (ls' := [some _, some _, some _, some _, _, _, _, _]) rfl rfl rfl ?_
      refine y_aload_n rfl rfl ?_
      refine y_aload_n rfl rfl ?_
      obtain ⟨hR_v4, hb_v4, ht_v4⟩ := hR0.ven hlo_b3 hb0_b3 ht_b3 (j := 2) (by decide)
      have hb0_v4 := hb_v4
      have hb_v4 := Nat.lt_of_lt_of_le hb_v4 hn
      have hlo_v4 : 94 ≤ b3 + 1 + 2 := by omega
      have hR2_v4 := (congrFun (hX.2.1 b3 hb_b3).2.2 2).trans hR_v4
      refine y_getR rfl ((hX.2.1 _ hb_b3).1.trans ht_b3) (Nat.lt_of_lt_of_le hb_b3 hX.1) rfl rfl hR2_v4 ?_
      refine y_virt rfl rfl rfl rfl rfl ((hX.2.1 _ hb_b3).1.trans ht_b3) (Nat.lt_of_lt_of_le hb_b3 hX.1) ?_
      refine r_all ((hX.2.1 _ hb_v4).1.trans ht_v4) (Nat.lt_of_lt_of_le hb_v4 hX.1) (fun v_ => ?_)
      refine y_ret1 ?_
      refine y_bip rfl (by decide) ?_
      refine y_icmp_le rfl j_X14_isWhole_97 (fun h_5 => ?_) (fun h_6 => ?_)
      · rw [yz_100] at h_5
        refine y_aload_n rfl rfl ?_
        obtain ⟨hR_v7, hb_v7, ht_v7⟩ := hR0.ven hlo_b3 hb0_b3 ht_b3 (j := 1) (by decide)
        have hb0_v7 := hb_v7
        have hb_v7 := Nat.lt_of_lt_of_le hb_v7 hn
        have hlo_v7 : 94 ≤ b3 + 1 + 1 := by omega
        have hR2_v7 := (congrFun (hX.2.1 b3 hb_b3).2.2 1).trans hR_v7
        refine y_getR rfl ((hX.2.1 _ hb_b3).1.trans ht_b3) (Nat.lt_of_lt_of_le hb_b3 hX.1) rfl rfl hR2_v7 ?_
        refine y_astore (ls' := [some _, some _, some _, some _, some _, _, _, _]) rfl rfl rfl ?_
        refine y_aload rfl rfl ?_
        refine y_alenI (v := 9) rfl ((hX.2.1 _ hb_v7).1.trans ht_v7) rfl (Nat.lt_of_lt_of_le hb_v7 hX.1) (by decide) ?_
        refine y_istore (ls' := [some _, some _, some _, some _, some _, some _, _, _]) rfl rfl rfl ?_
        refine y_iconst rfl ?_
        refine y_istore (ls' := [some _, some _, some _, some _, some _, some _, some _, _]) rfl rfl rfl ?_
        refine lp_r_isWholeV (Nat.lt_of_lt_of_le hb_v7 hX.1) ((hX.2.1 _ hb_v7).1.trans ht_v7) (fun x_ => ?_) (hQ0 _ _ _ _ hX) 100 _ _ _ (by decide) (by decide) (by decide) (by decide)
        refine y_goto rfl j_X14_isWhole_63 ?_
        exact ih _ _ _ _ _ _ _ hX (by omega) hI_it  (by omega)
      · rw [yz_100] at h_6
        refine y_iconst rfl ?_
        refine y_ireturn rfl rfl rfl ?_
        exact hQ0 _ _ _ _ hX
    · refine y_ret1 ?_
      refine y_if_eqT rfl j_X14_isWhole_141 (by decide) ?_
      refine y_fgt (ls := [some _, some _, none, none, none, none, none, none]) ⟨rfl, rfl, trivial⟩ ?_
      exact hx _ _ _ _ _ hX
theorem e_r_isWhole3 (hS0 : ySh n tg R) (hR0 : yRI K nb tg I R) (hn : nb ≤ n) (hQ0 : ∀ n1 tg1 I1 R1, yX n tg I R n1 tg1 I1 R1 → Q (.inl (some (.int (Int32.ofInt 0)))) (n1, tg1, I1, R1) c s) (hx : ∀ (x1 : Int32) n1 tg1 I1 R1, yX n tg I R n1 tg1 I1 R1 → yW xm_X14_isWhole xc_X14_isWhole_222 [some (.ref 83), some (.int x1), none, none, none, none, none, none] [] (n1, tg1, I1, R1) c s Q) : ∀ (m : Nat) (z : Int) (it : Nat) (x1 : Int32) (n1 : Nat) (tg1 : Nat → yT) (I1 : Nat → Nat → Int32) (R1 : Nat → Nat → Value), yX n tg I R n1 tg1 I1 R1 → n ≤ it → yIt nb n1 tg1 I1 R1 it 90 z → (I 90 2).toInt - z < m → yW xm_X14_isWhole xc_X14_isWhole_149 [some (.ref 83), some (.int x1), some (.ref it), none, none, none, none, none] [] (n1, tg1, I1, R1) c s Q := by
  intro m
  induction m with
  | zero =>
    intro z it x1 n1 tg1 I1 R1 hX hit hI_it hm
    have hz := hX.sz hS0.1
    have h7 := hI_it.2.2.2.2.2.2.1
    exfalso; omega
  | succ m ih =>
    intro z it x1 n1 tg1 I1 R1 hX hit hI_it hm
    have hS := hS0.x hX
    have hR := hR0.x hn hX
    have h94 : 94 ≤ n := hS0.1
    have hz := hX.sz h94
    have hxn := hX.1
    have hN := hR0.1
    have hnb : 94 ≤ nb := hR0.2.2.2.2.2.2
    refine y_aload_n rfl rfl ?_
    refine y_intf rfl rfl rfl rfl rfl hI_it.2.2.1 hI_it.2.1 ?_
    refine i_hasNext hI_it (fun h_1 => ?_) (fun h_2 => ?_)
    · refine y_ret1 ?_
      refine y_if_eqF rfl (by decide) ?_
      refine y_aload_n rfl rfl ?_
      refine y_intf rfl rfl rfl rfl rfl hI_it.2.2.1 hI_it.2.1 ?_
      have hz0 := hI_it.2.2.2.2.2.1
      refine i_next (nb := nb) (Nat.le_trans (by decide) (by have := hI_it.1; omega : 94 ≤ _)) (Nat.le_trans hn hX.1) hI_it hR.l90 (by omega) h_1 (fun b3 I3 eb_b3 hlo_b3 hb0_b3 ht_b3 hI1 hIe => ?_)
      have hb_b3 := Nat.lt_of_lt_of_le hb0_b3 hn
      replace ht_b3 := (hX.2.1 _ hb_b3).1.symm.trans ht_b3
      have hI_it := hI1
      have hX := hX.upI (by omega) hIe
      have hS := hS0.x hX
      have hR := hR0.x hn hX
      have hz := hX.sz h94
      have hxn := hX.1
      have hw_b3 := hR.lea hlo_b3 hb0_b3 ((hX.2.1 _ hb_b3).1.trans ht_b3)
      refine y_ret1 ?_
      refine y_cast rfl ((hX.2.1 _ hb_b3).1.trans ht_b3) (Nat.lt_of_lt_of_le hb_b3 hX.1) ?_
      refine y_astore_n (ls' := [some _, some _, some _, some _, _, _, _, _]) rfl rfl rfl ?_
      refine y_aload_n rfl rfl ?_
      refine y_getI rfl ((hX.2.1 _ hb_b3).1.trans ht_b3) (Nat.lt_of_lt_of_le hb_b3 hX.1) rfl rfl ?_
      refine y_if_ne rfl j_X14_isWhole_219 (fun h_4 => ?_) (fun h_5 => ?_)
      · refine y_goto rfl j_X14_isWhole_149 ?_
        refine y_fgt (ls := [some _, some _, some _, none, none, none, none, none]) ⟨rfl, rfl, rfl, trivial⟩ ?_
        exact ih _ _ _ _ _ _ _ hX (by omega) hI_it  (by omega)
      · refine y_aload_n rfl rfl ?_
        refine y_getR rfl (ySh.t hS rfl) (ySh.n hS rfl) rfl rfl (ySh.r hS rfl) ?_
        refine y_aload_n rfl rfl ?_
        refine y_getI rfl ((hX.2.1 _ hb_b3).1.trans ht_b3) (Nat.lt_of_lt_of_le hb_b3 hX.1) rfl rfl ?_
        refine y_virt rfl rfl rfl rfl rfl (ySh.t hS rfl) (ySh.n hS rfl) ?_
        refine l_get (nb := nb) (ySh.t hS rfl) (ySh.n hS rfl) (Nat.le_trans hn hX.1) hR.l88 (by omega) (by omega) (fun b6 eb_b6 hlo_b6 hb0_b6 ht_b6 => ?_)
        have hb_b6 := Nat.lt_of_lt_of_le hb0_b6 hn
        replace ht_b6 := (hX.2.1 _ hb_b6).1.symm.trans ht_b6
        have hw_b6 := hR.thi hlo_b6 hb0_b6 ((hX.2.1 _ hb_b6).1.trans ht_b6)
        refine y_ret1 ?_
        refine y_cast rfl ((hX.2.1 _ hb_b6).1.trans ht_b6) (Nat.lt_of_lt_of_le hb_b6 hX.1) ?_
        refine y_getI rfl ((hX.2.1 _ hb_b6).1.trans ht_b6) (Nat.lt_of_lt_of_le hb_b6 hX.1) rfl rfl ?_
        refine y_bip rfl (by decide) ?_
        refine y_icmp_ne rfl j_X14_isWhole_217 (fun h_7 => ?_) (fun h_8 => ?_)
        · rw [yz_8] at h_7
          refine y_iconst rfl ?_
          refine y_ireturn rfl rfl rfl ?_
          exact hQ0 _ _ _ _ hX
        · rw [yz_8] at h_8
          refine y_aload_n rfl rfl ?_
          refine y_getR rfl (ySh.t hS rfl) (ySh.n hS rfl) rfl rfl (ySh.r hS rfl) ?_
          refine y_aload_n rfl rfl ?_
          refine y_getI rfl ((hX.2.1 _ hb_b3).1.trans ht_b3) (Nat.lt_of_lt_of_le hb_b3 hX.1) rfl rfl ?_
          refine y_virt rfl rfl rfl rfl rfl (ySh.t hS rfl) (ySh.n hS rfl) ?_
          refine l_get (nb := nb) (ySh.t hS rfl) (ySh.n hS rfl) (Nat.le_trans hn hX.1) hR.l88 (by omega) (by omega) (fun b9 eb_b9 hlo_b9 hb0_b9 ht_b9 => ?_)
          have hb_b9 := Nat.lt_of_lt_of_le hb0_b9 hn
          replace ht_b9 := (hX.2.1 _ hb_b9).1.symm.trans ht_b9
          have hw_b9 := hR.thi hlo_b9 hb0_b9 ((hX.2.1 _ hb_b9).1.trans ht_b9)
          refine y_ret1 ?_
          refine y_cast rfl ((hX.2.1 _ hb_b9).1.trans ht_b9) (Nat.lt_of_lt_of_le hb_b9 hX.1) ?_
          refine y_getI rfl ((hX.2.1 _ hb_b9).1.trans ht_b9) (Nat.lt_of_lt_of_le hb_b9 hX.1) rfl rfl ?_
          refine y_if_eq rfl j_X14_isWhole_219 (fun h_10 => ?_) (fun h_11 => ?_)
          · refine y_goto rfl j_X14_isWhole_149 ?_
            refine y_fgt (ls := [some _, some _, some _, none, none, none, none, none]) ⟨rfl, rfl, rfl, trivial⟩ ?_
            exact ih _ _ _ _ _ _ _ hX (by omega) hI_it  (by omega)
          · refine y_iconst rfl ?_
            refine y_ireturn rfl rfl rfl ?_
            exact hQ0 _ _ _ _ hX
    · refine y_ret1 ?_
      refine y_if_eqT rfl j_X14_isWhole_222 (by decide) ?_
      refine y_fgt (ls := [some _, some _, none, none, none, none, none, none]) ⟨rfl, rfl, trivial⟩ ?_
      exact hx _ _ _ _ _ hX
theorem lp_r_isWhole4 (hS0 : ySh n tg R) (hR0 : yRI K nb tg I R) (hn : nb ≤ n) (hQ0 : Q (.inl (some (.int (Int32.ofInt 0)))) (n, tg, I, R) c s) (hx : ∀ (x1 : Int32), yW xm_X14_isWhole xc_X14_isWhole_258 [some (.ref 83), some (.int x1), none, none, none, none, none, none] [] (n, tg, I, R) c s Q) : ∀ (m : Nat) (x1 : Int32) (x3 : Int32) (x4 : Int32), (x3.toInt = 8) → (0 ≤ x4.toInt) → (x4.toInt ≤ 8) → 8 - x4.toInt < m → yW xm_X14_isWhole xc_X14_isWhole_233 [some (.ref 83), some (.int x1), some (.ref 85), some (.int x3), some (.int x4), none, none, none] [] (n, tg, I, R) c s Q := by
  intro m
  induction m with
  | zero =>
    intro x1 x3 x4 i0 i1 i2 hm
    have hX : yX n tg I R n tg I R := yX.rf
    have hS := hS0
    have hR := hR0
    have h94 : 94 ≤ n := hS0.1
    have hz : ySz I I := hX.sz h94
    have hxn := hX.1
    have hN := hR0.1
    have hnb : 94 ≤ nb := hR0.2.2.2.2.2.2
    exfalso; omega
  | succ m ih =>
    intro x1 x3 x4 i0 i1 i2 hm
    have hX : yX n tg I R n tg I R := yX.rf
    have hS := hS0
    have hR := hR0
    have h94 : 94 ≤ n := hS0.1
    have hz : ySz I I := hX.sz h94
    have hxn := hX.1
    have hN := hR0.1
    have hnb : 94 ≤ nb := hR0.2.2.2.2.2.2
    refine y_iload rfl rfl ?_
    refine y_iload_n rfl rfl ?_
    refine y_icmp_ge rfl j_X14_isWhole_258 (fun h_1 => ?_) (fun h_2 => ?_)
    · refine y_fgt (ls := [some _, some _, none, none, none, none, none, none]) ⟨rfl, rfl, trivial⟩ ?_
      exact hx _
    · refine y_aload_n rfl rfl ?_
      refine y_iload rfl rfl ?_
      refine y_iaload rfl (ySh.t hS rfl) (ySh.n hS rfl) (by omega) (by omega) ?_
      refine y_istore (ls' := [some _, some _, some _, some _, some _, some _, _, _]) rfl rfl rfl ?_
      refine y_iload rfl rfl ?_
      refine y_if_ge rfl j_X14_isWhole_252 (fun h_3 => ?_) (fun h_4 => ?_)
      · refine y_iinc (ls' := [some _, some _, some _, some _, some _, some _, _, _]) rfl rfl rfl rfl ?_
        refine y_goto rfl j_X14_isWhole_233 ?_
        refine y_fgt (ls := [some _, some _, some _, some _, some _, none, none, none]) ⟨rfl, rfl, rfl, rfl, rfl, trivial⟩ ?_
        exact ih _ _ _ (by assumption) (by first | omega | (rw [yinc (by omega)]; omega)) (by first | omega | (rw [yinc (by omega)]; omega)) (by first | omega | (rw [yinc (by omega)]; omega))
      · refine y_iconst rfl ?_
        refine y_ireturn rfl rfl rfl ?_
        exact hQ0
theorem r_isWhole (hS0 : ySh n tg R) (hR0 : yRI K nb tg I R) (hn : nb ≤ n) (hQ1 : ∀ n1 tg1 I1 R1 c1 s1, yX n tg I R n1 tg1 I1 R1 → c1 ≤ c + 3 → s1 ≤ s + 12 → Q (.inl (some (.int (Int32.ofInt 1)))) (n1, tg1, I1, R1) c1 s1) (hQ0 : ∀ n1 tg1 I1 R1 c1 s1, yX n tg I R n1 tg1 I1 R1 → c1 ≤ c + 3 → s1 ≤ s + 12 → Q (.inl (some (.int (Int32.ofInt 0)))) (n1, tg1, I1, R1) c1 s1) : yC 247 [.ref 83] (n, tg, I, R) c s Q := by
  have hX : yX n tg I R n tg I R := yX.rf
  have hS := hS0
  have hR := hR0
  have h94 : 94 ≤ n := hS0.1
  have hz : ySz I I := hX.sz h94
  have hxn := hX.1
  have hN := hR0.1
  have hnb : 94 ≤ nb := hR0.2.2.2.2.2.2
  refine y_in (M := xm_X14_isWhole) (ls := [some _, _, _, _, _, _, _, _]) rfl rfl rfl ?_
  refine y_iconst rfl ?_
  refine y_istore_n (ls' := [some _, some _, _, _, _, _, _, _]) rfl rfl rfl ?_
  refine y_aload_n rfl rfl ?_
  refine y_getR rfl (ySh.t hS rfl) (ySh.n hS rfl) rfl rfl (ySh.r hS rfl) ?_
  refine y_virt rfl rfl rfl rfl rfl (ySh.t hS rfl) (ySh.n hS rfl) ?_
  refine l_iter (nb := nb) (l := 89) hS (ySh.t hS rfl) (ySh.n hS rfl) (by omega) (Nat.le_trans hn hX.1) hR.l89.2.2.2.1 (fun n1 tg1 I1 R1 hnA hX1 hI_it1 => ?_)
  have hX := hX.trans hX1
  have hS := hS0.x hX
  have hR := hR0.x hn hX
  have hz := hX.sz h94
  have hxn := hX.1
  refine y_ret1 ?_
  refine y_astore_n (ls' := [some _, some _, some _, _, _, _, _, _]) rfl rfl rfl ?_
  refine e_r_isWhole1 hS0 hR0 hn (fun n1 tg1 I1 R1 hX2 => hQ0 _ _ _ _ _ _ hX2 (by omega) (by omega)) (fun a3_1 n2 tg2 I2 R2 hX => ?_) 100000 0 _ _ _ _ _ _ hX (by omega) hI_it1 (by omega)
  have hS := hS0.x hX
  have hR := hR0.x hn hX
  have hz := hX.sz h94
  have hxn := hX.1
  refine y_aload_n rfl rfl ?_
  refine y_getR rfl (ySh.t hS rfl) (ySh.n hS rfl) rfl rfl (ySh.r hS rfl) ?_
  refine y_virt rfl rfl rfl rfl rfl (ySh.t hS rfl) (ySh.n hS rfl) ?_
  refine l_iter (nb := nb) (l := 91) hS (ySh.t hS rfl) (ySh.n hS rfl) (by omega) (Nat.le_trans hn hX.1) hR.l91.2.2.2.1 (fun n4 tg4 I4 R4 hnA hX1 hI_it4 => ?_)
  have hX := hX.trans hX1
  have hS := hS0.x hX
  have hR := hR0.x hn hX
  have hz := hX.sz h94
  have hxn := hX.1
  refine y_ret1 ?_
  refine y_astore_n (ls' := [some _, some _, some _, _, _, _, _, _]) rfl rfl rfl ?_
  refine e_r_isWhole2 hS0 hR0 hn (fun n1 tg1 I1 R1 hX2 => hQ0 _ _ _ _ _ _ hX2 (by omega) (by omega)) (fun a6_1 n5 tg5 I5 R5 hX => ?_) 100000 0 _ _ _ _ _ _ hX (by omega) hI_it4 (by omega)
  have hS := hS0.x hX
  have hR := hR0.x hn hX
  have hz := hX.sz h94
  have hxn := hX.1
  refine y_aload_n rfl rfl ?_
  refine y_getR rfl (ySh.t hS rfl) (ySh.n hS rfl) rfl rfl (ySh.r hS rfl) ?_
  refine y_virt rfl rfl rfl rfl rfl (ySh.t hS rfl) (ySh.n hS rfl) ?_
  refine l_iter (nb := nb) (l := 90) hS (ySh.t hS rfl) (ySh.n hS rfl) (by omega) (Nat.le_trans hn hX.1) hR.l90.2.2.2.1 (fun n7 tg7 I7 R7 hnA hX1 hI_it7 => ?_)
  have hX := hX.trans hX1
  have hS := hS0.x hX
  have hR := hR0.x hn hX
  have hz := hX.sz h94
  have hxn := hX.1
  refine y_ret1 ?_
  refine y_astore_n (ls' := [some _, some _, some _, _, _, _, _, _]) rfl rfl rfl ?_
  refine e_r_isWhole3 hS0 hR0 hn (fun n1 tg1 I1 R1 hX2 => hQ0 _ _ _ _ _ _ hX2 (by omega) (by omega)) (fun a9_1 n8 tg8 I8 R8 hX => ?_) 100000 0 _ _ _ _ _ _ hX (by omega) hI_it7 (by omega)
  have hS := hS0.x hX
  have hR := hR0.x hn hX
  have hz := hX.sz h94
  have hxn := hX.1
  refine y_aload_n rfl rfl ?_
  refine y_getR rfl (ySh.t hS rfl) (ySh.n hS rfl) rfl rfl (ySh.r hS rfl) ?_
  refine y_astore_n (ls' := [some _, some _, some _, _, _, _, _, _]) rfl rfl rfl ?_
  refine y_aload_n rfl rfl ?_
  refine y_alenI (v := 8) rfl (ySh.t hS rfl) rfl (ySh.n hS rfl) (by decide) ?_
  refine y_istore_n (ls' := [some _, some _, some _, some _, _, _, _, _]) rfl rfl rfl ?_
  refine y_iconst rfl ?_
  refine y_istore (ls' := [some _, some _, some _, some _, some _, _, _, _]) rfl rfl rfl ?_
  refine lp_r_isWhole4 hS hR (Nat.le_trans hn hX.1) (hQ0 _ _ _ _ _ _ hX (by omega) (by omega)) (fun u10_0 => ?_) 100000 _ _ _ (by decide) (by decide) (by decide) (by decide)
  refine y_aload_n rfl rfl ?_
  refine y_getI rfl (ySh.t hS rfl) (ySh.n hS rfl) rfl rfl ?_
  refine y_if_lt rfl j_X14_isWhole_277 (fun h_11 => ?_) (fun h_12 => ?_)
  · refine y_iconst rfl ?_
    refine y_ireturn rfl rfl rfl ?_
    exact hQ0 _ _ _ _ _ _ hX (by omega) (by omega)
  · refine y_iload_n rfl rfl ?_
    refine y_aload_n rfl rfl ?_
    refine y_getI rfl (ySh.t hS rfl) (ySh.n hS rfl) rfl rfl ?_
    refine y_icmp_gt rfl j_X14_isWhole_277 (fun h_13 => ?_) (fun h_14 => ?_)
    · refine y_iconst rfl ?_
      refine y_ireturn rfl rfl rfl ?_
      exact hQ0 _ _ _ _ _ _ hX (by omega) (by omega)
    · refine y_iconst rfl ?_
      refine y_goto rfl j_X14_isWhole_278 ?_
      refine y_ireturn rfl rfl rfl ?_
      exact hQ1 _ _ _ _ _ _ hX (by omega) (by omega)
theorem lp_r_shared1 (hS0 : ySh n tg R) (hR0 : yRI K nb tg I R) (hn : nb ≤ n) {x1 x2 x3 x5 x6 x7 : Int32} {md : Nat} (hx : ∀ (x8 : Int64), yW xm_X14_shared xc_X14_shared_114 [some (.ref 83), some (.int x1), some (.int x2), some (.int x3), some (.ref md), some (.int x5), some (.int x6), some (.int x7), some (.long x8), none, none, none, none, none] [] (n, tg, I, R) c s Q) : ∀ (m : Nat) (x8 : Int64) (x11 : Int32) (x12 : Int32), (x11.toInt = 8) → (0 ≤ x12.toInt) → (x12.toInt ≤ 8) → 8 - x12.toInt < m → yW xm_X14_shared xc_X14_shared_86 [some (.ref 83), some (.int x1), some (.int x2), some (.int x3), some (.ref md), some (.int x5), some (.int x6), some (.int x7), some (.long x8), none, some (.ref 86), some (.int x11), some (.int x12), none] [] (n, tg, I, R) c s Q := by
  intro m
  induction m with
  | zero =>
    intro x8 x11 x12 i0 i1 i2 hm
    have hX : yX n tg I R n tg I R := yX.rf
    have hS := hS0
    have hR := hR0
    have h94 : 94 ≤ n := hS0.1
    have hz : ySz I I := hX.sz h94
    have hxn := hX.1
    have hN := hR0.1
    have hnb : 94 ≤ nb := hR0.2.2.2.2.2.2
    exfalso; omega
  | succ m ih =>
    intro x8 x11 x12 i0 i1 i2 hm
    have hX : yX n tg I R n tg I R := yX.rf
    have hS := hS0
    have hR := hR0
    have h94 : 94 ≤ n := hS0.1
    have hz : ySz I I := hX.sz h94
    have hxn := hX.1
    have hN := hR0.1
    have hnb : 94 ≤ nb := hR0.2.2.2.2.2.2
    refine y_iload rfl rfl ?_
    refine y_iload rfl rfl ?_
    refine y_icmp_ge rfl j_X14_shared_114 (fun h_1 => ?_) (fun h_2 => ?_)
    · refine y_fgt (ls := [some _, some _, some _, some _, some _, some _, some _, some _, some _, none, none, none, none, none]) ⟨rfl, rfl, rfl, rfl, rfl, rfl, rfl, rfl, rfl, trivial⟩ ?_
      exact hx _
    · refine y_aload rfl rfl ?_
      refine y_iload rfl rfl ?_
      refine y_iaload rfl (ySh.t hS rfl) (ySh.n hS rfl) (by omega) (by omega) ?_
      refine y_istore (ls' := [some _, some _, some _, some _, some _, some _, some _, some _, some _, _, some _, some _, some _, some _]) rfl rfl rfl ?_
      refine y_lload rfl rfl ?_
      refine y_iload rfl rfl ?_
      refine y_i2l rfl ?_
      refine y_ladd rfl ?_
      refine y_lstore (ls' := [some _, some _, some _, some _, some _, some _, some _, some _, some _, _, some _, some _, some _, some _]) rfl rfl rfl ?_
      refine y_iinc (ls' := [some _, some _, some _, some _, some _, some _, some _, some _, some _, _, some _, some _, some _, some _]) rfl rfl rfl rfl ?_
      refine y_goto rfl j_X14_shared_86 ?_
      refine y_fgt (ls := [some _, some _, some _, some _, some _, some _, some _, some _, some _, none, some _, some _, some _, none]) ⟨rfl, rfl, rfl, rfl, rfl, rfl, rfl, rfl, rfl, rfl, rfl, rfl, trivial⟩ ?_
      exact ih _ _ _ (by assumption) (by first | omega | (rw [yinc (by omega)]; omega)) (by first | omega | (rw [yinc (by omega)]; omega)) (by first | omega | (rw [yinc (by omega)]; omega))
theorem lx_r_shared2 (hS0 : ySh n tg R) (hR0 : yRI K nb tg I R) (hn : nb ≤ n) {x1 x2 x3 x5 x6 x7 : Int32} {x8 : Int64} {md : Nat} (hfr : n ≤ md) (hQ : ∀ n1 tg1 I1 R1, yX n tg I R n1 tg1 I1 R1 → md < n1 → tg1 md = (0, 11) → Q (.inl (some (.ref md))) (n1, tg1, I1, R1) c s) : ∀ (m : Nat) (x10 : Int32) (x11 : Int32) (n1 : Nat) (tg1 : Nat → yT) (I1 : Nat → Nat → Int32) (R1 : Nat → Nat → Value), yX n tg I R n1 tg1 I1 R1 → tg1 md = (0, 11) → md < n1 → (0 ≤ x11.toInt) → (x11.toInt ≤ (I 83 8).toInt) → (I 83 8).toInt - x11.toInt < m → yW xm_X14_shared xc_X14_shared_121 [some (.ref 83), some (.int x1), some (.int x2), some (.int x3), some (.ref md), some (.int x5), some (.int x6), some (.int x7), some (.long x8), none, some (.int x10), some (.int x11), none, none] [] (n1, tg1, I1, R1) c s Q := by
  intro m
  induction m with
  | zero =>
    intro x10 x11 n1 tg1 I1 R1 hX ht_pa ha_pa i0 i1 hm
    have hN := hR0.1
    exfalso; omega
  | succ m ih =>
    intro x10 x11 n1 tg1 I1 R1 hX ht_pa ha_pa i0 i1 hm
    have hS := hS0.x hX
    have hR := hR0.x hn hX
    have h94 : 94 ≤ n := hS0.1
    have hz := hX.sz h94
    have hxn := hX.1
    have hN := hR0.1
    have hnb : 94 ≤ nb := hR0.2.2.2.2.2.2
    refine y_iload rfl rfl ?_
    refine y_aload_n rfl rfl ?_
    refine y_getI rfl (ySh.t hS rfl) (ySh.n hS rfl) rfl rfl ?_
    refine y_icmp_ge rfl j_X14_shared_187 (fun h_1 => ?_) (fun h_2 => ?_)
    · refine y_aload rfl rfl ?_
      refine y_bip rfl (by decide) ?_
      refine y_iload rfl rfl ?_
      refine y_iastoreC (j := 8) rfl ht_pa ha_pa (Nat.le_trans (by decide) (by omega : 94 ≤ _)) (by decide) (by decide) rfl ?_
      refine y_nameI (fun I3 e3 => ?_)
      have hX := hX.upI (by omega) (upI e3)
      have hS := hS0.x hX
      have hR := hR0.x hn hX
      have hz := hX.sz h94
      have hxn := hX.1
      refine y_aload rfl rfl ?_
      refine y_bip rfl (by decide) ?_
      refine y_iload rfl rfl ?_
      refine y_iastoreC (j := 9) rfl ht_pa ha_pa (Nat.le_trans (by decide) (by omega : 94 ≤ _)) (by decide) (by decide) rfl ?_
      refine y_nameI (fun I4 e4 => ?_)
      have hX := hX.upI (by omega) (upI e4)
      have hS := hS0.x hX
      have hR := hR0.x hn hX
      have hz := hX.sz h94
      have hxn := hX.1
      refine y_aload rfl rfl ?_
      refine y_bip rfl (by decide) ?_
      refine y_iload rfl rfl ?_
      refine y_iastoreC (j := 10) rfl ht_pa ha_pa (Nat.le_trans (by decide) (by omega : 94 ≤ _)) (by decide) (by decide) rfl ?_
      refine y_nameI (fun I5 e5 => ?_)
      have hX := hX.upI (by omega) (upI e5)
      have hS := hS0.x hX
      have hR := hR0.x hn hX
      have hz := hX.sz h94
      have hxn := hX.1
      refine y_aload rfl rfl ?_
      refine y_areturn rfl ?_
      exact hQ _ _ _ _ hX ha_pa ht_pa
    · refine y_lload rfl rfl ?_
      refine y_lconst rfl ?_
      refine y_lcmp rfl ?_
      refine y_if_le rfl j_X14_shared_187 (fun h_6 => ?_) (fun h_7 => ?_)
      · refine y_aload rfl rfl ?_
        refine y_bip rfl (by decide) ?_
        refine y_iload rfl rfl ?_
        refine y_iastoreC (j := 8) rfl ht_pa ha_pa (Nat.le_trans (by decide) (by omega : 94 ≤ _)) (by decide) (by decide) rfl ?_
        refine y_nameI (fun I8 e8 => ?_)
        have hX := hX.upI (by omega) (upI e8)
        have hS := hS0.x hX
        have hR := hR0.x hn hX
        have hz := hX.sz h94
        have hxn := hX.1
        refine y_aload rfl rfl ?_
        refine y_bip rfl (by decide) ?_
        refine y_iload rfl rfl ?_
        refine y_iastoreC (j := 9) rfl ht_pa ha_pa (Nat.le_trans (by decide) (by omega : 94 ≤ _)) (by decide) (by decide) rfl ?_
        refine y_nameI (fun I9 e9 => ?_)
        have hX := hX.upI (by omega) (upI e9)
        have hS := hS0.x hX
        have hR := hR0.x hn hX
        have hz := hX.sz h94
        have hxn := hX.1
        refine y_aload rfl rfl ?_
        refine y_bip rfl (by decide) ?_
        refine y_iload rfl rfl ?_
        refine y_iastoreC (j := 10) rfl ht_pa ha_pa (Nat.le_trans (by decide) (by omega : 94 ≤ _)) (by decide) (by decide) rfl ?_
        refine y_nameI (fun I10 e10 => ?_)
        have hX := hX.upI (by omega) (upI e10)
        have hS := hS0.x hX
        have hR := hR0.x hn hX
        have hz := hX.sz h94
        have hxn := hX.1
        refine y_aload rfl rfl ?_
        refine y_areturn rfl ?_
        exact hQ _ _ _ _ hX ha_pa ht_pa
      · have hw := ylcmp.1 h_7
        refine y_aload rfl rfl ?_
        refine y_iload rfl rfl ?_
        refine y_ldcI (v := (99999 : Int)) rfl rfl rfl (by decide) ?_
        refine y_aload_n rfl rfl ?_
        refine y_getR rfl (ySh.t hS rfl) (ySh.n hS rfl) rfl rfl (ySh.r hS rfl) ?_
        refine y_iload rfl rfl ?_
        refine y_iaload rfl (ySh.t hS rfl) (ySh.n hS rfl) (by omega) (by omega) ?_
        refine y_isub rfl ?_
        refine y_iload rfl rfl ?_
        refine y_i2l rfl ?_
        refine y_aload_n rfl rfl ?_
        refine y_getR rfl (ySh.t hS rfl) (ySh.n hS rfl) rfl rfl (ySh.r hS rfl) ?_
        refine y_iload rfl rfl ?_
        refine y_iaload rfl (ySh.t hS rfl) (ySh.n hS rfl) (by omega) (by omega) ?_
        refine y_i2l rfl ?_
        refine y_lmul rfl ?_
        refine y_lload rfl rfl ?_
        refine y_ldiv rfl (yne0 hw) ?_
        refine y_l2i rfl ?_
        refine y_min rfl rfl ?_
        refine y_iastore rfl ht_pa ha_pa (Nat.le_trans (by decide) (by omega : 94 ≤ _)) (by omega) (by omega) ?_
        refine y_nameI (fun I11 e11 => ?_)
        have hX := hX.upI (by omega) (upI e11)
        have hS := hS0.x hX
        have hR := hR0.x hn hX
        have hz := hX.sz h94
        have hxn := hX.1
        refine y_iload rfl rfl ?_
        refine y_aload rfl rfl ?_
        refine y_iload rfl rfl ?_
        refine y_iaload rfl ht_pa ha_pa (by omega) (by omega) ?_
        refine y_isub rfl ?_
        refine y_istore (ls' := [some _, some _, some _, some _, some _, some _, some _, some _, some _, _, some _, some _, _, _]) rfl rfl rfl ?_
        refine y_iinc (ls' := [some _, some _, some _, some _, some _, some _, some _, some _, some _, _, some _, some _, _, _]) rfl rfl rfl rfl ?_
        refine y_goto rfl j_X14_shared_121 ?_
        exact ih _ _ _ _ _ _ hX ht_pa ha_pa (by first | omega | (rw [yinc (by omega)]; omega)) (by first | omega | (rw [yinc (by omega)]; omega)) (by first | omega | (rw [yinc (by omega)]; omega))
theorem r_shared (hS0 : ySh n tg R) (hR0 : yRI K nb tg I R) (hn : nb ≤ n) {x1 x2 x3 : Int32} (hQ : ∀ b n1 tg1 I1 R1 c1 s1, yX n tg I R n1 tg1 I1 R1 → n ≤ b → b < n1 → tg1 b = (0, 11) → c1 ≤ c + 3 → s1 ≤ s + 20 → Q (.inl (some (.ref b))) (n1, tg1, I1, R1) c1 s1) : yC 217 [.ref 83, .int x1, .int x2, .int x3] (n, tg, I, R) c s Q := by
  have hX : yX n tg I R n tg I R := yX.rf
  have hS := hS0
  have hR := hR0
  have h94 : 94 ≤ n := hS0.1
  have hz : ySz I I := hX.sz h94
  have hxn := hX.1
  have hN := hR0.1
  have hnb : 94 ≤ nb := hR0.2.2.2.2.2.2
  refine y_in (M := xm_X14_shared) (ls := [some _, some _, some _, some _, _, _, _, _, _, _, _, _, _, _]) rfl rfl rfl ?_
  refine y_bip rfl (by decide) ?_
  refine y_newarrL (m := 11) rfl rfl (by decide) (by decide) rfl (fun n1 tg1 I1 R1 hA => ?_)
  have hnA := hA.1
  have ht_f2 : tg1 n = (0, 11) := hA.2.1
  have ha_f2 : n < n1 := by omega
  have hX := hX.trans (hA.x rfl)
  have hS := hS0.x hX
  have hR := hR0.x hn hX
  have hz := hX.sz h94
  have hxn := hX.1
  refine y_astore (ls' := [some _, some _, some _, some _, some _, _, _, _, _, _, _, _, _, _]) rfl rfl rfl ?_
  refine y_iload_n rfl rfl ?_
  refine y_iload_n rfl rfl ?_
  refine y_imul rfl ?_
  refine y_bip rfl (by decide) ?_
  refine y_idiv rfl (by decide) ?_
  refine y_istore (ls' := [some _, some _, some _, some _, some _, some _, _, _, _, _, _, _, _, _]) rfl rfl rfl ?_
  refine y_iload_n rfl rfl ?_
  refine y_iload rfl rfl ?_
  refine y_isub rfl ?_
  refine y_istore (ls' := [some _, some _, some _, some _, some _, some _, some _, _, _, _, _, _, _, _]) rfl rfl rfl ?_
  refine y_iconst rfl ?_
  refine y_istore (ls' := [some _, some _, some _, some _, some _, some _, some _, some _, _, _, _, _, _, _]) rfl rfl rfl ?_
  refine y_aload_n rfl rfl ?_
  refine y_iconst rfl ?_
  refine y_aload_n rfl rfl ?_
  refine y_getI rfl (ySh.t hS rfl) (ySh.n hS rfl) rfl rfl ?_
  refine y_virt rfl rfl rfl rfl rfl (ySh.t hS rfl) (ySh.n hS rfl) ?_
  refine r_isAllowed hS hR (Nat.le_trans hn hX.1)  (fun n3 tg3 I3 R3 c_3 s_3 hX1 hc_3 hs_3 => ?_) (fun n3 tg3 I3 R3 c_3 s_3 hX1 hc_3 hs_3 => ?_)
  · have hnA := hX1.1
    have ht_f2 := (hX1.2.1 _ ha_f2).1.trans ht_f2
    have ha_f2 : n < n3 := by omega
    have hX := hX.trans hX1
    have hS := hS0.x hX
    have hR := hR0.x hn hX
    have hz := hX.sz h94
    have hxn := hX.1
    refine y_ret1 ?_
    refine y_if_eqF rfl (by decide) ?_
    refine y_iload rfl rfl ?_
    refine y_iload_n rfl rfl ?_
    refine y_icmp_le rfl j_X14_shared_48 (fun h_4 => ?_) (fun h_5 => ?_)
    · refine y_aload_n rfl rfl ?_
      refine y_getI rfl (ySh.t hS rfl) (ySh.n hS rfl) rfl rfl ?_
      refine y_iload_n rfl rfl ?_
      refine y_iload rfl rfl ?_
      refine y_isub rfl ?_
      refine y_min rfl rfl ?_
      refine y_ineg rfl ?_
      refine y_istore (ls' := [some _, some _, some _, some _, some _, some _, some _, some _, _, _, _, _, _, _]) rfl rfl rfl ?_
      refine y_iload rfl rfl ?_
      refine y_iload rfl rfl ?_
      refine y_isub rfl ?_
      refine y_istore (ls' := [some _, some _, some _, some _, some _, some _, some _, some _, _, _, _, _, _, _]) rfl rfl rfl ?_
      refine y_lconst rfl ?_
      refine y_lstore (ls' := [some _, some _, some _, some _, some _, some _, some _, some _, some _, _, _, _, _, _]) rfl rfl rfl ?_
      refine y_aload_n rfl rfl ?_
      refine y_getR rfl (ySh.t hS rfl) (ySh.n hS rfl) rfl rfl (ySh.r hS rfl) ?_
      refine y_astore (ls' := [some _, some _, some _, some _, some _, some _, some _, some _, some _, _, some _, _, _, _]) rfl rfl rfl ?_
      refine y_aload rfl rfl ?_
      refine y_alenI (v := 8) rfl (ySh.t hS rfl) rfl (ySh.n hS rfl) (by decide) ?_
      refine y_istore (ls' := [some _, some _, some _, some _, some _, some _, some _, some _, some _, _, some _, some _, _, _]) rfl rfl rfl ?_
      refine y_iconst rfl ?_
      refine y_istore (ls' := [some _, some _, some _, some _, some _, some _, some _, some _, some _, _, some _, some _, some _, _]) rfl rfl rfl ?_
      refine lp_r_shared1 hS hR (Nat.le_trans hn hX.1) (fun u6_0 => ?_) 100000 _ _ _ (by decide) (by decide) (by decide) (by decide)
      refine y_iload rfl rfl ?_
      refine y_istore (ls' := [some _, some _, some _, some _, some _, some _, some _, some _, some _, _, some _, _, _, _]) rfl rfl rfl ?_
      refine y_iconst rfl ?_
      refine y_istore (ls' := [some _, some _, some _, some _, some _, some _, some _, some _, some _, _, some _, some _, _, _]) rfl rfl rfl ?_
      exact lx_r_shared2 hS0 hR0 hn (by omega) (fun n1 tg1 I1 R1 hX2 h1 h2 => hQ _ _ _ _ _ _ _ hX2 (by omega) h1 h2 (by omega) (by omega)) 100 _ _ _ _ _ _ hX ht_f2 ha_f2 (by decide) (by rw [yz_0]; omega) (by rw [yz_0]; omega)
    · refine y_iload rfl rfl ?_
      refine y_iload_n rfl rfl ?_
      refine y_isub rfl ?_
      refine y_goto rfl j_X14_shared_60 ?_
      refine y_istore (ls' := [some _, some _, some _, some _, some _, some _, some _, some _, _, _, _, _, _, _]) rfl rfl rfl ?_
      refine y_iload rfl rfl ?_
      refine y_iload rfl rfl ?_
      refine y_isub rfl ?_
      refine y_istore (ls' := [some _, some _, some _, some _, some _, some _, some _, some _, _, _, _, _, _, _]) rfl rfl rfl ?_
      refine y_lconst rfl ?_
      refine y_lstore (ls' := [some _, some _, some _, some _, some _, some _, some _, some _, some _, _, _, _, _, _]) rfl rfl rfl ?_
      refine y_aload_n rfl rfl ?_
      refine y_getR rfl (ySh.t hS rfl) (ySh.n hS rfl) rfl rfl (ySh.r hS rfl) ?_
      refine y_astore (ls' := [some _, some _, some _, some _, some _, some _, some _, some _, some _, _, some _, _, _, _]) rfl rfl rfl ?_
      refine y_aload rfl rfl ?_
      refine y_alenI (v := 8) rfl (ySh.t hS rfl) rfl (ySh.n hS rfl) (by decide) ?_
      refine y_istore (ls' := [some _, some _, some _, some _, some _, some _, some _, some _, some _, _, some _, some _, _, _]) rfl rfl rfl ?_
      refine y_iconst rfl ?_
      refine y_istore (ls' := [some _, some _, some _, some _, some _, some _, some _, some _, some _, _, some _, some _, some _, _]) rfl rfl rfl ?_
      refine lp_r_shared1 hS hR (Nat.le_trans hn hX.1) (fun u7_0 => ?_) 100000 _ _ _ (by decide) (by decide) (by decide) (by decide)
      refine y_iload rfl rfl ?_
      refine y_istore (ls' := [some _, some _, some _, some _, some _, some _, some _, some _, some _, _, some _, _, _, _]) rfl rfl rfl ?_
      refine y_iconst rfl ?_
      refine y_istore (ls' := [some _, some _, some _, some _, some _, some _, some _, some _, some _, _, some _, some _, _, _]) rfl rfl rfl ?_
      exact lx_r_shared2 hS0 hR0 hn (by omega) (fun n1 tg1 I1 R1 hX2 h1 h2 => hQ _ _ _ _ _ _ _ hX2 (by omega) h1 h2 (by omega) (by omega)) 100 _ _ _ _ _ _ hX ht_f2 ha_f2 (by decide) (by rw [yz_0]; omega) (by rw [yz_0]; omega)
  · have hnA := hX1.1
    have ht_f2 := (hX1.2.1 _ ha_f2).1.trans ht_f2
    have ha_f2 : n < n3 := by omega
    have hX := hX.trans hX1
    have hS := hS0.x hX
    have hR := hR0.x hn hX
    have hz := hX.sz h94
    have hxn := hX.1
    refine y_ret1 ?_
    refine y_if_eqT rfl j_X14_shared_62 (by decide) ?_
    refine y_iload rfl rfl ?_
    refine y_iload rfl rfl ?_
    refine y_isub rfl ?_
    refine y_istore (ls' := [some _, some _, some _, some _, some _, some _, some _, some _, _, _, _, _, _, _]) rfl rfl rfl ?_
    refine y_lconst rfl ?_
    refine y_lstore (ls' := [some _, some _, some _, some _, some _, some _, some _, some _, some _, _, _, _, _, _]) rfl rfl rfl ?_
    refine y_aload_n rfl rfl ?_
    refine y_getR rfl (ySh.t hS rfl) (ySh.n hS rfl) rfl rfl (ySh.r hS rfl) ?_
    refine y_astore (ls' := [some _, some _, some _, some _, some _, some _, some _, some _, some _, _, some _, _, _, _]) rfl rfl rfl ?_
    refine y_aload rfl rfl ?_
    refine y_alenI (v := 8) rfl (ySh.t hS rfl) rfl (ySh.n hS rfl) (by decide) ?_
    refine y_istore (ls' := [some _, some _, some _, some _, some _, some _, some _, some _, some _, _, some _, some _, _, _]) rfl rfl rfl ?_
    refine y_iconst rfl ?_
    refine y_istore (ls' := [some _, some _, some _, some _, some _, some _, some _, some _, some _, _, some _, some _, some _, _]) rfl rfl rfl ?_
    refine lp_r_shared1 hS hR (Nat.le_trans hn hX.1) (fun u8_0 => ?_) 100000 _ _ _ (by decide) (by decide) (by decide) (by decide)
    refine y_iload rfl rfl ?_
    refine y_istore (ls' := [some _, some _, some _, some _, some _, some _, some _, some _, some _, _, some _, _, _, _]) rfl rfl rfl ?_
    refine y_iconst rfl ?_
    refine y_istore (ls' := [some _, some _, some _, some _, some _, some _, some _, some _, some _, _, some _, some _, _, _]) rfl rfl rfl ?_
    exact lx_r_shared2 hS0 hR0 hn (by omega) (fun n1 tg1 I1 R1 hX2 h1 h2 => hQ _ _ _ _ _ _ _ hX2 (by omega) h1 h2 (by omega) (by omega)) 100 _ _ _ _ _ _ hX ht_f2 ha_f2 (by decide) (by rw [yz_0]; omega) (by rw [yz_0]; omega)
theorem la_r_dig11 (hS0 : ySh n tg R) (hR0 : yRI K nb tg I R) (hn : nb ≤ n) (hx : ∀ (x1 : Int64) n1 tg1 I1 R1 c1 s1, yX n tg I R n1 tg1 I1 R1 → c1 ≤ c + 64 → s1 ≤ s + 448 → yW xm_X14_digest xc_X14_digest_34 [some (.ref 83), some (.long x1), none, none, none, none] [] (n1, tg1, I1, R1) c1 s1 Q) : ∀ (m : Nat) (x1 : Int64) (x3 : Int32) (n1 : Nat) (tg1 : Nat → yT) (I1 : Nat → Nat → Int32) (R1 : Nat → Nat → Value) (c1 s1 : Nat), yX n tg I R n1 tg1 I1 R1 → (0 ≤ x3.toInt) → (x3.toInt ≤ 16) → 16 - x3.toInt < m → (c1 : Int) ≤ c + 4 * (x3.toInt) → (s1 : Int) ≤ s + 28 * (x3.toInt) → yW xm_X14_digest xc_X14_digest_11 [some (.ref 83), some (.long x1), none, some (.int x3), none, none] [] (n1, tg1, I1, R1) c1 s1 Q := by
  intro m
  induction m with
  | zero =>
    intro x1 x3 n1 tg1 I1 R1 c1 s1 hX i0 i1 hm hcc hss
    have hN := hR0.1
    exfalso; omega
  | succ m ih =>
    intro x1 x3 n1 tg1 I1 R1 c1 s1 hX i0 i1 hm hcc hss
    have hS := hS0.x hX
    have hR := hR0.x hn hX
    have h94 : 94 ≤ n := hS0.1
    have hz := hX.sz h94
    have hxn := hX.1
    have hN := hR0.1
    have hnb : 94 ≤ nb := hR0.2.2.2.2.2.2
    refine y_iload_n rfl rfl ?_
    refine y_bip rfl (by decide) ?_
    refine y_icmp_ge rfl j_X14_digest_34 (fun h_1 => ?_) (fun h_2 => ?_)
    · rw [yz_16] at h_1
      refine y_fgt (ls := [some _, some _, none, none, none, none]) ⟨rfl, rfl, trivial⟩ ?_
      exact hx _ _ _ _ _ _ _ hX (by omega) (by omega)
    · rw [yz_16] at h_2
      refine y_lload_n rfl rfl ?_
      refine y_aload_n rfl rfl ?_
      refine y_iload_n rfl rfl ?_
      refine y_virt rfl rfl rfl rfl rfl (ySh.t hS rfl) (ySh.n hS rfl) ?_
      refine r_houseTold hS hR (Nat.le_trans hn hX.1) (by omega) (by omega) (fun v_3_0 n3 tg3 I3 R3 c_3 s_3 hX1 hc_3 hs_3 => ?_)
      have hnA := hX1.1
      have hX := hX.trans hX1
      have hS := hS0.x hX
      have hR := hR0.x hn hX
      have hz := hX.sz h94
      have hxn := hX.1
      refine y_ret1 ?_
      refine y_i2l rfl ?_
      refine y_static rfl rfl rfl rfl rfl ?_
      refine y_in (M := xm_X14_add) (ls := [some _, _, some _, _]) rfl rfl rfl ?_
      refine y_lload_n rfl rfl ?_
      refine y_ldc2 rfl ?_
      refine y_lmul rfl ?_
      refine y_lload_n rfl rfl ?_
      refine y_ladd rfl ?_
      refine y_lreturn rfl ?_
      refine y_ret1 ?_
      refine y_lstore_n (ls' := [some _, some _, _, some _, _, _]) rfl rfl rfl ?_
      refine y_iinc (ls' := [some _, some _, _, some _, _, _]) rfl rfl rfl rfl ?_
      refine y_goto rfl j_X14_digest_11 ?_
      exact ih _ _ _ _ _ _ _ _ hX (by first | omega | (rw [yinc (by omega)]; omega)) (by first | omega | (rw [yinc (by omega)]; omega)) (by first | omega | (rw [yinc (by omega)]; omega)) (by first | omega | (rw [yinc (by omega)]; omega)) (by first | omega | (rw [yinc (by omega)]; omega))
theorem lb_r_dig11 (hS0 : ySh n tg R) (hR0 : yRI K nb tg I R) (hn : nb ≤ n) (hx : ∀ (x1 : Int64) n1 tg1 I1 R1 c1 s1, yX n tg I R n1 tg1 I1 R1 → c1 ≤ c + 64 → s1 ≤ s + 448 → yW xm_X14_digest xc_X14_digest_34 [some (.ref 83), some (.long x1), none, none, none, none] [] (n1, tg1, I1, R1) c1 s1 Q) : ∀ (x1 : Int64) (x3 : Int32), (0 ≤ x3.toInt) → (x3.toInt ≤ 16) → 16 - x3.toInt < (100000 : Nat) → (x3.toInt) = 0 → yW xm_X14_digest xc_X14_digest_11 [some (.ref 83), some (.long x1), none, some (.int x3), none, none] [] (n, tg, I, R) c s Q := by
  intro x1 x3 i0 i1 hm h0
  exact la_r_dig11 hS0 hR0 hn  hx 100000 _ _ _ _ _ _ _ _ yX.rf i0 i1 hm (by rw [h0]; omega) (by rw [h0]; omega)
theorem la_r_dig47 (hS0 : ySh n tg R) (hR0 : yRI K nb tg I R) (hn : nb ≤ n) {x3 : Int32} (h30 : 0 ≤ x3.toInt) (h31 : x3.toInt < (I 83 8).toInt) (hx : ∀ (x1 : Int64) n1 tg1 I1 R1 c1 s1, yX n tg I R n1 tg1 I1 R1 → c1 ≤ c + 40 → s1 ≤ s + 192 → yW xm_X14_digest xc_X14_digest_73 [some (.ref 83), some (.long x1), none, some (.int x3), none, none] [] (n1, tg1, I1, R1) c1 s1 Q) : ∀ (m : Nat) (x1 : Int64) (x4 : Int32) (n1 : Nat) (tg1 : Nat → yT) (I1 : Nat → Nat → Int32) (R1 : Nat → Nat → Value) (c1 s1 : Nat), yX n tg I R n1 tg1 I1 R1 → (0 ≤ x4.toInt) → (x4.toInt ≤ 8) → 8 - x4.toInt < m → (c1 : Int) ≤ c + 5 * (x4.toInt - 0) → (s1 : Int) ≤ s + 24 * (x4.toInt - 0) → yW xm_X14_digest xc_X14_digest_47 [some (.ref 83), some (.long x1), none, some (.int x3), some (.int x4), none] [] (n1, tg1, I1, R1) c1 s1 Q := by
  intro m
  induction m with
  | zero =>
    intro x1 x4 n1 tg1 I1 R1 c1 s1 hX i0 i1 hm hcc hss
    have hN := hR0.1
    exfalso; omega
  | succ m ih =>
    intro x1 x4 n1 tg1 I1 R1 c1 s1 hX i0 i1 hm hcc hss
    have hS := hS0.x hX
    have hR := hR0.x hn hX
    have h94 : 94 ≤ n := hS0.1
    have hz := hX.sz h94
    have hxn := hX.1
    have hN := hR0.1
    have hnb : 94 ≤ nb := hR0.2.2.2.2.2.2
    refine y_iload rfl rfl ?_
    refine y_bip rfl (by decide) ?_
    refine y_icmp_ge rfl j_X14_digest_73 (fun h_1 => ?_) (fun h_2 => ?_)
    · rw [yz_8] at h_1
      refine y_fgt (ls := [some _, some _, none, some _, none, none]) ⟨rfl, rfl, rfl, trivial⟩ ?_
      exact hx _ _ _ _ _ _ _ hX (by omega) (by omega)
    · rw [yz_8] at h_2
      refine y_lload_n rfl rfl ?_
      refine y_aload_n rfl rfl ?_
      refine y_iload_n rfl rfl ?_
      refine y_iload rfl rfl ?_
      refine y_virt rfl rfl rfl rfl rfl (ySh.t hS rfl) (ySh.n hS rfl) ?_
      refine r_personTold hS hR (Nat.le_trans hn hX.1) (by omega) (by omega) (by omega) (by omega) (fun v_3_0 n3 tg3 I3 R3 c_3 s_3 hX1 hc_3 hs_3 => ?_)
      have hnA := hX1.1
      have hX := hX.trans hX1
      have hS := hS0.x hX
      have hR := hR0.x hn hX
      have hz := hX.sz h94
      have hxn := hX.1
      refine y_ret1 ?_
      refine y_i2l rfl ?_
      refine y_static rfl rfl rfl rfl rfl ?_
      refine y_in (M := xm_X14_add) (ls := [some _, _, some _, _]) rfl rfl rfl ?_
      refine y_lload_n rfl rfl ?_
      refine y_ldc2 rfl ?_
      refine y_lmul rfl ?_
      refine y_lload_n rfl rfl ?_
      refine y_ladd rfl ?_
      refine y_lreturn rfl ?_
      refine y_ret1 ?_
      refine y_lstore_n (ls' := [some _, some _, _, some _, some _, _]) rfl rfl rfl ?_
      refine y_iinc (ls' := [some _, some _, _, some _, some _, _]) rfl rfl rfl rfl ?_
      refine y_goto rfl j_X14_digest_47 ?_
      exact ih _ _ _ _ _ _ _ _ hX (by first | omega | (rw [yinc (by omega)]; omega)) (by first | omega | (rw [yinc (by omega)]; omega)) (by first | omega | (rw [yinc (by omega)]; omega)) (by first | omega | (rw [yinc (by omega)]; omega)) (by first | omega | (rw [yinc (by omega)]; omega))
theorem lb_r_dig47 (hS0 : ySh n tg R) (hR0 : yRI K nb tg I R) (hn : nb ≤ n) {x3 : Int32} (h30 : 0 ≤ x3.toInt) (h31 : x3.toInt < (I 83 8).toInt) (hx : ∀ (x1 : Int64) n1 tg1 I1 R1 c1 s1, yX n tg I R n1 tg1 I1 R1 → c1 ≤ c + 40 → s1 ≤ s + 192 → yW xm_X14_digest xc_X14_digest_73 [some (.ref 83), some (.long x1), none, some (.int x3), none, none] [] (n1, tg1, I1, R1) c1 s1 Q) : ∀ (x1 : Int64) (x4 : Int32), (0 ≤ x4.toInt) → (x4.toInt ≤ 8) → 8 - x4.toInt < (100000 : Nat) → (x4.toInt - 0) = 0 → yW xm_X14_digest xc_X14_digest_47 [some (.ref 83), some (.long x1), none, some (.int x3), some (.int x4), none] [] (n, tg, I, R) c s Q := by
  intro x1 x4 i0 i1 hm h0
  exact la_r_dig47 hS0 hR0 hn h30 h31 hx 100000 _ _ _ _ _ _ _ _ yX.rf i0 i1 hm (by rw [h0]; omega) (by rw [h0]; omega)
theorem la_r_dig36 (hS0 : ySh n tg R) (hR0 : yRI K nb tg I R) (hn : nb ≤ n) (hx : ∀ (x1 : Int64) n1 tg1 I1 R1 c1 s1, yX n tg I R n1 tg1 I1 R1 → c1 ≤ c + 320 → s1 ≤ s + 1536 → yW xm_X14_digest xc_X14_digest_79 [some (.ref 83), some (.long x1), none, none, none, none] [] (n1, tg1, I1, R1) c1 s1 Q) : ∀ (m : Nat) (x1 : Int64) (x3 : Int32) (n1 : Nat) (tg1 : Nat → yT) (I1 : Nat → Nat → Int32) (R1 : Nat → Nat → Value) (c1 s1 : Nat), yX n tg I R n1 tg1 I1 R1 → (0 ≤ x3.toInt) → (x3.toInt ≤ (I 83 8).toInt) → (I 83 8).toInt - x3.toInt < m → (c1 : Int) ≤ c + 40 * (x3.toInt) → (s1 : Int) ≤ s + 192 * (x3.toInt) → yW xm_X14_digest xc_X14_digest_36 [some (.ref 83), some (.long x1), none, some (.int x3), none, none] [] (n1, tg1, I1, R1) c1 s1 Q := by
  intro m
  induction m with
  | zero =>
    intro x1 x3 n1 tg1 I1 R1 c1 s1 hX i0 i1 hm hcc hss
    have hN := hR0.1
    exfalso; omega
  | succ m ih =>
    intro x1 x3 n1 tg1 I1 R1 c1 s1 hX i0 i1 hm hcc hss
    have hS := hS0.x hX
    have hR := hR0.x hn hX
    have h94 : 94 ≤ n := hS0.1
    have hz := hX.sz h94
    have hxn := hX.1
    have hN := hR0.1
    have hnb : 94 ≤ nb := hR0.2.2.2.2.2.2
    refine y_iload_n rfl rfl ?_
    refine y_aload_n rfl rfl ?_
    refine y_getI rfl (ySh.t hS rfl) (ySh.n hS rfl) rfl rfl ?_
    refine y_icmp_ge rfl j_X14_digest_79 (fun h_1 => ?_) (fun h_2 => ?_)
    · refine y_fgt (ls := [some _, some _, none, none, none, none]) ⟨rfl, rfl, trivial⟩ ?_
      exact hx _ _ _ _ _ _ _ hX (by omega) (by omega)
    · refine y_iconst rfl ?_
      refine y_istore (ls' := [some _, some _, _, some _, some _, _]) rfl rfl rfl ?_
      refine lb_r_dig47 hS hR (Nat.le_trans hn hX.1) (by omega) (by omega) (fun u3_0 n3 tg3 I3 R3 c_3 s_3 hX1 hc_3 hs_3 => ?_) _ _ (by decide) (by decide) (by decide) (by decide)
      have hnA := hX1.1
      have hX := hX.trans hX1
      have hS := hS0.x hX
      have hR := hR0.x hn hX
      have hz := hX.sz h94
      have hxn := hX.1
      refine y_iinc (ls' := [some _, some _, _, some _, _, _]) rfl rfl rfl rfl ?_
      refine y_goto rfl j_X14_digest_36 ?_
      exact ih _ _ _ _ _ _ _ _ hX (by first | omega | (rw [yinc (by omega)]; omega)) (by first | omega | (rw [yinc (by omega)]; omega)) (by first | omega | (rw [yinc (by omega)]; omega)) (by first | omega | (rw [yinc (by omega)]; omega)) (by first | omega | (rw [yinc (by omega)]; omega))
theorem lb_r_dig36 (hS0 : ySh n tg R) (hR0 : yRI K nb tg I R) (hn : nb ≤ n) (hx : ∀ (x1 : Int64) n1 tg1 I1 R1 c1 s1, yX n tg I R n1 tg1 I1 R1 → c1 ≤ c + 320 → s1 ≤ s + 1536 → yW xm_X14_digest xc_X14_digest_79 [some (.ref 83), some (.long x1), none, none, none, none] [] (n1, tg1, I1, R1) c1 s1 Q) : ∀ (x1 : Int64) (x3 : Int32), (0 ≤ x3.toInt) → (x3.toInt ≤ (I 83 8).toInt) → (I 83 8).toInt - x3.toInt < (100000 : Nat) → (x3.toInt) = 0 → yW xm_X14_digest xc_X14_digest_36 [some (.ref 83), some (.long x1), none, some (.int x3), none, none] [] (n, tg, I, R) c s Q := by
  intro x1 x3 i0 i1 hm h0
  exact la_r_dig36 hS0 hR0 hn  hx 100000 _ _ _ _ _ _ _ _ yX.rf i0 i1 hm (by rw [h0]; omega) (by rw [h0]; omega)
theorem la_r_dig95 (hS0 : ySh n tg R) (hR0 : yRI K nb tg I R) (hn : nb ≤ n) {x3 : Int32} (h30 : 0 ≤ x3.toInt) (h31 : x3.toInt < (I 88 2).toInt) (hx : ∀ (x1 : Int64) n1 tg1 I1 R1 c1 s1, yX n tg I R n1 tg1 I1 R1 → c1 ≤ c + 6 → s1 ≤ s + 42 → yW xm_X14_digest xc_X14_digest_121 [some (.ref 83), some (.long x1), none, some (.int x3), none, none] [] (n1, tg1, I1, R1) c1 s1 Q) : ∀ (m : Nat) (x1 : Int64) (x4 : Int32) (n1 : Nat) (tg1 : Nat → yT) (I1 : Nat → Nat → Int32) (R1 : Nat → Nat → Value) (c1 s1 : Nat), yX n tg I R n1 tg1 I1 R1 → (1 ≤ x4.toInt) → (x4.toInt ≤ 7) → 7 - x4.toInt < m → (c1 : Int) ≤ c + 1 * (x4.toInt - 1) → (s1 : Int) ≤ s + 7 * (x4.toInt - 1) → yW xm_X14_digest xc_X14_digest_95 [some (.ref 83), some (.long x1), none, some (.int x3), some (.int x4), none] [] (n1, tg1, I1, R1) c1 s1 Q := by
  intro m
  induction m with
  | zero =>
    intro x1 x4 n1 tg1 I1 R1 c1 s1 hX i0 i1 hm hcc hss
    have hN := hR0.1
    exfalso; omega
  | succ m ih =>
    intro x1 x4 n1 tg1 I1 R1 c1 s1 hX i0 i1 hm hcc hss
    have hS := hS0.x hX
    have hR := hR0.x hn hX
    have h94 : 94 ≤ n := hS0.1
    have hz := hX.sz h94
    have hxn := hX.1
    have hN := hR0.1
    have hnb : 94 ≤ nb := hR0.2.2.2.2.2.2
    refine y_iload rfl rfl ?_
    refine y_bip rfl (by decide) ?_
    refine y_icmp_ge rfl j_X14_digest_121 (fun h_1 => ?_) (fun h_2 => ?_)
    · rw [yz_7] at h_1
      refine y_fgt (ls := [some _, some _, none, some _, none, none]) ⟨rfl, rfl, rfl, trivial⟩ ?_
      exact hx _ _ _ _ _ _ _ hX (by omega) (by omega)
    · rw [yz_7] at h_2
      refine y_lload_n rfl rfl ?_
      refine y_aload_n rfl rfl ?_
      refine y_iload_n rfl rfl ?_
      refine y_iload rfl rfl ?_
      refine y_virt rfl rfl rfl rfl rfl (ySh.t hS rfl) (ySh.n hS rfl) ?_
      refine r_thingTold hS hR (Nat.le_trans hn hX.1) (by omega) (by omega) (by omega) (by omega) (fun v_3_0 n3 tg3 I3 R3 c_3 s_3 hX1 hc_3 hs_3 => ?_)
      have hnA := hX1.1
      have hX := hX.trans hX1
      have hS := hS0.x hX
      have hR := hR0.x hn hX
      have hz := hX.sz h94
      have hxn := hX.1
      refine y_ret1 ?_
      refine y_i2l rfl ?_
      refine y_static rfl rfl rfl rfl rfl ?_
      refine y_in (M := xm_X14_add) (ls := [some _, _, some _, _]) rfl rfl rfl ?_
      refine y_lload_n rfl rfl ?_
      refine y_ldc2 rfl ?_
      refine y_lmul rfl ?_
      refine y_lload_n rfl rfl ?_
      refine y_ladd rfl ?_
      refine y_lreturn rfl ?_
      refine y_ret1 ?_
      refine y_lstore_n (ls' := [some _, some _, _, some _, some _, _]) rfl rfl rfl ?_
      refine y_iinc (ls' := [some _, some _, _, some _, some _, _]) rfl rfl rfl rfl ?_
      refine y_goto rfl j_X14_digest_95 ?_
      exact ih _ _ _ _ _ _ _ _ hX (by first | omega | (rw [yinc (by omega)]; omega)) (by first | omega | (rw [yinc (by omega)]; omega)) (by first | omega | (rw [yinc (by omega)]; omega)) (by first | omega | (rw [yinc (by omega)]; omega)) (by first | omega | (rw [yinc (by omega)]; omega))
theorem lb_r_dig95 (hS0 : ySh n tg R) (hR0 : yRI K nb tg I R) (hn : nb ≤ n) {x3 : Int32} (h30 : 0 ≤ x3.toInt) (h31 : x3.toInt < (I 88 2).toInt) (hx : ∀ (x1 : Int64) n1 tg1 I1 R1 c1 s1, yX n tg I R n1 tg1 I1 R1 → c1 ≤ c + 6 → s1 ≤ s + 42 → yW xm_X14_digest xc_X14_digest_121 [some (.ref 83), some (.long x1), none, some (.int x3), none, none] [] (n1, tg1, I1, R1) c1 s1 Q) : ∀ (x1 : Int64) (x4 : Int32), (1 ≤ x4.toInt) → (x4.toInt ≤ 7) → 7 - x4.toInt < (100000 : Nat) → (x4.toInt - 1) = 0 → yW xm_X14_digest xc_X14_digest_95 [some (.ref 83), some (.long x1), none, some (.int x3), some (.int x4), none] [] (n, tg, I, R) c s Q := by
  intro x1 x4 i0 i1 hm h0
  exact la_r_dig95 hS0 hR0 hn h30 h31 hx 100000 _ _ _ _ _ _ _ _ yX.rf i0 i1 hm (by rw [h0]; omega) (by rw [h0]; omega)
theorem la_r_dig81 (hS0 : ySh n tg R) (hR0 : yRI K nb tg I R) (hn : nb ≤ n) (hx : ∀ (x1 : Int64) n1 tg1 I1 R1 c1 s1, yX n tg I R n1 tg1 I1 R1 → c1 ≤ c + 96 → s1 ≤ s + 672 → yW xm_X14_digest xc_X14_digest_127 [some (.ref 83), some (.long x1), none, none, none, none] [] (n1, tg1, I1, R1) c1 s1 Q) : ∀ (m : Nat) (x1 : Int64) (x3 : Int32) (n1 : Nat) (tg1 : Nat → yT) (I1 : Nat → Nat → Int32) (R1 : Nat → Nat → Value) (c1 s1 : Nat), yX n tg I R n1 tg1 I1 R1 → (0 ≤ x3.toInt) → (x3.toInt ≤ (I 88 2).toInt) → (I 88 2).toInt - x3.toInt < m → (c1 : Int) ≤ c + 6 * (x3.toInt) → (s1 : Int) ≤ s + 42 * (x3.toInt) → yW xm_X14_digest xc_X14_digest_81 [some (.ref 83), some (.long x1), none, some (.int x3), none, none] [] (n1, tg1, I1, R1) c1 s1 Q := by
  intro m
  induction m with
  | zero =>
    intro x1 x3 n1 tg1 I1 R1 c1 s1 hX i0 i1 hm hcc hss
    have hN := hR0.1
    exfalso; omega
  | succ m ih =>
    intro x1 x3 n1 tg1 I1 R1 c1 s1 hX i0 i1 hm hcc hss
    have hS := hS0.x hX
    have hR := hR0.x hn hX
    have h94 : 94 ≤ n := hS0.1
    have hz := hX.sz h94
    have hxn := hX.1
    have hN := hR0.1
    have hnb : 94 ≤ nb := hR0.2.2.2.2.2.2
    refine y_iload_n rfl rfl ?_
    refine y_aload_n rfl rfl ?_
    refine y_getR rfl (ySh.t hS rfl) (ySh.n hS rfl) rfl rfl (ySh.r hS rfl) ?_
    refine y_virt rfl rfl rfl rfl rfl (ySh.t hS rfl) (ySh.n hS rfl) ?_
    refine y_in (M := xm_Jx4a65c_size_8abf5) (ls := [some _]) rfl rfl rfl ?_
    refine y_aload_n rfl rfl ?_
    refine y_getI rfl (ySh.t hS rfl) (ySh.n hS rfl) rfl rfl ?_
    refine y_ireturn rfl rfl rfl ?_
    refine y_ret1 ?_
    refine y_icmp_ge rfl j_X14_digest_127 (fun h_1 => ?_) (fun h_2 => ?_)
    · refine y_fgt (ls := [some _, some _, none, none, none, none]) ⟨rfl, rfl, trivial⟩ ?_
      exact hx _ _ _ _ _ _ _ hX (by omega) (by omega)
    · refine y_iconst rfl ?_
      refine y_istore (ls' := [some _, some _, _, some _, some _, _]) rfl rfl rfl ?_
      refine lb_r_dig95 hS hR (Nat.le_trans hn hX.1) (by omega) (by omega) (fun u3_0 n3 tg3 I3 R3 c_3 s_3 hX1 hc_3 hs_3 => ?_) _ _ (by decide) (by decide) (by decide) (by decide)
      have hnA := hX1.1
      have hX := hX.trans hX1
      have hS := hS0.x hX
      have hR := hR0.x hn hX
      have hz := hX.sz h94
      have hxn := hX.1
      refine y_iinc (ls' := [some _, some _, _, some _, _, _]) rfl rfl rfl rfl ?_
      refine y_goto rfl j_X14_digest_81 ?_
      exact ih _ _ _ _ _ _ _ _ hX (by first | omega | (rw [yinc (by omega)]; omega)) (by first | omega | (rw [yinc (by omega)]; omega)) (by first | omega | (rw [yinc (by omega)]; omega)) (by first | omega | (rw [yinc (by omega)]; omega)) (by first | omega | (rw [yinc (by omega)]; omega))
theorem lb_r_dig81 (hS0 : ySh n tg R) (hR0 : yRI K nb tg I R) (hn : nb ≤ n) (hx : ∀ (x1 : Int64) n1 tg1 I1 R1 c1 s1, yX n tg I R n1 tg1 I1 R1 → c1 ≤ c + 96 → s1 ≤ s + 672 → yW xm_X14_digest xc_X14_digest_127 [some (.ref 83), some (.long x1), none, none, none, none] [] (n1, tg1, I1, R1) c1 s1 Q) : ∀ (x1 : Int64) (x3 : Int32), (0 ≤ x3.toInt) → (x3.toInt ≤ (I 88 2).toInt) → (I 88 2).toInt - x3.toInt < (100000 : Nat) → (x3.toInt) = 0 → yW xm_X14_digest xc_X14_digest_81 [some (.ref 83), some (.long x1), none, some (.int x3), none, none] [] (n, tg, I, R) c s Q := by
  intro x1 x3 i0 i1 hm h0
  exact la_r_dig81 hS0 hR0 hn  hx 100000 _ _ _ _ _ _ _ _ yX.rf i0 i1 hm (by rw [h0]; omega) (by rw [h0]; omega)
theorem la_r_dig143 (hS0 : ySh n tg R) (hR0 : yRI K nb tg I R) (hn : nb ≤ n) {x3 : Int32} (h30 : 0 ≤ x3.toInt) (h31 : x3.toInt < (I 89 2).toInt) (hx : ∀ (x1 : Int64) n1 tg1 I1 R1 c1 s1, yX n tg I R n1 tg1 I1 R1 → c1 ≤ c + 8 → s1 ≤ s + 80 → yW xm_X14_digest xc_X14_digest_169 [some (.ref 83), some (.long x1), none, some (.int x3), none, none] [] (n1, tg1, I1, R1) c1 s1 Q) : ∀ (m : Nat) (x1 : Int64) (x4 : Int32) (n1 : Nat) (tg1 : Nat → yT) (I1 : Nat → Nat → Int32) (R1 : Nat → Nat → Value) (c1 s1 : Nat), yX n tg I R n1 tg1 I1 R1 → (2 ≤ x4.toInt) → (x4.toInt ≤ 10) → 10 - x4.toInt < m → (c1 : Int) ≤ c + 1 * (x4.toInt - 2) → (s1 : Int) ≤ s + 10 * (x4.toInt - 2) → yW xm_X14_digest xc_X14_digest_143 [some (.ref 83), some (.long x1), none, some (.int x3), some (.int x4), none] [] (n1, tg1, I1, R1) c1 s1 Q := by
  intro m
  induction m with
  | zero =>
    intro x1 x4 n1 tg1 I1 R1 c1 s1 hX i0 i1 hm hcc hss
    have hN := hR0.1
    exfalso; omega
  | succ m ih =>
    intro x1 x4 n1 tg1 I1 R1 c1 s1 hX i0 i1 hm hcc hss
    have hS := hS0.x hX
    have hR := hR0.x hn hX
    have h94 : 94 ≤ n := hS0.1
    have hz := hX.sz h94
    have hxn := hX.1
    have hN := hR0.1
    have hnb : 94 ≤ nb := hR0.2.2.2.2.2.2
    refine y_iload rfl rfl ?_
    refine y_bip rfl (by decide) ?_
    refine y_icmp_ge rfl j_X14_digest_169 (fun h_1 => ?_) (fun h_2 => ?_)
    · rw [yz_10] at h_1
      refine y_fgt (ls := [some _, some _, none, some _, none, none]) ⟨rfl, rfl, rfl, trivial⟩ ?_
      exact hx _ _ _ _ _ _ _ hX (by omega) (by omega)
    · rw [yz_10] at h_2
      refine y_lload_n rfl rfl ?_
      refine y_aload_n rfl rfl ?_
      refine y_iload_n rfl rfl ?_
      refine y_iload rfl rfl ?_
      refine y_virt rfl rfl rfl rfl rfl (ySh.t hS rfl) (ySh.n hS rfl) ?_
      refine r_saleTold hS hR (Nat.le_trans hn hX.1) (by omega) (by omega) (by omega) (by omega) (fun v_3_0 n3 tg3 I3 R3 c_3 s_3 hX1 hc_3 hs_3 => ?_)
      have hnA := hX1.1
      have hX := hX.trans hX1
      have hS := hS0.x hX
      have hR := hR0.x hn hX
      have hz := hX.sz h94
      have hxn := hX.1
      refine y_ret1 ?_
      refine y_i2l rfl ?_
      refine y_static rfl rfl rfl rfl rfl ?_
      refine y_in (M := xm_X14_add) (ls := [some _, _, some _, _]) rfl rfl rfl ?_
      refine y_lload_n rfl rfl ?_
      refine y_ldc2 rfl ?_
      refine y_lmul rfl ?_
      refine y_lload_n rfl rfl ?_
      refine y_ladd rfl ?_
      refine y_lreturn rfl ?_
      refine y_ret1 ?_
      refine y_lstore_n (ls' := [some _, some _, _, some _, some _, _]) rfl rfl rfl ?_
      refine y_iinc (ls' := [some _, some _, _, some _, some _, _]) rfl rfl rfl rfl ?_
      refine y_goto rfl j_X14_digest_143 ?_
      exact ih _ _ _ _ _ _ _ _ hX (by first | omega | (rw [yinc (by omega)]; omega)) (by first | omega | (rw [yinc (by omega)]; omega)) (by first | omega | (rw [yinc (by omega)]; omega)) (by first | omega | (rw [yinc (by omega)]; omega)) (by first | omega | (rw [yinc (by omega)]; omega))
theorem lb_r_dig143 (hS0 : ySh n tg R) (hR0 : yRI K nb tg I R) (hn : nb ≤ n) {x3 : Int32} (h30 : 0 ≤ x3.toInt) (h31 : x3.toInt < (I 89 2).toInt) (hx : ∀ (x1 : Int64) n1 tg1 I1 R1 c1 s1, yX n tg I R n1 tg1 I1 R1 → c1 ≤ c + 8 → s1 ≤ s + 80 → yW xm_X14_digest xc_X14_digest_169 [some (.ref 83), some (.long x1), none, some (.int x3), none, none] [] (n1, tg1, I1, R1) c1 s1 Q) : ∀ (x1 : Int64) (x4 : Int32), (2 ≤ x4.toInt) → (x4.toInt ≤ 10) → 10 - x4.toInt < (100000 : Nat) → (x4.toInt - 2) = 0 → yW xm_X14_digest xc_X14_digest_143 [some (.ref 83), some (.long x1), none, some (.int x3), some (.int x4), none] [] (n, tg, I, R) c s Q := by
  intro x1 x4 i0 i1 hm h0
  exact la_r_dig143 hS0 hR0 hn h30 h31 hx 100000 _ _ _ _ _ _ _ _ yX.rf i0 i1 hm (by rw [h0]; omega) (by rw [h0]; omega)
theorem la_r_dig129 (hS0 : ySh n tg R) (hR0 : yRI K nb tg I R) (hn : nb ≤ n) (hx : ∀ (x1 : Int64) n1 tg1 I1 R1 c1 s1, yX n tg I R n1 tg1 I1 R1 → c1 ≤ c + 96 → s1 ≤ s + 960 → yW xm_X14_digest xc_X14_digest_175 [some (.ref 83), some (.long x1), none, none, none, none] [] (n1, tg1, I1, R1) c1 s1 Q) : ∀ (m : Nat) (x1 : Int64) (x3 : Int32) (n1 : Nat) (tg1 : Nat → yT) (I1 : Nat → Nat → Int32) (R1 : Nat → Nat → Value) (c1 s1 : Nat), yX n tg I R n1 tg1 I1 R1 → (0 ≤ x3.toInt) → (x3.toInt ≤ (I 89 2).toInt) → (I 89 2).toInt - x3.toInt < m → (c1 : Int) ≤ c + 8 * (x3.toInt) → (s1 : Int) ≤ s + 80 * (x3.toInt) → yW xm_X14_digest xc_X14_digest_129 [some (.ref 83), some (.long x1), none, some (.int x3), none, none] [] (n1, tg1, I1, R1) c1 s1 Q := by
  intro m
  induction m with
  | zero =>
    intro x1 x3 n1 tg1 I1 R1 c1 s1 hX i0 i1 hm hcc hss
    have hN := hR0.1
    exfalso; omega
  | succ m ih =>
    intro x1 x3 n1 tg1 I1 R1 c1 s1 hX i0 i1 hm hcc hss
    have hS := hS0.x hX
    have hR := hR0.x hn hX
    have h94 : 94 ≤ n := hS0.1
    have hz := hX.sz h94
    have hxn := hX.1
    have hN := hR0.1
    have hnb : 94 ≤ nb := hR0.2.2.2.2.2.2
    refine y_iload_n rfl rfl ?_
    refine y_aload_n rfl rfl ?_
    refine y_getR rfl (ySh.t hS rfl) (ySh.n hS rfl) rfl rfl (ySh.r hS rfl) ?_
    refine y_virt rfl rfl rfl rfl rfl (ySh.t hS rfl) (ySh.n hS rfl) ?_
    refine y_in (M := xm_Jx4a65c_size_8abf5) (ls := [some _]) rfl rfl rfl ?_
    refine y_aload_n rfl rfl ?_
    refine y_getI rfl (ySh.t hS rfl) (ySh.n hS rfl) rfl rfl ?_
    refine y_ireturn rfl rfl rfl ?_
    refine y_ret1 ?_
    refine y_icmp_ge rfl j_X14_digest_175 (fun h_1 => ?_) (fun h_2 => ?_)
    · refine y_fgt (ls := [some _, some _, none, none, none, none]) ⟨rfl, rfl, trivial⟩ ?_
      exact hx _ _ _ _ _ _ _ hX (by omega) (by omega)
    · refine y_iconst rfl ?_
      refine y_istore (ls' := [some _, some _, _, some _, some _, _]) rfl rfl rfl ?_
      refine lb_r_dig143 hS hR (Nat.le_trans hn hX.1) (by omega) (by omega) (fun u3_0 n3 tg3 I3 R3 c_3 s_3 hX1 hc_3 hs_3 => ?_) _ _ (by decide) (by decide) (by decide) (by decide)
      have hnA := hX1.1
      have hX := hX.trans hX1
      have hS := hS0.x hX
      have hR := hR0.x hn hX
      have hz := hX.sz h94
      have hxn := hX.1
      refine y_iinc (ls' := [some _, some _, _, some _, _, _]) rfl rfl rfl rfl ?_
      refine y_goto rfl j_X14_digest_129 ?_
      exact ih _ _ _ _ _ _ _ _ hX (by first | omega | (rw [yinc (by omega)]; omega)) (by first | omega | (rw [yinc (by omega)]; omega)) (by first | omega | (rw [yinc (by omega)]; omega)) (by first | omega | (rw [yinc (by omega)]; omega)) (by first | omega | (rw [yinc (by omega)]; omega))
theorem lb_r_dig129 (hS0 : ySh n tg R) (hR0 : yRI K nb tg I R) (hn : nb ≤ n) (hx : ∀ (x1 : Int64) n1 tg1 I1 R1 c1 s1, yX n tg I R n1 tg1 I1 R1 → c1 ≤ c + 96 → s1 ≤ s + 960 → yW xm_X14_digest xc_X14_digest_175 [some (.ref 83), some (.long x1), none, none, none, none] [] (n1, tg1, I1, R1) c1 s1 Q) : ∀ (x1 : Int64) (x3 : Int32), (0 ≤ x3.toInt) → (x3.toInt ≤ (I 89 2).toInt) → (I 89 2).toInt - x3.toInt < (100000 : Nat) → (x3.toInt) = 0 → yW xm_X14_digest xc_X14_digest_129 [some (.ref 83), some (.long x1), none, some (.int x3), none, none] [] (n, tg, I, R) c s Q := by
  intro x1 x3 i0 i1 hm h0
  exact la_r_dig129 hS0 hR0 hn  hx 100000 _ _ _ _ _ _ _ _ yX.rf i0 i1 hm (by rw [h0]; omega) (by rw [h0]; omega)
theorem la_r_dig191 (hS0 : ySh n tg R) (hR0 : yRI K nb tg I R) (hn : nb ≤ n) {x3 : Int32} (h30 : 0 ≤ x3.toInt) (h31 : x3.toInt < (I 90 2).toInt) (hx : ∀ (x1 : Int64) n1 tg1 I1 R1 c1 s1, yX n tg I R n1 tg1 I1 R1 → c1 ≤ c + 4 → s1 ≤ s + 24 → yW xm_X14_digest xc_X14_digest_217 [some (.ref 83), some (.long x1), none, some (.int x3), none, none] [] (n1, tg1, I1, R1) c1 s1 Q) : ∀ (m : Nat) (x1 : Int64) (x4 : Int32) (n1 : Nat) (tg1 : Nat → yT) (I1 : Nat → Nat → Int32) (R1 : Nat → Nat → Value) (c1 s1 : Nat), yX n tg I R n1 tg1 I1 R1 → (2 ≤ x4.toInt) → (x4.toInt ≤ 6) → 6 - x4.toInt < m → (c1 : Int) ≤ c + 1 * (x4.toInt - 2) → (s1 : Int) ≤ s + 6 * (x4.toInt - 2) → yW xm_X14_digest xc_X14_digest_191 [some (.ref 83), some (.long x1), none, some (.int x3), some (.int x4), none] [] (n1, tg1, I1, R1) c1 s1 Q := by
  intro m
  induction m with
  | zero =>
    intro x1 x4 n1 tg1 I1 R1 c1 s1 hX i0 i1 hm hcc hss
    have hN := hR0.1
    exfalso; omega
  | succ m ih =>
    intro x1 x4 n1 tg1 I1 R1 c1 s1 hX i0 i1 hm hcc hss
    have hS := hS0.x hX
    have hR := hR0.x hn hX
    have h94 : 94 ≤ n := hS0.1
    have hz := hX.sz h94
    have hxn := hX.1
    have hN := hR0.1
    have hnb : 94 ≤ nb := hR0.2.2.2.2.2.2
    refine y_iload rfl rfl ?_
    refine y_bip rfl (by decide) ?_
    refine y_icmp_ge rfl j_X14_digest_217 (fun h_1 => ?_) (fun h_2 => ?_)
    · rw [yz_6] at h_1
      refine y_fgt (ls := [some _, some _, none, some _, none, none]) ⟨rfl, rfl, rfl, trivial⟩ ?_
      exact hx _ _ _ _ _ _ _ hX (by omega) (by omega)
    · rw [yz_6] at h_2
      refine y_lload_n rfl rfl ?_
      refine y_aload_n rfl rfl ?_
      refine y_iload_n rfl rfl ?_
      refine y_iload rfl rfl ?_
      refine y_virt rfl rfl rfl rfl rfl (ySh.t hS rfl) (ySh.n hS rfl) ?_
      refine r_leaseTold hS hR (Nat.le_trans hn hX.1) (by omega) (by omega) (by omega) (by omega) (fun v_3_0 n3 tg3 I3 R3 c_3 s_3 hX1 hc_3 hs_3 => ?_)
      have hnA := hX1.1
      have hX := hX.trans hX1
      have hS := hS0.x hX
      have hR := hR0.x hn hX
      have hz := hX.sz h94
      have hxn := hX.1
      refine y_ret1 ?_
      refine y_i2l rfl ?_
      refine y_static rfl rfl rfl rfl rfl ?_
      refine y_in (M := xm_X14_add) (ls := [some _, _, some _, _]) rfl rfl rfl ?_
      refine y_lload_n rfl rfl ?_
      refine y_ldc2 rfl ?_
      refine y_lmul rfl ?_
      refine y_lload_n rfl rfl ?_
      refine y_ladd rfl ?_
      refine y_lreturn rfl ?_
      refine y_ret1 ?_
      refine y_lstore_n (ls' := [some _, some _, _, some _, some _, _]) rfl rfl rfl ?_
      refine y_iinc (ls' := [some _, some _, _, some _, some _, _]) rfl rfl rfl rfl ?_
      refine y_goto rfl j_X14_digest_191 ?_
      exact ih _ _ _ _ _ _ _ _ hX (by first | omega | (rw [yinc (by omega)]; omega)) (by first | omega | (rw [yinc (by omega)]; omega)) (by first | omega | (rw [yinc (by omega)]; omega)) (by first | omega | (rw [yinc (by omega)]; omega)) (by first | omega | (rw [yinc (by omega)]; omega))
theorem lb_r_dig191 (hS0 : ySh n tg R) (hR0 : yRI K nb tg I R) (hn : nb ≤ n) {x3 : Int32} (h30 : 0 ≤ x3.toInt) (h31 : x3.toInt < (I 90 2).toInt) (hx : ∀ (x1 : Int64) n1 tg1 I1 R1 c1 s1, yX n tg I R n1 tg1 I1 R1 → c1 ≤ c + 4 → s1 ≤ s + 24 → yW xm_X14_digest xc_X14_digest_217 [some (.ref 83), some (.long x1), none, some (.int x3), none, none] [] (n1, tg1, I1, R1) c1 s1 Q) : ∀ (x1 : Int64) (x4 : Int32), (2 ≤ x4.toInt) → (x4.toInt ≤ 6) → 6 - x4.toInt < (100000 : Nat) → (x4.toInt - 2) = 0 → yW xm_X14_digest xc_X14_digest_191 [some (.ref 83), some (.long x1), none, some (.int x3), some (.int x4), none] [] (n, tg, I, R) c s Q := by
  intro x1 x4 i0 i1 hm h0
  exact la_r_dig191 hS0 hR0 hn h30 h31 hx 100000 _ _ _ _ _ _ _ _ yX.rf i0 i1 hm (by rw [h0]; omega) (by rw [h0]; omega)
theorem la_r_dig177 (hS0 : ySh n tg R) (hR0 : yRI K nb tg I R) (hn : nb ≤ n) (hx : ∀ (x1 : Int64) n1 tg1 I1 R1 c1 s1, yX n tg I R n1 tg1 I1 R1 → c1 ≤ c + 32 → s1 ≤ s + 192 → yW xm_X14_digest xc_X14_digest_223 [some (.ref 83), some (.long x1), none, none, none, none] [] (n1, tg1, I1, R1) c1 s1 Q) : ∀ (m : Nat) (x1 : Int64) (x3 : Int32) (n1 : Nat) (tg1 : Nat → yT) (I1 : Nat → Nat → Int32) (R1 : Nat → Nat → Value) (c1 s1 : Nat), yX n tg I R n1 tg1 I1 R1 → (0 ≤ x3.toInt) → (x3.toInt ≤ (I 90 2).toInt) → (I 90 2).toInt - x3.toInt < m → (c1 : Int) ≤ c + 4 * (x3.toInt) → (s1 : Int) ≤ s + 24 * (x3.toInt) → yW xm_X14_digest xc_X14_digest_177 [some (.ref 83), some (.long x1), none, some (.int x3), none, none] [] (n1, tg1, I1, R1) c1 s1 Q := by
  intro m
  induction m with
  | zero =>
    intro x1 x3 n1 tg1 I1 R1 c1 s1 hX i0 i1 hm hcc hss
    have hN := hR0.1
    exfalso; omega
  | succ m ih =>
    intro x1 x3 n1 tg1 I1 R1 c1 s1 hX i0 i1 hm hcc hss
    have hS := hS0.x hX
    have hR := hR0.x hn hX
    have h94 : 94 ≤ n := hS0.1
    have hz := hX.sz h94
    have hxn := hX.1
    have hN := hR0.1
    have hnb : 94 ≤ nb := hR0.2.2.2.2.2.2
    refine y_iload_n rfl rfl ?_
    refine y_aload_n rfl rfl ?_
    refine y_getR rfl (ySh.t hS rfl) (ySh.n hS rfl) rfl rfl (ySh.r hS rfl) ?_
    refine y_virt rfl rfl rfl rfl rfl (ySh.t hS rfl) (ySh.n hS rfl) ?_
    refine y_in (M := xm_Jx4a65c_size_8abf5) (ls := [some _]) rfl rfl rfl ?_
    refine y_aload_n rfl rfl ?_
    refine y_getI rfl (ySh.t hS rfl) (ySh.n hS rfl) rfl rfl ?_
    refine y_ireturn rfl rfl rfl ?_
    refine y_ret1 ?_
    refine y_icmp_ge rfl j_X14_digest_223 (fun h_1 => ?_) (fun h_2 => ?_)
    · refine y_fgt (ls := [some _, some _, none, none, none, none]) ⟨rfl, rfl, trivial⟩ ?_
      exact hx _ _ _ _ _ _ _ hX (by omega) (by omega)
    · refine y_iconst rfl ?_
      refine y_istore (ls' := [some _, some _, _, some _, some _, _]) rfl rfl rfl ?_
      refine lb_r_dig191 hS hR (Nat.le_trans hn hX.1) (by omega) (by omega) (fun u3_0 n3 tg3 I3 R3 c_3 s_3 hX1 hc_3 hs_3 => ?_) _ _ (by decide) (by decide) (by decide) (by decide)
      have hnA := hX1.1
      have hX := hX.trans hX1
      have hS := hS0.x hX
      have hR := hR0.x hn hX
      have hz := hX.sz h94
      have hxn := hX.1
      refine y_iinc (ls' := [some _, some _, _, some _, _, _]) rfl rfl rfl rfl ?_
      refine y_goto rfl j_X14_digest_177 ?_
      exact ih _ _ _ _ _ _ _ _ hX (by first | omega | (rw [yinc (by omega)]; omega)) (by first | omega | (rw [yinc (by omega)]; omega)) (by first | omega | (rw [yinc (by omega)]; omega)) (by first | omega | (rw [yinc (by omega)]; omega)) (by first | omega | (rw [yinc (by omega)]; omega))
theorem lb_r_dig177 (hS0 : ySh n tg R) (hR0 : yRI K nb tg I R) (hn : nb ≤ n) (hx : ∀ (x1 : Int64) n1 tg1 I1 R1 c1 s1, yX n tg I R n1 tg1 I1 R1 → c1 ≤ c + 32 → s1 ≤ s + 192 → yW xm_X14_digest xc_X14_digest_223 [some (.ref 83), some (.long x1), none, none, none, none] [] (n1, tg1, I1, R1) c1 s1 Q) : ∀ (x1 : Int64) (x3 : Int32), (0 ≤ x3.toInt) → (x3.toInt ≤ (I 90 2).toInt) → (I 90 2).toInt - x3.toInt < (100000 : Nat) → (x3.toInt) = 0 → yW xm_X14_digest xc_X14_digest_177 [some (.ref 83), some (.long x1), none, some (.int x3), none, none] [] (n, tg, I, R) c s Q := by
  intro x1 x3 i0 i1 hm h0
  exact la_r_dig177 hS0 hR0 hn  hx 100000 _ _ _ _ _ _ _ _ yX.rf i0 i1 hm (by rw [h0]; omega) (by rw [h0]; omega)
theorem lp_r_dig251 (hS0 : ySh n tg R) (hR0 : yRI K nb tg I R) (hn : nb ≤ n) {x3 x4 : Int32} (h30 : 0 ≤ x3.toInt) (h31 : x3.toInt < (I 91 2).toInt) (h40 : 0 ≤ x4.toInt) (h41 : x4.toInt < 8) (hx : ∀ (x1 : Int64), yW xm_X14_digest xc_X14_digest_278 [some (.ref 83), some (.long x1), none, some (.int x3), some (.int x4), none] [] (n, tg, I, R) c s Q) : ∀ (m : Nat) (x1 : Int64) (x5 : Int32), (0 ≤ x5.toInt) → (x5.toInt ≤ 3) → 3 - x5.toInt < m → yW xm_X14_digest xc_X14_digest_251 [some (.ref 83), some (.long x1), none, some (.int x3), some (.int x4), some (.int x5)] [] (n, tg, I, R) c s Q := by
  intro m
  induction m with
  | zero =>
    intro x1 x5 i0 i1 hm
    have hX : yX n tg I R n tg I R := yX.rf
    have hS := hS0
    have hR := hR0
    have h94 : 94 ≤ n := hS0.1
    have hz : ySz I I := hX.sz h94
    have hxn := hX.1
    have hN := hR0.1
    have hnb : 94 ≤ nb := hR0.2.2.2.2.2.2
    exfalso; omega
  | succ m ih =>
    intro x1 x5 i0 i1 hm
    have hX : yX n tg I R n tg I R := yX.rf
    have hS := hS0
    have hR := hR0
    have h94 : 94 ≤ n := hS0.1
    have hz : ySz I I := hX.sz h94
    have hxn := hX.1
    have hN := hR0.1
    have hnb : 94 ≤ nb := hR0.2.2.2.2.2.2
    refine y_iload rfl rfl ?_
    refine y_iconst rfl ?_
    refine y_icmp_ge rfl j_X14_digest_278 (fun h_1 => ?_) (fun h_2 => ?_)
    · rw [yz_3] at h_1
      refine y_fgt (ls := [some _, some _, none, some _, some _, none]) ⟨rfl, rfl, rfl, rfl, trivial⟩ ?_
      exact hx _
    · rw [yz_3] at h_2
      refine y_lload_n rfl rfl ?_
      refine y_aload_n rfl rfl ?_
      refine y_iload_n rfl rfl ?_
      refine y_iload rfl rfl ?_
      refine y_iload rfl rfl ?_
      refine y_virt rfl rfl rfl rfl rfl (ySh.t hS rfl) (ySh.n hS rfl) ?_
      refine r_ventureTold hS hR (Nat.le_trans hn hX.1) (by omega) (by omega) (by omega) (by omega) (fun v_3 => ?_)
      refine y_ret1 ?_
      refine y_i2l rfl ?_
      refine y_static rfl rfl rfl rfl rfl ?_
      refine y_in (M := xm_X14_add) (ls := [some _, _, some _, _]) rfl rfl rfl ?_
      refine y_lload_n rfl rfl ?_
      refine y_ldc2 rfl ?_
      refine y_lmul rfl ?_
      refine y_lload_n rfl rfl ?_
      refine y_ladd rfl ?_
      refine y_lreturn rfl ?_
      refine y_ret1 ?_
      refine y_lstore_n (ls' := [some _, some _, _, some _, some _, some _]) rfl rfl rfl ?_
      refine y_iinc (ls' := [some _, some _, _, some _, some _, some _]) rfl rfl rfl rfl ?_
      refine y_goto rfl j_X14_digest_251 ?_
      exact ih _ _ (by first | omega | (rw [yinc (by omega)]; omega)) (by first | omega | (rw [yinc (by omega)]; omega)) (by first | omega | (rw [yinc (by omega)]; omega))
theorem lp_r_dig239 (hS0 : ySh n tg R) (hR0 : yRI K nb tg I R) (hn : nb ≤ n) {x3 : Int32} (h30 : 0 ≤ x3.toInt) (h31 : x3.toInt < (I 91 2).toInt) (hx : ∀ (x1 : Int64), yW xm_X14_digest xc_X14_digest_284 [some (.ref 83), some (.long x1), none, some (.int x3), none, none] [] (n, tg, I, R) c s Q) : ∀ (m : Nat) (x1 : Int64) (x4 : Int32), (0 ≤ x4.toInt) → (x4.toInt ≤ (I 83 8).toInt) → (I 83 8).toInt - x4.toInt < m → yW xm_X14_digest xc_X14_digest_239 [some (.ref 83), some (.long x1), none, some (.int x3), some (.int x4), none] [] (n, tg, I, R) c s Q := by
  intro m
  induction m with
  | zero =>
    intro x1 x4 i0 i1 hm
    have hX : yX n tg I R n tg I R := yX.rf
    have hS := hS0
    have hR := hR0
    have h94 : 94 ≤ n := hS0.1
    have hz : ySz I I := hX.sz h94
    have hxn := hX.1
    have hN := hR0.1
    have hnb : 94 ≤ nb := hR0.2.2.2.2.2.2
    exfalso; omega
  | succ m ih =>
    intro x1 x4 i0 i1 hm
    have hX : yX n tg I R n tg I R := yX.rf
    have hS := hS0
    have hR := hR0
    have h94 : 94 ≤ n := hS0.1
    have hz : ySz I I := hX.sz h94
    have hxn := hX.1
    have hN := hR0.1
    have hnb : 94 ≤ nb := hR0.2.2.2.2.2.2
    refine y_iload rfl rfl ?_
    refine y_aload_n rfl rfl ?_
    refine y_getI rfl (ySh.t hS rfl) (ySh.n hS rfl) rfl rfl ?_
    refine y_icmp_ge rfl j_X14_digest_284 (fun h_1 => ?_) (fun h_2 => ?_)
    · refine y_fgt (ls := [some _, some _, none, some _, none, none]) ⟨rfl, rfl, rfl, trivial⟩ ?_
      exact hx _
    · refine y_iconst rfl ?_
      refine y_istore (ls' := [some _, some _, _, some _, some _, some _]) rfl rfl rfl ?_
      refine lp_r_dig251 hS hR (Nat.le_trans hn hX.1) (by omega) (by omega) (by omega) (by omega) (fun u3_0 => ?_) 100000 _ _ (by decide) (by decide) (by decide)
      refine y_iinc (ls' := [some _, some _, _, some _, some _, _]) rfl rfl rfl rfl ?_
      refine y_goto rfl j_X14_digest_239 ?_
      exact ih _ _ (by first | omega | (rw [yinc (by omega)]; omega)) (by first | omega | (rw [yinc (by omega)]; omega)) (by first | omega | (rw [yinc (by omega)]; omega))
theorem lp_r_dig287 (hS0 : ySh n tg R) (hR0 : yRI K nb tg I R) (hn : nb ≤ n) {x3 : Int32} (h30 : 0 ≤ x3.toInt) (h31 : x3.toInt < (I 91 2).toInt) (hx : ∀ (x1 : Int64), yW xm_X14_digest xc_X14_digest_314 [some (.ref 83), some (.long x1), none, some (.int x3), none, none] [] (n, tg, I, R) c s Q) : ∀ (m : Nat) (x1 : Int64) (x4 : Int32), (0 ≤ x4.toInt) → (x4.toInt ≤ 3) → 3 - x4.toInt < m → yW xm_X14_digest xc_X14_digest_287 [some (.ref 83), some (.long x1), none, some (.int x3), some (.int x4), none] [] (n, tg, I, R) c s Q := by
  intro m
  induction m with
  | zero =>
    intro x1 x4 i0 i1 hm
    have hX : yX n tg I R n tg I R := yX.rf
    have hS := hS0
    have hR := hR0
    have h94 : 94 ≤ n := hS0.1
    have hz : ySz I I := hX.sz h94
    have hxn := hX.1
    have hN := hR0.1
    have hnb : 94 ≤ nb := hR0.2.2.2.2.2.2
    exfalso; omega
  | succ m ih =>
    intro x1 x4 i0 i1 hm
    have hX : yX n tg I R n tg I R := yX.rf
    have hS := hS0
    have hR := hR0
    have h94 : 94 ≤ n := hS0.1
    have hz : ySz I I := hX.sz h94
    have hxn := hX.1
    have hN := hR0.1
    have hnb : 94 ≤ nb := hR0.2.2.2.2.2.2
    refine y_iload rfl rfl ?_
    refine y_iconst rfl ?_
    refine y_icmp_ge rfl j_X14_digest_314 (fun h_1 => ?_) (fun h_2 => ?_)
    · rw [yz_3] at h_1
      refine y_fgt (ls := [some _, some _, none, some _, none, none]) ⟨rfl, rfl, rfl, trivial⟩ ?_
      exact hx _
    · rw [yz_3] at h_2
      refine y_lload_n rfl rfl ?_
      refine y_aload_n rfl rfl ?_
      refine y_iload_n rfl rfl ?_
      refine y_bip rfl (by decide) ?_
      refine y_iload rfl rfl ?_
      refine y_virt rfl rfl rfl rfl rfl (ySh.t hS rfl) (ySh.n hS rfl) ?_
      refine r_ventureTold hS hR (Nat.le_trans hn hX.1) (by omega) (by omega) (by rw [yz_8]; decide) (by rw [yz_8]; decide) (fun v_3 => ?_)
      refine y_ret1 ?_
      refine y_i2l rfl ?_
      refine y_static rfl rfl rfl rfl rfl ?_
      refine y_in (M := xm_X14_add) (ls := [some _, _, some _, _]) rfl rfl rfl ?_
      refine y_lload_n rfl rfl ?_
      refine y_ldc2 rfl ?_
      refine y_lmul rfl ?_
      refine y_lload_n rfl rfl ?_
      refine y_ladd rfl ?_
      refine y_lreturn rfl ?_
      refine y_ret1 ?_
      refine y_lstore_n (ls' := [some _, some _, _, some _, some _, _]) rfl rfl rfl ?_
      refine y_iinc (ls' := [some _, some _, _, some _, some _, _]) rfl rfl rfl rfl ?_
      refine y_goto rfl j_X14_digest_287 ?_
      exact ih _ _ (by first | omega | (rw [yinc (by omega)]; omega)) (by first | omega | (rw [yinc (by omega)]; omega)) (by first | omega | (rw [yinc (by omega)]; omega))
theorem lp_r_dig225 (hS0 : ySh n tg R) (hR0 : yRI K nb tg I R) (hn : nb ≤ n) (hx : ∀ (x1 : Int64), yW xm_X14_digest xc_X14_digest_320 [some (.ref 83), some (.long x1), none, none, none, none] [] (n, tg, I, R) c s Q) : ∀ (m : Nat) (x1 : Int64) (x3 : Int32), (0 ≤ x3.toInt) → (x3.toInt ≤ (I 91 2).toInt) → (I 91 2).toInt - x3.toInt < m → yW xm_X14_digest xc_X14_digest_225 [some (.ref 83), some (.long x1), none, some (.int x3), none, none] [] (n, tg, I, R) c s Q := by
  intro m
  induction m with
  | zero =>
    intro x1 x3 i0 i1 hm
    have hX : yX n tg I R n tg I R := yX.rf
    have hS := hS0
    have hR := hR0
    have h94 : 94 ≤ n := hS0.1
    have hz : ySz I I := hX.sz h94
    have hxn := hX.1
    have hN := hR0.1
    have hnb : 94 ≤ nb := hR0.2.2.2.2.2.2
    exfalso; omega
  | succ m ih =>
    intro x1 x3 i0 i1 hm
    have hX : yX n tg I R n tg I R := yX.rf
    have hS := hS0
    have hR := hR0
    have h94 : 94 ≤ n := hS0.1
    have hz : ySz I I := hX.sz h94
    have hxn := hX.1
    have hN := hR0.1
    have hnb : 94 ≤ nb := hR0.2.2.2.2.2.2
    refine y_iload_n rfl rfl ?_
    refine y_aload_n rfl rfl ?_
    refine y_getR rfl (ySh.t hS rfl) (ySh.n hS rfl) rfl rfl (ySh.r hS rfl) ?_
    refine y_virt rfl rfl rfl rfl rfl (ySh.t hS rfl) (ySh.n hS rfl) ?_
    refine y_in (M := xm_Jx4a65c_size_8abf5) (ls := [some _]) rfl rfl rfl ?_
    refine y_aload_n rfl rfl ?_
    refine y_getI rfl (ySh.t hS rfl) (ySh.n hS rfl) rfl rfl ?_
    refine y_ireturn rfl rfl rfl ?_
    refine y_ret1 ?_
    refine y_icmp_ge rfl j_X14_digest_320 (fun h_1 => ?_) (fun h_2 => ?_)
    · refine y_fgt (ls := [some _, some _, none, none, none, none]) ⟨rfl, rfl, trivial⟩ ?_
      exact hx _
    · refine y_iconst rfl ?_
      refine y_istore (ls' := [some _, some _, _, some _, some _, _]) rfl rfl rfl ?_
      refine lp_r_dig239 hS hR (Nat.le_trans hn hX.1) (by omega) (by omega) (fun u3_0 => ?_) 100000 _ _ (by decide) (by rw [yz_0]; omega) (by rw [yz_0]; omega)
      refine y_iconst rfl ?_
      refine y_istore (ls' := [some _, some _, _, some _, some _, _]) rfl rfl rfl ?_
      refine lp_r_dig287 hS hR (Nat.le_trans hn hX.1) (by omega) (by omega) (fun u4_0 => ?_) 100000 _ _ (by decide) (by decide) (by decide)
      refine y_iinc (ls' := [some _, some _, _, some _, _, _]) rfl rfl rfl rfl ?_
      refine y_goto rfl j_X14_digest_225 ?_
      exact ih _ _ (by first | omega | (rw [yinc (by omega)]; omega)) (by first | omega | (rw [yinc (by omega)]; omega)) (by first | omega | (rw [yinc (by omega)]; omega))
theorem la_r_dig336 (hS0 : ySh n tg R) (hR0 : yRI K nb tg I R) (hn : nb ≤ n) {x3 : Int32} (h30 : 0 ≤ x3.toInt) (h31 : x3.toInt < (I 92 2).toInt) (hx : ∀ (x1 : Int64) n1 tg1 I1 R1 c1 s1, yX n tg I R n1 tg1 I1 R1 → c1 ≤ c + 3 → s1 ≤ s + 15 → yW xm_X14_digest xc_X14_digest_361 [some (.ref 83), some (.long x1), none, some (.int x3), none, none] [] (n1, tg1, I1, R1) c1 s1 Q) : ∀ (m : Nat) (x1 : Int64) (x4 : Int32) (n1 : Nat) (tg1 : Nat → yT) (I1 : Nat → Nat → Int32) (R1 : Nat → Nat → Value) (c1 s1 : Nat), yX n tg I R n1 tg1 I1 R1 → (0 ≤ x4.toInt) → (x4.toInt ≤ 3) → 3 - x4.toInt < m → (c1 : Int) ≤ c + 1 * (x4.toInt - 0) → (s1 : Int) ≤ s + 5 * (x4.toInt - 0) → yW xm_X14_digest xc_X14_digest_336 [some (.ref 83), some (.long x1), none, some (.int x3), some (.int x4), none] [] (n1, tg1, I1, R1) c1 s1 Q := by
  intro m
  induction m with
  | zero =>
    intro x1 x4 n1 tg1 I1 R1 c1 s1 hX i0 i1 hm hcc hss
    have hN := hR0.1
    exfalso; omega
  | succ m ih =>
    intro x1 x4 n1 tg1 I1 R1 c1 s1 hX i0 i1 hm hcc hss
    have hS := hS0.x hX
    have hR := hR0.x hn hX
    have h94 : 94 ≤ n := hS0.1
    have hz := hX.sz h94
    have hxn := hX.1
    have hN := hR0.1
    have hnb : 94 ≤ nb := hR0.2.2.2.2.2.2
    refine y_iload rfl rfl ?_
    refine y_iconst rfl ?_
    refine y_icmp_ge rfl j_X14_digest_361 (fun h_1 => ?_) (fun h_2 => ?_)
    · rw [yz_3] at h_1
      refine y_fgt (ls := [some _, some _, none, some _, none, none]) ⟨rfl, rfl, rfl, trivial⟩ ?_
      exact hx _ _ _ _ _ _ _ hX (by omega) (by omega)
    · rw [yz_3] at h_2
      refine y_lload_n rfl rfl ?_
      refine y_aload_n rfl rfl ?_
      refine y_iload_n rfl rfl ?_
      refine y_iload rfl rfl ?_
      refine y_virt rfl rfl rfl rfl rfl (ySh.t hS rfl) (ySh.n hS rfl) ?_
      refine r_firmTold hS hR (Nat.le_trans hn hX.1) (by omega) (by omega) (by omega) (by omega) (fun v_3_0 n3 tg3 I3 R3 c_3 s_3 hX1 hc_3 hs_3 => ?_)
      have hnA := hX1.1
      have hX := hX.trans hX1
      have hS := hS0.x hX
      have hR := hR0.x hn hX
      have hz := hX.sz h94
      have hxn := hX.1
      refine y_ret1 ?_
      refine y_i2l rfl ?_
      refine y_static rfl rfl rfl rfl rfl ?_
      refine y_in (M := xm_X14_add) (ls := [some _, _, some _, _]) rfl rfl rfl ?_
      refine y_lload_n rfl rfl ?_
      refine y_ldc2 rfl ?_
      refine y_lmul rfl ?_
      refine y_lload_n rfl rfl ?_
      refine y_ladd rfl ?_
      refine y_lreturn rfl ?_
      refine y_ret1 ?_
      refine y_lstore_n (ls' := [some _, some _, _, some _, some _, _]) rfl rfl rfl ?_
      refine y_iinc (ls' := [some _, some _, _, some _, some _, _]) rfl rfl rfl rfl ?_
      refine y_goto rfl j_X14_digest_336 ?_
      exact ih _ _ _ _ _ _ _ _ hX (by first | omega | (rw [yinc (by omega)]; omega)) (by first | omega | (rw [yinc (by omega)]; omega)) (by first | omega | (rw [yinc (by omega)]; omega)) (by first | omega | (rw [yinc (by omega)]; omega)) (by first | omega | (rw [yinc (by omega)]; omega))
theorem lb_r_dig336 (hS0 : ySh n tg R) (hR0 : yRI K nb tg I R) (hn : nb ≤ n) {x3 : Int32} (h30 : 0 ≤ x3.toInt) (h31 : x3.toInt < (I 92 2).toInt) (hx : ∀ (x1 : Int64) n1 tg1 I1 R1 c1 s1, yX n tg I R n1 tg1 I1 R1 → c1 ≤ c + 3 → s1 ≤ s + 15 → yW xm_X14_digest xc_X14_digest_361 [some (.ref 83), some (.long x1), none, some (.int x3), none, none] [] (n1, tg1, I1, R1) c1 s1 Q) : ∀ (x1 : Int64) (x4 : Int32), (0 ≤ x4.toInt) → (x4.toInt ≤ 3) → 3 - x4.toInt < (100000 : Nat) → (x4.toInt - 0) = 0 → yW xm_X14_digest xc_X14_digest_336 [some (.ref 83), some (.long x1), none, some (.int x3), some (.int x4), none] [] (n, tg, I, R) c s Q := by
  intro x1 x4 i0 i1 hm h0
  exact la_r_dig336 hS0 hR0 hn h30 h31 hx 100000 _ _ _ _ _ _ _ _ yX.rf i0 i1 hm (by rw [h0]; omega) (by rw [h0]; omega)
theorem la_r_dig322 (hS0 : ySh n tg R) (hR0 : yRI K nb tg I R) (hn : nb ≤ n) (hx : ∀ (x1 : Int64) n1 tg1 I1 R1 c1 s1, yX n tg I R n1 tg1 I1 R1 → c1 ≤ c + 30 → s1 ≤ s + 150 → yW xm_X14_digest xc_X14_digest_367 [some (.ref 83), some (.long x1), none, none, none, none] [] (n1, tg1, I1, R1) c1 s1 Q) : ∀ (m : Nat) (x1 : Int64) (x3 : Int32) (n1 : Nat) (tg1 : Nat → yT) (I1 : Nat → Nat → Int32) (R1 : Nat → Nat → Value) (c1 s1 : Nat), yX n tg I R n1 tg1 I1 R1 → (0 ≤ x3.toInt) → (x3.toInt ≤ (I 92 2).toInt) → (I 92 2).toInt - x3.toInt < m → (c1 : Int) ≤ c + 3 * (x3.toInt) → (s1 : Int) ≤ s + 15 * (x3.toInt) → yW xm_X14_digest xc_X14_digest_322 [some (.ref 83), some (.long x1), none, some (.int x3), none, none] [] (n1, tg1, I1, R1) c1 s1 Q := by
  intro m
  induction m with
  | zero =>
    intro x1 x3 n1 tg1 I1 R1 c1 s1 hX i0 i1 hm hcc hss
    have hN := hR0.1
    exfalso; omega
  | succ m ih =>
    intro x1 x3 n1 tg1 I1 R1 c1 s1 hX i0 i1 hm hcc hss
    have hS := hS0.x hX
    have hR := hR0.x hn hX
    have h94 : 94 ≤ n := hS0.1
    have hz := hX.sz h94
    have hxn := hX.1
    have hN := hR0.1
    have hnb : 94 ≤ nb := hR0.2.2.2.2.2.2
    refine y_iload_n rfl rfl ?_
    refine y_aload_n rfl rfl ?_
    refine y_getR rfl (ySh.t hS rfl) (ySh.n hS rfl) rfl rfl (ySh.r hS rfl) ?_
    refine y_virt rfl rfl rfl rfl rfl (ySh.t hS rfl) (ySh.n hS rfl) ?_
    refine y_in (M := xm_Jx4a65c_size_8abf5) (ls := [some _]) rfl rfl rfl ?_
    refine y_aload_n rfl rfl ?_
    refine y_getI rfl (ySh.t hS rfl) (ySh.n hS rfl) rfl rfl ?_
    refine y_ireturn rfl rfl rfl ?_
    refine y_ret1 ?_
    refine y_icmp_ge rfl j_X14_digest_367 (fun h_1 => ?_) (fun h_2 => ?_)
    · refine y_fgt (ls := [some _, some _, none, none, none, none]) ⟨rfl, rfl, trivial⟩ ?_
      exact hx _ _ _ _ _ _ _ hX (by omega) (by omega)
    · refine y_iconst rfl ?_
      refine y_istore (ls' := [some _, some _, _, some _, some _, _]) rfl rfl rfl ?_
      refine lb_r_dig336 hS hR (Nat.le_trans hn hX.1) (by omega) (by omega) (fun u3_0 n3 tg3 I3 R3 c_3 s_3 hX1 hc_3 hs_3 => ?_) _ _ (by decide) (by decide) (by decide) (by decide)
      have hnA := hX1.1
      have hX := hX.trans hX1
      have hS := hS0.x hX
      have hR := hR0.x hn hX
      have hz := hX.sz h94
      have hxn := hX.1
      refine y_iinc (ls' := [some _, some _, _, some _, _, _]) rfl rfl rfl rfl ?_
      refine y_goto rfl j_X14_digest_322 ?_
      exact ih _ _ _ _ _ _ _ _ hX (by first | omega | (rw [yinc (by omega)]; omega)) (by first | omega | (rw [yinc (by omega)]; omega)) (by first | omega | (rw [yinc (by omega)]; omega)) (by first | omega | (rw [yinc (by omega)]; omega)) (by first | omega | (rw [yinc (by omega)]; omega))
theorem lb_r_dig322 (hS0 : ySh n tg R) (hR0 : yRI K nb tg I R) (hn : nb ≤ n) (hx : ∀ (x1 : Int64) n1 tg1 I1 R1 c1 s1, yX n tg I R n1 tg1 I1 R1 → c1 ≤ c + 30 → s1 ≤ s + 150 → yW xm_X14_digest xc_X14_digest_367 [some (.ref 83), some (.long x1), none, none, none, none] [] (n1, tg1, I1, R1) c1 s1 Q) : ∀ (x1 : Int64) (x3 : Int32), (0 ≤ x3.toInt) → (x3.toInt ≤ (I 92 2).toInt) → (I 92 2).toInt - x3.toInt < (100000 : Nat) → (x3.toInt) = 0 → yW xm_X14_digest xc_X14_digest_322 [some (.ref 83), some (.long x1), none, some (.int x3), none, none] [] (n, tg, I, R) c s Q := by
  intro x1 x3 i0 i1 hm h0
  exact la_r_dig322 hS0 hR0 hn  hx 100000 _ _ _ _ _ _ _ _ yX.rf i0 i1 hm (by rw [h0]; omega) (by rw [h0]; omega)
theorem la_r_dig369 (hS0 : ySh n tg R) (hR0 : yRI K nb tg I R) (hn : nb ≤ n) (hx : ∀ (x1 : Int64) n1 tg1 I1 R1 c1 s1, yX n tg I R n1 tg1 I1 R1 → c1 ≤ c + 10 → s1 ≤ s + 45 → yW xm_X14_digest xc_X14_digest_398 [some (.ref 83), some (.long x1), none, none, none, none] [] (n1, tg1, I1, R1) c1 s1 Q) : ∀ (m : Nat) (x1 : Int64) (x3 : Int32) (n1 : Nat) (tg1 : Nat → yT) (I1 : Nat → Nat → Int32) (R1 : Nat → Nat → Value) (c1 s1 : Nat), yX n tg I R n1 tg1 I1 R1 → (0 ≤ x3.toInt) → (x3.toInt ≤ 5) → 5 - x3.toInt < m → (c1 : Int) ≤ c + 2 * (x3.toInt) → (s1 : Int) ≤ s + 9 * (x3.toInt) → yW xm_X14_digest xc_X14_digest_369 [some (.ref 83), some (.long x1), none, some (.int x3), none, none] [] (n1, tg1, I1, R1) c1 s1 Q := by
  intro m
  induction m with
  | zero =>
    intro x1 x3 n1 tg1 I1 R1 c1 s1 hX i0 i1 hm hcc hss
    have hN := hR0.1
    exfalso; omega
  | succ m ih =>
    intro x1 x3 n1 tg1 I1 R1 c1 s1 hX i0 i1 hm hcc hss
    have hS := hS0.x hX
    have hR := hR0.x hn hX
    have h94 : 94 ≤ n := hS0.1
    have hz := hX.sz h94
    have hxn := hX.1
    have hN := hR0.1
    have hnb : 94 ≤ nb := hR0.2.2.2.2.2.2
    refine y_iload_n rfl rfl ?_
    refine y_iconst rfl ?_
    refine y_icmp_ge rfl j_X14_digest_398 (fun h_1 => ?_) (fun h_2 => ?_)
    · rw [yz_5] at h_1
      refine y_fgt (ls := [some _, some _, none, none, none, none]) ⟨rfl, rfl, trivial⟩ ?_
      exact hx _ _ _ _ _ _ _ hX (by omega) (by omega)
    · rw [yz_5] at h_2
      refine y_lload_n rfl rfl ?_
      refine y_aload_n rfl rfl ?_
      refine y_iload_n rfl rfl ?_
      refine y_aload_n rfl rfl ?_
      refine y_getI rfl (ySh.t hS rfl) (ySh.n hS rfl) rfl rfl ?_
      refine y_virt rfl rfl rfl rfl rfl (ySh.t hS rfl) (ySh.n hS rfl) ?_
      refine r_isAllowed hS hR (Nat.le_trans hn hX.1)  (fun n3 tg3 I3 R3 c_3 s_3 hX1 hc_3 hs_3 => ?_) (fun n3 tg3 I3 R3 c_3 s_3 hX1 hc_3 hs_3 => ?_)
      · have hnA := hX1.1
        have hX := hX.trans hX1
        have hS := hS0.x hX
        have hR := hR0.x hn hX
        have hz := hX.sz h94
        have hxn := hX.1
        refine y_ret1 ?_
        refine y_static rfl rfl rfl rfl rfl ?_
        refine r_one (fun v_ hv_ => ?_)
        refine y_ret1 ?_
        refine y_i2l rfl ?_
        refine y_static rfl rfl rfl rfl rfl ?_
        refine y_in (M := xm_X14_add) (ls := [some _, _, some _, _]) rfl rfl rfl ?_
        refine y_lload_n rfl rfl ?_
        refine y_ldc2 rfl ?_
        refine y_lmul rfl ?_
        refine y_lload_n rfl rfl ?_
        refine y_ladd rfl ?_
        refine y_lreturn rfl ?_
        refine y_ret1 ?_
        refine y_lstore_n (ls' := [some _, some _, _, some _, _, _]) rfl rfl rfl ?_
        refine y_iinc (ls' := [some _, some _, _, some _, _, _]) rfl rfl rfl rfl ?_
        refine y_goto rfl j_X14_digest_369 ?_
        exact ih _ _ _ _ _ _ _ _ hX (by first | omega | (rw [yinc (by omega)]; omega)) (by first | omega | (rw [yinc (by omega)]; omega)) (by first | omega | (rw [yinc (by omega)]; omega)) (by first | omega | (rw [yinc (by omega)]; omega)) (by first | omega | (rw [yinc (by omega)]; omega))
      · have hnA := hX1.1
        have hX := hX.trans hX1
        have hS := hS0.x hX
        have hR := hR0.x hn hX
        have hz := hX.sz h94
        have hxn := hX.1
        refine y_ret1 ?_
        refine y_static rfl rfl rfl rfl rfl ?_
        refine r_one (fun v_ hv_ => ?_)
        refine y_ret1 ?_
        refine y_i2l rfl ?_
        refine y_static rfl rfl rfl rfl rfl ?_
        refine y_in (M := xm_X14_add) (ls := [some _, _, some _, _]) rfl rfl rfl ?_
        refine y_lload_n rfl rfl ?_
        refine y_ldc2 rfl ?_
        refine y_lmul rfl ?_
        refine y_lload_n rfl rfl ?_
        refine y_ladd rfl ?_
        refine y_lreturn rfl ?_
        refine y_ret1 ?_
        refine y_lstore_n (ls' := [some _, some _, _, some _, _, _]) rfl rfl rfl ?_
        refine y_iinc (ls' := [some _, some _, _, some _, _, _]) rfl rfl rfl rfl ?_
        refine y_goto rfl j_X14_digest_369 ?_
        exact ih _ _ _ _ _ _ _ _ hX (by first | omega | (rw [yinc (by omega)]; omega)) (by first | omega | (rw [yinc (by omega)]; omega)) (by first | omega | (rw [yinc (by omega)]; omega)) (by first | omega | (rw [yinc (by omega)]; omega)) (by first | omega | (rw [yinc (by omega)]; omega))
theorem lb_r_dig369 (hS0 : ySh n tg R) (hR0 : yRI K nb tg I R) (hn : nb ≤ n) (hx : ∀ (x1 : Int64) n1 tg1 I1 R1 c1 s1, yX n tg I R n1 tg1 I1 R1 → c1 ≤ c + 10 → s1 ≤ s + 45 → yW xm_X14_digest xc_X14_digest_398 [some (.ref 83), some (.long x1), none, none, none, none] [] (n1, tg1, I1, R1) c1 s1 Q) : ∀ (x1 : Int64) (x3 : Int32), (0 ≤ x3.toInt) → (x3.toInt ≤ 5) → 5 - x3.toInt < (100000 : Nat) → (x3.toInt) = 0 → yW xm_X14_digest xc_X14_digest_369 [some (.ref 83), some (.long x1), none, some (.int x3), none, none] [] (n, tg, I, R) c s Q := by
  intro x1 x3 i0 i1 hm h0
  exact la_r_dig369 hS0 hR0 hn  hx 100000 _ _ _ _ _ _ _ _ yX.rf i0 i1 hm (by rw [h0]; omega) (by rw [h0]; omega)
theorem r_digest2 (hS0 : ySh n tg R) (hR0 : yRI K nb tg I R) (hn : nb ≤ n) (hQ : ∀ v n1 tg1 I1 R1 c1 s1, yX n tg I R n1 tg1 I1 R1 → c1 ≤ c + 651 → s1 ≤ s + 4015 → Q (.inl (some (.long v))) (n1, tg1, I1, R1) c1 s1) : yW xm_X14_digest xc_X14_digest_5 [some (.ref 83), none, none, none, none, none] [] (n, tg, I, R) c s Q := by
  have hX : yX n tg I R n tg I R := yX.rf
  have hS := hS0
  have hR := hR0
  have h94 : 94 ≤ n := hS0.1
  have hz : ySz I I := hX.sz h94
  have hxn := hX.1
  have hN := hR0.1
  have hnb : 94 ≤ nb := hR0.2.2.2.2.2.2
  refine y_ldc2 rfl ?_
  refine y_lstore_n (ls' := [some _, some _, _, _, _, _]) rfl rfl rfl ?_
  refine y_iconst rfl ?_
  refine y_istore_n (ls' := [some _, some _, _, some _, _, _]) rfl rfl rfl ?_
  refine lb_r_dig11 hS hR (Nat.le_trans hn hX.1) (fun u1_0 n1 tg1 I1 R1 c_1 s_1 hX1 hc_1 hs_1 => ?_) _ _ (by decide) (by decide) (by decide) (by decide)
  have hnA := hX1.1
  have hX := hX.trans hX1
  have hS := hS0.x hX
  have hR := hR0.x hn hX
  have hz := hX.sz h94
  have hxn := hX.1
  refine y_iconst rfl ?_
  refine y_istore_n (ls' := [some _, some _, _, some _, _, _]) rfl rfl rfl ?_
  refine lb_r_dig36 hS hR (Nat.le_trans hn hX.1) (fun u2_0 n2 tg2 I2 R2 c_2 s_2 hX1 hc_2 hs_2 => ?_) _ _ (by decide) (by rw [yz_0]; omega) (by rw [yz_0]; omega) (by decide)
  have hnA := hX1.1
  have hX := hX.trans hX1
  have hS := hS0.x hX
  have hR := hR0.x hn hX
  have hz := hX.sz h94
  have hxn := hX.1
  refine y_iconst rfl ?_
  refine y_istore_n (ls' := [some _, some _, _, some _, _, _]) rfl rfl rfl ?_
  refine lb_r_dig81 hS hR (Nat.le_trans hn hX.1) (fun u3_0 n3 tg3 I3 R3 c_3 s_3 hX1 hc_3 hs_3 => ?_) _ _ (by decide) (by rw [yz_0]; omega) (by rw [yz_0]; omega) (by decide)
  have hnA := hX1.1
  have hX := hX.trans hX1
  have hS := hS0.x hX
  have hR := hR0.x hn hX
  have hz := hX.sz h94
  have hxn := hX.1
  refine y_iconst rfl ?_
  refine y_istore_n (ls' := [some _, some _, _, some _, _, _]) rfl rfl rfl ?_
  refine lb_r_dig129 hS hR (Nat.le_trans hn hX.1) (fun u4_0 n4 tg4 I4 R4 c_4 s_4 hX1 hc_4 hs_4 => ?_) _ _ (by decide) (by rw [yz_0]; omega) (by rw [yz_0]; omega) (by decide)
  have hnA := hX1.1
  have hX := hX.trans hX1
  have hS := hS0.x hX
  have hR := hR0.x hn hX
  have hz := hX.sz h94
  have hxn := hX.1
  refine y_iconst rfl ?_
  refine y_istore_n (ls' := [some _, some _, _, some _, _, _]) rfl rfl rfl ?_
  refine lb_r_dig177 hS hR (Nat.le_trans hn hX.1) (fun u5_0 n5 tg5 I5 R5 c_5 s_5 hX1 hc_5 hs_5 => ?_) _ _ (by decide) (by rw [yz_0]; omega) (by rw [yz_0]; omega) (by decide)
  have hnA := hX1.1
  have hX := hX.trans hX1
  have hS := hS0.x hX
  have hR := hR0.x hn hX
  have hz := hX.sz h94
  have hxn := hX.1
  refine y_iconst rfl ?_
  refine y_istore_n (ls' := [some _, some _, _, some _, _, _]) rfl rfl rfl ?_
  refine lp_r_dig225 hS hR (Nat.le_trans hn hX.1) (fun u6_0 => ?_) 100000 _ _ (by decide) (by rw [yz_0]; omega) (by rw [yz_0]; omega)
  refine y_iconst rfl ?_
  refine y_istore_n (ls' := [some _, some _, _, some _, _, _]) rfl rfl rfl ?_
  refine lb_r_dig322 hS hR (Nat.le_trans hn hX.1) (fun u7_0 n7 tg7 I7 R7 c_7 s_7 hX1 hc_7 hs_7 => ?_) _ _ (by decide) (by rw [yz_0]; omega) (by rw [yz_0]; omega) (by decide)
  have hnA := hX1.1
  have hX := hX.trans hX1
  have hS := hS0.x hX
  have hR := hR0.x hn hX
  have hz := hX.sz h94
  have hxn := hX.1
  refine y_iconst rfl ?_
  refine y_istore_n (ls' := [some _, some _, _, some _, _, _]) rfl rfl rfl ?_
  refine lb_r_dig369 hS hR (Nat.le_trans hn hX.1) (fun u8_0 n8 tg8 I8 R8 c_8 s_8 hX1 hc_8 hs_8 => ?_) _ _ (by decide) (by decide) (by decide) (by decide)
  have hnA := hX1.1
  have hX := hX.trans hX1
  have hS := hS0.x hX
  have hR := hR0.x hn hX
  have hz := hX.sz h94
  have hxn := hX.1
  refine y_aload_n rfl rfl ?_
  refine y_bip rfl (by decide) ?_
  refine y_virt rfl rfl rfl rfl rfl (ySh.t hS rfl) (ySh.n hS rfl) ?_
  refine r_bestSet hS hR (Nat.le_trans hn hX.1)  (fun v_9 => ?_)
  refine y_ret1 ?_
  refine y_istore_n (ls' := [some _, some _, _, some _, _, _]) rfl rfl rfl ?_
  refine y_lload_n rfl rfl ?_
  refine y_aload_n rfl rfl ?_
  refine y_iload_n rfl rfl ?_
  refine y_iconst rfl ?_
  refine y_virt rfl rfl rfl rfl rfl (ySh.t hS rfl) (ySh.n hS rfl) ?_
  refine r_sumOf hS hR (Nat.le_trans hn hX.1) (by decide) (by decide) (fun v_10 => ?_)
  refine y_ret1 ?_
  refine y_i2l rfl ?_
  refine y_static rfl rfl rfl rfl rfl ?_
  refine y_in (M := xm_X14_add) (ls := [some _, _, some _, _]) rfl rfl rfl ?_
  refine y_lload_n rfl rfl ?_
  refine y_ldc2 rfl ?_
  refine y_lmul rfl ?_
  refine y_lload_n rfl rfl ?_
  refine y_ladd rfl ?_
  refine y_lreturn rfl ?_
  refine y_ret1 ?_
  refine y_iload_n rfl rfl ?_
  refine y_i2l rfl ?_
  refine y_static rfl rfl rfl rfl rfl ?_
  refine y_in (M := xm_X14_add) (ls := [some _, _, some _, _]) rfl rfl rfl ?_
  refine y_lload_n rfl rfl ?_
  refine y_ldc2 rfl ?_
  refine y_lmul rfl ?_
  refine y_lload_n rfl rfl ?_
  refine y_ladd rfl ?_
  refine y_lreturn rfl ?_
  refine y_ret1 ?_
  refine y_lstore_n (ls' := [some _, some _, _, some _, _, _]) rfl rfl rfl ?_
  refine y_lload_n rfl rfl ?_
  refine y_aload_n rfl rfl ?_
  refine y_virt rfl rfl rfl rfl rfl (ySh.t hS rfl) (ySh.n hS rfl) ?_
  refine r_isWhole hS hR (Nat.le_trans hn hX.1)  (fun n11 tg11 I11 R11 c_11 s_11 hX1 hc_11 hs_11 => ?_) (fun n11 tg11 I11 R11 c_11 s_11 hX1 hc_11 hs_11 => ?_)
  · have hnA := hX1.1
    have hX := hX.trans hX1
    have hS := hS0.x hX
    have hR := hR0.x hn hX
    have hz := hX.sz h94
    have hxn := hX.1
    refine y_ret1 ?_
    refine y_static rfl rfl rfl rfl rfl ?_
    refine r_one (fun v_ hv_ => ?_)
    refine y_ret1 ?_
    refine y_i2l rfl ?_
    refine y_static rfl rfl rfl rfl rfl ?_
    refine y_in (M := xm_X14_add) (ls := [some _, _, some _, _]) rfl rfl rfl ?_
    refine y_lload_n rfl rfl ?_
    refine y_ldc2 rfl ?_
    refine y_lmul rfl ?_
    refine y_lload_n rfl rfl ?_
    refine y_ladd rfl ?_
    refine y_lreturn rfl ?_
    refine y_ret1 ?_
    refine y_lreturn rfl ?_
    exact hQ _ _ _ _ _ _ _ hX (by omega) (by omega)
  · have hnA := hX1.1
    have hX := hX.trans hX1
    have hS := hS0.x hX
    have hR := hR0.x hn hX
    have hz := hX.sz h94
    have hxn := hX.1
    refine y_ret1 ?_
    refine y_static rfl rfl rfl rfl rfl ?_
    refine r_one (fun v_ hv_ => ?_)
    refine y_ret1 ?_
    refine y_i2l rfl ?_
    refine y_static rfl rfl rfl rfl rfl ?_
    refine y_in (M := xm_X14_add) (ls := [some _, _, some _, _]) rfl rfl rfl ?_
    refine y_lload_n rfl rfl ?_
    refine y_ldc2 rfl ?_
    refine y_lmul rfl ?_
    refine y_lload_n rfl rfl ?_
    refine y_ladd rfl ?_
    refine y_lreturn rfl ?_
    refine y_ret1 ?_
    refine y_lreturn rfl ?_
    exact hQ _ _ _ _ _ _ _ hX (by omega) (by omega)
end YRP
