/-! THE REFERENCE: helpers that only read (by gen22.py) -/
section YRO
variable {K nb n : Nat} {tg : Nat → yT} {I : Nat → Nat → Int32} {R : Nat → Nat → Value} {c s : Nat} {Q : yQ}
theorem l_iter {l : Nat} (hS : ySh n tg R) (tl : tg l = (7, 0)) (hl : l < n) (hlb : l < nb) (hn : nb ≤ n) (h0 : 0 ≤ (I l 2).toInt) (hQ : ∀ n1 tg1 I1 R1, n1 = n + 1 → yX n tg I R n1 tg1 I1 R1 → yIt nb n1 tg1 I1 R1 n l 0 → Q (.inl (some (.ref n))) (n1, tg1, I1, R1) (c + 1) (s + 4)) : yC 307 [.ref l] (n, tg, I, R) c s Q := by
  refine y_in (M := xm_Jx4a65c_iterator_32c93) (ls := [some _]) rfl rfl rfl ?_
  refine y_newX rfl rfl rfl (fun n1 tg1 I1 R1 hA => ?_)
  obtain ⟨e1, e2, e3, e4, hX⟩ := hA
  have hS1 := hS.x hX
  have h94 : 94 ≤ n := hS.1
  have hro : xN0 ≤ n := Nat.le_trans (by decide) h94
  have hlt : n < n1 := by omega
  have hln : l ≠ n := by omega
  obtain ⟨q1, q2, q3⟩ := hX.2 l hl
  refine y_dup rfl rfl ?_
  refine y_aload_n rfl rfl ?_
  refine y_init rfl rfl rfl rfl rfl ?_
  refine y_in (M := xm_Jx35411_init_45d68) (ls := [some _, some _]) rfl rfl rfl ?_
  refine y_aload_n rfl rfl ?_
  refine y_aload_n rfl rfl ?_
  refine y_putR rfl e2 hlt rfl hro rfl rfl ?_
  refine y_aload_n rfl rfl ?_
  refine y_obj rfl hlt rfl ?_
  refine y_aload_n rfl rfl ?_
  refine y_iconst rfl ?_
  refine y_putI rfl e2 hlt rfl hro rfl rfl ?_
  refine y_aload_n rfl rfl ?_
  refine y_aload_n rfl rfl ?_
  refine y_getR rfl e2 hlt rfl rfl upd2_self ?_
  refine y_getI rfl (q1.trans tl) (by omega : l < n1) rfl rfl ?_
  refine y_putI rfl e2 hlt rfl hro rfl rfl ?_
  refine y_return rfl ?_
  refine y_ret0 ?_
  refine y_areturn rfl ?_
  refine hQ _ _ _ _ e1 ((hX.upR (Nat.le_refl n) (upR rfl)).upI (b := n) (Nat.le_refl n) (fun a ha => (upd2_row ha).trans (upd2_row ha))) ⟨hn, hlt, e2, upd2_self, ?_, Int.le_refl 0, ?_, ?_, q1.trans tl, by omega, hlb⟩
  · rw [upd2_ne (.inr (by decide)), upd2_ne (.inr (by decide)), e3]; decide
  · rw [upd2_ne (.inl hln), upd2_ne (.inl hln), q2]; exact h0
  · rw [upd2_self, upd2_ne (.inl hln), upd2_ne (.inl hln), upd2_ne (.inl hln)]
theorem r_isClean (hS0 : ySh n tg R) (hR0 : yRI K nb tg I R) (hn : nb ≤ n) {x1 : Int32} (h0 : 0 ≤ x1.toInt) (h1 : x1.toInt < (I 92 2).toInt) (hQ1 : Q (.inl (some (.int (Int32.ofInt 1)))) (n, tg, I, R) c s) (hQ0 : Q (.inl (some (.int (Int32.ofInt 0)))) (n, tg, I, R) c s) : yC 220 [.ref 83, .int x1] (n, tg, I, R) c s Q := by
  have hX : yX n tg I R n tg I R := yX.rf
  have hS := hS0
  have hR := hR0
  have h94 : 94 ≤ n := hS0.1
  have hz : ySz I I := hX.sz h94
  have hxn := hX.1
  have hN := hR0.1
  have hnb : 94 ≤ nb := hR0.2.2.2.2.2.2
  refine y_in (M := xm_X14_isClean) (ls := [some _, some _, _]) rfl rfl rfl ?_
  refine y_aload_n rfl rfl ?_
  refine y_getR rfl (ySh.t hS rfl) (ySh.n hS rfl) rfl rfl (ySh.r hS rfl) ?_
  refine y_iload_n rfl rfl ?_
  refine y_virt rfl rfl rfl rfl rfl (ySh.t hS rfl) (ySh.n hS rfl) ?_
  refine l_get (nb := nb) (ySh.t hS rfl) (ySh.n hS rfl) (Nat.le_trans hn hX.1) hR.l92 (by omega) (by omega) (fun b1 eb_b1 hlo_b1 hb0_b1 ht_b1 => ?_)
  have hb_b1 := Nat.lt_of_lt_of_le hb0_b1 hn
  replace ht_b1 : tg b1 = (0, 7) := (hX.2 _ hb_b1).1.symm.trans ht_b1
  refine y_ret1 ?_
  refine y_castA rfl rfl ((hX.2 _ hb_b1).1.trans ht_b1) rfl (Nat.lt_of_lt_of_le hb_b1 hX.1) ?_
  refine y_astore_n (ls' := [some _, some _, some _]) rfl rfl rfl ?_
  refine y_bip rfl (by decide) ?_
  refine y_aload_n rfl rfl ?_
  refine y_iconst rfl ?_
  refine y_iaload rfl ((hX.2 _ hb_b1).1.trans ht_b1) (Nat.lt_of_lt_of_le hb_b1 hX.1) (by decide) (by decide) ?_
  refine y_imul rfl ?_
  refine y_bip rfl (by decide) ?_
  refine y_aload_n rfl rfl ?_
  refine y_iconst rfl ?_
  refine y_iaload rfl ((hX.2 _ hb_b1).1.trans ht_b1) (Nat.lt_of_lt_of_le hb_b1 hX.1) (by decide) (by decide) ?_
  refine y_imul rfl ?_
  refine y_icmp_ge rfl j_X14_isClean_60 (fun h_2 => ?_) (fun h_3 => ?_)
  · refine y_iconst rfl ?_
    refine y_ireturn rfl rfl rfl ?_
    exact hQ0
  · refine y_bip rfl (by decide) ?_
    refine y_aload_n rfl rfl ?_
    refine y_iconst rfl ?_
    refine y_iaload rfl ((hX.2 _ hb_b1).1.trans ht_b1) (Nat.lt_of_lt_of_le hb_b1 hX.1) (by decide) (by decide) ?_
    refine y_imul rfl ?_
    refine y_bip rfl (by decide) ?_
    refine y_aload_n rfl rfl ?_
    refine y_iconst rfl ?_
    refine y_iaload rfl ((hX.2 _ hb_b1).1.trans ht_b1) (Nat.lt_of_lt_of_le hb_b1 hX.1) (by decide) (by decide) ?_
    refine y_imul rfl ?_
    refine y_icmp_ge rfl j_X14_isClean_60 (fun h_4 => ?_) (fun h_5 => ?_)
    · refine y_iconst rfl ?_
      refine y_ireturn rfl rfl rfl ?_
      exact hQ0
    · refine y_bip rfl (by decide) ?_
      refine y_aload_n rfl rfl ?_
      refine y_iconst rfl ?_
      refine y_iaload rfl ((hX.2 _ hb_b1).1.trans ht_b1) (Nat.lt_of_lt_of_le hb_b1 hX.1) (by decide) (by decide) ?_
      refine y_imul rfl ?_
      refine y_iconst rfl ?_
      refine y_aload_n rfl rfl ?_
      refine y_iconst rfl ?_
      refine y_iaload rfl ((hX.2 _ hb_b1).1.trans ht_b1) (Nat.lt_of_lt_of_le hb_b1 hX.1) (by decide) (by decide) ?_
      refine y_imul rfl ?_
      refine y_icmp_gt rfl j_X14_isClean_60 (fun h_6 => ?_) (fun h_7 => ?_)
      · refine y_iconst rfl ?_
        refine y_ireturn rfl rfl rfl ?_
        exact hQ0
      · refine y_iconst rfl ?_
        refine y_goto rfl j_X14_isClean_61 ?_
        refine y_ireturn rfl rfl rfl ?_
        exact hQ1
theorem lp_r_clean (hS0 : ySh n tg R) (hR0 : yRI K nb tg I R) (hn : nb ≤ n) (hQ : ∀ v, Q (.inl (some (.int v))) (n, tg, I, R) c s) : ∀ (m : Nat) (x1 : Int32) (x2 : Int32), (0 ≤ x2.toInt) → (x2.toInt ≤ (I 92 2).toInt) → (I 92 2).toInt - x2.toInt < m → yW xm_X14_clean xc_X14_clean_4 [some (.ref 83), some (.int x1), some (.int x2)] [] (n, tg, I, R) c s Q := by
  intro m
  induction m with
  | zero =>
    intro x1 x2 i0 i1 hm
    have hX : yX n tg I R n tg I R := yX.rf
    have hS := hS0
    have hR := hR0
    have h94 : 94 ≤ n := hS0.1
    have hz : ySz I I := hX.sz h94
    have hxn := hX.1
    have hN := hR0.1
    have hnb : 94 ≤ nb := hR0.2.2.2.2.2.2
    exfalso; omega
  | succ m ih =>
    intro x1 x2 i0 i1 hm
    have hX : yX n tg I R n tg I R := yX.rf
    have hS := hS0
    have hR := hR0
    have h94 : 94 ≤ n := hS0.1
    have hz : ySz I I := hX.sz h94
    have hxn := hX.1
    have hN := hR0.1
    have hnb : 94 ≤ nb := hR0.2.2.2.2.2.2
    refine y_iload_n rfl rfl ?_
    refine y_aload_n rfl rfl ?_
    refine y_getR rfl (ySh.t hS rfl) (ySh.n hS rfl) rfl rfl (ySh.r hS rfl) ?_
    refine y_virt rfl rfl rfl rfl rfl (ySh.t hS rfl) (ySh.n hS rfl) ?_
    refine y_in (M := xm_Jx4a65c_size_8abf5) (ls := [some _]) rfl rfl rfl ?_
    refine y_aload_n rfl rfl ?_
    refine y_getI rfl (ySh.t hS rfl) (ySh.n hS rfl) rfl rfl ?_
    refine y_ireturn rfl rfl rfl ?_
    refine y_ret1 ?_
    refine y_icmp_ge rfl j_X14_clean_34 (fun h_1 => ?_) (fun h_2 => ?_)
    · refine y_iload_n rfl rfl ?_
      refine y_ireturn rfl rfl rfl ?_
      exact hQ _
    · refine y_iload_n rfl rfl ?_
      refine y_aload_n rfl rfl ?_
      refine y_iload_n rfl rfl ?_
      refine y_virt rfl rfl rfl rfl rfl (ySh.t hS rfl) (ySh.n hS rfl) ?_
      refine r_isClean hS hR (Nat.le_trans hn hX.1) (by omega) (by omega) ?_ ?_
      · refine y_ret1 ?_
        refine y_static rfl rfl rfl rfl rfl ?_
        refine y_in (M := xm_X14_one) (ls := [some _]) rfl rfl rfl ?_
        refine y_iload_n rfl rfl ?_
        refine y_if_eqF rfl (by decide) ?_
        refine y_iconst rfl ?_
        refine y_goto rfl j_X14_one_9 ?_
        refine y_ireturn rfl rfl rfl ?_
        refine y_ret1 ?_
        refine y_iload_n rfl rfl ?_
        refine y_ishl rfl ?_
        refine y_ior rfl ?_
        refine y_istore_n (ls' := [some _, some _, some _]) rfl rfl rfl ?_
        refine y_iinc (ls' := [some _, some _, some _]) rfl rfl rfl rfl ?_
        refine y_goto rfl j_X14_clean_4 ?_
        exact ih _ _ (by first | omega | (rw [yinc (by omega)]; omega)) (by first | omega | (rw [yinc (by omega)]; omega)) (by first | omega | (rw [yinc (by omega)]; omega))
      · refine y_ret1 ?_
        refine y_static rfl rfl rfl rfl rfl ?_
        refine y_in (M := xm_X14_one) (ls := [some _]) rfl rfl rfl ?_
        refine y_iload_n rfl rfl ?_
        refine y_if_eqT rfl j_X14_one_8 (by decide) ?_
        refine y_iconst rfl ?_
        refine y_ireturn rfl rfl rfl ?_
        refine y_ret1 ?_
        refine y_iload_n rfl rfl ?_
        refine y_ishl rfl ?_
        refine y_ior rfl ?_
        refine y_istore_n (ls' := [some _, some _, some _]) rfl rfl rfl ?_
        refine y_iinc (ls' := [some _, some _, some _]) rfl rfl rfl rfl ?_
        refine y_goto rfl j_X14_clean_4 ?_
        exact ih _ _ (by first | omega | (rw [yinc (by omega)]; omega)) (by first | omega | (rw [yinc (by omega)]; omega)) (by first | omega | (rw [yinc (by omega)]; omega))
theorem r_clean (hS0 : ySh n tg R) (hR0 : yRI K nb tg I R) (hn : nb ≤ n) (hQ : ∀ v, Q (.inl (some (.int v))) (n, tg, I, R) c s) : yC 221 [.ref 83] (n, tg, I, R) c s Q := by
  have hX : yX n tg I R n tg I R := yX.rf
  have hS := hS0
  have hR := hR0
  have h94 : 94 ≤ n := hS0.1
  have hz : ySz I I := hX.sz h94
  have hxn := hX.1
  have hN := hR0.1
  have hnb : 94 ≤ nb := hR0.2.2.2.2.2.2
  refine y_in (M := xm_X14_clean) (ls := [some _, _, _]) rfl rfl rfl ?_
  refine y_iconst rfl ?_
  refine y_istore_n (ls' := [some _, some _, _]) rfl rfl rfl ?_
  refine y_iconst rfl ?_
  refine y_istore_n (ls' := [some _, some _, some _]) rfl rfl rfl ?_
  exact lp_r_clean hS0 hR0 hn hQ 100 _ _ (by decide) (by rw [yz_0]; omega) (by rw [yz_0]; omega)
theorem lp_r_sumOf (hS0 : ySh n tg R) (hR0 : yRI K nb tg I R) (hn : nb ≤ n) {x1 x2 : Int32} (hw0 : 0 ≤ x2.toInt) (hw1 : x2.toInt < 7) (hQ : ∀ v, Q (.inl (some (.int v))) (n, tg, I, R) c s) : ∀ (m : Nat) (x3 : Int32) (x4 : Int32), (0 ≤ x4.toInt) → (x4.toInt ≤ (I 92 2).toInt) → (I 92 2).toInt - x4.toInt < m → yW xm_X14_sumOf xc_X14_sumOf_5 [some (.ref 83), some (.int x1), some (.int x2), some (.int x3), some (.int x4)] [] (n, tg, I, R) c s Q := by
  intro m
  induction m with
  | zero =>
    intro x3 x4 i0 i1 hm
    have hX : yX n tg I R n tg I R := yX.rf
    have hS := hS0
    have hR := hR0
    have h94 : 94 ≤ n := hS0.1
    have hz : ySz I I := hX.sz h94
    have hxn := hX.1
    have hN := hR0.1
    have hnb : 94 ≤ nb := hR0.2.2.2.2.2.2
    exfalso; omega
  | succ m ih =>
    intro x3 x4 i0 i1 hm
    have hX : yX n tg I R n tg I R := yX.rf
    have hS := hS0
    have hR := hR0
    have h94 : 94 ≤ n := hS0.1
    have hz : ySz I I := hX.sz h94
    have hxn := hX.1
    have hN := hR0.1
    have hnb : 94 ≤ nb := hR0.2.2.2.2.2.2
    refine y_iload rfl rfl ?_
    refine y_aload_n rfl rfl ?_
    refine y_getR rfl (ySh.t hS rfl) (ySh.n hS rfl) rfl rfl (ySh.r hS rfl) ?_
    refine y_virt rfl rfl rfl rfl rfl (ySh.t hS rfl) (ySh.n hS rfl) ?_
    refine y_in (M := xm_Jx4a65c_size_8abf5) (ls := [some _]) rfl rfl rfl ?_
    refine y_aload_n rfl rfl ?_
    refine y_getI rfl (ySh.t hS rfl) (ySh.n hS rfl) rfl rfl ?_
    refine y_ireturn rfl rfl rfl ?_
    refine y_ret1 ?_
    refine y_icmp_ge rfl j_X14_sumOf_49 (fun h_1 => ?_) (fun h_2 => ?_)
    · refine y_iload_n rfl rfl ?_
      refine y_ireturn rfl rfl rfl ?_
      exact hQ _
    · refine y_iload_n rfl rfl ?_
      refine y_iload rfl rfl ?_
      refine y_static rfl rfl rfl rfl rfl ?_
      refine y_in (M := xm_X14_has) (ls := [some _, some _]) rfl rfl rfl ?_
      refine y_iload_n rfl rfl ?_
      refine y_iload_n rfl rfl ?_
      refine y_ishr rfl ?_
      refine y_iconst rfl ?_
      refine y_iand rfl ?_
      refine y_iconst rfl ?_
      refine y_icmp_ne rfl j_X14_has_13 (fun h_3 => ?_) (fun h_4 => ?_)
      · rw [yz_1] at h_3
        refine y_iconst rfl ?_
        refine y_ireturn rfl rfl rfl ?_
        refine y_ret1 ?_
        refine y_if_eqT rfl j_X14_sumOf_43 (by decide) ?_
        refine y_iinc (ls' := [some _, some _, some _, some _, some _]) rfl rfl rfl rfl ?_
        refine y_goto rfl j_X14_sumOf_5 ?_
        exact ih _ _ (by first | omega | (rw [yinc (by omega)]; omega)) (by first | omega | (rw [yinc (by omega)]; omega)) (by first | omega | (rw [yinc (by omega)]; omega))
      · rw [yz_1] at h_4
        refine y_iconst rfl ?_
        refine y_goto rfl j_X14_has_14 ?_
        refine y_ireturn rfl rfl rfl ?_
        refine y_ret1 ?_
        refine y_if_eqF rfl (by decide) ?_
        refine y_iload_n rfl rfl ?_
        refine y_aload_n rfl rfl ?_
        refine y_getR rfl (ySh.t hS rfl) (ySh.n hS rfl) rfl rfl (ySh.r hS rfl) ?_
        refine y_iload rfl rfl ?_
        refine y_virt rfl rfl rfl rfl rfl (ySh.t hS rfl) (ySh.n hS rfl) ?_
        refine l_get (nb := nb) (ySh.t hS rfl) (ySh.n hS rfl) (Nat.le_trans hn hX.1) hR.l92 (by omega) (by omega) (fun b5 eb_b5 hlo_b5 hb0_b5 ht_b5 => ?_)
        have hb_b5 := Nat.lt_of_lt_of_le hb0_b5 hn
        replace ht_b5 : tg b5 = (0, 7) := (hX.2 _ hb_b5).1.symm.trans ht_b5
        refine y_ret1 ?_
        refine y_castA rfl rfl ((hX.2 _ hb_b5).1.trans ht_b5) rfl (Nat.lt_of_lt_of_le hb_b5 hX.1) ?_
        refine y_iload_n rfl rfl ?_
        refine y_iaload rfl ((hX.2 _ hb_b5).1.trans ht_b5) (Nat.lt_of_lt_of_le hb_b5 hX.1) (by omega) (by omega) ?_
        refine y_iadd rfl ?_
        refine y_istore_n (ls' := [some _, some _, some _, some _, some _]) rfl rfl rfl ?_
        refine y_iinc (ls' := [some _, some _, some _, some _, some _]) rfl rfl rfl rfl ?_
        refine y_goto rfl j_X14_sumOf_5 ?_
        exact ih _ _ (by first | omega | (rw [yinc (by omega)]; omega)) (by first | omega | (rw [yinc (by omega)]; omega)) (by first | omega | (rw [yinc (by omega)]; omega))
theorem r_sumOf (hS0 : ySh n tg R) (hR0 : yRI K nb tg I R) (hn : nb ≤ n) {x1 x2 : Int32} (hw0 : 0 ≤ x2.toInt) (hw1 : x2.toInt < 7) (hQ : ∀ v, Q (.inl (some (.int v))) (n, tg, I, R) c s) : yC 222 [.ref 83, .int x1, .int x2] (n, tg, I, R) c s Q := by
  have hX : yX n tg I R n tg I R := yX.rf
  have hS := hS0
  have hR := hR0
  have h94 : 94 ≤ n := hS0.1
  have hz : ySz I I := hX.sz h94
  have hxn := hX.1
  have hN := hR0.1
  have hnb : 94 ≤ nb := hR0.2.2.2.2.2.2
  refine y_in (M := xm_X14_sumOf) (ls := [some _, some _, some _, _, _]) rfl rfl rfl ?_
  refine y_iconst rfl ?_
  refine y_istore_n (ls' := [some _, some _, some _, some _, _]) rfl rfl rfl ?_
  refine y_iconst rfl ?_
  refine y_istore (ls' := [some _, some _, some _, some _, some _]) rfl rfl rfl ?_
  exact lp_r_sumOf hS0 hR0 hn hw0 hw1 hQ 100 _ _ (by decide) (by rw [yz_0]; omega) (by rw [yz_0]; omega)
theorem lp_r_bestSet (hS0 : ySh n tg R) (hR0 : yRI K nb tg I R) (hn : nb ≤ n) {x1 : Int32} (hQ : ∀ v, Q (.inl (some (.int v))) (n, tg, I, R) c s) : ∀ (m : Nat) (x2 : Int32) (x3 : Int32) (x4 : Int32), (0 ≤ x4.toInt) → (x4.toInt ≤ 1024) → 1024 - x4.toInt < m → yW xm_X14_bestSet xc_X14_bestSet_10 [some (.ref 83), some (.int x1), some (.int x2), some (.int x3), some (.int x4), none] [] (n, tg, I, R) c s Q := by
  intro m
  induction m with
  | zero =>
    intro x2 x3 x4 i0 i1 hm
    have hX : yX n tg I R n tg I R := yX.rf
    have hS := hS0
    have hR := hR0
    have h94 : 94 ≤ n := hS0.1
    have hz : ySz I I := hX.sz h94
    have hxn := hX.1
    have hN := hR0.1
    have hnb : 94 ≤ nb := hR0.2.2.2.2.2.2
    have hsh := yshl2 (x := I 92 2) (by omega) (by omega)
    exfalso; omega
  | succ m ih =>
    intro x2 x3 x4 i0 i1 hm
    have hX : yX n tg I R n tg I R := yX.rf
    have hS := hS0
    have hR := hR0
    have h94 : 94 ≤ n := hS0.1
    have hz : ySz I I := hX.sz h94
    have hxn := hX.1
    have hN := hR0.1
    have hnb : 94 ≤ nb := hR0.2.2.2.2.2.2
    have hsh := yshl2 (x := I 92 2) (by omega) (by omega)
    refine y_iload rfl rfl ?_
    refine y_iconst rfl ?_
    refine y_aload_n rfl rfl ?_
    refine y_getR rfl (ySh.t hS rfl) (ySh.n hS rfl) rfl rfl (ySh.r hS rfl) ?_
    refine y_virt rfl rfl rfl rfl rfl (ySh.t hS rfl) (ySh.n hS rfl) ?_
    refine y_in (M := xm_Jx4a65c_size_8abf5) (ls := [some _]) rfl rfl rfl ?_
    refine y_aload_n rfl rfl ?_
    refine y_getI rfl (ySh.t hS rfl) (ySh.n hS rfl) rfl rfl ?_
    refine y_ireturn rfl rfl rfl ?_
    refine y_ret1 ?_
    refine y_ishl rfl ?_
    refine y_icmp_ge rfl j_X14_bestSet_98 (fun h_1 => ?_) (fun h_2 => ?_)
    · refine y_iload_n rfl rfl ?_
      refine y_ireturn rfl rfl rfl ?_
      exact hQ _
    · refine y_iload rfl rfl ?_
      refine y_iload_n rfl rfl ?_
      refine y_iconst rfl ?_
      refine y_ixor rfl ?_
      refine y_iand rfl ?_
      refine y_if_ne rfl j_X14_bestSet_92 (fun h_3 => ?_) (fun h_4 => ?_)
      · refine y_iinc (ls' := [some _, some _, some _, some _, some _, _]) rfl rfl rfl rfl ?_
        refine y_goto rfl j_X14_bestSet_10 ?_
        exact ih _ _ _ (by first | omega | (rw [yinc (by omega)]; omega)) (by first | omega | (rw [yinc (by omega)]; omega)) (by first | omega | (rw [yinc (by omega)]; omega))
      · refine y_aload_n rfl rfl ?_
        refine y_iload rfl rfl ?_
        refine y_iconst rfl ?_
        refine y_virt rfl rfl rfl rfl rfl (ySh.t hS rfl) (ySh.n hS rfl) ?_
        refine r_sumOf hS hR (Nat.le_trans hn hX.1) (by decide) (by decide) (fun v_5 => ?_)
        refine y_ret1 ?_
        refine y_iload_n rfl rfl ?_
        refine y_icmp_le rfl j_X14_bestSet_47 (fun h_6 => ?_) (fun h_7 => ?_)
        · refine y_aload_n rfl rfl ?_
          refine y_iload rfl rfl ?_
          refine y_iconst rfl ?_
          refine y_virt rfl rfl rfl rfl rfl (ySh.t hS rfl) (ySh.n hS rfl) ?_
          refine r_sumOf hS hR (Nat.le_trans hn hX.1) (by decide) (by decide) (fun v_8 => ?_)
          refine y_ret1 ?_
          refine y_aload_n rfl rfl ?_
          refine y_iload_n rfl rfl ?_
          refine y_iconst rfl ?_
          refine y_virt rfl rfl rfl rfl rfl (ySh.t hS rfl) (ySh.n hS rfl) ?_
          refine r_sumOf hS hR (Nat.le_trans hn hX.1) (by decide) (by decide) (fun v_9 => ?_)
          refine y_ret1 ?_
          refine y_isub rfl ?_
          refine y_istore (ls' := [some _, some _, some _, some _, some _, some _]) rfl rfl rfl ?_
          refine y_iload rfl rfl ?_
          refine y_if_gt rfl j_X14_bestSet_89 (fun h_10 => ?_) (fun h_11 => ?_)
          · refine y_iload rfl rfl ?_
            refine y_istore_n (ls' := [some _, some _, some _, some _, some _, some _]) rfl rfl rfl ?_
            refine y_iinc (ls' := [some _, some _, some _, some _, some _, some _]) rfl rfl rfl rfl ?_
            refine y_goto rfl j_X14_bestSet_10 ?_
            refine y_fgt (ls := [some _, some _, some _, some _, some _, none]) ⟨rfl, rfl, rfl, rfl, rfl, trivial⟩ ?_
            exact ih _ _ _ (by first | omega | (rw [yinc (by omega)]; omega)) (by first | omega | (rw [yinc (by omega)]; omega)) (by first | omega | (rw [yinc (by omega)]; omega))
          · refine y_iload rfl rfl ?_
            refine y_if_ne rfl j_X14_bestSet_92 (fun h_12 => ?_) (fun h_13 => ?_)
            · refine y_iinc (ls' := [some _, some _, some _, some _, some _, some _]) rfl rfl rfl rfl ?_
              refine y_goto rfl j_X14_bestSet_10 ?_
              refine y_fgt (ls := [some _, some _, some _, some _, some _, none]) ⟨rfl, rfl, rfl, rfl, rfl, trivial⟩ ?_
              exact ih _ _ _ (by first | omega | (rw [yinc (by omega)]; omega)) (by first | omega | (rw [yinc (by omega)]; omega)) (by first | omega | (rw [yinc (by omega)]; omega))
            · refine y_aload_n rfl rfl ?_
              refine y_iload rfl rfl ?_
              refine y_iconst rfl ?_
              refine y_virt rfl rfl rfl rfl rfl (ySh.t hS rfl) (ySh.n hS rfl) ?_
              refine r_sumOf hS hR (Nat.le_trans hn hX.1) (by decide) (by decide) (fun v_14 => ?_)
              refine y_ret1 ?_
              refine y_aload_n rfl rfl ?_
              refine y_iload_n rfl rfl ?_
              refine y_iconst rfl ?_
              refine y_virt rfl rfl rfl rfl rfl (ySh.t hS rfl) (ySh.n hS rfl) ?_
              refine r_sumOf hS hR (Nat.le_trans hn hX.1) (by decide) (by decide) (fun v_15 => ?_)
              refine y_ret1 ?_
              refine y_icmp_ge rfl j_X14_bestSet_92 (fun h_16 => ?_) (fun h_17 => ?_)
              · refine y_iinc (ls' := [some _, some _, some _, some _, some _, some _]) rfl rfl rfl rfl ?_
                refine y_goto rfl j_X14_bestSet_10 ?_
                refine y_fgt (ls := [some _, some _, some _, some _, some _, none]) ⟨rfl, rfl, rfl, rfl, rfl, trivial⟩ ?_
                exact ih _ _ _ (by first | omega | (rw [yinc (by omega)]; omega)) (by first | omega | (rw [yinc (by omega)]; omega)) (by first | omega | (rw [yinc (by omega)]; omega))
              · refine y_iload rfl rfl ?_
                refine y_istore_n (ls' := [some _, some _, some _, some _, some _, some _]) rfl rfl rfl ?_
                refine y_iinc (ls' := [some _, some _, some _, some _, some _, some _]) rfl rfl rfl rfl ?_
                refine y_goto rfl j_X14_bestSet_10 ?_
                refine y_fgt (ls := [some _, some _, some _, some _, some _, none]) ⟨rfl, rfl, rfl, rfl, rfl, trivial⟩ ?_
                exact ih _ _ _ (by first | omega | (rw [yinc (by omega)]; omega)) (by first | omega | (rw [yinc (by omega)]; omega)) (by first | omega | (rw [yinc (by omega)]; omega))
        · refine y_goto rfl j_X14_bestSet_92 ?_
          refine y_iinc (ls' := [some _, some _, some _, some _, some _, _]) rfl rfl rfl rfl ?_
          refine y_goto rfl j_X14_bestSet_10 ?_
          exact ih _ _ _ (by first | omega | (rw [yinc (by omega)]; omega)) (by first | omega | (rw [yinc (by omega)]; omega)) (by first | omega | (rw [yinc (by omega)]; omega))
theorem r_bestSet (hS0 : ySh n tg R) (hR0 : yRI K nb tg I R) (hn : nb ≤ n) {x1 : Int32} (hQ : ∀ v, Q (.inl (some (.int v))) (n, tg, I, R) c s) : yC 244 [.ref 83, .int x1] (n, tg, I, R) c s Q := by
  have hX : yX n tg I R n tg I R := yX.rf
  have hS := hS0
  have hR := hR0
  have h94 : 94 ≤ n := hS0.1
  have hz : ySz I I := hX.sz h94
  have hxn := hX.1
  have hN := hR0.1
  have hnb : 94 ≤ nb := hR0.2.2.2.2.2.2
  refine y_in (M := xm_X14_bestSet) (ls := [some _, some _, _, _, _, _]) rfl rfl rfl ?_
  refine y_aload_n rfl rfl ?_
  refine y_virt rfl rfl rfl rfl rfl (ySh.t hS rfl) (ySh.n hS rfl) ?_
  refine r_clean hS hR (Nat.le_trans hn hX.1)  (fun v_1 => ?_)
  refine y_ret1 ?_
  refine y_istore_n (ls' := [some _, some _, some _, _, _, _]) rfl rfl rfl ?_
  refine y_iconst rfl ?_
  refine y_istore_n (ls' := [some _, some _, some _, some _, _, _]) rfl rfl rfl ?_
  refine y_iconst rfl ?_
  refine y_istore (ls' := [some _, some _, some _, some _, some _, _]) rfl rfl rfl ?_
  exact lp_r_bestSet hS0 hR0 hn hQ 2000 _ _ _ (by decide) (by decide) (by decide)
theorem lp_r_leaseOf (hS0 : ySh n tg R) (hR0 : yRI K nb tg I R) (hn : nb ≤ n) {x1 : Int32} (hQ : ∀ v : Int32, v.toInt = -1 ∨ 0 ≤ v.toInt ∧ v.toInt < (I 90 2).toInt → Q (.inl (some (.int v))) (n, tg, I, R) c s) : ∀ (m : Nat) (x2 : Int32), (0 ≤ x2.toInt) → (x2.toInt ≤ (I 90 2).toInt) → (I 90 2).toInt - x2.toInt < m → yW xm_X14_leaseOf xc_X14_leaseOf_2 [some (.ref 83), some (.int x1), some (.int x2)] [] (n, tg, I, R) c s Q := by
  intro m
  induction m with
  | zero =>
    intro x2 i0 i1 hm
    have hX : yX n tg I R n tg I R := yX.rf
    have hS := hS0
    have hR := hR0
    have h94 : 94 ≤ n := hS0.1
    have hz : ySz I I := hX.sz h94
    have hxn := hX.1
    have hN := hR0.1
    have hnb : 94 ≤ nb := hR0.2.2.2.2.2.2
    exfalso; omega
  | succ m ih =>
    intro x2 i0 i1 hm
    have hX : yX n tg I R n tg I R := yX.rf
    have hS := hS0
    have hR := hR0
    have h94 : 94 ≤ n := hS0.1
    have hz : ySz I I := hX.sz h94
    have hxn := hX.1
    have hN := hR0.1
    have hnb : 94 ≤ nb := hR0.2.2.2.2.2.2
    refine y_iload_n rfl rfl ?_
    refine y_aload_n rfl rfl ?_
    refine y_getR rfl (ySh.t hS rfl) (ySh.n hS rfl) rfl rfl (ySh.r hS rfl) ?_
    refine y_virt rfl rfl rfl rfl rfl (ySh.t hS rfl) (ySh.n hS rfl) ?_
    refine y_in (M := xm_Jx4a65c_size_8abf5) (ls := [some _]) rfl rfl rfl ?_
    refine y_aload_n rfl rfl ?_
    refine y_getI rfl (ySh.t hS rfl) (ySh.n hS rfl) rfl rfl ?_
    refine y_ireturn rfl rfl rfl ?_
    refine y_ret1 ?_
    refine y_icmp_ge rfl j_X14_leaseOf_56 (fun h_1 => ?_) (fun h_2 => ?_)
    · refine y_iconst rfl ?_
      refine y_ireturn rfl rfl rfl ?_
      exact hQ _ (by first | (left; decide) | (right; omega))
    · refine y_aload_n rfl rfl ?_
      refine y_getR rfl (ySh.t hS rfl) (ySh.n hS rfl) rfl rfl (ySh.r hS rfl) ?_
      refine y_iload_n rfl rfl ?_
      refine y_virt rfl rfl rfl rfl rfl (ySh.t hS rfl) (ySh.n hS rfl) ?_
      refine l_get (nb := nb) (ySh.t hS rfl) (ySh.n hS rfl) (Nat.le_trans hn hX.1) hR.l90 (by omega) (by omega) (fun b3 eb_b3 hlo_b3 hb0_b3 ht_b3 => ?_)
      have hb_b3 := Nat.lt_of_lt_of_le hb0_b3 hn
      replace ht_b3 : tg b3 = (18, 0) := (hX.2 _ hb_b3).1.symm.trans ht_b3
      refine y_ret1 ?_
      refine y_cast rfl ((hX.2 _ hb_b3).1.trans ht_b3) (Nat.lt_of_lt_of_le hb_b3 hX.1) ?_
      refine y_getI rfl ((hX.2 _ hb_b3).1.trans ht_b3) (Nat.lt_of_lt_of_le hb_b3 hX.1) rfl rfl ?_
      refine y_iload_n rfl rfl ?_
      refine y_icmp_ne rfl j_X14_leaseOf_50 (fun h_4 => ?_) (fun h_5 => ?_)
      · refine y_iinc (ls' := [some _, some _, some _]) rfl rfl rfl rfl ?_
        refine y_goto rfl j_X14_leaseOf_2 ?_
        exact ih _ (by first | omega | (rw [yinc (by omega)]; omega)) (by first | omega | (rw [yinc (by omega)]; omega)) (by first | omega | (rw [yinc (by omega)]; omega))
      · refine y_aload_n rfl rfl ?_
        refine y_getR rfl (ySh.t hS rfl) (ySh.n hS rfl) rfl rfl (ySh.r hS rfl) ?_
        refine y_iload_n rfl rfl ?_
        refine y_virt rfl rfl rfl rfl rfl (ySh.t hS rfl) (ySh.n hS rfl) ?_
        refine l_get (nb := nb) (ySh.t hS rfl) (ySh.n hS rfl) (Nat.le_trans hn hX.1) hR.l90 (by omega) (by omega) (fun b6 eb_b6 hlo_b6 hb0_b6 ht_b6 => ?_)
        have hb_b6 := Nat.lt_of_lt_of_le hb0_b6 hn
        replace ht_b6 : tg b6 = (18, 0) := (hX.2 _ hb_b6).1.symm.trans ht_b6
        refine y_ret1 ?_
        refine y_cast rfl ((hX.2 _ hb_b6).1.trans ht_b6) (Nat.lt_of_lt_of_le hb_b6 hX.1) ?_
        refine y_getI rfl ((hX.2 _ hb_b6).1.trans ht_b6) (Nat.lt_of_lt_of_le hb_b6 hX.1) rfl rfl ?_
        refine y_if_ne rfl j_X14_leaseOf_50 (fun h_7 => ?_) (fun h_8 => ?_)
        · refine y_iinc (ls' := [some _, some _, some _]) rfl rfl rfl rfl ?_
          refine y_goto rfl j_X14_leaseOf_2 ?_
          exact ih _ (by first | omega | (rw [yinc (by omega)]; omega)) (by first | omega | (rw [yinc (by omega)]; omega)) (by first | omega | (rw [yinc (by omega)]; omega))
        · refine y_iload_n rfl rfl ?_
          refine y_ireturn rfl rfl rfl ?_
          exact hQ _ (by first | (left; decide) | (right; omega))
theorem r_leaseOf (hS0 : ySh n tg R) (hR0 : yRI K nb tg I R) (hn : nb ≤ n) {x1 : Int32} (hQ : ∀ v : Int32, v.toInt = -1 ∨ 0 ≤ v.toInt ∧ v.toInt < (I 90 2).toInt → Q (.inl (some (.int v))) (n, tg, I, R) c s) : yC 197 [.ref 83, .int x1] (n, tg, I, R) c s Q := by
  have hX : yX n tg I R n tg I R := yX.rf
  have hS := hS0
  have hR := hR0
  have h94 : 94 ≤ n := hS0.1
  have hz : ySz I I := hX.sz h94
  have hxn := hX.1
  have hN := hR0.1
  have hnb : 94 ≤ nb := hR0.2.2.2.2.2.2
  refine y_in (M := xm_X14_leaseOf) (ls := [some _, some _, _]) rfl rfl rfl ?_
  refine y_iconst rfl ?_
  refine y_istore_n (ls' := [some _, some _, some _]) rfl rfl rfl ?_
  exact lp_r_leaseOf hS0 hR0 hn hQ 100 _ (by decide) (by rw [yz_0]; omega) (by rw [yz_0]; omega)
end YRO
