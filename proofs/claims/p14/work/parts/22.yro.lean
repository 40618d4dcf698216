/-! THE REFERENCE: helpers that only read (by gen22.py) -/
section YRO
variable {K nb n : Nat} {tg : Nat → yT} {I : Nat → Nat → Int32} {R : Nat → Nat → Value} {c s : Nat} {Q : yQ}
theorem l_iter {l : Nat} (hS : ySh n tg R) (tl : tg l = (7, 0)) (hl : l < n) (hlb : l < nb) (hn : nb ≤ n) (h0 : 0 ≤ (I l 2).toInt) (hQ : ∀ n1 tg1 I1 R1, n1 = n + 1 → yX n tg I R n1 tg1 I1 R1 → yIt nb n1 tg1 I1 R1 n l 0 → Q (.inl (some (.ref n))) (n1, tg1, I1, R1) (c + 1) (s + 4)) : yC 307 [.ref l] (n, tg, I, R) c s Q := by
  refine y_in (M := xm_Jx4a65c_iterator_32c93) (ls := [some _]) rfl rfl rfl ?_
  refine y_newX rfl rfl rfl (fun n1 tg1 I1 R1 hA => ?_)
  have hX := hA.x rfl
  obtain ⟨e1, e2, e3, e4, -⟩ := hA
  have hS1 := hS.x hX
  have h94 : 94 ≤ n := hS.1
  have hro : xN0 ≤ n := Nat.le_trans (by decide) h94
  have hlt : n < n1 := by omega
  have hln : l ≠ n := by omega
  obtain ⟨q1, q2, q3⟩ := hX.2.1 l hl
  refine y_dup rfl rfl ?_
  refine y_aload_n rfl rfl ?_
  refine y_init rfl rfl rfl rfl rfl ?_
  refine y_in (M := xm_Jx35411_init_45d68) (ls := [some _, some _]) rfl rfl rfl ?_
  refine y_aload_n rfl rfl ?_
  refine y_aload_n rfl rfl ?_
  refine y_putR rfl e2 hlt rfl hro rfl rfl ?_
  refine y_aload_n rfl rfl ?_
  refine y_obj rfl hlt rfl ?_
  refine y_aload_n rfl rfl ?_
  refine y_iconst rfl ?_
  refine y_putI rfl e2 hlt rfl hro rfl rfl ?_
  refine y_aload_n rfl rfl ?_
  refine y_aload_n rfl rfl ?_
  refine y_getR rfl e2 hlt rfl rfl upd2_self ?_
  refine y_getI rfl (q1.trans tl) (by omega : l < n1) rfl rfl ?_
  refine y_putI rfl e2 hlt rfl hro rfl rfl ?_
  refine y_return rfl ?_
  refine y_ret0 ?_
  refine y_areturn rfl ?_
  refine hQ _ _ _ _ e1 ((hX.upR (Nat.le_refl n) (upR rfl)).upI (b := n) (Nat.le_refl n) (fun a ha => (upd2_row ha).trans (upd2_row ha))) ⟨hn, hlt, e2, upd2_self, ?_, Int.le_refl 0, ?_, ?_, q1.trans tl, by omega, hlb⟩
  · rw [upd2_ne (.inr (by decide)), upd2_ne (.inr (by decide)), e3]; decide
  · rw [upd2_ne (.inl hln), upd2_ne (.inl hln), q2]; exact h0
  · rw [upd2_self, upd2_ne (.inl hln), upd2_ne (.inl hln), upd2_ne (.inl hln)]
theorem r_isIn {v a b : Int32} {w : yS} (hQ1 : a.toInt ≤ v.toInt → v.toInt ≤ b.toInt → Q (.inl (some (.int (Int32.ofInt 1)))) w c s) (hQ0 : v.toInt < a.toInt ∨ b.toInt < v.toInt → Q (.inl (some (.int (Int32.ofInt 0)))) w c s) : yC 183 [.int v, .int a, .int b] w c s Q := by
  refine y_in (M := xm_X14_isIn) (ls := [some _, some _, some _]) rfl rfl rfl ?_
  refine y_iload_n rfl rfl ?_
  refine y_iload_n rfl rfl ?_
  refine y_icmp_lt rfl j_X14_isIn_14 (fun h_1 => ?_) (fun h_2 => ?_)
  · refine y_iconst rfl ?_
    refine y_ireturn rfl rfl rfl ?_
    exact hQ0 (by omega)
  · refine y_iload_n rfl rfl ?_
    refine y_iload_n rfl rfl ?_
    refine y_icmp_gt rfl j_X14_isIn_14 (fun h_3 => ?_) (fun h_4 => ?_)
    · refine y_iconst rfl ?_
      refine y_ireturn rfl rfl rfl ?_
      exact hQ0 (by omega)
    · refine y_iconst rfl ?_
      refine y_goto rfl j_X14_isIn_15 ?_
      refine y_ireturn rfl rfl rfl ?_
      exact hQ1 (by omega) (by omega)
theorem r_isClean (hS0 : ySh n tg R) (hR0 : yRI K nb tg I R) (hn : nb ≤ n) {x1 : Int32} (h0 : 0 ≤ x1.toInt) (h1 : x1.toInt < (I 92 2).toInt) (hQ1 : Q (.inl (some (.int (Int32.ofInt 1)))) (n, tg, I, R) c s) (hQ0 : Q (.inl (some (.int (Int32.ofInt 0)))) (n, tg, I, R) c s) : yC 220 [.ref 83, .int x1] (n, tg, I, R) c s Q := by
  have hX : yX n tg I R n tg I R := yX.rf
  have hS := hS0
  have hR := hR0
  have h94 : 94 ≤ n := hS0.1
  have hz : ySz I I := hX.sz h94
  have hxn := hX.1
  have hN := hR0.1
  have hnb : 94 ≤ nb := hR0.2.2.2.2.2.2
  refine y_in (M := xm_X14_isClean) (ls := [some _, some _, _]) rfl rfl rfl ?_
  refine y_aload_n rfl rfl ?_
  refine y_getR rfl (ySh.t hS rfl) (ySh.n hS rfl) rfl rfl (ySh.r hS rfl) ?_
  refine y_iload_n rfl rfl ?_
  refine y_virt rfl rfl rfl rfl rfl (ySh.t hS rfl) (ySh.n hS rfl) ?_
  refine l_get (nb := nb) (ySh.t hS rfl) (ySh.n hS rfl) (Nat.le_trans hn hX.1) hR.l92 (by omega) (by omega) (fun b1 eb_b1 hlo_b1 hb0_b1 ht_b1 => ?_)
  have hb_b1 := Nat.lt_of_lt_of_le hb0_b1 hn
  replace ht_b1 := (hX.2.1 _ hb_b1).1.symm.trans ht_b1
  have hw_b1 := hR.frm eb_b1 (by omega)
  refine y_ret1 ?_
  refine y_castA rfl rfl ((hX.2.1 _ hb_b1).1.trans ht_b1) rfl (Nat.lt_of_lt_of_le hb_b1 hX.1) ?_
  refine y_astore_n (ls' := [some _, some _, some _]) rfl rfl rfl ?_
  refine y_bip rfl (by decide) ?_
  refine y_aload_n rfl rfl ?_
  refine y_iconst rfl ?_
  refine y_ialoadC (j := 1) rfl ((hX.2.1 _ hb_b1).1.trans ht_b1) (Nat.lt_of_lt_of_le hb_b1 hX.1) (by decide) (by decide) rfl ?_
  refine y_imul rfl ?_
  refine y_bip rfl (by decide) ?_
  refine y_aload_n rfl rfl ?_
  refine y_iconst rfl ?_
  refine y_ialoadC (j := 0) rfl ((hX.2.1 _ hb_b1).1.trans ht_b1) (Nat.lt_of_lt_of_le hb_b1 hX.1) (by decide) (by decide) rfl ?_
  refine y_imul rfl ?_
  refine y_icmp_ge rfl j_X14_isClean_60 (fun h_2 => ?_) (fun h_3 => ?_)
  · refine y_iconst rfl ?_
    refine y_ireturn rfl rfl rfl ?_
    exact hQ0
  · refine y_bip rfl (by decide) ?_
    refine y_aload_n rfl rfl ?_
    refine y_iconst rfl ?_
    refine y_ialoadC (j := 2) rfl ((hX.2.1 _ hb_b1).1.trans ht_b1) (Nat.lt_of_lt_of_le hb_b1 hX.1) (by decide) (by decide) rfl ?_
    refine y_imul rfl ?_
    refine y_bip rfl (by decide) ?_
    refine y_aload_n rfl rfl ?_
    refine y_iconst rfl ?_
    refine y_ialoadC (j := 0) rfl ((hX.2.1 _ hb_b1).1.trans ht_b1) (Nat.lt_of_lt_of_le hb_b1 hX.1) (by decide) (by decide) rfl ?_
    refine y_imul rfl ?_
    refine y_icmp_ge rfl j_X14_isClean_60 (fun h_4 => ?_) (fun h_5 => ?_)
    · refine y_iconst rfl ?_
      refine y_ireturn rfl rfl rfl ?_
      exact hQ0
    · refine y_bip rfl (by decide) ?_
      refine y_aload_n rfl rfl ?_
      refine y_iconst rfl ?_
      refine y_ialoadC (j := 3) rfl ((hX.2.1 _ hb_b1).1.trans ht_b1) (Nat.lt_of_lt_of_le hb_b1 hX.1) (by decide) (by decide) rfl ?_
      refine y_imul rfl ?_
      refine y_iconst rfl ?_
      refine y_aload_n rfl rfl ?_
      refine y_iconst rfl ?_
      refine y_ialoadC (j := 0) rfl ((hX.2.1 _ hb_b1).1.trans ht_b1) (Nat.lt_of_lt_of_le hb_b1 hX.1) (by decide) (by decide) rfl ?_
      refine y_imul rfl ?_
      refine y_icmp_gt rfl j_X14_isClean_60 (fun h_6 => ?_) (fun h_7 => ?_)
      · refine y_iconst rfl ?_
        refine y_ireturn rfl rfl rfl ?_
        exact hQ0
      · refine y_iconst rfl ?_
        refine y_goto rfl j_X14_isClean_61 ?_
        refine y_ireturn rfl rfl rfl ?_
        exact hQ1
theorem lp_r_clean (hS0 : ySh n tg R) (hR0 : yRI K nb tg I R) (hn : nb ≤ n) (hQ : ∀ v, Q (.inl (some (.int v))) (n, tg, I, R) c s) : ∀ (m : Nat) (x1 : Int32) (x2 : Int32), (0 ≤ x2.toInt) → (x2.toInt ≤ (I 92 2).toInt) → (I 92 2).toInt - x2.toInt < m → yW xm_X14_clean xc_X14_clean_4 [some (.ref 83), some (.int x1), some (.int x2)] [] (n, tg, I, R) c s Q := by
  intro m
  induction m with
  | zero =>
    intro x1 x2 i0 i1 hm
    have hX : yX n tg I R n tg I R := yX.rf
    have hS := hS0
    have hR := hR0
    have h94 : 94 ≤ n := hS0.1
    have hz : ySz I I := hX.sz h94
    have hxn := hX.1
    have hN := hR0.1
    have hnb : 94 ≤ nb := hR0.2.2.2.2.2.2
    exfalso; omega
  | succ m ih =>
    intro x1 x2 i0 i1 hm
    have hX : yX n tg I R n tg I R := yX.rf
    have hS := hS0
    have hR := hR0
    have h94 : 94 ≤ n := hS0.1
    have hz : ySz I I := hX.sz h94
    have hxn := hX.1
    have hN := hR0.1
    have hnb : 94 ≤ nb := hR0.2.2.2.2.2.2
    refine y_iload_n rfl rfl ?_
    refine y_aload_n rfl rfl ?_
    refine y_getR rfl (ySh.t hS rfl) (ySh.n hS rfl) rfl rfl (ySh.r hS rfl) ?_
    refine y_virt rfl rfl rfl rfl rfl (ySh.t hS rfl) (ySh.n hS rfl) ?_
    refine y_in (M := xm_Jx4a65c_size_8abf5) (ls := [some _]) rfl rfl rfl ?_
    refine y_aload_n rfl rfl ?_
    refine y_getI rfl (ySh.t hS rfl) (ySh.n hS rfl) rfl rfl ?_
    refine y_ireturn rfl rfl rfl ?_
    refine y_ret1 ?_
    refine y_icmp_ge rfl j_X14_clean_34 (fun h_1 => ?_) (fun h_2 => ?_)
    · refine y_iload_n rfl rfl ?_
      refine y_ireturn rfl rfl rfl ?_
      exact hQ _
    · refine y_iload_n rfl rfl ?_
      refine y_aload_n rfl rfl ?_
      refine y_iload_n rfl rfl ?_
      refine y_virt rfl rfl rfl rfl rfl (ySh.t hS rfl) (ySh.n hS rfl) ?_
      refine r_isClean hS hR (Nat.le_trans hn hX.1) (by omega) (by omega) ?_ ?_
      · refine y_ret1 ?_
        refine y_static rfl rfl rfl rfl rfl ?_
        refine y_in (M := xm_X14_one) (ls := [some _]) rfl rfl rfl ?_
        refine y_iload_n rfl rfl ?_
        refine y_if_eqF rfl (by decide) ?_
        refine y_iconst rfl ?_
        refine y_goto rfl j_X14_one_9 ?_
        refine y_ireturn rfl rfl rfl ?_
        refine y_ret1 ?_
        refine y_iload_n rfl rfl ?_
        refine y_ishl rfl ?_
        refine y_ior rfl ?_
        refine y_istore_n (ls' := [some _, some _, some _]) rfl rfl rfl ?_
        refine y_iinc (ls' := [some _, some _, some _]) rfl rfl rfl rfl ?_
        refine y_goto rfl j_X14_clean_4 ?_
        exact ih _ _ (by first | omega | (rw [yinc (by omega)]; omega)) (by first | omega | (rw [yinc (by omega)]; omega)) (by first | omega | (rw [yinc (by omega)]; omega))
      · refine y_ret1 ?_
        refine y_static rfl rfl rfl rfl rfl ?_
        refine y_in (M := xm_X14_one) (ls := [some _]) rfl rfl rfl ?_
        refine y_iload_n rfl rfl ?_
        refine y_if_eqT rfl j_X14_one_8 (by decide) ?_
        refine y_iconst rfl ?_
        refine y_ireturn rfl rfl rfl ?_
        refine y_ret1 ?_
        refine y_iload_n rfl rfl ?_
        refine y_ishl rfl ?_
        refine y_ior rfl ?_
        refine y_istore_n (ls' := [some _, some _, some _]) rfl rfl rfl ?_
        refine y_iinc (ls' := [some _, some _, some _]) rfl rfl rfl rfl ?_
        refine y_goto rfl j_X14_clean_4 ?_
        exact ih _ _ (by first | omega | (rw [yinc (by omega)]; omega)) (by first | omega | (rw [yinc (by omega)]; omega)) (by first | omega | (rw [yinc (by omega)]; omega))
theorem r_clean (hS0 : ySh n tg R) (hR0 : yRI K nb tg I R) (hn : nb ≤ n) (hQ : ∀ v, Q (.inl (some (.int v))) (n, tg, I, R) c s) : yC 221 [.ref 83] (n, tg, I, R) c s Q := by
  have hX : yX n tg I R n tg I R := yX.rf
  have hS := hS0
  have hR := hR0
  have h94 : 94 ≤ n := hS0.1
  have hz : ySz I I := hX.sz h94
  have hxn := hX.1
  have hN := hR0.1
  have hnb : 94 ≤ nb := hR0.2.2.2.2.2.2
  refine y_in (M := xm_X14_clean) (ls := [some _, _, _]) rfl rfl rfl ?_
  refine y_iconst rfl ?_
  refine y_istore_n (ls' := [some _, some _, _]) rfl rfl rfl ?_
  refine y_iconst rfl ?_
  refine y_istore_n (ls' := [some _, some _, some _]) rfl rfl rfl ?_
  exact lp_r_clean hS0 hR0 hn hQ 100 _ _ (by decide) (by rw [yz_0]; omega) (by rw [yz_0]; omega)
theorem lp_r_sumOf (hS0 : ySh n tg R) (hR0 : yRI K nb tg I R) (hn : nb ≤ n) {x1 x2 : Int32} (hw0 : 0 ≤ x2.toInt) (hw1 : x2.toInt < 7) (hQ : ∀ v, Q (.inl (some (.int v))) (n, tg, I, R) c s) : ∀ (m : Nat) (x3 : Int32) (x4 : Int32), (0 ≤ x4.toInt) → (x4.toInt ≤ (I 92 2).toInt) → (I 92 2).toInt - x4.toInt < m → yW xm_X14_sumOf xc_X14_sumOf_5 [some (.ref 83), some (.int x1), some (.int x2), some (.int x3), some (.int x4)] [] (n, tg, I, R) c s Q := by
  intro m
  induction m with
  | zero =>
    intro x3 x4 i0 i1 hm
    have hX : yX n tg I R n tg I R := yX.rf
    have hS := hS0
    have hR := hR0
    have h94 : 94 ≤ n := hS0.1
    have hz : ySz I I := hX.sz h94
    have hxn := hX.1
    have hN := hR0.1
    have hnb : 94 ≤ nb := hR0.2.2.2.2.2.2
    exfalso; omega
  | succ m ih =>
    intro x3 x4 i0 i1 hm
    have hX : yX n tg I R n tg I R := yX.rf
    have hS := hS0
    have hR := hR0
    have h94 : 94 ≤ n := hS0.1
    have hz : ySz I I := hX.sz h94
    have hxn := hX.1
    have hN := hR0.1
    have hnb : 94 ≤ nb := hR0.2.2.2.2.2.2
    refine y_iload rfl rfl ?_
    refine y_aload_n rfl rfl ?_
    refine y_getR rfl (ySh.t hS rfl) (ySh.n hS rfl) rfl rfl (ySh.r hS rfl) ?_
    refine y_virt rfl rfl rfl rfl rfl (ySh.t hS rfl) (ySh.n hS rfl) ?_
    refine y_in (M := xm_Jx4a65c_size_8abf5) (ls := [some _]) rfl rfl rfl ?_
    refine y_aload_n rfl rfl ?_
    refine y_getI rfl (ySh.t hS rfl) (ySh.n hS rfl) rfl rfl ?_
    refine y_ireturn rfl rfl rfl ?_
    refine y_ret1 ?_
    refine y_icmp_ge rfl j_X14_sumOf_49 (fun h_1 => ?_) (fun h_2 => ?_)
    · refine y_iload_n rfl rfl ?_
      refine y_ireturn rfl rfl rfl ?_
      exact hQ _
    · refine y_iload_n rfl rfl ?_
      refine y_iload rfl rfl ?_
      refine y_static rfl rfl rfl rfl rfl ?_
      refine y_in (M := xm_X14_has) (ls := [some _, some _]) rfl rfl rfl ?_
      refine y_iload_n rfl rfl ?_
      refine y_iload_n rfl rfl ?_
      refine y_ishr rfl ?_
      refine y_iconst rfl ?_
      refine y_iand rfl ?_
      refine y_iconst rfl ?_
      refine y_icmp_ne rfl j_X14_has_13 (fun h_3 => ?_) (fun h_4 => ?_)
      · rw [yz_1] at h_3
        refine y_iconst rfl ?_
        refine y_ireturn rfl rfl rfl ?_
        refine y_ret1 ?_
        refine y_if_eqT rfl j_X14_sumOf_43 (by decide) ?_
        refine y_iinc (ls' := [some _, some _, some _, some _, some _]) rfl rfl rfl rfl ?_
        refine y_goto rfl j_X14_sumOf_5 ?_
        exact ih _ _ (by first | omega | (rw [yinc (by omega)]; omega)) (by first | omega | (rw [yinc (by omega)]; omega)) (by first | omega | (rw [yinc (by omega)]; omega))
      · rw [yz_1] at h_4
        refine y_iconst rfl ?_
        refine y_goto rfl j_X14_has_14 ?_
        refine y_ireturn rfl rfl rfl ?_
        refine y_ret1 ?_
        refine y_if_eqF rfl (by decide) ?_
        refine y_iload_n rfl rfl ?_
        refine y_aload_n rfl rfl ?_
        refine y_getR rfl (ySh.t hS rfl) (ySh.n hS rfl) rfl rfl (ySh.r hS rfl) ?_
        refine y_iload rfl rfl ?_
        refine y_virt rfl rfl rfl rfl rfl (ySh.t hS rfl) (ySh.n hS rfl) ?_
        refine l_get (nb := nb) (ySh.t hS rfl) (ySh.n hS rfl) (Nat.le_trans hn hX.1) hR.l92 (by omega) (by omega) (fun b5 eb_b5 hlo_b5 hb0_b5 ht_b5 => ?_)
        have hb_b5 := Nat.lt_of_lt_of_le hb0_b5 hn
        replace ht_b5 := (hX.2.1 _ hb_b5).1.symm.trans ht_b5
        have hw_b5 := hR.frm eb_b5 (by omega)
        refine y_ret1 ?_
        refine y_castA rfl rfl ((hX.2.1 _ hb_b5).1.trans ht_b5) rfl (Nat.lt_of_lt_of_le hb_b5 hX.1) ?_
        refine y_iload_n rfl rfl ?_
        refine y_iaload rfl ((hX.2.1 _ hb_b5).1.trans ht_b5) (Nat.lt_of_lt_of_le hb_b5 hX.1) (by omega) (by omega) ?_
        refine y_iadd rfl ?_
        refine y_istore_n (ls' := [some _, some _, some _, some _, some _]) rfl rfl rfl ?_
        refine y_iinc (ls' := [some _, some _, some _, some _, some _]) rfl rfl rfl rfl ?_
        refine y_goto rfl j_X14_sumOf_5 ?_
        exact ih _ _ (by first | omega | (rw [yinc (by omega)]; omega)) (by first | omega | (rw [yinc (by omega)]; omega)) (by first | omega | (rw [yinc (by omega)]; omega))
theorem r_sumOf (hS0 : ySh n tg R) (hR0 : yRI K nb tg I R) (hn : nb ≤ n) {x1 x2 : Int32} (hw0 : 0 ≤ x2.toInt) (hw1 : x2.toInt < 7) (hQ : ∀ v, Q (.inl (some (.int v))) (n, tg, I, R) c s) : yC 222 [.ref 83, .int x1, .int x2] (n, tg, I, R) c s Q := by
  have hX : yX n tg I R n tg I R := yX.rf
  have hS := hS0
  have hR := hR0
  have h94 : 94 ≤ n := hS0.1
  have hz : ySz I I := hX.sz h94
  have hxn := hX.1
  have hN := hR0.1
  have hnb : 94 ≤ nb := hR0.2.2.2.2.2.2
  refine y_in (M := xm_X14_sumOf) (ls := [some _, some _, some _, _, _]) rfl rfl rfl ?_
  refine y_iconst rfl ?_
  refine y_istore_n (ls' := [some _, some _, some _, some _, _]) rfl rfl rfl ?_
  refine y_iconst rfl ?_
  refine y_istore (ls' := [some _, some _, some _, some _, some _]) rfl rfl rfl ?_
  exact lp_r_sumOf hS0 hR0 hn hw0 hw1 hQ 100 _ _ (by decide) (by rw [yz_0]; omega) (by rw [yz_0]; omega)
theorem lp_r_bestSet (hS0 : ySh n tg R) (hR0 : yRI K nb tg I R) (hn : nb ≤ n) {x1 : Int32} (hQ : ∀ v, Q (.inl (some (.int v))) (n, tg, I, R) c s) : ∀ (m : Nat) (x2 : Int32) (x3 : Int32) (x4 : Int32), (0 ≤ x4.toInt) → (x4.toInt ≤ 1024) → 1024 - x4.toInt < m → yW xm_X14_bestSet xc_X14_bestSet_10 [some (.ref 83), some (.int x1), some (.int x2), some (.int x3), some (.int x4), none] [] (n, tg, I, R) c s Q := by
  intro m
  induction m with
  | zero =>
    intro x2 x3 x4 i0 i1 hm
    have hX : yX n tg I R n tg I R := yX.rf
    have hS := hS0
    have hR := hR0
    have h94 : 94 ≤ n := hS0.1
    have hz : ySz I I := hX.sz h94
    have hxn := hX.1
    have hN := hR0.1
    have hnb : 94 ≤ nb := hR0.2.2.2.2.2.2
    have hsh := yshl2 (x := I 92 2) (by omega) (by omega)
    exfalso; omega
  | succ m ih =>
    intro x2 x3 x4 i0 i1 hm
    have hX : yX n tg I R n tg I R := yX.rf
    have hS := hS0
    have hR := hR0
    have h94 : 94 ≤ n := hS0.1
    have hz : ySz I I := hX.sz h94
    have hxn := hX.1
    have hN := hR0.1
    have hnb : 94 ≤ nb := hR0.2.2.2.2.2.2
    have hsh := yshl2 (x := I 92 2) (by omega) (by omega)
    refine y_iload rfl rfl ?_
    refine y_iconst rfl ?_
    refine y_aload_n rfl rfl ?_
    refine y_getR rfl (ySh.t hS rfl) (ySh.n hS rfl) rfl rfl (ySh.r hS rfl) ?_
    refine y_virt rfl rfl rfl rfl rfl (ySh.t hS rfl) (ySh.n hS rfl) ?_
    refine y_in (M := xm_Jx4a65c_size_8abf5) (ls := [some _]) rfl rfl rfl ?_
    refine y_aload_n rfl rfl ?_
    refine y_getI rfl (ySh.t hS rfl) (ySh.n hS rfl) rfl rfl ?_
    refine y_ireturn rfl rfl rfl ?_
    refine y_ret1 ?_
    refine y_ishl rfl ?_
    refine y_icmp_ge rfl j_X14_bestSet_98 (fun h_1 => ?_) (fun h_2 => ?_)
    · refine y_iload_n rfl rfl ?_
      refine y_ireturn rfl rfl rfl ?_
      exact hQ _
    · refine y_iload rfl rfl ?_
      refine y_iload_n rfl rfl ?_
      refine y_iconst rfl ?_
      refine y_ixor rfl ?_
      refine y_iand rfl ?_
      refine y_if_ne rfl j_X14_bestSet_92 (fun h_3 => ?_) (fun h_4 => ?_)
      · refine y_iinc (ls' := [some _, some _, some _, some _, some _, _]) rfl rfl rfl rfl ?_
        refine y_goto rfl j_X14_bestSet_10 ?_
        exact ih _ _ _ (by first | omega | (rw [yinc (by omega)]; omega)) (by first | omega | (rw [yinc (by omega)]; omega)) (by first | omega | (rw [yinc (by omega)]; omega))
      · refine y_aload_n rfl rfl ?_
        refine y_iload rfl rfl ?_
        refine y_iconst rfl ?_
        refine y_virt rfl rfl rfl rfl rfl (ySh.t hS rfl) (ySh.n hS rfl) ?_
        refine r_sumOf hS hR (Nat.le_trans hn hX.1) (by decide) (by decide) (fun v_5 => ?_)
        refine y_ret1 ?_
        refine y_iload_n rfl rfl ?_
        refine y_icmp_le rfl j_X14_bestSet_47 (fun h_6 => ?_) (fun h_7 => ?_)
        · refine y_aload_n rfl rfl ?_
          refine y_iload rfl rfl ?_
          refine y_iconst rfl ?_
          refine y_virt rfl rfl rfl rfl rfl (ySh.t hS rfl) (ySh.n hS rfl) ?_
          refine r_sumOf hS hR (Nat.le_trans hn hX.1) (by decide) (by decide) (fun v_8 => ?_)
          refine y_ret1 ?_
          refine y_aload_n rfl rfl ?_
          refine y_iload_n rfl rfl ?_
          refine y_iconst rfl ?_
          refine y_virt rfl rfl rfl rfl rfl (ySh.t hS rfl) (ySh.n hS rfl) ?_
          refine r_sumOf hS hR (Nat.le_trans hn hX.1) (by decide) (by decide) (fun v_9 => ?_)
          refine y_ret1 ?_
          refine y_isub rfl ?_
          refine y_istore (ls' := [some _, some _, some _, some _, some _, some _]) rfl rfl rfl ?_
          refine y_iload rfl rfl ?_
          refine y_if_gt rfl j_X14_bestSet_89 (fun h_10 => ?_) (fun h_11 => ?_)
          · refine y_iload rfl rfl ?_
            refine y_istore_n (ls' := [some _, some _, some _, some _, some _, some _]) rfl rfl rfl ?_
            refine y_iinc (ls' := [some _, some _, some _, some _, some _, some _]) rfl rfl rfl rfl ?_
            refine y_goto rfl j_X14_bestSet_10 ?_
            refine y_fgt (ls := [some _, some _, some _, some _, some _, none]) ⟨rfl, rfl, rfl, rfl, rfl, trivial⟩ ?_
            exact ih _ _ _ (by first | omega | (rw [yinc (by omega)]; omega)) (by first | omega | (rw [yinc (by omega)]; omega)) (by first | omega | (rw [yinc (by omega)]; omega))
          · refine y_iload rfl rfl ?_
            refine y_if_ne rfl j_X14_bestSet_92 (fun h_12 => ?_) (fun h_13 => ?_)
            · refine y_iinc (ls' := [some _, some _, some _, some _, some _, some _]) rfl rfl rfl rfl ?_
              refine y_goto rfl j_X14_bestSet_10 ?_
              refine y_fgt (ls := [some _, some _, some _, some _, some _, none]) ⟨rfl, rfl, rfl, rfl, rfl, trivial⟩ ?_
              exact ih _ _ _ (by first | omega | (rw [yinc (by omega)]; omega)) (by first | omega | (rw [yinc (by omega)]; omega)) (by first | omega | (rw [yinc (by omega)]; omega))
            · refine y_aload_n rfl rfl ?_
              refine y_iload rfl rfl ?_
              refine y_iconst rfl ?_
              refine y_virt rfl rfl rfl rfl rfl (ySh.t hS rfl) (ySh.n hS rfl) ?_
              refine r_sumOf hS hR (Nat.le_trans hn hX.1) (by decide) (by decide) (fun v_14 => ?_)
              refine y_ret1 ?_
              refine y_aload_n rfl rfl ?_
              refine y_iload_n rfl rfl ?_
              refine y_iconst rfl ?_
              refine y_virt rfl rfl rfl rfl rfl (ySh.t hS rfl) (ySh.n hS rfl) ?_
              refine r_sumOf hS hR (Nat.le_trans hn hX.1) (by decide) (by decide) (fun v_15 => ?_)
              refine y_ret1 ?_
              refine y_icmp_ge rfl j_X14_bestSet_92 (fun h_16 => ?_) (fun h_17 => ?_)
              · refine y_iinc (ls' := [some _, some _, some _, some _, some _, some _]) rfl rfl rfl rfl ?_
                refine y_goto rfl j_X14_bestSet_10 ?_
                refine y_fgt (ls := [some _, some _, some _, some _, some _, none]) ⟨rfl, rfl, rfl, rfl, rfl, trivial⟩ ?_
                exact ih _ _ _ (by first | omega | (rw [yinc (by omega)]; omega)) (by first | omega | (rw [yinc (by omega)]; omega)) (by first | omega | (rw [yinc (by omega)]; omega))
              · refine y_iload rfl rfl ?_
                refine y_istore_n (ls' := [some _, some _, some _, some _, some _, some _]) rfl rfl rfl ?_
                refine y_iinc (ls' := [some _, some _, some _, some _, some _, some _]) rfl rfl rfl rfl ?_
                refine y_goto rfl j_X14_bestSet_10 ?_
                refine y_fgt (ls := [some _, some _, some _, some _, some _, none]) ⟨rfl, rfl, rfl, rfl, rfl, trivial⟩ ?_
                exact ih _ _ _ (by first | omega | (rw [yinc (by omega)]; omega)) (by first | omega | (rw [yinc (by omega)]; omega)) (by first | omega | (rw [yinc (by omega)]; omega))
        · refine y_goto rfl j_X14_bestSet_92 ?_
          refine y_iinc (ls' := [some _, some _, some _, some _, some _, _]) rfl rfl rfl rfl ?_
          refine y_goto rfl j_X14_bestSet_10 ?_
          exact ih _ _ _ (by first | omega | (rw [yinc (by omega)]; omega)) (by first | omega | (rw [yinc (by omega)]; omega)) (by first | omega | (rw [yinc (by omega)]; omega))
theorem r_bestSet (hS0 : ySh n tg R) (hR0 : yRI K nb tg I R) (hn : nb ≤ n) {x1 : Int32} (hQ : ∀ v, Q (.inl (some (.int v))) (n, tg, I, R) c s) : yC 244 [.ref 83, .int x1] (n, tg, I, R) c s Q := by
  have hX : yX n tg I R n tg I R := yX.rf
  have hS := hS0
  have hR := hR0
  have h94 : 94 ≤ n := hS0.1
  have hz : ySz I I := hX.sz h94
  have hxn := hX.1
  have hN := hR0.1
  have hnb : 94 ≤ nb := hR0.2.2.2.2.2.2
  refine y_in (M := xm_X14_bestSet) (ls := [some _, some _, _, _, _, _]) rfl rfl rfl ?_
  refine y_aload_n rfl rfl ?_
  refine y_virt rfl rfl rfl rfl rfl (ySh.t hS rfl) (ySh.n hS rfl) ?_
  refine r_clean hS hR (Nat.le_trans hn hX.1)  (fun v_1 => ?_)
  refine y_ret1 ?_
  refine y_istore_n (ls' := [some _, some _, some _, _, _, _]) rfl rfl rfl ?_
  refine y_iconst rfl ?_
  refine y_istore_n (ls' := [some _, some _, some _, some _, _, _]) rfl rfl rfl ?_
  refine y_iconst rfl ?_
  refine y_istore (ls' := [some _, some _, some _, some _, some _, _]) rfl rfl rfl ?_
  exact lp_r_bestSet hS0 hR0 hn hQ 2000 _ _ _ (by decide) (by decide) (by decide)
abbrev yMt (I : Nat → Nat → Int32) (R : Nat → Nat → Value) (t : Int32) (i : Nat) : Prop := (I (yAd R 90 i) 0).toInt = t.toInt ∧ (I (yAd R 90 i) 5).toInt = 0
theorem lp_r_leaseOf (hS0 : ySh n tg R) (hR0 : yRI K nb tg I R) (hn : nb ≤ n) {x1 : Int32} (hQ : ∀ v : Int32, (v.toInt = -1 ∧ ∀ i : Nat, (i : Int) < (I 90 2).toInt → ¬ yMt I R x1 i) ∨ (0 ≤ v.toInt ∧ v.toInt < (I 90 2).toInt ∧ yMt I R x1 v.toInt.toNat) → Q (.inl (some (.int v))) (n, tg, I, R) c s) : ∀ (m : Nat) (x2 : Int32), (0 ≤ x2.toInt) → (x2.toInt ≤ (I 90 2).toInt) → (∀ i : Nat, (i : Int) < x2.toInt → ¬ yMt I R x1 i) → (I 90 2).toInt - x2.toInt < m → yW xm_X14_leaseOf xc_X14_leaseOf_2 [some (.ref 83), some (.int x1), some (.int x2)] [] (n, tg, I, R) c s Q := by
  intro m
  induction m with
  | zero =>
    intro x2 i0 i1 i2 hm
    have hX : yX n tg I R n tg I R := yX.rf
    have hS := hS0
    have hR := hR0
    have h94 : 94 ≤ n := hS0.1
    have hz : ySz I I := hX.sz h94
    have hxn := hX.1
    have hN := hR0.1
    have hnb : 94 ≤ nb := hR0.2.2.2.2.2.2
    exfalso; omega
  | succ m ih =>
    intro x2 i0 i1 i2 hm
    have hX : yX n tg I R n tg I R := yX.rf
    have hS := hS0
    have hR := hR0
    have h94 : 94 ≤ n := hS0.1
    have hz : ySz I I := hX.sz h94
    have hxn := hX.1
    have hN := hR0.1
    have hnb : 94 ≤ nb := hR0.2.2.2.2.2.2
    refine y_iload_n rfl rfl ?_
    refine y_aload_n rfl rfl ?_
    refine y_getR rfl (ySh.t hS rfl) (ySh.n hS rfl) rfl rfl (ySh.r hS rfl) ?_
    refine y_virt rfl rfl rfl rfl rfl (ySh.t hS rfl) (ySh.n hS rfl) ?_
    refine y_in (M := xm_Jx4a65c_size_8abf5) (ls := [some _]) rfl rfl rfl ?_
    refine y_aload_n rfl rfl ?_
    refine y_getI rfl (ySh.t hS rfl) (ySh.n hS rfl) rfl rfl ?_
    refine y_ireturn rfl rfl rfl ?_
    refine y_ret1 ?_
    refine y_icmp_ge rfl j_X14_leaseOf_56 (fun h_1 => ?_) (fun h_2 => ?_)
    · refine y_iconst rfl ?_
      refine y_ireturn rfl rfl rfl ?_
      exact hQ _ (.inl ⟨by decide, fun i hi => i2 i (by omega)⟩)
    · refine y_aload_n rfl rfl ?_
      refine y_getR rfl (ySh.t hS rfl) (ySh.n hS rfl) rfl rfl (ySh.r hS rfl) ?_
      refine y_iload_n rfl rfl ?_
      refine y_virt rfl rfl rfl rfl rfl (ySh.t hS rfl) (ySh.n hS rfl) ?_
      refine l_get (nb := nb) (ySh.t hS rfl) (ySh.n hS rfl) (Nat.le_trans hn hX.1) hR.l90 (by omega) (by omega) (fun b3 eb_b3 hlo_b3 hb0_b3 ht_b3 => ?_)
      have hb_b3 := Nat.lt_of_lt_of_le hb0_b3 hn
      replace ht_b3 := (hX.2.1 _ hb_b3).1.symm.trans ht_b3
      have hw_b3 := hR.lea hlo_b3 hb0_b3 ((hX.2.1 _ hb_b3).1.trans ht_b3)
      subst eb_b3
      refine y_ret1 ?_
      refine y_cast rfl ((hX.2.1 _ hb_b3).1.trans ht_b3) (Nat.lt_of_lt_of_le hb_b3 hX.1) ?_
      refine y_getI rfl ((hX.2.1 _ hb_b3).1.trans ht_b3) (Nat.lt_of_lt_of_le hb_b3 hX.1) rfl rfl ?_
      refine y_iload_n rfl rfl ?_
      refine y_icmp_ne rfl j_X14_leaseOf_50 (fun h_4 => ?_) (fun h_5 => ?_)
      · refine y_iinc (ls' := [some _, some _, some _]) rfl rfl rfl rfl ?_
        refine y_goto rfl j_X14_leaseOf_2 ?_
        exact ih _ (by first | omega | (rw [yinc (by omega)]; omega)) (by first | omega | (rw [yinc (by omega)]; omega)) (fun i hi => by
                rw [yinc (by omega)] at hi
                by_cases hix : (i : Int) = x2.toInt
                · have hix2 : i = x2.toInt.toNat := by omega
                  subst hix2
                  intro hm2
                  have h1 := hm2.1
                  have h2 := hm2.2
                  omega
                · exact i2 i (by omega)) (by first | omega | (rw [yinc (by omega)]; omega))
      · refine y_aload_n rfl rfl ?_
        refine y_getR rfl (ySh.t hS rfl) (ySh.n hS rfl) rfl rfl (ySh.r hS rfl) ?_
        refine y_iload_n rfl rfl ?_
        refine y_virt rfl rfl rfl rfl rfl (ySh.t hS rfl) (ySh.n hS rfl) ?_
        refine l_get (nb := nb) (ySh.t hS rfl) (ySh.n hS rfl) (Nat.le_trans hn hX.1) hR.l90 (by omega) (by omega) (fun b6 eb_b6 hlo_b6 hb0_b6 ht_b6 => ?_)
        have hb_b6 := Nat.lt_of_lt_of_le hb0_b6 hn
        replace ht_b6 := (hX.2.1 _ hb_b6).1.symm.trans ht_b6
        have hw_b6 := hR.lea hlo_b6 hb0_b6 ((hX.2.1 _ hb_b6).1.trans ht_b6)
        subst eb_b6
        refine y_ret1 ?_
        refine y_cast rfl ((hX.2.1 _ hb_b6).1.trans ht_b6) (Nat.lt_of_lt_of_le hb_b6 hX.1) ?_
        refine y_getI rfl ((hX.2.1 _ hb_b6).1.trans ht_b6) (Nat.lt_of_lt_of_le hb_b6 hX.1) rfl rfl ?_
        refine y_if_ne rfl j_X14_leaseOf_50 (fun h_7 => ?_) (fun h_8 => ?_)
        · refine y_iinc (ls' := [some _, some _, some _]) rfl rfl rfl rfl ?_
          refine y_goto rfl j_X14_leaseOf_2 ?_
          exact ih _ (by first | omega | (rw [yinc (by omega)]; omega)) (by first | omega | (rw [yinc (by omega)]; omega)) (fun i hi => by
                  rw [yinc (by omega)] at hi
                  by_cases hix : (i : Int) = x2.toInt
                  · have hix2 : i = x2.toInt.toNat := by omega
                    subst hix2
                    intro hm2
                    have h1 := hm2.1
                    have h2 := hm2.2
                    omega
                  · exact i2 i (by omega)) (by first | omega | (rw [yinc (by omega)]; omega))
        · refine y_iload_n rfl rfl ?_
          refine y_ireturn rfl rfl rfl ?_
          exact hQ _ (.inr ⟨by omega, by omega, by omega, by omega⟩)
theorem r_leaseOf (hS0 : ySh n tg R) (hR0 : yRI K nb tg I R) (hn : nb ≤ n) {x1 : Int32} (hQ : ∀ v : Int32, (v.toInt = -1 ∧ ∀ i : Nat, (i : Int) < (I 90 2).toInt → ¬ yMt I R x1 i) ∨ (0 ≤ v.toInt ∧ v.toInt < (I 90 2).toInt ∧ yMt I R x1 v.toInt.toNat) → Q (.inl (some (.int v))) (n, tg, I, R) c s) : yC 197 [.ref 83, .int x1] (n, tg, I, R) c s Q := by
  have hX : yX n tg I R n tg I R := yX.rf
  have hS := hS0
  have hR := hR0
  have h94 : 94 ≤ n := hS0.1
  have hz : ySz I I := hX.sz h94
  have hxn := hX.1
  have hN := hR0.1
  have hnb : 94 ≤ nb := hR0.2.2.2.2.2.2
  refine y_in (M := xm_X14_leaseOf) (ls := [some _, some _, _]) rfl rfl rfl ?_
  refine y_iconst rfl ?_
  refine y_istore_n (ls' := [some _, some _, some _]) rfl rfl rfl ?_
  exact lp_r_leaseOf hS0 hR0 hn hQ 100 _ (by decide) (by rw [yz_0]; omega) (fun i hi => by rw [yz_0] at hi; omega) (by rw [yz_0]; omega)
theorem lp_r_all {a b : Nat} (ht_pa : tg a = (0, 9)) (ha_pa : a < n) (hQ : ∀ v, Q (.inl (some (.int v))) (n, tg, I, R) c s) : ∀ (m : Nat) (x2 : Int32) (x4 : Int32) (x5 : Int32), (x4.toInt = 9) → (0 ≤ x5.toInt) → (x5.toInt ≤ 9) → 9 - x5.toInt < m → yW xm_X13_all xc_X13_all_11 [some (.ref b), some (.ref a), some (.int x2), some (.ref a), some (.int x4), some (.int x5), none] [] (n, tg, I, R) c s Q := by
  intro m
  induction m with
  | zero => intro x2 x4 x5 i0 i1 i2 hm; exfalso; omega
  | succ m ih =>
    intro x2 x4 x5 i0 i1 i2 hm
    refine y_iload rfl rfl ?_
    refine y_iload rfl rfl ?_
    refine y_icmp_ge rfl j_X13_all_35 (fun h_1 => ?_) (fun h_2 => ?_)
    · refine y_iload_n rfl rfl ?_
      refine y_ireturn rfl rfl rfl ?_
      exact hQ _
    · refine y_aload_n rfl rfl ?_
      refine y_iload rfl rfl ?_
      refine y_iaload rfl ht_pa ha_pa (by omega) (by omega) ?_
      refine y_istore (ls' := [some _, some _, some _, some _, some _, some _, some _]) rfl rfl rfl ?_
      refine y_iload_n rfl rfl ?_
      refine y_iload rfl rfl ?_
      refine y_iadd rfl ?_
      refine y_istore_n (ls' := [some _, some _, some _, some _, some _, some _, some _]) rfl rfl rfl ?_
      refine y_iinc (ls' := [some _, some _, some _, some _, some _, some _, some _]) rfl rfl rfl rfl ?_
      refine y_goto rfl j_X13_all_11 ?_
      refine y_fgt (ls := [some _, some _, some _, some _, some _, some _, none]) ⟨rfl, rfl, rfl, rfl, rfl, rfl, trivial⟩ ?_
      exact ih _ _ _ (by assumption) (by first | omega | (rw [yinc (by omega)]; omega)) (by first | omega | (rw [yinc (by omega)]; omega)) (by first | omega | (rw [yinc (by omega)]; omega))
theorem r_all {a b : Nat} (ht_pa : tg a = (0, 9)) (ha_pa : a < n) (hQ : ∀ v, Q (.inl (some (.int v))) (n, tg, I, R) c s) : yC 181 [.ref b, .ref a] (n, tg, I, R) c s Q := by
  refine y_in (M := xm_X13_all) (ls := [some _, some _, _, _, _, _, _]) rfl rfl rfl ?_
  refine y_iconst rfl ?_
  refine y_istore_n (ls' := [some _, some _, some _, _, _, _, _]) rfl rfl rfl ?_
  refine y_aload_n rfl rfl ?_
  refine y_astore_n (ls' := [some _, some _, some _, some _, _, _, _]) rfl rfl rfl ?_
  refine y_aload_n rfl rfl ?_
  refine y_alenI (v := 9) rfl ht_pa rfl ha_pa (by decide) ?_
  refine y_istore (ls' := [some _, some _, some _, some _, some _, _, _]) rfl rfl rfl ?_
  refine y_iconst rfl ?_
  refine y_istore (ls' := [some _, some _, some _, some _, some _, some _, _]) rfl rfl rfl ?_
  exact lp_r_all ht_pa ha_pa hQ 100 _ _ _ (by decide) (by decide) (by decide) (by decide)
theorem r_part (hS0 : ySh n tg R) (hR0 : yRI K nb tg I R) (hn : nb ≤ n) {b : Nat} (hlo_b : 94 ≤ b) (hb0_b : b < nb) (ht_b : tg b = (19, 0)) {x1 : Int32} (hQ : ∀ v, Q (.inl (some (.int v))) (n, tg, I, R) c s) : yC 176 [.ref b, .int x1] (n, tg, I, R) c s Q := by
  have hX : yX n tg I R n tg I R := yX.rf
  have hS := hS0
  have hR := hR0
  have h94 : 94 ≤ n := hS0.1
  have hz : ySz I I := hX.sz h94
  have hxn := hX.1
  have hN := hR0.1
  have hnb : 94 ≤ nb := hR0.2.2.2.2.2.2
  have hb_b := Nat.lt_of_lt_of_le hb0_b hn
  have hpb := (hR0.sal hlo_b hb0_b ht_b).2.2
  refine y_in (M := xm_X11_part) (ls := [some _, some _]) rfl rfl rfl ?_
  refine y_iload_n rfl rfl ?_
  refine y_iconst rfl ?_
  refine y_iadd rfl ?_
  refine y_aload_n rfl rfl ?_
  refine y_getI rfl ((hX.2.1 _ hb_b).1.trans ht_b) (Nat.lt_of_lt_of_le hb_b hX.1) rfl rfl ?_
  refine y_icmp_ge rfl j_X11_part_22 (fun h_1 => ?_) (fun h_2 => ?_)
  · refine y_aload_n rfl rfl ?_
    refine y_getI rfl ((hX.2.1 _ hb_b).1.trans ht_b) (Nat.lt_of_lt_of_le hb_b hX.1) rfl rfl ?_
    refine y_aload_n rfl rfl ?_
    refine y_getI rfl ((hX.2.1 _ hb_b).1.trans ht_b) (Nat.lt_of_lt_of_le hb_b hX.1) rfl rfl ?_
    refine y_aload_n rfl rfl ?_
    refine y_getI rfl ((hX.2.1 _ hb_b).1.trans ht_b) (Nat.lt_of_lt_of_le hb_b hX.1) rfl rfl ?_
    refine y_idiv rfl (fun h => by rw [h] at hpb; revert hpb; decide) ?_
    refine y_aload_n rfl rfl ?_
    refine y_getI rfl ((hX.2.1 _ hb_b).1.trans ht_b) (Nat.lt_of_lt_of_le hb_b hX.1) rfl rfl ?_
    refine y_iconst rfl ?_
    refine y_isub rfl ?_
    refine y_imul rfl ?_
    refine y_isub rfl ?_
    refine y_ireturn rfl rfl rfl ?_
    exact hQ _
  · refine y_aload_n rfl rfl ?_
    refine y_getI rfl ((hX.2.1 _ hb_b).1.trans ht_b) (Nat.lt_of_lt_of_le hb_b hX.1) rfl rfl ?_
    refine y_aload_n rfl rfl ?_
    refine y_getI rfl ((hX.2.1 _ hb_b).1.trans ht_b) (Nat.lt_of_lt_of_le hb_b hX.1) rfl rfl ?_
    refine y_idiv rfl (fun h => by rw [h] at hpb; revert hpb; decide) ?_
    refine y_goto rfl j_X11_part_43 ?_
    refine y_ireturn rfl rfl rfl ?_
    exact hQ _
theorem lp_r_left (hS0 : ySh n tg R) (hR0 : yRI K nb tg I R) (hn : nb ≤ n) {b : Nat} (hlo_b : 94 ≤ b) (hb0_b : b < nb) (ht_b : tg b = (19, 0)) (hQ : ∀ v, Q (.inl (some (.int v))) (n, tg, I, R) c s) : ∀ (m : Nat) (x1 : Int32) (x2 : Int32), 4294967296 + (I b 4).toInt - x2.toInt < m → yW xm_X11_left xc_X11_left_7 [some (.ref b), some (.int x1), some (.int x2)] [] (n, tg, I, R) c s Q := by
  intro m
  induction m with
  | zero =>
    intro x1 x2 hm
    have hX : yX n tg I R n tg I R := yX.rf
    have hS := hS0
    have hR := hR0
    have h94 : 94 ≤ n := hS0.1
    have hz : ySz I I := hX.sz h94
    have hxn := hX.1
    have hN := hR0.1
    have hnb : 94 ≤ nb := hR0.2.2.2.2.2.2
    have hb_b := Nat.lt_of_lt_of_le hb0_b hn
    have hpb := (hR0.sal hlo_b hb0_b ht_b).2.2
    have q1 := x2.toInt_lt
    have q2 := x2.le_toInt
    exfalso; omega
  | succ m ih =>
    intro x1 x2 hm
    have hX : yX n tg I R n tg I R := yX.rf
    have hS := hS0
    have hR := hR0
    have h94 : 94 ≤ n := hS0.1
    have hz : ySz I I := hX.sz h94
    have hxn := hX.1
    have hN := hR0.1
    have hnb : 94 ≤ nb := hR0.2.2.2.2.2.2
    have hb_b := Nat.lt_of_lt_of_le hb0_b hn
    have hpb := (hR0.sal hlo_b hb0_b ht_b).2.2
    have q1 := x2.toInt_lt
    have q2 := x2.le_toInt
    refine y_iload_n rfl rfl ?_
    refine y_aload_n rfl rfl ?_
    refine y_getI rfl ((hX.2.1 _ hb_b).1.trans ht_b) (Nat.lt_of_lt_of_le hb_b hX.1) rfl rfl ?_
    refine y_icmp_ge rfl j_X11_left_36 (fun h_1 => ?_) (fun h_2 => ?_)
    · refine y_iload_n rfl rfl ?_
      refine y_ireturn rfl rfl rfl ?_
      exact hQ _
    · refine y_aload_n rfl rfl ?_
      refine y_getI rfl ((hX.2.1 _ hb_b).1.trans ht_b) (Nat.lt_of_lt_of_le hb_b hX.1) rfl rfl ?_
      refine y_if_ne rfl j_X11_left_36 (fun h_3 => ?_) (fun h_4 => ?_)
      · refine y_iload_n rfl rfl ?_
        refine y_ireturn rfl rfl rfl ?_
        exact hQ _
      · refine y_iload_n rfl rfl ?_
        refine y_aload_n rfl rfl ?_
        refine y_iload_n rfl rfl ?_
        refine y_virt rfl rfl rfl rfl rfl ((hX.2.1 _ hb_b).1.trans ht_b) (Nat.lt_of_lt_of_le hb_b hX.1) ?_
        refine r_part hS hR (Nat.le_trans hn hX.1) hlo_b hb0_b ((hX.2.1 _ hb_b).1.trans ht_b) (fun v_ => ?_)
        refine y_ret1 ?_
        refine y_iadd rfl ?_
        refine y_istore_n (ls' := [some _, some _, some _]) rfl rfl rfl ?_
        refine y_iinc (ls' := [some _, some _, some _]) rfl rfl rfl rfl ?_
        refine y_goto rfl j_X11_left_7 ?_
        exact ih _ _  (by first | omega | (rw [yinc (by omega)]; omega))
theorem r_left (hS0 : ySh n tg R) (hR0 : yRI K nb tg I R) (hn : nb ≤ n) {b : Nat} (hlo_b : 94 ≤ b) (hb0_b : b < nb) (ht_b : tg b = (19, 0)) (hQ : ∀ v, Q (.inl (some (.int v))) (n, tg, I, R) c s) : yC 178 [.ref b] (n, tg, I, R) c s Q := by
  have hX : yX n tg I R n tg I R := yX.rf
  have hS := hS0
  have hR := hR0
  have h94 : 94 ≤ n := hS0.1
  have hz : ySz I I := hX.sz h94
  have hxn := hX.1
  have hN := hR0.1
  have hnb : 94 ≤ nb := hR0.2.2.2.2.2.2
  have hb_b := Nat.lt_of_lt_of_le hb0_b hn
  have hpb := (hR0.sal hlo_b hb0_b ht_b).2.2
  have q2 := (I b 7).le_toInt
  refine y_in (M := xm_X11_left) (ls := [some _, _, _]) rfl rfl rfl ?_
  refine y_iconst rfl ?_
  refine y_istore_n (ls' := [some _, some _, _]) rfl rfl rfl ?_
  refine y_aload_n rfl rfl ?_
  refine y_getI rfl ((hX.2.1 _ hb_b).1.trans ht_b) (Nat.lt_of_lt_of_le hb_b hX.1) rfl rfl ?_
  refine y_istore_n (ls' := [some _, some _, some _]) rfl rfl rfl ?_
  exact lp_r_left hS0 hR0 hn hlo_b hb0_b ht_b hQ 9000000000 _ _ (by omega)
theorem lp_r_forIt2 {x1 x2 : Int32} {hd : Nat} (ht_pa : tg hd = (0, 5)) (ha_pa : hd < n) (hQ : ∀ v, Q (.inl (some (.int v))) (n, tg, I, R) c s) : ∀ (m : Nat) (x4 : Int32) (x6 : Int32) (x7 : Int32), (x6.toInt = 5) → (0 ≤ x7.toInt) → (x7.toInt ≤ 5) → 5 - x7.toInt < m → yW xm_X14_forIt xc_X14_forIt_98 [some (.ref 83), some (.int x1), some (.int x2), some (.ref hd), some (.int x4), some (.ref hd), some (.int x6), some (.int x7), none] [] (n, tg, I, R) c s Q := by
  intro m
  induction m with
  | zero => intro x4 x6 x7 i0 i1 i2 hm; exfalso; omega
  | succ m ih =>
    intro x4 x6 x7 i0 i1 i2 hm
    refine y_iload rfl rfl ?_
    refine y_iload rfl rfl ?_
    refine y_icmp_ge rfl j_X14_forIt_125 (fun h_1 => ?_) (fun h_2 => ?_)
    · refine y_iload rfl rfl ?_
      refine y_ireturn rfl rfl rfl ?_
      exact hQ _
    · refine y_aload rfl rfl ?_
      refine y_iload rfl rfl ?_
      refine y_iaload rfl ht_pa ha_pa (by omega) (by omega) ?_
      refine y_istore (ls' := [some _, some _, some _, some _, some _, some _, some _, some _, some _]) rfl rfl rfl ?_
      refine y_iload rfl rfl ?_
      refine y_iload rfl rfl ?_
      refine y_iadd rfl ?_
      refine y_istore (ls' := [some _, some _, some _, some _, some _, some _, some _, some _, some _]) rfl rfl rfl ?_
      refine y_iinc (ls' := [some _, some _, some _, some _, some _, some _, some _, some _, some _]) rfl rfl rfl rfl ?_
      refine y_goto rfl j_X14_forIt_98 ?_
      refine y_fgt (ls := [some _, some _, some _, some _, some _, some _, some _, some _, none]) ⟨rfl, rfl, rfl, rfl, rfl, rfl, rfl, rfl, trivial⟩ ?_
      exact ih _ _ _ (by assumption) (by first | omega | (rw [yinc (by omega)]; omega)) (by first | omega | (rw [yinc (by omega)]; omega)) (by first | omega | (rw [yinc (by omega)]; omega))
theorem e_r_forIt (hS0 : ySh n tg R) (hR0 : yRI K nb tg I R) (hn : nb ≤ n) {x1 x2 : Int32} {hd : Nat} (hfr_pa : n ≤ hd) (hx : ∀ n1 tg1 I1 R1, yX n tg I R n1 tg1 I1 R1 → tg1 hd = (0, 5) → hd < n1 → yW xm_X14_forIt xc_X14_forIt_84 [some (.ref 83), some (.int x1), some (.int x2), some (.ref hd), none, none, none, none, none] [] (n1, tg1, I1, R1) c s Q) : ∀ (m : Nat) (z : Int) (it : Nat)  (n1 : Nat) (tg1 : Nat → yT) (I1 : Nat → Nat → Int32) (R1 : Nat → Nat → Value), yX n tg I R n1 tg1 I1 R1 → n ≤ it → yIt nb n1 tg1 I1 R1 it 87 z → tg1 hd = (0, 5) → hd < n1 → hd ≠ it → (I 87 2).toInt - z < m → yW xm_X14_forIt xc_X14_forIt_33 [some (.ref 83), some (.int x1), some (.int x2), some (.ref hd), some (.ref it), none, none, none, none] [] (n1, tg1, I1, R1) c s Q := by
  intro m
  induction m with
  | zero =>
    intro z it n1 tg1 I1 R1 hX hit hI_it ht_pa ha_pa hne_pa hm
    have hz := hX.sz hS0.1
    have h7 := hI_it.2.2.2.2.2.2.1
    exfalso; omega
  | succ m ih =>
    intro z it n1 tg1 I1 R1 hX hit hI_it ht_pa ha_pa hne_pa hm
    have hS := hS0.x hX
    have hR := hR0.x hn hX
    have h94 : 94 ≤ n := hS0.1
    have hz := hX.sz h94
    have hxn := hX.1
    have hN := hR0.1
    have hnb : 94 ≤ nb := hR0.2.2.2.2.2.2
    refine y_aload rfl rfl ?_
    refine y_intf rfl rfl rfl rfl rfl hI_it.2.2.1 hI_it.2.1 ?_
    refine i_hasNext hI_it (fun h_1 => ?_) (fun h_2 => ?_)
    · refine y_ret1 ?_
      refine y_if_eqF rfl (by decide) ?_
      refine y_aload rfl rfl ?_
      refine y_intf rfl rfl rfl rfl rfl hI_it.2.2.1 hI_it.2.1 ?_
      have hz0 := hI_it.2.2.2.2.2.1
      refine i_next (nb := nb) (Nat.le_trans (by decide) (by have := hI_it.1; omega : 94 ≤ _)) (Nat.le_trans hn hX.1) hI_it hR.l87 (by omega) h_1 (fun b3 I3 eb_b3 hlo_b3 hb0_b3 ht_b3 hI1 hIe => ?_)
      have hb_b3 := Nat.lt_of_lt_of_le hb0_b3 hn
      replace ht_b3 := (hX.2.1 _ hb_b3).1.symm.trans ht_b3
      have hI_it := hI1
      have hX := hX.upI (by omega) hIe
      have hS := hS0.x hX
      have hR := hR0.x hn hX
      have hz := hX.sz h94
      have hxn := hX.1
      have hw_b3 := hR.wrd eb_b3 (by omega)
      refine y_ret1 ?_
      refine y_castA rfl rfl ((hX.2.1 _ hb_b3).1.trans ht_b3) rfl (Nat.lt_of_lt_of_le hb_b3 hX.1) ?_
      refine y_astore (ls' := [some _, some _, some _, some _, some _, some _, _, _, _]) rfl rfl rfl ?_
      refine y_aload rfl rfl ?_
      refine y_iconst rfl ?_
      refine y_ialoadC (j := 0) rfl ((hX.2.1 _ hb_b3).1.trans ht_b3) (Nat.lt_of_lt_of_le hb_b3 hX.1) (by decide) (by decide) rfl ?_
      refine y_iload_n rfl rfl ?_
      refine y_icmp_gt rfl j_X14_forIt_81 (fun h_4 => ?_) (fun h_5 => ?_)
      · refine y_goto rfl j_X14_forIt_33 ?_
        refine y_fgt (ls := [some _, some _, some _, some _, some _, none, none, none, none]) ⟨rfl, rfl, rfl, rfl, rfl, trivial⟩ ?_
        exact ih _ _  _ _ _ _ hX (by omega) hI_it ht_pa ha_pa hne_pa  (by omega)
      · refine y_aload rfl rfl ?_
        refine y_iconst rfl ?_
        refine y_ialoadC (j := 2) rfl ((hX.2.1 _ hb_b3).1.trans ht_b3) (Nat.lt_of_lt_of_le hb_b3 hX.1) (by decide) (by decide) rfl ?_
        refine y_iload_n rfl rfl ?_
        refine y_icmp_ne rfl j_X14_forIt_81 (fun h_6 => ?_) (fun h_7 => ?_)
        · refine y_goto rfl j_X14_forIt_33 ?_
          refine y_fgt (ls := [some _, some _, some _, some _, some _, none, none, none, none]) ⟨rfl, rfl, rfl, rfl, rfl, trivial⟩ ?_
          exact ih _ _  _ _ _ _ hX (by omega) hI_it ht_pa ha_pa hne_pa  (by omega)
        · refine y_aload_n rfl rfl ?_
          refine y_aload rfl rfl ?_
          refine y_iconst rfl ?_
          refine y_ialoadC (j := 1) rfl ((hX.2.1 _ hb_b3).1.trans ht_b3) (Nat.lt_of_lt_of_le hb_b3 hX.1) (by decide) (by decide) rfl ?_
          refine y_aload rfl rfl ?_
          refine y_iconst rfl ?_
          refine y_ialoadC (j := 3) rfl ((hX.2.1 _ hb_b3).1.trans ht_b3) (Nat.lt_of_lt_of_le hb_b3 hX.1) (by decide) (by decide) rfl ?_
          refine y_iastore rfl ht_pa ha_pa (Nat.le_trans (by decide) (by omega : 94 ≤ _)) (by omega) (by omega) ?_
          refine y_nameI (fun I8 e8 => ?_)
          have hI_it := hI_it.upI (upI e8) (by omega) (by omega)
          have hX := hX.upI (by omega) (upI e8)
          have hS := hS0.x hX
          have hR := hR0.x hn hX
          have hz := hX.sz h94
          have hxn := hX.1
          refine y_goto rfl j_X14_forIt_33 ?_
          refine y_fgt (ls := [some _, some _, some _, some _, some _, none, none, none, none]) ⟨rfl, rfl, rfl, rfl, rfl, trivial⟩ ?_
          exact ih _ _  _ _ _ _ hX (by omega) hI_it ht_pa ha_pa hne_pa  (by omega)
    · refine y_ret1 ?_
      refine y_if_eqT rfl j_X14_forIt_84 (by decide) ?_
      refine y_fgt (ls := [some _, some _, some _, some _, none, none, none, none, none]) ⟨rfl, rfl, rfl, rfl, trivial⟩ ?_
      exact hx  _ _ _ _ hX ht_pa ha_pa
theorem r_forIt (hS0 : ySh n tg R) (hR0 : yRI K nb tg I R) (hn : nb ≤ n) {x1 x2 : Int32} (hQ : ∀ v n1 tg1 I1 R1 c1 s1, yX n tg I R n1 tg1 I1 R1 → c1 ≤ c + 2 → s1 ≤ s + 9 → Q (.inl (some (.int v))) (n1, tg1, I1, R1) c1 s1) : yC 192 [.ref 83, .int x1, .int x2] (n, tg, I, R) c s Q := by
  have hX : yX n tg I R n tg I R := yX.rf
  have hS := hS0
  have hR := hR0
  have h94 : 94 ≤ n := hS0.1
  have hz : ySz I I := hX.sz h94
  have hxn := hX.1
  have hN := hR0.1
  have hnb : 94 ≤ nb := hR0.2.2.2.2.2.2
  refine y_in (M := xm_X14_forIt) (ls := [some _, some _, some _, _, _, _, _, _, _]) rfl rfl rfl ?_
  refine y_iconst rfl ?_
  refine y_newarrL (m := 5) rfl rfl (by decide) (by decide) rfl (fun n1 tg1 I1 R1 hA => ?_)
  have hnA := hA.1
  have ht_f2 : tg1 n = (0, 5) := hA.2.1
  have ha_f2 : n < n1 := by omega
  have hX := hX.trans (hA.x rfl)
  have hS := hS0.x hX
  have hR := hR0.x hn hX
  have hz := hX.sz h94
  have hxn := hX.1
  refine y_dup rfl rfl ?_
  refine y_iconst rfl ?_
  refine y_iconst rfl ?_
  refine y_iastoreC (j := 0) rfl ht_f2 ha_f2 (Nat.le_trans (by decide) (by omega : 94 ≤ _)) (by decide) (by decide) rfl ?_
  refine y_nameI (fun I3 e3 => ?_)
  have hX := hX.upI (by omega) (upI e3)
  have hS := hS0.x hX
  have hR := hR0.x hn hX
  have hz := hX.sz h94
  have hxn := hX.1
  refine y_dup rfl rfl ?_
  refine y_iconst rfl ?_
  refine y_iconst rfl ?_
  refine y_iastoreC (j := 1) rfl ht_f2 ha_f2 (Nat.le_trans (by decide) (by omega : 94 ≤ _)) (by decide) (by decide) rfl ?_
  refine y_nameI (fun I4 e4 => ?_)
  have hX := hX.upI (by omega) (upI e4)
  have hS := hS0.x hX
  have hR := hR0.x hn hX
  have hz := hX.sz h94
  have hxn := hX.1
  refine y_dup rfl rfl ?_
  refine y_iconst rfl ?_
  refine y_iconst rfl ?_
  refine y_iastoreC (j := 2) rfl ht_f2 ha_f2 (Nat.le_trans (by decide) (by omega : 94 ≤ _)) (by decide) (by decide) rfl ?_
  refine y_nameI (fun I5 e5 => ?_)
  have hX := hX.upI (by omega) (upI e5)
  have hS := hS0.x hX
  have hR := hR0.x hn hX
  have hz := hX.sz h94
  have hxn := hX.1
  refine y_dup rfl rfl ?_
  refine y_iconst rfl ?_
  refine y_iconst rfl ?_
  refine y_iastoreC (j := 3) rfl ht_f2 ha_f2 (Nat.le_trans (by decide) (by omega : 94 ≤ _)) (by decide) (by decide) rfl ?_
  refine y_nameI (fun I6 e6 => ?_)
  have hX := hX.upI (by omega) (upI e6)
  have hS := hS0.x hX
  have hR := hR0.x hn hX
  have hz := hX.sz h94
  have hxn := hX.1
  refine y_dup rfl rfl ?_
  refine y_iconst rfl ?_
  refine y_iconst rfl ?_
  refine y_iastoreC (j := 4) rfl ht_f2 ha_f2 (Nat.le_trans (by decide) (by omega : 94 ≤ _)) (by decide) (by decide) rfl ?_
  refine y_nameI (fun I7 e7 => ?_)
  have hX := hX.upI (by omega) (upI e7)
  have hS := hS0.x hX
  have hR := hR0.x hn hX
  have hz := hX.sz h94
  have hxn := hX.1
  refine y_astore_n (ls' := [some _, some _, some _, some _, _, _, _, _, _]) rfl rfl rfl ?_
  refine y_aload_n rfl rfl ?_
  refine y_getR rfl (ySh.t hS rfl) (ySh.n hS rfl) rfl rfl (ySh.r hS rfl) ?_
  refine y_virt rfl rfl rfl rfl rfl (ySh.t hS rfl) (ySh.n hS rfl) ?_
  refine l_iter (nb := nb) (l := 87) hS (ySh.t hS rfl) (ySh.n hS rfl) (by omega) (Nat.le_trans hn hX.1) hR.l87.2.2.2.1 (fun n8 tg8 I8 R8 hnA hX1 hI_it8 => ?_)
  have ht_f2 := (hX1.2.1 _ ha_f2).1.trans ht_f2
  have ha_f2 : n < n8 := by omega
  have hX := hX.trans hX1
  have hS := hS0.x hX
  have hR := hR0.x hn hX
  have hz := hX.sz h94
  have hxn := hX.1
  refine y_ret1 ?_
  refine y_astore (ls' := [some _, some _, some _, some _, some _, _, _, _, _]) rfl rfl rfl ?_
  refine e_r_forIt hS0 hR0 hn (by omega) (fun  n9 tg9 I9 R9 hX ht_f2 ha_f2 => ?_) 100000 0 _  _ _ _ _ hX (by omega) hI_it8 ht_f2 ha_f2 (by omega) (by omega)
  have hS := hS0.x hX
  have hR := hR0.x hn hX
  have hz := hX.sz h94
  have hxn := hX.1
  refine y_iconst rfl ?_
  refine y_istore (ls' := [some _, some _, some _, some _, some _, _, _, _, _]) rfl rfl rfl ?_
  refine y_aload_n rfl rfl ?_
  refine y_astore (ls' := [some _, some _, some _, some _, some _, some _, _, _, _]) rfl rfl rfl ?_
  refine y_aload rfl rfl ?_
  refine y_alenI (v := 5) rfl ht_f2 rfl ha_f2 (by decide) ?_
  refine y_istore (ls' := [some _, some _, some _, some _, some _, some _, some _, _, _]) rfl rfl rfl ?_
  refine y_iconst rfl ?_
  refine y_istore (ls' := [some _, some _, some _, some _, some _, some _, some _, some _, _]) rfl rfl rfl ?_
  exact lp_r_forIt2 ht_f2 ha_f2 (fun v => hQ _ _ _ _ _ _ _ hX (by omega) (by omega)) 100 _ _ _ (by decide) (by decide) (by decide) (by decide)
theorem r_isAllowed (hS0 : ySh n tg R) (hR0 : yRI K nb tg I R) (hn : nb ≤ n) {x1 x2 : Int32} (hQ1 : ∀ n1 tg1 I1 R1 c1 s1, yX n tg I R n1 tg1 I1 R1 → c1 ≤ c + 2 → s1 ≤ s + 9 → Q (.inl (some (.int (Int32.ofInt 1)))) (n1, tg1, I1, R1) c1 s1) (hQ0 : ∀ n1 tg1 I1 R1 c1 s1, yX n tg I R n1 tg1 I1 R1 → c1 ≤ c + 2 → s1 ≤ s + 9 → Q (.inl (some (.int (Int32.ofInt 0)))) (n1, tg1, I1, R1) c1 s1) : yC 193 [.ref 83, .int x1, .int x2] (n, tg, I, R) c s Q := by
  have hX : yX n tg I R n tg I R := yX.rf
  have hS := hS0
  have hR := hR0
  have h94 : 94 ≤ n := hS0.1
  have hz : ySz I I := hX.sz h94
  have hxn := hX.1
  have hN := hR0.1
  have hnb : 94 ≤ nb := hR0.2.2.2.2.2.2
  refine y_in (M := xm_X14_isAllowed) (ls := [some _, some _, some _]) rfl rfl rfl ?_
  refine y_aload_n rfl rfl ?_
  refine y_iload_n rfl rfl ?_
  refine y_iload_n rfl rfl ?_
  refine y_virt rfl rfl rfl rfl rfl (ySh.t hS rfl) (ySh.n hS rfl) ?_
  refine r_forIt hS hR (Nat.le_trans hn hX.1) (fun v_1_0 n1 tg1 I1 R1 c_1 s_1 hX1 hc_1 hs_1 => ?_)
  have hnA := hX1.1
  have hX := hX.trans hX1
  have hS := hS0.x hX
  have hR := hR0.x hn hX
  have hz := hX.sz h94
  have hxn := hX.1
  refine y_ret1 ?_
  refine y_iconst rfl ?_
  refine y_icmp_lt rfl j_X14_isAllowed_14 (fun h_2 => ?_) (fun h_3 => ?_)
  · rw [yz_3] at h_2
    refine y_iconst rfl ?_
    refine y_ireturn rfl rfl rfl ?_
    exact hQ0 _ _ _ _ _ _ hX (by omega) (by omega)
  · rw [yz_3] at h_3
    refine y_iconst rfl ?_
    refine y_goto rfl j_X14_isAllowed_15 ?_
    refine y_ireturn rfl rfl rfl ?_
    exact hQ1 _ _ _ _ _ _ hX (by omega) (by omega)
theorem r_one {x1 : Int32} (hQ : ∀ v : Int32, 0 ≤ v.toInt ∧ v.toInt ≤ 1 → Q (.inl (some (.int v))) (n, tg, I, R) c s) : yC 184 [.int x1] (n, tg, I, R) c s Q := by
  refine y_in (M := xm_X14_one) (ls := [some _]) rfl rfl rfl ?_
  refine y_iload_n rfl rfl ?_
  refine y_if_eq rfl j_X14_one_8 (fun h_1 => ?_) (fun h_2 => ?_)
  · refine y_iconst rfl ?_
    refine y_ireturn rfl rfl rfl ?_
    exact hQ _ (by decide)
  · refine y_iconst rfl ?_
    refine y_goto rfl j_X14_one_9 ?_
    refine y_ireturn rfl rfl rfl ?_
    exact hQ _ (by decide)
theorem r_missing (hS0 : ySh n tg R) (hR0 : yRI K nb tg I R) (hn : nb ≤ n) {b : Nat} (hlo_b : 94 ≤ b) (hb0_b : b < nb) (ht_b : tg b = (20, 0)) {x2 : Int32} (hQ : ∀ v n1 tg1 I1 R1 c1 s1, yX n tg I R n1 tg1 I1 R1 → c1 ≤ c + 2 → s1 ≤ s + 9 → Q (.inl (some (.int v))) (n1, tg1, I1, R1) c1 s1) : yC 201 [.ref 83, .ref b, .int x2] (n, tg, I, R) c s Q := by
  have hX : yX n tg I R n tg I R := yX.rf
  have hS := hS0
  have hR := hR0
  have h94 : 94 ≤ n := hS0.1
  have hz : ySz I I := hX.sz h94
  have hxn := hX.1
  have hN := hR0.1
  have hnb : 94 ≤ nb := hR0.2.2.2.2.2.2
  have hb_b := Nat.lt_of_lt_of_le hb0_b hn
  refine y_in (M := xm_X14_missing) (ls := [some _, some _, some _]) rfl rfl rfl ?_
  refine y_aload_n rfl rfl ?_
  refine y_getI rfl ((hX.2.1 _ hb_b).1.trans ht_b) (Nat.lt_of_lt_of_le hb_b hX.1) rfl rfl ?_
  refine y_bip rfl (by decide) ?_
  refine y_icmp_eq rfl j_X14_missing_13 (fun h_1 => ?_) (fun h_2 => ?_)
  · rw [yz_8] at h_1
    refine y_iconst rfl ?_
    refine y_static rfl rfl rfl rfl rfl ?_
    refine r_one (fun v_ hv_ => ?_)
    refine y_ret1 ?_
    refine y_aload_n rfl rfl ?_
    refine y_getI rfl ((hX.2.1 _ hb_b).1.trans ht_b) (Nat.lt_of_lt_of_le hb_b hX.1) rfl rfl ?_
    refine y_bip rfl (by decide) ?_
    refine y_icmp_ne rfl j_X14_missing_49 (fun h_3 => ?_) (fun h_4 => ?_)
    · rw [yz_8] at h_3
      refine y_iconst rfl ?_
      refine y_static rfl rfl rfl rfl rfl ?_
      refine r_one (fun v_ hv_ => ?_)
      refine y_ret1 ?_
      refine y_iconst rfl ?_
      refine y_ishl rfl ?_
      refine y_ior rfl ?_
      refine y_aload_n rfl rfl ?_
      refine y_getI rfl ((hX.2.1 _ hb_b).1.trans ht_b) (Nat.lt_of_lt_of_le hb_b hX.1) rfl rfl ?_
      refine y_static rfl rfl rfl rfl rfl ?_
      refine r_one (fun v_ hv_ => ?_)
      refine y_ret1 ?_
      refine y_iconst rfl ?_
      refine y_ishl rfl ?_
      refine y_ior rfl ?_
      refine y_aload_n rfl rfl ?_
      refine y_getI rfl ((hX.2.1 _ hb_b).1.trans ht_b) (Nat.lt_of_lt_of_le hb_b hX.1) rfl rfl ?_
      refine y_iload_n rfl rfl ?_
      refine y_icmp_ne rfl j_X14_missing_78 (fun h_5 => ?_) (fun h_6 => ?_)
      · refine y_iconst rfl ?_
        refine y_static rfl rfl rfl rfl rfl ?_
        refine r_one (fun v_ hv_ => ?_)
        refine y_ret1 ?_
        refine y_iconst rfl ?_
        refine y_ishl rfl ?_
        refine y_ior rfl ?_
        refine y_ireturn rfl rfl rfl ?_
        exact hQ _ _ _ _ _ _ _ hX (by omega) (by omega)
      · refine y_iconst rfl ?_
        refine y_goto rfl j_X14_missing_79 ?_
        refine y_static rfl rfl rfl rfl rfl ?_
        refine r_one (fun v_ hv_ => ?_)
        refine y_ret1 ?_
        refine y_iconst rfl ?_
        refine y_ishl rfl ?_
        refine y_ior rfl ?_
        refine y_ireturn rfl rfl rfl ?_
        exact hQ _ _ _ _ _ _ _ hX (by omega) (by omega)
    · rw [yz_8] at h_4
      refine y_aload_n rfl rfl ?_
      refine y_getI rfl ((hX.2.1 _ hb_b).1.trans ht_b) (Nat.lt_of_lt_of_le hb_b hX.1) rfl rfl ?_
      refine y_if_ne rfl j_X14_missing_49 (fun h_7 => ?_) (fun h_8 => ?_)
      · refine y_iconst rfl ?_
        refine y_static rfl rfl rfl rfl rfl ?_
        refine r_one (fun v_ hv_ => ?_)
        refine y_ret1 ?_
        refine y_iconst rfl ?_
        refine y_ishl rfl ?_
        refine y_ior rfl ?_
        refine y_aload_n rfl rfl ?_
        refine y_getI rfl ((hX.2.1 _ hb_b).1.trans ht_b) (Nat.lt_of_lt_of_le hb_b hX.1) rfl rfl ?_
        refine y_static rfl rfl rfl rfl rfl ?_
        refine r_one (fun v_ hv_ => ?_)
        refine y_ret1 ?_
        refine y_iconst rfl ?_
        refine y_ishl rfl ?_
        refine y_ior rfl ?_
        refine y_aload_n rfl rfl ?_
        refine y_getI rfl ((hX.2.1 _ hb_b).1.trans ht_b) (Nat.lt_of_lt_of_le hb_b hX.1) rfl rfl ?_
        refine y_iload_n rfl rfl ?_
        refine y_icmp_ne rfl j_X14_missing_78 (fun h_9 => ?_) (fun h_10 => ?_)
        · refine y_iconst rfl ?_
          refine y_static rfl rfl rfl rfl rfl ?_
          refine r_one (fun v_ hv_ => ?_)
          refine y_ret1 ?_
          refine y_iconst rfl ?_
          refine y_ishl rfl ?_
          refine y_ior rfl ?_
          refine y_ireturn rfl rfl rfl ?_
          exact hQ _ _ _ _ _ _ _ hX (by omega) (by omega)
        · refine y_iconst rfl ?_
          refine y_goto rfl j_X14_missing_79 ?_
          refine y_static rfl rfl rfl rfl rfl ?_
          refine r_one (fun v_ hv_ => ?_)
          refine y_ret1 ?_
          refine y_iconst rfl ?_
          refine y_ishl rfl ?_
          refine y_ior rfl ?_
          refine y_ireturn rfl rfl rfl ?_
          exact hQ _ _ _ _ _ _ _ hX (by omega) (by omega)
      · refine y_aload_n rfl rfl ?_
        refine y_iconst rfl ?_
        refine y_aload_n rfl rfl ?_
        refine y_getI rfl (ySh.t hS rfl) (ySh.n hS rfl) rfl rfl ?_
        refine y_virt rfl rfl rfl rfl rfl (ySh.t hS rfl) (ySh.n hS rfl) ?_
        refine r_isAllowed hS hR (Nat.le_trans hn hX.1)  (fun n11 tg11 I11 R11 c_11 s_11 hX1 hc_11 hs_11 => ?_) (fun n11 tg11 I11 R11 c_11 s_11 hX1 hc_11 hs_11 => ?_)
        · have hnA := hX1.1
          have hX := hX.trans hX1
          have hS := hS0.x hX
          have hR := hR0.x hn hX
          have hz := hX.sz h94
          have hxn := hX.1
          refine y_ret1 ?_
          refine y_if_neT rfl j_X14_missing_49 (by decide) ?_
          refine y_iconst rfl ?_
          refine y_static rfl rfl rfl rfl rfl ?_
          refine r_one (fun v_ hv_ => ?_)
          refine y_ret1 ?_
          refine y_iconst rfl ?_
          refine y_ishl rfl ?_
          refine y_ior rfl ?_
          refine y_aload_n rfl rfl ?_
          refine y_getI rfl ((hX.2.1 _ hb_b).1.trans ht_b) (Nat.lt_of_lt_of_le hb_b hX.1) rfl rfl ?_
          refine y_static rfl rfl rfl rfl rfl ?_
          refine r_one (fun v_ hv_ => ?_)
          refine y_ret1 ?_
          refine y_iconst rfl ?_
          refine y_ishl rfl ?_
          refine y_ior rfl ?_
          refine y_aload_n rfl rfl ?_
          refine y_getI rfl ((hX.2.1 _ hb_b).1.trans ht_b) (Nat.lt_of_lt_of_le hb_b hX.1) rfl rfl ?_
          refine y_iload_n rfl rfl ?_
          refine y_icmp_ne rfl j_X14_missing_78 (fun h_12 => ?_) (fun h_13 => ?_)
          · refine y_iconst rfl ?_
            refine y_static rfl rfl rfl rfl rfl ?_
            refine r_one (fun v_ hv_ => ?_)
            refine y_ret1 ?_
            refine y_iconst rfl ?_
            refine y_ishl rfl ?_
            refine y_ior rfl ?_
            refine y_ireturn rfl rfl rfl ?_
            exact hQ _ _ _ _ _ _ _ hX (by omega) (by omega)
          · refine y_iconst rfl ?_
            refine y_goto rfl j_X14_missing_79 ?_
            refine y_static rfl rfl rfl rfl rfl ?_
            refine r_one (fun v_ hv_ => ?_)
            refine y_ret1 ?_
            refine y_iconst rfl ?_
            refine y_ishl rfl ?_
            refine y_ior rfl ?_
            refine y_ireturn rfl rfl rfl ?_
            exact hQ _ _ _ _ _ _ _ hX (by omega) (by omega)
        · have hnA := hX1.1
          have hX := hX.trans hX1
          have hS := hS0.x hX
          have hR := hR0.x hn hX
          have hz := hX.sz h94
          have hxn := hX.1
          refine y_ret1 ?_
          refine y_if_neF rfl (by decide) ?_
          refine y_iconst rfl ?_
          refine y_goto rfl j_X14_missing_50 ?_
          refine y_static rfl rfl rfl rfl rfl ?_
          refine r_one (fun v_ hv_ => ?_)
          refine y_ret1 ?_
          refine y_iconst rfl ?_
          refine y_ishl rfl ?_
          refine y_ior rfl ?_
          refine y_aload_n rfl rfl ?_
          refine y_getI rfl ((hX.2.1 _ hb_b).1.trans ht_b) (Nat.lt_of_lt_of_le hb_b hX.1) rfl rfl ?_
          refine y_static rfl rfl rfl rfl rfl ?_
          refine r_one (fun v_ hv_ => ?_)
          refine y_ret1 ?_
          refine y_iconst rfl ?_
          refine y_ishl rfl ?_
          refine y_ior rfl ?_
          refine y_aload_n rfl rfl ?_
          refine y_getI rfl ((hX.2.1 _ hb_b).1.trans ht_b) (Nat.lt_of_lt_of_le hb_b hX.1) rfl rfl ?_
          refine y_iload_n rfl rfl ?_
          refine y_icmp_ne rfl j_X14_missing_78 (fun h_14 => ?_) (fun h_15 => ?_)
          · refine y_iconst rfl ?_
            refine y_static rfl rfl rfl rfl rfl ?_
            refine r_one (fun v_ hv_ => ?_)
            refine y_ret1 ?_
            refine y_iconst rfl ?_
            refine y_ishl rfl ?_
            refine y_ior rfl ?_
            refine y_ireturn rfl rfl rfl ?_
            exact hQ _ _ _ _ _ _ _ hX (by omega) (by omega)
          · refine y_iconst rfl ?_
            refine y_goto rfl j_X14_missing_79 ?_
            refine y_static rfl rfl rfl rfl rfl ?_
            refine r_one (fun v_ hv_ => ?_)
            refine y_ret1 ?_
            refine y_iconst rfl ?_
            refine y_ishl rfl ?_
            refine y_ior rfl ?_
            refine y_ireturn rfl rfl rfl ?_
            exact hQ _ _ _ _ _ _ _ hX (by omega) (by omega)
  · rw [yz_8] at h_2
    refine y_iconst rfl ?_
    refine y_goto rfl j_X14_missing_14 ?_
    refine y_static rfl rfl rfl rfl rfl ?_
    refine r_one (fun v_ hv_ => ?_)
    refine y_ret1 ?_
    refine y_aload_n rfl rfl ?_
    refine y_getI rfl ((hX.2.1 _ hb_b).1.trans ht_b) (Nat.lt_of_lt_of_le hb_b hX.1) rfl rfl ?_
    refine y_bip rfl (by decide) ?_
    refine y_icmp_ne rfl j_X14_missing_49 (fun h_16 => ?_) (fun h_17 => ?_)
    · rw [yz_8] at h_16
      refine y_iconst rfl ?_
      refine y_static rfl rfl rfl rfl rfl ?_
      refine r_one (fun v_ hv_ => ?_)
      refine y_ret1 ?_
      refine y_iconst rfl ?_
      refine y_ishl rfl ?_
      refine y_ior rfl ?_
      refine y_aload_n rfl rfl ?_
      refine y_getI rfl ((hX.2.1 _ hb_b).1.trans ht_b) (Nat.lt_of_lt_of_le hb_b hX.1) rfl rfl ?_
      refine y_static rfl rfl rfl rfl rfl ?_
      refine r_one (fun v_ hv_ => ?_)
      refine y_ret1 ?_
      refine y_iconst rfl ?_
      refine y_ishl rfl ?_
      refine y_ior rfl ?_
      refine y_aload_n rfl rfl ?_
      refine y_getI rfl ((hX.2.1 _ hb_b).1.trans ht_b) (Nat.lt_of_lt_of_le hb_b hX.1) rfl rfl ?_
      refine y_iload_n rfl rfl ?_
      refine y_icmp_ne rfl j_X14_missing_78 (fun h_18 => ?_) (fun h_19 => ?_)
      · refine y_iconst rfl ?_
        refine y_static rfl rfl rfl rfl rfl ?_
        refine r_one (fun v_ hv_ => ?_)
        refine y_ret1 ?_
        refine y_iconst rfl ?_
        refine y_ishl rfl ?_
        refine y_ior rfl ?_
        refine y_ireturn rfl rfl rfl ?_
        exact hQ _ _ _ _ _ _ _ hX (by omega) (by omega)
      · refine y_iconst rfl ?_
        refine y_goto rfl j_X14_missing_79 ?_
        refine y_static rfl rfl rfl rfl rfl ?_
        refine r_one (fun v_ hv_ => ?_)
        refine y_ret1 ?_
        refine y_iconst rfl ?_
        refine y_ishl rfl ?_
        refine y_ior rfl ?_
        refine y_ireturn rfl rfl rfl ?_
        exact hQ _ _ _ _ _ _ _ hX (by omega) (by omega)
    · rw [yz_8] at h_17
      refine y_aload_n rfl rfl ?_
      refine y_getI rfl ((hX.2.1 _ hb_b).1.trans ht_b) (Nat.lt_of_lt_of_le hb_b hX.1) rfl rfl ?_
      refine y_if_ne rfl j_X14_missing_49 (fun h_20 => ?_) (fun h_21 => ?_)
      · refine y_iconst rfl ?_
        refine y_static rfl rfl rfl rfl rfl ?_
        refine r_one (fun v_ hv_ => ?_)
        refine y_ret1 ?_
        refine y_iconst rfl ?_
        refine y_ishl rfl ?_
        refine y_ior rfl ?_
        refine y_aload_n rfl rfl ?_
        refine y_getI rfl ((hX.2.1 _ hb_b).1.trans ht_b) (Nat.lt_of_lt_of_le hb_b hX.1) rfl rfl ?_
        refine y_static rfl rfl rfl rfl rfl ?_
        refine r_one (fun v_ hv_ => ?_)
        refine y_ret1 ?_
        refine y_iconst rfl ?_
        refine y_ishl rfl ?_
        refine y_ior rfl ?_
        refine y_aload_n rfl rfl ?_
        refine y_getI rfl ((hX.2.1 _ hb_b).1.trans ht_b) (Nat.lt_of_lt_of_le hb_b hX.1) rfl rfl ?_
        refine y_iload_n rfl rfl ?_
        refine y_icmp_ne rfl j_X14_missing_78 (fun h_22 => ?_) (fun h_23 => ?_)
        · refine y_iconst rfl ?_
          refine y_static rfl rfl rfl rfl rfl ?_
          refine r_one (fun v_ hv_ => ?_)
          refine y_ret1 ?_
          refine y_iconst rfl ?_
          refine y_ishl rfl ?_
          refine y_ior rfl ?_
          refine y_ireturn rfl rfl rfl ?_
          exact hQ _ _ _ _ _ _ _ hX (by omega) (by omega)
        · refine y_iconst rfl ?_
          refine y_goto rfl j_X14_missing_79 ?_
          refine y_static rfl rfl rfl rfl rfl ?_
          refine r_one (fun v_ hv_ => ?_)
          refine y_ret1 ?_
          refine y_iconst rfl ?_
          refine y_ishl rfl ?_
          refine y_ior rfl ?_
          refine y_ireturn rfl rfl rfl ?_
          exact hQ _ _ _ _ _ _ _ hX (by omega) (by omega)
      · refine y_aload_n rfl rfl ?_
        refine y_iconst rfl ?_
        refine y_aload_n rfl rfl ?_
        refine y_getI rfl (ySh.t hS rfl) (ySh.n hS rfl) rfl rfl ?_
        refine y_virt rfl rfl rfl rfl rfl (ySh.t hS rfl) (ySh.n hS rfl) ?_
        refine r_isAllowed hS hR (Nat.le_trans hn hX.1)  (fun n24 tg24 I24 R24 c_24 s_24 hX1 hc_24 hs_24 => ?_) (fun n24 tg24 I24 R24 c_24 s_24 hX1 hc_24 hs_24 => ?_)
        · have hnA := hX1.1
          have hX := hX.trans hX1
          have hS := hS0.x hX
          have hR := hR0.x hn hX
          have hz := hX.sz h94
          have hxn := hX.1
          refine y_ret1 ?_
          refine y_if_neT rfl j_X14_missing_49 (by decide) ?_
          refine y_iconst rfl ?_
          refine y_static rfl rfl rfl rfl rfl ?_
          refine r_one (fun v_ hv_ => ?_)
          refine y_ret1 ?_
          refine y_iconst rfl ?_
          refine y_ishl rfl ?_
          refine y_ior rfl ?_
          refine y_aload_n rfl rfl ?_
          refine y_getI rfl ((hX.2.1 _ hb_b).1.trans ht_b) (Nat.lt_of_lt_of_le hb_b hX.1) rfl rfl ?_
          refine y_static rfl rfl rfl rfl rfl ?_
          refine r_one (fun v_ hv_ => ?_)
          refine y_ret1 ?_
          refine y_iconst rfl ?_
          refine y_ishl rfl ?_
          refine y_ior rfl ?_
          refine y_aload_n rfl rfl ?_
          refine y_getI rfl ((hX.2.1 _ hb_b).1.trans ht_b) (Nat.lt_of_lt_of_le hb_b hX.1) rfl rfl ?_
          refine y_iload_n rfl rfl ?_
          refine y_icmp_ne rfl j_X14_missing_78 (fun h_25 => ?_) (fun h_26 => ?_)
          · refine y_iconst rfl ?_
            refine y_static rfl rfl rfl rfl rfl ?_
            refine r_one (fun v_ hv_ => ?_)
            refine y_ret1 ?_
            refine y_iconst rfl ?_
            refine y_ishl rfl ?_
            refine y_ior rfl ?_
            refine y_ireturn rfl rfl rfl ?_
            exact hQ _ _ _ _ _ _ _ hX (by omega) (by omega)
          · refine y_iconst rfl ?_
            refine y_goto rfl j_X14_missing_79 ?_
            refine y_static rfl rfl rfl rfl rfl ?_
            refine r_one (fun v_ hv_ => ?_)
            refine y_ret1 ?_
            refine y_iconst rfl ?_
            refine y_ishl rfl ?_
            refine y_ior rfl ?_
            refine y_ireturn rfl rfl rfl ?_
            exact hQ _ _ _ _ _ _ _ hX (by omega) (by omega)
        · have hnA := hX1.1
          have hX := hX.trans hX1
          have hS := hS0.x hX
          have hR := hR0.x hn hX
          have hz := hX.sz h94
          have hxn := hX.1
          refine y_ret1 ?_
          refine y_if_neF rfl (by decide) ?_
          refine y_iconst rfl ?_
          refine y_goto rfl j_X14_missing_50 ?_
          refine y_static rfl rfl rfl rfl rfl ?_
          refine r_one (fun v_ hv_ => ?_)
          refine y_ret1 ?_
          refine y_iconst rfl ?_
          refine y_ishl rfl ?_
          refine y_ior rfl ?_
          refine y_aload_n rfl rfl ?_
          refine y_getI rfl ((hX.2.1 _ hb_b).1.trans ht_b) (Nat.lt_of_lt_of_le hb_b hX.1) rfl rfl ?_
          refine y_static rfl rfl rfl rfl rfl ?_
          refine r_one (fun v_ hv_ => ?_)
          refine y_ret1 ?_
          refine y_iconst rfl ?_
          refine y_ishl rfl ?_
          refine y_ior rfl ?_
          refine y_aload_n rfl rfl ?_
          refine y_getI rfl ((hX.2.1 _ hb_b).1.trans ht_b) (Nat.lt_of_lt_of_le hb_b hX.1) rfl rfl ?_
          refine y_iload_n rfl rfl ?_
          refine y_icmp_ne rfl j_X14_missing_78 (fun h_27 => ?_) (fun h_28 => ?_)
          · refine y_iconst rfl ?_
            refine y_static rfl rfl rfl rfl rfl ?_
            refine r_one (fun v_ hv_ => ?_)
            refine y_ret1 ?_
            refine y_iconst rfl ?_
            refine y_ishl rfl ?_
            refine y_ior rfl ?_
            refine y_ireturn rfl rfl rfl ?_
            exact hQ _ _ _ _ _ _ _ hX (by omega) (by omega)
          · refine y_iconst rfl ?_
            refine y_goto rfl j_X14_missing_79 ?_
            refine y_static rfl rfl rfl rfl rfl ?_
            refine r_one (fun v_ hv_ => ?_)
            refine y_ret1 ?_
            refine y_iconst rfl ?_
            refine y_ishl rfl ?_
            refine y_ior rfl ?_
            refine y_ireturn rfl rfl rfl ?_
            exact hQ _ _ _ _ _ _ _ hX (by omega) (by omega)
theorem r_thingTold (hS0 : ySh n tg R) (hR0 : yRI K nb tg I R) (hn : nb ≤ n) {x1 x2 : Int32} (h0 : 0 ≤ x1.toInt) (h1 : x1.toInt < (I 88 2).toInt) (h2 : 0 ≤ x2.toInt) (h3 : x2.toInt < 7) (hQ : ∀ v n1 tg1 I1 R1 c1 s1, yX n tg I R n1 tg1 I1 R1 → c1 ≤ c + 1 → s1 ≤ s + 7 → Q (.inl (some (.int v))) (n1, tg1, I1, R1) c1 s1) : yC 229 [.ref 83, .int x1, .int x2] (n, tg, I, R) c s Q := by
  have hX : yX n tg I R n tg I R := yX.rf
  have hS := hS0
  have hR := hR0
  have h94 : 94 ≤ n := hS0.1
  have hz : ySz I I := hX.sz h94
  have hxn := hX.1
  have hN := hR0.1
  have hnb : 94 ≤ nb := hR0.2.2.2.2.2.2
  refine y_in (M := xm_X14_thingTold) (ls := [some _, some _, some _, _, _]) rfl rfl rfl ?_
  refine y_aload_n rfl rfl ?_
  refine y_getR rfl (ySh.t hS rfl) (ySh.n hS rfl) rfl rfl (ySh.r hS rfl) ?_
  refine y_iload_n rfl rfl ?_
  refine y_virt rfl rfl rfl rfl rfl (ySh.t hS rfl) (ySh.n hS rfl) ?_
  refine l_get (nb := nb) (ySh.t hS rfl) (ySh.n hS rfl) (Nat.le_trans hn hX.1) hR.l88 (by omega) (by omega) (fun b1 eb_b1 hlo_b1 hb0_b1 ht_b1 => ?_)
  have hb_b1 := Nat.lt_of_lt_of_le hb0_b1 hn
  replace ht_b1 := (hX.2.1 _ hb_b1).1.symm.trans ht_b1
  have hw_b1 := hR.thi hlo_b1 hb0_b1 ((hX.2.1 _ hb_b1).1.trans ht_b1)
  refine y_ret1 ?_
  refine y_cast rfl ((hX.2.1 _ hb_b1).1.trans ht_b1) (Nat.lt_of_lt_of_le hb_b1 hX.1) ?_
  refine y_astore_n (ls' := [some _, some _, some _, some _, _]) rfl rfl rfl ?_
  refine y_bip rfl (by decide) ?_
  refine y_newarrL (m := 7) rfl rfl (by decide) (by decide) rfl (fun n2 tg2 I2 R2 hA => ?_)
  have hnA := hA.1
  have ht_f3 : tg2 n = (0, 7) := hA.2.1
  have ha_f3 : n < n2 := by omega
  have hX := hX.trans (hA.x rfl)
  have hS := hS0.x hX
  have hR := hR0.x hn hX
  have hz := hX.sz h94
  have hxn := hX.1
  have hw_b1 := hR.thi hlo_b1 hb0_b1 ((hX.2.1 _ hb_b1).1.trans ht_b1)
  refine y_dup rfl rfl ?_
  refine y_iconst rfl ?_
  refine y_aload_n rfl rfl ?_
  refine y_getI rfl ((hX.2.1 _ hb_b1).1.trans ht_b1) (Nat.lt_of_lt_of_le hb_b1 hX.1) rfl rfl ?_
  refine y_iastoreC (j := 0) rfl ht_f3 ha_f3 (Nat.le_trans (by decide) (by omega : 94 ≤ _)) (by decide) (by decide) rfl ?_
  refine y_nameI (fun I4 e4 => ?_)
  have hX := hX.upI (by omega) (upI e4)
  have hS := hS0.x hX
  have hR := hR0.x hn hX
  have hz := hX.sz h94
  have hxn := hX.1
  have hw_b1 := hR.thi hlo_b1 hb0_b1 ((hX.2.1 _ hb_b1).1.trans ht_b1)
  refine y_dup rfl rfl ?_
  refine y_iconst rfl ?_
  refine y_aload_n rfl rfl ?_
  refine y_getI rfl ((hX.2.1 _ hb_b1).1.trans ht_b1) (Nat.lt_of_lt_of_le hb_b1 hX.1) rfl rfl ?_
  refine y_iastoreC (j := 1) rfl ht_f3 ha_f3 (Nat.le_trans (by decide) (by omega : 94 ≤ _)) (by decide) (by decide) rfl ?_
  refine y_nameI (fun I5 e5 => ?_)
  have hX := hX.upI (by omega) (upI e5)
  have hS := hS0.x hX
  have hR := hR0.x hn hX
  have hz := hX.sz h94
  have hxn := hX.1
  have hw_b1 := hR.thi hlo_b1 hb0_b1 ((hX.2.1 _ hb_b1).1.trans ht_b1)
  refine y_dup rfl rfl ?_
  refine y_iconst rfl ?_
  refine y_aload_n rfl rfl ?_
  refine y_getI rfl ((hX.2.1 _ hb_b1).1.trans ht_b1) (Nat.lt_of_lt_of_le hb_b1 hX.1) rfl rfl ?_
  refine y_static rfl rfl rfl rfl rfl ?_
  refine r_one (fun v_ hv_ => ?_)
  refine y_ret1 ?_
  refine y_iastoreC (j := 2) rfl ht_f3 ha_f3 (Nat.le_trans (by decide) (by omega : 94 ≤ _)) (by decide) (by decide) rfl ?_
  refine y_nameI (fun I6 e6 => ?_)
  have hX := hX.upI (by omega) (upI e6)
  have hS := hS0.x hX
  have hR := hR0.x hn hX
  have hz := hX.sz h94
  have hxn := hX.1
  have hw_b1 := hR.thi hlo_b1 hb0_b1 ((hX.2.1 _ hb_b1).1.trans ht_b1)
  refine y_dup rfl rfl ?_
  refine y_iconst rfl ?_
  refine y_aload_n rfl rfl ?_
  refine y_getI rfl ((hX.2.1 _ hb_b1).1.trans ht_b1) (Nat.lt_of_lt_of_le hb_b1 hX.1) rfl rfl ?_
  refine y_static rfl rfl rfl rfl rfl ?_
  refine r_one (fun v_ hv_ => ?_)
  refine y_ret1 ?_
  refine y_iastoreC (j := 3) rfl ht_f3 ha_f3 (Nat.le_trans (by decide) (by omega : 94 ≤ _)) (by decide) (by decide) rfl ?_
  refine y_nameI (fun I7 e7 => ?_)
  have hX := hX.upI (by omega) (upI e7)
  have hS := hS0.x hX
  have hR := hR0.x hn hX
  have hz := hX.sz h94
  have hxn := hX.1
  have hw_b1 := hR.thi hlo_b1 hb0_b1 ((hX.2.1 _ hb_b1).1.trans ht_b1)
  refine y_dup rfl rfl ?_
  refine y_iconst rfl ?_
  refine y_aload_n rfl rfl ?_
  refine y_getI rfl ((hX.2.1 _ hb_b1).1.trans ht_b1) (Nat.lt_of_lt_of_le hb_b1 hX.1) rfl rfl ?_
  refine y_iastoreC (j := 4) rfl ht_f3 ha_f3 (Nat.le_trans (by decide) (by omega : 94 ≤ _)) (by decide) (by decide) rfl ?_
  refine y_nameI (fun I8 e8 => ?_)
  have hX := hX.upI (by omega) (upI e8)
  have hS := hS0.x hX
  have hR := hR0.x hn hX
  have hz := hX.sz h94
  have hxn := hX.1
  have hw_b1 := hR.thi hlo_b1 hb0_b1 ((hX.2.1 _ hb_b1).1.trans ht_b1)
  refine y_dup rfl rfl ?_
  refine y_iconst rfl ?_
  refine y_aload_n rfl rfl ?_
  refine y_getI rfl ((hX.2.1 _ hb_b1).1.trans ht_b1) (Nat.lt_of_lt_of_le hb_b1 hX.1) rfl rfl ?_
  refine y_iastoreC (j := 5) rfl ht_f3 ha_f3 (Nat.le_trans (by decide) (by omega : 94 ≤ _)) (by decide) (by decide) rfl ?_
  refine y_nameI (fun I9 e9 => ?_)
  have hX := hX.upI (by omega) (upI e9)
  have hS := hS0.x hX
  have hR := hR0.x hn hX
  have hz := hX.sz h94
  have hxn := hX.1
  have hw_b1 := hR.thi hlo_b1 hb0_b1 ((hX.2.1 _ hb_b1).1.trans ht_b1)
  refine y_dup rfl rfl ?_
  refine y_bip rfl (by decide) ?_
  refine y_aload_n rfl rfl ?_
  refine y_iload_n rfl rfl ?_
  refine y_virt rfl rfl rfl rfl rfl (ySh.t hS rfl) (ySh.n hS rfl) ?_
  refine r_leaseOf hS hR (Nat.le_trans hn hX.1)  (fun v_10 hv_10 => ?_)
  refine y_ret1 ?_
  refine y_iastoreC (j := 6) rfl ht_f3 ha_f3 (Nat.le_trans (by decide) (by omega : 94 ≤ _)) (by decide) (by decide) rfl ?_
  refine y_nameI (fun I11 e11 => ?_)
  have hX := hX.upI (by omega) (upI e11)
  have hS := hS0.x hX
  have hR := hR0.x hn hX
  have hz := hX.sz h94
  have hxn := hX.1
  have hw_b1 := hR.thi hlo_b1 hb0_b1 ((hX.2.1 _ hb_b1).1.trans ht_b1)
  refine y_astore (ls' := [some _, some _, some _, some _, some _]) rfl rfl rfl ?_
  refine y_aload rfl rfl ?_
  refine y_iload_n rfl rfl ?_
  refine y_iaload rfl ht_f3 ha_f3 (by omega) (by omega) ?_
  refine y_ireturn rfl rfl rfl ?_
  exact hQ _ _ _ _ _ _ _ hX (by omega) (by omega)
theorem r_saleTold (hS0 : ySh n tg R) (hR0 : yRI K nb tg I R) (hn : nb ≤ n) {x1 x2 : Int32} (h0 : 0 ≤ x1.toInt) (h1 : x1.toInt < (I 89 2).toInt) (h2 : 0 ≤ x2.toInt) (h3 : x2.toInt < 10) (hQ : ∀ v n1 tg1 I1 R1 c1 s1, yX n tg I R n1 tg1 I1 R1 → c1 ≤ c + 1 → s1 ≤ s + 10 → Q (.inl (some (.int v))) (n1, tg1, I1, R1) c1 s1) : yC 231 [.ref 83, .int x1, .int x2] (n, tg, I, R) c s Q := by
  have hX : yX n tg I R n tg I R := yX.rf
  have hS := hS0
  have hR := hR0
  have h94 : 94 ≤ n := hS0.1
  have hz : ySz I I := hX.sz h94
  have hxn := hX.1
  have hN := hR0.1
  have hnb : 94 ≤ nb := hR0.2.2.2.2.2.2
  refine y_in (M := xm_X14_saleTold) (ls := [some _, some _, some _, _, _]) rfl rfl rfl ?_
  refine y_aload_n rfl rfl ?_
  refine y_getR rfl (ySh.t hS rfl) (ySh.n hS rfl) rfl rfl (ySh.r hS rfl) ?_
  refine y_iload_n rfl rfl ?_
  refine y_virt rfl rfl rfl rfl rfl (ySh.t hS rfl) (ySh.n hS rfl) ?_
  refine l_get (nb := nb) (ySh.t hS rfl) (ySh.n hS rfl) (Nat.le_trans hn hX.1) hR.l89 (by omega) (by omega) (fun b1 eb_b1 hlo_b1 hb0_b1 ht_b1 => ?_)
  have hb_b1 := Nat.lt_of_lt_of_le hb0_b1 hn
  replace ht_b1 := (hX.2.1 _ hb_b1).1.symm.trans ht_b1
  have hw_b1 := hR.sal hlo_b1 hb0_b1 ((hX.2.1 _ hb_b1).1.trans ht_b1)
  refine y_ret1 ?_
  refine y_cast rfl ((hX.2.1 _ hb_b1).1.trans ht_b1) (Nat.lt_of_lt_of_le hb_b1 hX.1) ?_
  refine y_astore_n (ls' := [some _, some _, some _, some _, _]) rfl rfl rfl ?_
  refine y_bip rfl (by decide) ?_
  refine y_newarrL (m := 10) rfl rfl (by decide) (by decide) rfl (fun n2 tg2 I2 R2 hA => ?_)
  have hnA := hA.1
  have ht_f3 : tg2 n = (0, 10) := hA.2.1
  have ha_f3 : n < n2 := by omega
  have hX := hX.trans (hA.x rfl)
  have hS := hS0.x hX
  have hR := hR0.x hn hX
  have hz := hX.sz h94
  have hxn := hX.1
  have hw_b1 := hR.sal hlo_b1 hb0_b1 ((hX.2.1 _ hb_b1).1.trans ht_b1)
  refine y_dup rfl rfl ?_
  refine y_iconst rfl ?_
  refine y_aload_n rfl rfl ?_
  refine y_getI rfl ((hX.2.1 _ hb_b1).1.trans ht_b1) (Nat.lt_of_lt_of_le hb_b1 hX.1) rfl rfl ?_
  refine y_iastoreC (j := 0) rfl ht_f3 ha_f3 (Nat.le_trans (by decide) (by omega : 94 ≤ _)) (by decide) (by decide) rfl ?_
  refine y_nameI (fun I4 e4 => ?_)
  have hX := hX.upI (by omega) (upI e4)
  have hS := hS0.x hX
  have hR := hR0.x hn hX
  have hz := hX.sz h94
  have hxn := hX.1
  have hw_b1 := hR.sal hlo_b1 hb0_b1 ((hX.2.1 _ hb_b1).1.trans ht_b1)
  refine y_dup rfl rfl ?_
  refine y_iconst rfl ?_
  refine y_aload_n rfl rfl ?_
  refine y_getI rfl ((hX.2.1 _ hb_b1).1.trans ht_b1) (Nat.lt_of_lt_of_le hb_b1 hX.1) rfl rfl ?_
  refine y_iastoreC (j := 1) rfl ht_f3 ha_f3 (Nat.le_trans (by decide) (by omega : 94 ≤ _)) (by decide) (by decide) rfl ?_
  refine y_nameI (fun I5 e5 => ?_)
  have hX := hX.upI (by omega) (upI e5)
  have hS := hS0.x hX
  have hR := hR0.x hn hX
  have hz := hX.sz h94
  have hxn := hX.1
  have hw_b1 := hR.sal hlo_b1 hb0_b1 ((hX.2.1 _ hb_b1).1.trans ht_b1)
  refine y_dup rfl rfl ?_
  refine y_iconst rfl ?_
  refine y_aload_n rfl rfl ?_
  refine y_getI rfl ((hX.2.1 _ hb_b1).1.trans ht_b1) (Nat.lt_of_lt_of_le hb_b1 hX.1) rfl rfl ?_
  refine y_iastoreC (j := 2) rfl ht_f3 ha_f3 (Nat.le_trans (by decide) (by omega : 94 ≤ _)) (by decide) (by decide) rfl ?_
  refine y_nameI (fun I6 e6 => ?_)
  have hX := hX.upI (by omega) (upI e6)
  have hS := hS0.x hX
  have hR := hR0.x hn hX
  have hz := hX.sz h94
  have hxn := hX.1
  have hw_b1 := hR.sal hlo_b1 hb0_b1 ((hX.2.1 _ hb_b1).1.trans ht_b1)
  refine y_dup rfl rfl ?_
  refine y_iconst rfl ?_
  refine y_aload_n rfl rfl ?_
  refine y_getI rfl ((hX.2.1 _ hb_b1).1.trans ht_b1) (Nat.lt_of_lt_of_le hb_b1 hX.1) rfl rfl ?_
  refine y_iastoreC (j := 3) rfl ht_f3 ha_f3 (Nat.le_trans (by decide) (by omega : 94 ≤ _)) (by decide) (by decide) rfl ?_
  refine y_nameI (fun I7 e7 => ?_)
  have hX := hX.upI (by omega) (upI e7)
  have hS := hS0.x hX
  have hR := hR0.x hn hX
  have hz := hX.sz h94
  have hxn := hX.1
  have hw_b1 := hR.sal hlo_b1 hb0_b1 ((hX.2.1 _ hb_b1).1.trans ht_b1)
  refine y_dup rfl rfl ?_
  refine y_iconst rfl ?_
  refine y_aload_n rfl rfl ?_
  refine y_getI rfl ((hX.2.1 _ hb_b1).1.trans ht_b1) (Nat.lt_of_lt_of_le hb_b1 hX.1) rfl rfl ?_
  refine y_iastoreC (j := 4) rfl ht_f3 ha_f3 (Nat.le_trans (by decide) (by omega : 94 ≤ _)) (by decide) (by decide) rfl ?_
  refine y_nameI (fun I8 e8 => ?_)
  have hX := hX.upI (by omega) (upI e8)
  have hS := hS0.x hX
  have hR := hR0.x hn hX
  have hz := hX.sz h94
  have hxn := hX.1
  have hw_b1 := hR.sal hlo_b1 hb0_b1 ((hX.2.1 _ hb_b1).1.trans ht_b1)
  refine y_dup rfl rfl ?_
  refine y_iconst rfl ?_
  refine y_aload_n rfl rfl ?_
  refine y_getI rfl ((hX.2.1 _ hb_b1).1.trans ht_b1) (Nat.lt_of_lt_of_le hb_b1 hX.1) rfl rfl ?_
  refine y_iastoreC (j := 5) rfl ht_f3 ha_f3 (Nat.le_trans (by decide) (by omega : 94 ≤ _)) (by decide) (by decide) rfl ?_
  refine y_nameI (fun I9 e9 => ?_)
  have hX := hX.upI (by omega) (upI e9)
  have hS := hS0.x hX
  have hR := hR0.x hn hX
  have hz := hX.sz h94
  have hxn := hX.1
  have hw_b1 := hR.sal hlo_b1 hb0_b1 ((hX.2.1 _ hb_b1).1.trans ht_b1)
  refine y_dup rfl rfl ?_
  refine y_bip rfl (by decide) ?_
  refine y_aload_n rfl rfl ?_
  refine y_virt rfl rfl rfl rfl rfl ((hX.2.1 _ hb_b1).1.trans ht_b1) (Nat.lt_of_lt_of_le hb_b1 hX.1) ?_
  refine y_in (M := xm_X11_isOpen) (ls := [some _]) rfl rfl rfl ?_
  refine y_aload_n rfl rfl ?_
  refine y_getI rfl ((hX.2.1 _ hb_b1).1.trans ht_b1) (Nat.lt_of_lt_of_le hb_b1 hX.1) rfl rfl ?_
  refine y_if_ne rfl j_X11_isOpen_22 (fun h_10 => ?_) (fun h_11 => ?_)
  · refine y_iconst rfl ?_
    refine y_ireturn rfl rfl rfl ?_
    refine y_ret1 ?_
    refine y_if_eqT rfl j_X14_saleTold_75 (by decide) ?_
    refine y_iconst rfl ?_
    refine y_iastoreC (j := 6) rfl ht_f3 ha_f3 (Nat.le_trans (by decide) (by omega : 94 ≤ _)) (by decide) (by decide) rfl ?_
    refine y_nameI (fun I12 e12 => ?_)
    have hX := hX.upI (by omega) (upI e12)
    have hS := hS0.x hX
    have hR := hR0.x hn hX
    have hz := hX.sz h94
    have hxn := hX.1
    have hw_b1 := hR.sal hlo_b1 hb0_b1 ((hX.2.1 _ hb_b1).1.trans ht_b1)
    refine y_dup rfl rfl ?_
    refine y_bip rfl (by decide) ?_
    refine y_aload_n rfl rfl ?_
    refine y_virt rfl rfl rfl rfl rfl ((hX.2.1 _ hb_b1).1.trans ht_b1) (Nat.lt_of_lt_of_le hb_b1 hX.1) ?_
    refine y_in (M := xm_X11_isOpen) (ls := [some _]) rfl rfl rfl ?_
    refine y_aload_n rfl rfl ?_
    refine y_getI rfl ((hX.2.1 _ hb_b1).1.trans ht_b1) (Nat.lt_of_lt_of_le hb_b1 hX.1) rfl rfl ?_
    refine y_if_ne rfl j_X11_isOpen_22 (fun h_13 => ?_) (fun h_14 => ?_)
    · refine y_iconst rfl ?_
      refine y_ireturn rfl rfl rfl ?_
      refine y_ret1 ?_
      refine y_if_eqT rfl j_X14_saleTold_98 (by decide) ?_
      refine y_iconst rfl ?_
      refine y_iastoreC (j := 7) rfl ht_f3 ha_f3 (Nat.le_trans (by decide) (by omega : 94 ≤ _)) (by decide) (by decide) rfl ?_
      refine y_nameI (fun I15 e15 => ?_)
      have hX := hX.upI (by omega) (upI e15)
      have hS := hS0.x hX
      have hR := hR0.x hn hX
      have hz := hX.sz h94
      have hxn := hX.1
      have hw_b1 := hR.sal hlo_b1 hb0_b1 ((hX.2.1 _ hb_b1).1.trans ht_b1)
      refine y_dup rfl rfl ?_
      refine y_bip rfl (by decide) ?_
      refine y_aload_n rfl rfl ?_
      refine y_getI rfl ((hX.2.1 _ hb_b1).1.trans ht_b1) (Nat.lt_of_lt_of_le hb_b1 hX.1) rfl rfl ?_
      refine y_iastoreC (j := 8) rfl ht_f3 ha_f3 (Nat.le_trans (by decide) (by omega : 94 ≤ _)) (by decide) (by decide) rfl ?_
      refine y_nameI (fun I16 e16 => ?_)
      have hX := hX.upI (by omega) (upI e16)
      have hS := hS0.x hX
      have hR := hR0.x hn hX
      have hz := hX.sz h94
      have hxn := hX.1
      have hw_b1 := hR.sal hlo_b1 hb0_b1 ((hX.2.1 _ hb_b1).1.trans ht_b1)
      refine y_dup rfl rfl ?_
      refine y_bip rfl (by decide) ?_
      refine y_aload_n rfl rfl ?_
      refine y_getI rfl ((hX.2.1 _ hb_b1).1.trans ht_b1) (Nat.lt_of_lt_of_le hb_b1 hX.1) rfl rfl ?_
      refine y_iastoreC (j := 9) rfl ht_f3 ha_f3 (Nat.le_trans (by decide) (by omega : 94 ≤ _)) (by decide) (by decide) rfl ?_
      refine y_nameI (fun I17 e17 => ?_)
      have hX := hX.upI (by omega) (upI e17)
      have hS := hS0.x hX
      have hR := hR0.x hn hX
      have hz := hX.sz h94
      have hxn := hX.1
      have hw_b1 := hR.sal hlo_b1 hb0_b1 ((hX.2.1 _ hb_b1).1.trans ht_b1)
      refine y_astore (ls' := [some _, some _, some _, some _, some _]) rfl rfl rfl ?_
      refine y_aload rfl rfl ?_
      refine y_iload_n rfl rfl ?_
      refine y_iaload rfl ht_f3 ha_f3 (by omega) (by omega) ?_
      refine y_ireturn rfl rfl rfl ?_
      exact hQ _ _ _ _ _ _ _ hX (by omega) (by omega)
    · refine y_aload_n rfl rfl ?_
      refine y_getI rfl ((hX.2.1 _ hb_b1).1.trans ht_b1) (Nat.lt_of_lt_of_le hb_b1 hX.1) rfl rfl ?_
      refine y_aload_n rfl rfl ?_
      refine y_getI rfl ((hX.2.1 _ hb_b1).1.trans ht_b1) (Nat.lt_of_lt_of_le hb_b1 hX.1) rfl rfl ?_
      refine y_icmp_ge rfl j_X11_isOpen_22 (fun h_18 => ?_) (fun h_19 => ?_)
      · refine y_iconst rfl ?_
        refine y_ireturn rfl rfl rfl ?_
        refine y_ret1 ?_
        refine y_if_eqT rfl j_X14_saleTold_98 (by decide) ?_
        refine y_iconst rfl ?_
        refine y_iastoreC (j := 7) rfl ht_f3 ha_f3 (Nat.le_trans (by decide) (by omega : 94 ≤ _)) (by decide) (by decide) rfl ?_
        refine y_nameI (fun I20 e20 => ?_)
        have hX := hX.upI (by omega) (upI e20)
        have hS := hS0.x hX
        have hR := hR0.x hn hX
        have hz := hX.sz h94
        have hxn := hX.1
        have hw_b1 := hR.sal hlo_b1 hb0_b1 ((hX.2.1 _ hb_b1).1.trans ht_b1)
        refine y_dup rfl rfl ?_
        refine y_bip rfl (by decide) ?_
        refine y_aload_n rfl rfl ?_
        refine y_getI rfl ((hX.2.1 _ hb_b1).1.trans ht_b1) (Nat.lt_of_lt_of_le hb_b1 hX.1) rfl rfl ?_
        refine y_iastoreC (j := 8) rfl ht_f3 ha_f3 (Nat.le_trans (by decide) (by omega : 94 ≤ _)) (by decide) (by decide) rfl ?_
        refine y_nameI (fun I21 e21 => ?_)
        have hX := hX.upI (by omega) (upI e21)
        have hS := hS0.x hX
        have hR := hR0.x hn hX
        have hz := hX.sz h94
        have hxn := hX.1
        have hw_b1 := hR.sal hlo_b1 hb0_b1 ((hX.2.1 _ hb_b1).1.trans ht_b1)
        refine y_dup rfl rfl ?_
        refine y_bip rfl (by decide) ?_
        refine y_aload_n rfl rfl ?_
        refine y_getI rfl ((hX.2.1 _ hb_b1).1.trans ht_b1) (Nat.lt_of_lt_of_le hb_b1 hX.1) rfl rfl ?_
        refine y_iastoreC (j := 9) rfl ht_f3 ha_f3 (Nat.le_trans (by decide) (by omega : 94 ≤ _)) (by decide) (by decide) rfl ?_
        refine y_nameI (fun I22 e22 => ?_)
        have hX := hX.upI (by omega) (upI e22)
        have hS := hS0.x hX
        have hR := hR0.x hn hX
        have hz := hX.sz h94
        have hxn := hX.1
        have hw_b1 := hR.sal hlo_b1 hb0_b1 ((hX.2.1 _ hb_b1).1.trans ht_b1)
        refine y_astore (ls' := [some _, some _, some _, some _, some _]) rfl rfl rfl ?_
        refine y_aload rfl rfl ?_
        refine y_iload_n rfl rfl ?_
        refine y_iaload rfl ht_f3 ha_f3 (by omega) (by omega) ?_
        refine y_ireturn rfl rfl rfl ?_
        exact hQ _ _ _ _ _ _ _ hX (by omega) (by omega)
      · refine y_iconst rfl ?_
        refine y_goto rfl j_X11_isOpen_23 ?_
        refine y_ireturn rfl rfl rfl ?_
        refine y_ret1 ?_
        refine y_if_eqF rfl (by decide) ?_
        refine y_aload_n rfl rfl ?_
        refine y_aload_n rfl rfl ?_
        refine y_getI rfl ((hX.2.1 _ hb_b1).1.trans ht_b1) (Nat.lt_of_lt_of_le hb_b1 hX.1) rfl rfl ?_
        refine y_virt rfl rfl rfl rfl rfl ((hX.2.1 _ hb_b1).1.trans ht_b1) (Nat.lt_of_lt_of_le hb_b1 hX.1) ?_
        refine r_part hS hR (Nat.le_trans hn hX.1) hlo_b1 hb0_b1 ((hX.2.1 _ hb_b1).1.trans ht_b1) (fun v_ => ?_)
        refine y_ret1 ?_
        refine y_goto rfl j_X14_saleTold_99 ?_
        refine y_iastoreC (j := 7) rfl ht_f3 ha_f3 (Nat.le_trans (by decide) (by omega : 94 ≤ _)) (by decide) (by decide) rfl ?_
        refine y_nameI (fun I23 e23 => ?_)
        have hX := hX.upI (by omega) (upI e23)
        have hS := hS0.x hX
        have hR := hR0.x hn hX
        have hz := hX.sz h94
        have hxn := hX.1
        have hw_b1 := hR.sal hlo_b1 hb0_b1 ((hX.2.1 _ hb_b1).1.trans ht_b1)
        refine y_dup rfl rfl ?_
        refine y_bip rfl (by decide) ?_
        refine y_aload_n rfl rfl ?_
        refine y_getI rfl ((hX.2.1 _ hb_b1).1.trans ht_b1) (Nat.lt_of_lt_of_le hb_b1 hX.1) rfl rfl ?_
        refine y_iastoreC (j := 8) rfl ht_f3 ha_f3 (Nat.le_trans (by decide) (by omega : 94 ≤ _)) (by decide) (by decide) rfl ?_
        refine y_nameI (fun I24 e24 => ?_)
        have hX := hX.upI (by omega) (upI e24)
        have hS := hS0.x hX
        have hR := hR0.x hn hX
        have hz := hX.sz h94
        have hxn := hX.1
        have hw_b1 := hR.sal hlo_b1 hb0_b1 ((hX.2.1 _ hb_b1).1.trans ht_b1)
        refine y_dup rfl rfl ?_
        refine y_bip rfl (by decide) ?_
        refine y_aload_n rfl rfl ?_
        refine y_getI rfl ((hX.2.1 _ hb_b1).1.trans ht_b1) (Nat.lt_of_lt_of_le hb_b1 hX.1) rfl rfl ?_
        refine y_iastoreC (j := 9) rfl ht_f3 ha_f3 (Nat.le_trans (by decide) (by omega : 94 ≤ _)) (by decide) (by decide) rfl ?_
        refine y_nameI (fun I25 e25 => ?_)
        have hX := hX.upI (by omega) (upI e25)
        have hS := hS0.x hX
        have hR := hR0.x hn hX
        have hz := hX.sz h94
        have hxn := hX.1
        have hw_b1 := hR.sal hlo_b1 hb0_b1 ((hX.2.1 _ hb_b1).1.trans ht_b1)
        refine y_astore (ls' := [some _, some _, some _, some _, some _]) rfl rfl rfl ?_
        refine y_aload rfl rfl ?_
        refine y_iload_n rfl rfl ?_
        refine y_iaload rfl ht_f3 ha_f3 (by omega) (by omega) ?_
        refine y_ireturn rfl rfl rfl ?_
        exact hQ _ _ _ _ _ _ _ hX (by omega) (by omega)
  · refine y_aload_n rfl rfl ?_
    refine y_getI rfl ((hX.2.1 _ hb_b1).1.trans ht_b1) (Nat.lt_of_lt_of_le hb_b1 hX.1) rfl rfl ?_
    refine y_aload_n rfl rfl ?_
    refine y_getI rfl ((hX.2.1 _ hb_b1).1.trans ht_b1) (Nat.lt_of_lt_of_le hb_b1 hX.1) rfl rfl ?_
    refine y_icmp_ge rfl j_X11_isOpen_22 (fun h_26 => ?_) (fun h_27 => ?_)
    · refine y_iconst rfl ?_
      refine y_ireturn rfl rfl rfl ?_
      refine y_ret1 ?_
      refine y_if_eqT rfl j_X14_saleTold_75 (by decide) ?_
      refine y_iconst rfl ?_
      refine y_iastoreC (j := 6) rfl ht_f3 ha_f3 (Nat.le_trans (by decide) (by omega : 94 ≤ _)) (by decide) (by decide) rfl ?_
      refine y_nameI (fun I28 e28 => ?_)
      have hX := hX.upI (by omega) (upI e28)
      have hS := hS0.x hX
      have hR := hR0.x hn hX
      have hz := hX.sz h94
      have hxn := hX.1
      have hw_b1 := hR.sal hlo_b1 hb0_b1 ((hX.2.1 _ hb_b1).1.trans ht_b1)
      refine y_dup rfl rfl ?_
      refine y_bip rfl (by decide) ?_
      refine y_aload_n rfl rfl ?_
      refine y_virt rfl rfl rfl rfl rfl ((hX.2.1 _ hb_b1).1.trans ht_b1) (Nat.lt_of_lt_of_le hb_b1 hX.1) ?_
      refine y_in (M := xm_X11_isOpen) (ls := [some _]) rfl rfl rfl ?_
      refine y_aload_n rfl rfl ?_
      refine y_getI rfl ((hX.2.1 _ hb_b1).1.trans ht_b1) (Nat.lt_of_lt_of_le hb_b1 hX.1) rfl rfl ?_
      refine y_if_ne rfl j_X11_isOpen_22 (fun h_29 => ?_) (fun h_30 => ?_)
      · refine y_iconst rfl ?_
        refine y_ireturn rfl rfl rfl ?_
        refine y_ret1 ?_
        refine y_if_eqT rfl j_X14_saleTold_98 (by decide) ?_
        refine y_iconst rfl ?_
        refine y_iastoreC (j := 7) rfl ht_f3 ha_f3 (Nat.le_trans (by decide) (by omega : 94 ≤ _)) (by decide) (by decide) rfl ?_
        refine y_nameI (fun I31 e31 => ?_)
        have hX := hX.upI (by omega) (upI e31)
        have hS := hS0.x hX
        have hR := hR0.x hn hX
        have hz := hX.sz h94
        have hxn := hX.1
        have hw_b1 := hR.sal hlo_b1 hb0_b1 ((hX.2.1 _ hb_b1).1.trans ht_b1)
        refine y_dup rfl rfl ?_
        refine y_bip rfl (by decide) ?_
        refine y_aload_n rfl rfl ?_
        refine y_getI rfl ((hX.2.1 _ hb_b1).1.trans ht_b1) (Nat.lt_of_lt_of_le hb_b1 hX.1) rfl rfl ?_
        refine y_iastoreC (j := 8) rfl ht_f3 ha_f3 (Nat.le_trans (by decide) (by omega : 94 ≤ _)) (by decide) (by decide) rfl ?_
        refine y_nameI (fun I32 e32 => ?_)
        have hX := hX.upI (by omega) (upI e32)
        have hS := hS0.x hX
        have hR := hR0.x hn hX
        have hz := hX.sz h94
        have hxn := hX.1
        have hw_b1 := hR.sal hlo_b1 hb0_b1 ((hX.2.1 _ hb_b1).1.trans ht_b1)
        refine y_dup rfl rfl ?_
        refine y_bip rfl (by decide) ?_
        refine y_aload_n rfl rfl ?_
        refine y_getI rfl ((hX.2.1 _ hb_b1).1.trans ht_b1) (Nat.lt_of_lt_of_le hb_b1 hX.1) rfl rfl ?_
        refine y_iastoreC (j := 9) rfl ht_f3 ha_f3 (Nat.le_trans (by decide) (by omega : 94 ≤ _)) (by decide) (by decide) rfl ?_
        refine y_nameI (fun I33 e33 => ?_)
        have hX := hX.upI (by omega) (upI e33)
        have hS := hS0.x hX
        have hR := hR0.x hn hX
        have hz := hX.sz h94
        have hxn := hX.1
        have hw_b1 := hR.sal hlo_b1 hb0_b1 ((hX.2.1 _ hb_b1).1.trans ht_b1)
        refine y_astore (ls' := [some _, some _, some _, some _, some _]) rfl rfl rfl ?_
        refine y_aload rfl rfl ?_
        refine y_iload_n rfl rfl ?_
        refine y_iaload rfl ht_f3 ha_f3 (by omega) (by omega) ?_
        refine y_ireturn rfl rfl rfl ?_
        exact hQ _ _ _ _ _ _ _ hX (by omega) (by omega)
      · refine y_aload_n rfl rfl ?_
        refine y_getI rfl ((hX.2.1 _ hb_b1).1.trans ht_b1) (Nat.lt_of_lt_of_le hb_b1 hX.1) rfl rfl ?_
        refine y_aload_n rfl rfl ?_
        refine y_getI rfl ((hX.2.1 _ hb_b1).1.trans ht_b1) (Nat.lt_of_lt_of_le hb_b1 hX.1) rfl rfl ?_
        refine y_icmp_ge rfl j_X11_isOpen_22 (fun h_34 => ?_) (fun h_35 => ?_)
        · refine y_iconst rfl ?_
          refine y_ireturn rfl rfl rfl ?_
          refine y_ret1 ?_
          refine y_if_eqT rfl j_X14_saleTold_98 (by decide) ?_
          refine y_iconst rfl ?_
          refine y_iastoreC (j := 7) rfl ht_f3 ha_f3 (Nat.le_trans (by decide) (by omega : 94 ≤ _)) (by decide) (by decide) rfl ?_
          refine y_nameI (fun I36 e36 => ?_)
          have hX := hX.upI (by omega) (upI e36)
          have hS := hS0.x hX
          have hR := hR0.x hn hX
          have hz := hX.sz h94
          have hxn := hX.1
          have hw_b1 := hR.sal hlo_b1 hb0_b1 ((hX.2.1 _ hb_b1).1.trans ht_b1)
          refine y_dup rfl rfl ?_
          refine y_bip rfl (by decide) ?_
          refine y_aload_n rfl rfl ?_
          refine y_getI rfl ((hX.2.1 _ hb_b1).1.trans ht_b1) (Nat.lt_of_lt_of_le hb_b1 hX.1) rfl rfl ?_
          refine y_iastoreC (j := 8) rfl ht_f3 ha_f3 (Nat.le_trans (by decide) (by omega : 94 ≤ _)) (by decide) (by decide) rfl ?_
          refine y_nameI (fun I37 e37 => ?_)
          have hX := hX.upI (by omega) (upI e37)
          have hS := hS0.x hX
          have hR := hR0.x hn hX
          have hz := hX.sz h94
          have hxn := hX.1
          have hw_b1 := hR.sal hlo_b1 hb0_b1 ((hX.2.1 _ hb_b1).1.trans ht_b1)
          refine y_dup rfl rfl ?_
          refine y_bip rfl (by decide) ?_
          refine y_aload_n rfl rfl ?_
          refine y_getI rfl ((hX.2.1 _ hb_b1).1.trans ht_b1) (Nat.lt_of_lt_of_le hb_b1 hX.1) rfl rfl ?_
          refine y_iastoreC (j := 9) rfl ht_f3 ha_f3 (Nat.le_trans (by decide) (by omega : 94 ≤ _)) (by decide) (by decide) rfl ?_
          refine y_nameI (fun I38 e38 => ?_)
          have hX := hX.upI (by omega) (upI e38)
          have hS := hS0.x hX
          have hR := hR0.x hn hX
          have hz := hX.sz h94
          have hxn := hX.1
          have hw_b1 := hR.sal hlo_b1 hb0_b1 ((hX.2.1 _ hb_b1).1.trans ht_b1)
          refine y_astore (ls' := [some _, some _, some _, some _, some _]) rfl rfl rfl ?_
          refine y_aload rfl rfl ?_
          refine y_iload_n rfl rfl ?_
          refine y_iaload rfl ht_f3 ha_f3 (by omega) (by omega) ?_
          refine y_ireturn rfl rfl rfl ?_
          exact hQ _ _ _ _ _ _ _ hX (by omega) (by omega)
        · refine y_iconst rfl ?_
          refine y_goto rfl j_X11_isOpen_23 ?_
          refine y_ireturn rfl rfl rfl ?_
          refine y_ret1 ?_
          refine y_if_eqF rfl (by decide) ?_
          refine y_aload_n rfl rfl ?_
          refine y_aload_n rfl rfl ?_
          refine y_getI rfl ((hX.2.1 _ hb_b1).1.trans ht_b1) (Nat.lt_of_lt_of_le hb_b1 hX.1) rfl rfl ?_
          refine y_virt rfl rfl rfl rfl rfl ((hX.2.1 _ hb_b1).1.trans ht_b1) (Nat.lt_of_lt_of_le hb_b1 hX.1) ?_
          refine r_part hS hR (Nat.le_trans hn hX.1) hlo_b1 hb0_b1 ((hX.2.1 _ hb_b1).1.trans ht_b1) (fun v_ => ?_)
          refine y_ret1 ?_
          refine y_goto rfl j_X14_saleTold_99 ?_
          refine y_iastoreC (j := 7) rfl ht_f3 ha_f3 (Nat.le_trans (by decide) (by omega : 94 ≤ _)) (by decide) (by decide) rfl ?_
          refine y_nameI (fun I39 e39 => ?_)
          have hX := hX.upI (by omega) (upI e39)
          have hS := hS0.x hX
          have hR := hR0.x hn hX
          have hz := hX.sz h94
          have hxn := hX.1
          have hw_b1 := hR.sal hlo_b1 hb0_b1 ((hX.2.1 _ hb_b1).1.trans ht_b1)
          refine y_dup rfl rfl ?_
          refine y_bip rfl (by decide) ?_
          refine y_aload_n rfl rfl ?_
          refine y_getI rfl ((hX.2.1 _ hb_b1).1.trans ht_b1) (Nat.lt_of_lt_of_le hb_b1 hX.1) rfl rfl ?_
          refine y_iastoreC (j := 8) rfl ht_f3 ha_f3 (Nat.le_trans (by decide) (by omega : 94 ≤ _)) (by decide) (by decide) rfl ?_
          refine y_nameI (fun I40 e40 => ?_)
          have hX := hX.upI (by omega) (upI e40)
          have hS := hS0.x hX
          have hR := hR0.x hn hX
          have hz := hX.sz h94
          have hxn := hX.1
          have hw_b1 := hR.sal hlo_b1 hb0_b1 ((hX.2.1 _ hb_b1).1.trans ht_b1)
          refine y_dup rfl rfl ?_
          refine y_bip rfl (by decide) ?_
          refine y_aload_n rfl rfl ?_
          refine y_getI rfl ((hX.2.1 _ hb_b1).1.trans ht_b1) (Nat.lt_of_lt_of_le hb_b1 hX.1) rfl rfl ?_
          refine y_iastoreC (j := 9) rfl ht_f3 ha_f3 (Nat.le_trans (by decide) (by omega : 94 ≤ _)) (by decide) (by decide) rfl ?_
          refine y_nameI (fun I41 e41 => ?_)
          have hX := hX.upI (by omega) (upI e41)
          have hS := hS0.x hX
          have hR := hR0.x hn hX
          have hz := hX.sz h94
          have hxn := hX.1
          have hw_b1 := hR.sal hlo_b1 hb0_b1 ((hX.2.1 _ hb_b1).1.trans ht_b1)
          refine y_astore (ls' := [some _, some _, some _, some _, some _]) rfl rfl rfl ?_
          refine y_aload rfl rfl ?_
          refine y_iload_n rfl rfl ?_
          refine y_iaload rfl ht_f3 ha_f3 (by omega) (by omega) ?_
          refine y_ireturn rfl rfl rfl ?_
          exact hQ _ _ _ _ _ _ _ hX (by omega) (by omega)
    · refine y_iconst rfl ?_
      refine y_goto rfl j_X11_isOpen_23 ?_
      refine y_ireturn rfl rfl rfl ?_
      refine y_ret1 ?_
      refine y_if_eqF rfl (by decide) ?_
      refine y_aload_n rfl rfl ?_
      refine y_virt rfl rfl rfl rfl rfl ((hX.2.1 _ hb_b1).1.trans ht_b1) (Nat.lt_of_lt_of_le hb_b1 hX.1) ?_
      refine y_in (M := xm_X11_due) (ls := [some _]) rfl rfl rfl ?_
      refine y_aload_n rfl rfl ?_
      refine y_getI rfl ((hX.2.1 _ hb_b1).1.trans ht_b1) (Nat.lt_of_lt_of_le hb_b1 hX.1) rfl rfl ?_
      refine y_bip rfl (by decide) ?_
      refine y_aload_n rfl rfl ?_
      refine y_getI rfl ((hX.2.1 _ hb_b1).1.trans ht_b1) (Nat.lt_of_lt_of_le hb_b1 hX.1) rfl rfl ?_
      refine y_iconst rfl ?_
      refine y_iadd rfl ?_
      refine y_imul rfl ?_
      refine y_iadd rfl ?_
      refine y_ireturn rfl rfl rfl ?_
      refine y_ret1 ?_
      refine y_goto rfl j_X14_saleTold_76 ?_
      refine y_iastoreC (j := 6) rfl ht_f3 ha_f3 (Nat.le_trans (by decide) (by omega : 94 ≤ _)) (by decide) (by decide) rfl ?_
      refine y_nameI (fun I42 e42 => ?_)
      have hX := hX.upI (by omega) (upI e42)
      have hS := hS0.x hX
      have hR := hR0.x hn hX
      have hz := hX.sz h94
      have hxn := hX.1
      have hw_b1 := hR.sal hlo_b1 hb0_b1 ((hX.2.1 _ hb_b1).1.trans ht_b1)
      refine y_dup rfl rfl ?_
      refine y_bip rfl (by decide) ?_
      refine y_aload_n rfl rfl ?_
      refine y_virt rfl rfl rfl rfl rfl ((hX.2.1 _ hb_b1).1.trans ht_b1) (Nat.lt_of_lt_of_le hb_b1 hX.1) ?_
      refine y_in (M := xm_X11_isOpen) (ls := [some _]) rfl rfl rfl ?_
      refine y_aload_n rfl rfl ?_
      refine y_getI rfl ((hX.2.1 _ hb_b1).1.trans ht_b1) (Nat.lt_of_lt_of_le hb_b1 hX.1) rfl rfl ?_
      refine y_if_ne rfl j_X11_isOpen_22 (fun h_43 => ?_) (fun h_44 => ?_)
      · refine y_iconst rfl ?_
        refine y_ireturn rfl rfl rfl ?_
        refine y_ret1 ?_
        refine y_if_eqT rfl j_X14_saleTold_98 (by decide) ?_
        refine y_iconst rfl ?_
        refine y_iastoreC (j := 7) rfl ht_f3 ha_f3 (Nat.le_trans (by decide) (by omega : 94 ≤ _)) (by decide) (by decide) rfl ?_
        refine y_nameI (fun I45 e45 => ?_)
        have hX := hX.upI (by omega) (upI e45)
        have hS := hS0.x hX
        have hR := hR0.x hn hX
        have hz := hX.sz h94
        have hxn := hX.1
        have hw_b1 := hR.sal hlo_b1 hb0_b1 ((hX.2.1 _ hb_b1).1.trans ht_b1)
        refine y_dup rfl rfl ?_
        refine y_bip rfl (by decide) ?_
        refine y_aload_n rfl rfl ?_
        refine y_getI rfl ((hX.2.1 _ hb_b1).1.trans ht_b1) (Nat.lt_of_lt_of_le hb_b1 hX.1) rfl rfl ?_
        refine y_iastoreC (j := 8) rfl ht_f3 ha_f3 (Nat.le_trans (by decide) (by omega : 94 ≤ _)) (by decide) (by decide) rfl ?_
        refine y_nameI (fun I46 e46 => ?_)
        have hX := hX.upI (by omega) (upI e46)
        have hS := hS0.x hX
        have hR := hR0.x hn hX
        have hz := hX.sz h94
        have hxn := hX.1
        have hw_b1 := hR.sal hlo_b1 hb0_b1 ((hX.2.1 _ hb_b1).1.trans ht_b1)
        refine y_dup rfl rfl ?_
        refine y_bip rfl (by decide) ?_
        refine y_aload_n rfl rfl ?_
        refine y_getI rfl ((hX.2.1 _ hb_b1).1.trans ht_b1) (Nat.lt_of_lt_of_le hb_b1 hX.1) rfl rfl ?_
        refine y_iastoreC (j := 9) rfl ht_f3 ha_f3 (Nat.le_trans (by decide) (by omega : 94 ≤ _)) (by decide) (by decide) rfl ?_
        refine y_nameI (fun I47 e47 => ?_)
        have hX := hX.upI (by omega) (upI e47)
        have hS := hS0.x hX
        have hR := hR0.x hn hX
        have hz := hX.sz h94
        have hxn := hX.1
        have hw_b1 := hR.sal hlo_b1 hb0_b1 ((hX.2.1 _ hb_b1).1.trans ht_b1)
        refine y_astore (ls' := [some _, some _, some _, some _, some _]) rfl rfl rfl ?_
        refine y_aload rfl rfl ?_
        refine y_iload_n rfl rfl ?_
        refine y_iaload rfl ht_f3 ha_f3 (by omega) (by omega) ?_
        refine y_ireturn rfl rfl rfl ?_
        exact hQ _ _ _ _ _ _ _ hX (by omega) (by omega)
      · refine y_aload_n rfl rfl ?_
        refine y_getI rfl ((hX.2.1 _ hb_b1).1.trans ht_b1) (Nat.lt_of_lt_of_le hb_b1 hX.1) rfl rfl ?_
        refine y_aload_n rfl rfl ?_
        refine y_getI rfl ((hX.2.1 _ hb_b1).1.trans ht_b1) (Nat.lt_of_lt_of_le hb_b1 hX.1) rfl rfl ?_
        refine y_icmp_ge rfl j_X11_isOpen_22 (fun h_48 => ?_) (fun h_49 => ?_)
        · refine y_iconst rfl ?_
          refine y_ireturn rfl rfl rfl ?_
          refine y_ret1 ?_
          refine y_if_eqT rfl j_X14_saleTold_98 (by decide) ?_
          refine y_iconst rfl ?_
          refine y_iastoreC (j := 7) rfl ht_f3 ha_f3 (Nat.le_trans (by decide) (by omega : 94 ≤ _)) (by decide) (by decide) rfl ?_
          refine y_nameI (fun I50 e50 => ?_)
          have hX := hX.upI (by omega) (upI e50)
          have hS := hS0.x hX
          have hR := hR0.x hn hX
          have hz := hX.sz h94
          have hxn := hX.1
          have hw_b1 := hR.sal hlo_b1 hb0_b1 ((hX.2.1 _ hb_b1).1.trans ht_b1)
          refine y_dup rfl rfl ?_
          refine y_bip rfl (by decide) ?_
          refine y_aload_n rfl rfl ?_
          refine y_getI rfl ((hX.2.1 _ hb_b1).1.trans ht_b1) (Nat.lt_of_lt_of_le hb_b1 hX.1) rfl rfl ?_
          refine y_iastoreC (j := 8) rfl ht_f3 ha_f3 (Nat.le_trans (by decide) (by omega : 94 ≤ _)) (by decide) (by decide) rfl ?_
          refine y_nameI (fun I51 e51 => ?_)
          have hX := hX.upI (by omega) (upI e51)
          have hS := hS0.x hX
          have hR := hR0.x hn hX
          have hz := hX.sz h94
          have hxn := hX.1
          have hw_b1 := hR.sal hlo_b1 hb0_b1 ((hX.2.1 _ hb_b1).1.trans ht_b1)
          refine y_dup rfl rfl ?_
          refine y_bip rfl (by decide) ?_
          refine y_aload_n rfl rfl ?_
          refine y_getI rfl ((hX.2.1 _ hb_b1).1.trans ht_b1) (Nat.lt_of_lt_of_le hb_b1 hX.1) rfl rfl ?_
          refine y_iastoreC (j := 9) rfl ht_f3 ha_f3 (Nat.le_trans (by decide) (by omega : 94 ≤ _)) (by decide) (by decide) rfl ?_
          refine y_nameI (fun I52 e52 => ?_)
          have hX := hX.upI (by omega) (upI e52)
          have hS := hS0.x hX
          have hR := hR0.x hn hX
          have hz := hX.sz h94
          have hxn := hX.1
          have hw_b1 := hR.sal hlo_b1 hb0_b1 ((hX.2.1 _ hb_b1).1.trans ht_b1)
          refine y_astore (ls' := [some _, some _, some _, some _, some _]) rfl rfl rfl ?_
          refine y_aload rfl rfl ?_
          refine y_iload_n rfl rfl ?_
          refine y_iaload rfl ht_f3 ha_f3 (by omega) (by omega) ?_
          refine y_ireturn rfl rfl rfl ?_
          exact hQ _ _ _ _ _ _ _ hX (by omega) (by omega)
        · refine y_iconst rfl ?_
          refine y_goto rfl j_X11_isOpen_23 ?_
          refine y_ireturn rfl rfl rfl ?_
          refine y_ret1 ?_
          refine y_if_eqF rfl (by decide) ?_
          refine y_aload_n rfl rfl ?_
          refine y_aload_n rfl rfl ?_
          refine y_getI rfl ((hX.2.1 _ hb_b1).1.trans ht_b1) (Nat.lt_of_lt_of_le hb_b1 hX.1) rfl rfl ?_
          refine y_virt rfl rfl rfl rfl rfl ((hX.2.1 _ hb_b1).1.trans ht_b1) (Nat.lt_of_lt_of_le hb_b1 hX.1) ?_
          refine r_part hS hR (Nat.le_trans hn hX.1) hlo_b1 hb0_b1 ((hX.2.1 _ hb_b1).1.trans ht_b1) (fun v_ => ?_)
          refine y_ret1 ?_
          refine y_goto rfl j_X14_saleTold_99 ?_
          refine y_iastoreC (j := 7) rfl ht_f3 ha_f3 (Nat.le_trans (by decide) (by omega : 94 ≤ _)) (by decide) (by decide) rfl ?_
          refine y_nameI (fun I53 e53 => ?_)
          have hX := hX.upI (by omega) (upI e53)
          have hS := hS0.x hX
          have hR := hR0.x hn hX
          have hz := hX.sz h94
          have hxn := hX.1
          have hw_b1 := hR.sal hlo_b1 hb0_b1 ((hX.2.1 _ hb_b1).1.trans ht_b1)
          refine y_dup rfl rfl ?_
          refine y_bip rfl (by decide) ?_
          refine y_aload_n rfl rfl ?_
          refine y_getI rfl ((hX.2.1 _ hb_b1).1.trans ht_b1) (Nat.lt_of_lt_of_le hb_b1 hX.1) rfl rfl ?_
          refine y_iastoreC (j := 8) rfl ht_f3 ha_f3 (Nat.le_trans (by decide) (by omega : 94 ≤ _)) (by decide) (by decide) rfl ?_
          refine y_nameI (fun I54 e54 => ?_)
          have hX := hX.upI (by omega) (upI e54)
          have hS := hS0.x hX
          have hR := hR0.x hn hX
          have hz := hX.sz h94
          have hxn := hX.1
          have hw_b1 := hR.sal hlo_b1 hb0_b1 ((hX.2.1 _ hb_b1).1.trans ht_b1)
          refine y_dup rfl rfl ?_
          refine y_bip rfl (by decide) ?_
          refine y_aload_n rfl rfl ?_
          refine y_getI rfl ((hX.2.1 _ hb_b1).1.trans ht_b1) (Nat.lt_of_lt_of_le hb_b1 hX.1) rfl rfl ?_
          refine y_iastoreC (j := 9) rfl ht_f3 ha_f3 (Nat.le_trans (by decide) (by omega : 94 ≤ _)) (by decide) (by decide) rfl ?_
          refine y_nameI (fun I55 e55 => ?_)
          have hX := hX.upI (by omega) (upI e55)
          have hS := hS0.x hX
          have hR := hR0.x hn hX
          have hz := hX.sz h94
          have hxn := hX.1
          have hw_b1 := hR.sal hlo_b1 hb0_b1 ((hX.2.1 _ hb_b1).1.trans ht_b1)
          refine y_astore (ls' := [some _, some _, some _, some _, some _]) rfl rfl rfl ?_
          refine y_aload rfl rfl ?_
          refine y_iload_n rfl rfl ?_
          refine y_iaload rfl ht_f3 ha_f3 (by omega) (by omega) ?_
          refine y_ireturn rfl rfl rfl ?_
          exact hQ _ _ _ _ _ _ _ hX (by omega) (by omega)
theorem r_leaseTold (hS0 : ySh n tg R) (hR0 : yRI K nb tg I R) (hn : nb ≤ n) {x1 x2 : Int32} (h0 : 0 ≤ x1.toInt) (h1 : x1.toInt < (I 90 2).toInt) (h2 : 0 ≤ x2.toInt) (h3 : x2.toInt < 6) (hQ : ∀ v n1 tg1 I1 R1 c1 s1, yX n tg I R n1 tg1 I1 R1 → c1 ≤ c + 1 → s1 ≤ s + 6 → Q (.inl (some (.int v))) (n1, tg1, I1, R1) c1 s1) : yC 233 [.ref 83, .int x1, .int x2] (n, tg, I, R) c s Q := by
  have hX : yX n tg I R n tg I R := yX.rf
  have hS := hS0
  have hR := hR0
  have h94 : 94 ≤ n := hS0.1
  have hz : ySz I I := hX.sz h94
  have hxn := hX.1
  have hN := hR0.1
  have hnb : 94 ≤ nb := hR0.2.2.2.2.2.2
  refine y_in (M := xm_X14_leaseTold) (ls := [some _, some _, some _, _, _]) rfl rfl rfl ?_
  refine y_aload_n rfl rfl ?_
  refine y_getR rfl (ySh.t hS rfl) (ySh.n hS rfl) rfl rfl (ySh.r hS rfl) ?_
  refine y_iload_n rfl rfl ?_
  refine y_virt rfl rfl rfl rfl rfl (ySh.t hS rfl) (ySh.n hS rfl) ?_
  refine l_get (nb := nb) (ySh.t hS rfl) (ySh.n hS rfl) (Nat.le_trans hn hX.1) hR.l90 (by omega) (by omega) (fun b1 eb_b1 hlo_b1 hb0_b1 ht_b1 => ?_)
  have hb_b1 := Nat.lt_of_lt_of_le hb0_b1 hn
  replace ht_b1 := (hX.2.1 _ hb_b1).1.symm.trans ht_b1
  have hw_b1 := hR.lea hlo_b1 hb0_b1 ((hX.2.1 _ hb_b1).1.trans ht_b1)
  refine y_ret1 ?_
  refine y_cast rfl ((hX.2.1 _ hb_b1).1.trans ht_b1) (Nat.lt_of_lt_of_le hb_b1 hX.1) ?_
  refine y_astore_n (ls' := [some _, some _, some _, some _, _]) rfl rfl rfl ?_
  refine y_bip rfl (by decide) ?_
  refine y_newarrL (m := 6) rfl rfl (by decide) (by decide) rfl (fun n2 tg2 I2 R2 hA => ?_)
  have hnA := hA.1
  have ht_f3 : tg2 n = (0, 6) := hA.2.1
  have ha_f3 : n < n2 := by omega
  have hX := hX.trans (hA.x rfl)
  have hS := hS0.x hX
  have hR := hR0.x hn hX
  have hz := hX.sz h94
  have hxn := hX.1
  have hw_b1 := hR.lea hlo_b1 hb0_b1 ((hX.2.1 _ hb_b1).1.trans ht_b1)
  refine y_dup rfl rfl ?_
  refine y_iconst rfl ?_
  refine y_aload_n rfl rfl ?_
  refine y_getI rfl ((hX.2.1 _ hb_b1).1.trans ht_b1) (Nat.lt_of_lt_of_le hb_b1 hX.1) rfl rfl ?_
  refine y_iastoreC (j := 0) rfl ht_f3 ha_f3 (Nat.le_trans (by decide) (by omega : 94 ≤ _)) (by decide) (by decide) rfl ?_
  refine y_nameI (fun I4 e4 => ?_)
  have hX := hX.upI (by omega) (upI e4)
  have hS := hS0.x hX
  have hR := hR0.x hn hX
  have hz := hX.sz h94
  have hxn := hX.1
  have hw_b1 := hR.lea hlo_b1 hb0_b1 ((hX.2.1 _ hb_b1).1.trans ht_b1)
  refine y_dup rfl rfl ?_
  refine y_iconst rfl ?_
  refine y_aload_n rfl rfl ?_
  refine y_getI rfl ((hX.2.1 _ hb_b1).1.trans ht_b1) (Nat.lt_of_lt_of_le hb_b1 hX.1) rfl rfl ?_
  refine y_iastoreC (j := 1) rfl ht_f3 ha_f3 (Nat.le_trans (by decide) (by omega : 94 ≤ _)) (by decide) (by decide) rfl ?_
  refine y_nameI (fun I5 e5 => ?_)
  have hX := hX.upI (by omega) (upI e5)
  have hS := hS0.x hX
  have hR := hR0.x hn hX
  have hz := hX.sz h94
  have hxn := hX.1
  have hw_b1 := hR.lea hlo_b1 hb0_b1 ((hX.2.1 _ hb_b1).1.trans ht_b1)
  refine y_dup rfl rfl ?_
  refine y_iconst rfl ?_
  refine y_aload_n rfl rfl ?_
  refine y_getI rfl ((hX.2.1 _ hb_b1).1.trans ht_b1) (Nat.lt_of_lt_of_le hb_b1 hX.1) rfl rfl ?_
  refine y_static rfl rfl rfl rfl rfl ?_
  refine r_one (fun v_ hv_ => ?_)
  refine y_ret1 ?_
  refine y_iastoreC (j := 2) rfl ht_f3 ha_f3 (Nat.le_trans (by decide) (by omega : 94 ≤ _)) (by decide) (by decide) rfl ?_
  refine y_nameI (fun I6 e6 => ?_)
  have hX := hX.upI (by omega) (upI e6)
  have hS := hS0.x hX
  have hR := hR0.x hn hX
  have hz := hX.sz h94
  have hxn := hX.1
  have hw_b1 := hR.lea hlo_b1 hb0_b1 ((hX.2.1 _ hb_b1).1.trans ht_b1)
  refine y_dup rfl rfl ?_
  refine y_iconst rfl ?_
  refine y_aload_n rfl rfl ?_
  refine y_getI rfl ((hX.2.1 _ hb_b1).1.trans ht_b1) (Nat.lt_of_lt_of_le hb_b1 hX.1) rfl rfl ?_
  refine y_iastoreC (j := 3) rfl ht_f3 ha_f3 (Nat.le_trans (by decide) (by omega : 94 ≤ _)) (by decide) (by decide) rfl ?_
  refine y_nameI (fun I7 e7 => ?_)
  have hX := hX.upI (by omega) (upI e7)
  have hS := hS0.x hX
  have hR := hR0.x hn hX
  have hz := hX.sz h94
  have hxn := hX.1
  have hw_b1 := hR.lea hlo_b1 hb0_b1 ((hX.2.1 _ hb_b1).1.trans ht_b1)
  refine y_dup rfl rfl ?_
  refine y_iconst rfl ?_
  refine y_aload_n rfl rfl ?_
  refine y_getI rfl ((hX.2.1 _ hb_b1).1.trans ht_b1) (Nat.lt_of_lt_of_le hb_b1 hX.1) rfl rfl ?_
  refine y_iastoreC (j := 4) rfl ht_f3 ha_f3 (Nat.le_trans (by decide) (by omega : 94 ≤ _)) (by decide) (by decide) rfl ?_
  refine y_nameI (fun I8 e8 => ?_)
  have hX := hX.upI (by omega) (upI e8)
  have hS := hS0.x hX
  have hR := hR0.x hn hX
  have hz := hX.sz h94
  have hxn := hX.1
  have hw_b1 := hR.lea hlo_b1 hb0_b1 ((hX.2.1 _ hb_b1).1.trans ht_b1)
  refine y_dup rfl rfl ?_
  refine y_iconst rfl ?_
  refine y_aload_n rfl rfl ?_
  refine y_getI rfl ((hX.2.1 _ hb_b1).1.trans ht_b1) (Nat.lt_of_lt_of_le hb_b1 hX.1) rfl rfl ?_
  refine y_if_eq rfl j_X14_leaseTold_67 (fun h_9 => ?_) (fun h_10 => ?_)
  · refine y_aload_n rfl rfl ?_
    refine y_getI rfl ((hX.2.1 _ hb_b1).1.trans ht_b1) (Nat.lt_of_lt_of_le hb_b1 hX.1) rfl rfl ?_
    refine y_bip rfl (by decide) ?_
    refine y_aload_n rfl rfl ?_
    refine y_getI rfl ((hX.2.1 _ hb_b1).1.trans ht_b1) (Nat.lt_of_lt_of_le hb_b1 hX.1) rfl rfl ?_
    refine y_iconst rfl ?_
    refine y_iadd rfl ?_
    refine y_imul rfl ?_
    refine y_iadd rfl ?_
    refine y_iastoreC (j := 5) rfl ht_f3 ha_f3 (Nat.le_trans (by decide) (by omega : 94 ≤ _)) (by decide) (by decide) rfl ?_
    refine y_nameI (fun I11 e11 => ?_)
    have hX := hX.upI (by omega) (upI e11)
    have hS := hS0.x hX
    have hR := hR0.x hn hX
    have hz := hX.sz h94
    have hxn := hX.1
    have hw_b1 := hR.lea hlo_b1 hb0_b1 ((hX.2.1 _ hb_b1).1.trans ht_b1)
    refine y_astore (ls' := [some _, some _, some _, some _, some _]) rfl rfl rfl ?_
    refine y_aload rfl rfl ?_
    refine y_iload_n rfl rfl ?_
    refine y_iaload rfl ht_f3 ha_f3 (by omega) (by omega) ?_
    refine y_ireturn rfl rfl rfl ?_
    exact hQ _ _ _ _ _ _ _ hX (by omega) (by omega)
  · refine y_iconst rfl ?_
    refine y_goto rfl j_X14_leaseTold_81 ?_
    refine y_iastoreC (j := 5) rfl ht_f3 ha_f3 (Nat.le_trans (by decide) (by omega : 94 ≤ _)) (by decide) (by decide) rfl ?_
    refine y_nameI (fun I12 e12 => ?_)
    have hX := hX.upI (by omega) (upI e12)
    have hS := hS0.x hX
    have hR := hR0.x hn hX
    have hz := hX.sz h94
    have hxn := hX.1
    have hw_b1 := hR.lea hlo_b1 hb0_b1 ((hX.2.1 _ hb_b1).1.trans ht_b1)
    refine y_astore (ls' := [some _, some _, some _, some _, some _]) rfl rfl rfl ?_
    refine y_aload rfl rfl ?_
    refine y_iload_n rfl rfl ?_
    refine y_iaload rfl ht_f3 ha_f3 (by omega) (by omega) ?_
    refine y_ireturn rfl rfl rfl ?_
    exact hQ _ _ _ _ _ _ _ hX (by omega) (by omega)
theorem r_firmTold (hS0 : ySh n tg R) (hR0 : yRI K nb tg I R) (hn : nb ≤ n) {x1 x2 : Int32} (h0 : 0 ≤ x1.toInt) (h1 : x1.toInt < (I 92 2).toInt) (h2 : 0 ≤ x2.toInt) (h3 : x2.toInt < 5) (hQ : ∀ v n1 tg1 I1 R1 c1 s1, yX n tg I R n1 tg1 I1 R1 → c1 ≤ c + 1 → s1 ≤ s + 5 → Q (.inl (some (.int v))) (n1, tg1, I1, R1) c1 s1) : yC 237 [.ref 83, .int x1, .int x2] (n, tg, I, R) c s Q := by
  have hX : yX n tg I R n tg I R := yX.rf
  have hS := hS0
  have hR := hR0
  have h94 : 94 ≤ n := hS0.1
  have hz : ySz I I := hX.sz h94
  have hxn := hX.1
  have hN := hR0.1
  have hnb : 94 ≤ nb := hR0.2.2.2.2.2.2
  refine y_in (M := xm_X14_firmTold) (ls := [some _, some _, some _, _, _]) rfl rfl rfl ?_
  refine y_aload_n rfl rfl ?_
  refine y_getR rfl (ySh.t hS rfl) (ySh.n hS rfl) rfl rfl (ySh.r hS rfl) ?_
  refine y_iload_n rfl rfl ?_
  refine y_virt rfl rfl rfl rfl rfl (ySh.t hS rfl) (ySh.n hS rfl) ?_
  refine l_get (nb := nb) (ySh.t hS rfl) (ySh.n hS rfl) (Nat.le_trans hn hX.1) hR.l92 (by omega) (by omega) (fun b1 eb_b1 hlo_b1 hb0_b1 ht_b1 => ?_)
  have hb_b1 := Nat.lt_of_lt_of_le hb0_b1 hn
  replace ht_b1 := (hX.2.1 _ hb_b1).1.symm.trans ht_b1
  have hw_b1 := hR.frm eb_b1 (by omega)
  refine y_ret1 ?_
  refine y_castA rfl rfl ((hX.2.1 _ hb_b1).1.trans ht_b1) rfl (Nat.lt_of_lt_of_le hb_b1 hX.1) ?_
  refine y_astore_n (ls' := [some _, some _, some _, some _, _]) rfl rfl rfl ?_
  refine y_iconst rfl ?_
  refine y_newarrL (m := 5) rfl rfl (by decide) (by decide) rfl (fun n2 tg2 I2 R2 hA => ?_)
  have hnA := hA.1
  have ht_f3 : tg2 n = (0, 5) := hA.2.1
  have ha_f3 : n < n2 := by omega
  have hX := hX.trans (hA.x rfl)
  have hS := hS0.x hX
  have hR := hR0.x hn hX
  have hz := hX.sz h94
  have hxn := hX.1
  refine y_dup rfl rfl ?_
  refine y_iconst rfl ?_
  refine y_aload_n rfl rfl ?_
  refine y_iload_n rfl rfl ?_
  refine y_virt rfl rfl rfl rfl rfl (ySh.t hS rfl) (ySh.n hS rfl) ?_
  refine r_isClean hS hR (Nat.le_trans hn hX.1) (by omega) (by omega) ?_ ?_
  · refine y_ret1 ?_
    refine y_static rfl rfl rfl rfl rfl ?_
    refine r_one (fun v_ hv_ => ?_)
    refine y_ret1 ?_
    refine y_iastoreC (j := 0) rfl ht_f3 ha_f3 (Nat.le_trans (by decide) (by omega : 94 ≤ _)) (by decide) (by decide) rfl ?_
    refine y_nameI (fun I4 e4 => ?_)
    have hX := hX.upI (by omega) (upI e4)
    have hS := hS0.x hX
    have hR := hR0.x hn hX
    have hz := hX.sz h94
    have hxn := hX.1
    refine y_dup rfl rfl ?_
    refine y_iconst rfl ?_
    refine y_aload_n rfl rfl ?_
    refine y_getI rfl (ySh.t hS rfl) (ySh.n hS rfl) rfl rfl ?_
    refine y_iload_n rfl rfl ?_
    refine y_static rfl rfl rfl rfl rfl ?_
    refine y_in (M := xm_X14_has) (ls := [some _, some _]) rfl rfl rfl ?_
    refine y_iload_n rfl rfl ?_
    refine y_iload_n rfl rfl ?_
    refine y_ishr rfl ?_
    refine y_iconst rfl ?_
    refine y_iand rfl ?_
    refine y_iconst rfl ?_
    refine y_icmp_ne rfl j_X14_has_13 (fun h_5 => ?_) (fun h_6 => ?_)
    · rw [yz_1] at h_5
      refine y_iconst rfl ?_
      refine y_ireturn rfl rfl rfl ?_
      refine y_ret1 ?_
      refine y_static rfl rfl rfl rfl rfl ?_
      refine r_one (fun v_ hv_ => ?_)
      refine y_ret1 ?_
      refine y_iastoreC (j := 1) rfl ht_f3 ha_f3 (Nat.le_trans (by decide) (by omega : 94 ≤ _)) (by decide) (by decide) rfl ?_
      refine y_nameI (fun I7 e7 => ?_)
      have hX := hX.upI (by omega) (upI e7)
      have hS := hS0.x hX
      have hR := hR0.x hn hX
      have hz := hX.sz h94
      have hxn := hX.1
      refine y_dup rfl rfl ?_
      refine y_iconst rfl ?_
      refine y_aload_n rfl rfl ?_
      refine y_bip rfl (by decide) ?_
      refine y_ialoadC (j := 6) rfl ((hX.2.1 _ hb_b1).1.trans ht_b1) (Nat.lt_of_lt_of_le hb_b1 hX.1) (by decide) (by decide) rfl ?_
      refine y_iastoreC (j := 2) rfl ht_f3 ha_f3 (Nat.le_trans (by decide) (by omega : 94 ≤ _)) (by decide) (by decide) rfl ?_
      refine y_nameI (fun I8 e8 => ?_)
      have hX := hX.upI (by omega) (upI e8)
      have hS := hS0.x hX
      have hR := hR0.x hn hX
      have hz := hX.sz h94
      have hxn := hX.1
      refine y_dup rfl rfl ?_
      refine y_iconst rfl ?_
      refine y_aload_n rfl rfl ?_
      refine y_iconst rfl ?_
      refine y_ialoadC (j := 4) rfl ((hX.2.1 _ hb_b1).1.trans ht_b1) (Nat.lt_of_lt_of_le hb_b1 hX.1) (by decide) (by decide) rfl ?_
      refine y_iastoreC (j := 3) rfl ht_f3 ha_f3 (Nat.le_trans (by decide) (by omega : 94 ≤ _)) (by decide) (by decide) rfl ?_
      refine y_nameI (fun I9 e9 => ?_)
      have hX := hX.upI (by omega) (upI e9)
      have hS := hS0.x hX
      have hR := hR0.x hn hX
      have hz := hX.sz h94
      have hxn := hX.1
      refine y_dup rfl rfl ?_
      refine y_iconst rfl ?_
      refine y_aload_n rfl rfl ?_
      refine y_iconst rfl ?_
      refine y_ialoadC (j := 5) rfl ((hX.2.1 _ hb_b1).1.trans ht_b1) (Nat.lt_of_lt_of_le hb_b1 hX.1) (by decide) (by decide) rfl ?_
      refine y_iastoreC (j := 4) rfl ht_f3 ha_f3 (Nat.le_trans (by decide) (by omega : 94 ≤ _)) (by decide) (by decide) rfl ?_
      refine y_nameI (fun I10 e10 => ?_)
      have hX := hX.upI (by omega) (upI e10)
      have hS := hS0.x hX
      have hR := hR0.x hn hX
      have hz := hX.sz h94
      have hxn := hX.1
      refine y_astore (ls' := [some _, some _, some _, some _, some _]) rfl rfl rfl ?_
      refine y_aload rfl rfl ?_
      refine y_iload_n rfl rfl ?_
      refine y_iaload rfl ht_f3 ha_f3 (by omega) (by omega) ?_
      refine y_ireturn rfl rfl rfl ?_
      exact hQ _ _ _ _ _ _ _ hX (by omega) (by omega)
    · rw [yz_1] at h_6
      refine y_iconst rfl ?_
      refine y_goto rfl j_X14_has_14 ?_
      refine y_ireturn rfl rfl rfl ?_
      refine y_ret1 ?_
      refine y_static rfl rfl rfl rfl rfl ?_
      refine r_one (fun v_ hv_ => ?_)
      refine y_ret1 ?_
      refine y_iastoreC (j := 1) rfl ht_f3 ha_f3 (Nat.le_trans (by decide) (by omega : 94 ≤ _)) (by decide) (by decide) rfl ?_
      refine y_nameI (fun I11 e11 => ?_)
      have hX := hX.upI (by omega) (upI e11)
      have hS := hS0.x hX
      have hR := hR0.x hn hX
      have hz := hX.sz h94
      have hxn := hX.1
      refine y_dup rfl rfl ?_
      refine y_iconst rfl ?_
      refine y_aload_n rfl rfl ?_
      refine y_bip rfl (by decide) ?_
      refine y_ialoadC (j := 6) rfl ((hX.2.1 _ hb_b1).1.trans ht_b1) (Nat.lt_of_lt_of_le hb_b1 hX.1) (by decide) (by decide) rfl ?_
      refine y_iastoreC (j := 2) rfl ht_f3 ha_f3 (Nat.le_trans (by decide) (by omega : 94 ≤ _)) (by decide) (by decide) rfl ?_
      refine y_nameI (fun I12 e12 => ?_)
      have hX := hX.upI (by omega) (upI e12)
      have hS := hS0.x hX
      have hR := hR0.x hn hX
      have hz := hX.sz h94
      have hxn := hX.1
      refine y_dup rfl rfl ?_
      refine y_iconst rfl ?_
      refine y_aload_n rfl rfl ?_
      refine y_iconst rfl ?_
      refine y_ialoadC (j := 4) rfl ((hX.2.1 _ hb_b1).1.trans ht_b1) (Nat.lt_of_lt_of_le hb_b1 hX.1) (by decide) (by decide) rfl ?_
      refine y_iastoreC (j := 3) rfl ht_f3 ha_f3 (Nat.le_trans (by decide) (by omega : 94 ≤ _)) (by decide) (by decide) rfl ?_
      refine y_nameI (fun I13 e13 => ?_)
      have hX := hX.upI (by omega) (upI e13)
      have hS := hS0.x hX
      have hR := hR0.x hn hX
      have hz := hX.sz h94
      have hxn := hX.1
      refine y_dup rfl rfl ?_
      refine y_iconst rfl ?_
      refine y_aload_n rfl rfl ?_
      refine y_iconst rfl ?_
      refine y_ialoadC (j := 5) rfl ((hX.2.1 _ hb_b1).1.trans ht_b1) (Nat.lt_of_lt_of_le hb_b1 hX.1) (by decide) (by decide) rfl ?_
      refine y_iastoreC (j := 4) rfl ht_f3 ha_f3 (Nat.le_trans (by decide) (by omega : 94 ≤ _)) (by decide) (by decide) rfl ?_
      refine y_nameI (fun I14 e14 => ?_)
      have hX := hX.upI (by omega) (upI e14)
      have hS := hS0.x hX
      have hR := hR0.x hn hX
      have hz := hX.sz h94
      have hxn := hX.1
      refine y_astore (ls' := [some _, some _, some _, some _, some _]) rfl rfl rfl ?_
      refine y_aload rfl rfl ?_
      refine y_iload_n rfl rfl ?_
      refine y_iaload rfl ht_f3 ha_f3 (by omega) (by omega) ?_
      refine y_ireturn rfl rfl rfl ?_
      exact hQ _ _ _ _ _ _ _ hX (by omega) (by omega)
  · refine y_ret1 ?_
    refine y_static rfl rfl rfl rfl rfl ?_
    refine r_one (fun v_ hv_ => ?_)
    refine y_ret1 ?_
    refine y_iastoreC (j := 0) rfl ht_f3 ha_f3 (Nat.le_trans (by decide) (by omega : 94 ≤ _)) (by decide) (by decide) rfl ?_
    refine y_nameI (fun I15 e15 => ?_)
    have hX := hX.upI (by omega) (upI e15)
    have hS := hS0.x hX
    have hR := hR0.x hn hX
    have hz := hX.sz h94
    have hxn := hX.1
    refine y_dup rfl rfl ?_
    refine y_iconst rfl ?_
    refine y_aload_n rfl rfl ?_
    refine y_getI rfl (ySh.t hS rfl) (ySh.n hS rfl) rfl rfl ?_
    refine y_iload_n rfl rfl ?_
    refine y_static rfl rfl rfl rfl rfl ?_
    refine y_in (M := xm_X14_has) (ls := [some _, some _]) rfl rfl rfl ?_
    refine y_iload_n rfl rfl ?_
    refine y_iload_n rfl rfl ?_
    refine y_ishr rfl ?_
    refine y_iconst rfl ?_
    refine y_iand rfl ?_
    refine y_iconst rfl ?_
    refine y_icmp_ne rfl j_X14_has_13 (fun h_16 => ?_) (fun h_17 => ?_)
    · rw [yz_1] at h_16
      refine y_iconst rfl ?_
      refine y_ireturn rfl rfl rfl ?_
      refine y_ret1 ?_
      refine y_static rfl rfl rfl rfl rfl ?_
      refine r_one (fun v_ hv_ => ?_)
      refine y_ret1 ?_
      refine y_iastoreC (j := 1) rfl ht_f3 ha_f3 (Nat.le_trans (by decide) (by omega : 94 ≤ _)) (by decide) (by decide) rfl ?_
      refine y_nameI (fun I18 e18 => ?_)
      have hX := hX.upI (by omega) (upI e18)
      have hS := hS0.x hX
      have hR := hR0.x hn hX
      have hz := hX.sz h94
      have hxn := hX.1
      refine y_dup rfl rfl ?_
      refine y_iconst rfl ?_
      refine y_aload_n rfl rfl ?_
      refine y_bip rfl (by decide) ?_
      refine y_ialoadC (j := 6) rfl ((hX.2.1 _ hb_b1).1.trans ht_b1) (Nat.lt_of_lt_of_le hb_b1 hX.1) (by decide) (by decide) rfl ?_
      refine y_iastoreC (j := 2) rfl ht_f3 ha_f3 (Nat.le_trans (by decide) (by omega : 94 ≤ _)) (by decide) (by decide) rfl ?_
      refine y_nameI (fun I19 e19 => ?_)
      have hX := hX.upI (by omega) (upI e19)
      have hS := hS0.x hX
      have hR := hR0.x hn hX
      have hz := hX.sz h94
      have hxn := hX.1
      refine y_dup rfl rfl ?_
      refine y_iconst rfl ?_
      refine y_aload_n rfl rfl ?_
      refine y_iconst rfl ?_
      refine y_ialoadC (j := 4) rfl ((hX.2.1 _ hb_b1).1.trans ht_b1) (Nat.lt_of_lt_of_le hb_b1 hX.1) (by decide) (by decide) rfl ?_
      refine y_iastoreC (j := 3) rfl ht_f3 ha_f3 (Nat.le_trans (by decide) (by omega : 94 ≤ _)) (by decide) (by decide) rfl ?_
      refine y_nameI (fun I20 e20 => ?_)
      have hX := hX.upI (by omega) (upI e20)
      have hS := hS0.x hX
      have hR := hR0.x hn hX
      have hz := hX.sz h94
      have hxn := hX.1
      refine y_dup rfl rfl ?_
      refine y_iconst rfl ?_
      refine y_aload_n rfl rfl ?_
      refine y_iconst rfl ?_
      refine y_ialoadC (j := 5) rfl ((hX.2.1 _ hb_b1).1.trans ht_b1) (Nat.lt_of_lt_of_le hb_b1 hX.1) (by decide) (by decide) rfl ?_
      refine y_iastoreC (j := 4) rfl ht_f3 ha_f3 (Nat.le_trans (by decide) (by omega : 94 ≤ _)) (by decide) (by decide) rfl ?_
      refine y_nameI (fun I21 e21 => ?_)
      have hX := hX.upI (by omega) (upI e21)
      have hS := hS0.x hX
      have hR := hR0.x hn hX
      have hz := hX.sz h94
      have hxn := hX.1
      refine y_astore (ls' := [some _, some _, some _, some _, some _]) rfl rfl rfl ?_
      refine y_aload rfl rfl ?_
      refine y_iload_n rfl rfl ?_
      refine y_iaload rfl ht_f3 ha_f3 (by omega) (by omega) ?_
      refine y_ireturn rfl rfl rfl ?_
      exact hQ _ _ _ _ _ _ _ hX (by omega) (by omega)
    · rw [yz_1] at h_17
      refine y_iconst rfl ?_
      refine y_goto rfl j_X14_has_14 ?_
      refine y_ireturn rfl rfl rfl ?_
      refine y_ret1 ?_
      refine y_static rfl rfl rfl rfl rfl ?_
      refine r_one (fun v_ hv_ => ?_)
      refine y_ret1 ?_
      refine y_iastoreC (j := 1) rfl ht_f3 ha_f3 (Nat.le_trans (by decide) (by omega : 94 ≤ _)) (by decide) (by decide) rfl ?_
      refine y_nameI (fun I22 e22 => ?_)
      have hX := hX.upI (by omega) (upI e22)
      have hS := hS0.x hX
      have hR := hR0.x hn hX
      have hz := hX.sz h94
      have hxn := hX.1
      refine y_dup rfl rfl ?_
      refine y_iconst rfl ?_
      refine y_aload_n rfl rfl ?_
      refine y_bip rfl (by decide) ?_
      refine y_ialoadC (j := 6) rfl ((hX.2.1 _ hb_b1).1.trans ht_b1) (Nat.lt_of_lt_of_le hb_b1 hX.1) (by decide) (by decide) rfl ?_
      refine y_iastoreC (j := 2) rfl ht_f3 ha_f3 (Nat.le_trans (by decide) (by omega : 94 ≤ _)) (by decide) (by decide) rfl ?_
      refine y_nameI (fun I23 e23 => ?_)
      have hX := hX.upI (by omega) (upI e23)
      have hS := hS0.x hX
      have hR := hR0.x hn hX
      have hz := hX.sz h94
      have hxn := hX.1
      refine y_dup rfl rfl ?_
      refine y_iconst rfl ?_
      refine y_aload_n rfl rfl ?_
      refine y_iconst rfl ?_
      refine y_ialoadC (j := 4) rfl ((hX.2.1 _ hb_b1).1.trans ht_b1) (Nat.lt_of_lt_of_le hb_b1 hX.1) (by decide) (by decide) rfl ?_
      refine y_iastoreC (j := 3) rfl ht_f3 ha_f3 (Nat.le_trans (by decide) (by omega : 94 ≤ _)) (by decide) (by decide) rfl ?_
      refine y_nameI (fun I24 e24 => ?_)
      have hX := hX.upI (by omega) (upI e24)
      have hS := hS0.x hX
      have hR := hR0.x hn hX
      have hz := hX.sz h94
      have hxn := hX.1
      refine y_dup rfl rfl ?_
      refine y_iconst rfl ?_
      refine y_aload_n rfl rfl ?_
      refine y_iconst rfl ?_
      refine y_ialoadC (j := 5) rfl ((hX.2.1 _ hb_b1).1.trans ht_b1) (Nat.lt_of_lt_of_le hb_b1 hX.1) (by decide) (by decide) rfl ?_
      refine y_iastoreC (j := 4) rfl ht_f3 ha_f3 (Nat.le_trans (by decide) (by omega : 94 ≤ _)) (by decide) (by decide) rfl ?_
      refine y_nameI (fun I25 e25 => ?_)
      have hX := hX.upI (by omega) (upI e25)
      have hS := hS0.x hX
      have hR := hR0.x hn hX
      have hz := hX.sz h94
      have hxn := hX.1
      refine y_astore (ls' := [some _, some _, some _, some _, some _]) rfl rfl rfl ?_
      refine y_aload rfl rfl ?_
      refine y_iload_n rfl rfl ?_
      refine y_iaload rfl ht_f3 ha_f3 (by omega) (by omega) ?_
      refine y_ireturn rfl rfl rfl ?_
      exact hQ _ _ _ _ _ _ _ hX (by omega) (by omega)
theorem r_ventureTold (hS0 : ySh n tg R) (hR0 : yRI K nb tg I R) (hn : nb ≤ n) {x1 x2 x3 : Int32} (h0 : 0 ≤ x1.toInt) (h1 : x1.toInt < (I 91 2).toInt) (h2 : 0 ≤ x2.toInt) (h3 : x2.toInt < 9) (hQ : ∀ v, Q (.inl (some (.int v))) (n, tg, I, R) c s) : yC 235 [.ref 83, .int x1, .int x2, .int x3] (n, tg, I, R) c s Q := by
  have hX : yX n tg I R n tg I R := yX.rf
  have hS := hS0
  have hR := hR0
  have h94 : 94 ≤ n := hS0.1
  have hz : ySz I I := hX.sz h94
  have hxn := hX.1
  have hN := hR0.1
  have hnb : 94 ≤ nb := hR0.2.2.2.2.2.2
  refine y_in (M := xm_X14_ventureTold) (ls := [some _, some _, some _, some _, _]) rfl rfl rfl ?_
  refine y_aload_n rfl rfl ?_
  refine y_getR rfl (ySh.t hS rfl) (ySh.n hS rfl) rfl rfl (ySh.r hS rfl) ?_
  refine y_iload_n rfl rfl ?_
  refine y_virt rfl rfl rfl rfl rfl (ySh.t hS rfl) (ySh.n hS rfl) ?_
  refine l_get (nb := nb) (ySh.t hS rfl) (ySh.n hS rfl) (Nat.le_trans hn hX.1) hR.l91 (by omega) (by omega) (fun b1 eb_b1 hlo_b1 hb0_b1 ht_b1 => ?_)
  have hb_b1 := Nat.lt_of_lt_of_le hb0_b1 hn
  replace ht_b1 := (hX.2.1 _ hb_b1).1.symm.trans ht_b1
  refine y_ret1 ?_
  refine y_cast rfl ((hX.2.1 _ hb_b1).1.trans ht_b1) (Nat.lt_of_lt_of_le hb_b1 hX.1) ?_
  refine y_astore (ls' := [some _, some _, some _, some _, some _]) rfl rfl rfl ?_
  refine y_iload_n rfl rfl ?_
  refine y_if_ne rfl j_X14_ventureTold_27 (fun h_2 => ?_) (fun h_3 => ?_)
  · refine y_iload_n rfl rfl ?_
    refine y_iconst rfl ?_
    refine y_icmp_ne rfl j_X14_ventureTold_42 (fun h_4 => ?_) (fun h_5 => ?_)
    · rw [yz_1] at h_4
      refine y_aload rfl rfl ?_
      obtain ⟨hR_v6, hb_v6, ht_v6⟩ := hR0.ven hlo_b1 hb0_b1 ht_b1 (j := 3) (by decide)
      have hb0_v6 := hb_v6
      have hb_v6 := Nat.lt_of_lt_of_le hb_v6 hn
      have hlo_v6 : 94 ≤ b1 + 1 + 3 := by omega
      have hR2_v6 := (congrFun (hX.2.1 b1 hb_b1).2.2 3).trans hR_v6
      refine y_getR rfl ((hX.2.1 _ hb_b1).1.trans ht_b1) (Nat.lt_of_lt_of_le hb_b1 hX.1) rfl rfl hR2_v6 ?_
      refine y_iload_n rfl rfl ?_
      refine y_iaload rfl ((hX.2.1 _ hb_v6).1.trans ht_v6) (Nat.lt_of_lt_of_le hb_v6 hX.1) (by omega) (by omega) ?_
      refine y_ireturn rfl rfl rfl ?_
      exact hQ _
    · rw [yz_1] at h_5
      refine y_aload rfl rfl ?_
      obtain ⟨hR_v7, hb_v7, ht_v7⟩ := hR0.ven hlo_b1 hb0_b1 ht_b1 (j := 2) (by decide)
      have hb0_v7 := hb_v7
      have hb_v7 := Nat.lt_of_lt_of_le hb_v7 hn
      have hlo_v7 : 94 ≤ b1 + 1 + 2 := by omega
      have hR2_v7 := (congrFun (hX.2.1 b1 hb_b1).2.2 2).trans hR_v7
      refine y_getR rfl ((hX.2.1 _ hb_b1).1.trans ht_b1) (Nat.lt_of_lt_of_le hb_b1 hX.1) rfl rfl hR2_v7 ?_
      refine y_iload_n rfl rfl ?_
      refine y_iaload rfl ((hX.2.1 _ hb_v7).1.trans ht_v7) (Nat.lt_of_lt_of_le hb_v7 hX.1) (by omega) (by omega) ?_
      refine y_goto rfl j_X14_ventureTold_49 ?_
      refine y_ireturn rfl rfl rfl ?_
      exact hQ _
  · refine y_aload rfl rfl ?_
    obtain ⟨hR_v8, hb_v8, ht_v8⟩ := hR0.ven hlo_b1 hb0_b1 ht_b1 (j := 1) (by decide)
    have hb0_v8 := hb_v8
    have hb_v8 := Nat.lt_of_lt_of_le hb_v8 hn
    have hlo_v8 : 94 ≤ b1 + 1 + 1 := by omega
    have hR2_v8 := (congrFun (hX.2.1 b1 hb_b1).2.2 1).trans hR_v8
    refine y_getR rfl ((hX.2.1 _ hb_b1).1.trans ht_b1) (Nat.lt_of_lt_of_le hb_b1 hX.1) rfl rfl hR2_v8 ?_
    refine y_iload_n rfl rfl ?_
    refine y_iaload rfl ((hX.2.1 _ hb_v8).1.trans ht_v8) (Nat.lt_of_lt_of_le hb_v8 hX.1) (by omega) (by omega) ?_
    refine y_goto rfl j_X14_ventureTold_49 ?_
    refine y_ireturn rfl rfl rfl ?_
    exact hQ _
theorem e_r_personTold23 (hS0 : ySh n tg R) (hR0 : yRI K nb tg I R) (hn : nb ≤ n) {x1 x2 : Int32} (hp0 : 0 ≤ x1.toInt) (hp1 : x1.toInt < 8) (hx : ∀ (x3 : Int32) (x4 : Int32) (x5 : Int32) (x6 : Int32) (x7 : Int32) n1 tg1 I1 R1, yX n tg I R n1 tg1 I1 R1 → yW xm_X14_personTold xc_X14_personTold_68 [some (.ref 83), some (.int x1), some (.int x2), some (.int x3), some (.int x4), some (.int x5), some (.int x6), some (.int x7), none, none] [] (n1, tg1, I1, R1) c s Q) : ∀ (m : Nat) (z : Int) (it : Nat) (x3 : Int32) (x4 : Int32) (x5 : Int32) (x6 : Int32) (x7 : Int32) (n1 : Nat) (tg1 : Nat → yT) (I1 : Nat → Nat → Int32) (R1 : Nat → Nat → Value), yX n tg I R n1 tg1 I1 R1 → n ≤ it → yIt nb n1 tg1 I1 R1 it 88 z → (I 88 2).toInt - z < m → yW xm_X14_personTold xc_X14_personTold_23 [some (.ref 83), some (.int x1), some (.int x2), some (.int x3), some (.int x4), some (.int x5), some (.int x6), some (.int x7), some (.ref it), none] [] (n1, tg1, I1, R1) c s Q := by
  intro m
  induction m with
  | zero =>
    intro z it x3 x4 x5 x6 x7 n1 tg1 I1 R1 hX hit hI_it hm
    have hz := hX.sz hS0.1
    have h7 := hI_it.2.2.2.2.2.2.1
    exfalso; omega
  | succ m ih =>
    intro z it x3 x4 x5 x6 x7 n1 tg1 I1 R1 hX hit hI_it hm
    have hS := hS0.x hX
    have hR := hR0.x hn hX
    have h94 : 94 ≤ n := hS0.1
    have hz := hX.sz h94
    have hxn := hX.1
    have hN := hR0.1
    have hnb : 94 ≤ nb := hR0.2.2.2.2.2.2
    refine y_aload rfl rfl ?_
    refine y_intf rfl rfl rfl rfl rfl hI_it.2.2.1 hI_it.2.1 ?_
    refine i_hasNext hI_it (fun h_1 => ?_) (fun h_2 => ?_)
    · refine y_ret1 ?_
      refine y_if_eqF rfl (by decide) ?_
      refine y_aload rfl rfl ?_
      refine y_intf rfl rfl rfl rfl rfl hI_it.2.2.1 hI_it.2.1 ?_
      have hz0 := hI_it.2.2.2.2.2.1
      refine i_next (nb := nb) (Nat.le_trans (by decide) (by have := hI_it.1; omega : 94 ≤ _)) (Nat.le_trans hn hX.1) hI_it hR.l88 (by omega) h_1 (fun b3 I3 eb_b3 hlo_b3 hb0_b3 ht_b3 hI1 hIe => ?_)
      have hb_b3 := Nat.lt_of_lt_of_le hb0_b3 hn
      replace ht_b3 := (hX.2.1 _ hb_b3).1.symm.trans ht_b3
      have hI_it := hI1
      have hX := hX.upI (by omega) hIe
      have hS := hS0.x hX
      have hR := hR0.x hn hX
      have hz := hX.sz h94
      have hxn := hX.1
      have hw_b3 := hR.thi hlo_b3 hb0_b3 ((hX.2.1 _ hb_b3).1.trans ht_b3)
      refine y_ret1 ?_
      refine y_cast rfl ((hX.2.1 _ hb_b3).1.trans ht_b3) (Nat.lt_of_lt_of_le hb_b3 hX.1) ?_
      refine y_astore (ls' := [some _, some _, some _, some _, some _, some _, some _, some _, some _, some _]) rfl rfl rfl ?_
      refine y_iload_n rfl rfl ?_
      refine y_aload rfl rfl ?_
      refine y_getI rfl ((hX.2.1 _ hb_b3).1.trans ht_b3) (Nat.lt_of_lt_of_le hb_b3 hX.1) rfl rfl ?_
      refine y_iload_n rfl rfl ?_
      refine y_icmp_ne rfl j_X14_personTold_59 (fun h_4 => ?_) (fun h_5 => ?_)
      · refine y_iconst rfl ?_
        refine y_static rfl rfl rfl rfl rfl ?_
        refine r_one (fun v_ hv_ => ?_)
        refine y_ret1 ?_
        refine y_iadd rfl ?_
        refine y_istore_n (ls' := [some _, some _, some _, some _, some _, some _, some _, some _, some _, some _]) rfl rfl rfl ?_
        refine y_goto rfl j_X14_personTold_23 ?_
        refine y_fgt (ls := [some _, some _, some _, some _, some _, some _, some _, some _, some _, none]) ⟨rfl, rfl, rfl, rfl, rfl, rfl, rfl, rfl, rfl, trivial⟩ ?_
        exact ih _ _ _ _ _ _ _ _ _ _ _ hX (by omega) hI_it  (by omega)
      · refine y_iconst rfl ?_
        refine y_goto rfl j_X14_personTold_60 ?_
        refine y_static rfl rfl rfl rfl rfl ?_
        refine r_one (fun v_ hv_ => ?_)
        refine y_ret1 ?_
        refine y_iadd rfl ?_
        refine y_istore_n (ls' := [some _, some _, some _, some _, some _, some _, some _, some _, some _, some _]) rfl rfl rfl ?_
        refine y_goto rfl j_X14_personTold_23 ?_
        refine y_fgt (ls := [some _, some _, some _, some _, some _, some _, some _, some _, some _, none]) ⟨rfl, rfl, rfl, rfl, rfl, rfl, rfl, rfl, rfl, trivial⟩ ?_
        exact ih _ _ _ _ _ _ _ _ _ _ _ hX (by omega) hI_it  (by omega)
    · refine y_ret1 ?_
      refine y_if_eqT rfl j_X14_personTold_68 (by decide) ?_
      refine y_fgt (ls := [some _, some _, some _, some _, some _, some _, some _, some _, none, none]) ⟨rfl, rfl, rfl, rfl, rfl, rfl, rfl, rfl, trivial⟩ ?_
      exact hx _ _ _ _ _ _ _ _ _ hX
theorem e_r_personTold77 (hS0 : ySh n tg R) (hR0 : yRI K nb tg I R) (hn : nb ≤ n) {x1 x2 : Int32} (hp0 : 0 ≤ x1.toInt) (hp1 : x1.toInt < 8) (hx : ∀ (x3 : Int32) (x4 : Int32) (x5 : Int32) (x6 : Int32) (x7 : Int32) n1 tg1 I1 R1, yX n tg I R n1 tg1 I1 R1 → yW xm_X14_personTold xc_X14_personTold_148 [some (.ref 83), some (.int x1), some (.int x2), some (.int x3), some (.int x4), some (.int x5), some (.int x6), some (.int x7), none, none] [] (n1, tg1, I1, R1) c s Q) : ∀ (m : Nat) (z : Int) (it : Nat) (x3 : Int32) (x4 : Int32) (x5 : Int32) (x6 : Int32) (x7 : Int32) (n1 : Nat) (tg1 : Nat → yT) (I1 : Nat → Nat → Int32) (R1 : Nat → Nat → Value), yX n tg I R n1 tg1 I1 R1 → n ≤ it → yIt nb n1 tg1 I1 R1 it 89 z → (I 89 2).toInt - z < m → yW xm_X14_personTold xc_X14_personTold_77 [some (.ref 83), some (.int x1), some (.int x2), some (.int x3), some (.int x4), some (.int x5), some (.int x6), some (.int x7), some (.ref it), none] [] (n1, tg1, I1, R1) c s Q := by
  intro m
  induction m with
  | zero =>
    intro z it x3 x4 x5 x6 x7 n1 tg1 I1 R1 hX hit hI_it hm
    have hz := hX.sz hS0.1
    have h7 := hI_it.2.2.2.2.2.2.1
    exfalso; omega
  | succ m ih =>
    intro z it x3 x4 x5 x6 x7 n1 tg1 I1 R1 hX hit hI_it hm
    have hS := hS0.x hX
    have hR := hR0.x hn hX
    have h94 : 94 ≤ n := hS0.1
    have hz := hX.sz h94
    have hxn := hX.1
    have hN := hR0.1
    have hnb : 94 ≤ nb := hR0.2.2.2.2.2.2
    refine y_aload rfl rfl ?_
    refine y_intf rfl rfl rfl rfl rfl hI_it.2.2.1 hI_it.2.1 ?_
    refine i_hasNext hI_it (fun h_1 => ?_) (fun h_2 => ?_)
    · refine y_ret1 ?_
      refine y_if_eqF rfl (by decide) ?_
      refine y_aload rfl rfl ?_
      refine y_intf rfl rfl rfl rfl rfl hI_it.2.2.1 hI_it.2.1 ?_
      have hz0 := hI_it.2.2.2.2.2.1
      refine i_next (nb := nb) (Nat.le_trans (by decide) (by have := hI_it.1; omega : 94 ≤ _)) (Nat.le_trans hn hX.1) hI_it hR.l89 (by omega) h_1 (fun b3 I3 eb_b3 hlo_b3 hb0_b3 ht_b3 hI1 hIe => ?_)
      have hb_b3 := Nat.lt_of_lt_of_le hb0_b3 hn
      replace ht_b3 := (hX.2.1 _ hb_b3).1.symm.trans ht_b3
      have hI_it := hI1
      have hX := hX.upI (by omega) hIe
      have hS := hS0.x hX
      have hR := hR0.x hn hX
      have hz := hX.sz h94
      have hxn := hX.1
      have hw_b3 := hR.sal hlo_b3 hb0_b3 ((hX.2.1 _ hb_b3).1.trans ht_b3)
      refine y_ret1 ?_
      refine y_cast rfl ((hX.2.1 _ hb_b3).1.trans ht_b3) (Nat.lt_of_lt_of_le hb_b3 hX.1) ?_
      refine y_astore (ls' := [some _, some _, some _, some _, some _, some _, some _, some _, some _, some _]) rfl rfl rfl ?_
      refine y_aload rfl rfl ?_
      refine y_getI rfl ((hX.2.1 _ hb_b3).1.trans ht_b3) (Nat.lt_of_lt_of_le hb_b3 hX.1) rfl rfl ?_
      refine y_iload_n rfl rfl ?_
      refine y_icmp_ne rfl j_X14_personTold_77 (fun h_4 => ?_) (fun h_5 => ?_)
      · refine y_fgt (ls := [some _, some _, some _, some _, some _, some _, some _, some _, some _, none]) ⟨rfl, rfl, rfl, rfl, rfl, rfl, rfl, rfl, rfl, trivial⟩ ?_
        exact ih _ _ _ _ _ _ _ _ _ _ _ hX (by omega) hI_it  (by omega)
      · refine y_aload rfl rfl ?_
        refine y_getI rfl ((hX.2.1 _ hb_b3).1.trans ht_b3) (Nat.lt_of_lt_of_le hb_b3 hX.1) rfl rfl ?_
        refine y_if_eq rfl j_X14_personTold_119 (fun h_6 => ?_) (fun h_7 => ?_)
        · refine y_iload rfl rfl ?_
          refine y_aload rfl rfl ?_
          refine y_getI rfl ((hX.2.1 _ hb_b3).1.trans ht_b3) (Nat.lt_of_lt_of_le hb_b3 hX.1) rfl rfl ?_
          refine y_aload rfl rfl ?_
          refine y_getI rfl ((hX.2.1 _ hb_b3).1.trans ht_b3) (Nat.lt_of_lt_of_le hb_b3 hX.1) rfl rfl ?_
          refine y_isub rfl ?_
          refine y_iadd rfl ?_
          refine y_istore (ls' := [some _, some _, some _, some _, some _, some _, some _, some _, some _, some _]) rfl rfl rfl ?_
          refine y_iload rfl rfl ?_
          refine y_aload rfl rfl ?_
          refine y_virt rfl rfl rfl rfl rfl ((hX.2.1 _ hb_b3).1.trans ht_b3) (Nat.lt_of_lt_of_le hb_b3 hX.1) ?_
          refine r_left hS hR (Nat.le_trans hn hX.1) hlo_b3 hb0_b3 ((hX.2.1 _ hb_b3).1.trans ht_b3) (fun v_ => ?_)
          refine y_ret1 ?_
          refine y_iadd rfl ?_
          refine y_istore (ls' := [some _, some _, some _, some _, some _, some _, some _, some _, some _, some _]) rfl rfl rfl ?_
          refine y_goto rfl j_X14_personTold_77 ?_
          refine y_fgt (ls := [some _, some _, some _, some _, some _, some _, some _, some _, some _, none]) ⟨rfl, rfl, rfl, rfl, rfl, rfl, rfl, rfl, rfl, trivial⟩ ?_
          exact ih _ _ _ _ _ _ _ _ _ _ _ hX (by omega) hI_it  (by omega)
        · refine y_goto rfl j_X14_personTold_77 ?_
          refine y_fgt (ls := [some _, some _, some _, some _, some _, some _, some _, some _, some _, none]) ⟨rfl, rfl, rfl, rfl, rfl, rfl, rfl, rfl, rfl, trivial⟩ ?_
          exact ih _ _ _ _ _ _ _ _ _ _ _ hX (by omega) hI_it  (by omega)
    · refine y_ret1 ?_
      refine y_if_eqT rfl j_X14_personTold_148 (by decide) ?_
      refine y_fgt (ls := [some _, some _, some _, some _, some _, some _, some _, some _, none, none]) ⟨rfl, rfl, rfl, rfl, rfl, rfl, rfl, rfl, trivial⟩ ?_
      exact hx _ _ _ _ _ _ _ _ _ hX
theorem e_r_personTold157 (hS0 : ySh n tg R) (hR0 : yRI K nb tg I R) (hn : nb ≤ n) {x1 x2 : Int32} (hp0 : 0 ≤ x1.toInt) (hp1 : x1.toInt < 8) (hx : ∀ (x3 : Int32) (x4 : Int32) (x5 : Int32) (x6 : Int32) (x7 : Int32) n1 tg1 I1 R1, yX n tg I R n1 tg1 I1 R1 → yW xm_X14_personTold xc_X14_personTold_212 [some (.ref 83), some (.int x1), some (.int x2), some (.int x3), some (.int x4), some (.int x5), some (.int x6), some (.int x7), none, none] [] (n1, tg1, I1, R1) c s Q) : ∀ (m : Nat) (z : Int) (it : Nat) (x3 : Int32) (x4 : Int32) (x5 : Int32) (x6 : Int32) (x7 : Int32) (n1 : Nat) (tg1 : Nat → yT) (I1 : Nat → Nat → Int32) (R1 : Nat → Nat → Value), yX n tg I R n1 tg1 I1 R1 → n ≤ it → yIt nb n1 tg1 I1 R1 it 90 z → (I 90 2).toInt - z < m → yW xm_X14_personTold xc_X14_personTold_157 [some (.ref 83), some (.int x1), some (.int x2), some (.int x3), some (.int x4), some (.int x5), some (.int x6), some (.int x7), some (.ref it), none] [] (n1, tg1, I1, R1) c s Q := by
  intro m
  induction m with
  | zero =>
    intro z it x3 x4 x5 x6 x7 n1 tg1 I1 R1 hX hit hI_it hm
    have hz := hX.sz hS0.1
    have h7 := hI_it.2.2.2.2.2.2.1
    exfalso; omega
  | succ m ih =>
    intro z it x3 x4 x5 x6 x7 n1 tg1 I1 R1 hX hit hI_it hm
    have hS := hS0.x hX
    have hR := hR0.x hn hX
    have h94 : 94 ≤ n := hS0.1
    have hz := hX.sz h94
    have hxn := hX.1
    have hN := hR0.1
    have hnb : 94 ≤ nb := hR0.2.2.2.2.2.2
    refine y_aload rfl rfl ?_
    refine y_intf rfl rfl rfl rfl rfl hI_it.2.2.1 hI_it.2.1 ?_
    refine i_hasNext hI_it (fun h_1 => ?_) (fun h_2 => ?_)
    · refine y_ret1 ?_
      refine y_if_eqF rfl (by decide) ?_
      refine y_aload rfl rfl ?_
      refine y_intf rfl rfl rfl rfl rfl hI_it.2.2.1 hI_it.2.1 ?_
      have hz0 := hI_it.2.2.2.2.2.1
      refine i_next (nb := nb) (Nat.le_trans (by decide) (by have := hI_it.1; omega : 94 ≤ _)) (Nat.le_trans hn hX.1) hI_it hR.l90 (by omega) h_1 (fun b3 I3 eb_b3 hlo_b3 hb0_b3 ht_b3 hI1 hIe => ?_)
      have hb_b3 := Nat.lt_of_lt_of_le hb0_b3 hn
      replace ht_b3 := (hX.2.1 _ hb_b3).1.symm.trans ht_b3
      have hI_it := hI1
      have hX := hX.upI (by omega) hIe
      have hS := hS0.x hX
      have hR := hR0.x hn hX
      have hz := hX.sz h94
      have hxn := hX.1
      have hw_b3 := hR.lea hlo_b3 hb0_b3 ((hX.2.1 _ hb_b3).1.trans ht_b3)
      refine y_ret1 ?_
      refine y_cast rfl ((hX.2.1 _ hb_b3).1.trans ht_b3) (Nat.lt_of_lt_of_le hb_b3 hX.1) ?_
      refine y_astore (ls' := [some _, some _, some _, some _, some _, some _, some _, some _, some _, some _]) rfl rfl rfl ?_
      refine y_iload rfl rfl ?_
      refine y_aload rfl rfl ?_
      refine y_getI rfl ((hX.2.1 _ hb_b3).1.trans ht_b3) (Nat.lt_of_lt_of_le hb_b3 hX.1) rfl rfl ?_
      refine y_iload_n rfl rfl ?_
      refine y_icmp_ne rfl j_X14_personTold_202 (fun h_4 => ?_) (fun h_5 => ?_)
      · refine y_iconst rfl ?_
        refine y_static rfl rfl rfl rfl rfl ?_
        refine r_one (fun v_ hv_ => ?_)
        refine y_ret1 ?_
        refine y_iadd rfl ?_
        refine y_istore (ls' := [some _, some _, some _, some _, some _, some _, some _, some _, some _, some _]) rfl rfl rfl ?_
        refine y_goto rfl j_X14_personTold_157 ?_
        refine y_fgt (ls := [some _, some _, some _, some _, some _, some _, some _, some _, some _, none]) ⟨rfl, rfl, rfl, rfl, rfl, rfl, rfl, rfl, rfl, trivial⟩ ?_
        exact ih _ _ _ _ _ _ _ _ _ _ _ hX (by omega) hI_it  (by omega)
      · refine y_aload rfl rfl ?_
        refine y_getI rfl ((hX.2.1 _ hb_b3).1.trans ht_b3) (Nat.lt_of_lt_of_le hb_b3 hX.1) rfl rfl ?_
        refine y_if_ne rfl j_X14_personTold_202 (fun h_6 => ?_) (fun h_7 => ?_)
        · refine y_iconst rfl ?_
          refine y_static rfl rfl rfl rfl rfl ?_
          refine r_one (fun v_ hv_ => ?_)
          refine y_ret1 ?_
          refine y_iadd rfl ?_
          refine y_istore (ls' := [some _, some _, some _, some _, some _, some _, some _, some _, some _, some _]) rfl rfl rfl ?_
          refine y_goto rfl j_X14_personTold_157 ?_
          refine y_fgt (ls := [some _, some _, some _, some _, some _, some _, some _, some _, some _, none]) ⟨rfl, rfl, rfl, rfl, rfl, rfl, rfl, rfl, rfl, trivial⟩ ?_
          exact ih _ _ _ _ _ _ _ _ _ _ _ hX (by omega) hI_it  (by omega)
        · refine y_iconst rfl ?_
          refine y_goto rfl j_X14_personTold_203 ?_
          refine y_static rfl rfl rfl rfl rfl ?_
          refine r_one (fun v_ hv_ => ?_)
          refine y_ret1 ?_
          refine y_iadd rfl ?_
          refine y_istore (ls' := [some _, some _, some _, some _, some _, some _, some _, some _, some _, some _]) rfl rfl rfl ?_
          refine y_goto rfl j_X14_personTold_157 ?_
          refine y_fgt (ls := [some _, some _, some _, some _, some _, some _, some _, some _, some _, none]) ⟨rfl, rfl, rfl, rfl, rfl, rfl, rfl, rfl, rfl, trivial⟩ ?_
          exact ih _ _ _ _ _ _ _ _ _ _ _ hX (by omega) hI_it  (by omega)
    · refine y_ret1 ?_
      refine y_if_eqT rfl j_X14_personTold_212 (by decide) ?_
      refine y_fgt (ls := [some _, some _, some _, some _, some _, some _, some _, some _, none, none]) ⟨rfl, rfl, rfl, rfl, rfl, rfl, rfl, rfl, trivial⟩ ?_
      exact hx _ _ _ _ _ _ _ _ _ hX
theorem e_r_personTold221 (hS0 : ySh n tg R) (hR0 : yRI K nb tg I R) (hn : nb ≤ n) {x1 x2 : Int32} (hp0 : 0 ≤ x1.toInt) (hp1 : x1.toInt < 8) (hx : ∀ (x3 : Int32) (x4 : Int32) (x5 : Int32) (x6 : Int32) (x7 : Int32) n1 tg1 I1 R1, yX n tg I R n1 tg1 I1 R1 → yW xm_X14_personTold xc_X14_personTold_258 [some (.ref 83), some (.int x1), some (.int x2), some (.int x3), some (.int x4), some (.int x5), some (.int x6), some (.int x7), none, none] [] (n1, tg1, I1, R1) c s Q) : ∀ (m : Nat) (z : Int) (it : Nat) (x3 : Int32) (x4 : Int32) (x5 : Int32) (x6 : Int32) (x7 : Int32) (n1 : Nat) (tg1 : Nat → yT) (I1 : Nat → Nat → Int32) (R1 : Nat → Nat → Value), yX n tg I R n1 tg1 I1 R1 → n ≤ it → yIt nb n1 tg1 I1 R1 it 91 z → (I 91 2).toInt - z < m → yW xm_X14_personTold xc_X14_personTold_221 [some (.ref 83), some (.int x1), some (.int x2), some (.int x3), some (.int x4), some (.int x5), some (.int x6), some (.int x7), some (.ref it), none] [] (n1, tg1, I1, R1) c s Q := by
  intro m
  induction m with
  | zero =>
    intro z it x3 x4 x5 x6 x7 n1 tg1 I1 R1 hX hit hI_it hm
    have hz := hX.sz hS0.1
    have h7 := hI_it.2.2.2.2.2.2.1
    exfalso; omega
  | succ m ih =>
    intro z it x3 x4 x5 x6 x7 n1 tg1 I1 R1 hX hit hI_it hm
    have hS := hS0.x hX
    have hR := hR0.x hn hX
    have h94 : 94 ≤ n := hS0.1
    have hz := hX.sz h94
    have hxn := hX.1
    have hN := hR0.1
    have hnb : 94 ≤ nb := hR0.2.2.2.2.2.2
    refine y_aload rfl rfl ?_
    refine y_intf rfl rfl rfl rfl rfl hI_it.2.2.1 hI_it.2.1 ?_
    refine i_hasNext hI_it (fun h_1 => ?_) (fun h_2 => ?_)
    · refine y_ret1 ?_
      refine y_if_eqF rfl (by decide) ?_
      refine y_aload rfl rfl ?_
      refine y_intf rfl rfl rfl rfl rfl hI_it.2.2.1 hI_it.2.1 ?_
      have hz0 := hI_it.2.2.2.2.2.1
      refine i_next (nb := nb) (Nat.le_trans (by decide) (by have := hI_it.1; omega : 94 ≤ _)) (Nat.le_trans hn hX.1) hI_it hR.l91 (by omega) h_1 (fun b3 I3 eb_b3 hlo_b3 hb0_b3 ht_b3 hI1 hIe => ?_)
      have hb_b3 := Nat.lt_of_lt_of_le hb0_b3 hn
      replace ht_b3 := (hX.2.1 _ hb_b3).1.symm.trans ht_b3
      have hI_it := hI1
      have hX := hX.upI (by omega) hIe
      have hS := hS0.x hX
      have hR := hR0.x hn hX
      have hz := hX.sz h94
      have hxn := hX.1
      refine y_ret1 ?_
      refine y_cast rfl ((hX.2.1 _ hb_b3).1.trans ht_b3) (Nat.lt_of_lt_of_le hb_b3 hX.1) ?_
      refine y_astore (ls' := [some _, some _, some _, some _, some _, some _, some _, some _, some _, some _]) rfl rfl rfl ?_
      refine y_iload rfl rfl ?_
      refine y_aload rfl rfl ?_
      obtain ⟨hR_v4, hb_v4, ht_v4⟩ := hR0.ven hlo_b3 hb0_b3 ht_b3 (j := 1) (by decide)
      have hb0_v4 := hb_v4
      have hb_v4 := Nat.lt_of_lt_of_le hb_v4 hn
      have hlo_v4 : 94 ≤ b3 + 1 + 1 := by omega
      have hR2_v4 := (congrFun (hX.2.1 b3 hb_b3).2.2 1).trans hR_v4
      refine y_getR rfl ((hX.2.1 _ hb_b3).1.trans ht_b3) (Nat.lt_of_lt_of_le hb_b3 hX.1) rfl rfl hR2_v4 ?_
      refine y_iload_n rfl rfl ?_
      refine y_iaload rfl ((hX.2.1 _ hb_v4).1.trans ht_v4) (Nat.lt_of_lt_of_le hb_v4 hX.1) (by omega) (by omega) ?_
      refine y_iadd rfl ?_
      refine y_istore (ls' := [some _, some _, some _, some _, some _, some _, some _, some _, some _, some _]) rfl rfl rfl ?_
      refine y_goto rfl j_X14_personTold_221 ?_
      refine y_fgt (ls := [some _, some _, some _, some _, some _, some _, some _, some _, some _, none]) ⟨rfl, rfl, rfl, rfl, rfl, rfl, rfl, rfl, rfl, trivial⟩ ?_
      exact ih _ _ _ _ _ _ _ _ _ _ _ hX (by omega) hI_it  (by omega)
    · refine y_ret1 ?_
      refine y_if_eqT rfl j_X14_personTold_258 (by decide) ?_
      refine y_fgt (ls := [some _, some _, some _, some _, some _, some _, some _, some _, none, none]) ⟨rfl, rfl, rfl, rfl, rfl, rfl, rfl, rfl, trivial⟩ ?_
      exact hx _ _ _ _ _ _ _ _ _ hX
theorem r_personTold (hS0 : ySh n tg R) (hR0 : yRI K nb tg I R) (hn : nb ≤ n) {x1 x2 : Int32} (hp0 : 0 ≤ x1.toInt) (hp1 : x1.toInt < 8) (h2 : 0 ≤ x2.toInt) (h3 : x2.toInt < 8) (hQ : ∀ v n1 tg1 I1 R1 c1 s1, yX n tg I R n1 tg1 I1 R1 → c1 ≤ c + 5 → s1 ≤ s + 24 → Q (.inl (some (.int v))) (n1, tg1, I1, R1) c1 s1) : yC 227 [.ref 83, .int x1, .int x2] (n, tg, I, R) c s Q := by
  have hX : yX n tg I R n tg I R := yX.rf
  have hS := hS0
  have hR := hR0
  have h94 : 94 ≤ n := hS0.1
  have hz : ySz I I := hX.sz h94
  have hxn := hX.1
  have hN := hR0.1
  have hnb : 94 ≤ nb := hR0.2.2.2.2.2.2
  refine y_in (M := xm_X14_personTold) (ls := [some _, some _, some _, _, _, _, _, _, _, _]) rfl rfl rfl ?_
  refine y_iconst rfl ?_
  refine y_istore_n (ls' := [some _, some _, some _, some _, _, _, _, _, _, _]) rfl rfl rfl ?_
  refine y_iconst rfl ?_
  refine y_istore (ls' := [some _, some _, some _, some _, some _, _, _, _, _, _]) rfl rfl rfl ?_
  refine y_iconst rfl ?_
  refine y_istore (ls' := [some _, some _, some _, some _, some _, some _, _, _, _, _]) rfl rfl rfl ?_
  refine y_iconst rfl ?_
  refine y_istore (ls' := [some _, some _, some _, some _, some _, some _, some _, _, _, _]) rfl rfl rfl ?_
  refine y_iconst rfl ?_
  refine y_istore (ls' := [some _, some _, some _, some _, some _, some _, some _, some _, _, _]) rfl rfl rfl ?_
  refine y_aload_n rfl rfl ?_
  refine y_getR rfl (ySh.t hS rfl) (ySh.n hS rfl) rfl rfl (ySh.r hS rfl) ?_
  refine y_virt rfl rfl rfl rfl rfl (ySh.t hS rfl) (ySh.n hS rfl) ?_
  refine l_iter (nb := nb) (l := 88) hS (ySh.t hS rfl) (ySh.n hS rfl) (by omega) (Nat.le_trans hn hX.1) hR.l88.2.2.2.1 (fun n1 tg1 I1 R1 hnA hX1 hI_it1 => ?_)
  have hX := hX.trans hX1
  have hS := hS0.x hX
  have hR := hR0.x hn hX
  have hz := hX.sz h94
  have hxn := hX.1
  refine y_ret1 ?_
  refine y_astore (ls' := [some _, some _, some _, some _, some _, some _, some _, some _, some _, _]) rfl rfl rfl ?_
  refine e_r_personTold23 hS0 hR0 hn (by omega) (by omega) (fun a3_3 a3_4 a3_5 a3_6 a3_7 n2 tg2 I2 R2 hX => ?_) 100000 0 _ _ _ _ _ _ _ _ _ _ hX (by omega) hI_it1 (by omega)
  have hS := hS0.x hX
  have hR := hR0.x hn hX
  have hz := hX.sz h94
  have hxn := hX.1
  refine y_aload_n rfl rfl ?_
  refine y_getR rfl (ySh.t hS rfl) (ySh.n hS rfl) rfl rfl (ySh.r hS rfl) ?_
  refine y_virt rfl rfl rfl rfl rfl (ySh.t hS rfl) (ySh.n hS rfl) ?_
  refine l_iter (nb := nb) (l := 89) hS (ySh.t hS rfl) (ySh.n hS rfl) (by omega) (Nat.le_trans hn hX.1) hR.l89.2.2.2.1 (fun n4 tg4 I4 R4 hnA hX1 hI_it4 => ?_)
  have hX := hX.trans hX1
  have hS := hS0.x hX
  have hR := hR0.x hn hX
  have hz := hX.sz h94
  have hxn := hX.1
  refine y_ret1 ?_
  refine y_astore (ls' := [some _, some _, some _, some _, some _, some _, some _, some _, some _, _]) rfl rfl rfl ?_
  refine e_r_personTold77 hS0 hR0 hn (by omega) (by omega) (fun a6_3 a6_4 a6_5 a6_6 a6_7 n5 tg5 I5 R5 hX => ?_) 100000 0 _ _ _ _ _ _ _ _ _ _ hX (by omega) hI_it4 (by omega)
  have hS := hS0.x hX
  have hR := hR0.x hn hX
  have hz := hX.sz h94
  have hxn := hX.1
  refine y_aload_n rfl rfl ?_
  refine y_getR rfl (ySh.t hS rfl) (ySh.n hS rfl) rfl rfl (ySh.r hS rfl) ?_
  refine y_virt rfl rfl rfl rfl rfl (ySh.t hS rfl) (ySh.n hS rfl) ?_
  refine l_iter (nb := nb) (l := 90) hS (ySh.t hS rfl) (ySh.n hS rfl) (by omega) (Nat.le_trans hn hX.1) hR.l90.2.2.2.1 (fun n7 tg7 I7 R7 hnA hX1 hI_it7 => ?_)
  have hX := hX.trans hX1
  have hS := hS0.x hX
  have hR := hR0.x hn hX
  have hz := hX.sz h94
  have hxn := hX.1
  refine y_ret1 ?_
  refine y_astore (ls' := [some _, some _, some _, some _, some _, some _, some _, some _, some _, _]) rfl rfl rfl ?_
  refine e_r_personTold157 hS0 hR0 hn (by omega) (by omega) (fun a9_3 a9_4 a9_5 a9_6 a9_7 n8 tg8 I8 R8 hX => ?_) 100000 0 _ _ _ _ _ _ _ _ _ _ hX (by omega) hI_it7 (by omega)
  have hS := hS0.x hX
  have hR := hR0.x hn hX
  have hz := hX.sz h94
  have hxn := hX.1
  refine y_aload_n rfl rfl ?_
  refine y_getR rfl (ySh.t hS rfl) (ySh.n hS rfl) rfl rfl (ySh.r hS rfl) ?_
  refine y_virt rfl rfl rfl rfl rfl (ySh.t hS rfl) (ySh.n hS rfl) ?_
  refine l_iter (nb := nb) (l := 91) hS (ySh.t hS rfl) (ySh.n hS rfl) (by omega) (Nat.le_trans hn hX.1) hR.l91.2.2.2.1 (fun n10 tg10 I10 R10 hnA hX1 hI_it10 => ?_)
  have hX := hX.trans hX1
  have hS := hS0.x hX
  have hR := hR0.x hn hX
  have hz := hX.sz h94
  have hxn := hX.1
  refine y_ret1 ?_
  refine y_astore (ls' := [some _, some _, some _, some _, some _, some _, some _, some _, some _, _]) rfl rfl rfl ?_
  refine e_r_personTold221 hS0 hR0 hn (by omega) (by omega) (fun a12_3 a12_4 a12_5 a12_6 a12_7 n11 tg11 I11 R11 hX => ?_) 100000 0 _ _ _ _ _ _ _ _ _ _ hX (by omega) hI_it10 (by omega)
  have hS := hS0.x hX
  have hR := hR0.x hn hX
  have hz := hX.sz h94
  have hxn := hX.1
  refine y_bip rfl (by decide) ?_
  refine y_newarrL (m := 8) rfl rfl (by decide) (by decide) rfl (fun n13 tg13 I13 R13 hA => ?_)
  have hnA := hA.1
  have ht_f14 : tg13 n11 = (0, 8) := hA.2.1
  have ha_f14 : n11 < n13 := by omega
  have hX := hX.trans (hA.x rfl)
  have hS := hS0.x hX
  have hR := hR0.x hn hX
  have hz := hX.sz h94
  have hxn := hX.1
  refine y_dup rfl rfl ?_
  refine y_iconst rfl ?_
  refine y_aload_n rfl rfl ?_
  refine y_getR rfl (ySh.t hS rfl) (ySh.n hS rfl) rfl rfl (ySh.r hS rfl) ?_
  refine y_iload_n rfl rfl ?_
  refine y_iaload rfl (ySh.t hS rfl) (ySh.n hS rfl) (by omega) (by omega) ?_
  refine y_iastoreC (j := 0) rfl ht_f14 ha_f14 (Nat.le_trans (by decide) (by omega : 94 ≤ _)) (by decide) (by decide) rfl ?_
  refine y_nameI (fun I15 e15 => ?_)
  have hX := hX.upI (by omega) (upI e15)
  have hS := hS0.x hX
  have hR := hR0.x hn hX
  have hz := hX.sz h94
  have hxn := hX.1
  refine y_dup rfl rfl ?_
  refine y_iconst rfl ?_
  refine y_iload_n rfl rfl ?_
  refine y_iastoreC (j := 1) rfl ht_f14 ha_f14 (Nat.le_trans (by decide) (by omega : 94 ≤ _)) (by decide) (by decide) rfl ?_
  refine y_nameI (fun I16 e16 => ?_)
  have hX := hX.upI (by omega) (upI e16)
  have hS := hS0.x hX
  have hR := hR0.x hn hX
  have hz := hX.sz h94
  have hxn := hX.1
  refine y_dup rfl rfl ?_
  refine y_iconst rfl ?_
  refine y_aload_n rfl rfl ?_
  refine y_getR rfl (ySh.t hS rfl) (ySh.n hS rfl) rfl rfl (ySh.r hS rfl) ?_
  refine y_iload_n rfl rfl ?_
  refine y_iaload rfl (ySh.t hS rfl) (ySh.n hS rfl) (by omega) (by omega) ?_
  refine y_iastoreC (j := 2) rfl ht_f14 ha_f14 (Nat.le_trans (by decide) (by omega : 94 ≤ _)) (by decide) (by decide) rfl ?_
  refine y_nameI (fun I17 e17 => ?_)
  have hX := hX.upI (by omega) (upI e17)
  have hS := hS0.x hX
  have hR := hR0.x hn hX
  have hz := hX.sz h94
  have hxn := hX.1
  refine y_dup rfl rfl ?_
  refine y_iconst rfl ?_
  refine y_aload_n rfl rfl ?_
  refine y_getR rfl (ySh.t hS rfl) (ySh.n hS rfl) rfl rfl (ySh.r hS rfl) ?_
  refine y_iload_n rfl rfl ?_
  refine y_iaload rfl (ySh.t hS rfl) (ySh.n hS rfl) (by omega) (by omega) ?_
  refine y_iastoreC (j := 3) rfl ht_f14 ha_f14 (Nat.le_trans (by decide) (by omega : 94 ≤ _)) (by decide) (by decide) rfl ?_
  refine y_nameI (fun I18 e18 => ?_)
  have hX := hX.upI (by omega) (upI e18)
  have hS := hS0.x hX
  have hR := hR0.x hn hX
  have hz := hX.sz h94
  have hxn := hX.1
  refine y_dup rfl rfl ?_
  refine y_iconst rfl ?_
  refine y_iload rfl rfl ?_
  refine y_iastoreC (j := 4) rfl ht_f14 ha_f14 (Nat.le_trans (by decide) (by omega : 94 ≤ _)) (by decide) (by decide) rfl ?_
  refine y_nameI (fun I19 e19 => ?_)
  have hX := hX.upI (by omega) (upI e19)
  have hS := hS0.x hX
  have hR := hR0.x hn hX
  have hz := hX.sz h94
  have hxn := hX.1
  refine y_dup rfl rfl ?_
  refine y_iconst rfl ?_
  refine y_iload rfl rfl ?_
  refine y_iastoreC (j := 5) rfl ht_f14 ha_f14 (Nat.le_trans (by decide) (by omega : 94 ≤ _)) (by decide) (by decide) rfl ?_
  refine y_nameI (fun I20 e20 => ?_)
  have hX := hX.upI (by omega) (upI e20)
  have hS := hS0.x hX
  have hR := hR0.x hn hX
  have hz := hX.sz h94
  have hxn := hX.1
  refine y_dup rfl rfl ?_
  refine y_bip rfl (by decide) ?_
  refine y_iload rfl rfl ?_
  refine y_iastoreC (j := 6) rfl ht_f14 ha_f14 (Nat.le_trans (by decide) (by omega : 94 ≤ _)) (by decide) (by decide) rfl ?_
  refine y_nameI (fun I21 e21 => ?_)
  have hX := hX.upI (by omega) (upI e21)
  have hS := hS0.x hX
  have hR := hR0.x hn hX
  have hz := hX.sz h94
  have hxn := hX.1
  refine y_dup rfl rfl ?_
  refine y_bip rfl (by decide) ?_
  refine y_iload rfl rfl ?_
  refine y_iastoreC (j := 7) rfl ht_f14 ha_f14 (Nat.le_trans (by decide) (by omega : 94 ≤ _)) (by decide) (by decide) rfl ?_
  refine y_nameI (fun I22 e22 => ?_)
  have hX := hX.upI (by omega) (upI e22)
  have hS := hS0.x hX
  have hR := hR0.x hn hX
  have hz := hX.sz h94
  have hxn := hX.1
  refine y_astore (ls' := [some _, some _, some _, some _, some _, some _, some _, some _, some _, _]) rfl rfl rfl ?_
  refine y_aload rfl rfl ?_
  refine y_iload_n rfl rfl ?_
  refine y_iaload rfl ht_f14 ha_f14 (by omega) (by omega) ?_
  refine y_ireturn rfl rfl rfl ?_
  exact hQ _ _ _ _ _ _ _ hX (by omega) (by omega)
end YRO
