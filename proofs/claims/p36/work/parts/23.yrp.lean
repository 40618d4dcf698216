/-! THE REFERENCE: longer readers (by gen23.py) -/
section YRP
variable {K nb n : Nat} {tg : Nat → yT} {I : Nat → Nat → Int32} {R : Nat → Nat → Value} {c s : Nat} {Q : yQ}
theorem lp_r_shared1 (hS0 : ySh n tg R) (hR0 : yRI K nb tg I R) (hn : nb ≤ n) {x1 x2 x3 x5 x6 x7 : Int32} {md : Nat} (hx : ∀ (x8 : Int64), yW xm_X14_shared xc_X14_shared_114 [some (.ref 83), some (.int x1), some (.int x2), some (.int x3), some (.ref md), some (.int x5), some (.int x6), some (.int x7), some (.long x8), none, none, none, none, none] [] (n, tg, I, R) c s Q) : ∀ (m : Nat) (x8 : Int64) (x11 : Int32) (x12 : Int32), (x11.toInt = 8) → (0 ≤ x12.toInt) → (x12.toInt ≤ 8) → 8 - x12.toInt < m → yW xm_X14_shared xc_X14_shared_86 [some (.ref 83), some (.int x1), some (.int x2), some (.int x3), some (.ref md), some (.int x5), some (.int x6), some (.int x7), some (.long x8), none, some (.ref 86), some (.int x11), some (.int x12), none] [] (n, tg, I, R) c s Q := by
  intro m
  induction m with
  | zero =>
    intro x8 x11 x12 i0 i1 i2 hm
    have hX : yX n tg I R n tg I R := yX.rf
    have hS := hS0
    have hR := hR0
    have h94 : 94 ≤ n := hS0.1
    have hz : ySz I I := hX.sz h94
    have hxn := hX.1
    have hN := hR0.1
    have hnb : 94 ≤ nb := hR0.2.2.2.2.2.2
    exfalso; omega
  | succ m ih =>
    intro x8 x11 x12 i0 i1 i2 hm
    have hX : yX n tg I R n tg I R := yX.rf
    have hS := hS0
    have hR := hR0
    have h94 : 94 ≤ n := hS0.1
    have hz : ySz I I := hX.sz h94
    have hxn := hX.1
    have hN := hR0.1
    have hnb : 94 ≤ nb := hR0.2.2.2.2.2.2
    refine y_iload rfl rfl ?_
    refine y_iload rfl rfl ?_
    refine y_icmp_ge rfl j_X14_shared_114 (fun h_1 => ?_) (fun h_2 => ?_)
    · refine y_fgt (ls := [some _, some _, some _, some _, some _, some _, some _, some _, some _, none, none, none, none, none]) ⟨rfl, rfl, rfl, rfl, rfl, rfl, rfl, rfl, rfl, trivial⟩ ?_
      exact hx _
    · refine y_aload rfl rfl ?_
      refine y_iload rfl rfl ?_
      refine y_iaload rfl (ySh.t hS rfl) (ySh.n hS rfl) (by omega) (by omega) ?_
      refine y_istore (ls' := [some _, some _, some _, some _, some _, some _, some _, some _, some _, _, some _, some _, some _, some _]) rfl rfl rfl ?_
      refine y_lload rfl rfl ?_
      refine y_iload rfl rfl ?_
      refine y_i2l rfl ?_
      refine y_ladd rfl ?_
      refine y_lstore (ls' := [some _, some _, some _, some _, some _, some _, some _, some _, some _, _, some _, some _, some _, some _]) rfl rfl rfl ?_
      refine y_iinc (ls' := [some _, some _, some _, some _, some _, some _, some _, some _, some _, _, some _, some _, some _, some _]) rfl rfl rfl rfl ?_
      refine y_goto rfl j_X14_shared_86 ?_
      refine y_fgt (ls := [some _, some _, some _, some _, some _, some _, some _, some _, some _, none, some _, some _, some _, none]) ⟨rfl, rfl, rfl, rfl, rfl, rfl, rfl, rfl, rfl, rfl, rfl, rfl, trivial⟩ ?_
      exact ih _ _ _ (by assumption) (by first | omega | (rw [yinc (by omega)]; omega)) (by first | omega | (rw [yinc (by omega)]; omega)) (by first | omega | (rw [yinc (by omega)]; omega))
theorem lx_r_shared2 (hS0 : ySh n tg R) (hR0 : yRI K nb tg I R) (hn : nb ≤ n) {x1 x2 x3 x5 x6 x7 : Int32} {x8 : Int64} {md : Nat} (hfr : n ≤ md) (hQ : ∀ n1 tg1 I1 R1, yX n tg I R n1 tg1 I1 R1 → md < n1 → tg1 md = (0, 11) → Q (.inl (some (.ref md))) (n1, tg1, I1, R1) c s) : ∀ (m : Nat) (x10 : Int32) (x11 : Int32) (n1 : Nat) (tg1 : Nat → yT) (I1 : Nat → Nat → Int32) (R1 : Nat → Nat → Value), yX n tg I R n1 tg1 I1 R1 → tg1 md = (0, 11) → md < n1 → (0 ≤ x11.toInt) → (x11.toInt ≤ (I 83 8).toInt) → (I 83 8).toInt - x11.toInt < m → yW xm_X14_shared xc_X14_shared_121 [some (.ref 83), some (.int x1), some (.int x2), some (.int x3), some (.ref md), some (.int x5), some (.int x6), some (.int x7), some (.long x8), none, some (.int x10), some (.int x11), none, none] [] (n1, tg1, I1, R1) c s Q := by
  intro m
  induction m with
  | zero =>
    intro x10 x11 n1 tg1 I1 R1 hX ht_pa ha_pa i0 i1 hm
    have hN := hR0.1
    exfalso; omega
  | succ m ih =>
    intro x10 x11 n1 tg1 I1 R1 hX ht_pa ha_pa i0 i1 hm
    have hS := hS0.x hX
    have hR := hR0.x hn hX
    have h94 : 94 ≤ n := hS0.1
    have hz := hX.sz h94
    have hxn := hX.1
    have hN := hR0.1
    have hnb : 94 ≤ nb := hR0.2.2.2.2.2.2
    refine y_iload rfl rfl ?_
    refine y_aload_n rfl rfl ?_
    refine y_getI rfl (ySh.t hS rfl) (ySh.n hS rfl) rfl rfl ?_
    refine y_icmp_ge rfl j_X14_shared_187 (fun h_1 => ?_) (fun h_2 => ?_)
    · refine y_aload rfl rfl ?_
      refine y_bip rfl (by decide) ?_
      refine y_iload rfl rfl ?_
      refine y_iastoreC (j := 8) rfl ht_pa ha_pa (Nat.le_trans (by decide) (by omega : 94 ≤ _)) (by decide) (by decide) rfl ?_
      refine y_nameI (fun I3 e3 => ?_)
      have hX := hX.upI (by omega) (upI e3)
      have hS := hS0.x hX
      have hR := hR0.x hn hX
      have hz := hX.sz h94
      have hxn := hX.1
      refine y_aload rfl rfl ?_
      refine y_bip rfl (by decide) ?_
      refine y_iload rfl rfl ?_
      refine y_iastoreC (j := 9) rfl ht_pa ha_pa (Nat.le_trans (by decide) (by omega : 94 ≤ _)) (by decide) (by decide) rfl ?_
      refine y_nameI (fun I4 e4 => ?_)
      have hX := hX.upI (by omega) (upI e4)
      have hS := hS0.x hX
      have hR := hR0.x hn hX
      have hz := hX.sz h94
      have hxn := hX.1
      refine y_aload rfl rfl ?_
      refine y_bip rfl (by decide) ?_
      refine y_iload rfl rfl ?_
      refine y_iastoreC (j := 10) rfl ht_pa ha_pa (Nat.le_trans (by decide) (by omega : 94 ≤ _)) (by decide) (by decide) rfl ?_
      refine y_nameI (fun I5 e5 => ?_)
      have hX := hX.upI (by omega) (upI e5)
      have hS := hS0.x hX
      have hR := hR0.x hn hX
      have hz := hX.sz h94
      have hxn := hX.1
      refine y_aload rfl rfl ?_
      refine y_areturn rfl ?_
      exact hQ _ _ _ _ hX ha_pa ht_pa
    · refine y_lload rfl rfl ?_
      refine y_lconst rfl ?_
      refine y_lcmp rfl ?_
      refine y_if_le rfl j_X14_shared_187 (fun h_6 => ?_) (fun h_7 => ?_)
      · refine y_aload rfl rfl ?_
        refine y_bip rfl (by decide) ?_
        refine y_iload rfl rfl ?_
        refine y_iastoreC (j := 8) rfl ht_pa ha_pa (Nat.le_trans (by decide) (by omega : 94 ≤ _)) (by decide) (by decide) rfl ?_
        refine y_nameI (fun I8 e8 => ?_)
        have hX := hX.upI (by omega) (upI e8)
        have hS := hS0.x hX
        have hR := hR0.x hn hX
        have hz := hX.sz h94
        have hxn := hX.1
        refine y_aload rfl rfl ?_
        refine y_bip rfl (by decide) ?_
        refine y_iload rfl rfl ?_
        refine y_iastoreC (j := 9) rfl ht_pa ha_pa (Nat.le_trans (by decide) (by omega : 94 ≤ _)) (by decide) (by decide) rfl ?_
        refine y_nameI (fun I9 e9 => ?_)
        have hX := hX.upI (by omega) (upI e9)
        have hS := hS0.x hX
        have hR := hR0.x hn hX
        have hz := hX.sz h94
        have hxn := hX.1
        refine y_aload rfl rfl ?_
        refine y_bip rfl (by decide) ?_
        refine y_iload rfl rfl ?_
        refine y_iastoreC (j := 10) rfl ht_pa ha_pa (Nat.le_trans (by decide) (by omega : 94 ≤ _)) (by decide) (by decide) rfl ?_
        refine y_nameI (fun I10 e10 => ?_)
        have hX := hX.upI (by omega) (upI e10)
        have hS := hS0.x hX
        have hR := hR0.x hn hX
        have hz := hX.sz h94
        have hxn := hX.1
        refine y_aload rfl rfl ?_
        refine y_areturn rfl ?_
        exact hQ _ _ _ _ hX ha_pa ht_pa
      · have hw := ylcmp.1 h_7
        refine y_aload rfl rfl ?_
        refine y_iload rfl rfl ?_
        refine y_ldcI (v := (99999 : Int)) rfl rfl rfl (by decide) ?_
        refine y_aload_n rfl rfl ?_
        refine y_getR rfl (ySh.t hS rfl) (ySh.n hS rfl) rfl rfl (ySh.r hS rfl) ?_
        refine y_iload rfl rfl ?_
        refine y_iaload rfl (ySh.t hS rfl) (ySh.n hS rfl) (by omega) (by omega) ?_
        refine y_isub rfl ?_
        refine y_iload rfl rfl ?_
        refine y_i2l rfl ?_
        refine y_aload_n rfl rfl ?_
        refine y_getR rfl (ySh.t hS rfl) (ySh.n hS rfl) rfl rfl (ySh.r hS rfl) ?_
        refine y_iload rfl rfl ?_
        refine y_iaload rfl (ySh.t hS rfl) (ySh.n hS rfl) (by omega) (by omega) ?_
        refine y_i2l rfl ?_
        refine y_lmul rfl ?_
        refine y_lload rfl rfl ?_
        refine y_ldiv rfl (yne0 hw) ?_
        refine y_l2i rfl ?_
        refine y_min rfl rfl ?_
        refine y_iastore rfl ht_pa ha_pa (Nat.le_trans (by decide) (by omega : 94 ≤ _)) (by omega) (by omega) ?_
        refine y_nameI (fun I11 e11 => ?_)
        have hX := hX.upI (by omega) (upI e11)
        have hS := hS0.x hX
        have hR := hR0.x hn hX
        have hz := hX.sz h94
        have hxn := hX.1
        refine y_iload rfl rfl ?_
        refine y_aload rfl rfl ?_
        refine y_iload rfl rfl ?_
        refine y_iaload rfl ht_pa ha_pa (by omega) (by omega) ?_
        refine y_isub rfl ?_
        refine y_istore (ls' := [some _, some _, some _, some _, some _, some _, some _, some _, some _, _, some _, some _, _, _]) rfl rfl rfl ?_
        refine y_iinc (ls' := [some _, some _, some _, some _, some _, some _, some _, some _, some _, _, some _, some _, _, _]) rfl rfl rfl rfl ?_
        refine y_goto rfl j_X14_shared_121 ?_
        exact ih _ _ _ _ _ _ hX ht_pa ha_pa (by first | omega | (rw [yinc (by omega)]; omega)) (by first | omega | (rw [yinc (by omega)]; omega)) (by first | omega | (rw [yinc (by omega)]; omega))
theorem r_shared (hS0 : ySh n tg R) (hR0 : yRI K nb tg I R) (hn : nb ≤ n) {x1 x2 x3 : Int32} (hQ : ∀ b n1 tg1 I1 R1 c1 s1, yX n tg I R n1 tg1 I1 R1 → n ≤ b → b < n1 → tg1 b = (0, 11) → c1 ≤ c + 3 → s1 ≤ s + 20 → Q (.inl (some (.ref b))) (n1, tg1, I1, R1) c1 s1) : yC 217 [.ref 83, .int x1, .int x2, .int x3] (n, tg, I, R) c s Q := by
  have hX : yX n tg I R n tg I R := yX.rf
  have hS := hS0
  have hR := hR0
  have h94 : 94 ≤ n := hS0.1
  have hz : ySz I I := hX.sz h94
  have hxn := hX.1
  have hN := hR0.1
  have hnb : 94 ≤ nb := hR0.2.2.2.2.2.2
  refine y_in (M := xm_X14_shared) (ls := [some _, some _, some _, some _, _, _, _, _, _, _, _, _, _, _]) rfl rfl rfl ?_
  refine y_bip rfl (by decide) ?_
  refine y_newarrL (m := 11) rfl rfl (by decide) (by decide) rfl (fun n1 tg1 I1 R1 hA => ?_)
  have hnA := hA.1
  have ht_f2 : tg1 n = (0, 11) := hA.2.1
  have ha_f2 : n < n1 := by omega
  have hX := hX.trans (hA.x rfl)
  have hS := hS0.x hX
  have hR := hR0.x hn hX
  have hz := hX.sz h94
  have hxn := hX.1
  refine y_astore (ls' := [some _, some _, some _, some _, some _, _, _, _, _, _, _, _, _, _]) rfl rfl rfl ?_
  refine y_iload_n rfl rfl ?_
  refine y_iload_n rfl rfl ?_
  refine y_imul rfl ?_
  refine y_bip rfl (by decide) ?_
  refine y_idiv rfl (by decide) ?_
  refine y_istore (ls' := [some _, some _, some _, some _, some _, some _, _, _, _, _, _, _, _, _]) rfl rfl rfl ?_
  refine y_iload_n rfl rfl ?_
  refine y_iload rfl rfl ?_
  refine y_isub rfl ?_
  refine y_istore (ls' := [some _, some _, some _, some _, some _, some _, some _, _, _, _, _, _, _, _]) rfl rfl rfl ?_
  refine y_iconst rfl ?_
  refine y_istore (ls' := [some _, some _, some _, some _, some _, some _, some _, some _, _, _, _, _, _, _]) rfl rfl rfl ?_
  refine y_aload_n rfl rfl ?_
  refine y_iconst rfl ?_
  refine y_aload_n rfl rfl ?_
  refine y_getI rfl (ySh.t hS rfl) (ySh.n hS rfl) rfl rfl ?_
  refine y_virt rfl rfl rfl rfl rfl (ySh.t hS rfl) (ySh.n hS rfl) ?_
  refine r_isAllowed hS hR (Nat.le_trans hn hX.1)  (fun n3 tg3 I3 R3 c_3 s_3 hX1 hc_3 hs_3 => ?_) (fun n3 tg3 I3 R3 c_3 s_3 hX1 hc_3 hs_3 => ?_)
  · have hnA := hX1.1
    have ht_f2 := (hX1.2.1 _ ha_f2).1.trans ht_f2
    have ha_f2 : n < n3 := by omega
    have hX := hX.trans hX1
    have hS := hS0.x hX
    have hR := hR0.x hn hX
    have hz := hX.sz h94
    have hxn := hX.1
    refine y_ret1 ?_
    refine y_if_eqF rfl (by decide) ?_
    refine y_iload rfl rfl ?_
    refine y_iload_n rfl rfl ?_
    refine y_icmp_le rfl j_X14_shared_48 (fun h_4 => ?_) (fun h_5 => ?_)
    · refine y_aload_n rfl rfl ?_
      refine y_getI rfl (ySh.t hS rfl) (ySh.n hS rfl) rfl rfl ?_
      refine y_iload_n rfl rfl ?_
      refine y_iload rfl rfl ?_
      refine y_isub rfl ?_
      refine y_min rfl rfl ?_
      refine y_ineg rfl ?_
      refine y_istore (ls' := [some _, some _, some _, some _, some _, some _, some _, some _, _, _, _, _, _, _]) rfl rfl rfl ?_
      refine y_iload rfl rfl ?_
      refine y_iload rfl rfl ?_
      refine y_isub rfl ?_
      refine y_istore (ls' := [some _, some _, some _, some _, some _, some _, some _, some _, _, _, _, _, _, _]) rfl rfl rfl ?_
      refine y_lconst rfl ?_
      refine y_lstore (ls' := [some _, some _, some _, some _, some _, some _, some _, some _, some _, _, _, _, _, _]) rfl rfl rfl ?_
      refine y_aload_n rfl rfl ?_
      refine y_getR rfl (ySh.t hS rfl) (ySh.n hS rfl) rfl rfl (ySh.r hS rfl) ?_
      refine y_astore (ls' := [some _, some _, some _, some _, some _, some _, some _, some _, some _, _, some _, _, _, _]) rfl rfl rfl ?_
      refine y_aload rfl rfl ?_
      refine y_alenI (v := 8) rfl (ySh.t hS rfl) rfl (ySh.n hS rfl) (by decide) ?_
      refine y_istore (ls' := [some _, some _, some _, some _, some _, some _, some _, some _, some _, _, some _, some _, _, _]) rfl rfl rfl ?_
      refine y_iconst rfl ?_
      refine y_istore (ls' := [some _, some _, some _, some _, some _, some _, some _, some _, some _, _, some _, some _, some _, _]) rfl rfl rfl ?_
      refine lp_r_shared1 hS hR (Nat.le_trans hn hX.1) (fun u6_0 => ?_) 100000 _ _ _ (by decide) (by decide) (by decide) (by decide)
      refine y_iload rfl rfl ?_
      refine y_istore (ls' := [some _, some _, some _, some _, some _, some _, some _, some _, some _, _, some _, _, _, _]) rfl rfl rfl ?_
      refine y_iconst rfl ?_
      refine y_istore (ls' := [some _, some _, some _, some _, some _, some _, some _, some _, some _, _, some _, some _, _, _]) rfl rfl rfl ?_
      exact lx_r_shared2 hS0 hR0 hn (by omega) (fun n1 tg1 I1 R1 hX2 h1 h2 => hQ _ _ _ _ _ _ _ hX2 (by omega) h1 h2 (by omega) (by omega)) 100 _ _ _ _ _ _ hX ht_f2 ha_f2 (by decide) (by rw [yz_0]; omega) (by rw [yz_0]; omega)
    · refine y_iload rfl rfl ?_
      refine y_iload_n rfl rfl ?_
      refine y_isub rfl ?_
      refine y_goto rfl j_X14_shared_60 ?_
      refine y_istore (ls' := [some _, some _, some _, some _, some _, some _, some _, some _, _, _, _, _, _, _]) rfl rfl rfl ?_
      refine y_iload rfl rfl ?_
      refine y_iload rfl rfl ?_
      refine y_isub rfl ?_
      refine y_istore (ls' := [some _, some _, some _, some _, some _, some _, some _, some _, _, _, _, _, _, _]) rfl rfl rfl ?_
      refine y_lconst rfl ?_
      refine y_lstore (ls' := [some _, some _, some _, some _, some _, some _, some _, some _, some _, _, _, _, _, _]) rfl rfl rfl ?_
      refine y_aload_n rfl rfl ?_
      refine y_getR rfl (ySh.t hS rfl) (ySh.n hS rfl) rfl rfl (ySh.r hS rfl) ?_
      refine y_astore (ls' := [some _, some _, some _, some _, some _, some _, some _, some _, some _, _, some _, _, _, _]) rfl rfl rfl ?_
      refine y_aload rfl rfl ?_
      refine y_alenI (v := 8) rfl (ySh.t hS rfl) rfl (ySh.n hS rfl) (by decide) ?_
      refine y_istore (ls' := [some _, some _, some _, some _, some _, some _, some _, some _, some _, _, some _, some _, _, _]) rfl rfl rfl ?_
      refine y_iconst rfl ?_
      refine y_istore (ls' := [some _, some _, some _, some _, some _, some _, some _, some _, some _, _, some _, some _, some _, _]) rfl rfl rfl ?_
      refine lp_r_shared1 hS hR (Nat.le_trans hn hX.1) (fun u7_0 => ?_) 100000 _ _ _ (by decide) (by decide) (by decide) (by decide)
      refine y_iload rfl rfl ?_
      refine y_istore (ls' := [some _, some _, some _, some _, some _, some _, some _, some _, some _, _, some _, _, _, _]) rfl rfl rfl ?_
      refine y_iconst rfl ?_
      refine y_istore (ls' := [some _, some _, some _, some _, some _, some _, some _, some _, some _, _, some _, some _, _, _]) rfl rfl rfl ?_
      exact lx_r_shared2 hS0 hR0 hn (by omega) (fun n1 tg1 I1 R1 hX2 h1 h2 => hQ _ _ _ _ _ _ _ hX2 (by omega) h1 h2 (by omega) (by omega)) 100 _ _ _ _ _ _ hX ht_f2 ha_f2 (by decide) (by rw [yz_0]; omega) (by rw [yz_0]; omega)
  · have hnA := hX1.1
    have ht_f2 := (hX1.2.1 _ ha_f2).1.trans ht_f2
    have ha_f2 : n < n3 := by omega
    have hX := hX.trans hX1
    have hS := hS0.x hX
    have hR := hR0.x hn hX
    have hz := hX.sz h94
    have hxn := hX.1
    refine y_ret1 ?_
    refine y_if_eqT rfl j_X14_shared_62 (by decide) ?_
    refine y_iload rfl rfl ?_
    refine y_iload rfl rfl ?_
    refine y_isub rfl ?_
    refine y_istore (ls' := [some _, some _, some _, some _, some _, some _, some _, some _, _, _, _, _, _, _]) rfl rfl rfl ?_
    refine y_lconst rfl ?_
    refine y_lstore (ls' := [some _, some _, some _, some _, some _, some _, some _, some _, some _, _, _, _, _, _]) rfl rfl rfl ?_
    refine y_aload_n rfl rfl ?_
    refine y_getR rfl (ySh.t hS rfl) (ySh.n hS rfl) rfl rfl (ySh.r hS rfl) ?_
    refine y_astore (ls' := [some _, some _, some _, some _, some _, some _, some _, some _, some _, _, some _, _, _, _]) rfl rfl rfl ?_
    refine y_aload rfl rfl ?_
    refine y_alenI (v := 8) rfl (ySh.t hS rfl) rfl (ySh.n hS rfl) (by decide) ?_
    refine y_istore (ls' := [some _, some _, some _, some _, some _, some _, some _, some _, some _, _, some _, some _, _, _]) rfl rfl rfl ?_
    refine y_iconst rfl ?_
    refine y_istore (ls' := [some _, some _, some _, some _, some _, some _, some _, some _, some _, _, some _, some _, some _, _]) rfl rfl rfl ?_
    refine lp_r_shared1 hS hR (Nat.le_trans hn hX.1) (fun u8_0 => ?_) 100000 _ _ _ (by decide) (by decide) (by decide) (by decide)
    refine y_iload rfl rfl ?_
    refine y_istore (ls' := [some _, some _, some _, some _, some _, some _, some _, some _, some _, _, some _, _, _, _]) rfl rfl rfl ?_
    refine y_iconst rfl ?_
    refine y_istore (ls' := [some _, some _, some _, some _, some _, some _, some _, some _, some _, _, some _, some _, _, _]) rfl rfl rfl ?_
    exact lx_r_shared2 hS0 hR0 hn (by omega) (fun n1 tg1 I1 R1 hX2 h1 h2 => hQ _ _ _ _ _ _ _ hX2 (by omega) h1 h2 (by omega) (by omega)) 100 _ _ _ _ _ _ hX ht_f2 ha_f2 (by decide) (by rw [yz_0]; omega) (by rw [yz_0]; omega)
end YRP
