/-! THE REFERENCE'S FIRMS, EXACTLY (by ex7f.py) -/
/-- a firm of the reference is clean -/
abbrev mRC (I : Nat → Nat → Int32) (R : Nat → Nat → Value) (k : Nat) : Prop := yCln (I (yAd R 92 k) 0) (I (yAd R 92 k) 1) (I (yAd R 92 k) 2) (I (yAd R 92 k) 3)
/-- the set of clean ones among the first k -/
def mCl (I : Nat → Nat → Int32) (R : Nat → Nat → Value) : Nat → Int32
  | 0 => Int32.ofInt 0
  | k + 1 => if mRC I R k then mCl I R k ||| Int32.ofInt 1 <<< (Int32.ofInt (k : Int) &&& 31) else mCl I R k ||| Int32.ofInt 0 <<< (Int32.ofInt (k : Int) &&& 31)
theorem mCl_nx {I : Nat → Nat → Int32} {R : Nat → Nat → Value} {x q q' : Int32} (h0 : 0 ≤ x.toInt ∧ x.toInt < 2147483647) (hq : q = mCl I R x.toInt.toNat) (hs : q' = if mRC I R x.toInt.toNat then q ||| Int32.ofInt 1 <<< (x &&& 31) else q ||| Int32.ofInt 0 <<< (x &&& 31)) : q' = mCl I R (x + Int32.ofInt 1).toInt.toNat := by
  rw [yinc h0.2, show (x.toInt + 1).toNat = x.toInt.toNat + 1 by omega, hs, hq]
  show _ = if mRC I R x.toInt.toNat then mCl I R x.toInt.toNat ||| Int32.ofInt 1 <<< (Int32.ofInt (x.toInt.toNat : Int) &&& 31) else mCl I R x.toInt.toNat ||| Int32.ofInt 0 <<< (Int32.ofInt (x.toInt.toNat : Int) &&& 31)
  rw [xofn h0.1]
/-- a sum over the firms of a set -/
def mSumF (I : Nat → Nat → Int32) (R : Nat → Nat → Value) (set : Int32) (w : Nat) : Nat → Int32 := fun j => if yHas set (Int32.ofInt (j : Int)) then I (yAd R 92 j) w else Int32.ofInt 0
def mSum (I : Nat → Nat → Int32) (R : Nat → Nat → Value) (set : Int32) (w : Nat) : Int32 := yFz (mSumF I R set w) (I 92 2).toInt.toNat
theorem mSumF_p {I : Nat → Nat → Int32} {R : Nat → Nat → Value} {set x : Int32} {w b : Nat} (h0 : 0 ≤ x.toInt) (h : ((set >>> (x &&& 31)) &&& Int32.ofInt 1).toInt = 1) (eb : b = yAd R 92 x.toInt.toNat) : I b w = mSumF I R set w x.toInt.toNat := by
  unfold mSumF
  rw [xofn h0, if_pos (show yHas set x from h), eb]
theorem mSumF_n {I : Nat → Nat → Int32} {R : Nat → Nat → Value} {set x : Int32} {w : Nat} (h0 : 0 ≤ x.toInt) (h : ¬ ((set >>> (x &&& 31)) &&& Int32.ofInt 1).toInt = 1) : mSumF I R set w x.toInt.toNat = Int32.ofInt 0 := by
  unfold mSumF
  rw [xofn h0]
  exact if_neg h
/-- the best set, as the reference seeks it -/
def mBeS (I : Nat → Nat → Int32) (R : Nat → Nat → Value) (cl bud best set : Int32) : Int32 := if (set &&& (cl ^^^ Int32.ofInt (-1))).toInt = 0 ∧ (mSum I R set 4).toInt ≤ bud.toInt ∧ (0 < (mSum I R set 5 - mSum I R best 5).toInt ∨ (mSum I R set 5 - mSum I R best 5).toInt = 0 ∧ (mSum I R set 4).toInt < (mSum I R best 4).toInt) then set else best
def mBe (I : Nat → Nat → Int32) (R : Nat → Nat → Value) (cl bud : Int32) : Nat → Int32
  | 0 => Int32.ofInt 0
  | k + 1 => mBeS I R cl bud (mBe I R cl bud k) (Int32.ofInt (k : Int))
/-- firms that are the same on both sides -/
def mFr (I I' : Nat → Nat → Int32) (R R' : Nat → Nat → Value) : Prop := (I' 92 2).toInt = (I 92 2).toInt ∧ ∀ k : Nat, (k : Int) < (I 92 2).toInt → I' (yAd R' 92 k) = I (yAd R 92 k)
theorem mFr.rc {I I' : Nat → Nat → Int32} {R R' : Nat → Nat → Value} (h : mFr I I' R R') {k : Nat} (hk : (k : Int) < (I 92 2).toInt) : mRC I' R' k = mRC I R k := by
  unfold mRC
  rw [h.2 k hk]
theorem mFr.cl {I I' : Nat → Nat → Int32} {R R' : Nat → Nat → Value} (h : mFr I I' R R') : ∀ {k : Nat}, (k : Int) ≤ (I 92 2).toInt → mCl I' R' k = mCl I R k
  | 0, _ => rfl
  | k + 1, hk => by
    have e := h.rc (k := k) (by omega)
    unfold mCl
    rw [h.cl (k := k) (by omega)]
    by_cases q : mRC I R k
    · rw [if_pos q, if_pos (by rw [e]; exact q)]
    · rw [if_neg q, if_neg (by rw [e]; exact q)]
theorem mFr.sum {I I' : Nat → Nat → Int32} {R R' : Nat → Nat → Value} (h : mFr I I' R R') {set : Int32} {w : Nat} : mSum I' R' set w = mSum I R set w := by
  unfold mSum
  rw [h.1]
  refine yFz_cg fun j hj => ?_
  unfold mSumF
  rw [h.2 j (by omega)]
theorem mFr.be {I I' : Nat → Nat → Int32} {R R' : Nat → Nat → Value} (h : mFr I I' R R') {cl bud : Int32} : ∀ {k : Nat}, mBe I' R' cl bud k = mBe I R cl bud k
  | 0 => rfl
  | k + 1 => by
    unfold mBe mBeS
    rw [h.be (k := k), h.sum, h.sum, h.sum, h.sum]
def mTnt (a q d : Int32) : Int32 := yMnn d ((d * q + a - Int32.ofInt 1) / a)
section YXG
variable {K nb n : Nat} {tg : Nat → yT} {I : Nat → Nat → Int32} {R : Nat → Nat → Value} {c s : Nat} {Q : yQ}
theorem r_isCleanX (hS0 : ySh n tg R) (hR0 : yRI K nb tg I R) (hn : nb ≤ n) {x1 : Int32} (h0 : 0 ≤ x1.toInt) (h1 : x1.toInt < (I 92 2).toInt) (hQ1 : mRC I R x1.toInt.toNat → Q (.inl (some (.int (Int32.ofInt 1)))) (n, tg, I, R) c s) (hQ0 : ¬ mRC I R x1.toInt.toNat → Q (.inl (some (.int (Int32.ofInt 0)))) (n, tg, I, R) c s) : yC 220 [.ref 83, .int x1] (n, tg, I, R) c s Q := by
  have hX : yX n tg I R n tg I R := yX.rf
  have hS := hS0
  have hR := hR0
  have h94 : 94 ≤ n := hS0.1
  have hz : ySz I I := hX.sz h94
  have hxn := hX.1
  have hN := hR0.1
  have hnb : 94 ≤ nb := hR0.2.2.2.2.2.2
  refine y_in (M := xm_X14_isClean) (ls := [some _, some _, _]) rfl rfl rfl ?_
  refine y_aload_n rfl rfl ?_
  refine y_getR rfl (ySh.t hS rfl) (ySh.n hS rfl) rfl rfl (ySh.r hS rfl) ?_
  refine y_iload_n rfl rfl ?_
  refine y_virt rfl rfl rfl rfl rfl (ySh.t hS rfl) (ySh.n hS rfl) ?_
  refine l_get (nb := nb) (ySh.t hS rfl) (ySh.n hS rfl) (Nat.le_trans hn hX.1) hR.l92 (by omega) (by omega) (fun b1 eb_b1 hlo_b1 hb0_b1 ht_b1 => ?_)
  have hb_b1 := Nat.lt_of_lt_of_le hb0_b1 hn
  replace ht_b1 := (hX.2.1 _ hb_b1).1.symm.trans ht_b1
  have hw_b1 := hR.frm eb_b1 (by omega)
  refine y_ret1 ?_
  refine y_castA rfl rfl ((hX.2.1 _ hb_b1).1.trans ht_b1) rfl (Nat.lt_of_lt_of_le hb_b1 hX.1) ?_
  refine y_astore_n (ls' := [some _, some _, some _]) rfl rfl rfl ?_
  refine y_bip rfl (by decide) ?_
  refine y_aload_n rfl rfl ?_
  refine y_iconst rfl ?_
  refine y_ialoadC (j := 1) rfl ((hX.2.1 _ hb_b1).1.trans ht_b1) (Nat.lt_of_lt_of_le hb_b1 hX.1) (by decide) (by decide) rfl ?_
  refine y_imul rfl ?_
  refine y_bip rfl (by decide) ?_
  refine y_aload_n rfl rfl ?_
  refine y_iconst rfl ?_
  refine y_ialoadC (j := 0) rfl ((hX.2.1 _ hb_b1).1.trans ht_b1) (Nat.lt_of_lt_of_le hb_b1 hX.1) (by decide) (by decide) rfl ?_
  refine y_imul rfl ?_
  refine y_icmp_ge rfl j_X14_isClean_60 (fun h_2 => ?_) (fun h_3 => ?_)
  · refine y_iconst rfl ?_
    refine y_ireturn rfl rfl rfl ?_
    exact hQ0 (fun q_ => by have q_ : yCln _ _ _ _ := q_; rw [← eb_b1] at q_; obtain ⟨q1_, q2_, q3_⟩ := q_; omega)
  · refine y_bip rfl (by decide) ?_
    refine y_aload_n rfl rfl ?_
    refine y_iconst rfl ?_
    refine y_ialoadC (j := 2) rfl ((hX.2.1 _ hb_b1).1.trans ht_b1) (Nat.lt_of_lt_of_le hb_b1 hX.1) (by decide) (by decide) rfl ?_
    refine y_imul rfl ?_
    refine y_bip rfl (by decide) ?_
    refine y_aload_n rfl rfl ?_
    refine y_iconst rfl ?_
    refine y_ialoadC (j := 0) rfl ((hX.2.1 _ hb_b1).1.trans ht_b1) (Nat.lt_of_lt_of_le hb_b1 hX.1) (by decide) (by decide) rfl ?_
    refine y_imul rfl ?_
    refine y_icmp_ge rfl j_X14_isClean_60 (fun h_4 => ?_) (fun h_5 => ?_)
    · refine y_iconst rfl ?_
      refine y_ireturn rfl rfl rfl ?_
      exact hQ0 (fun q_ => by have q_ : yCln _ _ _ _ := q_; rw [← eb_b1] at q_; obtain ⟨q1_, q2_, q3_⟩ := q_; omega)
    · refine y_bip rfl (by decide) ?_
      refine y_aload_n rfl rfl ?_
      refine y_iconst rfl ?_
      refine y_ialoadC (j := 3) rfl ((hX.2.1 _ hb_b1).1.trans ht_b1) (Nat.lt_of_lt_of_le hb_b1 hX.1) (by decide) (by decide) rfl ?_
      refine y_imul rfl ?_
      refine y_iconst rfl ?_
      refine y_aload_n rfl rfl ?_
      refine y_iconst rfl ?_
      refine y_ialoadC (j := 0) rfl ((hX.2.1 _ hb_b1).1.trans ht_b1) (Nat.lt_of_lt_of_le hb_b1 hX.1) (by decide) (by decide) rfl ?_
      refine y_imul rfl ?_
      refine y_icmp_gt rfl j_X14_isClean_60 (fun h_6 => ?_) (fun h_7 => ?_)
      · refine y_iconst rfl ?_
        refine y_ireturn rfl rfl rfl ?_
        exact hQ0 (fun q_ => by have q_ : yCln _ _ _ _ := q_; rw [← eb_b1] at q_; obtain ⟨q1_, q2_, q3_⟩ := q_; omega)
      · refine y_iconst rfl ?_
        refine y_goto rfl j_X14_isClean_61 ?_
        refine y_ireturn rfl rfl rfl ?_
        exact hQ1 (by show yCln _ _ _ _; rw [← eb_b1]; exact ⟨by omega, by omega, by omega⟩)
theorem lp_r_cleanX (hS0 : ySh n tg R) (hR0 : yRI K nb tg I R) (hn : nb ≤ n) (hQ : ∀ v : Int32, v = mCl I R (I 92 2).toInt.toNat → Q (.inl (some (.int v))) (n, tg, I, R) c s) : ∀ (m : Nat) (x1 : Int32) (x2 : Int32), (x1 = mCl I R x2.toInt.toNat) → (0 ≤ x2.toInt) → (x2.toInt ≤ (I 92 2).toInt) → (I 92 2).toInt - x2.toInt < m → yW xm_X14_clean xc_X14_clean_4 [some (.ref 83), some (.int x1), some (.int x2)] [] (n, tg, I, R) c s Q := by
  intro m
  induction m with
  | zero =>
    intro x1 x2 i0 i1 i2 hm
    have hX : yX n tg I R n tg I R := yX.rf
    have hS := hS0
    have hR := hR0
    have h94 : 94 ≤ n := hS0.1
    have hz : ySz I I := hX.sz h94
    have hxn := hX.1
    have hN := hR0.1
    have hnb : 94 ≤ nb := hR0.2.2.2.2.2.2
    exfalso; omega
  | succ m ih =>
    intro x1 x2 i0 i1 i2 hm
    have hX : yX n tg I R n tg I R := yX.rf
    have hS := hS0
    have hR := hR0
    have h94 : 94 ≤ n := hS0.1
    have hz : ySz I I := hX.sz h94
    have hxn := hX.1
    have hN := hR0.1
    have hnb : 94 ≤ nb := hR0.2.2.2.2.2.2
    refine y_iload_n rfl rfl ?_
    refine y_aload_n rfl rfl ?_
    refine y_getR rfl (ySh.t hS rfl) (ySh.n hS rfl) rfl rfl (ySh.r hS rfl) ?_
    refine y_virt rfl rfl rfl rfl rfl (ySh.t hS rfl) (ySh.n hS rfl) ?_
    refine y_in (M := xm_Jx4a65c_size_8abf5) (ls := [some _]) rfl rfl rfl ?_
    refine y_aload_n rfl rfl ?_
    refine y_getI rfl (ySh.t hS rfl) (ySh.n hS rfl) rfl rfl ?_
    refine y_ireturn rfl rfl rfl ?_
    refine y_ret1 ?_
    refine y_icmp_ge rfl j_X14_clean_34 (fun h_1 => ?_) (fun h_2 => ?_)
    · refine y_iload_n rfl rfl ?_
      refine y_ireturn rfl rfl rfl ?_
      exact hQ _ (by rw [show (I 92 2).toInt.toNat = x2.toInt.toNat by omega]; exact i0)
    · refine y_iload_n rfl rfl ?_
      refine y_aload_n rfl rfl ?_
      refine y_iload_n rfl rfl ?_
      refine y_virt rfl rfl rfl rfl rfl (ySh.t hS rfl) (ySh.n hS rfl) ?_
      refine r_isCleanX hS hR (Nat.le_trans hn hX.1) (by omega) (by omega) (fun hcl_ => ?_) (fun hcl_ => ?_)
      · skip
        refine y_ret1 ?_
        refine y_static rfl rfl rfl rfl rfl ?_
        refine y_in (M := xm_X14_one) (ls := [some _]) rfl rfl rfl ?_
        refine y_iload_n rfl rfl ?_
        refine y_if_eqF rfl (by decide) ?_
        refine y_iconst rfl ?_
        refine y_goto rfl j_X14_one_9 ?_
        refine y_ireturn rfl rfl rfl ?_
        refine y_ret1 ?_
        refine y_iload_n rfl rfl ?_
        refine y_ishl rfl ?_
        refine y_ior rfl ?_
        refine y_istore_n (ls' := [some _, some _, some _]) rfl rfl rfl ?_
        refine y_iinc (ls' := [some _, some _, some _]) rfl rfl rfl rfl ?_
        refine y_goto rfl j_X14_clean_4 ?_
        exact ih _ _ (mCl_nx (by omega) i0 (by first | exact (if_pos hcl_).symm | exact (if_neg hcl_).symm)) (by first | omega | (rw [yinc (by omega)]; omega)) (by first | omega | (rw [yinc (by omega)]; omega)) (by first | omega | (rw [yinc (by omega)]; omega))
      · skip
        refine y_ret1 ?_
        refine y_static rfl rfl rfl rfl rfl ?_
        refine y_in (M := xm_X14_one) (ls := [some _]) rfl rfl rfl ?_
        refine y_iload_n rfl rfl ?_
        refine y_if_eqT rfl j_X14_one_8 (by decide) ?_
        refine y_iconst rfl ?_
        refine y_ireturn rfl rfl rfl ?_
        refine y_ret1 ?_
        refine y_iload_n rfl rfl ?_
        refine y_ishl rfl ?_
        refine y_ior rfl ?_
        refine y_istore_n (ls' := [some _, some _, some _]) rfl rfl rfl ?_
        refine y_iinc (ls' := [some _, some _, some _]) rfl rfl rfl rfl ?_
        refine y_goto rfl j_X14_clean_4 ?_
        exact ih _ _ (mCl_nx (by omega) i0 (by first | exact (if_pos hcl_).symm | exact (if_neg hcl_).symm)) (by first | omega | (rw [yinc (by omega)]; omega)) (by first | omega | (rw [yinc (by omega)]; omega)) (by first | omega | (rw [yinc (by omega)]; omega))
theorem r_cleanX (hS0 : ySh n tg R) (hR0 : yRI K nb tg I R) (hn : nb ≤ n) (hQ : ∀ v : Int32, v = mCl I R (I 92 2).toInt.toNat → Q (.inl (some (.int v))) (n, tg, I, R) c s) : yC 221 [.ref 83] (n, tg, I, R) c s Q := by
  have hX : yX n tg I R n tg I R := yX.rf
  have hS := hS0
  have hR := hR0
  have h94 : 94 ≤ n := hS0.1
  have hz : ySz I I := hX.sz h94
  have hxn := hX.1
  have hN := hR0.1
  have hnb : 94 ≤ nb := hR0.2.2.2.2.2.2
  refine y_in (M := xm_X14_clean) (ls := [some _, _, _]) rfl rfl rfl ?_
  refine y_iconst rfl ?_
  refine y_istore_n (ls' := [some _, some _, _]) rfl rfl rfl ?_
  refine y_iconst rfl ?_
  refine y_istore_n (ls' := [some _, some _, some _]) rfl rfl rfl ?_
  exact lp_r_cleanX hS0 hR0 hn hQ 100 _ _ rfl (by decide) (by rw [yz_0]; omega) (by rw [yz_0]; omega)
theorem lp_r_sumOfX (hS0 : ySh n tg R) (hR0 : yRI K nb tg I R) (hn : nb ≤ n) {x1 x2 : Int32} (hw0 : 0 ≤ x2.toInt) (hw1 : x2.toInt < 7) (hQ : ∀ v : Int32, v = mSum I R x1 x2.toInt.toNat → Q (.inl (some (.int v))) (n, tg, I, R) c s) : ∀ (m : Nat) (x3 : Int32) (x4 : Int32), (x3 = yFz (mSumF I R x1 x2.toInt.toNat) x4.toInt.toNat) → (0 ≤ x4.toInt) → (x4.toInt ≤ (I 92 2).toInt) → (I 92 2).toInt - x4.toInt < m → yW xm_X14_sumOf xc_X14_sumOf_5 [some (.ref 83), some (.int x1), some (.int x2), some (.int x3), some (.int x4)] [] (n, tg, I, R) c s Q := by
  intro m
  induction m with
  | zero =>
    intro x3 x4 i0 i1 i2 hm
    have hX : yX n tg I R n tg I R := yX.rf
    have hS := hS0
    have hR := hR0
    have h94 : 94 ≤ n := hS0.1
    have hz : ySz I I := hX.sz h94
    have hxn := hX.1
    have hN := hR0.1
    have hnb : 94 ≤ nb := hR0.2.2.2.2.2.2
    exfalso; omega
  | succ m ih =>
    intro x3 x4 i0 i1 i2 hm
    have hX : yX n tg I R n tg I R := yX.rf
    have hS := hS0
    have hR := hR0
    have h94 : 94 ≤ n := hS0.1
    have hz : ySz I I := hX.sz h94
    have hxn := hX.1
    have hN := hR0.1
    have hnb : 94 ≤ nb := hR0.2.2.2.2.2.2
    refine y_iload rfl rfl ?_
    refine y_aload_n rfl rfl ?_
    refine y_getR rfl (ySh.t hS rfl) (ySh.n hS rfl) rfl rfl (ySh.r hS rfl) ?_
    refine y_virt rfl rfl rfl rfl rfl (ySh.t hS rfl) (ySh.n hS rfl) ?_
    refine y_in (M := xm_Jx4a65c_size_8abf5) (ls := [some _]) rfl rfl rfl ?_
    refine y_aload_n rfl rfl ?_
    refine y_getI rfl (ySh.t hS rfl) (ySh.n hS rfl) rfl rfl ?_
    refine y_ireturn rfl rfl rfl ?_
    refine y_ret1 ?_
    refine y_icmp_ge rfl j_X14_sumOf_49 (fun h_1 => ?_) (fun h_2 => ?_)
    · refine y_iload_n rfl rfl ?_
      refine y_ireturn rfl rfl rfl ?_
      exact hQ _ (by unfold mSum; rw [show (I 92 2).toInt.toNat = x4.toInt.toNat by omega]; exact i0)
    · refine y_iload_n rfl rfl ?_
      refine y_iload rfl rfl ?_
      refine y_static rfl rfl rfl rfl rfl ?_
      refine y_in (M := xm_X14_has) (ls := [some _, some _]) rfl rfl rfl ?_
      refine y_iload_n rfl rfl ?_
      refine y_iload_n rfl rfl ?_
      refine y_ishr rfl ?_
      refine y_iconst rfl ?_
      refine y_iand rfl ?_
      refine y_iconst rfl ?_
      refine y_icmp_ne rfl j_X14_has_13 (fun h_3 => ?_) (fun h_4 => ?_)
      · rw [yz_1] at h_3
        refine y_iconst rfl ?_
        refine y_ireturn rfl rfl rfl ?_
        refine y_ret1 ?_
        refine y_if_eqT rfl j_X14_sumOf_43 (by decide) ?_
        refine y_iinc (ls' := [some _, some _, some _, some _, some _]) rfl rfl rfl rfl ?_
        refine y_goto rfl j_X14_sumOf_5 ?_
        exact ih _ _ (by first | exact yFs_nx (by omega) i0 (mSumF_p (by omega) (by assumption) (by assumption)) | exact yFz_nz (by omega) i0 (mSumF_n (by omega) (by assumption))) (by first | omega | (rw [yinc (by omega)]; omega)) (by first | omega | (rw [yinc (by omega)]; omega)) (by first | omega | (rw [yinc (by omega)]; omega))
      · rw [yz_1] at h_4
        refine y_iconst rfl ?_
        refine y_goto rfl j_X14_has_14 ?_
        refine y_ireturn rfl rfl rfl ?_
        refine y_ret1 ?_
        refine y_if_eqF rfl (by decide) ?_
        refine y_iload_n rfl rfl ?_
        refine y_aload_n rfl rfl ?_
        refine y_getR rfl (ySh.t hS rfl) (ySh.n hS rfl) rfl rfl (ySh.r hS rfl) ?_
        refine y_iload rfl rfl ?_
        refine y_virt rfl rfl rfl rfl rfl (ySh.t hS rfl) (ySh.n hS rfl) ?_
        refine l_get (nb := nb) (ySh.t hS rfl) (ySh.n hS rfl) (Nat.le_trans hn hX.1) hR.l92 (by omega) (by omega) (fun b5 eb_b5 hlo_b5 hb0_b5 ht_b5 => ?_)
        have hb_b5 := Nat.lt_of_lt_of_le hb0_b5 hn
        replace ht_b5 := (hX.2.1 _ hb_b5).1.symm.trans ht_b5
        have hw_b5 := hR.frm eb_b5 (by omega)
        refine y_ret1 ?_
        refine y_castA rfl rfl ((hX.2.1 _ hb_b5).1.trans ht_b5) rfl (Nat.lt_of_lt_of_le hb_b5 hX.1) ?_
        refine y_iload_n rfl rfl ?_
        refine y_iaload rfl ((hX.2.1 _ hb_b5).1.trans ht_b5) (Nat.lt_of_lt_of_le hb_b5 hX.1) (by omega) (by omega) ?_
        refine y_iadd rfl ?_
        refine y_istore_n (ls' := [some _, some _, some _, some _, some _]) rfl rfl rfl ?_
        refine y_iinc (ls' := [some _, some _, some _, some _, some _]) rfl rfl rfl rfl ?_
        refine y_goto rfl j_X14_sumOf_5 ?_
        exact ih _ _ (by first | exact yFs_nx (by omega) i0 (mSumF_p (by omega) (by assumption) (by assumption)) | exact yFz_nz (by omega) i0 (mSumF_n (by omega) (by assumption))) (by first | omega | (rw [yinc (by omega)]; omega)) (by first | omega | (rw [yinc (by omega)]; omega)) (by first | omega | (rw [yinc (by omega)]; omega))
theorem r_sumOfX (hS0 : ySh n tg R) (hR0 : yRI K nb tg I R) (hn : nb ≤ n) {x1 x2 : Int32} (hw0 : 0 ≤ x2.toInt) (hw1 : x2.toInt < 7) (hQ : ∀ v : Int32, v = mSum I R x1 x2.toInt.toNat → Q (.inl (some (.int v))) (n, tg, I, R) c s) : yC 222 [.ref 83, .int x1, .int x2] (n, tg, I, R) c s Q := by
  have hX : yX n tg I R n tg I R := yX.rf
  have hS := hS0
  have hR := hR0
  have h94 : 94 ≤ n := hS0.1
  have hz : ySz I I := hX.sz h94
  have hxn := hX.1
  have hN := hR0.1
  have hnb : 94 ≤ nb := hR0.2.2.2.2.2.2
  refine y_in (M := xm_X14_sumOf) (ls := [some _, some _, some _, _, _]) rfl rfl rfl ?_
  refine y_iconst rfl ?_
  refine y_istore_n (ls' := [some _, some _, some _, some _, _]) rfl rfl rfl ?_
  refine y_iconst rfl ?_
  refine y_istore (ls' := [some _, some _, some _, some _, some _]) rfl rfl rfl ?_
  exact lp_r_sumOfX hS0 hR0 hn hw0 hw1 hQ 100 _ _ rfl (by decide) (by rw [yz_0]; omega) (by rw [yz_0]; omega)
theorem h_invest (hS0 : ySh n tg R) (hR0 : yRI K n tg I R) (hk6 : K < 600) {x1 : Int32} (hQ1 : ¬ (0 ≤ x1.toInt ∧ (x1 >>> (I 92 2 &&& 31)).toInt = 0) → ∀ (v : Int32) n1 tg1 I1 R1 c1 s1, ySh n1 tg1 R1 → yRI (K + 1) n1 tg1 I1 R1 → yKp n tg I R n1 tg1 I1 R1 → I1 83 0 = Int32.ofInt 1 → yRf n I R I1 R1 → c1 ≤ c + 0 → s1 ≤ s + 0 → Q (.inl (some (.int v))) (n1, tg1, I1, R1) c1 s1) (hQ2 : (0 ≤ x1.toInt ∧ (x1 >>> (I 92 2 &&& 31)).toInt = 0) ∧ ¬ (x1 &&& ((mCl I R (I 92 2).toInt.toNat) ^^^ Int32.ofInt (-1))).toInt = 0 → ∀ (v : Int32) n1 tg1 I1 R1 c1 s1, ySh n1 tg1 R1 → yRI (K + 1) n1 tg1 I1 R1 → yKp n tg I R n1 tg1 I1 R1 → I1 83 0 = Int32.ofInt 2 → yRf n I R I1 R1 → c1 ≤ c + 0 → s1 ≤ s + 0 → Q (.inl (some (.int v))) (n1, tg1, I1, R1) c1 s1) (hQ0 : (0 ≤ x1.toInt ∧ (x1 >>> (I 92 2 &&& 31)).toInt = 0) ∧ (x1 &&& ((mCl I R (I 92 2).toInt.toNat) ^^^ Int32.ofInt (-1))).toInt = 0 → ∀ (v : Int32) n1 tg1 I1 R1 c1 s1, ySh n1 tg1 R1 → yRI (K + 1) n1 tg1 I1 R1 → yKp n tg I R n1 tg1 I1 R1 → I1 83 0 = Int32.ofInt 0 → v = (I 84 8 + (mSum I R (I 83 7) 4 - mSum I R x1 4)) → yX n tg (upd2 (upd2 (upd2 I 83 0 (Int32.ofInt 0)) 84 8 (I 84 8 + (mSum I R (I 83 7) 4 - mSum I R x1 4))) 83 7 x1) R n1 tg1 I1 R1 → c1 ≤ c + 0 → s1 ≤ s + 0 → Q (.inl (some (.int v))) (n1, tg1, I1, R1) c1 s1) : yC 223 [.ref 83, .int x1] (n, tg, I, R) c s Q := by
  have hno := Nat.le_refl n
  have hn := hno
  have hRo := hR0
  have hK : yKp n tg I R n tg I R := yKp.rf
  have hX : yX n tg I R n tg I R := yX.rf
  have hS := hS0
  have hR := hR0
  have h94 : 94 ≤ n := hS0.1
  have hz : ySz I I := hX.sz h94
  have hxn := hX.1
  have hN := hR0.1
  have hnb : 94 ≤ n := hR0.2.2.2.2.2.2
  have hg : yGm n I I := yGm.rf
  have hday : I 83 1 = I 83 1 := rfl
  have hb83 : ∀ a, a ≠ 83 → a < n → I a = I a := fun _ _ _ => rfl
  have hRb : ∀ a, a < n → R a = R a := fun _ _ => rfl
  have hB : yX n tg I R n tg I R := yX.rf
  have h8 : ∀ a, 84 ≤ a → a ≤ 86 → I a = I a := fun _ _ _ => rfl
  have h3k : ∀ k, k ≠ 0 → I 83 k = I 83 k := fun _ _ => rfl
  refine y_in (M := xm_X14_invest) (ls := [some _, some _]) rfl rfl rfl ?_
  refine y_aload_n rfl rfl ?_
  refine y_iload_n rfl rfl ?_
  refine y_if_lt rfl j_X14_invest_17 (fun h_1 => ?_) (fun h_2 => ?_)
  · refine y_iconst rfl ?_
    refine y_goto rfl j_X14_invest_22 ?_
    refine y_iconst rfl ?_
    refine y_virt rfl rfl rfl rfl rfl (ySh.t hS rfl) (ySh.n hS rfl) ?_
    refine y_in (M := xm_X14_start) (ls := [some _, some _, some _]) rfl rfl rfl ?_
    refine y_aload_n rfl rfl ?_
    refine y_iconst rfl ?_
    refine y_putI rfl (ySh.t hS rfl) (ySh.n hS rfl) rfl (Nat.le_of_ble_eq_true rfl) rfl rfl ?_
    refine y_nameI (fun I3 e3 => ?_)
    have hR1 := (hR0.grow hX).mod0 e3 (by decide) (by decide)
    have hK := (hK.x hRo hno hX).upI (upI e3) (by decide) (by decide) (fun i hi => by have := (hRo.l87.2.2.2.2 i hi).2.1; omega) (by rw [e3, upd2_ne (.inr (by decide))]; exact Int.le_refl _)
    have hth : I3 83 0 = Int32.ofInt (0) := by rw [e3, upd2_self]
    have hzz : ySz8 I I3 := ySz8_of (upI e3) (by rw [e3]; exact ⟨upd2_ne (.inr (by decide)), upd2_ne (.inr (by decide))⟩)
    have hB := (hB.trans hX).wr e3 rfl
    have h8 : ∀ a, 84 ≤ a → a ≤ 86 → I3 a = I a := fun a h1 h2 => (upI e3 a (by omega)).trans ((hX.2.1 a (by omega)).2.1.trans (h8 a h1 h2))
    have h3k : ∀ k, k ≠ 0 → I3 83 k = I 83 k := fun k hk => (congrFun (congrFun e3 83) k).trans ((upd2_ne (.inr hk)).trans ((congrFun (hX.2.1 83 (by omega)).2.1 k).trans (h3k k hk)))
    have hg := (hg.gx hX (by omega)).skip e3 (by decide)
    have hday : I3 83 1 = I 83 1 := (congrFun (congrFun e3 83) 1).trans ((upd2_ne (.inr (by decide))).trans ((congrFun (hX.2.1 83 (by omega)).2.1 1).trans hday))
    have hRb : ∀ a, a < n → R a = R a := fun a ha => (hX.2.1 a (by omega)).2.2.trans (hRb a ha)
    have hb83 : ∀ a, a ≠ 83 → a < n → I3 a = I a := fun a ha hb => (upI e3 a ha).trans ((hX.2.1 a (by omega)).2.1.trans (hb83 a ha hb))
    have hS0 := hS
    have hR0 := hR1
    have hn := Nat.le_refl n
    have h94 := hS0.1
    have hX := @yX.rf n tg I3 R
    have hS := hS0.x hX
    have hR := hR0.x hn hX
    have hz := hX.sz h94
    have hxn := hX.1
    have hN := hR0.1
    have hnb := hR0.2.2.2.2.2.2
    have hthB := hth
    refine y_aload_n rfl rfl ?_
    refine y_iload_n rfl rfl ?_
    refine y_iload_n rfl rfl ?_
    refine y_virt rfl rfl rfl rfl rfl (ySh.t hS rfl) (ySh.n hS rfl) ?_
    refine y_in (M := xm_X14_refuse) (ls := [some _, some _, some _]) rfl rfl rfl ?_
    refine y_iload_n rfl rfl ?_
    refine y_if_eqF rfl (by decide) ?_
    refine y_aload_n rfl rfl ?_
    refine y_getIv (v := Int32.ofInt (0)) rfl (ySh.t hS rfl) (ySh.n hS rfl) rfl rfl hth ?_
    refine y_if_neF rfl (by decide) ?_
    refine y_aload_n rfl rfl ?_
    refine y_iload_n rfl rfl ?_
    refine y_putI rfl (ySh.t hS rfl) (ySh.n hS rfl) rfl (Nat.le_of_ble_eq_true rfl) rfl rfl ?_
    refine y_nameI (fun I4 e4 => ?_)
    have hR1 := (hR0.grow hX).mod0 e4 (by decide) (by decide)
    have hK := (hK.x hRo hno hX).upI (upI e4) (by decide) (by decide) (fun i hi => by have := (hRo.l87.2.2.2.2 i hi).2.1; omega) (by rw [e4, upd2_ne (.inr (by decide))]; exact Int.le_refl _)
    have hth : I4 83 0 = Int32.ofInt (1) := by rw [e4, upd2_self]
    have hzz : ySz8 I3 I4 := ySz8_of (upI e4) (by rw [e4]; exact ⟨upd2_ne (.inr (by decide)), upd2_ne (.inr (by decide))⟩)
    have hB := (hB.trans hX).wr e4 rfl
    have h8 : ∀ a, 84 ≤ a → a ≤ 86 → I4 a = I a := fun a h1 h2 => (upI e4 a (by omega)).trans ((hX.2.1 a (by omega)).2.1.trans (h8 a h1 h2))
    have h3k : ∀ k, k ≠ 0 → I4 83 k = I 83 k := fun k hk => (congrFun (congrFun e4 83) k).trans ((upd2_ne (.inr hk)).trans ((congrFun (hX.2.1 83 (by omega)).2.1 k).trans (h3k k hk)))
    have hg := (hg.gx hX (by omega)).skip e4 (by decide)
    have hday : I4 83 1 = I 83 1 := (congrFun (congrFun e4 83) 1).trans ((upd2_ne (.inr (by decide))).trans ((congrFun (hX.2.1 83 (by omega)).2.1 1).trans hday))
    have hRb : ∀ a, a < n → R a = R a := fun a ha => (hX.2.1 a (by omega)).2.2.trans (hRb a ha)
    have hb83 : ∀ a, a ≠ 83 → a < n → I4 a = I a := fun a ha hb => (upI e4 a ha).trans ((hX.2.1 a (by omega)).2.1.trans (hb83 a ha hb))
    have hS0 := hS
    have hR0 := hR1
    have hn := Nat.le_refl n
    have h94 := hS0.1
    have hX := @yX.rf n tg I4 R
    have hS := hS0.x hX
    have hR := hR0.x hn hX
    have hz := hX.sz h94
    have hxn := hX.1
    have hN := hR0.1
    have hnb := hR0.2.2.2.2.2.2
    have hthB := hth
    refine y_aload_n rfl rfl ?_
    refine y_getIv (v := Int32.ofInt (1)) rfl (ySh.t hS rfl) (ySh.n hS rfl) rfl rfl hth ?_
    refine y_if_leF rfl (by decide) ?_
    refine y_iconst rfl ?_
    refine y_goto rfl j_X14_refuse_28 ?_
    refine y_ireturn rfl rfl rfl ?_
    refine y_ret1 ?_
    refine y_ireturn rfl rfl rfl ?_
    refine y_ret1 ?_
    refine y_if_neT rfl j_X14_invest_53 (by decide) ?_
    refine y_iconst rfl ?_
    refine y_ireturn rfl rfl rfl ?_
    exact hQ1 (by omega) _ _ _ _ _ _ _ hS ((hR0.grow hX).up (Nat.le_succ K) hk6) (hK.x hRo hno hX) hth ((hB.trans hX).rf2 (by omega)) (by omega) (by omega)
  · refine y_iload_n rfl rfl ?_
    refine y_aload_n rfl rfl ?_
    refine y_getR rfl (ySh.t hS rfl) (ySh.n hS rfl) rfl rfl (ySh.r hS rfl) ?_
    refine y_virt rfl rfl rfl rfl rfl (ySh.t hS rfl) (ySh.n hS rfl) ?_
    refine y_in (M := xm_Jx4a65c_size_8abf5) (ls := [some _]) rfl rfl rfl ?_
    refine y_aload_n rfl rfl ?_
    refine y_getI rfl (ySh.t hS rfl) (ySh.n hS rfl) rfl rfl ?_
    refine y_ireturn rfl rfl rfl ?_
    refine y_ret1 ?_
    refine y_ishr rfl ?_
    refine y_if_eq rfl j_X14_invest_21 (fun h_5 => ?_) (fun h_6 => ?_)
    · refine y_iconst rfl ?_
      refine y_iconst rfl ?_
      refine y_virt rfl rfl rfl rfl rfl (ySh.t hS rfl) (ySh.n hS rfl) ?_
      refine y_in (M := xm_X14_start) (ls := [some _, some _, some _]) rfl rfl rfl ?_
      refine y_aload_n rfl rfl ?_
      refine y_iconst rfl ?_
      refine y_putI rfl (ySh.t hS rfl) (ySh.n hS rfl) rfl (Nat.le_of_ble_eq_true rfl) rfl rfl ?_
      refine y_nameI (fun I7 e7 => ?_)
      have hR1 := (hR0.grow hX).mod0 e7 (by decide) (by decide)
      have hK := (hK.x hRo hno hX).upI (upI e7) (by decide) (by decide) (fun i hi => by have := (hRo.l87.2.2.2.2 i hi).2.1; omega) (by rw [e7, upd2_ne (.inr (by decide))]; exact Int.le_refl _)
      have hth : I7 83 0 = Int32.ofInt (0) := by rw [e7, upd2_self]
      have hzz : ySz8 I I7 := ySz8_of (upI e7) (by rw [e7]; exact ⟨upd2_ne (.inr (by decide)), upd2_ne (.inr (by decide))⟩)
      have hB := (hB.trans hX).wr e7 rfl
      have h8 : ∀ a, 84 ≤ a → a ≤ 86 → I7 a = I a := fun a h1 h2 => (upI e7 a (by omega)).trans ((hX.2.1 a (by omega)).2.1.trans (h8 a h1 h2))
      have h3k : ∀ k, k ≠ 0 → I7 83 k = I 83 k := fun k hk => (congrFun (congrFun e7 83) k).trans ((upd2_ne (.inr hk)).trans ((congrFun (hX.2.1 83 (by omega)).2.1 k).trans (h3k k hk)))
      have hg := (hg.gx hX (by omega)).skip e7 (by decide)
      have hday : I7 83 1 = I 83 1 := (congrFun (congrFun e7 83) 1).trans ((upd2_ne (.inr (by decide))).trans ((congrFun (hX.2.1 83 (by omega)).2.1 1).trans hday))
      have hRb : ∀ a, a < n → R a = R a := fun a ha => (hX.2.1 a (by omega)).2.2.trans (hRb a ha)
      have hb83 : ∀ a, a ≠ 83 → a < n → I7 a = I a := fun a ha hb => (upI e7 a ha).trans ((hX.2.1 a (by omega)).2.1.trans (hb83 a ha hb))
      have hS0 := hS
      have hR0 := hR1
      have hn := Nat.le_refl n
      have h94 := hS0.1
      have hX := @yX.rf n tg I7 R
      have hS := hS0.x hX
      have hR := hR0.x hn hX
      have hz := hX.sz h94
      have hxn := hX.1
      have hN := hR0.1
      have hnb := hR0.2.2.2.2.2.2
      have hthB := hth
      refine y_aload_n rfl rfl ?_
      refine y_iload_n rfl rfl ?_
      refine y_iload_n rfl rfl ?_
      refine y_virt rfl rfl rfl rfl rfl (ySh.t hS rfl) (ySh.n hS rfl) ?_
      refine y_in (M := xm_X14_refuse) (ls := [some _, some _, some _]) rfl rfl rfl ?_
      refine y_iload_n rfl rfl ?_
      refine y_if_eqT rfl j_X14_refuse_16 (by decide) ?_
      refine y_aload_n rfl rfl ?_
      refine y_getIv (v := Int32.ofInt (0)) rfl (ySh.t hS rfl) (ySh.n hS rfl) rfl rfl hth ?_
      refine y_if_leT rfl j_X14_refuse_27 (by decide) ?_
      refine y_iconst rfl ?_
      refine y_ireturn rfl rfl rfl ?_
      refine y_ret1 ?_
      refine y_ireturn rfl rfl rfl ?_
      refine y_ret1 ?_
      refine y_if_neF rfl (by decide) ?_
      refine y_aload_n rfl rfl ?_
      refine y_iload_n rfl rfl ?_
      refine y_aload_n rfl rfl ?_
      refine y_virt rfl rfl rfl rfl rfl (ySh.t hS rfl) (ySh.n hS rfl) ?_
      have hfr_ : mFr I I7 R R := ⟨by omega, fun k_ hk_ => by
        have hq_ := hRo.l92.2.2.2.2 k_ hk_
        rw [show yAd R 92 k_ = yAd R 92 k_ from yAd_eq ((hX.2.1 92 (by omega)).2.2.trans (hRb 92 (by omega))) ((hX.2.1 _ (by have := hRo.lt6 92 (by decide) (by decide); omega)).2.2.trans (hRb _ (hRo.lt6 92 (by decide) (by decide))))]
        exact (hg.gx hX (by omega)) _ hq_.2.1 hq_.2.2.1⟩
      refine r_cleanX hS hR (Nat.le_trans hn hX.1) (fun v_8 hv_8 => ?_)
      rw [hfr_.1, hfr_.cl (by omega)] at hv_8
      subst hv_8
      refine y_ret1 ?_
      refine y_iconst rfl ?_
      refine y_ixor rfl ?_
      refine y_iand rfl ?_
      refine y_if_eq rfl j_X14_invest_45 (fun h_9 => ?_) (fun h_10 => ?_)
      · refine y_iconst rfl ?_
        refine y_iconst rfl ?_
        refine y_virt rfl rfl rfl rfl rfl (ySh.t hS rfl) (ySh.n hS rfl) ?_
        refine y_in (M := xm_X14_refuse) (ls := [some _, some _, some _]) rfl rfl rfl ?_
        refine y_iload_n rfl rfl ?_
        refine y_if_eqT rfl j_X14_refuse_16 (by decide) ?_
        refine y_aload_n rfl rfl ?_
        refine y_getIv (v := Int32.ofInt (0)) rfl (ySh.t hS rfl) (ySh.n hS rfl) rfl rfl hth ?_
        refine y_if_leT rfl j_X14_refuse_27 (by decide) ?_
        refine y_iconst rfl ?_
        refine y_ireturn rfl rfl rfl ?_
        refine y_ret1 ?_
        refine y_if_eqT rfl j_X14_invest_55 (by decide) ?_
        refine y_aload_n rfl rfl ?_
        refine y_getR rfl (ySh.t hS rfl) (ySh.n hS rfl) rfl rfl (ySh.r hS rfl) ?_
        refine y_bip rfl (by decide) ?_
        refine y_dup2 rfl rfl rfl ?_
        refine y_ialoadw (j := 8) (J := I 84) rfl (ySh.t hS rfl) (ySh.n hS rfl) (by decide) (by decide) rfl (((hB.trans hX).n (by omega)).trans (by repeat (first | rfl | (rw [upd2_row (by first | decide | omega)]) | refine upd2_cg ?_))) ?_
        refine y_aload_n rfl rfl ?_
        refine y_aload_n rfl rfl ?_
        refine y_getIv (v := I 83 7) rfl (ySh.t hS rfl) (ySh.n hS rfl) rfl rfl ((congrFun ((hB.trans hX).n (by omega : 83 < n)) 7).trans (by repeat (first | rfl | rw [upd2_ne (by first | exact .inl (by omega) | exact .inr (by decide))]))) ?_
        refine y_iconst rfl ?_
        refine y_virt rfl rfl rfl rfl rfl (ySh.t hS rfl) (ySh.n hS rfl) ?_
        have hfr_ : mFr I I7 R R := ⟨by omega, fun k_ hk_ => by
          have hq_ := hRo.l92.2.2.2.2 k_ hk_
          rw [show yAd R 92 k_ = yAd R 92 k_ from yAd_eq ((hX.2.1 92 (by omega)).2.2.trans (hRb 92 (by omega))) ((hX.2.1 _ (by have := hRo.lt6 92 (by decide) (by decide); omega)).2.2.trans (hRb _ (hRo.lt6 92 (by decide) (by decide))))]
          exact (hg.gx hX (by omega)) _ hq_.2.1 hq_.2.2.1⟩
        refine r_sumOfX hS hR (Nat.le_trans hn hX.1) (by decide) (by decide) (fun v_11 hv_11 => ?_)
        rw [hfr_.sum, show (Int32.ofInt 4).toInt.toNat = 4 by decide] at hv_11
        subst hv_11
        refine y_ret1 ?_
        refine y_aload_n rfl rfl ?_
        refine y_iload_n rfl rfl ?_
        refine y_iconst rfl ?_
        refine y_virt rfl rfl rfl rfl rfl (ySh.t hS rfl) (ySh.n hS rfl) ?_
        have hfr_ : mFr I I7 R R := ⟨by omega, fun k_ hk_ => by
          have hq_ := hRo.l92.2.2.2.2 k_ hk_
          rw [show yAd R 92 k_ = yAd R 92 k_ from yAd_eq ((hX.2.1 92 (by omega)).2.2.trans (hRb 92 (by omega))) ((hX.2.1 _ (by have := hRo.lt6 92 (by decide) (by decide); omega)).2.2.trans (hRb _ (hRo.lt6 92 (by decide) (by decide))))]
          exact (hg.gx hX (by omega)) _ hq_.2.1 hq_.2.2.1⟩
        refine r_sumOfX hS hR (Nat.le_trans hn hX.1) (by decide) (by decide) (fun v_12 hv_12 => ?_)
        rw [hfr_.sum, show (Int32.ofInt 4).toInt.toNat = 4 by decide] at hv_12
        subst hv_12
        refine y_ret1 ?_
        refine y_isub rfl ?_
        refine y_iadd rfl ?_
        refine y_iastoreC (j := 8) rfl (ySh.t hS rfl) (ySh.n hS rfl) (Nat.le_of_ble_eq_true rfl) (by decide) (by decide) rfl ?_
        refine y_nameI (fun I13 e13 => ?_)
        have hR1 := (hR0.grow hX).arr e13 (by decide)
        have hK := (hK.x hRo hno hX).upI (upI e13) (by decide) (by decide) (fun i hi => by have := (hRo.l87.2.2.2.2 i hi).2.1; omega) (by rw [e13, upd2_ne (.inl (by omega))]; exact Int.le_refl _)
        have hth := (show I13 83 0 = I7 83 0 by rw [e13, upd2_ne (.inl (by omega))]).trans hth
        have hzz : ySz I7 I13 := ySz_ofE (upI e13) (by omega)
        have hB := (hB.trans hX).wr e13 rfl
        have h3k : ∀ k, k ≠ 0 → I13 83 k = I 83 k := fun k hk => (congrFun (congrFun e13 83) k).trans ((upd2_ne (.inl (by omega))).trans ((congrFun (hX.2.1 83 (by omega)).2.1 k).trans (h3k k hk)))
        have hg := (hg.gx hX (by omega)).skip e13 (by decide)
        have hday : I13 83 1 = I 83 1 := (congrFun (congrFun e13 83) 1).trans ((upd2_ne (.inl (by omega))).trans ((congrFun (hX.2.1 83 (by omega)).2.1 1).trans hday))
        have hRb : ∀ a, a < n → R a = R a := fun a ha => (hX.2.1 a (by omega)).2.2.trans (hRb a ha)
        have hS0 := hS
        have hR0 := hR1
        have hn := Nat.le_refl n
        have h94 := hS0.1
        have hX := @yX.rf n tg I13 R
        have hS := hS0.x hX
        have hR := hR0.x hn hX
        have hz := hX.sz h94
        have hxn := hX.1
        have hN := hR0.1
        have hnb := hR0.2.2.2.2.2.2
        have hthB := hth
        refine y_aload_n rfl rfl ?_
        refine y_iload_n rfl rfl ?_
        refine y_putI rfl (ySh.t hS rfl) (ySh.n hS rfl) rfl (Nat.le_of_ble_eq_true rfl) rfl rfl ?_
        refine y_nameI (fun I14 e14 => ?_)
        have hR1 := (hR0.grow hX).mod0 e14 (by decide) (by decide)
        have hK := (hK.x hRo hno hX).upI (upI e14) (by decide) (by decide) (fun i hi => by have := (hRo.l87.2.2.2.2 i hi).2.1; omega) (by rw [e14, upd2_ne (.inr (by decide))]; exact Int.le_refl _)
        have hth := (show I14 83 0 = I13 83 0 by rw [e14, upd2_ne (.inr (by decide))]).trans hth
        have hzz : ySz I13 I14 := ySz_ofM (upI e14) (by rw [e14]; exact ⟨upd2_ne (.inr (by decide)), upd2_ne (.inr (by decide)), upd2_ne (.inr (by decide))⟩)
        have hB := (hB.trans hX).wr e14 rfl
        have hg := (hg.gx hX (by omega)).skip e14 (by decide)
        have hday : I14 83 1 = I 83 1 := (congrFun (congrFun e14 83) 1).trans ((upd2_ne (.inr (by decide))).trans ((congrFun (hX.2.1 83 (by omega)).2.1 1).trans hday))
        have hRb : ∀ a, a < n → R a = R a := fun a ha => (hX.2.1 a (by omega)).2.2.trans (hRb a ha)
        have hS0 := hS
        have hR0 := hR1
        have hn := Nat.le_refl n
        have h94 := hS0.1
        have hX := @yX.rf n tg I14 R
        have hS := hS0.x hX
        have hR := hR0.x hn hX
        have hz := hX.sz h94
        have hxn := hX.1
        have hN := hR0.1
        have hnb := hR0.2.2.2.2.2.2
        have hthB := hth
        refine y_aload_n rfl rfl ?_
        refine y_getR rfl (ySh.t hS rfl) (ySh.n hS rfl) rfl rfl (ySh.r hS rfl) ?_
        refine y_bip rfl (by decide) ?_
        refine y_ialoadw (j := 8) (J := _) rfl (ySh.t hS rfl) (ySh.n hS rfl) (by decide) (by decide) rfl ((hB.trans hX).n (by omega)) ?_
        refine y_ireturn rfl rfl rfl ?_
        exact hQ0 (by omega) _ _ _ _ _ _ _ hS ((hR0.grow hX).up (Nat.le_succ K) hk6) (hK.x hRo hno hX) hth (by first | exact upd2_self | (rw [upd2_row (by decide), upd2_self]; done) | rfl) (hB.trans hX) (by omega) (by omega)
      · refine y_iconst rfl ?_
        refine y_goto rfl j_X14_invest_46 ?_
        refine y_iconst rfl ?_
        refine y_virt rfl rfl rfl rfl rfl (ySh.t hS rfl) (ySh.n hS rfl) ?_
        refine y_in (M := xm_X14_refuse) (ls := [some _, some _, some _]) rfl rfl rfl ?_
        refine y_iload_n rfl rfl ?_
        refine y_if_eqF rfl (by decide) ?_
        refine y_aload_n rfl rfl ?_
        refine y_getIv (v := Int32.ofInt (0)) rfl (ySh.t hS rfl) (ySh.n hS rfl) rfl rfl hth ?_
        refine y_if_neF rfl (by decide) ?_
        refine y_aload_n rfl rfl ?_
        refine y_iload_n rfl rfl ?_
        refine y_putI rfl (ySh.t hS rfl) (ySh.n hS rfl) rfl (Nat.le_of_ble_eq_true rfl) rfl rfl ?_
        refine y_nameI (fun I15 e15 => ?_)
        have hR1 := (hR0.grow hX).mod0 e15 (by decide) (by decide)
        have hK := (hK.x hRo hno hX).upI (upI e15) (by decide) (by decide) (fun i hi => by have := (hRo.l87.2.2.2.2 i hi).2.1; omega) (by rw [e15, upd2_ne (.inr (by decide))]; exact Int.le_refl _)
        have hth : I15 83 0 = Int32.ofInt (2) := by rw [e15, upd2_self]
        have hzz : ySz8 I7 I15 := ySz8_of (upI e15) (by rw [e15]; exact ⟨upd2_ne (.inr (by decide)), upd2_ne (.inr (by decide))⟩)
        have hB := (hB.trans hX).wr e15 rfl
        have h8 : ∀ a, 84 ≤ a → a ≤ 86 → I15 a = I a := fun a h1 h2 => (upI e15 a (by omega)).trans ((hX.2.1 a (by omega)).2.1.trans (h8 a h1 h2))
        have h3k : ∀ k, k ≠ 0 → I15 83 k = I 83 k := fun k hk => (congrFun (congrFun e15 83) k).trans ((upd2_ne (.inr hk)).trans ((congrFun (hX.2.1 83 (by omega)).2.1 k).trans (h3k k hk)))
        have hg := (hg.gx hX (by omega)).skip e15 (by decide)
        have hday : I15 83 1 = I 83 1 := (congrFun (congrFun e15 83) 1).trans ((upd2_ne (.inr (by decide))).trans ((congrFun (hX.2.1 83 (by omega)).2.1 1).trans hday))
        have hRb : ∀ a, a < n → R a = R a := fun a ha => (hX.2.1 a (by omega)).2.2.trans (hRb a ha)
        have hb83 : ∀ a, a ≠ 83 → a < n → I15 a = I a := fun a ha hb => (upI e15 a ha).trans ((hX.2.1 a (by omega)).2.1.trans (hb83 a ha hb))
        have hS0 := hS
        have hR0 := hR1
        have hn := Nat.le_refl n
        have h94 := hS0.1
        have hX := @yX.rf n tg I15 R
        have hS := hS0.x hX
        have hR := hR0.x hn hX
        have hz := hX.sz h94
        have hxn := hX.1
        have hN := hR0.1
        have hnb := hR0.2.2.2.2.2.2
        have hthB := hth
        refine y_aload_n rfl rfl ?_
        refine y_getIv (v := Int32.ofInt (2)) rfl (ySh.t hS rfl) (ySh.n hS rfl) rfl rfl hth ?_
        refine y_if_leF rfl (by decide) ?_
        refine y_iconst rfl ?_
        refine y_goto rfl j_X14_refuse_28 ?_
        refine y_ireturn rfl rfl rfl ?_
        refine y_ret1 ?_
        refine y_if_eqF rfl (by decide) ?_
        refine y_iconst rfl ?_
        refine y_ireturn rfl rfl rfl ?_
        exact hQ2 (by omega) _ _ _ _ _ _ _ hS ((hR0.grow hX).up (Nat.le_succ K) hk6) (hK.x hRo hno hX) hth ((hB.trans hX).rf2 (by omega)) (by omega) (by omega)
    · refine y_iconst rfl ?_
      refine y_goto rfl j_X14_invest_22 ?_
      refine y_iconst rfl ?_
      refine y_virt rfl rfl rfl rfl rfl (ySh.t hS rfl) (ySh.n hS rfl) ?_
      refine y_in (M := xm_X14_start) (ls := [some _, some _, some _]) rfl rfl rfl ?_
      refine y_aload_n rfl rfl ?_
      refine y_iconst rfl ?_
      refine y_putI rfl (ySh.t hS rfl) (ySh.n hS rfl) rfl (Nat.le_of_ble_eq_true rfl) rfl rfl ?_
      refine y_nameI (fun I16 e16 => ?_)
      have hR1 := (hR0.grow hX).mod0 e16 (by decide) (by decide)
      have hK := (hK.x hRo hno hX).upI (upI e16) (by decide) (by decide) (fun i hi => by have := (hRo.l87.2.2.2.2 i hi).2.1; omega) (by rw [e16, upd2_ne (.inr (by decide))]; exact Int.le_refl _)
      have hth : I16 83 0 = Int32.ofInt (0) := by rw [e16, upd2_self]
      have hzz : ySz8 I I16 := ySz8_of (upI e16) (by rw [e16]; exact ⟨upd2_ne (.inr (by decide)), upd2_ne (.inr (by decide))⟩)
      have hB := (hB.trans hX).wr e16 rfl
      have h8 : ∀ a, 84 ≤ a → a ≤ 86 → I16 a = I a := fun a h1 h2 => (upI e16 a (by omega)).trans ((hX.2.1 a (by omega)).2.1.trans (h8 a h1 h2))
      have h3k : ∀ k, k ≠ 0 → I16 83 k = I 83 k := fun k hk => (congrFun (congrFun e16 83) k).trans ((upd2_ne (.inr hk)).trans ((congrFun (hX.2.1 83 (by omega)).2.1 k).trans (h3k k hk)))
      have hg := (hg.gx hX (by omega)).skip e16 (by decide)
      have hday : I16 83 1 = I 83 1 := (congrFun (congrFun e16 83) 1).trans ((upd2_ne (.inr (by decide))).trans ((congrFun (hX.2.1 83 (by omega)).2.1 1).trans hday))
      have hRb : ∀ a, a < n → R a = R a := fun a ha => (hX.2.1 a (by omega)).2.2.trans (hRb a ha)
      have hb83 : ∀ a, a ≠ 83 → a < n → I16 a = I a := fun a ha hb => (upI e16 a ha).trans ((hX.2.1 a (by omega)).2.1.trans (hb83 a ha hb))
      have hS0 := hS
      have hR0 := hR1
      have hn := Nat.le_refl n
      have h94 := hS0.1
      have hX := @yX.rf n tg I16 R
      have hS := hS0.x hX
      have hR := hR0.x hn hX
      have hz := hX.sz h94
      have hxn := hX.1
      have hN := hR0.1
      have hnb := hR0.2.2.2.2.2.2
      have hthB := hth
      refine y_aload_n rfl rfl ?_
      refine y_iload_n rfl rfl ?_
      refine y_iload_n rfl rfl ?_
      refine y_virt rfl rfl rfl rfl rfl (ySh.t hS rfl) (ySh.n hS rfl) ?_
      refine y_in (M := xm_X14_refuse) (ls := [some _, some _, some _]) rfl rfl rfl ?_
      refine y_iload_n rfl rfl ?_
      refine y_if_eqF rfl (by decide) ?_
      refine y_aload_n rfl rfl ?_
      refine y_getIv (v := Int32.ofInt (0)) rfl (ySh.t hS rfl) (ySh.n hS rfl) rfl rfl hth ?_
      refine y_if_neF rfl (by decide) ?_
      refine y_aload_n rfl rfl ?_
      refine y_iload_n rfl rfl ?_
      refine y_putI rfl (ySh.t hS rfl) (ySh.n hS rfl) rfl (Nat.le_of_ble_eq_true rfl) rfl rfl ?_
      refine y_nameI (fun I17 e17 => ?_)
      have hR1 := (hR0.grow hX).mod0 e17 (by decide) (by decide)
      have hK := (hK.x hRo hno hX).upI (upI e17) (by decide) (by decide) (fun i hi => by have := (hRo.l87.2.2.2.2 i hi).2.1; omega) (by rw [e17, upd2_ne (.inr (by decide))]; exact Int.le_refl _)
      have hth : I17 83 0 = Int32.ofInt (1) := by rw [e17, upd2_self]
      have hzz : ySz8 I16 I17 := ySz8_of (upI e17) (by rw [e17]; exact ⟨upd2_ne (.inr (by decide)), upd2_ne (.inr (by decide))⟩)
      have hB := (hB.trans hX).wr e17 rfl
      have h8 : ∀ a, 84 ≤ a → a ≤ 86 → I17 a = I a := fun a h1 h2 => (upI e17 a (by omega)).trans ((hX.2.1 a (by omega)).2.1.trans (h8 a h1 h2))
      have h3k : ∀ k, k ≠ 0 → I17 83 k = I 83 k := fun k hk => (congrFun (congrFun e17 83) k).trans ((upd2_ne (.inr hk)).trans ((congrFun (hX.2.1 83 (by omega)).2.1 k).trans (h3k k hk)))
      have hg := (hg.gx hX (by omega)).skip e17 (by decide)
      have hday : I17 83 1 = I 83 1 := (congrFun (congrFun e17 83) 1).trans ((upd2_ne (.inr (by decide))).trans ((congrFun (hX.2.1 83 (by omega)).2.1 1).trans hday))
      have hRb : ∀ a, a < n → R a = R a := fun a ha => (hX.2.1 a (by omega)).2.2.trans (hRb a ha)
      have hb83 : ∀ a, a ≠ 83 → a < n → I17 a = I a := fun a ha hb => (upI e17 a ha).trans ((hX.2.1 a (by omega)).2.1.trans (hb83 a ha hb))
      have hS0 := hS
      have hR0 := hR1
      have hn := Nat.le_refl n
      have h94 := hS0.1
      have hX := @yX.rf n tg I17 R
      have hS := hS0.x hX
      have hR := hR0.x hn hX
      have hz := hX.sz h94
      have hxn := hX.1
      have hN := hR0.1
      have hnb := hR0.2.2.2.2.2.2
      have hthB := hth
      refine y_aload_n rfl rfl ?_
      refine y_getIv (v := Int32.ofInt (1)) rfl (ySh.t hS rfl) (ySh.n hS rfl) rfl rfl hth ?_
      refine y_if_leF rfl (by decide) ?_
      refine y_iconst rfl ?_
      refine y_goto rfl j_X14_refuse_28 ?_
      refine y_ireturn rfl rfl rfl ?_
      refine y_ret1 ?_
      refine y_ireturn rfl rfl rfl ?_
      refine y_ret1 ?_
      refine y_if_neT rfl j_X14_invest_53 (by decide) ?_
      refine y_iconst rfl ?_
      refine y_ireturn rfl rfl rfl ?_
      exact hQ1 (by omega) _ _ _ _ _ _ _ hS ((hR0.grow hX).up (Nat.le_succ K) hk6) (hK.x hRo hno hX) hth ((hB.trans hX).rf2 (by omega)) (by omega) (by omega)
theorem h_dividend (hS0 : ySh n tg R) (hR0 : yRI K n tg I R) (hk6 : K < 600) {x1 x2 : Int32} (hQ1 : ¬ (0 ≤ x1.toInt ∧ x1.toInt < (I 92 2).toInt) → ∀ (v : Int32) n1 tg1 I1 R1 c1 s1, ySh n1 tg1 R1 → yRI (K + 1) n1 tg1 I1 R1 → yKp n tg I R n1 tg1 I1 R1 → I1 83 0 = Int32.ofInt 1 → yRf n I R I1 R1 → c1 ≤ c + 0 → s1 ≤ s + 0 → Q (.inl (some (.int v))) (n1, tg1, I1, R1) c1 s1) (hQ2 : (0 ≤ x1.toInt ∧ x1.toInt < (I 92 2).toInt) ∧ ¬ (0 ≤ x2.toInt ∧ x2.toInt ≤ 999) → ∀ (v : Int32) n1 tg1 I1 R1 c1 s1, ySh n1 tg1 R1 → yRI (K + 1) n1 tg1 I1 R1 → yKp n tg I R n1 tg1 I1 R1 → I1 83 0 = Int32.ofInt 2 → yRf n I R I1 R1 → c1 ≤ c + 0 → s1 ≤ s + 0 → Q (.inl (some (.int v))) (n1, tg1, I1, R1) c1 s1) (hQ3 : (0 ≤ x1.toInt ∧ x1.toInt < (I 92 2).toInt) ∧ (0 ≤ x2.toInt ∧ x2.toInt ≤ 999) ∧ ¬ ((I 83 7 >>> (x1 &&& 31)) &&& Int32.ofInt 1).toInt = 1 → ∀ (v : Int32) n1 tg1 I1 R1 c1 s1, ySh n1 tg1 R1 → yRI (K + 1) n1 tg1 I1 R1 → yKp n tg I R n1 tg1 I1 R1 → I1 83 0 = Int32.ofInt 3 → yRf n I R I1 R1 → c1 ≤ c + 0 → s1 ≤ s + 0 → Q (.inl (some (.int v))) (n1, tg1, I1, R1) c1 s1) (hQ0 : ∀ b, b = yAd R 92 x1.toInt.toNat → ∀ t : Int32, t = mTnt (I b 0) (I b 3) x2 → (0 ≤ x1.toInt ∧ x1.toInt < (I 92 2).toInt) ∧ (0 ≤ x2.toInt ∧ x2.toInt ≤ 999) ∧ ((I 83 7 >>> (x1 &&& 31)) &&& Int32.ofInt 1).toInt = 1 → ∀ (v : Int32) n1 tg1 I1 R1 c1 s1, ySh n1 tg1 R1 → yRI (K + 1) n1 tg1 I1 R1 → yKp n tg I R n1 tg1 I1 R1 → I1 83 0 = Int32.ofInt 0 → v = t → yX n tg (upd2 (upd2 (upd2 (upd2 I 83 0 (Int32.ofInt 0)) b 6 (I b 6 + t)) 83 2 (I 83 2 + t)) 84 8 (I 84 8 + (x2 - t))) R n1 tg1 I1 R1 → c1 ≤ c + 0 → s1 ≤ s + 0 → Q (.inl (some (.int v))) (n1, tg1, I1, R1) c1 s1) : yC 224 [.ref 83, .int x1, .int x2] (n, tg, I, R) c s Q := by
  have hno := Nat.le_refl n
  have hn := hno
  have hRo := hR0
  have hK : yKp n tg I R n tg I R := yKp.rf
  have hX : yX n tg I R n tg I R := yX.rf
  have hS := hS0
  have hR := hR0
  have h94 : 94 ≤ n := hS0.1
  have hz : ySz I I := hX.sz h94
  have hxn := hX.1
  have hN := hR0.1
  have hnb : 94 ≤ n := hR0.2.2.2.2.2.2
  have hg : yGm n I I := yGm.rf
  have hday : I 83 1 = I 83 1 := rfl
  have hb83 : ∀ a, a ≠ 83 → a < n → I a = I a := fun _ _ _ => rfl
  have hRb : ∀ a, a < n → R a = R a := fun _ _ => rfl
  have hB : yX n tg I R n tg I R := yX.rf
  have h8 : ∀ a, 84 ≤ a → a ≤ 86 → I a = I a := fun _ _ _ => rfl
  have h3k : ∀ k, k ≠ 0 → I 83 k = I 83 k := fun _ _ => rfl
  refine y_in (M := xm_X14_dividend) (ls := [some _, some _, some _, _, _]) rfl rfl rfl ?_
  refine y_aload_n rfl rfl ?_
  refine y_iload_n rfl rfl ?_
  refine y_iconst rfl ?_
  refine y_aload_n rfl rfl ?_
  refine y_getR rfl (ySh.t hS rfl) (ySh.n hS rfl) rfl rfl (ySh.r hS rfl) ?_
  refine y_virt rfl rfl rfl rfl rfl (ySh.t hS rfl) (ySh.n hS rfl) ?_
  refine y_in (M := xm_Jx4a65c_size_8abf5) (ls := [some _]) rfl rfl rfl ?_
  refine y_aload_n rfl rfl ?_
  refine y_getI rfl (ySh.t hS rfl) (ySh.n hS rfl) rfl rfl ?_
  refine y_ireturn rfl rfl rfl ?_
  refine y_ret1 ?_
  refine y_iconst rfl ?_
  refine y_isub rfl ?_
  refine y_static rfl rfl rfl rfl rfl ?_
  refine r_isIn (fun h_1 h_2 => ?_) (fun h_3 => ?_)
  · rw [yz_0] at h_1
    try rw [ysub (by rw [yz_1]; omega) (by rw [yz_1]; omega), yz_1] at h_2
    refine y_ret1 ?_
    refine y_if_neT rfl j_X14_dividend_22 (by decide) ?_
    refine y_iconst rfl ?_
    refine y_iconst rfl ?_
    refine y_virt rfl rfl rfl rfl rfl (ySh.t hS rfl) (ySh.n hS rfl) ?_
    refine y_in (M := xm_X14_start) (ls := [some _, some _, some _]) rfl rfl rfl ?_
    refine y_aload_n rfl rfl ?_
    refine y_iconst rfl ?_
    refine y_putI rfl (ySh.t hS rfl) (ySh.n hS rfl) rfl (Nat.le_of_ble_eq_true rfl) rfl rfl ?_
    refine y_nameI (fun I4 e4 => ?_)
    have hR1 := (hR0.grow hX).mod0 e4 (by decide) (by decide)
    have hK := (hK.x hRo hno hX).upI (upI e4) (by decide) (by decide) (fun i hi => by have := (hRo.l87.2.2.2.2 i hi).2.1; omega) (by rw [e4, upd2_ne (.inr (by decide))]; exact Int.le_refl _)
    have hth : I4 83 0 = Int32.ofInt (0) := by rw [e4, upd2_self]
    have hzz : ySz8 I I4 := ySz8_of (upI e4) (by rw [e4]; exact ⟨upd2_ne (.inr (by decide)), upd2_ne (.inr (by decide))⟩)
    have hB := (hB.trans hX).wr e4 rfl
    have h8 : ∀ a, 84 ≤ a → a ≤ 86 → I4 a = I a := fun a h1 h2 => (upI e4 a (by omega)).trans ((hX.2.1 a (by omega)).2.1.trans (h8 a h1 h2))
    have h3k : ∀ k, k ≠ 0 → I4 83 k = I 83 k := fun k hk => (congrFun (congrFun e4 83) k).trans ((upd2_ne (.inr hk)).trans ((congrFun (hX.2.1 83 (by omega)).2.1 k).trans (h3k k hk)))
    have hg := (hg.gx hX (by omega)).skip e4 (by decide)
    have hday : I4 83 1 = I 83 1 := (congrFun (congrFun e4 83) 1).trans ((upd2_ne (.inr (by decide))).trans ((congrFun (hX.2.1 83 (by omega)).2.1 1).trans hday))
    have hRb : ∀ a, a < n → R a = R a := fun a ha => (hX.2.1 a (by omega)).2.2.trans (hRb a ha)
    have hb83 : ∀ a, a ≠ 83 → a < n → I4 a = I a := fun a ha hb => (upI e4 a ha).trans ((hX.2.1 a (by omega)).2.1.trans (hb83 a ha hb))
    have hS0 := hS
    have hR0 := hR1
    have hn := Nat.le_refl n
    have h94 := hS0.1
    have hX := @yX.rf n tg I4 R
    have hS := hS0.x hX
    have hR := hR0.x hn hX
    have hz := hX.sz h94
    have hxn := hX.1
    have hN := hR0.1
    have hnb := hR0.2.2.2.2.2.2
    have hthB := hth
    refine y_aload_n rfl rfl ?_
    refine y_iload_n rfl rfl ?_
    refine y_iload_n rfl rfl ?_
    refine y_virt rfl rfl rfl rfl rfl (ySh.t hS rfl) (ySh.n hS rfl) ?_
    refine y_in (M := xm_X14_refuse) (ls := [some _, some _, some _]) rfl rfl rfl ?_
    refine y_iload_n rfl rfl ?_
    refine y_if_eqT rfl j_X14_refuse_16 (by decide) ?_
    refine y_aload_n rfl rfl ?_
    refine y_getIv (v := Int32.ofInt (0)) rfl (ySh.t hS rfl) (ySh.n hS rfl) rfl rfl hth ?_
    refine y_if_leT rfl j_X14_refuse_27 (by decide) ?_
    refine y_iconst rfl ?_
    refine y_ireturn rfl rfl rfl ?_
    refine y_ret1 ?_
    refine y_ireturn rfl rfl rfl ?_
    refine y_ret1 ?_
    refine y_if_neF rfl (by decide) ?_
    refine y_aload_n rfl rfl ?_
    refine y_iload_n rfl rfl ?_
    refine y_iconst rfl ?_
    refine y_sip rfl (by decide) ?_
    refine y_static rfl rfl rfl rfl rfl ?_
    refine r_isIn (fun h_5 h_6 => ?_) (fun h_7 => ?_)
    · rw [yz_0] at h_5
      rw [yz_999] at h_6
      refine y_ret1 ?_
      refine y_if_neT rfl j_X14_dividend_46 (by decide) ?_
      refine y_iconst rfl ?_
      refine y_iconst rfl ?_
      refine y_virt rfl rfl rfl rfl rfl (ySh.t hS rfl) (ySh.n hS rfl) ?_
      refine y_in (M := xm_X14_refuse) (ls := [some _, some _, some _]) rfl rfl rfl ?_
      refine y_iload_n rfl rfl ?_
      refine y_if_eqT rfl j_X14_refuse_16 (by decide) ?_
      refine y_aload_n rfl rfl ?_
      refine y_getIv (v := Int32.ofInt (0)) rfl (ySh.t hS rfl) (ySh.n hS rfl) rfl rfl hth ?_
      refine y_if_leT rfl j_X14_refuse_27 (by decide) ?_
      refine y_iconst rfl ?_
      refine y_ireturn rfl rfl rfl ?_
      refine y_ret1 ?_
      refine y_if_neF rfl (by decide) ?_
      refine y_aload_n rfl rfl ?_
      refine y_aload_n rfl rfl ?_
      refine y_getIv (v := I 83 7) rfl (ySh.t hS rfl) (ySh.n hS rfl) rfl rfl ((congrFun ((hB.trans hX).n (by omega : 83 < n)) 7).trans (by repeat (first | rfl | rw [upd2_ne (by first | exact .inl (by omega) | exact .inr (by decide))]))) ?_
      refine y_iload_n rfl rfl ?_
      refine y_static rfl rfl rfl rfl rfl ?_
      refine y_in (M := xm_X14_has) (ls := [some _, some _]) rfl rfl rfl ?_
      refine y_iload_n rfl rfl ?_
      refine y_iload_n rfl rfl ?_
      refine y_ishr rfl ?_
      refine y_iconst rfl ?_
      refine y_iand rfl ?_
      refine y_iconst rfl ?_
      refine y_icmp_ne rfl j_X14_has_13 (fun h_8 => ?_) (fun h_9 => ?_)
      · rw [yz_1] at h_8
        refine y_iconst rfl ?_
        refine y_ireturn rfl rfl rfl ?_
        refine y_ret1 ?_
        refine y_if_neF rfl (by decide) ?_
        refine y_iconst rfl ?_
        refine y_goto rfl j_X14_dividend_71 ?_
        refine y_iconst rfl ?_
        refine y_virt rfl rfl rfl rfl rfl (ySh.t hS rfl) (ySh.n hS rfl) ?_
        refine y_in (M := xm_X14_refuse) (ls := [some _, some _, some _]) rfl rfl rfl ?_
        refine y_iload_n rfl rfl ?_
        refine y_if_eqF rfl (by decide) ?_
        refine y_aload_n rfl rfl ?_
        refine y_getIv (v := Int32.ofInt (0)) rfl (ySh.t hS rfl) (ySh.n hS rfl) rfl rfl hth ?_
        refine y_if_neF rfl (by decide) ?_
        refine y_aload_n rfl rfl ?_
        refine y_iload_n rfl rfl ?_
        refine y_putI rfl (ySh.t hS rfl) (ySh.n hS rfl) rfl (Nat.le_of_ble_eq_true rfl) rfl rfl ?_
        refine y_nameI (fun I10 e10 => ?_)
        have hR1 := (hR0.grow hX).mod0 e10 (by decide) (by decide)
        have hK := (hK.x hRo hno hX).upI (upI e10) (by decide) (by decide) (fun i hi => by have := (hRo.l87.2.2.2.2 i hi).2.1; omega) (by rw [e10, upd2_ne (.inr (by decide))]; exact Int.le_refl _)
        have hth : I10 83 0 = Int32.ofInt (3) := by rw [e10, upd2_self]
        have hzz : ySz8 I4 I10 := ySz8_of (upI e10) (by rw [e10]; exact ⟨upd2_ne (.inr (by decide)), upd2_ne (.inr (by decide))⟩)
        have hB := (hB.trans hX).wr e10 rfl
        have h8 : ∀ a, 84 ≤ a → a ≤ 86 → I10 a = I a := fun a h1 h2 => (upI e10 a (by omega)).trans ((hX.2.1 a (by omega)).2.1.trans (h8 a h1 h2))
        have h3k : ∀ k, k ≠ 0 → I10 83 k = I 83 k := fun k hk => (congrFun (congrFun e10 83) k).trans ((upd2_ne (.inr hk)).trans ((congrFun (hX.2.1 83 (by omega)).2.1 k).trans (h3k k hk)))
        have hg := (hg.gx hX (by omega)).skip e10 (by decide)
        have hday : I10 83 1 = I 83 1 := (congrFun (congrFun e10 83) 1).trans ((upd2_ne (.inr (by decide))).trans ((congrFun (hX.2.1 83 (by omega)).2.1 1).trans hday))
        have hRb : ∀ a, a < n → R a = R a := fun a ha => (hX.2.1 a (by omega)).2.2.trans (hRb a ha)
        have hb83 : ∀ a, a ≠ 83 → a < n → I10 a = I a := fun a ha hb => (upI e10 a ha).trans ((hX.2.1 a (by omega)).2.1.trans (hb83 a ha hb))
        have hS0 := hS
        have hR0 := hR1
        have hn := Nat.le_refl n
        have h94 := hS0.1
        have hX := @yX.rf n tg I10 R
        have hS := hS0.x hX
        have hR := hR0.x hn hX
        have hz := hX.sz h94
        have hxn := hX.1
        have hN := hR0.1
        have hnb := hR0.2.2.2.2.2.2
        have hthB := hth
        refine y_aload_n rfl rfl ?_
        refine y_getIv (v := Int32.ofInt (3)) rfl (ySh.t hS rfl) (ySh.n hS rfl) rfl rfl hth ?_
        refine y_if_leF rfl (by decide) ?_
        refine y_iconst rfl ?_
        refine y_goto rfl j_X14_refuse_28 ?_
        refine y_ireturn rfl rfl rfl ?_
        refine y_ret1 ?_
        refine y_if_eqF rfl (by decide) ?_
        refine y_iconst rfl ?_
        refine y_ireturn rfl rfl rfl ?_
        exact hQ3 (by omega) _ _ _ _ _ _ _ hS ((hR0.grow hX).up (Nat.le_succ K) hk6) (hK.x hRo hno hX) hth ((hB.trans hX).rf2 (by omega)) (by omega) (by omega)
      · rw [yz_1] at h_9
        refine y_iconst rfl ?_
        refine y_goto rfl j_X14_has_14 ?_
        refine y_ireturn rfl rfl rfl ?_
        refine y_ret1 ?_
        refine y_if_neT rfl j_X14_dividend_70 (by decide) ?_
        refine y_iconst rfl ?_
        refine y_iconst rfl ?_
        refine y_virt rfl rfl rfl rfl rfl (ySh.t hS rfl) (ySh.n hS rfl) ?_
        refine y_in (M := xm_X14_refuse) (ls := [some _, some _, some _]) rfl rfl rfl ?_
        refine y_iload_n rfl rfl ?_
        refine y_if_eqT rfl j_X14_refuse_16 (by decide) ?_
        refine y_aload_n rfl rfl ?_
        refine y_getIv (v := Int32.ofInt (0)) rfl (ySh.t hS rfl) (ySh.n hS rfl) rfl rfl hth ?_
        refine y_if_leT rfl j_X14_refuse_27 (by decide) ?_
        refine y_iconst rfl ?_
        refine y_ireturn rfl rfl rfl ?_
        refine y_ret1 ?_
        refine y_if_eqT rfl j_X14_dividend_80 (by decide) ?_
        refine y_aload_n rfl rfl ?_
        refine y_getR rfl (ySh.t hS rfl) (ySh.n hS rfl) rfl rfl (ySh.r hS rfl) ?_
        refine y_iload_n rfl rfl ?_
        refine y_virt rfl rfl rfl rfl rfl (ySh.t hS rfl) (ySh.n hS rfl) ?_
        refine l_get (nb := n) (ySh.t hS rfl) (ySh.n hS rfl) (Nat.le_trans hn hX.1) hR.l92 (by omega) (by omega) (fun b11 eb_b11 hlo_b11 hb0_b11 ht_b11 => ?_)
        have hb_b11 := Nat.lt_of_lt_of_le hb0_b11 hn
        replace ht_b11 := (hX.2.1 _ hb_b11).1.symm.trans ht_b11
        have hw_b11 := hR.frm eb_b11 (by omega)
        rw [(hg.gx hX (by omega)) _ hlo_b11 (by omega)] at hw_b11
        refine y_ret1 ?_
        refine y_castA rfl rfl ((hX.2.1 _ hb_b11).1.trans ht_b11) rfl (Nat.lt_of_lt_of_le hb_b11 hX.1) ?_
        refine y_astore_n (ls' := [some _, some _, some _, some _, _]) rfl rfl rfl ?_
        refine y_iload_n rfl rfl ?_
        refine y_iload_n rfl rfl ?_
        refine y_aload_n rfl rfl ?_
        refine y_iconst rfl ?_
        refine y_ialoadw (j := 3) (J := I b11) rfl ((hX.2.1 _ hb_b11).1.trans ht_b11) (Nat.lt_of_lt_of_le hb_b11 hX.1) (by decide) (by decide) rfl (((hB.trans hX).n (by omega)).trans (by repeat (first | rfl | (rw [upd2_row (by first | decide | omega)]) | refine upd2_cg ?_))) ?_
        refine y_imul rfl ?_
        refine y_aload_n rfl rfl ?_
        refine y_iconst rfl ?_
        refine y_ialoadw (j := 0) (J := I b11) rfl ((hX.2.1 _ hb_b11).1.trans ht_b11) (Nat.lt_of_lt_of_le hb_b11 hX.1) (by decide) (by decide) rfl (((hB.trans hX).n (by omega)).trans (by repeat (first | rfl | (rw [upd2_row (by first | decide | omega)]) | refine upd2_cg ?_))) ?_
        refine y_iadd rfl ?_
        refine y_iconst rfl ?_
        refine y_isub rfl ?_
        refine y_aload_n rfl rfl ?_
        refine y_iconst rfl ?_
        refine y_ialoadw (j := 0) (J := I b11) rfl ((hX.2.1 _ hb_b11).1.trans ht_b11) (Nat.lt_of_lt_of_le hb_b11 hX.1) (by decide) (by decide) rfl (((hB.trans hX).n (by omega)).trans (by repeat (first | rfl | (rw [upd2_row (by first | decide | omega)]) | refine upd2_cg ?_))) ?_
        refine y_idiv rfl (i32ne (by show _ ≠ (0 : Int); omega)) ?_
        refine y_min rfl rfl ?_
        refine y_istore (ls' := [some _, some _, some _, some _, some _]) rfl rfl rfl ?_
        refine y_aload_n rfl rfl ?_
        refine y_bip rfl (by decide) ?_
        refine y_dup2 rfl rfl rfl ?_
        refine y_ialoadw (j := 6) (J := I b11) rfl ((hX.2.1 _ hb_b11).1.trans ht_b11) (Nat.lt_of_lt_of_le hb_b11 hX.1) (by decide) (by decide) rfl (((hB.trans hX).n (by omega)).trans (by repeat (first | rfl | (rw [upd2_row (by first | decide | omega)]) | refine upd2_cg ?_))) ?_
        refine y_iload rfl rfl ?_
        refine y_iadd rfl ?_
        refine y_iastoreC (j := 6) rfl ((hX.2.1 _ hb_b11).1.trans ht_b11) (Nat.lt_of_lt_of_le hb_b11 hX.1) (Nat.le_trans (by decide) (by omega : 94 ≤ _)) (by decide) (by decide) rfl ?_
        refine y_nameI (fun I12 e12 => ?_)
        have hR1 := (hR0.grow hX).upF e12 hlo_b11 ((hX.2.1 _ hb_b11).1.trans ht_b11) (by decide)
        have hK := (hK.x hRo hno hX).upE hRo hno (upI e12) (by omega) (by omega) (by rw [((hX.2.1 _ hb_b11).1.trans ht_b11)]; decide) (by rw [e12, upd2_ne (.inl (by omega))]; exact Int.le_refl _)
        have hth := (show I12 83 0 = I4 83 0 by rw [e12, upd2_ne (.inl (by omega))]).trans hth
        have hzz : ySz I4 I12 := ySz_ofE (upI e12) (by omega)
        have hB := (hB.trans hX).wr e12 rfl
        have h8 : ∀ a, 84 ≤ a → a ≤ 86 → I12 a = I a := fun a h1 h2 => (upI e12 a (by omega)).trans ((hX.2.1 a (by omega)).2.1.trans (h8 a h1 h2))
        have h3k : ∀ k, k ≠ 0 → I12 83 k = I 83 k := fun k hk => (congrFun (congrFun e12 83) k).trans ((upd2_ne (.inl (by omega))).trans ((congrFun (hX.2.1 83 (by omega)).2.1 k).trans (h3k k hk)))
        have hg := (hg.gx hX (by omega)).both e12
        have hday : I12 83 1 = I 83 1 := (congrFun (congrFun e12 83) 1).trans ((upd2_ne (.inl (by omega))).trans ((congrFun (hX.2.1 83 (by omega)).2.1 1).trans hday))
        have hRb : ∀ a, a < n → R a = R a := fun a ha => (hX.2.1 a (by omega)).2.2.trans (hRb a ha)
        have hS0 := hS
        have hR0 := hR1
        have ht_b11 := (hX.2.1 _ hb_b11).1.trans ht_b11
        have hb_b11 := Nat.lt_of_lt_of_le hb_b11 hX.1
        have hb0_b11 := hb_b11
        have hn := Nat.le_refl n
        have h94 := hS0.1
        have hX := @yX.rf n tg I12 R
        have hS := hS0.x hX
        have hR := hR0.x hn hX
        have hz := hX.sz h94
        have hxn := hX.1
        have hN := hR0.1
        have hnb := hR0.2.2.2.2.2.2
        have hthB := hth
        refine y_aload_n rfl rfl ?_
        refine y_dup rfl rfl ?_
        refine y_getIv (v := I 83 2) rfl (ySh.t hS rfl) (ySh.n hS rfl) rfl rfl ((congrFun ((hB.trans hX).n (by omega : 83 < n)) 2).trans (by repeat (first | rfl | rw [upd2_ne (by first | exact .inl (by omega) | exact .inr (by decide))]))) ?_
        refine y_iload rfl rfl ?_
        refine y_iadd rfl ?_
        refine y_putI rfl (ySh.t hS rfl) (ySh.n hS rfl) rfl (Nat.le_of_ble_eq_true rfl) rfl rfl ?_
        refine y_nameI (fun I13 e13 => ?_)
        have hR1 := (hR0.grow hX).mod0 e13 (by decide) (by decide)
        have hK := (hK.x hRo hno hX).upI (upI e13) (by decide) (by decide) (fun i hi => by have := (hRo.l87.2.2.2.2 i hi).2.1; omega) (by rw [e13, upd2_ne (.inr (by decide))]; exact Int.le_refl _)
        have hth := (show I13 83 0 = I12 83 0 by rw [e13, upd2_ne (.inr (by decide))]).trans hth
        have hzz : ySz I12 I13 := ySz_ofM (upI e13) (by rw [e13]; exact ⟨upd2_ne (.inr (by decide)), upd2_ne (.inr (by decide)), upd2_ne (.inr (by decide))⟩)
        have hB := (hB.trans hX).wr e13 rfl
        have h8 : ∀ a, 84 ≤ a → a ≤ 86 → I13 a = I a := fun a h1 h2 => (upI e13 a (by omega)).trans ((hX.2.1 a (by omega)).2.1.trans (h8 a h1 h2))
        have hg := (hg.gx hX (by omega)).skip e13 (by decide)
        have hday : I13 83 1 = I 83 1 := (congrFun (congrFun e13 83) 1).trans ((upd2_ne (.inr (by decide))).trans ((congrFun (hX.2.1 83 (by omega)).2.1 1).trans hday))
        have hRb : ∀ a, a < n → R a = R a := fun a ha => (hX.2.1 a (by omega)).2.2.trans (hRb a ha)
        have hS0 := hS
        have hR0 := hR1
        have ht_b11 := (hX.2.1 _ hb_b11).1.trans ht_b11
        have hb_b11 := Nat.lt_of_lt_of_le hb_b11 hX.1
        have hb0_b11 := hb_b11
        have hn := Nat.le_refl n
        have h94 := hS0.1
        have hX := @yX.rf n tg I13 R
        have hS := hS0.x hX
        have hR := hR0.x hn hX
        have hz := hX.sz h94
        have hxn := hX.1
        have hN := hR0.1
        have hnb := hR0.2.2.2.2.2.2
        have hthB := hth
        refine y_aload_n rfl rfl ?_
        refine y_getR rfl (ySh.t hS rfl) (ySh.n hS rfl) rfl rfl (ySh.r hS rfl) ?_
        refine y_bip rfl (by decide) ?_
        refine y_dup2 rfl rfl rfl ?_
        refine y_ialoadw (j := 8) (J := I 84) rfl (ySh.t hS rfl) (ySh.n hS rfl) (by decide) (by decide) rfl (((hB.trans hX).n (by omega)).trans (by repeat (first | rfl | (rw [upd2_row (by first | decide | omega)]) | refine upd2_cg ?_))) ?_
        refine y_iload_n rfl rfl ?_
        refine y_iload rfl rfl ?_
        refine y_isub rfl ?_
        refine y_iadd rfl ?_
        refine y_iastoreC (j := 8) rfl (ySh.t hS rfl) (ySh.n hS rfl) (Nat.le_of_ble_eq_true rfl) (by decide) (by decide) rfl ?_
        refine y_nameI (fun I14 e14 => ?_)
        have hR1 := (hR0.grow hX).arr e14 (by decide)
        have hK := (hK.x hRo hno hX).upI (upI e14) (by decide) (by decide) (fun i hi => by have := (hRo.l87.2.2.2.2 i hi).2.1; omega) (by rw [e14, upd2_ne (.inl (by omega))]; exact Int.le_refl _)
        have hth := (show I14 83 0 = I13 83 0 by rw [e14, upd2_ne (.inl (by omega))]).trans hth
        have hzz : ySz I13 I14 := ySz_ofE (upI e14) (by omega)
        have hB := (hB.trans hX).wr e14 rfl
        have hg := (hg.gx hX (by omega)).skip e14 (by decide)
        have hday : I14 83 1 = I 83 1 := (congrFun (congrFun e14 83) 1).trans ((upd2_ne (.inl (by omega))).trans ((congrFun (hX.2.1 83 (by omega)).2.1 1).trans hday))
        have hRb : ∀ a, a < n → R a = R a := fun a ha => (hX.2.1 a (by omega)).2.2.trans (hRb a ha)
        have hS0 := hS
        have hR0 := hR1
        have ht_b11 := (hX.2.1 _ hb_b11).1.trans ht_b11
        have hb_b11 := Nat.lt_of_lt_of_le hb_b11 hX.1
        have hb0_b11 := hb_b11
        have hn := Nat.le_refl n
        have h94 := hS0.1
        have hX := @yX.rf n tg I14 R
        have hS := hS0.x hX
        have hR := hR0.x hn hX
        have hz := hX.sz h94
        have hxn := hX.1
        have hN := hR0.1
        have hnb := hR0.2.2.2.2.2.2
        have hthB := hth
        refine y_iload rfl rfl ?_
        refine y_ireturn rfl rfl rfl ?_
        exact hQ0 _ eb_b11 _ (show _ = mTnt _ _ x2 by unfold mTnt yMnn; rfl) (by omega) _ _ _ _ _ _ _ hS ((hR0.grow hX).up (Nat.le_succ K) hk6) (hK.x hRo hno hX) hth rfl (hB.trans hX) (by omega) (by omega)
    · rw [yz_0] at h_7
      rw [yz_999] at h_7
      refine y_ret1 ?_
      refine y_if_neF rfl (by decide) ?_
      refine y_iconst rfl ?_
      refine y_goto rfl j_X14_dividend_47 ?_
      refine y_iconst rfl ?_
      refine y_virt rfl rfl rfl rfl rfl (ySh.t hS rfl) (ySh.n hS rfl) ?_
      refine y_in (M := xm_X14_refuse) (ls := [some _, some _, some _]) rfl rfl rfl ?_
      refine y_iload_n rfl rfl ?_
      refine y_if_eqF rfl (by decide) ?_
      refine y_aload_n rfl rfl ?_
      refine y_getIv (v := Int32.ofInt (0)) rfl (ySh.t hS rfl) (ySh.n hS rfl) rfl rfl hth ?_
      refine y_if_neF rfl (by decide) ?_
      refine y_aload_n rfl rfl ?_
      refine y_iload_n rfl rfl ?_
      refine y_putI rfl (ySh.t hS rfl) (ySh.n hS rfl) rfl (Nat.le_of_ble_eq_true rfl) rfl rfl ?_
      refine y_nameI (fun I15 e15 => ?_)
      have hR1 := (hR0.grow hX).mod0 e15 (by decide) (by decide)
      have hK := (hK.x hRo hno hX).upI (upI e15) (by decide) (by decide) (fun i hi => by have := (hRo.l87.2.2.2.2 i hi).2.1; omega) (by rw [e15, upd2_ne (.inr (by decide))]; exact Int.le_refl _)
      have hth : I15 83 0 = Int32.ofInt (2) := by rw [e15, upd2_self]
      have hzz : ySz8 I4 I15 := ySz8_of (upI e15) (by rw [e15]; exact ⟨upd2_ne (.inr (by decide)), upd2_ne (.inr (by decide))⟩)
      have hB := (hB.trans hX).wr e15 rfl
      have h8 : ∀ a, 84 ≤ a → a ≤ 86 → I15 a = I a := fun a h1 h2 => (upI e15 a (by omega)).trans ((hX.2.1 a (by omega)).2.1.trans (h8 a h1 h2))
      have h3k : ∀ k, k ≠ 0 → I15 83 k = I 83 k := fun k hk => (congrFun (congrFun e15 83) k).trans ((upd2_ne (.inr hk)).trans ((congrFun (hX.2.1 83 (by omega)).2.1 k).trans (h3k k hk)))
      have hg := (hg.gx hX (by omega)).skip e15 (by decide)
      have hday : I15 83 1 = I 83 1 := (congrFun (congrFun e15 83) 1).trans ((upd2_ne (.inr (by decide))).trans ((congrFun (hX.2.1 83 (by omega)).2.1 1).trans hday))
      have hRb : ∀ a, a < n → R a = R a := fun a ha => (hX.2.1 a (by omega)).2.2.trans (hRb a ha)
      have hb83 : ∀ a, a ≠ 83 → a < n → I15 a = I a := fun a ha hb => (upI e15 a ha).trans ((hX.2.1 a (by omega)).2.1.trans (hb83 a ha hb))
      have hS0 := hS
      have hR0 := hR1
      have hn := Nat.le_refl n
      have h94 := hS0.1
      have hX := @yX.rf n tg I15 R
      have hS := hS0.x hX
      have hR := hR0.x hn hX
      have hz := hX.sz h94
      have hxn := hX.1
      have hN := hR0.1
      have hnb := hR0.2.2.2.2.2.2
      have hthB := hth
      refine y_aload_n rfl rfl ?_
      refine y_getIv (v := Int32.ofInt (2)) rfl (ySh.t hS rfl) (ySh.n hS rfl) rfl rfl hth ?_
      refine y_if_leF rfl (by decide) ?_
      refine y_iconst rfl ?_
      refine y_goto rfl j_X14_refuse_28 ?_
      refine y_ireturn rfl rfl rfl ?_
      refine y_ret1 ?_
      refine y_if_neT rfl j_X14_dividend_78 (by decide) ?_
      refine y_iconst rfl ?_
      refine y_ireturn rfl rfl rfl ?_
      exact hQ2 (by omega) _ _ _ _ _ _ _ hS ((hR0.grow hX).up (Nat.le_succ K) hk6) (hK.x hRo hno hX) hth ((hB.trans hX).rf2 (by omega)) (by omega) (by omega)
  · rw [yz_0] at h_3
    try rw [ysub (by rw [yz_1]; omega) (by rw [yz_1]; omega), yz_1] at h_3
    refine y_ret1 ?_
    refine y_if_neF rfl (by decide) ?_
    refine y_iconst rfl ?_
    refine y_goto rfl j_X14_dividend_23 ?_
    refine y_iconst rfl ?_
    refine y_virt rfl rfl rfl rfl rfl (ySh.t hS rfl) (ySh.n hS rfl) ?_
    refine y_in (M := xm_X14_start) (ls := [some _, some _, some _]) rfl rfl rfl ?_
    refine y_aload_n rfl rfl ?_
    refine y_iconst rfl ?_
    refine y_putI rfl (ySh.t hS rfl) (ySh.n hS rfl) rfl (Nat.le_of_ble_eq_true rfl) rfl rfl ?_
    refine y_nameI (fun I16 e16 => ?_)
    have hR1 := (hR0.grow hX).mod0 e16 (by decide) (by decide)
    have hK := (hK.x hRo hno hX).upI (upI e16) (by decide) (by decide) (fun i hi => by have := (hRo.l87.2.2.2.2 i hi).2.1; omega) (by rw [e16, upd2_ne (.inr (by decide))]; exact Int.le_refl _)
    have hth : I16 83 0 = Int32.ofInt (0) := by rw [e16, upd2_self]
    have hzz : ySz8 I I16 := ySz8_of (upI e16) (by rw [e16]; exact ⟨upd2_ne (.inr (by decide)), upd2_ne (.inr (by decide))⟩)
    have hB := (hB.trans hX).wr e16 rfl
    have h8 : ∀ a, 84 ≤ a → a ≤ 86 → I16 a = I a := fun a h1 h2 => (upI e16 a (by omega)).trans ((hX.2.1 a (by omega)).2.1.trans (h8 a h1 h2))
    have h3k : ∀ k, k ≠ 0 → I16 83 k = I 83 k := fun k hk => (congrFun (congrFun e16 83) k).trans ((upd2_ne (.inr hk)).trans ((congrFun (hX.2.1 83 (by omega)).2.1 k).trans (h3k k hk)))
    have hg := (hg.gx hX (by omega)).skip e16 (by decide)
    have hday : I16 83 1 = I 83 1 := (congrFun (congrFun e16 83) 1).trans ((upd2_ne (.inr (by decide))).trans ((congrFun (hX.2.1 83 (by omega)).2.1 1).trans hday))
    have hRb : ∀ a, a < n → R a = R a := fun a ha => (hX.2.1 a (by omega)).2.2.trans (hRb a ha)
    have hb83 : ∀ a, a ≠ 83 → a < n → I16 a = I a := fun a ha hb => (upI e16 a ha).trans ((hX.2.1 a (by omega)).2.1.trans (hb83 a ha hb))
    have hS0 := hS
    have hR0 := hR1
    have hn := Nat.le_refl n
    have h94 := hS0.1
    have hX := @yX.rf n tg I16 R
    have hS := hS0.x hX
    have hR := hR0.x hn hX
    have hz := hX.sz h94
    have hxn := hX.1
    have hN := hR0.1
    have hnb := hR0.2.2.2.2.2.2
    have hthB := hth
    refine y_aload_n rfl rfl ?_
    refine y_iload_n rfl rfl ?_
    refine y_iload_n rfl rfl ?_
    refine y_virt rfl rfl rfl rfl rfl (ySh.t hS rfl) (ySh.n hS rfl) ?_
    refine y_in (M := xm_X14_refuse) (ls := [some _, some _, some _]) rfl rfl rfl ?_
    refine y_iload_n rfl rfl ?_
    refine y_if_eqF rfl (by decide) ?_
    refine y_aload_n rfl rfl ?_
    refine y_getIv (v := Int32.ofInt (0)) rfl (ySh.t hS rfl) (ySh.n hS rfl) rfl rfl hth ?_
    refine y_if_neF rfl (by decide) ?_
    refine y_aload_n rfl rfl ?_
    refine y_iload_n rfl rfl ?_
    refine y_putI rfl (ySh.t hS rfl) (ySh.n hS rfl) rfl (Nat.le_of_ble_eq_true rfl) rfl rfl ?_
    refine y_nameI (fun I17 e17 => ?_)
    have hR1 := (hR0.grow hX).mod0 e17 (by decide) (by decide)
    have hK := (hK.x hRo hno hX).upI (upI e17) (by decide) (by decide) (fun i hi => by have := (hRo.l87.2.2.2.2 i hi).2.1; omega) (by rw [e17, upd2_ne (.inr (by decide))]; exact Int.le_refl _)
    have hth : I17 83 0 = Int32.ofInt (1) := by rw [e17, upd2_self]
    have hzz : ySz8 I16 I17 := ySz8_of (upI e17) (by rw [e17]; exact ⟨upd2_ne (.inr (by decide)), upd2_ne (.inr (by decide))⟩)
    have hB := (hB.trans hX).wr e17 rfl
    have h8 : ∀ a, 84 ≤ a → a ≤ 86 → I17 a = I a := fun a h1 h2 => (upI e17 a (by omega)).trans ((hX.2.1 a (by omega)).2.1.trans (h8 a h1 h2))
    have h3k : ∀ k, k ≠ 0 → I17 83 k = I 83 k := fun k hk => (congrFun (congrFun e17 83) k).trans ((upd2_ne (.inr hk)).trans ((congrFun (hX.2.1 83 (by omega)).2.1 k).trans (h3k k hk)))
    have hg := (hg.gx hX (by omega)).skip e17 (by decide)
    have hday : I17 83 1 = I 83 1 := (congrFun (congrFun e17 83) 1).trans ((upd2_ne (.inr (by decide))).trans ((congrFun (hX.2.1 83 (by omega)).2.1 1).trans hday))
    have hRb : ∀ a, a < n → R a = R a := fun a ha => (hX.2.1 a (by omega)).2.2.trans (hRb a ha)
    have hb83 : ∀ a, a ≠ 83 → a < n → I17 a = I a := fun a ha hb => (upI e17 a ha).trans ((hX.2.1 a (by omega)).2.1.trans (hb83 a ha hb))
    have hS0 := hS
    have hR0 := hR1
    have hn := Nat.le_refl n
    have h94 := hS0.1
    have hX := @yX.rf n tg I17 R
    have hS := hS0.x hX
    have hR := hR0.x hn hX
    have hz := hX.sz h94
    have hxn := hX.1
    have hN := hR0.1
    have hnb := hR0.2.2.2.2.2.2
    have hthB := hth
    refine y_aload_n rfl rfl ?_
    refine y_getIv (v := Int32.ofInt (1)) rfl (ySh.t hS rfl) (ySh.n hS rfl) rfl rfl hth ?_
    refine y_if_leF rfl (by decide) ?_
    refine y_iconst rfl ?_
    refine y_goto rfl j_X14_refuse_28 ?_
    refine y_ireturn rfl rfl rfl ?_
    refine y_ret1 ?_
    refine y_ireturn rfl rfl rfl ?_
    refine y_ret1 ?_
    refine y_if_neT rfl j_X14_dividend_78 (by decide) ?_
    refine y_iconst rfl ?_
    refine y_ireturn rfl rfl rfl ?_
    exact hQ1 (by omega) _ _ _ _ _ _ _ hS ((hR0.grow hX).up (Nat.le_succ K) hk6) (hK.x hRo hno hX) hth ((hB.trans hX).rf2 (by omega)) (by omega) (by omega)
end YXG
