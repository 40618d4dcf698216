/-! THE REFERENCE'S DIGEST, TOLD AS THE CLASS'S (by ex9e.py) -/
/-- what the reference tells in a world (I1, R1) is what the class tells in (C) -/
def yTd (C I1 : Nat → Nat → Int32) (R1 : Nat → Nat → Value) : Prop :=
  ((I1 83 8).toInt = (C 38 0).toInt ∧ (I1 88 2).toInt = (C 40 0).toInt ∧ (I1 89 2).toInt = (C 48 0).toInt ∧ (I1 90 2).toInt = (C 59 0).toInt ∧ (I1 91 2).toInt = (C 69 0).toInt ∧ (I1 92 2).toInt = (C 77 0).toInt)
  ∧ (∀ w : Int, mHo I1 R1 w = yHo C w)
  ∧ (mPd I1 R1 ∧ ∀ (x : Int32) (w : Int), 0 ≤ x.toInt → x.toInt < (C 38 0).toInt → mOPv I1 R1 x w = yOPv C x w)
  ∧ (∀ x : Int32, 0 ≤ x.toInt → x.toInt < (C 40 0).toInt → yLf I1 R1 x (C 47 x.toInt.toNat).toInt ∧ ∀ b, b = yAd R1 88 x.toInt.toNat → ∀ w : Int, 0 ≤ w → w ≤ 6 → yOT (I1 b) (C 47 x.toInt.toNat).toInt w = yOT (fun f => C (41 + f) x.toInt.toNat) (C 47 x.toInt.toNat).toInt w)
  ∧ (∀ x : Int32, 0 ≤ x.toInt → x.toInt < (C 48 0).toInt → ∀ b, b = yAd R1 89 x.toInt.toNat → (1 ≤ (I1 b 4).toInt ∧ (I1 b 4).toInt ≤ 12 ∧ 0 ≤ (I1 b 7).toInt ∧ (I1 b 7).toInt ≤ 12 ∧ 0 ≤ (I1 b 3).toInt ∧ (I1 b 3).toInt ≤ 99) ∧ ∀ w : Int, 0 ≤ w → w ≤ 9 → yOS (I1 b) w = yOS (fun f => C (ySc f) x.toInt.toNat) w)
  ∧ (∀ x : Int32, 0 ≤ x.toInt → x.toInt < (C 59 0).toInt → ∀ b, b = yAd R1 90 x.toInt.toNat → ∀ w : Int, 0 ≤ w → w ≤ 5 → yOL (I1 b) (I1 b 4 + Int32.ofInt 30 * (I1 b 6 + Int32.ofInt 1)) w = yOL (fun f => C (yLc f) x.toInt.toNat) (C 66 x.toInt.toNat) w)
  ∧ (∀ x : Int32, 0 ≤ x.toInt → x.toInt < (C 69 0).toInt → ∀ b, b = yAd R1 91 x.toInt.toNat → ∀ f p : Nat, f < 4 → p < 9 → I1 (b + 1 + f) p = C (70 + f) (x.toInt.toNat * 9 + p))
  ∧ (∀ x : Int32, 0 ≤ x.toInt → x.toInt < (C 77 0).toInt → ∀ b, b = yAd R1 92 x.toInt.toNat → ∀ w : Int, 0 ≤ w → w ≤ 4 → yOF (mRC I1 R1 x.toInt.toNat) (((I1 83 7 >>> (x &&& 31)) &&& Int32.ofInt 1).toInt = 1) (I1 b 6) (I1 b 4) (I1 b 5) w = yOF (((C 77 1 >>> (x &&& 31)) &&& Int32.ofInt 1).toInt = 1) (((C 77 2 >>> (x &&& 31)) &&& Int32.ofInt 1).toInt = 1) (C 80 x.toInt.toNat) (C 81 (Int32.ofInt 1 <<< (x &&& 31)).toInt.toNat) (C 82 (Int32.ofInt 1 <<< (x &&& 31)).toInt.toNat) w)
  ∧ (∀ q : Int32, 0 ≤ q.toInt → q.toInt < 5 → (3 ≤ ySum (fun j => yHv I1 R1 q.toInt j (I1 87 2).toInt.toNat) 5 ↔ 3 ≤ (yBC (C 36 q.toInt.toNat)).toInt))
  ∧ (mBv I1 R1 (Int32.ofInt 100) (Int32.ofInt 0) = yBv C (Int32.ofInt 100) (Int32.ofInt 0) ∧ mBv I1 R1 (Int32.ofInt 100) (Int32.ofInt 1) = yBv C (Int32.ofInt 100) (Int32.ofInt 1))
  ∧ (mSnd I1 R1 ↔ ySnd C)
section YDG9
variable {K nb n : Nat} {tg : Nat → yT} {C I : Nat → Nat → Int32} {R : Nat → Nat → Value} {c s : Nat} {Q : yQ}
theorem s_ventTold (hS0 : ySh n tg R) (hR0 : yRI K nb tg I R) (hn : nb ≤ n) {x1 x2 x3 : Int32} (h0 : 0 ≤ x1.toInt) (h1 : x1.toInt < (I 91 2).toInt) (h2 : 0 ≤ x2.toInt) (h3 : x2.toInt < 9) (hQ : ∀ b, b = yAd R 91 x1.toInt.toNat → ∀ v : Int32, v = I (b + 1 + yOVf x3.toInt) x2.toInt.toNat → Q (.inl (some (.int v))) (n, tg, I, R) c s) : yC 235 [.ref 83, .int x1, .int x2, .int x3] (n, tg, I, R) c s Q := by
  have hX : yX n tg I R n tg I R := yX.rf
  have hS := hS0
  have hR := hR0
  have h94 : 94 ≤ n := hS0.1
  have hz : ySz I I := hX.sz h94
  have hxn := hX.1
  have hN := hR0.1
  have hnb : 94 ≤ nb := hR0.2.2.2.2.2.2
  refine y_in (M := xm_X14_ventureTold) (ls := [some _, some _, some _, some _, _]) rfl rfl rfl ?_
  refine y_aload_n rfl rfl ?_
  refine y_getR rfl (ySh.t hS rfl) (ySh.n hS rfl) rfl rfl (ySh.r hS rfl) ?_
  refine y_iload_n rfl rfl ?_
  refine y_virt rfl rfl rfl rfl rfl (ySh.t hS rfl) (ySh.n hS rfl) ?_
  refine l_get (nb := nb) (ySh.t hS rfl) (ySh.n hS rfl) (Nat.le_trans hn hX.1) hR.l91 (by omega) (by omega) (fun b1 eb_b1 hlo_b1 hb0_b1 ht_b1 => ?_)
  have hb_b1 := Nat.lt_of_lt_of_le hb0_b1 hn
  replace ht_b1 := (hX.2.1 _ hb_b1).1.symm.trans ht_b1
  refine y_ret1 ?_
  refine y_cast rfl ((hX.2.1 _ hb_b1).1.trans ht_b1) (Nat.lt_of_lt_of_le hb_b1 hX.1) ?_
  refine y_astore (ls' := [some _, some _, some _, some _, some _]) rfl rfl rfl ?_
  refine y_iload_n rfl rfl ?_
  refine y_if_ne rfl j_X14_ventureTold_27 (fun h_2 => ?_) (fun h_3 => ?_)
  · refine y_iload_n rfl rfl ?_
    refine y_iconst rfl ?_
    refine y_icmp_ne rfl j_X14_ventureTold_42 (fun h_4 => ?_) (fun h_5 => ?_)
    · rw [yz_1] at h_4
      refine y_aload rfl rfl ?_
      obtain ⟨hR_v6, hb_v6, ht_v6⟩ := hR0.ven hlo_b1 hb0_b1 ht_b1 (j := 3) (by decide)
      have hb0_v6 := hb_v6
      have hb_v6 := Nat.lt_of_lt_of_le hb_v6 hn
      have hlo_v6 : 94 ≤ b1 + 1 + 3 := by omega
      have hR2_v6 := (congrFun (hX.2.1 b1 hb_b1).2.2 3).trans hR_v6
      refine y_getR rfl ((hX.2.1 _ hb_b1).1.trans ht_b1) (Nat.lt_of_lt_of_le hb_b1 hX.1) rfl rfl hR2_v6 ?_
      refine y_iload_n rfl rfl ?_
      refine y_iaload rfl ((hX.2.1 _ hb_v6).1.trans ht_v6) (Nat.lt_of_lt_of_le hb_v6 hX.1) (by omega) (by omega) ?_
      refine y_ireturn rfl rfl rfl ?_
      exact hQ _ eb_b1 _ (by first | (rw [show x3.toInt = 0 by omega]; rfl) | (rw [show x3.toInt = 1 by omega]; rfl) | (unfold yOVf; rw [if_neg (by omega), if_neg (by omega)]; first | done | rfl))
    · rw [yz_1] at h_5
      refine y_aload rfl rfl ?_
      obtain ⟨hR_v7, hb_v7, ht_v7⟩ := hR0.ven hlo_b1 hb0_b1 ht_b1 (j := 2) (by decide)
      have hb0_v7 := hb_v7
      have hb_v7 := Nat.lt_of_lt_of_le hb_v7 hn
      have hlo_v7 : 94 ≤ b1 + 1 + 2 := by omega
      have hR2_v7 := (congrFun (hX.2.1 b1 hb_b1).2.2 2).trans hR_v7
      refine y_getR rfl ((hX.2.1 _ hb_b1).1.trans ht_b1) (Nat.lt_of_lt_of_le hb_b1 hX.1) rfl rfl hR2_v7 ?_
      refine y_iload_n rfl rfl ?_
      refine y_iaload rfl ((hX.2.1 _ hb_v7).1.trans ht_v7) (Nat.lt_of_lt_of_le hb_v7 hX.1) (by omega) (by omega) ?_
      refine y_goto rfl j_X14_ventureTold_49 ?_
      refine y_ireturn rfl rfl rfl ?_
      exact hQ _ eb_b1 _ (by first | (rw [show x3.toInt = 0 by omega]; rfl) | (rw [show x3.toInt = 1 by omega]; rfl) | (unfold yOVf; rw [if_neg (by omega), if_neg (by omega)]; first | done | rfl))
  · refine y_aload rfl rfl ?_
    obtain ⟨hR_v8, hb_v8, ht_v8⟩ := hR0.ven hlo_b1 hb0_b1 ht_b1 (j := 1) (by decide)
    have hb0_v8 := hb_v8
    have hb_v8 := Nat.lt_of_lt_of_le hb_v8 hn
    have hlo_v8 : 94 ≤ b1 + 1 + 1 := by omega
    have hR2_v8 := (congrFun (hX.2.1 b1 hb_b1).2.2 1).trans hR_v8
    refine y_getR rfl ((hX.2.1 _ hb_b1).1.trans ht_b1) (Nat.lt_of_lt_of_le hb_b1 hX.1) rfl rfl hR2_v8 ?_
    refine y_iload_n rfl rfl ?_
    refine y_iaload rfl ((hX.2.1 _ hb_v8).1.trans ht_v8) (Nat.lt_of_lt_of_le hb_v8 hX.1) (by omega) (by omega) ?_
    refine y_goto rfl j_X14_ventureTold_49 ?_
    refine y_ireturn rfl rfl rfl ?_
    exact hQ _ eb_b1 _ (by first | (rw [show x3.toInt = 0 by omega]; rfl) | (rw [show x3.toInt = 1 by omega]; rfl) | (unfold yOVf; rw [if_neg (by omega), if_neg (by omega)]; first | done | rfl))
theorem la_s_dig11 (hS0 : ySh n tg R) (hR0 : yRI K nb tg I R) (hn : nb ≤ n) (hE : ∀ n1 tg1 I1 R1, yX n tg I R n1 tg1 I1 R1 → yTd C I1 R1) (hC : yCI C) {x0 : Int64} (hx : ∀ n1 tg1 I1 R1 c1 s1, yX n tg I R n1 tg1 I1 R1 → c1 ≤ c + 64 → s1 ≤ s + 448 → yW xm_X14_digest xc_X14_digest_34 [some (.ref 83), some (.long (dF x0 (yDH C) 16)), none, none, none, none] [] (n1, tg1, I1, R1) c1 s1 Q) : ∀ (m : Nat) (x1 : Int64) (x3 : Int32) (n1 : Nat) (tg1 : Nat → yT) (I1 : Nat → Nat → Int32) (R1 : Nat → Nat → Value) (c1 s1 : Nat), yX n tg I R n1 tg1 I1 R1 → (0 ≤ x3.toInt) → (x3.toInt ≤ 16) → (x1 = dF x0 (yDH C) (x3.toInt - 0).toNat) → 16 - x3.toInt < m → (c1 : Int) ≤ c + 4 * (x3.toInt) → (s1 : Int) ≤ s + 28 * (x3.toInt) → yW xm_X14_digest xc_X14_digest_11 [some (.ref 83), some (.long x1), none, some (.int x3), none, none] [] (n1, tg1, I1, R1) c1 s1 Q := by
  intro m
  induction m with
  | zero =>
    intro x1 x3 n1 tg1 I1 R1 c1 s1 hX i0 i1 i2 hm hcc hss
    have hN := hR0.1
    exfalso; omega
  | succ m ih =>
    intro x1 x3 n1 tg1 I1 R1 c1 s1 hX i0 i1 i2 hm hcc hss
    have hS := hS0.x hX
    have hR := hR0.x hn hX
    have h94 : 94 ≤ n := hS0.1
    have hz := hX.sz h94
    have hxn := hX.1
    have hN := hR0.1
    have hnb : 94 ≤ nb := hR0.2.2.2.2.2.2
    have hE0 := (hE _ _ _ _ yX.rf).1
    have hE1 := (hE _ _ _ _ hX).1
    refine y_iload_n rfl rfl ?_
    refine y_bip rfl (by decide) ?_
    refine y_icmp_ge rfl j_X14_digest_34 (fun h_1 => ?_) (fun h_2 => ?_)
    · rw [yz_16] at h_1
      refine y_fgt (ls := [some _, some _, none, none, none, none]) ⟨rfl, rfl, trivial⟩ ?_
      have e_ : x1 = (dF x0 (yDH C) 16) := i2.trans (by rw [show (x3.toInt - 0).toNat = 16 by omega]; first | done | rfl)
      subst e_
      exact hx _ _ _ _ _ _ hX (by omega) (by omega)
    · rw [yz_16] at h_2
      refine y_lload_n rfl rfl ?_
      refine y_aload_n rfl rfl ?_
      refine y_iload_n rfl rfl ?_
      refine y_virt rfl rfl rfl rfl rfl (ySh.t hS rfl) (ySh.n hS rfl) ?_
      have hE_3 := hE _ _ _ _ hX
      obtain ⟨⟨q83, q88, q89, q90, q91, q92⟩, eH_, ⟨eM_, eP_⟩, eT_, eS_, eL_, eV_, eF_, eA_, eB_, eW_⟩ := hE_3
      refine s_houseTold9 hS hR (Nat.le_trans hn hX.1) (by omega) (by omega) (fun v_4 n4 tg4 I4 R4 c_4 s_4 hv_4 hX1 hc_4 hs_4 => ?_)
      have hw_ := hv_4.trans (eH_ _)
      clear eH_ eM_ eP_ eT_ eS_ eL_ eV_ eF_ eA_ eB_ eW_
      have hnA := hX1.1
      have hX := hX.trans hX1
      have hS := hS0.x hX
      have hR := hR0.x hn hX
      have hz := hX.sz h94
      have hxn := hX.1
      refine y_ret1 ?_
      refine y_i2l rfl ?_
      refine y_static rfl rfl rfl rfl rfl ?_
      refine y_in (M := xm_X14_add) (ls := [some _, _, some _, _]) rfl rfl rfl ?_
      refine y_lload_n rfl rfl ?_
      refine y_ldc2 rfl ?_
      refine y_lmul rfl ?_
      refine y_lload_n rfl rfl ?_
      refine y_ladd rfl ?_
      refine y_lreturn rfl ?_
      refine y_ret1 ?_
      refine y_lstore_n (ls' := [some _, some _, _, some _, _, _]) rfl rfl rfl ?_
      refine y_iinc (ls' := [some _, some _, _, some _, _, _]) rfl rfl rfl rfl ?_
      refine y_goto rfl j_X14_digest_11 ?_
      exact ih _ _ _ _ _ _ _ _ hX (by first | omega | (rw [yinc (by omega)]; omega)) (by first | omega | (rw [yinc (by omega)]; omega)) (dF_nx (by omega) (by assumption) (by rw [hw_]; exact congrArg (fun z => (yHo C z).toInt64) (by omega))) (by first | omega | (rw [yinc (by omega)]; omega)) (by first | omega | (rw [yinc (by omega)]; omega)) (by first | omega | (rw [yinc (by omega)]; omega))
theorem lb_s_dig11 (hS0 : ySh n tg R) (hR0 : yRI K nb tg I R) (hn : nb ≤ n) (hE : ∀ n1 tg1 I1 R1, yX n tg I R n1 tg1 I1 R1 → yTd C I1 R1) (hC : yCI C) {x0 : Int64} (hx : ∀ n1 tg1 I1 R1 c1 s1, yX n tg I R n1 tg1 I1 R1 → c1 ≤ c + 64 → s1 ≤ s + 448 → yW xm_X14_digest xc_X14_digest_34 [some (.ref 83), some (.long (dF x0 (yDH C) 16)), none, none, none, none] [] (n1, tg1, I1, R1) c1 s1 Q) : ∀ (x1 : Int64) (x3 : Int32), (0 ≤ x3.toInt) → (x3.toInt ≤ 16) → (x1 = dF x0 (yDH C) (x3.toInt - 0).toNat) → 16 - x3.toInt < (100000 : Nat) → (x3.toInt) = 0 → yW xm_X14_digest xc_X14_digest_11 [some (.ref 83), some (.long x1), none, some (.int x3), none, none] [] (n, tg, I, R) c s Q := by
  intro x1 x3 i0 i1 i2 hm h0
  exact la_s_dig11 hS0 hR0 hn hE hC  hx 100000 _ _ _ _ _ _ _ _ yX.rf i0 i1 i2 hm (by rw [h0]; omega) (by rw [h0]; omega)
theorem la_s_dig47 (hS0 : ySh n tg R) (hR0 : yRI K nb tg I R) (hn : nb ≤ n) (hE : ∀ n1 tg1 I1 R1, yX n tg I R n1 tg1 I1 R1 → yTd C I1 R1) (hC : yCI C) {x3 : Int32} {x0 : Int64} (h30 : 0 ≤ x3.toInt) (h31 : x3.toInt < (C 38 0).toInt) (hx : ∀ n1 tg1 I1 R1 c1 s1, yX n tg I R n1 tg1 I1 R1 → c1 ≤ c + 40 → s1 ≤ s + 192 → yW xm_X14_digest xc_X14_digest_73 [some (.ref 83), some (.long (yDP C x3.toInt.toNat x0)), none, some (.int x3), none, none] [] (n1, tg1, I1, R1) c1 s1 Q) : ∀ (m : Nat) (x1 : Int64) (x4 : Int32) (n1 : Nat) (tg1 : Nat → yT) (I1 : Nat → Nat → Int32) (R1 : Nat → Nat → Value) (c1 s1 : Nat), yX n tg I R n1 tg1 I1 R1 → (0 ≤ x4.toInt) → (x4.toInt ≤ 8) → (x1 = dF x0 (fun w => (yOPv C (Int32.ofInt (x3.toInt.toNat : Int)) (w : Int)).toInt64) (x4.toInt - 0).toNat) → 8 - x4.toInt < m → (c1 : Int) ≤ c + 5 * (x4.toInt - 0) → (s1 : Int) ≤ s + 24 * (x4.toInt - 0) → yW xm_X14_digest xc_X14_digest_47 [some (.ref 83), some (.long x1), none, some (.int x3), some (.int x4), none] [] (n1, tg1, I1, R1) c1 s1 Q := by
  intro m
  induction m with
  | zero =>
    intro x1 x4 n1 tg1 I1 R1 c1 s1 hX i0 i1 i2 hm hcc hss
    have hN := hR0.1
    exfalso; omega
  | succ m ih =>
    intro x1 x4 n1 tg1 I1 R1 c1 s1 hX i0 i1 i2 hm hcc hss
    have hS := hS0.x hX
    have hR := hR0.x hn hX
    have h94 : 94 ≤ n := hS0.1
    have hz := hX.sz h94
    have hxn := hX.1
    have hN := hR0.1
    have hnb : 94 ≤ nb := hR0.2.2.2.2.2.2
    have hE0 := (hE _ _ _ _ yX.rf).1
    have hE1 := (hE _ _ _ _ hX).1
    refine y_iload rfl rfl ?_
    refine y_bip rfl (by decide) ?_
    refine y_icmp_ge rfl j_X14_digest_73 (fun h_1 => ?_) (fun h_2 => ?_)
    · rw [yz_8] at h_1
      refine y_fgt (ls := [some _, some _, none, some _, none, none]) ⟨rfl, rfl, rfl, trivial⟩ ?_
      have e_ : x1 = (yDP C x3.toInt.toNat x0) := i2.trans (by rw [show (x4.toInt - 0).toNat = 8 by omega]; first | done | rfl)
      subst e_
      exact hx _ _ _ _ _ _ hX (by omega) (by omega)
    · rw [yz_8] at h_2
      refine y_lload_n rfl rfl ?_
      refine y_aload_n rfl rfl ?_
      refine y_iload_n rfl rfl ?_
      refine y_iload rfl rfl ?_
      refine y_virt rfl rfl rfl rfl rfl (ySh.t hS rfl) (ySh.n hS rfl) ?_
      have hE_3 := hE _ _ _ _ hX
      obtain ⟨⟨q83, q88, q89, q90, q91, q92⟩, eH_, ⟨eM_, eP_⟩, eT_, eS_, eL_, eV_, eF_, eA_, eB_, eW_⟩ := hE_3
      refine s_personTold9 hS hR (Nat.le_trans hn hX.1) (by omega) (by omega) (by omega) (by omega) eM_ (fun v_4 n4 tg4 I4 R4 c_4 s_4 hv_4 hX1 hc_4 hs_4 => ?_)
      have hw_ := hv_4.trans (eP_ _ _ (by omega) (by omega))
      clear eH_ eM_ eP_ eT_ eS_ eL_ eV_ eF_ eA_ eB_ eW_
      have hnA := hX1.1
      have hX := hX.trans hX1
      have hS := hS0.x hX
      have hR := hR0.x hn hX
      have hz := hX.sz h94
      have hxn := hX.1
      refine y_ret1 ?_
      refine y_i2l rfl ?_
      refine y_static rfl rfl rfl rfl rfl ?_
      refine y_in (M := xm_X14_add) (ls := [some _, _, some _, _]) rfl rfl rfl ?_
      refine y_lload_n rfl rfl ?_
      refine y_ldc2 rfl ?_
      refine y_lmul rfl ?_
      refine y_lload_n rfl rfl ?_
      refine y_ladd rfl ?_
      refine y_lreturn rfl ?_
      refine y_ret1 ?_
      refine y_lstore_n (ls' := [some _, some _, _, some _, some _, _]) rfl rfl rfl ?_
      refine y_iinc (ls' := [some _, some _, _, some _, some _, _]) rfl rfl rfl rfl ?_
      refine y_goto rfl j_X14_digest_47 ?_
      exact ih _ _ _ _ _ _ _ _ hX (by first | omega | (rw [yinc (by omega)]; omega)) (by first | omega | (rw [yinc (by omega)]; omega)) (dF_nx (by omega) (by assumption) (by rw [hw_, xofn h30]; exact congrArg (fun z => (yOPv C x3 z).toInt64) (by omega))) (by first | omega | (rw [yinc (by omega)]; omega)) (by first | omega | (rw [yinc (by omega)]; omega)) (by first | omega | (rw [yinc (by omega)]; omega))
theorem lb_s_dig47 (hS0 : ySh n tg R) (hR0 : yRI K nb tg I R) (hn : nb ≤ n) (hE : ∀ n1 tg1 I1 R1, yX n tg I R n1 tg1 I1 R1 → yTd C I1 R1) (hC : yCI C) {x3 : Int32} {x0 : Int64} (h30 : 0 ≤ x3.toInt) (h31 : x3.toInt < (C 38 0).toInt) (hx : ∀ n1 tg1 I1 R1 c1 s1, yX n tg I R n1 tg1 I1 R1 → c1 ≤ c + 40 → s1 ≤ s + 192 → yW xm_X14_digest xc_X14_digest_73 [some (.ref 83), some (.long (yDP C x3.toInt.toNat x0)), none, some (.int x3), none, none] [] (n1, tg1, I1, R1) c1 s1 Q) : ∀ (x1 : Int64) (x4 : Int32), (0 ≤ x4.toInt) → (x4.toInt ≤ 8) → (x1 = dF x0 (fun w => (yOPv C (Int32.ofInt (x3.toInt.toNat : Int)) (w : Int)).toInt64) (x4.toInt - 0).toNat) → 8 - x4.toInt < (100000 : Nat) → (x4.toInt - 0) = 0 → yW xm_X14_digest xc_X14_digest_47 [some (.ref 83), some (.long x1), none, some (.int x3), some (.int x4), none] [] (n, tg, I, R) c s Q := by
  intro x1 x4 i0 i1 i2 hm h0
  exact la_s_dig47 hS0 hR0 hn hE hC h30 h31 hx 100000 _ _ _ _ _ _ _ _ yX.rf i0 i1 i2 hm (by rw [h0]; omega) (by rw [h0]; omega)
theorem la_s_dig36 (hS0 : ySh n tg R) (hR0 : yRI K nb tg I R) (hn : nb ≤ n) (hE : ∀ n1 tg1 I1 R1, yX n tg I R n1 tg1 I1 R1 → yTd C I1 R1) (hC : yCI C) {x0 : Int64} (hx : ∀ n1 tg1 I1 R1 c1 s1, yX n tg I R n1 tg1 I1 R1 → c1 ≤ c + 320 → s1 ≤ s + 1536 → yW xm_X14_digest xc_X14_digest_79 [some (.ref 83), some (.long (dN x0 (yDP C) (C 38 0).toInt.toNat)), none, none, none, none] [] (n1, tg1, I1, R1) c1 s1 Q) : ∀ (m : Nat) (x1 : Int64) (x3 : Int32) (n1 : Nat) (tg1 : Nat → yT) (I1 : Nat → Nat → Int32) (R1 : Nat → Nat → Value) (c1 s1 : Nat), yX n tg I R n1 tg1 I1 R1 → (0 ≤ x3.toInt) → (x3.toInt ≤ (C 38 0).toInt) → (x1 = dN x0 (yDP C) x3.toInt.toNat) → (C 38 0).toInt - x3.toInt < m → (c1 : Int) ≤ c + 40 * (x3.toInt) → (s1 : Int) ≤ s + 192 * (x3.toInt) → yW xm_X14_digest xc_X14_digest_36 [some (.ref 83), some (.long x1), none, some (.int x3), none, none] [] (n1, tg1, I1, R1) c1 s1 Q := by
  intro m
  induction m with
  | zero =>
    intro x1 x3 n1 tg1 I1 R1 c1 s1 hX i0 i1 i2 hm hcc hss
    have hN := hR0.1
    exfalso; omega
  | succ m ih =>
    intro x1 x3 n1 tg1 I1 R1 c1 s1 hX i0 i1 i2 hm hcc hss
    have hS := hS0.x hX
    have hR := hR0.x hn hX
    have h94 : 94 ≤ n := hS0.1
    have hz := hX.sz h94
    have hxn := hX.1
    have hN := hR0.1
    have hnb : 94 ≤ nb := hR0.2.2.2.2.2.2
    have hE0 := (hE _ _ _ _ yX.rf).1
    have hE1 := (hE _ _ _ _ hX).1
    refine y_iload_n rfl rfl ?_
    refine y_aload_n rfl rfl ?_
    refine y_getI rfl (ySh.t hS rfl) (ySh.n hS rfl) rfl rfl ?_
    refine y_icmp_ge rfl j_X14_digest_79 (fun h_1 => ?_) (fun h_2 => ?_)
    · refine y_fgt (ls := [some _, some _, none, none, none, none]) ⟨rfl, rfl, trivial⟩ ?_
      have e_ : x1 = (dN x0 (yDP C) (C 38 0).toInt.toNat) := i2.trans (by rw [show x3.toInt.toNat = (C 38 0).toInt.toNat by omega]; first | done | rfl)
      subst e_
      exact hx _ _ _ _ _ _ hX (by omega) (by omega)
    · refine y_iconst rfl ?_
      refine y_istore (ls' := [some _, some _, _, some _, some _, _]) rfl rfl rfl ?_
      refine lb_s_dig47 hS hR (Nat.le_trans hn hX.1) (fun n1 tg1 I1 R1 hX1 => hE n1 tg1 I1 R1 (hX.trans hX1)) hC (by omega) (by omega) (fun n3 tg3 I3 R3 c_3 s_3 hX1 hc_3 hs_3 => ?_) _ _ (by decide) (by decide) (dF_z (by decide)) (by decide) (by decide)
      have hnA := hX1.1
      have hX := hX.trans hX1
      have hS := hS0.x hX
      have hR := hR0.x hn hX
      have hz := hX.sz h94
      have hxn := hX.1
      refine y_iinc (ls' := [some _, some _, _, some _, _, _]) rfl rfl rfl rfl ?_
      refine y_goto rfl j_X14_digest_36 ?_
      exact ih _ _ _ _ _ _ _ _ hX (by first | omega | (rw [yinc (by omega)]; omega)) (by first | omega | (rw [yinc (by omega)]; omega)) (dN_nx (by omega) (by assumption) rfl) (by first | omega | (rw [yinc (by omega)]; omega)) (by first | omega | (rw [yinc (by omega)]; omega)) (by first | omega | (rw [yinc (by omega)]; omega))
theorem lb_s_dig36 (hS0 : ySh n tg R) (hR0 : yRI K nb tg I R) (hn : nb ≤ n) (hE : ∀ n1 tg1 I1 R1, yX n tg I R n1 tg1 I1 R1 → yTd C I1 R1) (hC : yCI C) {x0 : Int64} (hx : ∀ n1 tg1 I1 R1 c1 s1, yX n tg I R n1 tg1 I1 R1 → c1 ≤ c + 320 → s1 ≤ s + 1536 → yW xm_X14_digest xc_X14_digest_79 [some (.ref 83), some (.long (dN x0 (yDP C) (C 38 0).toInt.toNat)), none, none, none, none] [] (n1, tg1, I1, R1) c1 s1 Q) : ∀ (x1 : Int64) (x3 : Int32), (0 ≤ x3.toInt) → (x3.toInt ≤ (C 38 0).toInt) → (x1 = dN x0 (yDP C) x3.toInt.toNat) → (C 38 0).toInt - x3.toInt < (100000 : Nat) → (x3.toInt) = 0 → yW xm_X14_digest xc_X14_digest_36 [some (.ref 83), some (.long x1), none, some (.int x3), none, none] [] (n, tg, I, R) c s Q := by
  intro x1 x3 i0 i1 i2 hm h0
  exact la_s_dig36 hS0 hR0 hn hE hC  hx 100000 _ _ _ _ _ _ _ _ yX.rf i0 i1 i2 hm (by rw [h0]; omega) (by rw [h0]; omega)
theorem la_s_dig95 (hS0 : ySh n tg R) (hR0 : yRI K nb tg I R) (hn : nb ≤ n) (hE : ∀ n1 tg1 I1 R1, yX n tg I R n1 tg1 I1 R1 → yTd C I1 R1) (hC : yCI C) {x3 : Int32} {x0 : Int64} (h30 : 0 ≤ x3.toInt) (h31 : x3.toInt < (C 40 0).toInt) (hx : ∀ n1 tg1 I1 R1 c1 s1, yX n tg I R n1 tg1 I1 R1 → c1 ≤ c + 6 → s1 ≤ s + 42 → yW xm_X14_digest xc_X14_digest_121 [some (.ref 83), some (.long (yDT C x3.toInt.toNat x0)), none, some (.int x3), none, none] [] (n1, tg1, I1, R1) c1 s1 Q) : ∀ (m : Nat) (x1 : Int64) (x4 : Int32) (n1 : Nat) (tg1 : Nat → yT) (I1 : Nat → Nat → Int32) (R1 : Nat → Nat → Value) (c1 s1 : Nat), yX n tg I R n1 tg1 I1 R1 → (1 ≤ x4.toInt) → (x4.toInt ≤ 7) → (x1 = dF x0 (fun w => (Int32.ofInt (yOT (fun f => C (41 + f) x3.toInt.toNat) (C 47 x3.toInt.toNat).toInt ((w : Int) + 1))).toInt64) (x4.toInt - 1).toNat) → 7 - x4.toInt < m → (c1 : Int) ≤ c + 1 * (x4.toInt - 1) → (s1 : Int) ≤ s + 7 * (x4.toInt - 1) → yW xm_X14_digest xc_X14_digest_95 [some (.ref 83), some (.long x1), none, some (.int x3), some (.int x4), none] [] (n1, tg1, I1, R1) c1 s1 Q := by
  intro m
  induction m with
  | zero =>
    intro x1 x4 n1 tg1 I1 R1 c1 s1 hX i0 i1 i2 hm hcc hss
    have hN := hR0.1
    exfalso; omega
  | succ m ih =>
    intro x1 x4 n1 tg1 I1 R1 c1 s1 hX i0 i1 i2 hm hcc hss
    have hS := hS0.x hX
    have hR := hR0.x hn hX
    have h94 : 94 ≤ n := hS0.1
    have hz := hX.sz h94
    have hxn := hX.1
    have hN := hR0.1
    have hnb : 94 ≤ nb := hR0.2.2.2.2.2.2
    have hE0 := (hE _ _ _ _ yX.rf).1
    have hE1 := (hE _ _ _ _ hX).1
    refine y_iload rfl rfl ?_
    refine y_bip rfl (by decide) ?_
    refine y_icmp_ge rfl j_X14_digest_121 (fun h_1 => ?_) (fun h_2 => ?_)
    · rw [yz_7] at h_1
      refine y_fgt (ls := [some _, some _, none, some _, none, none]) ⟨rfl, rfl, rfl, trivial⟩ ?_
      have e_ : x1 = (yDT C x3.toInt.toNat x0) := i2.trans (by rw [show (x4.toInt - 1).toNat = 6 by omega]; first | done | rfl)
      subst e_
      exact hx _ _ _ _ _ _ hX (by omega) (by omega)
    · rw [yz_7] at h_2
      refine y_lload_n rfl rfl ?_
      refine y_aload_n rfl rfl ?_
      refine y_iload_n rfl rfl ?_
      refine y_iload rfl rfl ?_
      refine y_virt rfl rfl rfl rfl rfl (ySh.t hS rfl) (ySh.n hS rfl) ?_
      have hE_3 := hE _ _ _ _ hX
      obtain ⟨⟨q83, q88, q89, q90, q91, q92⟩, eH_, ⟨eM_, eP_⟩, eT_, eS_, eL_, eV_, eF_, eA_, eB_, eW_⟩ := hE_3
      refine s_thingTold hS hR (Nat.le_trans hn hX.1) (by omega) (by omega) (by omega) (by omega) (eT_ _ (by omega) (by omega)).1 (fun b_4 eb_4 hlo_4 hb0_4 v_4 n4 tg4 I4 R4 c_4 s_4 hv_4 hX1 hc_4 hs_4 => ?_)
      have hw_ := hv_4.trans ((eT_ _ (by omega) (by omega)).2 _ eb_4 _ (by omega) (by omega))
      clear eH_ eM_ eP_ eT_ eS_ eL_ eV_ eF_ eA_ eB_ eW_
      have hnA := hX1.1
      have hX := hX.trans hX1
      have hS := hS0.x hX
      have hR := hR0.x hn hX
      have hz := hX.sz h94
      have hxn := hX.1
      refine y_ret1 ?_
      refine y_i2l rfl ?_
      refine y_static rfl rfl rfl rfl rfl ?_
      refine y_in (M := xm_X14_add) (ls := [some _, _, some _, _]) rfl rfl rfl ?_
      refine y_lload_n rfl rfl ?_
      refine y_ldc2 rfl ?_
      refine y_lmul rfl ?_
      refine y_lload_n rfl rfl ?_
      refine y_ladd rfl ?_
      refine y_lreturn rfl ?_
      refine y_ret1 ?_
      refine y_lstore_n (ls' := [some _, some _, _, some _, some _, _]) rfl rfl rfl ?_
      refine y_iinc (ls' := [some _, some _, _, some _, some _, _]) rfl rfl rfl rfl ?_
      refine y_goto rfl j_X14_digest_95 ?_
      exact ih _ _ _ _ _ _ _ _ hX (by first | omega | (rw [yinc (by omega)]; omega)) (by first | omega | (rw [yinc (by omega)]; omega)) (dF_nx (by omega) (by assumption) (by rw [dV hw_]; exact congrArg (fun z => (Int32.ofInt (yOT (fun f => C (41 + f) x3.toInt.toNat) (C 47 x3.toInt.toNat).toInt z)).toInt64) (by omega))) (by first | omega | (rw [yinc (by omega)]; omega)) (by first | omega | (rw [yinc (by omega)]; omega)) (by first | omega | (rw [yinc (by omega)]; omega))
theorem lb_s_dig95 (hS0 : ySh n tg R) (hR0 : yRI K nb tg I R) (hn : nb ≤ n) (hE : ∀ n1 tg1 I1 R1, yX n tg I R n1 tg1 I1 R1 → yTd C I1 R1) (hC : yCI C) {x3 : Int32} {x0 : Int64} (h30 : 0 ≤ x3.toInt) (h31 : x3.toInt < (C 40 0).toInt) (hx : ∀ n1 tg1 I1 R1 c1 s1, yX n tg I R n1 tg1 I1 R1 → c1 ≤ c + 6 → s1 ≤ s + 42 → yW xm_X14_digest xc_X14_digest_121 [some (.ref 83), some (.long (yDT C x3.toInt.toNat x0)), none, some (.int x3), none, none] [] (n1, tg1, I1, R1) c1 s1 Q) : ∀ (x1 : Int64) (x4 : Int32), (1 ≤ x4.toInt) → (x4.toInt ≤ 7) → (x1 = dF x0 (fun w => (Int32.ofInt (yOT (fun f => C (41 + f) x3.toInt.toNat) (C 47 x3.toInt.toNat).toInt ((w : Int) + 1))).toInt64) (x4.toInt - 1).toNat) → 7 - x4.toInt < (100000 : Nat) → (x4.toInt - 1) = 0 → yW xm_X14_digest xc_X14_digest_95 [some (.ref 83), some (.long x1), none, some (.int x3), some (.int x4), none] [] (n, tg, I, R) c s Q := by
  intro x1 x4 i0 i1 i2 hm h0
  exact la_s_dig95 hS0 hR0 hn hE hC h30 h31 hx 100000 _ _ _ _ _ _ _ _ yX.rf i0 i1 i2 hm (by rw [h0]; omega) (by rw [h0]; omega)
theorem la_s_dig81 (hS0 : ySh n tg R) (hR0 : yRI K nb tg I R) (hn : nb ≤ n) (hE : ∀ n1 tg1 I1 R1, yX n tg I R n1 tg1 I1 R1 → yTd C I1 R1) (hC : yCI C) {x0 : Int64} (hx : ∀ n1 tg1 I1 R1 c1 s1, yX n tg I R n1 tg1 I1 R1 → c1 ≤ c + 96 → s1 ≤ s + 672 → yW xm_X14_digest xc_X14_digest_127 [some (.ref 83), some (.long (dN x0 (yDT C) (C 40 0).toInt.toNat)), none, none, none, none] [] (n1, tg1, I1, R1) c1 s1 Q) : ∀ (m : Nat) (x1 : Int64) (x3 : Int32) (n1 : Nat) (tg1 : Nat → yT) (I1 : Nat → Nat → Int32) (R1 : Nat → Nat → Value) (c1 s1 : Nat), yX n tg I R n1 tg1 I1 R1 → (0 ≤ x3.toInt) → (x3.toInt ≤ (C 40 0).toInt) → (x1 = dN x0 (yDT C) x3.toInt.toNat) → (C 40 0).toInt - x3.toInt < m → (c1 : Int) ≤ c + 6 * (x3.toInt) → (s1 : Int) ≤ s + 42 * (x3.toInt) → yW xm_X14_digest xc_X14_digest_81 [some (.ref 83), some (.long x1), none, some (.int x3), none, none] [] (n1, tg1, I1, R1) c1 s1 Q := by
  intro m
  induction m with
  | zero =>
    intro x1 x3 n1 tg1 I1 R1 c1 s1 hX i0 i1 i2 hm hcc hss
    have hN := hR0.1
    exfalso; omega
  | succ m ih =>
    intro x1 x3 n1 tg1 I1 R1 c1 s1 hX i0 i1 i2 hm hcc hss
    have hS := hS0.x hX
    have hR := hR0.x hn hX
    have h94 : 94 ≤ n := hS0.1
    have hz := hX.sz h94
    have hxn := hX.1
    have hN := hR0.1
    have hnb : 94 ≤ nb := hR0.2.2.2.2.2.2
    have hE0 := (hE _ _ _ _ yX.rf).1
    have hE1 := (hE _ _ _ _ hX).1
    refine y_iload_n rfl rfl ?_
    refine y_aload_n rfl rfl ?_
    refine y_getR rfl (ySh.t hS rfl) (ySh.n hS rfl) rfl rfl (ySh.r hS rfl) ?_
    refine y_virt rfl rfl rfl rfl rfl (ySh.t hS rfl) (ySh.n hS rfl) ?_
    refine y_in (M := xm_Jx4a65c_size_8abf5) (ls := [some _]) rfl rfl rfl ?_
    refine y_aload_n rfl rfl ?_
    refine y_getI rfl (ySh.t hS rfl) (ySh.n hS rfl) rfl rfl ?_
    refine y_ireturn rfl rfl rfl ?_
    refine y_ret1 ?_
    refine y_icmp_ge rfl j_X14_digest_127 (fun h_1 => ?_) (fun h_2 => ?_)
    · refine y_fgt (ls := [some _, some _, none, none, none, none]) ⟨rfl, rfl, trivial⟩ ?_
      have e_ : x1 = (dN x0 (yDT C) (C 40 0).toInt.toNat) := i2.trans (by rw [show x3.toInt.toNat = (C 40 0).toInt.toNat by omega]; first | done | rfl)
      subst e_
      exact hx _ _ _ _ _ _ hX (by omega) (by omega)
    · refine y_iconst rfl ?_
      refine y_istore (ls' := [some _, some _, _, some _, some _, _]) rfl rfl rfl ?_
      refine lb_s_dig95 hS hR (Nat.le_trans hn hX.1) (fun n1 tg1 I1 R1 hX1 => hE n1 tg1 I1 R1 (hX.trans hX1)) hC (by omega) (by omega) (fun n3 tg3 I3 R3 c_3 s_3 hX1 hc_3 hs_3 => ?_) _ _ (by decide) (by decide) (dF_z (by decide)) (by decide) (by decide)
      have hnA := hX1.1
      have hX := hX.trans hX1
      have hS := hS0.x hX
      have hR := hR0.x hn hX
      have hz := hX.sz h94
      have hxn := hX.1
      refine y_iinc (ls' := [some _, some _, _, some _, _, _]) rfl rfl rfl rfl ?_
      refine y_goto rfl j_X14_digest_81 ?_
      exact ih _ _ _ _ _ _ _ _ hX (by first | omega | (rw [yinc (by omega)]; omega)) (by first | omega | (rw [yinc (by omega)]; omega)) (dN_nx (by omega) (by assumption) rfl) (by first | omega | (rw [yinc (by omega)]; omega)) (by first | omega | (rw [yinc (by omega)]; omega)) (by first | omega | (rw [yinc (by omega)]; omega))
theorem lb_s_dig81 (hS0 : ySh n tg R) (hR0 : yRI K nb tg I R) (hn : nb ≤ n) (hE : ∀ n1 tg1 I1 R1, yX n tg I R n1 tg1 I1 R1 → yTd C I1 R1) (hC : yCI C) {x0 : Int64} (hx : ∀ n1 tg1 I1 R1 c1 s1, yX n tg I R n1 tg1 I1 R1 → c1 ≤ c + 96 → s1 ≤ s + 672 → yW xm_X14_digest xc_X14_digest_127 [some (.ref 83), some (.long (dN x0 (yDT C) (C 40 0).toInt.toNat)), none, none, none, none] [] (n1, tg1, I1, R1) c1 s1 Q) : ∀ (x1 : Int64) (x3 : Int32), (0 ≤ x3.toInt) → (x3.toInt ≤ (C 40 0).toInt) → (x1 = dN x0 (yDT C) x3.toInt.toNat) → (C 40 0).toInt - x3.toInt < (100000 : Nat) → (x3.toInt) = 0 → yW xm_X14_digest xc_X14_digest_81 [some (.ref 83), some (.long x1), none, some (.int x3), none, none] [] (n, tg, I, R) c s Q := by
  intro x1 x3 i0 i1 i2 hm h0
  exact la_s_dig81 hS0 hR0 hn hE hC  hx 100000 _ _ _ _ _ _ _ _ yX.rf i0 i1 i2 hm (by rw [h0]; omega) (by rw [h0]; omega)
theorem la_s_dig143 (hS0 : ySh n tg R) (hR0 : yRI K nb tg I R) (hn : nb ≤ n) (hE : ∀ n1 tg1 I1 R1, yX n tg I R n1 tg1 I1 R1 → yTd C I1 R1) (hC : yCI C) {x3 : Int32} {x0 : Int64} (h30 : 0 ≤ x3.toInt) (h31 : x3.toInt < (C 48 0).toInt) (hx : ∀ n1 tg1 I1 R1 c1 s1, yX n tg I R n1 tg1 I1 R1 → c1 ≤ c + 8 → s1 ≤ s + 80 → yW xm_X14_digest xc_X14_digest_169 [some (.ref 83), some (.long (yDS C x3.toInt.toNat x0)), none, some (.int x3), none, none] [] (n1, tg1, I1, R1) c1 s1 Q) : ∀ (m : Nat) (x1 : Int64) (x4 : Int32) (n1 : Nat) (tg1 : Nat → yT) (I1 : Nat → Nat → Int32) (R1 : Nat → Nat → Value) (c1 s1 : Nat), yX n tg I R n1 tg1 I1 R1 → (2 ≤ x4.toInt) → (x4.toInt ≤ 10) → (x1 = dF x0 (fun w => (yOS (fun f => C (ySc f) x3.toInt.toNat) ((w : Int) + 2)).toInt64) (x4.toInt - 2).toNat) → 10 - x4.toInt < m → (c1 : Int) ≤ c + 1 * (x4.toInt - 2) → (s1 : Int) ≤ s + 10 * (x4.toInt - 2) → yW xm_X14_digest xc_X14_digest_143 [some (.ref 83), some (.long x1), none, some (.int x3), some (.int x4), none] [] (n1, tg1, I1, R1) c1 s1 Q := by
  intro m
  induction m with
  | zero =>
    intro x1 x4 n1 tg1 I1 R1 c1 s1 hX i0 i1 i2 hm hcc hss
    have hN := hR0.1
    exfalso; omega
  | succ m ih =>
    intro x1 x4 n1 tg1 I1 R1 c1 s1 hX i0 i1 i2 hm hcc hss
    have hS := hS0.x hX
    have hR := hR0.x hn hX
    have h94 : 94 ≤ n := hS0.1
    have hz := hX.sz h94
    have hxn := hX.1
    have hN := hR0.1
    have hnb : 94 ≤ nb := hR0.2.2.2.2.2.2
    have hE0 := (hE _ _ _ _ yX.rf).1
    have hE1 := (hE _ _ _ _ hX).1
    refine y_iload rfl rfl ?_
    refine y_bip rfl (by decide) ?_
    refine y_icmp_ge rfl j_X14_digest_169 (fun h_1 => ?_) (fun h_2 => ?_)
    · rw [yz_10] at h_1
      refine y_fgt (ls := [some _, some _, none, some _, none, none]) ⟨rfl, rfl, rfl, trivial⟩ ?_
      have e_ : x1 = (yDS C x3.toInt.toNat x0) := i2.trans (by rw [show (x4.toInt - 2).toNat = 8 by omega]; first | done | rfl)
      subst e_
      exact hx _ _ _ _ _ _ hX (by omega) (by omega)
    · rw [yz_10] at h_2
      refine y_lload_n rfl rfl ?_
      refine y_aload_n rfl rfl ?_
      refine y_iload_n rfl rfl ?_
      refine y_iload rfl rfl ?_
      refine y_virt rfl rfl rfl rfl rfl (ySh.t hS rfl) (ySh.n hS rfl) ?_
      have hE_3 := hE _ _ _ _ hX
      obtain ⟨⟨q83, q88, q89, q90, q91, q92⟩, eH_, ⟨eM_, eP_⟩, eT_, eS_, eL_, eV_, eF_, eA_, eB_, eW_⟩ := hE_3
      refine s_saleTold hS hR (Nat.le_trans hn hX.1) (by omega) (by omega) (by omega) (by omega) (fun b_ e_ _ => (eS_ _ (by omega) (by omega) b_ e_).1) (fun b_4 eb_4 hlo_4 hb0_4 v_4 n4 tg4 I4 R4 c_4 s_4 hv_4 hX1 hc_4 hs_4 => ?_)
      have hw_ := hv_4.trans ((eS_ _ (by omega) (by omega) _ eb_4).2 _ (by omega) (by omega))
      clear eH_ eM_ eP_ eT_ eS_ eL_ eV_ eF_ eA_ eB_ eW_
      have hnA := hX1.1
      have hX := hX.trans hX1
      have hS := hS0.x hX
      have hR := hR0.x hn hX
      have hz := hX.sz h94
      have hxn := hX.1
      refine y_ret1 ?_
      refine y_i2l rfl ?_
      refine y_static rfl rfl rfl rfl rfl ?_
      refine y_in (M := xm_X14_add) (ls := [some _, _, some _, _]) rfl rfl rfl ?_
      refine y_lload_n rfl rfl ?_
      refine y_ldc2 rfl ?_
      refine y_lmul rfl ?_
      refine y_lload_n rfl rfl ?_
      refine y_ladd rfl ?_
      refine y_lreturn rfl ?_
      refine y_ret1 ?_
      refine y_lstore_n (ls' := [some _, some _, _, some _, some _, _]) rfl rfl rfl ?_
      refine y_iinc (ls' := [some _, some _, _, some _, some _, _]) rfl rfl rfl rfl ?_
      refine y_goto rfl j_X14_digest_143 ?_
      exact ih _ _ _ _ _ _ _ _ hX (by first | omega | (rw [yinc (by omega)]; omega)) (by first | omega | (rw [yinc (by omega)]; omega)) (dF_nx (by omega) (by assumption) (by rw [hw_]; exact congrArg (fun z => (yOS (fun f => C (ySc f) x3.toInt.toNat) z).toInt64) (by omega))) (by first | omega | (rw [yinc (by omega)]; omega)) (by first | omega | (rw [yinc (by omega)]; omega)) (by first | omega | (rw [yinc (by omega)]; omega))
theorem lb_s_dig143 (hS0 : ySh n tg R) (hR0 : yRI K nb tg I R) (hn : nb ≤ n) (hE : ∀ n1 tg1 I1 R1, yX n tg I R n1 tg1 I1 R1 → yTd C I1 R1) (hC : yCI C) {x3 : Int32} {x0 : Int64} (h30 : 0 ≤ x3.toInt) (h31 : x3.toInt < (C 48 0).toInt) (hx : ∀ n1 tg1 I1 R1 c1 s1, yX n tg I R n1 tg1 I1 R1 → c1 ≤ c + 8 → s1 ≤ s + 80 → yW xm_X14_digest xc_X14_digest_169 [some (.ref 83), some (.long (yDS C x3.toInt.toNat x0)), none, some (.int x3), none, none] [] (n1, tg1, I1, R1) c1 s1 Q) : ∀ (x1 : Int64) (x4 : Int32), (2 ≤ x4.toInt) → (x4.toInt ≤ 10) → (x1 = dF x0 (fun w => (yOS (fun f => C (ySc f) x3.toInt.toNat) ((w : Int) + 2)).toInt64) (x4.toInt - 2).toNat) → 10 - x4.toInt < (100000 : Nat) → (x4.toInt - 2) = 0 → yW xm_X14_digest xc_X14_digest_143 [some (.ref 83), some (.long x1), none, some (.int x3), some (.int x4), none] [] (n, tg, I, R) c s Q := by
  intro x1 x4 i0 i1 i2 hm h0
  exact la_s_dig143 hS0 hR0 hn hE hC h30 h31 hx 100000 _ _ _ _ _ _ _ _ yX.rf i0 i1 i2 hm (by rw [h0]; omega) (by rw [h0]; omega)
theorem la_s_dig129 (hS0 : ySh n tg R) (hR0 : yRI K nb tg I R) (hn : nb ≤ n) (hE : ∀ n1 tg1 I1 R1, yX n tg I R n1 tg1 I1 R1 → yTd C I1 R1) (hC : yCI C) {x0 : Int64} (hx : ∀ n1 tg1 I1 R1 c1 s1, yX n tg I R n1 tg1 I1 R1 → c1 ≤ c + 96 → s1 ≤ s + 960 → yW xm_X14_digest xc_X14_digest_175 [some (.ref 83), some (.long (dN x0 (yDS C) (C 48 0).toInt.toNat)), none, none, none, none] [] (n1, tg1, I1, R1) c1 s1 Q) : ∀ (m : Nat) (x1 : Int64) (x3 : Int32) (n1 : Nat) (tg1 : Nat → yT) (I1 : Nat → Nat → Int32) (R1 : Nat → Nat → Value) (c1 s1 : Nat), yX n tg I R n1 tg1 I1 R1 → (0 ≤ x3.toInt) → (x3.toInt ≤ (C 48 0).toInt) → (x1 = dN x0 (yDS C) x3.toInt.toNat) → (C 48 0).toInt - x3.toInt < m → (c1 : Int) ≤ c + 8 * (x3.toInt) → (s1 : Int) ≤ s + 80 * (x3.toInt) → yW xm_X14_digest xc_X14_digest_129 [some (.ref 83), some (.long x1), none, some (.int x3), none, none] [] (n1, tg1, I1, R1) c1 s1 Q := by
  intro m
  induction m with
  | zero =>
    intro x1 x3 n1 tg1 I1 R1 c1 s1 hX i0 i1 i2 hm hcc hss
    have hN := hR0.1
    exfalso; omega
  | succ m ih =>
    intro x1 x3 n1 tg1 I1 R1 c1 s1 hX i0 i1 i2 hm hcc hss
    have hS := hS0.x hX
    have hR := hR0.x hn hX
    have h94 : 94 ≤ n := hS0.1
    have hz := hX.sz h94
    have hxn := hX.1
    have hN := hR0.1
    have hnb : 94 ≤ nb := hR0.2.2.2.2.2.2
    have hE0 := (hE _ _ _ _ yX.rf).1
    have hE1 := (hE _ _ _ _ hX).1
    refine y_iload_n rfl rfl ?_
    refine y_aload_n rfl rfl ?_
    refine y_getR rfl (ySh.t hS rfl) (ySh.n hS rfl) rfl rfl (ySh.r hS rfl) ?_
    refine y_virt rfl rfl rfl rfl rfl (ySh.t hS rfl) (ySh.n hS rfl) ?_
    refine y_in (M := xm_Jx4a65c_size_8abf5) (ls := [some _]) rfl rfl rfl ?_
    refine y_aload_n rfl rfl ?_
    refine y_getI rfl (ySh.t hS rfl) (ySh.n hS rfl) rfl rfl ?_
    refine y_ireturn rfl rfl rfl ?_
    refine y_ret1 ?_
    refine y_icmp_ge rfl j_X14_digest_175 (fun h_1 => ?_) (fun h_2 => ?_)
    · refine y_fgt (ls := [some _, some _, none, none, none, none]) ⟨rfl, rfl, trivial⟩ ?_
      have e_ : x1 = (dN x0 (yDS C) (C 48 0).toInt.toNat) := i2.trans (by rw [show x3.toInt.toNat = (C 48 0).toInt.toNat by omega]; first | done | rfl)
      subst e_
      exact hx _ _ _ _ _ _ hX (by omega) (by omega)
    · refine y_iconst rfl ?_
      refine y_istore (ls' := [some _, some _, _, some _, some _, _]) rfl rfl rfl ?_
      refine lb_s_dig143 hS hR (Nat.le_trans hn hX.1) (fun n1 tg1 I1 R1 hX1 => hE n1 tg1 I1 R1 (hX.trans hX1)) hC (by omega) (by omega) (fun n3 tg3 I3 R3 c_3 s_3 hX1 hc_3 hs_3 => ?_) _ _ (by decide) (by decide) (dF_z (by decide)) (by decide) (by decide)
      have hnA := hX1.1
      have hX := hX.trans hX1
      have hS := hS0.x hX
      have hR := hR0.x hn hX
      have hz := hX.sz h94
      have hxn := hX.1
      refine y_iinc (ls' := [some _, some _, _, some _, _, _]) rfl rfl rfl rfl ?_
      refine y_goto rfl j_X14_digest_129 ?_
      exact ih _ _ _ _ _ _ _ _ hX (by first | omega | (rw [yinc (by omega)]; omega)) (by first | omega | (rw [yinc (by omega)]; omega)) (dN_nx (by omega) (by assumption) rfl) (by first | omega | (rw [yinc (by omega)]; omega)) (by first | omega | (rw [yinc (by omega)]; omega)) (by first | omega | (rw [yinc (by omega)]; omega))
theorem lb_s_dig129 (hS0 : ySh n tg R) (hR0 : yRI K nb tg I R) (hn : nb ≤ n) (hE : ∀ n1 tg1 I1 R1, yX n tg I R n1 tg1 I1 R1 → yTd C I1 R1) (hC : yCI C) {x0 : Int64} (hx : ∀ n1 tg1 I1 R1 c1 s1, yX n tg I R n1 tg1 I1 R1 → c1 ≤ c + 96 → s1 ≤ s + 960 → yW xm_X14_digest xc_X14_digest_175 [some (.ref 83), some (.long (dN x0 (yDS C) (C 48 0).toInt.toNat)), none, none, none, none] [] (n1, tg1, I1, R1) c1 s1 Q) : ∀ (x1 : Int64) (x3 : Int32), (0 ≤ x3.toInt) → (x3.toInt ≤ (C 48 0).toInt) → (x1 = dN x0 (yDS C) x3.toInt.toNat) → (C 48 0).toInt - x3.toInt < (100000 : Nat) → (x3.toInt) = 0 → yW xm_X14_digest xc_X14_digest_129 [some (.ref 83), some (.long x1), none, some (.int x3), none, none] [] (n, tg, I, R) c s Q := by
  intro x1 x3 i0 i1 i2 hm h0
  exact la_s_dig129 hS0 hR0 hn hE hC  hx 100000 _ _ _ _ _ _ _ _ yX.rf i0 i1 i2 hm (by rw [h0]; omega) (by rw [h0]; omega)
theorem la_s_dig191 (hS0 : ySh n tg R) (hR0 : yRI K nb tg I R) (hn : nb ≤ n) (hE : ∀ n1 tg1 I1 R1, yX n tg I R n1 tg1 I1 R1 → yTd C I1 R1) (hC : yCI C) {x3 : Int32} {x0 : Int64} (h30 : 0 ≤ x3.toInt) (h31 : x3.toInt < (C 59 0).toInt) (hx : ∀ n1 tg1 I1 R1 c1 s1, yX n tg I R n1 tg1 I1 R1 → c1 ≤ c + 4 → s1 ≤ s + 24 → yW xm_X14_digest xc_X14_digest_217 [some (.ref 83), some (.long (yDL C x3.toInt.toNat x0)), none, some (.int x3), none, none] [] (n1, tg1, I1, R1) c1 s1 Q) : ∀ (m : Nat) (x1 : Int64) (x4 : Int32) (n1 : Nat) (tg1 : Nat → yT) (I1 : Nat → Nat → Int32) (R1 : Nat → Nat → Value) (c1 s1 : Nat), yX n tg I R n1 tg1 I1 R1 → (2 ≤ x4.toInt) → (x4.toInt ≤ 6) → (x1 = dF x0 (fun w => (Int32.ofInt (yOL (fun f => C (yLc f) x3.toInt.toNat) (C 66 x3.toInt.toNat) ((w : Int) + 2))).toInt64) (x4.toInt - 2).toNat) → 6 - x4.toInt < m → (c1 : Int) ≤ c + 1 * (x4.toInt - 2) → (s1 : Int) ≤ s + 6 * (x4.toInt - 2) → yW xm_X14_digest xc_X14_digest_191 [some (.ref 83), some (.long x1), none, some (.int x3), some (.int x4), none] [] (n1, tg1, I1, R1) c1 s1 Q := by
  intro m
  induction m with
  | zero =>
    intro x1 x4 n1 tg1 I1 R1 c1 s1 hX i0 i1 i2 hm hcc hss
    have hN := hR0.1
    exfalso; omega
  | succ m ih =>
    intro x1 x4 n1 tg1 I1 R1 c1 s1 hX i0 i1 i2 hm hcc hss
    have hS := hS0.x hX
    have hR := hR0.x hn hX
    have h94 : 94 ≤ n := hS0.1
    have hz := hX.sz h94
    have hxn := hX.1
    have hN := hR0.1
    have hnb : 94 ≤ nb := hR0.2.2.2.2.2.2
    have hE0 := (hE _ _ _ _ yX.rf).1
    have hE1 := (hE _ _ _ _ hX).1
    refine y_iload rfl rfl ?_
    refine y_bip rfl (by decide) ?_
    refine y_icmp_ge rfl j_X14_digest_217 (fun h_1 => ?_) (fun h_2 => ?_)
    · rw [yz_6] at h_1
      refine y_fgt (ls := [some _, some _, none, some _, none, none]) ⟨rfl, rfl, rfl, trivial⟩ ?_
      have e_ : x1 = (yDL C x3.toInt.toNat x0) := i2.trans (by rw [show (x4.toInt - 2).toNat = 4 by omega]; first | done | rfl)
      subst e_
      exact hx _ _ _ _ _ _ hX (by omega) (by omega)
    · rw [yz_6] at h_2
      refine y_lload_n rfl rfl ?_
      refine y_aload_n rfl rfl ?_
      refine y_iload_n rfl rfl ?_
      refine y_iload rfl rfl ?_
      refine y_virt rfl rfl rfl rfl rfl (ySh.t hS rfl) (ySh.n hS rfl) ?_
      have hE_3 := hE _ _ _ _ hX
      obtain ⟨⟨q83, q88, q89, q90, q91, q92⟩, eH_, ⟨eM_, eP_⟩, eT_, eS_, eL_, eV_, eF_, eA_, eB_, eW_⟩ := hE_3
      refine s_leaseTold hS hR (Nat.le_trans hn hX.1) (by omega) (by omega) (by omega) (by omega) (fun b_4 eb_4 hlo_4 hb0_4 v_4 n4 tg4 I4 R4 c_4 s_4 hv_4 hX1 hc_4 hs_4 => ?_)
      have hw_ := hv_4.trans (eL_ _ (by omega) (by omega) _ eb_4 _ (by omega) (by omega))
      clear eH_ eM_ eP_ eT_ eS_ eL_ eV_ eF_ eA_ eB_ eW_
      have hnA := hX1.1
      have hX := hX.trans hX1
      have hS := hS0.x hX
      have hR := hR0.x hn hX
      have hz := hX.sz h94
      have hxn := hX.1
      refine y_ret1 ?_
      refine y_i2l rfl ?_
      refine y_static rfl rfl rfl rfl rfl ?_
      refine y_in (M := xm_X14_add) (ls := [some _, _, some _, _]) rfl rfl rfl ?_
      refine y_lload_n rfl rfl ?_
      refine y_ldc2 rfl ?_
      refine y_lmul rfl ?_
      refine y_lload_n rfl rfl ?_
      refine y_ladd rfl ?_
      refine y_lreturn rfl ?_
      refine y_ret1 ?_
      refine y_lstore_n (ls' := [some _, some _, _, some _, some _, _]) rfl rfl rfl ?_
      refine y_iinc (ls' := [some _, some _, _, some _, some _, _]) rfl rfl rfl rfl ?_
      refine y_goto rfl j_X14_digest_191 ?_
      exact ih _ _ _ _ _ _ _ _ hX (by first | omega | (rw [yinc (by omega)]; omega)) (by first | omega | (rw [yinc (by omega)]; omega)) (dF_nx (by omega) (by assumption) (by rw [dV hw_]; exact congrArg (fun z => (Int32.ofInt (yOL (fun f => C (yLc f) x3.toInt.toNat) (C 66 x3.toInt.toNat) z)).toInt64) (by omega))) (by first | omega | (rw [yinc (by omega)]; omega)) (by first | omega | (rw [yinc (by omega)]; omega)) (by first | omega | (rw [yinc (by omega)]; omega))
theorem lb_s_dig191 (hS0 : ySh n tg R) (hR0 : yRI K nb tg I R) (hn : nb ≤ n) (hE : ∀ n1 tg1 I1 R1, yX n tg I R n1 tg1 I1 R1 → yTd C I1 R1) (hC : yCI C) {x3 : Int32} {x0 : Int64} (h30 : 0 ≤ x3.toInt) (h31 : x3.toInt < (C 59 0).toInt) (hx : ∀ n1 tg1 I1 R1 c1 s1, yX n tg I R n1 tg1 I1 R1 → c1 ≤ c + 4 → s1 ≤ s + 24 → yW xm_X14_digest xc_X14_digest_217 [some (.ref 83), some (.long (yDL C x3.toInt.toNat x0)), none, some (.int x3), none, none] [] (n1, tg1, I1, R1) c1 s1 Q) : ∀ (x1 : Int64) (x4 : Int32), (2 ≤ x4.toInt) → (x4.toInt ≤ 6) → (x1 = dF x0 (fun w => (Int32.ofInt (yOL (fun f => C (yLc f) x3.toInt.toNat) (C 66 x3.toInt.toNat) ((w : Int) + 2))).toInt64) (x4.toInt - 2).toNat) → 6 - x4.toInt < (100000 : Nat) → (x4.toInt - 2) = 0 → yW xm_X14_digest xc_X14_digest_191 [some (.ref 83), some (.long x1), none, some (.int x3), some (.int x4), none] [] (n, tg, I, R) c s Q := by
  intro x1 x4 i0 i1 i2 hm h0
  exact la_s_dig191 hS0 hR0 hn hE hC h30 h31 hx 100000 _ _ _ _ _ _ _ _ yX.rf i0 i1 i2 hm (by rw [h0]; omega) (by rw [h0]; omega)
theorem la_s_dig177 (hS0 : ySh n tg R) (hR0 : yRI K nb tg I R) (hn : nb ≤ n) (hE : ∀ n1 tg1 I1 R1, yX n tg I R n1 tg1 I1 R1 → yTd C I1 R1) (hC : yCI C) {x0 : Int64} (hx : ∀ n1 tg1 I1 R1 c1 s1, yX n tg I R n1 tg1 I1 R1 → c1 ≤ c + 32 → s1 ≤ s + 192 → yW xm_X14_digest xc_X14_digest_223 [some (.ref 83), some (.long (dN x0 (yDL C) (C 59 0).toInt.toNat)), none, none, none, none] [] (n1, tg1, I1, R1) c1 s1 Q) : ∀ (m : Nat) (x1 : Int64) (x3 : Int32) (n1 : Nat) (tg1 : Nat → yT) (I1 : Nat → Nat → Int32) (R1 : Nat → Nat → Value) (c1 s1 : Nat), yX n tg I R n1 tg1 I1 R1 → (0 ≤ x3.toInt) → (x3.toInt ≤ (C 59 0).toInt) → (x1 = dN x0 (yDL C) x3.toInt.toNat) → (C 59 0).toInt - x3.toInt < m → (c1 : Int) ≤ c + 4 * (x3.toInt) → (s1 : Int) ≤ s + 24 * (x3.toInt) → yW xm_X14_digest xc_X14_digest_177 [some (.ref 83), some (.long x1), none, some (.int x3), none, none] [] (n1, tg1, I1, R1) c1 s1 Q := by
  intro m
  induction m with
  | zero =>
    intro x1 x3 n1 tg1 I1 R1 c1 s1 hX i0 i1 i2 hm hcc hss
    have hN := hR0.1
    exfalso; omega
  | succ m ih =>
    intro x1 x3 n1 tg1 I1 R1 c1 s1 hX i0 i1 i2 hm hcc hss
    have hS := hS0.x hX
    have hR := hR0.x hn hX
    have h94 : 94 ≤ n := hS0.1
    have hz := hX.sz h94
    have hxn := hX.1
    have hN := hR0.1
    have hnb : 94 ≤ nb := hR0.2.2.2.2.2.2
    have hE0 := (hE _ _ _ _ yX.rf).1
    have hE1 := (hE _ _ _ _ hX).1
    refine y_iload_n rfl rfl ?_
    refine y_aload_n rfl rfl ?_
    refine y_getR rfl (ySh.t hS rfl) (ySh.n hS rfl) rfl rfl (ySh.r hS rfl) ?_
    refine y_virt rfl rfl rfl rfl rfl (ySh.t hS rfl) (ySh.n hS rfl) ?_
    refine y_in (M := xm_Jx4a65c_size_8abf5) (ls := [some _]) rfl rfl rfl ?_
    refine y_aload_n rfl rfl ?_
    refine y_getI rfl (ySh.t hS rfl) (ySh.n hS rfl) rfl rfl ?_
    refine y_ireturn rfl rfl rfl ?_
    refine y_ret1 ?_
    refine y_icmp_ge rfl j_X14_digest_223 (fun h_1 => ?_) (fun h_2 => ?_)
    · refine y_fgt (ls := [some _, some _, none, none, none, none]) ⟨rfl, rfl, trivial⟩ ?_
      have e_ : x1 = (dN x0 (yDL C) (C 59 0).toInt.toNat) := i2.trans (by rw [show x3.toInt.toNat = (C 59 0).toInt.toNat by omega]; first | done | rfl)
      subst e_
      exact hx _ _ _ _ _ _ hX (by omega) (by omega)
    · refine y_iconst rfl ?_
      refine y_istore (ls' := [some _, some _, _, some _, some _, _]) rfl rfl rfl ?_
      refine lb_s_dig191 hS hR (Nat.le_trans hn hX.1) (fun n1 tg1 I1 R1 hX1 => hE n1 tg1 I1 R1 (hX.trans hX1)) hC (by omega) (by omega) (fun n3 tg3 I3 R3 c_3 s_3 hX1 hc_3 hs_3 => ?_) _ _ (by decide) (by decide) (dF_z (by decide)) (by decide) (by decide)
      have hnA := hX1.1
      have hX := hX.trans hX1
      have hS := hS0.x hX
      have hR := hR0.x hn hX
      have hz := hX.sz h94
      have hxn := hX.1
      refine y_iinc (ls' := [some _, some _, _, some _, _, _]) rfl rfl rfl rfl ?_
      refine y_goto rfl j_X14_digest_177 ?_
      exact ih _ _ _ _ _ _ _ _ hX (by first | omega | (rw [yinc (by omega)]; omega)) (by first | omega | (rw [yinc (by omega)]; omega)) (dN_nx (by omega) (by assumption) rfl) (by first | omega | (rw [yinc (by omega)]; omega)) (by first | omega | (rw [yinc (by omega)]; omega)) (by first | omega | (rw [yinc (by omega)]; omega))
theorem lb_s_dig177 (hS0 : ySh n tg R) (hR0 : yRI K nb tg I R) (hn : nb ≤ n) (hE : ∀ n1 tg1 I1 R1, yX n tg I R n1 tg1 I1 R1 → yTd C I1 R1) (hC : yCI C) {x0 : Int64} (hx : ∀ n1 tg1 I1 R1 c1 s1, yX n tg I R n1 tg1 I1 R1 → c1 ≤ c + 32 → s1 ≤ s + 192 → yW xm_X14_digest xc_X14_digest_223 [some (.ref 83), some (.long (dN x0 (yDL C) (C 59 0).toInt.toNat)), none, none, none, none] [] (n1, tg1, I1, R1) c1 s1 Q) : ∀ (x1 : Int64) (x3 : Int32), (0 ≤ x3.toInt) → (x3.toInt ≤ (C 59 0).toInt) → (x1 = dN x0 (yDL C) x3.toInt.toNat) → (C 59 0).toInt - x3.toInt < (100000 : Nat) → (x3.toInt) = 0 → yW xm_X14_digest xc_X14_digest_177 [some (.ref 83), some (.long x1), none, some (.int x3), none, none] [] (n, tg, I, R) c s Q := by
  intro x1 x3 i0 i1 i2 hm h0
  exact la_s_dig177 hS0 hR0 hn hE hC  hx 100000 _ _ _ _ _ _ _ _ yX.rf i0 i1 i2 hm (by rw [h0]; omega) (by rw [h0]; omega)
theorem la_s_dig251 (hS0 : ySh n tg R) (hR0 : yRI K nb tg I R) (hn : nb ≤ n) (hE : ∀ n1 tg1 I1 R1, yX n tg I R n1 tg1 I1 R1 → yTd C I1 R1) (hC : yCI C) {x3 x4 : Int32} {x0 : Int64} (h30 : 0 ≤ x3.toInt) (h31 : x3.toInt < (C 69 0).toInt) (h40 : 0 ≤ x4.toInt) (h41 : x4.toInt < (C 38 0).toInt) (hx : ∀ n1 tg1 I1 R1 c1 s1, yX n tg I R n1 tg1 I1 R1 → c1 ≤ c + 0 → s1 ≤ s + 0 → yW xm_X14_digest xc_X14_digest_278 [some (.ref 83), some (.long (yDV C x3.toInt.toNat x4.toInt.toNat x0)), none, some (.int x3), some (.int x4), none] [] (n1, tg1, I1, R1) c1 s1 Q) : ∀ (m : Nat) (x1 : Int64) (x5 : Int32) (n1 : Nat) (tg1 : Nat → yT) (I1 : Nat → Nat → Int32) (R1 : Nat → Nat → Value) (c1 s1 : Nat), yX n tg I R n1 tg1 I1 R1 → (0 ≤ x5.toInt) → (x5.toInt ≤ 3) → (x1 = dF x0 (fun w => (C (70 + yOVf (w : Int)) (x3.toInt.toNat * 9 + x4.toInt.toNat)).toInt64) (x5.toInt - 0).toNat) → 3 - x5.toInt < m → (c1 : Int) ≤ c + 0 * (x5.toInt) → (s1 : Int) ≤ s + 0 * (x5.toInt) → yW xm_X14_digest xc_X14_digest_251 [some (.ref 83), some (.long x1), none, some (.int x3), some (.int x4), some (.int x5)] [] (n1, tg1, I1, R1) c1 s1 Q := by
  intro m
  induction m with
  | zero =>
    intro x1 x5 n1 tg1 I1 R1 c1 s1 hX i0 i1 i2 hm hcc hss
    have hN := hR0.1
    exfalso; omega
  | succ m ih =>
    intro x1 x5 n1 tg1 I1 R1 c1 s1 hX i0 i1 i2 hm hcc hss
    have hS := hS0.x hX
    have hR := hR0.x hn hX
    have h94 : 94 ≤ n := hS0.1
    have hz := hX.sz h94
    have hxn := hX.1
    have hN := hR0.1
    have hnb : 94 ≤ nb := hR0.2.2.2.2.2.2
    have hE0 := (hE _ _ _ _ yX.rf).1
    have hE1 := (hE _ _ _ _ hX).1
    refine y_iload rfl rfl ?_
    refine y_iconst rfl ?_
    refine y_icmp_ge rfl j_X14_digest_278 (fun h_1 => ?_) (fun h_2 => ?_)
    · rw [yz_3] at h_1
      refine y_fgt (ls := [some _, some _, none, some _, some _, none]) ⟨rfl, rfl, rfl, rfl, trivial⟩ ?_
      have e_ : x1 = (yDV C x3.toInt.toNat x4.toInt.toNat x0) := i2.trans (by rw [show (x5.toInt - 0).toNat = 3 by omega]; first | done | rfl)
      subst e_
      exact hx _ _ _ _ _ _ hX (by omega) (by omega)
    · rw [yz_3] at h_2
      refine y_lload_n rfl rfl ?_
      refine y_aload_n rfl rfl ?_
      refine y_iload_n rfl rfl ?_
      refine y_iload rfl rfl ?_
      refine y_iload rfl rfl ?_
      refine y_virt rfl rfl rfl rfl rfl (ySh.t hS rfl) (ySh.n hS rfl) ?_
      obtain ⟨⟨q83, q88, q89, q90, q91, q92⟩, eH_, ⟨eM_, eP_⟩, eT_, eS_, eL_, eV_, eF_, eA_, eB_, eW_⟩ := hE _ _ _ _ hX
      refine s_ventTold hS hR (Nat.le_trans hn hX.1) (by omega) (by omega) (by omega) (by omega) (fun b_3 eb_3 v_3 hv_3 => ?_)
      have hw_ := hv_3.trans (eV_ _ (by omega) (by omega) _ eb_3 _ _ yOVf_lt (by first | omega | decide))
      clear eH_ eM_ eP_ eT_ eS_ eL_ eV_ eF_ eA_ eB_ eW_
      refine y_ret1 ?_
      refine y_i2l rfl ?_
      refine y_static rfl rfl rfl rfl rfl ?_
      refine y_in (M := xm_X14_add) (ls := [some _, _, some _, _]) rfl rfl rfl ?_
      refine y_lload_n rfl rfl ?_
      refine y_ldc2 rfl ?_
      refine y_lmul rfl ?_
      refine y_lload_n rfl rfl ?_
      refine y_ladd rfl ?_
      refine y_lreturn rfl ?_
      refine y_ret1 ?_
      refine y_lstore_n (ls' := [some _, some _, _, some _, some _, some _]) rfl rfl rfl ?_
      refine y_iinc (ls' := [some _, some _, _, some _, some _, some _]) rfl rfl rfl rfl ?_
      refine y_goto rfl j_X14_digest_251 ?_
      exact ih _ _ _ _ _ _ _ _ hX (by first | omega | (rw [yinc (by omega)]; omega)) (by first | omega | (rw [yinc (by omega)]; omega)) (dF_nx (by omega) (by assumption) (by rw [hw_]; exact congrArg (fun z => (C (70 + yOVf z) (x3.toInt.toNat * 9 + x4.toInt.toNat)).toInt64) (by omega))) (by first | omega | (rw [yinc (by omega)]; omega)) (by first | omega | (rw [yinc (by omega)]; omega)) (by first | omega | (rw [yinc (by omega)]; omega))
theorem lb_s_dig251 (hS0 : ySh n tg R) (hR0 : yRI K nb tg I R) (hn : nb ≤ n) (hE : ∀ n1 tg1 I1 R1, yX n tg I R n1 tg1 I1 R1 → yTd C I1 R1) (hC : yCI C) {x3 x4 : Int32} {x0 : Int64} (h30 : 0 ≤ x3.toInt) (h31 : x3.toInt < (C 69 0).toInt) (h40 : 0 ≤ x4.toInt) (h41 : x4.toInt < (C 38 0).toInt) (hx : ∀ n1 tg1 I1 R1 c1 s1, yX n tg I R n1 tg1 I1 R1 → c1 ≤ c + 0 → s1 ≤ s + 0 → yW xm_X14_digest xc_X14_digest_278 [some (.ref 83), some (.long (yDV C x3.toInt.toNat x4.toInt.toNat x0)), none, some (.int x3), some (.int x4), none] [] (n1, tg1, I1, R1) c1 s1 Q) : ∀ (x1 : Int64) (x5 : Int32), (0 ≤ x5.toInt) → (x5.toInt ≤ 3) → (x1 = dF x0 (fun w => (C (70 + yOVf (w : Int)) (x3.toInt.toNat * 9 + x4.toInt.toNat)).toInt64) (x5.toInt - 0).toNat) → 3 - x5.toInt < (100000 : Nat) → (x5.toInt) = 0 → yW xm_X14_digest xc_X14_digest_251 [some (.ref 83), some (.long x1), none, some (.int x3), some (.int x4), some (.int x5)] [] (n, tg, I, R) c s Q := by
  intro x1 x5 i0 i1 i2 hm h0
  exact la_s_dig251 hS0 hR0 hn hE hC h30 h31 h40 h41 hx 100000 _ _ _ _ _ _ _ _ yX.rf i0 i1 i2 hm (by rw [h0]; omega) (by rw [h0]; omega)
theorem la_s_dig239 (hS0 : ySh n tg R) (hR0 : yRI K nb tg I R) (hn : nb ≤ n) (hE : ∀ n1 tg1 I1 R1, yX n tg I R n1 tg1 I1 R1 → yTd C I1 R1) (hC : yCI C) {x3 : Int32} {x0 : Int64} (h30 : 0 ≤ x3.toInt) (h31 : x3.toInt < (C 69 0).toInt) (hx : ∀ n1 tg1 I1 R1 c1 s1, yX n tg I R n1 tg1 I1 R1 → c1 ≤ c + 0 → s1 ≤ s + 0 → yW xm_X14_digest xc_X14_digest_284 [some (.ref 83), some (.long (dN x0 (fun p u => yDV C x3.toInt.toNat p u) (C 38 0).toInt.toNat)), none, some (.int x3), none, none] [] (n1, tg1, I1, R1) c1 s1 Q) : ∀ (m : Nat) (x1 : Int64) (x4 : Int32) (n1 : Nat) (tg1 : Nat → yT) (I1 : Nat → Nat → Int32) (R1 : Nat → Nat → Value) (c1 s1 : Nat), yX n tg I R n1 tg1 I1 R1 → (0 ≤ x4.toInt) → (x4.toInt ≤ (C 38 0).toInt) → (x1 = dN x0 (fun p u => yDV C x3.toInt.toNat p u) x4.toInt.toNat) → (C 38 0).toInt - x4.toInt < m → (c1 : Int) ≤ c + 0 * (x4.toInt) → (s1 : Int) ≤ s + 0 * (x4.toInt) → yW xm_X14_digest xc_X14_digest_239 [some (.ref 83), some (.long x1), none, some (.int x3), some (.int x4), none] [] (n1, tg1, I1, R1) c1 s1 Q := by
  intro m
  induction m with
  | zero =>
    intro x1 x4 n1 tg1 I1 R1 c1 s1 hX i0 i1 i2 hm hcc hss
    have hN := hR0.1
    exfalso; omega
  | succ m ih =>
    intro x1 x4 n1 tg1 I1 R1 c1 s1 hX i0 i1 i2 hm hcc hss
    have hS := hS0.x hX
    have hR := hR0.x hn hX
    have h94 : 94 ≤ n := hS0.1
    have hz := hX.sz h94
    have hxn := hX.1
    have hN := hR0.1
    have hnb : 94 ≤ nb := hR0.2.2.2.2.2.2
    have hE0 := (hE _ _ _ _ yX.rf).1
    have hE1 := (hE _ _ _ _ hX).1
    refine y_iload rfl rfl ?_
    refine y_aload_n rfl rfl ?_
    refine y_getI rfl (ySh.t hS rfl) (ySh.n hS rfl) rfl rfl ?_
    refine y_icmp_ge rfl j_X14_digest_284 (fun h_1 => ?_) (fun h_2 => ?_)
    · refine y_fgt (ls := [some _, some _, none, some _, none, none]) ⟨rfl, rfl, rfl, trivial⟩ ?_
      have e_ : x1 = (dN x0 (fun p u => yDV C x3.toInt.toNat p u) (C 38 0).toInt.toNat) := i2.trans (by rw [show x4.toInt.toNat = (C 38 0).toInt.toNat by omega]; first | done | rfl)
      subst e_
      exact hx _ _ _ _ _ _ hX (by omega) (by omega)
    · refine y_iconst rfl ?_
      refine y_istore (ls' := [some _, some _, _, some _, some _, some _]) rfl rfl rfl ?_
      refine lb_s_dig251 hS hR (Nat.le_trans hn hX.1) (fun n1 tg1 I1 R1 hX1 => hE n1 tg1 I1 R1 (hX.trans hX1)) hC (by omega) (by omega) (by omega) (by omega) (fun n3 tg3 I3 R3 c_3 s_3 hX1 hc_3 hs_3 => ?_) _ _ (by decide) (by decide) (dF_z (by decide)) (by decide) (by decide)
      have hnA := hX1.1
      have hX := hX.trans hX1
      have hS := hS0.x hX
      have hR := hR0.x hn hX
      have hz := hX.sz h94
      have hxn := hX.1
      refine y_iinc (ls' := [some _, some _, _, some _, some _, _]) rfl rfl rfl rfl ?_
      refine y_goto rfl j_X14_digest_239 ?_
      exact ih _ _ _ _ _ _ _ _ hX (by first | omega | (rw [yinc (by omega)]; omega)) (by first | omega | (rw [yinc (by omega)]; omega)) (dN_nx (by omega) (by assumption) rfl) (by first | omega | (rw [yinc (by omega)]; omega)) (by first | omega | (rw [yinc (by omega)]; omega)) (by first | omega | (rw [yinc (by omega)]; omega))
theorem lb_s_dig239 (hS0 : ySh n tg R) (hR0 : yRI K nb tg I R) (hn : nb ≤ n) (hE : ∀ n1 tg1 I1 R1, yX n tg I R n1 tg1 I1 R1 → yTd C I1 R1) (hC : yCI C) {x3 : Int32} {x0 : Int64} (h30 : 0 ≤ x3.toInt) (h31 : x3.toInt < (C 69 0).toInt) (hx : ∀ n1 tg1 I1 R1 c1 s1, yX n tg I R n1 tg1 I1 R1 → c1 ≤ c + 0 → s1 ≤ s + 0 → yW xm_X14_digest xc_X14_digest_284 [some (.ref 83), some (.long (dN x0 (fun p u => yDV C x3.toInt.toNat p u) (C 38 0).toInt.toNat)), none, some (.int x3), none, none] [] (n1, tg1, I1, R1) c1 s1 Q) : ∀ (x1 : Int64) (x4 : Int32), (0 ≤ x4.toInt) → (x4.toInt ≤ (C 38 0).toInt) → (x1 = dN x0 (fun p u => yDV C x3.toInt.toNat p u) x4.toInt.toNat) → (C 38 0).toInt - x4.toInt < (100000 : Nat) → (x4.toInt) = 0 → yW xm_X14_digest xc_X14_digest_239 [some (.ref 83), some (.long x1), none, some (.int x3), some (.int x4), none] [] (n, tg, I, R) c s Q := by
  intro x1 x4 i0 i1 i2 hm h0
  exact la_s_dig239 hS0 hR0 hn hE hC h30 h31 hx 100000 _ _ _ _ _ _ _ _ yX.rf i0 i1 i2 hm (by rw [h0]; omega) (by rw [h0]; omega)
theorem la_s_dig287 (hS0 : ySh n tg R) (hR0 : yRI K nb tg I R) (hn : nb ≤ n) (hE : ∀ n1 tg1 I1 R1, yX n tg I R n1 tg1 I1 R1 → yTd C I1 R1) (hC : yCI C) {x3 : Int32} {x0 : Int64} (h30 : 0 ≤ x3.toInt) (h31 : x3.toInt < (C 69 0).toInt) (hx : ∀ n1 tg1 I1 R1 c1 s1, yX n tg I R n1 tg1 I1 R1 → c1 ≤ c + 0 → s1 ≤ s + 0 → yW xm_X14_digest xc_X14_digest_314 [some (.ref 83), some (.long (yDV C x3.toInt.toNat 8 x0)), none, some (.int x3), none, none] [] (n1, tg1, I1, R1) c1 s1 Q) : ∀ (m : Nat) (x1 : Int64) (x4 : Int32) (n1 : Nat) (tg1 : Nat → yT) (I1 : Nat → Nat → Int32) (R1 : Nat → Nat → Value) (c1 s1 : Nat), yX n tg I R n1 tg1 I1 R1 → (0 ≤ x4.toInt) → (x4.toInt ≤ 3) → (x1 = dF x0 (fun w => (C (70 + yOVf (w : Int)) (x3.toInt.toNat * 9 + 8)).toInt64) (x4.toInt - 0).toNat) → 3 - x4.toInt < m → (c1 : Int) ≤ c + 0 * (x4.toInt) → (s1 : Int) ≤ s + 0 * (x4.toInt) → yW xm_X14_digest xc_X14_digest_287 [some (.ref 83), some (.long x1), none, some (.int x3), some (.int x4), none] [] (n1, tg1, I1, R1) c1 s1 Q := by
  intro m
  induction m with
  | zero =>
    intro x1 x4 n1 tg1 I1 R1 c1 s1 hX i0 i1 i2 hm hcc hss
    have hN := hR0.1
    exfalso; omega
  | succ m ih =>
    intro x1 x4 n1 tg1 I1 R1 c1 s1 hX i0 i1 i2 hm hcc hss
    have hS := hS0.x hX
    have hR := hR0.x hn hX
    have h94 : 94 ≤ n := hS0.1
    have hz := hX.sz h94
    have hxn := hX.1
    have hN := hR0.1
    have hnb : 94 ≤ nb := hR0.2.2.2.2.2.2
    have hE0 := (hE _ _ _ _ yX.rf).1
    have hE1 := (hE _ _ _ _ hX).1
    refine y_iload rfl rfl ?_
    refine y_iconst rfl ?_
    refine y_icmp_ge rfl j_X14_digest_314 (fun h_1 => ?_) (fun h_2 => ?_)
    · rw [yz_3] at h_1
      refine y_fgt (ls := [some _, some _, none, some _, none, none]) ⟨rfl, rfl, rfl, trivial⟩ ?_
      have e_ : x1 = (yDV C x3.toInt.toNat 8 x0) := i2.trans (by rw [show (x4.toInt - 0).toNat = 3 by omega]; first | done | rfl)
      subst e_
      exact hx _ _ _ _ _ _ hX (by omega) (by omega)
    · rw [yz_3] at h_2
      refine y_lload_n rfl rfl ?_
      refine y_aload_n rfl rfl ?_
      refine y_iload_n rfl rfl ?_
      refine y_bip rfl (by decide) ?_
      refine y_iload rfl rfl ?_
      refine y_virt rfl rfl rfl rfl rfl (ySh.t hS rfl) (ySh.n hS rfl) ?_
      obtain ⟨⟨q83, q88, q89, q90, q91, q92⟩, eH_, ⟨eM_, eP_⟩, eT_, eS_, eL_, eV_, eF_, eA_, eB_, eW_⟩ := hE _ _ _ _ hX
      refine s_ventTold hS hR (Nat.le_trans hn hX.1) (by omega) (by omega) (by rw [yz_8]; omega) (by rw [yz_8]; omega) (fun b_3 eb_3 v_3 hv_3 => ?_)
      have hw_ := hv_3.trans (eV_ _ (by omega) (by omega) _ eb_3 _ _ yOVf_lt (by first | omega | decide))
      clear eH_ eM_ eP_ eT_ eS_ eL_ eV_ eF_ eA_ eB_ eW_
      refine y_ret1 ?_
      refine y_i2l rfl ?_
      refine y_static rfl rfl rfl rfl rfl ?_
      refine y_in (M := xm_X14_add) (ls := [some _, _, some _, _]) rfl rfl rfl ?_
      refine y_lload_n rfl rfl ?_
      refine y_ldc2 rfl ?_
      refine y_lmul rfl ?_
      refine y_lload_n rfl rfl ?_
      refine y_ladd rfl ?_
      refine y_lreturn rfl ?_
      refine y_ret1 ?_
      refine y_lstore_n (ls' := [some _, some _, _, some _, some _, _]) rfl rfl rfl ?_
      refine y_iinc (ls' := [some _, some _, _, some _, some _, _]) rfl rfl rfl rfl ?_
      refine y_goto rfl j_X14_digest_287 ?_
      exact ih _ _ _ _ _ _ _ _ hX (by first | omega | (rw [yinc (by omega)]; omega)) (by first | omega | (rw [yinc (by omega)]; omega)) (dF_nx (by omega) (by assumption) (by rw [hw_]; exact congrArg (fun z => (C (70 + yOVf z) (x3.toInt.toNat * 9 + 8)).toInt64) (by omega))) (by first | omega | (rw [yinc (by omega)]; omega)) (by first | omega | (rw [yinc (by omega)]; omega)) (by first | omega | (rw [yinc (by omega)]; omega))
theorem lb_s_dig287 (hS0 : ySh n tg R) (hR0 : yRI K nb tg I R) (hn : nb ≤ n) (hE : ∀ n1 tg1 I1 R1, yX n tg I R n1 tg1 I1 R1 → yTd C I1 R1) (hC : yCI C) {x3 : Int32} {x0 : Int64} (h30 : 0 ≤ x3.toInt) (h31 : x3.toInt < (C 69 0).toInt) (hx : ∀ n1 tg1 I1 R1 c1 s1, yX n tg I R n1 tg1 I1 R1 → c1 ≤ c + 0 → s1 ≤ s + 0 → yW xm_X14_digest xc_X14_digest_314 [some (.ref 83), some (.long (yDV C x3.toInt.toNat 8 x0)), none, some (.int x3), none, none] [] (n1, tg1, I1, R1) c1 s1 Q) : ∀ (x1 : Int64) (x4 : Int32), (0 ≤ x4.toInt) → (x4.toInt ≤ 3) → (x1 = dF x0 (fun w => (C (70 + yOVf (w : Int)) (x3.toInt.toNat * 9 + 8)).toInt64) (x4.toInt - 0).toNat) → 3 - x4.toInt < (100000 : Nat) → (x4.toInt) = 0 → yW xm_X14_digest xc_X14_digest_287 [some (.ref 83), some (.long x1), none, some (.int x3), some (.int x4), none] [] (n, tg, I, R) c s Q := by
  intro x1 x4 i0 i1 i2 hm h0
  exact la_s_dig287 hS0 hR0 hn hE hC h30 h31 hx 100000 _ _ _ _ _ _ _ _ yX.rf i0 i1 i2 hm (by rw [h0]; omega) (by rw [h0]; omega)
theorem la_s_dig225 (hS0 : ySh n tg R) (hR0 : yRI K nb tg I R) (hn : nb ≤ n) (hE : ∀ n1 tg1 I1 R1, yX n tg I R n1 tg1 I1 R1 → yTd C I1 R1) (hC : yCI C) {x0 : Int64} (hx : ∀ n1 tg1 I1 R1 c1 s1, yX n tg I R n1 tg1 I1 R1 → c1 ≤ c + 0 → s1 ≤ s + 0 → yW xm_X14_digest xc_X14_digest_320 [some (.ref 83), some (.long (dN x0 (yDW C) (C 69 0).toInt.toNat)), none, none, none, none] [] (n1, tg1, I1, R1) c1 s1 Q) : ∀ (m : Nat) (x1 : Int64) (x3 : Int32) (n1 : Nat) (tg1 : Nat → yT) (I1 : Nat → Nat → Int32) (R1 : Nat → Nat → Value) (c1 s1 : Nat), yX n tg I R n1 tg1 I1 R1 → (0 ≤ x3.toInt) → (x3.toInt ≤ (C 69 0).toInt) → (x1 = dN x0 (yDW C) x3.toInt.toNat) → (C 69 0).toInt - x3.toInt < m → (c1 : Int) ≤ c + 0 * (x3.toInt) → (s1 : Int) ≤ s + 0 * (x3.toInt) → yW xm_X14_digest xc_X14_digest_225 [some (.ref 83), some (.long x1), none, some (.int x3), none, none] [] (n1, tg1, I1, R1) c1 s1 Q := by
  intro m
  induction m with
  | zero =>
    intro x1 x3 n1 tg1 I1 R1 c1 s1 hX i0 i1 i2 hm hcc hss
    have hN := hR0.1
    exfalso; omega
  | succ m ih =>
    intro x1 x3 n1 tg1 I1 R1 c1 s1 hX i0 i1 i2 hm hcc hss
    have hS := hS0.x hX
    have hR := hR0.x hn hX
    have h94 : 94 ≤ n := hS0.1
    have hz := hX.sz h94
    have hxn := hX.1
    have hN := hR0.1
    have hnb : 94 ≤ nb := hR0.2.2.2.2.2.2
    have hE0 := (hE _ _ _ _ yX.rf).1
    have hE1 := (hE _ _ _ _ hX).1
    refine y_iload_n rfl rfl ?_
    refine y_aload_n rfl rfl ?_
    refine y_getR rfl (ySh.t hS rfl) (ySh.n hS rfl) rfl rfl (ySh.r hS rfl) ?_
    refine y_virt rfl rfl rfl rfl rfl (ySh.t hS rfl) (ySh.n hS rfl) ?_
    refine y_in (M := xm_Jx4a65c_size_8abf5) (ls := [some _]) rfl rfl rfl ?_
    refine y_aload_n rfl rfl ?_
    refine y_getI rfl (ySh.t hS rfl) (ySh.n hS rfl) rfl rfl ?_
    refine y_ireturn rfl rfl rfl ?_
    refine y_ret1 ?_
    refine y_icmp_ge rfl j_X14_digest_320 (fun h_1 => ?_) (fun h_2 => ?_)
    · refine y_fgt (ls := [some _, some _, none, none, none, none]) ⟨rfl, rfl, trivial⟩ ?_
      have e_ : x1 = (dN x0 (yDW C) (C 69 0).toInt.toNat) := i2.trans (by rw [show x3.toInt.toNat = (C 69 0).toInt.toNat by omega]; first | done | rfl)
      subst e_
      exact hx _ _ _ _ _ _ hX (by omega) (by omega)
    · refine y_iconst rfl ?_
      refine y_istore (ls' := [some _, some _, _, some _, some _, _]) rfl rfl rfl ?_
      refine lb_s_dig239 hS hR (Nat.le_trans hn hX.1) (fun n1 tg1 I1 R1 hX1 => hE n1 tg1 I1 R1 (hX.trans hX1)) hC (by omega) (by omega) (fun n3 tg3 I3 R3 c_3 s_3 hX1 hc_3 hs_3 => ?_) _ _ (by decide) (by rw [yz_0]; omega) (dN_z (by decide)) (by rw [yz_0]; omega) (by decide)
      have hnA := hX1.1
      have hX := hX.trans hX1
      have hS := hS0.x hX
      have hR := hR0.x hn hX
      have hz := hX.sz h94
      have hxn := hX.1
      refine y_iconst rfl ?_
      refine y_istore (ls' := [some _, some _, _, some _, some _, _]) rfl rfl rfl ?_
      refine lb_s_dig287 hS hR (Nat.le_trans hn hX.1) (fun n1 tg1 I1 R1 hX1 => hE n1 tg1 I1 R1 (hX.trans hX1)) hC (by omega) (by omega) (fun n4 tg4 I4 R4 c_4 s_4 hX1 hc_4 hs_4 => ?_) _ _ (by decide) (by decide) (dF_z (by decide)) (by decide) (by decide)
      have hnA := hX1.1
      have hX := hX.trans hX1
      have hS := hS0.x hX
      have hR := hR0.x hn hX
      have hz := hX.sz h94
      have hxn := hX.1
      refine y_iinc (ls' := [some _, some _, _, some _, _, _]) rfl rfl rfl rfl ?_
      refine y_goto rfl j_X14_digest_225 ?_
      exact ih _ _ _ _ _ _ _ _ hX (by first | omega | (rw [yinc (by omega)]; omega)) (by first | omega | (rw [yinc (by omega)]; omega)) (dN_nx (by omega) (by assumption) rfl) (by first | omega | (rw [yinc (by omega)]; omega)) (by first | omega | (rw [yinc (by omega)]; omega)) (by first | omega | (rw [yinc (by omega)]; omega))
theorem lb_s_dig225 (hS0 : ySh n tg R) (hR0 : yRI K nb tg I R) (hn : nb ≤ n) (hE : ∀ n1 tg1 I1 R1, yX n tg I R n1 tg1 I1 R1 → yTd C I1 R1) (hC : yCI C) {x0 : Int64} (hx : ∀ n1 tg1 I1 R1 c1 s1, yX n tg I R n1 tg1 I1 R1 → c1 ≤ c + 0 → s1 ≤ s + 0 → yW xm_X14_digest xc_X14_digest_320 [some (.ref 83), some (.long (dN x0 (yDW C) (C 69 0).toInt.toNat)), none, none, none, none] [] (n1, tg1, I1, R1) c1 s1 Q) : ∀ (x1 : Int64) (x3 : Int32), (0 ≤ x3.toInt) → (x3.toInt ≤ (C 69 0).toInt) → (x1 = dN x0 (yDW C) x3.toInt.toNat) → (C 69 0).toInt - x3.toInt < (100000 : Nat) → (x3.toInt) = 0 → yW xm_X14_digest xc_X14_digest_225 [some (.ref 83), some (.long x1), none, some (.int x3), none, none] [] (n, tg, I, R) c s Q := by
  intro x1 x3 i0 i1 i2 hm h0
  exact la_s_dig225 hS0 hR0 hn hE hC  hx 100000 _ _ _ _ _ _ _ _ yX.rf i0 i1 i2 hm (by rw [h0]; omega) (by rw [h0]; omega)
theorem la_s_dig336 (hS0 : ySh n tg R) (hR0 : yRI K nb tg I R) (hn : nb ≤ n) (hE : ∀ n1 tg1 I1 R1, yX n tg I R n1 tg1 I1 R1 → yTd C I1 R1) (hC : yCI C) {x3 : Int32} {x0 : Int64} (h30 : 0 ≤ x3.toInt) (h31 : x3.toInt < (C 77 0).toInt) (hx : ∀ n1 tg1 I1 R1 c1 s1, yX n tg I R n1 tg1 I1 R1 → c1 ≤ c + 3 → s1 ≤ s + 15 → yW xm_X14_digest xc_X14_digest_361 [some (.ref 83), some (.long (yDF C x3.toInt.toNat x0)), none, some (.int x3), none, none] [] (n1, tg1, I1, R1) c1 s1 Q) : ∀ (m : Nat) (x1 : Int64) (x4 : Int32) (n1 : Nat) (tg1 : Nat → yT) (I1 : Nat → Nat → Int32) (R1 : Nat → Nat → Value) (c1 s1 : Nat), yX n tg I R n1 tg1 I1 R1 → (0 ≤ x4.toInt) → (x4.toInt ≤ 3) → (x1 = dF x0 (fun w => (Int32.ofInt (yOF (((C 77 1 >>> (Int32.ofInt (x3.toInt.toNat : Int) &&& 31)) &&& Int32.ofInt 1).toInt = 1) (((C 77 2 >>> (Int32.ofInt (x3.toInt.toNat : Int) &&& 31)) &&& Int32.ofInt 1).toInt = 1) (C 80 x3.toInt.toNat) (C 81 (Int32.ofInt 1 <<< (Int32.ofInt (x3.toInt.toNat : Int) &&& 31)).toInt.toNat) (C 82 (Int32.ofInt 1 <<< (Int32.ofInt (x3.toInt.toNat : Int) &&& 31)).toInt.toNat) (w : Int))).toInt64) (x4.toInt - 0).toNat) → 3 - x4.toInt < m → (c1 : Int) ≤ c + 1 * (x4.toInt - 0) → (s1 : Int) ≤ s + 5 * (x4.toInt - 0) → yW xm_X14_digest xc_X14_digest_336 [some (.ref 83), some (.long x1), none, some (.int x3), some (.int x4), none] [] (n1, tg1, I1, R1) c1 s1 Q := by
  intro m
  induction m with
  | zero =>
    intro x1 x4 n1 tg1 I1 R1 c1 s1 hX i0 i1 i2 hm hcc hss
    have hN := hR0.1
    exfalso; omega
  | succ m ih =>
    intro x1 x4 n1 tg1 I1 R1 c1 s1 hX i0 i1 i2 hm hcc hss
    have hS := hS0.x hX
    have hR := hR0.x hn hX
    have h94 : 94 ≤ n := hS0.1
    have hz := hX.sz h94
    have hxn := hX.1
    have hN := hR0.1
    have hnb : 94 ≤ nb := hR0.2.2.2.2.2.2
    have hE0 := (hE _ _ _ _ yX.rf).1
    have hE1 := (hE _ _ _ _ hX).1
    refine y_iload rfl rfl ?_
    refine y_iconst rfl ?_
    refine y_icmp_ge rfl j_X14_digest_361 (fun h_1 => ?_) (fun h_2 => ?_)
    · rw [yz_3] at h_1
      refine y_fgt (ls := [some _, some _, none, some _, none, none]) ⟨rfl, rfl, rfl, trivial⟩ ?_
      have e_ : x1 = (yDF C x3.toInt.toNat x0) := i2.trans (by rw [show (x4.toInt - 0).toNat = 3 by omega]; first | done | rfl)
      subst e_
      exact hx _ _ _ _ _ _ hX (by omega) (by omega)
    · rw [yz_3] at h_2
      refine y_lload_n rfl rfl ?_
      refine y_aload_n rfl rfl ?_
      refine y_iload_n rfl rfl ?_
      refine y_iload rfl rfl ?_
      refine y_virt rfl rfl rfl rfl rfl (ySh.t hS rfl) (ySh.n hS rfl) ?_
      have hE_3 := hE _ _ _ _ hX
      obtain ⟨⟨q83, q88, q89, q90, q91, q92⟩, eH_, ⟨eM_, eP_⟩, eT_, eS_, eL_, eV_, eF_, eA_, eB_, eW_⟩ := hE_3
      refine s_firmTold hS hR (Nat.le_trans hn hX.1) (by omega) (by omega) (by omega) (by omega) (fun b_4 eb_4 hlo_4 hb0_4 v_4 n4 tg4 I4 R4 c_4 s_4 hv_4 hX1 hc_4 hs_4 => ?_)
      have hw_ := hv_4.trans (eF_ _ (by omega) (by omega) _ eb_4 _ (by omega) (by omega))
      clear eH_ eM_ eP_ eT_ eS_ eL_ eV_ eF_ eA_ eB_ eW_
      have hnA := hX1.1
      have hX := hX.trans hX1
      have hS := hS0.x hX
      have hR := hR0.x hn hX
      have hz := hX.sz h94
      have hxn := hX.1
      refine y_ret1 ?_
      refine y_i2l rfl ?_
      refine y_static rfl rfl rfl rfl rfl ?_
      refine y_in (M := xm_X14_add) (ls := [some _, _, some _, _]) rfl rfl rfl ?_
      refine y_lload_n rfl rfl ?_
      refine y_ldc2 rfl ?_
      refine y_lmul rfl ?_
      refine y_lload_n rfl rfl ?_
      refine y_ladd rfl ?_
      refine y_lreturn rfl ?_
      refine y_ret1 ?_
      refine y_lstore_n (ls' := [some _, some _, _, some _, some _, _]) rfl rfl rfl ?_
      refine y_iinc (ls' := [some _, some _, _, some _, some _, _]) rfl rfl rfl rfl ?_
      refine y_goto rfl j_X14_digest_336 ?_
      exact ih _ _ _ _ _ _ _ _ hX (by first | omega | (rw [yinc (by omega)]; omega)) (by first | omega | (rw [yinc (by omega)]; omega)) (dF_nx (by omega) (by assumption) (by rw [dV hw_, xofn h30]; exact congrArg (fun z => (Int32.ofInt (yOF (((C 77 1 >>> (x3 &&& 31)) &&& Int32.ofInt 1).toInt = 1) (((C 77 2 >>> (x3 &&& 31)) &&& Int32.ofInt 1).toInt = 1) (C 80 x3.toInt.toNat) (C 81 (Int32.ofInt 1 <<< (x3 &&& 31)).toInt.toNat) (C 82 (Int32.ofInt 1 <<< (x3 &&& 31)).toInt.toNat) z)).toInt64) (by omega))) (by first | omega | (rw [yinc (by omega)]; omega)) (by first | omega | (rw [yinc (by omega)]; omega)) (by first | omega | (rw [yinc (by omega)]; omega))
theorem lb_s_dig336 (hS0 : ySh n tg R) (hR0 : yRI K nb tg I R) (hn : nb ≤ n) (hE : ∀ n1 tg1 I1 R1, yX n tg I R n1 tg1 I1 R1 → yTd C I1 R1) (hC : yCI C) {x3 : Int32} {x0 : Int64} (h30 : 0 ≤ x3.toInt) (h31 : x3.toInt < (C 77 0).toInt) (hx : ∀ n1 tg1 I1 R1 c1 s1, yX n tg I R n1 tg1 I1 R1 → c1 ≤ c + 3 → s1 ≤ s + 15 → yW xm_X14_digest xc_X14_digest_361 [some (.ref 83), some (.long (yDF C x3.toInt.toNat x0)), none, some (.int x3), none, none] [] (n1, tg1, I1, R1) c1 s1 Q) : ∀ (x1 : Int64) (x4 : Int32), (0 ≤ x4.toInt) → (x4.toInt ≤ 3) → (x1 = dF x0 (fun w => (Int32.ofInt (yOF (((C 77 1 >>> (Int32.ofInt (x3.toInt.toNat : Int) &&& 31)) &&& Int32.ofInt 1).toInt = 1) (((C 77 2 >>> (Int32.ofInt (x3.toInt.toNat : Int) &&& 31)) &&& Int32.ofInt 1).toInt = 1) (C 80 x3.toInt.toNat) (C 81 (Int32.ofInt 1 <<< (Int32.ofInt (x3.toInt.toNat : Int) &&& 31)).toInt.toNat) (C 82 (Int32.ofInt 1 <<< (Int32.ofInt (x3.toInt.toNat : Int) &&& 31)).toInt.toNat) (w : Int))).toInt64) (x4.toInt - 0).toNat) → 3 - x4.toInt < (100000 : Nat) → (x4.toInt - 0) = 0 → yW xm_X14_digest xc_X14_digest_336 [some (.ref 83), some (.long x1), none, some (.int x3), some (.int x4), none] [] (n, tg, I, R) c s Q := by
  intro x1 x4 i0 i1 i2 hm h0
  exact la_s_dig336 hS0 hR0 hn hE hC h30 h31 hx 100000 _ _ _ _ _ _ _ _ yX.rf i0 i1 i2 hm (by rw [h0]; omega) (by rw [h0]; omega)
theorem la_s_dig322 (hS0 : ySh n tg R) (hR0 : yRI K nb tg I R) (hn : nb ≤ n) (hE : ∀ n1 tg1 I1 R1, yX n tg I R n1 tg1 I1 R1 → yTd C I1 R1) (hC : yCI C) {x0 : Int64} (hx : ∀ n1 tg1 I1 R1 c1 s1, yX n tg I R n1 tg1 I1 R1 → c1 ≤ c + 30 → s1 ≤ s + 150 → yW xm_X14_digest xc_X14_digest_367 [some (.ref 83), some (.long (dN x0 (yDF C) (C 77 0).toInt.toNat)), none, none, none, none] [] (n1, tg1, I1, R1) c1 s1 Q) : ∀ (m : Nat) (x1 : Int64) (x3 : Int32) (n1 : Nat) (tg1 : Nat → yT) (I1 : Nat → Nat → Int32) (R1 : Nat → Nat → Value) (c1 s1 : Nat), yX n tg I R n1 tg1 I1 R1 → (0 ≤ x3.toInt) → (x3.toInt ≤ (C 77 0).toInt) → (x1 = dN x0 (yDF C) x3.toInt.toNat) → (C 77 0).toInt - x3.toInt < m → (c1 : Int) ≤ c + 3 * (x3.toInt) → (s1 : Int) ≤ s + 15 * (x3.toInt) → yW xm_X14_digest xc_X14_digest_322 [some (.ref 83), some (.long x1), none, some (.int x3), none, none] [] (n1, tg1, I1, R1) c1 s1 Q := by
  intro m
  induction m with
  | zero =>
    intro x1 x3 n1 tg1 I1 R1 c1 s1 hX i0 i1 i2 hm hcc hss
    have hN := hR0.1
    exfalso; omega
  | succ m ih =>
    intro x1 x3 n1 tg1 I1 R1 c1 s1 hX i0 i1 i2 hm hcc hss
    have hS := hS0.x hX
    have hR := hR0.x hn hX
    have h94 : 94 ≤ n := hS0.1
    have hz := hX.sz h94
    have hxn := hX.1
    have hN := hR0.1
    have hnb : 94 ≤ nb := hR0.2.2.2.2.2.2
    have hE0 := (hE _ _ _ _ yX.rf).1
    have hE1 := (hE _ _ _ _ hX).1
    refine y_iload_n rfl rfl ?_
    refine y_aload_n rfl rfl ?_
    refine y_getR rfl (ySh.t hS rfl) (ySh.n hS rfl) rfl rfl (ySh.r hS rfl) ?_
    refine y_virt rfl rfl rfl rfl rfl (ySh.t hS rfl) (ySh.n hS rfl) ?_
    refine y_in (M := xm_Jx4a65c_size_8abf5) (ls := [some _]) rfl rfl rfl ?_
    refine y_aload_n rfl rfl ?_
    refine y_getI rfl (ySh.t hS rfl) (ySh.n hS rfl) rfl rfl ?_
    refine y_ireturn rfl rfl rfl ?_
    refine y_ret1 ?_
    refine y_icmp_ge rfl j_X14_digest_367 (fun h_1 => ?_) (fun h_2 => ?_)
    · refine y_fgt (ls := [some _, some _, none, none, none, none]) ⟨rfl, rfl, trivial⟩ ?_
      have e_ : x1 = (dN x0 (yDF C) (C 77 0).toInt.toNat) := i2.trans (by rw [show x3.toInt.toNat = (C 77 0).toInt.toNat by omega]; first | done | rfl)
      subst e_
      exact hx _ _ _ _ _ _ hX (by omega) (by omega)
    · refine y_iconst rfl ?_
      refine y_istore (ls' := [some _, some _, _, some _, some _, _]) rfl rfl rfl ?_
      refine lb_s_dig336 hS hR (Nat.le_trans hn hX.1) (fun n1 tg1 I1 R1 hX1 => hE n1 tg1 I1 R1 (hX.trans hX1)) hC (by omega) (by omega) (fun n3 tg3 I3 R3 c_3 s_3 hX1 hc_3 hs_3 => ?_) _ _ (by decide) (by decide) (dF_z (by decide)) (by decide) (by decide)
      have hnA := hX1.1
      have hX := hX.trans hX1
      have hS := hS0.x hX
      have hR := hR0.x hn hX
      have hz := hX.sz h94
      have hxn := hX.1
      refine y_iinc (ls' := [some _, some _, _, some _, _, _]) rfl rfl rfl rfl ?_
      refine y_goto rfl j_X14_digest_322 ?_
      exact ih _ _ _ _ _ _ _ _ hX (by first | omega | (rw [yinc (by omega)]; omega)) (by first | omega | (rw [yinc (by omega)]; omega)) (dN_nx (by omega) (by assumption) rfl) (by first | omega | (rw [yinc (by omega)]; omega)) (by first | omega | (rw [yinc (by omega)]; omega)) (by first | omega | (rw [yinc (by omega)]; omega))
theorem lb_s_dig322 (hS0 : ySh n tg R) (hR0 : yRI K nb tg I R) (hn : nb ≤ n) (hE : ∀ n1 tg1 I1 R1, yX n tg I R n1 tg1 I1 R1 → yTd C I1 R1) (hC : yCI C) {x0 : Int64} (hx : ∀ n1 tg1 I1 R1 c1 s1, yX n tg I R n1 tg1 I1 R1 → c1 ≤ c + 30 → s1 ≤ s + 150 → yW xm_X14_digest xc_X14_digest_367 [some (.ref 83), some (.long (dN x0 (yDF C) (C 77 0).toInt.toNat)), none, none, none, none] [] (n1, tg1, I1, R1) c1 s1 Q) : ∀ (x1 : Int64) (x3 : Int32), (0 ≤ x3.toInt) → (x3.toInt ≤ (C 77 0).toInt) → (x1 = dN x0 (yDF C) x3.toInt.toNat) → (C 77 0).toInt - x3.toInt < (100000 : Nat) → (x3.toInt) = 0 → yW xm_X14_digest xc_X14_digest_322 [some (.ref 83), some (.long x1), none, some (.int x3), none, none] [] (n, tg, I, R) c s Q := by
  intro x1 x3 i0 i1 i2 hm h0
  exact la_s_dig322 hS0 hR0 hn hE hC  hx 100000 _ _ _ _ _ _ _ _ yX.rf i0 i1 i2 hm (by rw [h0]; omega) (by rw [h0]; omega)
theorem la_s_dig369 (hS0 : ySh n tg R) (hR0 : yRI K nb tg I R) (hn : nb ≤ n) (hE : ∀ n1 tg1 I1 R1, yX n tg I R n1 tg1 I1 R1 → yTd C I1 R1) (hC : yCI C) {x0 : Int64} (hx : ∀ n1 tg1 I1 R1 c1 s1, yX n tg I R n1 tg1 I1 R1 → c1 ≤ c + 10 → s1 ≤ s + 45 → yW xm_X14_digest xc_X14_digest_398 [some (.ref 83), some (.long (dF x0 (yDQ C) 5)), none, none, none, none] [] (n1, tg1, I1, R1) c1 s1 Q) : ∀ (m : Nat) (x1 : Int64) (x3 : Int32) (n1 : Nat) (tg1 : Nat → yT) (I1 : Nat → Nat → Int32) (R1 : Nat → Nat → Value) (c1 s1 : Nat), yX n tg I R n1 tg1 I1 R1 → (0 ≤ x3.toInt) → (x3.toInt ≤ 5) → (x1 = dF x0 (yDQ C) (x3.toInt - 0).toNat) → 5 - x3.toInt < m → (c1 : Int) ≤ c + 2 * (x3.toInt) → (s1 : Int) ≤ s + 9 * (x3.toInt) → yW xm_X14_digest xc_X14_digest_369 [some (.ref 83), some (.long x1), none, some (.int x3), none, none] [] (n1, tg1, I1, R1) c1 s1 Q := by
  intro m
  induction m with
  | zero =>
    intro x1 x3 n1 tg1 I1 R1 c1 s1 hX i0 i1 i2 hm hcc hss
    have hN := hR0.1
    exfalso; omega
  | succ m ih =>
    intro x1 x3 n1 tg1 I1 R1 c1 s1 hX i0 i1 i2 hm hcc hss
    have hS := hS0.x hX
    have hR := hR0.x hn hX
    have h94 : 94 ≤ n := hS0.1
    have hz := hX.sz h94
    have hxn := hX.1
    have hN := hR0.1
    have hnb : 94 ≤ nb := hR0.2.2.2.2.2.2
    have hE0 := (hE _ _ _ _ yX.rf).1
    have hE1 := (hE _ _ _ _ hX).1
    refine y_iload_n rfl rfl ?_
    refine y_iconst rfl ?_
    refine y_icmp_ge rfl j_X14_digest_398 (fun h_1 => ?_) (fun h_2 => ?_)
    · rw [yz_5] at h_1
      refine y_fgt (ls := [some _, some _, none, none, none, none]) ⟨rfl, rfl, trivial⟩ ?_
      have e_ : x1 = (dF x0 (yDQ C) 5) := i2.trans (by rw [show (x3.toInt - 0).toNat = 5 by omega]; first | done | rfl)
      subst e_
      exact hx _ _ _ _ _ _ hX (by omega) (by omega)
    · rw [yz_5] at h_2
      refine y_lload_n rfl rfl ?_
      refine y_aload_n rfl rfl ?_
      refine y_iload_n rfl rfl ?_
      refine y_aload_n rfl rfl ?_
      refine y_getI rfl (ySh.t hS rfl) (ySh.n hS rfl) rfl rfl ?_
      refine y_virt rfl rfl rfl rfl rfl (ySh.t hS rfl) (ySh.n hS rfl) ?_
      obtain ⟨⟨q83, q88, q89, q90, q91, q92⟩, eH_, ⟨eM_, eP_⟩, eT_, eS_, eL_, eV_, eF_, eA_, eB_, eW_⟩ := hE _ _ _ _ hX
      refine s_isAllowed hS hR (Nat.le_trans hn hX.1) (by first | exact Int.le_refl _ | omega) (fun ha_ n4 tg4 I4 R4 c_4 s_4 hX1 hc_4 hs_4 => ?_) (fun ha_ n4 tg4 I4 R4 c_4 s_4 hX1 hc_4 hs_4 => ?_)
      · have hw_ := (eA_ _ (by omega) (by omega)).1 ha_
        clear eH_ eM_ eP_ eT_ eS_ eL_ eV_ eF_ eA_ eB_ eW_
        have hnA := hX1.1
        have hX := hX.trans hX1
        have hS := hS0.x hX
        have hR := hR0.x hn hX
        have hz := hX.sz h94
        have hxn := hX.1
        refine y_ret1 ?_
        refine y_static rfl rfl rfl rfl rfl ?_
        refine r_oneE (fun v_5 hv_5 => ?_)
        obtain rfl : v_5 = Int32.ofInt 1 := yext (hv_5.trans (by decide))
        refine y_ret1 ?_
        refine y_i2l rfl ?_
        refine y_static rfl rfl rfl rfl rfl ?_
        refine y_in (M := xm_X14_add) (ls := [some _, _, some _, _]) rfl rfl rfl ?_
        refine y_lload_n rfl rfl ?_
        refine y_ldc2 rfl ?_
        refine y_lmul rfl ?_
        refine y_lload_n rfl rfl ?_
        refine y_ladd rfl ?_
        refine y_lreturn rfl ?_
        refine y_ret1 ?_
        refine y_lstore_n (ls' := [some _, some _, _, some _, _, _]) rfl rfl rfl ?_
        refine y_iinc (ls' := [some _, some _, _, some _, _, _]) rfl rfl rfl rfl ?_
        refine y_goto rfl j_X14_digest_369 ?_
        exact ih _ _ _ _ _ _ _ _ hX (by first | omega | (rw [yinc (by omega)]; omega)) (by first | omega | (rw [yinc (by omega)]; omega)) (dF_nx (by omega) (by assumption) (by rw [show (x3.toInt - 0).toNat = x3.toInt.toNat by omega]; unfold yDQ; first | exact congrArg Int32.toInt64 (if_pos (by omega)).symm | exact congrArg Int32.toInt64 (if_neg (by omega)).symm)) (by first | omega | (rw [yinc (by omega)]; omega)) (by first | omega | (rw [yinc (by omega)]; omega)) (by first | omega | (rw [yinc (by omega)]; omega))
      · have hw_ := fun h_ => ha_ ((eA_ _ (by omega) (by omega)).2 h_)
        clear eH_ eM_ eP_ eT_ eS_ eL_ eV_ eF_ eA_ eB_ eW_
        have hnA := hX1.1
        have hX := hX.trans hX1
        have hS := hS0.x hX
        have hR := hR0.x hn hX
        have hz := hX.sz h94
        have hxn := hX.1
        refine y_ret1 ?_
        refine y_static rfl rfl rfl rfl rfl ?_
        refine r_oneE (fun v_6 hv_6 => ?_)
        obtain rfl : v_6 = Int32.ofInt 0 := yext (hv_6.trans (by decide))
        refine y_ret1 ?_
        refine y_i2l rfl ?_
        refine y_static rfl rfl rfl rfl rfl ?_
        refine y_in (M := xm_X14_add) (ls := [some _, _, some _, _]) rfl rfl rfl ?_
        refine y_lload_n rfl rfl ?_
        refine y_ldc2 rfl ?_
        refine y_lmul rfl ?_
        refine y_lload_n rfl rfl ?_
        refine y_ladd rfl ?_
        refine y_lreturn rfl ?_
        refine y_ret1 ?_
        refine y_lstore_n (ls' := [some _, some _, _, some _, _, _]) rfl rfl rfl ?_
        refine y_iinc (ls' := [some _, some _, _, some _, _, _]) rfl rfl rfl rfl ?_
        refine y_goto rfl j_X14_digest_369 ?_
        exact ih _ _ _ _ _ _ _ _ hX (by first | omega | (rw [yinc (by omega)]; omega)) (by first | omega | (rw [yinc (by omega)]; omega)) (dF_nx (by omega) (by assumption) (by rw [show (x3.toInt - 0).toNat = x3.toInt.toNat by omega]; unfold yDQ; first | exact congrArg Int32.toInt64 (if_pos (by omega)).symm | exact congrArg Int32.toInt64 (if_neg (by omega)).symm)) (by first | omega | (rw [yinc (by omega)]; omega)) (by first | omega | (rw [yinc (by omega)]; omega)) (by first | omega | (rw [yinc (by omega)]; omega))
theorem lb_s_dig369 (hS0 : ySh n tg R) (hR0 : yRI K nb tg I R) (hn : nb ≤ n) (hE : ∀ n1 tg1 I1 R1, yX n tg I R n1 tg1 I1 R1 → yTd C I1 R1) (hC : yCI C) {x0 : Int64} (hx : ∀ n1 tg1 I1 R1 c1 s1, yX n tg I R n1 tg1 I1 R1 → c1 ≤ c + 10 → s1 ≤ s + 45 → yW xm_X14_digest xc_X14_digest_398 [some (.ref 83), some (.long (dF x0 (yDQ C) 5)), none, none, none, none] [] (n1, tg1, I1, R1) c1 s1 Q) : ∀ (x1 : Int64) (x3 : Int32), (0 ≤ x3.toInt) → (x3.toInt ≤ 5) → (x1 = dF x0 (yDQ C) (x3.toInt - 0).toNat) → 5 - x3.toInt < (100000 : Nat) → (x3.toInt) = 0 → yW xm_X14_digest xc_X14_digest_369 [some (.ref 83), some (.long x1), none, some (.int x3), none, none] [] (n, tg, I, R) c s Q := by
  intro x1 x3 i0 i1 i2 hm h0
  exact la_s_dig369 hS0 hR0 hn hE hC  hx 100000 _ _ _ _ _ _ _ _ yX.rf i0 i1 i2 hm (by rw [h0]; omega) (by rw [h0]; omega)
theorem s_digest9 (hS0 : ySh n tg R) (hR0 : yRI K nb tg I R) (hn : nb ≤ n) (hE : ∀ n1 tg1 I1 R1, yX n tg I R n1 tg1 I1 R1 → yTd C I1 R1) (hC : yCI C) (hQ1 : ySnd C → ∀ (v : Int64) n1 tg1 I1 R1 c1 s1, v = dAdd (yDgt C) (Int32.ofInt 1).toInt64 → yX n tg I R n1 tg1 I1 R1 → c1 ≤ c + 651 → s1 ≤ s + 4015 → Q (.inl (some (.long v))) (n1, tg1, I1, R1) c1 s1) (hQ0 : ¬ ySnd C → ∀ (v : Int64) n1 tg1 I1 R1 c1 s1, v = dAdd (yDgt C) (Int32.ofInt 0).toInt64 → yX n tg I R n1 tg1 I1 R1 → c1 ≤ c + 651 → s1 ≤ s + 4015 → Q (.inl (some (.long v))) (n1, tg1, I1, R1) c1 s1) : yW xm_X14_digest xc_X14_digest_5 [some (.ref 83), none, none, none, none, none] [] (n, tg, I, R) c s Q := by
  have hX : yX n tg I R n tg I R := yX.rf
  have hS := hS0
  have hR := hR0
  have h94 : 94 ≤ n := hS0.1
  have hz : ySz I I := hX.sz h94
  have hxn := hX.1
  have hN := hR0.1
  have hnb : 94 ≤ nb := hR0.2.2.2.2.2.2
  refine y_ldc2 rfl ?_
  refine y_lstore_n (ls' := [some _, some _, _, _, _, _]) rfl rfl rfl ?_
  refine y_iconst rfl ?_
  refine y_istore_n (ls' := [some _, some _, _, some _, _, _]) rfl rfl rfl ?_
  refine lb_s_dig11 hS hR (Nat.le_trans hn hX.1) (fun n1 tg1 I1 R1 hX1 => hE n1 tg1 I1 R1 (hX.trans hX1)) hC (fun n1 tg1 I1 R1 c_1 s_1 hX1 hc_1 hs_1 => ?_) _ _ (by decide) (by decide) (dF_z (by decide)) (by decide) (by decide)
  have hnA := hX1.1
  have hX := hX.trans hX1
  have hS := hS0.x hX
  have hR := hR0.x hn hX
  have hz := hX.sz h94
  have hxn := hX.1
  refine y_iconst rfl ?_
  refine y_istore_n (ls' := [some _, some _, _, some _, _, _]) rfl rfl rfl ?_
  refine lb_s_dig36 hS hR (Nat.le_trans hn hX.1) (fun n1 tg1 I1 R1 hX1 => hE n1 tg1 I1 R1 (hX.trans hX1)) hC (fun n2 tg2 I2 R2 c_2 s_2 hX1 hc_2 hs_2 => ?_) _ _ (by decide) (by rw [yz_0]; omega) (dN_z (by decide)) (by rw [yz_0]; omega) (by decide)
  have hnA := hX1.1
  have hX := hX.trans hX1
  have hS := hS0.x hX
  have hR := hR0.x hn hX
  have hz := hX.sz h94
  have hxn := hX.1
  refine y_iconst rfl ?_
  refine y_istore_n (ls' := [some _, some _, _, some _, _, _]) rfl rfl rfl ?_
  refine lb_s_dig81 hS hR (Nat.le_trans hn hX.1) (fun n1 tg1 I1 R1 hX1 => hE n1 tg1 I1 R1 (hX.trans hX1)) hC (fun n3 tg3 I3 R3 c_3 s_3 hX1 hc_3 hs_3 => ?_) _ _ (by decide) (by rw [yz_0]; omega) (dN_z (by decide)) (by rw [yz_0]; omega) (by decide)
  have hnA := hX1.1
  have hX := hX.trans hX1
  have hS := hS0.x hX
  have hR := hR0.x hn hX
  have hz := hX.sz h94
  have hxn := hX.1
  refine y_iconst rfl ?_
  refine y_istore_n (ls' := [some _, some _, _, some _, _, _]) rfl rfl rfl ?_
  refine lb_s_dig129 hS hR (Nat.le_trans hn hX.1) (fun n1 tg1 I1 R1 hX1 => hE n1 tg1 I1 R1 (hX.trans hX1)) hC (fun n4 tg4 I4 R4 c_4 s_4 hX1 hc_4 hs_4 => ?_) _ _ (by decide) (by rw [yz_0]; omega) (dN_z (by decide)) (by rw [yz_0]; omega) (by decide)
  have hnA := hX1.1
  have hX := hX.trans hX1
  have hS := hS0.x hX
  have hR := hR0.x hn hX
  have hz := hX.sz h94
  have hxn := hX.1
  refine y_iconst rfl ?_
  refine y_istore_n (ls' := [some _, some _, _, some _, _, _]) rfl rfl rfl ?_
  refine lb_s_dig177 hS hR (Nat.le_trans hn hX.1) (fun n1 tg1 I1 R1 hX1 => hE n1 tg1 I1 R1 (hX.trans hX1)) hC (fun n5 tg5 I5 R5 c_5 s_5 hX1 hc_5 hs_5 => ?_) _ _ (by decide) (by rw [yz_0]; omega) (dN_z (by decide)) (by rw [yz_0]; omega) (by decide)
  have hnA := hX1.1
  have hX := hX.trans hX1
  have hS := hS0.x hX
  have hR := hR0.x hn hX
  have hz := hX.sz h94
  have hxn := hX.1
  refine y_iconst rfl ?_
  refine y_istore_n (ls' := [some _, some _, _, some _, _, _]) rfl rfl rfl ?_
  refine lb_s_dig225 hS hR (Nat.le_trans hn hX.1) (fun n1 tg1 I1 R1 hX1 => hE n1 tg1 I1 R1 (hX.trans hX1)) hC (fun n6 tg6 I6 R6 c_6 s_6 hX1 hc_6 hs_6 => ?_) _ _ (by decide) (by rw [yz_0]; omega) (dN_z (by decide)) (by rw [yz_0]; omega) (by decide)
  have hnA := hX1.1
  have hX := hX.trans hX1
  have hS := hS0.x hX
  have hR := hR0.x hn hX
  have hz := hX.sz h94
  have hxn := hX.1
  refine y_iconst rfl ?_
  refine y_istore_n (ls' := [some _, some _, _, some _, _, _]) rfl rfl rfl ?_
  refine lb_s_dig322 hS hR (Nat.le_trans hn hX.1) (fun n1 tg1 I1 R1 hX1 => hE n1 tg1 I1 R1 (hX.trans hX1)) hC (fun n7 tg7 I7 R7 c_7 s_7 hX1 hc_7 hs_7 => ?_) _ _ (by decide) (by rw [yz_0]; omega) (dN_z (by decide)) (by rw [yz_0]; omega) (by decide)
  have hnA := hX1.1
  have hX := hX.trans hX1
  have hS := hS0.x hX
  have hR := hR0.x hn hX
  have hz := hX.sz h94
  have hxn := hX.1
  refine y_iconst rfl ?_
  refine y_istore_n (ls' := [some _, some _, _, some _, _, _]) rfl rfl rfl ?_
  refine lb_s_dig369 hS hR (Nat.le_trans hn hX.1) (fun n1 tg1 I1 R1 hX1 => hE n1 tg1 I1 R1 (hX.trans hX1)) hC (fun n8 tg8 I8 R8 c_8 s_8 hX1 hc_8 hs_8 => ?_) _ _ (by decide) (by decide) (dF_z (by decide)) (by decide) (by decide)
  have hnA := hX1.1
  have hX := hX.trans hX1
  have hS := hS0.x hX
  have hR := hR0.x hn hX
  have hz := hX.sz h94
  have hxn := hX.1
  refine y_aload_n rfl rfl ?_
  refine y_bip rfl (by decide) ?_
  refine y_virt rfl rfl rfl rfl rfl (ySh.t hS rfl) (ySh.n hS rfl) ?_
  refine r_bestSetX hS hR (Nat.le_trans hn hX.1) (fun v_b hv_b => ?_)
  have hst_ : v_b = mBv I8 R8 (Int32.ofInt 100) (Int32.ofInt 1) := hv_b.trans (if_neg (by decide)).symm
  refine y_ret1 ?_
  refine y_istore_n (ls' := [some _, some _, _, some _, _, _]) rfl rfl rfl ?_
  refine y_lload_n rfl rfl ?_
  refine y_aload_n rfl rfl ?_
  refine y_iload_n rfl rfl ?_
  refine y_iconst rfl ?_
  refine y_virt rfl rfl rfl rfl rfl (ySh.t hS rfl) (ySh.n hS rfl) ?_
  refine r_sumOfX hS hR (Nat.le_trans hn hX.1) (by decide) (by decide) (fun v_s hv_s => ?_)
  have hsm_ : v_s = mBv I8 R8 (Int32.ofInt 100) (Int32.ofInt 0) := hv_s.trans (by rw [hv_b]; exact (if_pos (by decide)).symm)
  have hEb_ := (hE _ _ _ _ hX).2.2.2.2.2.2.2.2.2.1
  have hq1_ : v_b = yBv C (Int32.ofInt 100) (Int32.ofInt 1) := hst_.trans hEb_.2
  have hq0_ : v_s = yBv C (Int32.ofInt 100) (Int32.ofInt 0) := hsm_.trans hEb_.1
  refine y_ret1 ?_
  refine y_i2l rfl ?_
  refine y_static rfl rfl rfl rfl rfl ?_
  refine y_in (M := xm_X14_add) (ls := [some _, _, some _, _]) rfl rfl rfl ?_
  refine y_lload_n rfl rfl ?_
  refine y_ldc2 rfl ?_
  refine y_lmul rfl ?_
  refine y_lload_n rfl rfl ?_
  refine y_ladd rfl ?_
  refine y_lreturn rfl ?_
  refine y_ret1 ?_
  refine y_iload_n rfl rfl ?_
  refine y_i2l rfl ?_
  refine y_static rfl rfl rfl rfl rfl ?_
  refine y_in (M := xm_X14_add) (ls := [some _, _, some _, _]) rfl rfl rfl ?_
  refine y_lload_n rfl rfl ?_
  refine y_ldc2 rfl ?_
  refine y_lmul rfl ?_
  refine y_lload_n rfl rfl ?_
  refine y_ladd rfl ?_
  refine y_lreturn rfl ?_
  refine y_ret1 ?_
  refine y_lstore_n (ls' := [some _, some _, _, some _, _, _]) rfl rfl rfl ?_
  refine y_lload_n rfl rfl ?_
  refine y_aload_n rfl rfl ?_
  refine y_virt rfl rfl rfl rfl rfl (ySh.t hS rfl) (ySh.n hS rfl) ?_
  have hEw_ := (hE _ _ _ _ hX).2.2.2.2.2.2.2.2.2.2
  refine s_isWhole9 hS hR (Nat.le_trans hn hX.1) (fun hs_ n9 tg9 I9 R9 c_9 s_9 hX1 hc_9 hs_9 => ?_) (fun hs_ n9 tg9 I9 R9 c_9 s_9 hX1 hc_9 hs_9 => ?_)
  · have hs_ := hEw_.1 hs_
    have hnA := hX1.1
    have hX := hX.trans hX1
    have hS := hS0.x hX
    have hR := hR0.x hn hX
    have hz := hX.sz h94
    have hxn := hX.1
    refine y_ret1 ?_
    refine y_static rfl rfl rfl rfl rfl ?_
    refine r_oneE (fun v_10 hv_10 => ?_)
    obtain rfl : v_10 = Int32.ofInt 1 := yext (hv_10.trans (by decide))
    refine y_ret1 ?_
    refine y_i2l rfl ?_
    refine y_static rfl rfl rfl rfl rfl ?_
    refine y_in (M := xm_X14_add) (ls := [some _, _, some _, _]) rfl rfl rfl ?_
    refine y_lload_n rfl rfl ?_
    refine y_ldc2 rfl ?_
    refine y_lmul rfl ?_
    refine y_lload_n rfl rfl ?_
    refine y_ladd rfl ?_
    refine y_lreturn rfl ?_
    refine y_ret1 ?_
    refine y_lreturn rfl ?_
    first | exact hQ1 hs_ _ _ _ _ _ _ _ (by rw [hq1_, hq0_]; unfold yDgt dAdd; rfl) hX (by omega) (by omega) | exact hQ0 hs_ _ _ _ _ _ _ _ (by rw [hq1_, hq0_]; unfold yDgt dAdd; rfl) hX (by omega) (by omega)
  · have hs_ := fun h_ => hs_ (hEw_.2 h_)
    have hnA := hX1.1
    have hX := hX.trans hX1
    have hS := hS0.x hX
    have hR := hR0.x hn hX
    have hz := hX.sz h94
    have hxn := hX.1
    refine y_ret1 ?_
    refine y_static rfl rfl rfl rfl rfl ?_
    refine r_oneE (fun v_11 hv_11 => ?_)
    obtain rfl : v_11 = Int32.ofInt 0 := yext (hv_11.trans (by decide))
    refine y_ret1 ?_
    refine y_i2l rfl ?_
    refine y_static rfl rfl rfl rfl rfl ?_
    refine y_in (M := xm_X14_add) (ls := [some _, _, some _, _]) rfl rfl rfl ?_
    refine y_lload_n rfl rfl ?_
    refine y_ldc2 rfl ?_
    refine y_lmul rfl ?_
    refine y_lload_n rfl rfl ?_
    refine y_ladd rfl ?_
    refine y_lreturn rfl ?_
    refine y_ret1 ?_
    refine y_lreturn rfl ?_
    first | exact hQ1 hs_ _ _ _ _ _ _ _ (by rw [hq1_, hq0_]; unfold yDgt dAdd; rfl) hX (by omega) (by omega) | exact hQ0 hs_ _ _ _ _ _ _ _ (by rw [hq1_, hq0_]; unfold yDgt dAdd; rfl) hX (by omega) (by omega)
end YDG9
